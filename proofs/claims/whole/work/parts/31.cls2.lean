/-- the class's own cells, without the memory's -/
abbrev xX (b : Nat → Nat) (tI tZ tA : ClassId) (q : KS) : va_W := x3 b tZ tA q ++ pl_rows b 3 6 6 tI (ks_pg q)
theorem xP_to {D : va_G} {cl : List vw_C} {b : Nat → Nat} {F S : Nat} {tI tZ tA : ClassId} {q : KS} {H : Heap} (h : va_P D cl (xW b F S tI tZ tA q) H) : va_P D cl (xX b tI tZ tA q ++ mW b F S tI tZ tA (ks_m q)) H := by rw [List.append_assoc]; exact h
theorem xD_to {A : Nat → Prop} {b : Nat → Nat} {F S : Nat} {tI tZ tA : ClassId} {q : KS} (h : va_D A (xW b F S tI tZ tA q)) : va_D A (xX b tI tZ tA q ++ mW b F S tI tZ tA (ks_m q)) := by rw [List.append_assoc]; exact h
theorem xP_of {D : va_G} {cl : List vw_C} {b : Nat → Nat} {F S : Nat} {tI tZ tA : ClassId} {q : KS} {k : KM} {H : Heap} (h : va_P D cl (xX b tI tZ tA q ++ mW b F S tI tZ tA k) H) : va_P D cl (xW b F S tI tZ tA (kv_m q k)) H := by rw [List.append_assoc] at h; exact h
theorem xD_of {A : Nat → Prop} {b : Nat → Nat} {F S : Nat} {tI tZ tA : ClassId} {q : KS} {k : KM} (h : va_D A (xX b tI tZ tA q ++ mW b F S tI tZ tA k)) : va_D A (xW b F S tI tZ tA (kv_m q k)) := by rw [List.append_assoc] at h; exact h
def k_setp (q : KS) (p g a : Int32) : KS := kv_pg q (up2 (ks_pg q) (ix p) (upd (ks_pg q (ix p)) (ix g) a))
abbrev k_at (q : KS) (p g : Int32) : Int32 := ks_pg q (ix p) (ix g)
def k_empty (q : KS) (p g : Int32) : Int32 × KS :=
  if k_at q p g = -1 then (0, k_setp q p g (-1)) else
  if (k_leave (ks_m q) (k_at q p g)).1 = 0 then (0, kv_m (k_setp q p g (-1)) (k_leave (ks_m q) (k_at q p g)).2) else (1, kv_m (k_setp q p g (-1)) (k_leave (ks_m q) (k_at q p g)).2)
def xe_ok (F S : Nat) (q : KS) (p g : Int32) : Prop := vp_in p 6 ∧ vp_in g 6 ∧ (¬ k_at q p g = -1 → lv_ok F S (ks_m q) (k_at q p g))
abbrev wr (a : Int32) : Int32 := a - a / 4 * 4
def k_loadW (F S : Nat) (q : KS) (p a : Int32) : Int32 × KS :=
  if k_at q p (a / 4) = -1 then (0, q) else (km_wd (k_touch F S (ks_m q) (k_at q p (a / 4))) (ix (k_at q p (a / 4))) (ix (wr a)), kv_m q (k_touch F S (ks_m q) (k_at q p (a / 4))))
def xl_ok (F S : Nat) (q : KS) (p a : Int32) : Prop := vp_in p 6 ∧ vp_in (a / 4) 6 ∧ vp_in (wr a) 4 ∧ (¬ k_at q p (a / 4) = -1 → to_ok F S (ks_m q) (k_at q p (a / 4)))
/-- what giveOwnSheet does to the memory behind make -/
def k_ownM (k : KM) (old a : Int32) : KM := if old = -1 then k else (k_leave (k_cpw k old a) old).2
def k_own (F S : Nat) (q : KS) (p g : Int32) : Int32 × KS :=
  ((k_make F S (ks_m q)).1, k_setp (kv_m q (k_ownM (k_make F S (ks_m q)).2 (k_at q p g) (k_make F S (ks_m q)).1)) p g (k_make F S (ks_m q)).1)
def xo_ok (F S : Nat) (q : KS) (p g : Int32) : Prop := vp_in p 6 ∧ vp_in g 6 ∧ mk_ok F S (ks_m q) ∧ ¬ (k_make F S (ks_m q)).1 = -1 ∧ (¬ k_at q p g = -1 → vp_in (k_at q p g) (F + S) ∧ vp_in (k_make F S (ks_m q)).1 (F + S) ∧ lv_ok F S (k_cpw (k_make F S (ks_m q)).2 (k_at q p g) (k_make F S (ks_m q)).1) (k_at q p g))
def k_need (q : KS) (p g : Int32) : Int32 := if k_at q p g = -1 then 1 else if km_ct (ks_m q) (ix (k_at q p g)) ≤ 1 then 0 else 1
def k_sto (F S : Nat) (q : KS) (p g : Int32) : Int32 × KS := if k_need q p g = 0 then (k_at q p g, q) else k_own F S q p g
def k_storeW (F S : Nat) (q : KS) (p a x : Int32) : KS := kv_m (k_sto F S q p (a / 4)).2 (k_write F S (ks_m (k_sto F S q p (a / 4)).2) (k_sto F S q p (a / 4)).1 (wr a) x)
def xs_ok (F S : Nat) (q : KS) (p a : Int32) : Prop := vp_in p 6 ∧ vp_in (a / 4) 6 ∧ vp_in (wr a) 4 ∧ (¬ k_at q p (a / 4) = -1 → vp_in (k_at q p (a / 4)) (F + S)) ∧ (¬ k_need q p (a / 4) = 0 → xo_ok F S q p (a / 4)) ∧ to_ok F S (ks_m (k_sto F S q p (a / 4)).2) (k_sto F S q p (a / 4)).1

set_option maxHeartbeats 4000000 in
set_option maxRecDepth 100000 in
/-- X_emptyPage -/
theorem c_X_emptyPage (l : Launch) (D : va_G) (tI tZ tA tJ : ClassId) (b : Nat → Nat) (F S sz : Nat) (q : KS) (p0 x : Int32) : ob_M l y_X_emptyPage w_X_emptyPage ({ frames := 2, cells := 0, slots := 0, locals := 42 }) (pW D tI tZ tA tJ [.ref (b 0), .int p0, .int x] (xW b F S tI tZ tA q) sz (xe_ok F S q p0 x)) (ob_qW D vcl (some (.int ((k_empty q p0 x).1))) (xW b F S tI tZ tA ((k_empty q p0 x).2)) (va_A (xW b F S tI tZ tA q) sz)) 0 0 (va_A (xW b F S tI tZ tA q) sz) := by
  refine ob_ofW (by decide +kernel) ?_
  intro p e s m args below meth c s₁ B hml htab hv
  obtain ⟨rfl, hT, ⟨hp6, hg6, hq⟩, hsz, hP, hD0⟩ := hv
  have hx := B.exec
  have hb := B.bytes
  have hr := B.returns
  have hlocks := B.notSynchronized
  have hown : s.vm.findClass R_X = some m.cls := findClass_of_methodNamed B.named
  have hl := lv_entry ([.ref (b 0), .int p0, .int x]) (n := 4) (Nat.le_of_ble_eq_true rfl)
  rw [lg_entry_eq]
  generalize (lg_sl ([.ref (b 0), .int p0, .int x]) ++ List.replicate (4 - (lg_sl ([.ref (b 0), .int p0, .int x])).length) Slot.unset).toArray = ls at hl ⊢
  have hl : lv_has ls 4 [(0, .ref (b 0)), (1, .int p0), (2, .int x)] := hl
  subst hsz
  have hD := hD0.self (sz := s.heap.size)
  generalize hAe : va_A (xW b F S tI tZ tA q) s.heap.size = A at hD ⊢
  have hA : ∀ q : Nat, s.heap.size ≤ q → A q := fun q h => by rw [← hAe]; exact Or.inr h
  have hS : va_S A s.heap s.heap [] := va_S.rf
  refine lv_aload_n hx hb d_X_emptyPage_0 rfl (lv_at hl 0 rfl) ?_
  refine va_get (D := D) (ci := 0) (v := .ref (b 2)) hx hb hT.lays ly_X hown hT.1 hP 0 rfl rfl 1 (by decide) (hT.w k_X_15) (fun _ h => h) rfl d_X_emptyPage_1 ?_
  refine lv_iload_n hx hb d_X_emptyPage_4 rfl (lv_at hl 1 rfl) ?_
  refine ob_aald hx hb hT.1 hP 2 2 rfl rfl (hp6) d_X_emptyPage_5 ?_
  refine lv_iload_n hx hb d_X_emptyPage_6 rfl (lv_at hl 2 rfl) ?_
  refine va_iald hx hb hT.1 hP (3 + ix p0) 0 (pl_get (vp_ix hp6) rfl) rfl (hg6) d_X_emptyPage_7 ?_
  refine lv_istore_n (lv' := [(3, .int ((ks_pg q (ix p0)) (ix x))), (0, .ref (b 0)), (1, .int p0), (2, .int x)]) hx hb d_X_emptyPage_8 rfl hl (by decide) rfl (fun ls hl => ?_)
  refine lv_aload_n hx hb d_X_emptyPage_9 rfl (lv_at hl 1 rfl) ?_
  refine va_get (D := D) (ci := 0) (v := .ref (b 2)) hx hb hT.lays ly_X hown hT.1 hP 0 rfl rfl 1 (by decide) (hT.w k_X_15) (fun _ h => h) rfl d_X_emptyPage_10 ?_
  refine lv_iload_n hx hb d_X_emptyPage_13 rfl (lv_at hl 2 rfl) ?_
  refine ob_aald hx hb hT.1 hP 2 2 rfl rfl (hp6) d_X_emptyPage_14 ?_
  refine lv_iload_n hx hb d_X_emptyPage_15 rfl (lv_at hl 3 rfl) ?_
  refine lv_iconst (v := -1) hx hb d_X_emptyPage_16 (by decide) ?_
  refine va_iast hx hb hT.1 hP hD hS (3 + ix p0) 0 (pl_get (vp_ix hp6) rfl) rfl (hg6) d_X_emptyPage_17 (fun H locs hP hD hS => ?_)
  rw [xW_row (vp_ix hp6)] at hP hD
  have hP : va_P D vcl (xW b F S tI tZ tA (kv_pg q (up2 (ks_pg q) (ix p0) (upd (ks_pg q (ix p0)) (ix x) (-1))))) H := hP
  have hD : va_D A (xW b F S tI tZ tA (kv_pg q (up2 (ks_pg q) (ix p0) (upd (ks_pg q (ix p0)) (ix x) (-1))))) := hD
  refine lv_iload_n hx hb d_X_emptyPage_18 rfl (lv_at hl 0 rfl) ?_
  refine lv_iconst (v := -1) hx hb d_X_emptyPage_19 (by decide) ?_
  have hP : va_P D vcl (xW b F S tI tZ tA (k_setp q p0 x (-1))) H := hP
  have hD : va_D A (xW b F S tI tZ tA (k_setp q p0 x (-1))) := hD
  refine lv_icmp_eq (tgt := 38) hx hb d_X_emptyPage_20 (by decide) (fun hc => ?_) (fun hc => ?_)
  · have e1 : k_empty q p0 x = (0, k_setp q p0 x (-1)) := if_pos hc
    rw [e1]
    refine lv_iconst (v := 0) hx hb d_X_emptyPage_38 (by decide) ?_
    refine ob_zret hlocks hx hb hr d_X_emptyPage_39 (rfl) hS.2.2 (fun t ht hW => ?_)
    exact ⟨rfl, by rw [ht]; exact hP, hD, hS.F ht⟩
  · refine lv_aload_n hx hb d_X_emptyPage_23 rfl (lv_at hl 1 rfl) ?_
    refine va_get (D := D) (ci := 0) (v := .ref (b 9)) hx hb hT.lays ly_X hown hT.1 hP 0 rfl rfl 2 (by decide) (hT.w k_X_32) (fun _ h => h) rfl d_X_emptyPage_24 ?_
    refine lv_iload_n hx hb d_X_emptyPage_27 rfl (lv_at hl 0 rfl) ?_
    have hc0 := hc
    refine ob_callW (v := (some (.int ((k_leave (ks_m q) (k_at q p0 x)).1)))) (X := xX b tI tZ tA (k_setp q p0 x (-1))) (M := mW b F S tI tZ tA (ks_m (k_setp q p0 x (-1)))) (M' := mW b F S tI tZ tA ((k_leave (ks_m q) (k_at q p0 x)).2)) (ob_runV (n := 1) (As := [.int (k_at q p0 x)]) (rest := []) (c_M_leave l D tI tZ tA tJ b F S H.size (ks_m (k_setp q p0 x (-1))) (k_at q p0 x)) (hT.ok ob_cd_c (by decide +kernel) rfl rfl (Nat.le_of_ble_eq_true rfl) (Nat.le_of_ble_eq_true rfl) kn_M kc_M_leave) hx hb hml hown (hT.w k_X_132) (hT.w ki_M_leave) (hT.w kv_M_leave) (va_recv (q0 := 9) (ci := 1) hT.1 hP rfl rfl) pW.blind (pW.at hT (hq hc) (ob_Pr (xP_to hP)) (ob_Dr (xD_to hD))) rfl rfl hl.1 rfl (lv_room (Nat.le_of_ble_eq_true rfl)) d_X_emptyPage_28 ⟨Nat.le_of_ble_eq_true rfl, Nat.le_of_ble_eq_true rfl⟩) (xP_to hP) (xD_to hD) hS hA (fun H locs hP hD hS => ?_)
    have hP : va_P D vcl (xW b F S tI tZ tA (kv_m (k_setp q p0 x (-1)) ((k_leave (ks_m q) (k_at q p0 x)).2))) H := xP_of hP
    have hD : va_D A (xW b F S tI tZ tA (kv_m (k_setp q p0 x (-1)) ((k_leave (ks_m q) (k_at q p0 x)).2))) := xD_of hD
    refine W.eq (g2 := F0 m 31 ls [.int ((k_leave (ks_m q) (k_at q p0 x)).1)]) rfl ?_
    refine lv_if_eq (tgt := 38) hx hb d_X_emptyPage_31 (by decide) (fun hc => ?_) (fun hc => ?_)
    · have e1 : k_empty q p0 x = (0, kv_m (k_setp q p0 x (-1)) ((k_leave (ks_m q) (k_at q p0 x)).2)) := by unfold k_empty; rw [if_neg hc0, if_pos hc]
      rw [e1]
      refine lv_iconst (v := 0) hx hb d_X_emptyPage_38 (by decide) ?_
      refine ob_zret hlocks hx hb hr d_X_emptyPage_39 (rfl) hS.2.2 (fun t ht hW => ?_)
      exact ⟨rfl, by rw [ht]; exact hP, hD, hS.F ht⟩
    · have e1 : k_empty q p0 x = (1, kv_m (k_setp q p0 x (-1)) ((k_leave (ks_m q) (k_at q p0 x)).2)) := by unfold k_empty; rw [if_neg hc0, if_neg hc]
      rw [e1]
      refine lv_iconst (v := 1) hx hb d_X_emptyPage_34 (by decide) ?_
      refine lv_goto (tgt := 39) hx hb d_X_emptyPage_35 (by decide) ?_
      refine ob_zret hlocks hx hb hr d_X_emptyPage_39 (rfl) hS.2.2 (fun t ht hW => ?_)
      exact ⟨rfl, by rw [ht]; exact hP, hD, hS.F ht⟩

set_option maxHeartbeats 4000000 in
set_option maxRecDepth 100000 in
/-- X_loadWord -/
theorem c_X_loadWord (l : Launch) (D : va_G) (tI tZ tA tJ : ClassId) (b : Nat → Nat) (F S sz : Nat) (q : KS) (p0 a : Int32) : ob_M l y_X_loadWord w_X_loadWord ({ frames := 6, cells := 0, slots := 0, locals := 129 }) (pW D tI tZ tA tJ [.ref (b 0), .int p0, .int a] (xW b F S tI tZ tA q) sz (xl_ok F S q p0 a)) (ob_qW D vcl (some (.int ((k_loadW F S q p0 a).1))) (xW b F S tI tZ tA ((k_loadW F S q p0 a).2)) (va_A (xW b F S tI tZ tA q) sz)) 0 0 (va_A (xW b F S tI tZ tA q) sz) := by
  refine ob_ofW (by decide +kernel) ?_
  intro p e s m args below meth c s₁ B hml htab hv
  obtain ⟨rfl, hT, ⟨hp6, hg6, hw4, hq⟩, hsz, hP, hD0⟩ := hv
  have hx := B.exec
  have hb := B.bytes
  have hr := B.returns
  have hlocks := B.notSynchronized
  have hown : s.vm.findClass R_X = some m.cls := findClass_of_methodNamed B.named
  have hl := lv_entry ([.ref (b 0), .int p0, .int a]) (n := 4) (Nat.le_of_ble_eq_true rfl)
  rw [lg_entry_eq]
  generalize (lg_sl ([.ref (b 0), .int p0, .int a]) ++ List.replicate (4 - (lg_sl ([.ref (b 0), .int p0, .int a])).length) Slot.unset).toArray = ls at hl ⊢
  have hl : lv_has ls 4 [(0, .ref (b 0)), (1, .int p0), (2, .int a)] := hl
  subst hsz
  have hD := hD0.self (sz := s.heap.size)
  generalize hAe : va_A (xW b F S tI tZ tA q) s.heap.size = A at hD ⊢
  have hA : ∀ q : Nat, s.heap.size ≤ q → A q := fun q h => by rw [← hAe]; exact Or.inr h
  have hS : va_S A s.heap s.heap [] := va_S.rf
  refine lv_aload_n hx hb d_X_loadWord_0 rfl (lv_at hl 0 rfl) ?_
  refine va_get (D := D) (ci := 0) (v := .ref (b 2)) hx hb hT.lays ly_X hown hT.1 hP 0 rfl rfl 1 (by decide) (hT.w k_X_15) (fun _ h => h) rfl d_X_loadWord_1 ?_
  refine lv_iload_n hx hb d_X_loadWord_4 rfl (lv_at hl 1 rfl) ?_
  refine ob_aald hx hb hT.1 hP 2 2 rfl rfl (hp6) d_X_loadWord_5 ?_
  refine lv_iload_n hx hb d_X_loadWord_6 rfl (lv_at hl 2 rfl) ?_
  refine lv_iconst (v := 4) hx hb d_X_loadWord_7 (by decide) ?_
  refine lv_idiv hx hb d_X_loadWord_8 (by decide) ?_
  refine va_iald hx hb hT.1 hP (3 + ix p0) 0 (pl_get (vp_ix hp6) rfl) rfl (hg6) d_X_loadWord_9 ?_
  refine lv_istore_n (lv' := [(3, .int ((ks_pg q (ix p0)) (ix (a / 4)))), (0, .ref (b 0)), (1, .int p0), (2, .int a)]) hx hb d_X_loadWord_10 rfl hl (by decide) rfl (fun ls hl => ?_)
  refine lv_iload_n hx hb d_X_loadWord_11 rfl (lv_at hl 0 rfl) ?_
  refine lv_iconst (v := -1) hx hb d_X_loadWord_12 (by decide) ?_
  refine lv_icmp_ne (tgt := 20) hx hb d_X_loadWord_13 (by decide) (fun hc => ?_) (fun hc => ?_)
  · refine lv_aload_n hx hb d_X_loadWord_20 rfl (lv_at hl 1 rfl) ?_
    refine va_get (D := D) (ci := 0) (v := .ref (b 9)) hx hb hT.lays ly_X hown hT.1 hP 0 rfl rfl 2 (by decide) (hT.w k_X_32) (fun _ h => h) rfl d_X_loadWord_21 ?_
    refine lv_iload_n hx hb d_X_loadWord_24 rfl (lv_at hl 0 rfl) ?_
    refine lv_iload_n hx hb d_X_loadWord_25 rfl (lv_at hl 3 rfl) ?_
    refine lv_iconst (v := 4) hx hb d_X_loadWord_26 (by decide) ?_
    refine lv_irem hx hb d_X_loadWord_27 (by decide) ?_
    refine ob_callW (v := (some (.int (km_wd (k_touch F S (ks_m q) (k_at q p0 (a / 4))) (ix (k_at q p0 (a / 4))) (ix (wr a)))))) (X := xX b tI tZ tA q) (M := mW b F S tI tZ tA (ks_m q)) (M' := mW b F S tI tZ tA (k_touch F S (ks_m q) (k_at q p0 (a / 4)))) (ob_runV (n := 2) (As := [.int (k_at q p0 (a / 4)), .int (a - a / 4 * 4)]) (rest := []) (c_M_read l D tI tZ tA tJ b F S s.heap.size (ks_m q) (k_at q p0 (a / 4)) (a - a / 4 * 4)) (hT.ok ob_cd_c (by decide +kernel) rfl rfl (Nat.le_of_ble_eq_true rfl) (Nat.le_of_ble_eq_true rfl) kn_M kc_M_read) hx hb hml hown (hT.w k_X_135) (hT.w ki_M_read) (hT.w kv_M_read) (va_recv (q0 := 9) (ci := 1) hT.1 hP rfl rfl) pW.blind (pW.at hT (⟨hq hc, hw4⟩) (ob_Pr (xP_to hP)) (ob_Dr (xD_to hD))) rfl rfl hl.1 rfl (lv_room (Nat.le_of_ble_eq_true rfl)) d_X_loadWord_28 ⟨Nat.le_of_ble_eq_true rfl, Nat.le_of_ble_eq_true rfl⟩) (xP_to hP) (xD_to hD) hS hA (fun H locs hP hD hS => ?_)
    have hP : va_P D vcl (xW b F S tI tZ tA (kv_m q (k_touch F S (ks_m q) (k_at q p0 (a / 4))))) H := xP_of hP
    have hD : va_D A (xW b F S tI tZ tA (kv_m q (k_touch F S (ks_m q) (k_at q p0 (a / 4))))) := xD_of hD
    refine W.eq (g2 := F0 m 31 ls [.int (km_wd (k_touch F S (ks_m q) (k_at q p0 (a / 4))) (ix (k_at q p0 (a / 4))) (ix (wr a)))]) rfl ?_
    have e1 : k_loadW F S q p0 a = (km_wd (k_touch F S (ks_m q) (k_at q p0 (a / 4))) (ix (k_at q p0 (a / 4))) (ix (wr a)), kv_m q (k_touch F S (ks_m q) (k_at q p0 (a / 4)))) := if_neg hc
    rw [e1]
    refine ob_iret hlocks hx hb hr d_X_loadWord_31 hS.2.2 (fun t ht hW => ?_)
    exact ⟨rfl, by rw [ht]; exact hP, hD, hS.F ht⟩
  · have e1 : k_loadW F S q p0 a = (0, q) := if_pos hc
    rw [e1]
    refine lv_iconst (v := 0) hx hb d_X_loadWord_16 (by decide) ?_
    refine lv_goto (tgt := 31) hx hb d_X_loadWord_17 (by decide) ?_
    refine ob_iret hlocks hx hb hr d_X_loadWord_31 hS.2.2 (fun t ht hW => ?_)
    exact ⟨rfl, by rw [ht]; exact hP, hD, hS.F ht⟩

set_option maxHeartbeats 4000000 in
set_option maxRecDepth 100000 in
/-- X_giveOwnSheet -/
theorem c_X_giveOwnSheet (l : Launch) (D : va_G) (tI tZ tA tJ : ClassId) (b : Nat → Nat) (F S sz : Nat) (q : KS) (p0 x : Int32) : ob_M l y_X_giveOwnSheet w_X_giveOwnSheet ({ frames := 4, cells := 0, slots := 0, locals := 87 }) (pW D tI tZ tA tJ [.ref (b 0), .int p0, .int x] (xW b F S tI tZ tA q) sz (xo_ok F S q p0 x)) (ob_qW D vcl (some (.int ((k_own F S q p0 x).1))) (xW b F S tI tZ tA ((k_own F S q p0 x).2)) (va_A (xW b F S tI tZ tA q) sz)) 0 0 (va_A (xW b F S tI tZ tA q) sz) := by
  refine ob_ofW (by decide +kernel) ?_
  intro p e s m args below meth c s₁ B hml htab hv
  obtain ⟨rfl, hT, ⟨hp6, hg6, hmk, hno, hq⟩, hsz, hP, hD0⟩ := hv
  have hx := B.exec
  have hb := B.bytes
  have hr := B.returns
  have hlocks := B.notSynchronized
  have hown : s.vm.findClass R_X = some m.cls := findClass_of_methodNamed B.named
  have hl := lv_entry ([.ref (b 0), .int p0, .int x]) (n := 5) (Nat.le_of_ble_eq_true rfl)
  rw [lg_entry_eq]
  generalize (lg_sl ([.ref (b 0), .int p0, .int x]) ++ List.replicate (5 - (lg_sl ([.ref (b 0), .int p0, .int x])).length) Slot.unset).toArray = ls at hl ⊢
  have hl : lv_has ls 5 [(0, .ref (b 0)), (1, .int p0), (2, .int x)] := hl
  subst hsz
  have hD := hD0.self (sz := s.heap.size)
  generalize hAe : va_A (xW b F S tI tZ tA q) s.heap.size = A at hD ⊢
  have hA : ∀ q : Nat, s.heap.size ≤ q → A q := fun q h => by rw [← hAe]; exact Or.inr h
  have hS : va_S A s.heap s.heap [] := va_S.rf
  refine lv_aload_n hx hb d_X_giveOwnSheet_0 rfl (lv_at hl 0 rfl) ?_
  refine va_get (D := D) (ci := 0) (v := .ref (b 9)) hx hb hT.lays ly_X hown hT.1 hP 0 rfl rfl 2 (by decide) (hT.w k_X_32) (fun _ h => h) rfl d_X_giveOwnSheet_1 ?_
  refine ob_callW (v := (some (.int ((k_make F S (ks_m q)).1)))) (X := xX b tI tZ tA q) (M := mW b F S tI tZ tA (ks_m q)) (M' := mW b F S tI tZ tA ((k_make F S (ks_m q)).2)) (ob_runV (n := 0) (As := []) (rest := []) (c_M_make l D tI tZ tA tJ b F S s.heap.size (ks_m q)) (hT.ok ob_cd_c (by decide +kernel) rfl rfl (Nat.le_of_ble_eq_true rfl) (Nat.le_of_ble_eq_true rfl) kn_M kc_M_make) hx hb hml hown (hT.w k_X_144) (hT.w ki_M_make) (hT.w kv_M_make) (va_recv (q0 := 9) (ci := 1) hT.1 hP rfl rfl) pW.blind (pW.at hT (hmk) (ob_Pr (xP_to hP)) (ob_Dr (xD_to hD))) rfl rfl hl.1 rfl (lv_room (Nat.le_of_ble_eq_true rfl)) d_X_giveOwnSheet_4 ⟨Nat.le_of_ble_eq_true rfl, Nat.le_of_ble_eq_true rfl⟩) (xP_to hP) (xD_to hD) hS hA (fun H locs hP hD hS => ?_)
  have hP : va_P D vcl (xW b F S tI tZ tA (kv_m q ((k_make F S (ks_m q)).2))) H := xP_of hP
  have hD : va_D A (xW b F S tI tZ tA (kv_m q ((k_make F S (ks_m q)).2))) := xD_of hD
  refine W.eq (g2 := F0 m 7 ls [.int ((k_make F S (ks_m q)).1)]) rfl ?_
  refine lv_istore_n (lv' := [(3, .int ((k_make F S (ks_m q)).1)), (0, .ref (b 0)), (1, .int p0), (2, .int x)]) hx hb d_X_giveOwnSheet_7 rfl hl (by decide) rfl (fun ls hl => ?_)
  refine lv_iload_n hx hb d_X_giveOwnSheet_8 rfl (lv_at hl 0 rfl) ?_
  refine lv_iconst (v := -1) hx hb d_X_giveOwnSheet_9 (by decide) ?_
  refine lv_icmp_ne (tgt := 23) hx hb d_X_giveOwnSheet_10 (by decide) (fun hc => ?_) (fun hc => absurd hc hno)
  refine lv_aload_n hx hb d_X_giveOwnSheet_23 rfl (lv_at hl 1 rfl) ?_
  refine va_get (D := D) (ci := 0) (v := .ref (b 2)) hx hb hT.lays ly_X hown hT.1 hP 0 rfl rfl 1 (by decide) (hT.w k_X_15) (fun _ h => h) rfl d_X_giveOwnSheet_24 ?_
  refine lv_iload_n hx hb d_X_giveOwnSheet_27 rfl (lv_at hl 2 rfl) ?_
  refine ob_aald hx hb hT.1 hP 2 2 rfl rfl (hp6) d_X_giveOwnSheet_28 ?_
  refine lv_iload_n hx hb d_X_giveOwnSheet_29 rfl (lv_at hl 3 rfl) ?_
  refine va_iald hx hb hT.1 hP (3 + ix p0) 0 (pl_get (vp_ix hp6) rfl) rfl (hg6) d_X_giveOwnSheet_30 ?_
  refine lv_istore (lv' := [(4, .int (k_at q p0 x)), (3, .int ((k_make F S (ks_m q)).1)), (0, .ref (b 0)), (1, .int p0), (2, .int x)]) hx hb d_X_giveOwnSheet_31 hl (by decide) rfl (fun ls hl => ?_)
  have hl : lv_has ls 5 [(4, .int (k_at q p0 x)), (3, .int ((k_make F S (ks_m q)).1)), (0, .ref (b 0)), (1, .int p0), (2, .int x)] := lv_sub hl [0, 1, 2, 3, 4] rfl
  have hend : ∀ (H : Heap) (locs : List Loc), va_P D vcl (xW b F S tI tZ tA (kv_m q (k_ownM (k_make F S (ks_m q)).2 (k_at q p0 x) (k_make F S (ks_m q)).1))) H → va_D A (xW b F S tI tZ tA (kv_m q (k_ownM (k_make F S (ks_m q)).2 (k_at q p0 x) (k_make F S (ks_m q)).1))) → va_S A s.heap H locs → W p l e ({ frames := 4, cells := 0, slots := 0, locals := 87 } : Room) s m ([.ref (b 0), .int p0, .int x] : List Value).toArray below meth c H locs 0 0 (ob_Q below (ob_qW D vcl (some (.int ((k_own F S q p0 x).1))) (xW b F S tI tZ tA ((k_own F S q p0 x).2)) A) ([.ref (b 0), .int p0, .int x] : List Value).toArray s 0 0 A) (F0 m 59 ls []) := by
    intro H locs hP hD hS
    refine lv_aload_n hx hb d_X_giveOwnSheet_59 rfl (lv_at hl 2 rfl) ?_
    refine va_get (D := D) (ci := 0) (v := .ref (b 2)) hx hb hT.lays ly_X hown hT.1 hP 0 rfl rfl 1 (by decide) (hT.w k_X_15) (fun _ h => h) rfl d_X_giveOwnSheet_60 ?_
    refine lv_iload_n hx hb d_X_giveOwnSheet_63 rfl (lv_at hl 3 rfl) ?_
    refine ob_aald hx hb hT.1 hP 2 2 rfl rfl (hp6) d_X_giveOwnSheet_64 ?_
    refine lv_iload_n hx hb d_X_giveOwnSheet_65 rfl (lv_at hl 4 rfl) ?_
    refine lv_iload_n hx hb d_X_giveOwnSheet_66 rfl (lv_at hl 1 rfl) ?_
    refine va_iast hx hb hT.1 hP hD hS (3 + ix p0) 0 (pl_get (vp_ix hp6) rfl) rfl (hg6) d_X_giveOwnSheet_67 (fun H locs hP hD hS => ?_)
    rw [xW_row (vp_ix hp6)] at hP hD
    have hP : va_P D vcl (xW b F S tI tZ tA (kv_pg (kv_m q (k_ownM (k_make F S (ks_m q)).2 (k_at q p0 x) (k_make F S (ks_m q)).1)) (up2 (ks_pg (kv_m q (k_ownM (k_make F S (ks_m q)).2 (k_at q p0 x) (k_make F S (ks_m q)).1))) (ix p0) (upd (ks_pg (kv_m q (k_ownM (k_make F S (ks_m q)).2 (k_at q p0 x) (k_make F S (ks_m q)).1)) (ix p0)) (ix x) ((k_make F S (ks_m q)).1))))) H := hP
    have hD : va_D A (xW b F S tI tZ tA (kv_pg (kv_m q (k_ownM (k_make F S (ks_m q)).2 (k_at q p0 x) (k_make F S (ks_m q)).1)) (up2 (ks_pg (kv_m q (k_ownM (k_make F S (ks_m q)).2 (k_at q p0 x) (k_make F S (ks_m q)).1))) (ix p0) (upd (ks_pg (kv_m q (k_ownM (k_make F S (ks_m q)).2 (k_at q p0 x) (k_make F S (ks_m q)).1)) (ix p0)) (ix x) ((k_make F S (ks_m q)).1))))) := hD
    refine lv_iload_n hx hb d_X_giveOwnSheet_68 rfl (lv_at hl 1 rfl) ?_
    refine ob_iret hlocks hx hb hr d_X_giveOwnSheet_69 hS.2.2 (fun t ht hW => ?_)
    exact ⟨rfl, by rw [ht]; exact hP, hD, hS.F ht⟩
  refine lv_iload hx hb d_X_giveOwnSheet_33 (lv_at hl 0 rfl) ?_
  refine lv_iconst (v := -1) hx hb d_X_giveOwnSheet_35 (by decide) ?_
  refine lv_icmp_eq (tgt := 59) hx hb d_X_giveOwnSheet_36 (by decide) (fun hc => ?_) (fun hc => ?_)
  · have e1 : k_ownM (k_make F S (ks_m q)).2 (k_at q p0 x) (k_make F S (ks_m q)).1 = (k_make F S (ks_m q)).2 := if_pos hc
    rw [e1] at hend
    exact hend H locs hP hD hS
  · obtain ⟨ha, hd, hlv⟩ := hq hc
    refine lv_aload_n hx hb d_X_giveOwnSheet_39 rfl (lv_at hl 2 rfl) ?_
    refine va_get (D := D) (ci := 0) (v := .ref (b 9)) hx hb hT.lays ly_X hown hT.1 hP 0 rfl rfl 2 (by decide) (hT.w k_X_32) (fun _ h => h) rfl d_X_giveOwnSheet_40 ?_
    refine lv_iload hx hb d_X_giveOwnSheet_43 (lv_at hl 0 rfl) ?_
    refine lv_iload_n hx hb d_X_giveOwnSheet_45 rfl (lv_at hl 1 rfl) ?_
    refine ob_callW (v := none) (X := xX b tI tZ tA (kv_m q ((k_make F S (ks_m q)).2))) (M := mW b F S tI tZ tA (ks_m (kv_m q ((k_make F S (ks_m q)).2)))) (M' := mW b F S tI tZ tA (k_cpw (k_make F S (ks_m q)).2 (k_at q p0 x) (k_make F S (ks_m q)).1)) (ob_runV (n := 2) (As := [.int (k_at q p0 x), .int ((k_make F S (ks_m q)).1)]) (rest := []) (c_M_copyWords l D tI tZ tA tJ b F S H.size (ks_m (kv_m q ((k_make F S (ks_m q)).2))) (k_at q p0 x) ((k_make F S (ks_m q)).1)) (hT.ok ob_cd_c (by decide +kernel) rfl rfl (Nat.le_of_ble_eq_true rfl) (Nat.le_of_ble_eq_true rfl) kn_M kc_M_copyWords) hx hb hml hown (hT.w k_X_149) (hT.w ki_M_copyWords) (hT.w kv_M_copyWords) (va_recv (q0 := 9) (ci := 1) hT.1 hP rfl rfl) pW.blind (pW.at hT (⟨ha, hd⟩) (ob_Pr (xP_to hP)) (ob_Dr (xD_to hD))) rfl rfl hl.1 rfl (lv_room (Nat.le_of_ble_eq_true rfl)) d_X_giveOwnSheet_46 ⟨Nat.le_of_ble_eq_true rfl, Nat.le_of_ble_eq_true rfl⟩) (xP_to hP) (xD_to hD) hS hA (fun H locs hP hD hS => ?_)
    have hP : va_P D vcl (xW b F S tI tZ tA (kv_m (kv_m q ((k_make F S (ks_m q)).2)) (k_cpw (k_make F S (ks_m q)).2 (k_at q p0 x) (k_make F S (ks_m q)).1))) H := xP_of hP
    have hD : va_D A (xW b F S tI tZ tA (kv_m (kv_m q ((k_make F S (ks_m q)).2)) (k_cpw (k_make F S (ks_m q)).2 (k_at q p0 x) (k_make F S (ks_m q)).1))) := xD_of hD
    refine W.eq (g2 := F0 m 49 ls []) rfl ?_
    refine lv_aload_n hx hb d_X_giveOwnSheet_49 rfl (lv_at hl 2 rfl) ?_
    refine va_get (D := D) (ci := 0) (v := .ref (b 9)) hx hb hT.lays ly_X hown hT.1 hP 0 rfl rfl 2 (by decide) (hT.w k_X_32) (fun _ h => h) rfl d_X_giveOwnSheet_50 ?_
    refine lv_iload hx hb d_X_giveOwnSheet_53 (lv_at hl 0 rfl) ?_
    refine ob_callW (v := (some (.int ((k_leave (k_cpw (k_make F S (ks_m q)).2 (k_at q p0 x) (k_make F S (ks_m q)).1) (k_at q p0 x)).1)))) (X := xX b tI tZ tA (kv_m (kv_m q ((k_make F S (ks_m q)).2)) (k_cpw (k_make F S (ks_m q)).2 (k_at q p0 x) (k_make F S (ks_m q)).1))) (M := mW b F S tI tZ tA (ks_m (kv_m (kv_m q ((k_make F S (ks_m q)).2)) (k_cpw (k_make F S (ks_m q)).2 (k_at q p0 x) (k_make F S (ks_m q)).1)))) (M' := mW b F S tI tZ tA ((k_leave (k_cpw (k_make F S (ks_m q)).2 (k_at q p0 x) (k_make F S (ks_m q)).1) (k_at q p0 x)).2)) (ob_runV (n := 1) (As := [.int (k_at q p0 x)]) (rest := []) (c_M_leave l D tI tZ tA tJ b F S H.size (ks_m (kv_m (kv_m q ((k_make F S (ks_m q)).2)) (k_cpw (k_make F S (ks_m q)).2 (k_at q p0 x) (k_make F S (ks_m q)).1))) (k_at q p0 x)) (hT.ok ob_cd_c (by decide +kernel) rfl rfl (Nat.le_of_ble_eq_true rfl) (Nat.le_of_ble_eq_true rfl) kn_M kc_M_leave) hx hb hml hown (hT.w k_X_132) (hT.w ki_M_leave) (hT.w kv_M_leave) (va_recv (q0 := 9) (ci := 1) hT.1 hP rfl rfl) pW.blind (pW.at hT (hlv) (ob_Pr (xP_to hP)) (ob_Dr (xD_to hD))) rfl rfl hl.1 rfl (lv_room (Nat.le_of_ble_eq_true rfl)) d_X_giveOwnSheet_55 ⟨Nat.le_of_ble_eq_true rfl, Nat.le_of_ble_eq_true rfl⟩) (xP_to hP) (xD_to hD) hS hA (fun H locs hP hD hS => ?_)
    have hP : va_P D vcl (xW b F S tI tZ tA (kv_m (kv_m (kv_m q ((k_make F S (ks_m q)).2)) (k_cpw (k_make F S (ks_m q)).2 (k_at q p0 x) (k_make F S (ks_m q)).1)) ((k_leave (k_cpw (k_make F S (ks_m q)).2 (k_at q p0 x) (k_make F S (ks_m q)).1) (k_at q p0 x)).2))) H := xP_of hP
    have hD : va_D A (xW b F S tI tZ tA (kv_m (kv_m (kv_m q ((k_make F S (ks_m q)).2)) (k_cpw (k_make F S (ks_m q)).2 (k_at q p0 x) (k_make F S (ks_m q)).1)) ((k_leave (k_cpw (k_make F S (ks_m q)).2 (k_at q p0 x) (k_make F S (ks_m q)).1) (k_at q p0 x)).2))) := xD_of hD
    refine W.eq (g2 := F0 m 58 ls [.int ((k_leave (k_cpw (k_make F S (ks_m q)).2 (k_at q p0 x) (k_make F S (ks_m q)).1) (k_at q p0 x)).1)]) rfl ?_
    refine lv_pop hx hb d_X_giveOwnSheet_58 rfl ?_
    have e1 : k_ownM (k_make F S (ks_m q)).2 (k_at q p0 x) (k_make F S (ks_m q)).1 = (k_leave (k_cpw (k_make F S (ks_m q)).2 (k_at q p0 x) (k_make F S (ks_m q)).1) (k_at q p0 x)).2 := if_neg hc
    rw [e1] at hend
    exact hend H locs hP hD hS

set_option maxHeartbeats 4000000 in
set_option maxRecDepth 100000 in
/-- X_storeWord -/
theorem c_X_storeWord (l : Launch) (D : va_G) (tI tZ tA tJ : ClassId) (b : Nat → Nat) (F S sz : Nat) (q : KS) (p0 a v : Int32) : ob_M l y_X_storeWord w_X_storeWord ({ frames := 6, cells := 0, slots := 0, locals := 130 }) (pW D tI tZ tA tJ [.ref (b 0), .int p0, .int a, .int v] (xW b F S tI tZ tA q) sz (xs_ok F S q p0 a)) (ob_qW D vcl none (xW b F S tI tZ tA (k_storeW F S q p0 a v)) (va_A (xW b F S tI tZ tA q) sz)) 0 0 (va_A (xW b F S tI tZ tA q) sz) := by
  refine ob_ofW (by decide +kernel) ?_
  intro p e s m args below meth c s₁ B hml htab hv
  obtain ⟨rfl, hT, ⟨hp6, hg6, hw4, hin, hown6, hto⟩, hsz, hP, hD0⟩ := hv
  have hx := B.exec
  have hb := B.bytes
  have hr := B.returns
  have hlocks := B.notSynchronized
  have hown : s.vm.findClass R_X = some m.cls := findClass_of_methodNamed B.named
  have hl := lv_entry ([.ref (b 0), .int p0, .int a, .int v]) (n := 6) (Nat.le_of_ble_eq_true rfl)
  rw [lg_entry_eq]
  generalize (lg_sl ([.ref (b 0), .int p0, .int a, .int v]) ++ List.replicate (6 - (lg_sl ([.ref (b 0), .int p0, .int a, .int v])).length) Slot.unset).toArray = ls at hl ⊢
  have hl : lv_has ls 6 [(0, .ref (b 0)), (1, .int p0), (2, .int a), (3, .int v)] := hl
  subst hsz
  have hD := hD0.self (sz := s.heap.size)
  generalize hAe : va_A (xW b F S tI tZ tA q) s.heap.size = A at hD ⊢
  have hA : ∀ q : Nat, s.heap.size ≤ q → A q := fun q h => by rw [← hAe]; exact Or.inr h
  have hS : va_S A s.heap s.heap [] := va_S.rf
  have hend : ∀ (ls : Array Slot) (H : Heap) (locs : List Loc), lv_has ls 6 [(5, .int ((k_sto F S q p0 (a / 4)).1)), (4, .int (a / 4)), (0, .ref (b 0)), (1, .int p0), (2, .int a), (3, .int v)] → va_P D vcl (xW b F S tI tZ tA ((k_sto F S q p0 (a / 4)).2)) H → va_D A (xW b F S tI tZ tA ((k_sto F S q p0 (a / 4)).2)) → va_S A s.heap H locs → W p l e ({ frames := 6, cells := 0, slots := 0, locals := 130 } : Room) s m ([.ref (b 0), .int p0, .int a, .int v] : List Value).toArray below meth c H locs 0 0 (ob_Q below (ob_qW D vcl none (xW b F S tI tZ tA (k_storeW F S q p0 a v)) A) ([.ref (b 0), .int p0, .int a, .int v] : List Value).toArray s 0 0 A) (F0 m 44 ls []) := by
    intro ls H locs hl hP hD hS
    refine lv_aload_n hx hb d_X_storeWord_44 rfl (lv_at hl 2 rfl) ?_
    refine va_get (D := D) (ci := 0) (v := .ref (b 9)) hx hb hT.lays ly_X hown hT.1 hP 0 rfl rfl 2 (by decide) (hT.w k_X_32) (fun _ h => h) rfl d_X_storeWord_45 ?_
    refine lv_iload hx hb d_X_storeWord_48 (lv_at hl 0 rfl) ?_
    refine lv_iload_n hx hb d_X_storeWord_50 rfl (lv_at hl 4 rfl) ?_
    refine lv_iconst (v := 4) hx hb d_X_storeWord_51 (by decide) ?_
    refine lv_irem hx hb d_X_storeWord_52 (by decide) ?_
    refine lv_iload_n hx hb d_X_storeWord_53 rfl (lv_at hl 5 rfl) ?_
    refine ob_callW (v := none) (X := xX b tI tZ tA ((k_sto F S q p0 (a / 4)).2)) (M := mW b F S tI tZ tA (ks_m ((k_sto F S q p0 (a / 4)).2))) (M' := mW b F S tI tZ tA (k_write F S (ks_m (k_sto F S q p0 (a / 4)).2) (k_sto F S q p0 (a / 4)).1 (wr a) v)) (ob_runV (n := 3) (As := [.int ((k_sto F S q p0 (a / 4)).1), .int (a - a / 4 * 4), .int v]) (rest := []) (c_M_write l D tI tZ tA tJ b F S H.size (ks_m ((k_sto F S q p0 (a / 4)).2)) ((k_sto F S q p0 (a / 4)).1) (a - a / 4 * 4) v) (hT.ok ob_cd_c (by decide +kernel) rfl rfl (Nat.le_of_ble_eq_true rfl) (Nat.le_of_ble_eq_true rfl) kn_M kc_M_write) hx hb hml hown (hT.w k_X_141) (hT.w ki_M_write) (hT.w kv_M_write) (va_recv (q0 := 9) (ci := 1) hT.1 hP rfl rfl) pW.blind (pW.at hT (⟨hto, hw4⟩) (ob_Pr (xP_to hP)) (ob_Dr (xD_to hD))) rfl rfl hl.1 rfl (lv_room (Nat.le_of_ble_eq_true rfl)) d_X_storeWord_54 ⟨Nat.le_of_ble_eq_true rfl, Nat.le_of_ble_eq_true rfl⟩) (xP_to hP) (xD_to hD) hS hA (fun H locs hP hD hS => ?_)
    have hP : va_P D vcl (xW b F S tI tZ tA (kv_m ((k_sto F S q p0 (a / 4)).2) (k_write F S (ks_m (k_sto F S q p0 (a / 4)).2) (k_sto F S q p0 (a / 4)).1 (wr a) v))) H := xP_of hP
    have hD : va_D A (xW b F S tI tZ tA (kv_m ((k_sto F S q p0 (a / 4)).2) (k_write F S (ks_m (k_sto F S q p0 (a / 4)).2) (k_sto F S q p0 (a / 4)).1 (wr a) v))) := xD_of hD
    refine W.eq (g2 := F0 m 57 ls []) rfl ?_
    refine ob_vret hlocks hx hb hr d_X_storeWord_57 hS.2.2 (fun t ht hW => ?_)
    exact ⟨rfl, by rw [ht]; exact hP, hD, hS.F ht⟩
  refine lv_iload_n hx hb d_X_storeWord_0 rfl (lv_at hl 2 rfl) ?_
  refine lv_iconst (v := 4) hx hb d_X_storeWord_1 (by decide) ?_
  refine lv_idiv hx hb d_X_storeWord_2 (by decide) ?_
  refine lv_istore (lv' := [(4, .int (a / 4)), (0, .ref (b 0)), (1, .int p0), (2, .int a), (3, .int v)]) hx hb d_X_storeWord_3 hl (by decide) rfl (fun ls hl => ?_)
  refine lv_aload_n hx hb d_X_storeWord_5 rfl (lv_at hl 1 rfl) ?_
  refine va_get (D := D) (ci := 0) (v := .ref (b 2)) hx hb hT.lays ly_X hown hT.1 hP 0 rfl rfl 1 (by decide) (hT.w k_X_15) (fun _ h => h) rfl d_X_storeWord_6 ?_
  refine lv_iload_n hx hb d_X_storeWord_9 rfl (lv_at hl 2 rfl) ?_
  refine ob_aald hx hb hT.1 hP 2 2 rfl rfl (hp6) d_X_storeWord_10 ?_
  refine lv_iload hx hb d_X_storeWord_11 (lv_at hl 0 rfl) ?_
  refine va_iald hx hb hT.1 hP (3 + ix p0) 0 (pl_get (vp_ix hp6) rfl) rfl (hg6) d_X_storeWord_13 ?_
  refine lv_istore (lv' := [(5, .int ((ks_pg q (ix p0)) (ix (a / 4)))), (4, .int (a / 4)), (0, .ref (b 0)), (1, .int p0), (2, .int a), (3, .int v)]) hx hb d_X_storeWord_14 hl (by decide) rfl (fun ls hl => ?_)
  have hl : lv_has ls 6 [(5, .int (k_at q p0 (a / 4))), (4, .int (a / 4)), (0, .ref (b 0)), (1, .int p0), (2, .int a), (3, .int v)] := lv_sub hl [0, 1, 2, 3, 4, 5] rfl
  have hgo : ¬ k_need q p0 (a / 4) = 0 → W p l e ({ frames := 6, cells := 0, slots := 0, locals := 130 } : Room) s m ([.ref (b 0), .int p0, .int a, .int v] : List Value).toArray below meth c s.heap [] 0 0 (ob_Q below (ob_qW D vcl none (xW b F S tI tZ tA (k_storeW F S q p0 a v)) A) ([.ref (b 0), .int p0, .int a, .int v] : List Value).toArray s 0 0 A) (F0 m 35 ls []) := by
    intro hn
    have e1 : k_sto F S q p0 (a / 4) = k_own F S q p0 (a / 4) := if_neg hn
    rw [e1] at hend
    refine lv_aload_n hx hb d_X_storeWord_35 rfl (lv_at hl 2 rfl) ?_
    refine lv_iload_n hx hb d_X_storeWord_36 rfl (lv_at hl 3 rfl) ?_
    refine lv_iload hx hb d_X_storeWord_37 (lv_at hl 1 rfl) ?_
    refine ob_callW (v := (some (.int ((k_own F S q p0 (a / 4)).1)))) (X := []) (M := xW b F S tI tZ tA q) (M' := xW b F S tI tZ tA ((k_own F S q p0 (a / 4)).2)) (ob_runV (n := 2) (As := [.int p0, .int (a / 4)]) (rest := []) (c_X_giveOwnSheet l D tI tZ tA tJ b F S s.heap.size q p0 (a / 4)) (hT.ok ob_cd_c (by decide +kernel) rfl rfl (Nat.le_of_ble_eq_true rfl) (Nat.le_of_ble_eq_true rfl) kn_X kc_X_giveOwnSheet) hx hb hml hown (hT.w k_X_138) (hT.w ki_X_giveOwnSheet) (hT.w kv_X_giveOwnSheet) (va_recv (q0 := 0) (ci := 0) hT.1 hP rfl rfl) pW.blind (pW.at hT (hown6 hn) hP hD) rfl rfl hl.1 rfl (lv_room (Nat.le_of_ble_eq_true rfl)) d_X_storeWord_39 ⟨Nat.le_of_ble_eq_true rfl, Nat.le_of_ble_eq_true rfl⟩) hP hD hS hA (fun H locs hP hD hS => ?_)
    have hP : va_P D vcl (xW b F S tI tZ tA ((k_own F S q p0 (a / 4)).2)) H := hP
    have hD : va_D A (xW b F S tI tZ tA ((k_own F S q p0 (a / 4)).2)) := hD
    refine W.eq (g2 := F0 m 42 ls [.int ((k_own F S q p0 (a / 4)).1)]) rfl ?_
    refine lv_istore (lv' := [(5, .int ((k_own F S q p0 (a / 4)).1)), (4, .int (a / 4)), (0, .ref (b 0)), (1, .int p0), (2, .int a), (3, .int v)]) hx hb d_X_storeWord_42 hl (by decide) rfl (fun ls hl => ?_)
    exact hend ls H locs (lv_sub hl [0, 1, 2, 3, 4, 5] rfl) hP hD hS
  refine lv_iload hx hb d_X_storeWord_16 (lv_at hl 0 rfl) ?_
  refine lv_iconst (v := -1) hx hb d_X_storeWord_18 (by decide) ?_
  refine lv_icmp_eq (tgt := 35) hx hb d_X_storeWord_19 (by decide) (fun hc => ?_) (fun hc => ?_)
  · exact hgo (by unfold k_need; rw [if_pos hc]; decide)
  · have hc0 := hc
    refine lv_aload_n hx hb d_X_storeWord_22 rfl (lv_at hl 2 rfl) ?_
    refine va_get (D := D) (ci := 0) (v := .ref (b 9)) hx hb hT.lays ly_X hown hT.1 hP 0 rfl rfl 2 (by decide) (hT.w k_X_32) (fun _ h => h) rfl d_X_storeWord_23 ?_
    refine lv_iload hx hb d_X_storeWord_26 (lv_at hl 0 rfl) ?_
    refine ob_callR (v := (some (.int (km_ct (ks_m q) (ix (k_at q p0 (a / 4))))))) (ob_runV (n := 1) (As := [.int (k_at q p0 (a / 4))]) (rest := []) (c_M_pagesOf l D tI tZ tA tJ b F S (ks_m q) (k_at q p0 (a / 4))) (hT.ok ob_cd_c (by decide +kernel) rfl rfl (Nat.le_of_ble_eq_true rfl) (Nat.le_of_ble_eq_true rfl) kn_M kc_M_pagesOf) hx hb hml hown (hT.w k_X_93) (hT.w ki_M_pagesOf) (hT.w kv_M_pagesOf) (va_recv (q0 := 9) (ci := 1) hT.1 hP rfl rfl) pR.blind (pR.at hT (hin hc) (ob_Pr (ob_Pr hP))) rfl rfl hl.1 rfl (lv_room (Nat.le_of_ble_eq_true rfl)) d_X_storeWord_28 ⟨Nat.le_of_ble_eq_true rfl, Nat.le_of_ble_eq_true rfl⟩) ?_
    refine W.eq (g2 := F0 m 31 ls [.int (km_ct (ks_m q) (ix (k_at q p0 (a / 4))))]) rfl ?_
    refine lv_iconst (v := 1) hx hb d_X_storeWord_31 (by decide) ?_
    refine lv_icmp_le (tgt := 44) hx hb d_X_storeWord_32 (by decide) (fun hc => ?_) (fun hc => ?_)
    · have e1 : k_sto F S q p0 (a / 4) = (k_at q p0 (a / 4), q) := if_pos (by unfold k_need; rw [if_neg hc0, if_pos hc])
      rw [e1] at hend
      exact hend ls s.heap [] hl hP hD hS
    · exact hgo (by unfold k_need; rw [if_neg hc0, if_neg hc]; decide)
