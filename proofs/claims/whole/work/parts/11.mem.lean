theorem k_next_in {F : Nat} {h : Int32} (hF : F ≤ 8) (hh : vp_in h F) : vp_in (k_next F h) F := by
  obtain ⟨j, hj, rfl⟩ := vp_in_of hh (by omega)
  unfold k_next
  rw [nI_1]
  by_cases h1 : nI F ≤ nI (j + 1)
  · rw [if_pos h1]
    have := vp_in_nI (n := 0) (N := F) (by omega) (by omega)
    exact this
  · rw [if_neg h1]
    have : ¬ F ≤ j + 1 := fun h2 => h1 ((nI_leI (by omega) (by omega)).mpr h2)
    exact vp_in_nI (by omega) (by omega)
/-- what freePlace, evictInto, getFrame ask -/
def fp_ok (F S : Nat) (pl : Int32) : Prop := (pl < 100 → vp_in pl F) ∧ (¬ pl < 100 → vp_in (pl - 100) S)
def ev_ok (F S : Nat) (k : KM) (slot : Int32) : Prop := F ≤ 8 ∧ vp_in slot S ∧ vp_in (km_hd k) F ∧ vp_in (k_sweep F F (km_mk k) (km_hd k)).2 F ∧ vp_in (km_iF k (ix (k_sweep F F (km_mk k) (km_hd k)).2)) (F + S)
def gf_ok (F S : Nat) (k : KM) : Prop := F ≤ 8 ∧ S ≤ 10 ∧ (k_low (km_iF k) F 0 = -1 → ¬ k_low (km_iS k) S 0 = -1 → ev_ok F S k (k_low (km_iS k) S 0))

set_option maxHeartbeats 4000000 in
set_option maxRecDepth 100000 in
/-- the lowest place that holds -1 -/
theorem c_X_lowestFree (l : Launch) (D : va_G) (tI tZ tA tJ : ClassId) (a L : Nat) (f : Nat → Int32) : ob_M l y_X_lowestFree w_X_lowestFree ({ frames := 0, cells := 0, slots := 0, locals := 0 }) (pR D tI tZ tA tJ [.ref a] [(a, .inl (tI, L, .inl f))] (L < 2 ^ 31)) (ob_qR (some (.int (k_low f L 0)))) 0 0 (fun _ => False) := by
  refine ob_ofW (by decide +kernel) ?_
  intro p e s m args below meth c s₁ B hml htab hv
  obtain ⟨rfl, hT, hL, hP⟩ := hv
  have hx := B.exec
  have hb := B.bytes
  have hr := B.returns
  have hlocks := B.notSynchronized
  have hown : s.vm.findClass R_X = some m.cls := findClass_of_methodNamed B.named
  have hl := lv_entry ([.ref a]) (n := 2) (Nat.le_of_ble_eq_true rfl)
  rw [lg_entry_eq]
  generalize (lg_sl ([.ref a]) ++ List.replicate (2 - (lg_sl ([.ref a])).length) Slot.unset).toArray = ls at hl ⊢
  have hl : lv_has ls 2 [(0, .ref a)] := hl
  have loop : ∀ (n i : Nat) (ls : Array Slot), i + n = L → k_low f n i = k_low f L 0 → lv_has ls 2 [(1, .int (nI i)), (0, .ref a)] → W p l e ({ frames := 0, cells := 0, slots := 0, locals := 0 } : Room) s m ([.ref a] : List Value).toArray below meth c s.heap [] 0 0 (ob_Q below (ob_qR (some (.int (k_low f L 0)))) ([.ref a] : List Value).toArray s 0 0 (fun _ => False)) (F0 m 2 ls []) := by
    intro n
    induction n with
    | zero =>
      intro i ls hi hR hl
      refine lv_iload_n hx hb d_X_lowestFree_2 rfl (lv_at hl 0 rfl) ?_
      refine lv_aload_n hx hb d_X_lowestFree_3 rfl (lv_at hl 1 rfl) ?_
      refine va_alen (v := nI L) hx hb hT.1 hP 0 0 rfl rfl rfl d_X_lowestFree_4 ?_
      refine lv_icmp_ge (tgt := 23) hx hb d_X_lowestFree_5 (by decide) (fun hc => ?_) (fun hc => absurd (nI_le (by omega) (by omega)) hc)
      refine lv_iconst (v := -1) hx hb d_X_lowestFree_23 (by decide) ?_
      rw [← hR]
      refine ob_iret hlocks hx hb hr d_X_lowestFree_24 (fun q hq => nomatch hq) (fun t ht hW => ?_)
      exact ⟨rfl, ht⟩
    | succ n ih =>
      intro i ls hi hR hl
      refine lv_iload_n hx hb d_X_lowestFree_2 rfl (lv_at hl 0 rfl) ?_
      refine lv_aload_n hx hb d_X_lowestFree_3 rfl (lv_at hl 1 rfl) ?_
      refine va_alen (v := nI L) hx hb hT.1 hP 0 0 rfl rfl rfl d_X_lowestFree_4 ?_
      refine lv_icmp_ge (tgt := 23) hx hb d_X_lowestFree_5 (by decide) (fun hc => absurd hc (nI_ge (by omega) (by omega))) (fun hc => ?_)
      have hv : f (ix (nI i)) = f i := by show f (nI i).toNatClampNeg = f i; rw [nI_clamp (by omega)]
      refine lv_aload_n hx hb d_X_lowestFree_8 rfl (lv_at hl 1 rfl) ?_
      refine lv_iload_n hx hb d_X_lowestFree_9 rfl (lv_at hl 0 rfl) ?_
      refine va_iald hx hb hT.1 hP 0 0 rfl rfl (vp_in_nI (by omega) (by omega)) d_X_lowestFree_10 ?_
      rw [hv]
      refine lv_iconst (v := -1) hx hb d_X_lowestFree_11 (by decide) ?_
      refine lv_icmp_ne (tgt := 17) hx hb d_X_lowestFree_12 (by decide) (fun hc => ?_) (fun hc => ?_)
      · refine lv_iinc (k := 0) (v := nI (i + 1)) (lv' := [(1, .int (nI (i + 1))), (0, .ref a)]) hx hb d_X_lowestFree_17 hl rfl (nI_1 i) (by decide) rfl (fun ls hl => ?_)
        refine lv_goto (tgt := 2) hx hb d_X_lowestFree_20 (by decide) ?_
        refine ih (i + 1) ls (by omega) ?_ hl
        rw [← hR]
        exact (if_neg hc).symm
      · have e1 : k_low f (n + 1) i = nI i := if_pos hc
        rw [← hR, e1]
        refine lv_iload_n hx hb d_X_lowestFree_15 rfl (lv_at hl 0 rfl) ?_
        refine ob_iret hlocks hx hb hr d_X_lowestFree_16 (fun q hq => nomatch hq) (fun t ht hW => ?_)
        exact ⟨rfl, ht⟩
  refine lv_iconst (v := 0) hx hb d_X_lowestFree_0 (by decide) ?_
  refine lv_istore_n (lv' := [(1, .int 0), (0, .ref a)]) hx hb d_X_lowestFree_1 rfl hl (by decide) rfl (fun ls hl => ?_)
  exact loop L 0 ls (by omega) rfl hl

set_option maxHeartbeats 4000000 in
set_option maxRecDepth 100000 in
/-- how many places hold -1 -/
theorem c_X_countFree (l : Launch) (D : va_G) (tI tZ tA tJ : ClassId) (a L : Nat) (f : Nat → Int32) : ob_M l y_X_countFree w_X_countFree ({ frames := 0, cells := 0, slots := 0, locals := 0 }) (pR D tI tZ tA tJ [.ref a] [(a, .inl (tI, L, .inl f))] (L < 2 ^ 31)) (ob_qR (some (.int (k_cnt f L 0 0)))) 0 0 (fun _ => False) := by
  refine ob_ofW (by decide +kernel) ?_
  intro p e s m args below meth c s₁ B hml htab hv
  obtain ⟨rfl, hT, hL, hP⟩ := hv
  have hx := B.exec
  have hb := B.bytes
  have hr := B.returns
  have hlocks := B.notSynchronized
  have hown : s.vm.findClass R_X = some m.cls := findClass_of_methodNamed B.named
  have hl := lv_entry ([.ref a]) (n := 3) (Nat.le_of_ble_eq_true rfl)
  rw [lg_entry_eq]
  generalize (lg_sl ([.ref a]) ++ List.replicate (3 - (lg_sl ([.ref a])).length) Slot.unset).toArray = ls at hl ⊢
  have hl : lv_has ls 3 [(0, .ref a)] := hl
  have loop : ∀ (n i : Nat) (x : Int32) (ls : Array Slot), i + n = L → k_cnt f n i x = k_cnt f L 0 0 → lv_has ls 3 [(2, .int (nI i)), (1, .int x), (0, .ref a)] → W p l e ({ frames := 0, cells := 0, slots := 0, locals := 0 } : Room) s m ([.ref a] : List Value).toArray below meth c s.heap [] 0 0 (ob_Q below (ob_qR (some (.int (k_cnt f L 0 0)))) ([.ref a] : List Value).toArray s 0 0 (fun _ => False)) (F0 m 4 ls []) := by
    intro n
    induction n with
    | zero =>
      intro i x ls hi hR hl
      refine lv_iload_n hx hb d_X_countFree_4 rfl (lv_at hl 0 rfl) ?_
      refine lv_aload_n hx hb d_X_countFree_5 rfl (lv_at hl 2 rfl) ?_
      refine va_alen (v := nI L) hx hb hT.1 hP 0 0 rfl rfl rfl d_X_countFree_6 ?_
      refine lv_icmp_ge (tgt := 26) hx hb d_X_countFree_7 (by decide) (fun hc => ?_) (fun hc => absurd (nI_le (by omega) (by omega)) hc)
      rw [← hR]
      refine lv_iload_n hx hb d_X_countFree_26 rfl (lv_at hl 1 rfl) ?_
      refine ob_iret hlocks hx hb hr d_X_countFree_27 (fun q hq => nomatch hq) (fun t ht hW => ?_)
      exact ⟨rfl, ht⟩
    | succ n ih =>
      intro i x ls hi hR hl
      refine lv_iload_n hx hb d_X_countFree_4 rfl (lv_at hl 0 rfl) ?_
      refine lv_aload_n hx hb d_X_countFree_5 rfl (lv_at hl 2 rfl) ?_
      refine va_alen (v := nI L) hx hb hT.1 hP 0 0 rfl rfl rfl d_X_countFree_6 ?_
      refine lv_icmp_ge (tgt := 26) hx hb d_X_countFree_7 (by decide) (fun hc => absurd hc (nI_ge (by omega) (by omega))) (fun hc => ?_)
      have hv : f (ix (nI i)) = f i := by show f (nI i).toNatClampNeg = f i; rw [nI_clamp (by omega)]
      refine lv_aload_n hx hb d_X_countFree_10 rfl (lv_at hl 2 rfl) ?_
      refine lv_iload_n hx hb d_X_countFree_11 rfl (lv_at hl 0 rfl) ?_
      refine va_iald hx hb hT.1 hP 0 0 rfl rfl (vp_in_nI (by omega) (by omega)) d_X_countFree_12 ?_
      rw [hv]
      refine lv_iconst (v := -1) hx hb d_X_countFree_13 (by decide) ?_
      refine lv_icmp_ne (tgt := 20) hx hb d_X_countFree_14 (by decide) (fun hc => ?_) (fun hc => ?_)
      · refine lv_iinc (k := 0) (v := nI (i + 1)) (lv' := [(2, .int (nI (i + 1))), (1, .int x), (0, .ref a)]) hx hb d_X_countFree_20 hl rfl (nI_1 i) (by decide) rfl (fun ls hl => ?_)
        refine lv_goto (tgt := 4) hx hb d_X_countFree_23 (by decide) ?_
        have hl : lv_has ls 3 [(2, .int (nI (i + 1))), (1, .int x), (0, .ref a)] := hl
        refine ih (i + 1) x ls (by omega) ?_ hl
        rw [← hR]
        show _ = k_cnt f n (i + 1) (if f i = -1 then x + 1 else x)
        rw [if_neg hc]
      · refine lv_iinc (k := 1) (v := x + 1) (lv' := [(1, .int (x + 1)), (2, .int (nI i)), (0, .ref a)]) hx hb d_X_countFree_17 hl rfl (rfl) (by decide) rfl (fun ls hl => ?_)
        refine lv_iinc (k := 1) (v := nI (i + 1)) (lv' := [(2, .int (nI (i + 1))), (1, .int (x + 1)), (0, .ref a)]) hx hb d_X_countFree_20 hl rfl (nI_1 i) (by decide) rfl (fun ls hl => ?_)
        refine lv_goto (tgt := 4) hx hb d_X_countFree_23 (by decide) ?_
        refine ih (i + 1) (x + 1) ls (by omega) ?_ hl
        rw [← hR]
        show _ = k_cnt f n (i + 1) (if f i = -1 then x + 1 else x)
        rw [if_pos hc]
  refine lv_iconst (v := 0) hx hb d_X_countFree_0 (by decide) ?_
  refine lv_istore_n (lv' := [(1, .int 0), (0, .ref a)]) hx hb d_X_countFree_1 rfl hl (by decide) rfl (fun ls hl => ?_)
  refine lv_iconst (v := 0) hx hb d_X_countFree_2 (by decide) ?_
  refine lv_istore_n (lv' := [(2, .int 0), (1, .int 0), (0, .ref a)]) hx hb d_X_countFree_3 rfl hl (by decide) rfl (fun ls hl => ?_)
  exact loop L 0 0 ls (by omega) rfl hl

set_option maxHeartbeats 4000000 in
set_option maxRecDepth 100000 in
/-- M_join -/
theorem c_M_join (l : Launch) (D : va_G) (tI tZ tA tJ : ClassId) (b : Nat → Nat) (F S sz : Nat) (k : KM) (a : Int32) : ob_M l y_M_join w_M_join ({ frames := 0, cells := 0, slots := 0, locals := 0 }) (pW D tI tZ tA tJ [.ref (b 9), .int a] (mW b F S tI tZ tA k) sz (vp_in a (F + S))) (ob_qW D vcl none (mW b F S tI tZ tA (k_join k a)) (va_A (mW b F S tI tZ tA k) sz)) 0 0 (va_A (mW b F S tI tZ tA k) sz) := by
  refine ob_ofW (by decide +kernel) ?_
  intro p e s m args below meth c s₁ B hml htab hv
  obtain ⟨rfl, hT, hin, hsz, hP, hD0⟩ := hv
  have hx := B.exec
  have hb := B.bytes
  have hr := B.returns
  have hlocks := B.notSynchronized
  have hown : s.vm.findClass R_M = some m.cls := findClass_of_methodNamed B.named
  have hl := lv_entry ([.ref (b 9), .int a]) (n := 2) (Nat.le_of_ble_eq_true rfl)
  rw [lg_entry_eq]
  generalize (lg_sl ([.ref (b 9), .int a]) ++ List.replicate (2 - (lg_sl ([.ref (b 9), .int a])).length) Slot.unset).toArray = ls at hl ⊢
  have hl : lv_has ls 2 [(0, .ref (b 9)), (1, .int a)] := hl
  subst hsz
  have hD := hD0.self (sz := s.heap.size)
  generalize hAe : va_A (mW b F S tI tZ tA k) s.heap.size = A at hD ⊢
  have hA : ∀ q : Nat, s.heap.size ≤ q → A q := fun q h => by rw [← hAe]; exact Or.inr h
  have hS : va_S A s.heap s.heap [] := va_S.rf
  refine lv_aload_n hx hb d_M_join_0 rfl (lv_at hl 0 rfl) ?_
  refine va_get (D := D) (ci := 1) (v := .ref (b 14)) hx hb hT.lays ly_M hown hT.1 hP 0 rfl rfl 4 (by decide) (hT.w k_M_29) (fun _ h => h) rfl d_M_join_1 ?_
  refine lv_iload_n hx hb d_M_join_4 rfl (lv_at hl 1 rfl) ?_
  refine lv_dup2_11 hx hb d_M_join_5 rfl rfl ?_
  refine va_iald hx hb hT.1 hP 5 0 rfl rfl (hin) d_M_join_6 ?_
  refine lv_iconst (v := 1) hx hb d_M_join_7 (by decide) ?_
  refine lv_iadd hx hb d_M_join_8 ?_
  refine va_iast hx hb hT.1 hP hD hS 5 0 rfl rfl (hin) d_M_join_9 (fun H locs hP hD hS => ?_)
  have hP : va_P D vcl (mW b F S tI tZ tA (ku_ct k (upd (km_ct k) (ix a) (((km_ct k) (ix a)) + 1)))) H := hP
  have hD : va_D A (mW b F S tI tZ tA (ku_ct k (upd (km_ct k) (ix a) (((km_ct k) (ix a)) + 1)))) := hD
  refine ob_vret hlocks hx hb hr d_M_join_10 hS.2.2 (fun t ht hW => ?_)
  exact ⟨rfl, by rw [ht]; exact hP, hD, hS.F ht⟩

set_option maxHeartbeats 4000000 in
set_option maxRecDepth 100000 in
/-- M_layIntoFrame -/
theorem c_M_layIntoFrame (l : Launch) (D : va_G) (tI tZ tA tJ : ClassId) (b : Nat → Nat) (F S sz : Nat) (k : KM) (a f : Int32) : ob_M l y_M_layIntoFrame w_M_layIntoFrame ({ frames := 0, cells := 0, slots := 0, locals := 0 }) (pW D tI tZ tA tJ [.ref (b 9), .int a, .int f] (mW b F S tI tZ tA k) sz (vp_in f F ∧ vp_in a (F + S))) (ob_qW D vcl none (mW b F S tI tZ tA (k_lay k a f)) (va_A (mW b F S tI tZ tA k) sz)) 0 0 (va_A (mW b F S tI tZ tA k) sz) := by
  refine ob_ofW (by decide +kernel) ?_
  intro p e s m args below meth c s₁ B hml htab hv
  obtain ⟨rfl, hT, ⟨hf, ha⟩, hsz, hP, hD0⟩ := hv
  have hx := B.exec
  have hb := B.bytes
  have hr := B.returns
  have hlocks := B.notSynchronized
  have hown : s.vm.findClass R_M = some m.cls := findClass_of_methodNamed B.named
  have hl := lv_entry ([.ref (b 9), .int a, .int f]) (n := 3) (Nat.le_of_ble_eq_true rfl)
  rw [lg_entry_eq]
  generalize (lg_sl ([.ref (b 9), .int a, .int f]) ++ List.replicate (3 - (lg_sl ([.ref (b 9), .int a, .int f])).length) Slot.unset).toArray = ls at hl ⊢
  have hl : lv_has ls 3 [(0, .ref (b 9)), (1, .int a), (2, .int f)] := hl
  subst hsz
  have hD := hD0.self (sz := s.heap.size)
  generalize hAe : va_A (mW b F S tI tZ tA k) s.heap.size = A at hD ⊢
  have hA : ∀ q : Nat, s.heap.size ≤ q → A q := fun q h => by rw [← hAe]; exact Or.inr h
  have hS : va_S A s.heap s.heap [] := va_S.rf
  refine lv_aload_n hx hb d_M_layIntoFrame_0 rfl (lv_at hl 0 rfl) ?_
  refine va_get (D := D) (ci := 1) (v := .ref (b 10)) hx hb hT.lays ly_M hown hT.1 hP 0 rfl rfl 0 (by decide) (hT.w k_M_13) (fun _ h => h) rfl d_M_layIntoFrame_1 ?_
  refine lv_iload_n hx hb d_M_layIntoFrame_4 rfl (lv_at hl 2 rfl) ?_
  refine lv_iload_n hx hb d_M_layIntoFrame_5 rfl (lv_at hl 1 rfl) ?_
  refine va_iast hx hb hT.1 hP hD hS 1 0 rfl rfl (hf) d_M_layIntoFrame_6 (fun H locs hP hD hS => ?_)
  have hP : va_P D vcl (mW b F S tI tZ tA (ku_iF k (upd (km_iF k) (ix f) a))) H := hP
  have hD : va_D A (mW b F S tI tZ tA (ku_iF k (upd (km_iF k) (ix f) a))) := hD
  refine lv_aload_n hx hb d_M_layIntoFrame_7 rfl (lv_at hl 0 rfl) ?_
  refine va_get (D := D) (ci := 1) (v := .ref (b 13)) hx hb hT.lays ly_M hown hT.1 hP 0 rfl rfl 3 (by decide) (hT.w k_M_26) (fun _ h => h) rfl d_M_layIntoFrame_8 ?_
  refine lv_iload_n hx hb d_M_layIntoFrame_11 rfl (lv_at hl 1 rfl) ?_
  refine lv_iload_n hx hb d_M_layIntoFrame_12 rfl (lv_at hl 2 rfl) ?_
  refine va_iast hx hb hT.1 hP hD hS 4 0 rfl rfl (ha) d_M_layIntoFrame_13 (fun H locs hP hD hS => ?_)
  have hP : va_P D vcl (mW b F S tI tZ tA (ku_pl (ku_iF k (upd (km_iF k) (ix f) a)) (upd (km_pl (ku_iF k (upd (km_iF k) (ix f) a))) (ix a) f))) H := hP
  have hD : va_D A (mW b F S tI tZ tA (ku_pl (ku_iF k (upd (km_iF k) (ix f) a)) (upd (km_pl (ku_iF k (upd (km_iF k) (ix f) a))) (ix a) f))) := hD
  refine lv_aload_n hx hb d_M_layIntoFrame_14 rfl (lv_at hl 0 rfl) ?_
  refine lv_dup hx hb d_M_layIntoFrame_15 rfl ?_
  refine va_get (D := D) (ci := 1) (v := .int (km_fl (ku_pl (ku_iF k (upd (km_iF k) (ix f) a)) (upd (km_pl (ku_iF k (upd (km_iF k) (ix f) a))) (ix a) f)))) hx hb hT.lays ly_M hown hT.1 hP 0 rfl rfl 7 (by decide) (hT.w k_M_71) (fun _ h => h) rfl d_M_layIntoFrame_16 ?_
  refine lv_iconst (v := 1) hx hb d_M_layIntoFrame_19 (by decide) ?_
  refine lv_iadd hx hb d_M_layIntoFrame_20 ?_
  refine va_put (D := D) (ci := 1) (v := .int ((km_fl (ku_pl (ku_iF k (upd (km_iF k) (ix f) a)) (upd (km_pl (ku_iF k (upd (km_iF k) (ix f) a))) (ix a) f))) + 1)) (ty := .int) hx hb hT.lays ly_M ty_M ty_M_ok n_M hown hT.1 hP hD hS 0 rfl rfl 7 (by decide) (hT.w k_M_71) (fun _ h => h) rfl (by decide +kernel) rfl rfl (Nat.le_of_ble_eq_true rfl) d_M_layIntoFrame_21 (fun H locs hP hD hS => ?_)
  have hP : va_P D vcl (mW b F S tI tZ tA (ku_fl (ku_pl (ku_iF k (upd (km_iF k) (ix f) a)) (upd (km_pl (ku_iF k (upd (km_iF k) (ix f) a))) (ix a) f)) ((km_fl (ku_pl (ku_iF k (upd (km_iF k) (ix f) a)) (upd (km_pl (ku_iF k (upd (km_iF k) (ix f) a))) (ix a) f))) + 1))) H := hP
  have hD : va_D A (mW b F S tI tZ tA (ku_fl (ku_pl (ku_iF k (upd (km_iF k) (ix f) a)) (upd (km_pl (ku_iF k (upd (km_iF k) (ix f) a))) (ix a) f)) ((km_fl (ku_pl (ku_iF k (upd (km_iF k) (ix f) a)) (upd (km_pl (ku_iF k (upd (km_iF k) (ix f) a))) (ix a) f))) + 1))) := hD
  refine ob_vret hlocks hx hb hr d_M_layIntoFrame_24 hS.2.2 (fun t ht hW => ?_)
  exact ⟨rfl, by rw [ht]; exact hP, hD, hS.F ht⟩

set_option maxHeartbeats 4000000 in
set_option maxRecDepth 100000 in
/-- M_freePlace -/
theorem c_M_freePlace (l : Launch) (D : va_G) (tI tZ tA tJ : ClassId) (b : Nat → Nat) (F S sz : Nat) (k : KM) (q : Int32) : ob_M l y_M_freePlace w_M_freePlace ({ frames := 0, cells := 0, slots := 0, locals := 0 }) (pW D tI tZ tA tJ [.ref (b 9), .int q] (mW b F S tI tZ tA k) sz (fp_ok F S q)) (ob_qW D vcl none (mW b F S tI tZ tA (k_freePlace k q)) (va_A (mW b F S tI tZ tA k) sz)) 0 0 (va_A (mW b F S tI tZ tA k) sz) := by
  refine ob_ofW (by decide +kernel) ?_
  intro p e s m args below meth c s₁ B hml htab hv
  obtain ⟨rfl, hT, hq, hsz, hP, hD0⟩ := hv
  have hx := B.exec
  have hb := B.bytes
  have hr := B.returns
  have hlocks := B.notSynchronized
  have hown : s.vm.findClass R_M = some m.cls := findClass_of_methodNamed B.named
  have hl := lv_entry ([.ref (b 9), .int q]) (n := 2) (Nat.le_of_ble_eq_true rfl)
  rw [lg_entry_eq]
  generalize (lg_sl ([.ref (b 9), .int q]) ++ List.replicate (2 - (lg_sl ([.ref (b 9), .int q])).length) Slot.unset).toArray = ls at hl ⊢
  have hl : lv_has ls 2 [(0, .ref (b 9)), (1, .int q)] := hl
  subst hsz
  have hD := hD0.self (sz := s.heap.size)
  generalize hAe : va_A (mW b F S tI tZ tA k) s.heap.size = A at hD ⊢
  have hA : ∀ q : Nat, s.heap.size ≤ q → A q := fun q h => by rw [← hAe]; exact Or.inr h
  have hS : va_S A s.heap s.heap [] := va_S.rf
  refine lv_iload_n hx hb d_M_freePlace_0 rfl (lv_at hl 1 rfl) ?_
  refine lv_bipush (v := 100) hx hb d_M_freePlace_1 (by decide) ?_
  refine lv_icmp_lt (tgt := 19) hx hb d_M_freePlace_3 (by decide) (fun hc => ?_) (fun hc => ?_)
  · refine lv_aload_n hx hb d_M_freePlace_19 rfl (lv_at hl 0 rfl) ?_
    refine va_get (D := D) (ci := 1) (v := .ref (b 10)) hx hb hT.lays ly_M hown hT.1 hP 0 rfl rfl 0 (by decide) (hT.w k_M_13) (fun _ h => h) rfl d_M_freePlace_20 ?_
    refine lv_iload_n hx hb d_M_freePlace_23 rfl (lv_at hl 1 rfl) ?_
    refine lv_iconst (v := -1) hx hb d_M_freePlace_24 (by decide) ?_
    refine va_iast hx hb hT.1 hP hD hS 1 0 rfl rfl (hq.1 hc) d_M_freePlace_25 (fun H locs hP hD hS => ?_)
    have hP : va_P D vcl (mW b F S tI tZ tA (ku_iF k (upd (km_iF k) (ix q) (-1)))) H := hP
    have hD : va_D A (mW b F S tI tZ tA (ku_iF k (upd (km_iF k) (ix q) (-1)))) := hD
    refine lv_aload_n hx hb d_M_freePlace_26 rfl (lv_at hl 0 rfl) ?_
    refine va_get (D := D) (ci := 1) (v := .ref (b 12)) hx hb hT.lays ly_M hown hT.1 hP 0 rfl rfl 2 (by decide) (hT.w k_M_22) (fun _ h => h) rfl d_M_freePlace_27 ?_
    refine lv_iload_n hx hb d_M_freePlace_30 rfl (lv_at hl 1 rfl) ?_
    refine lv_iconst (v := 0) hx hb d_M_freePlace_31 (by decide) ?_
    refine va_zast hx hb hT.1 hP hD hS 3 1 rfl rfl (hq.1 hc) d_M_freePlace_32 (fun H locs hP hD hS => ?_)
    rw [nar0] at hP hD
    have hP : va_P D vcl (mW b F S tI tZ tA (ku_mk (ku_iF k (upd (km_iF k) (ix q) (-1))) (upd (km_mk (ku_iF k (upd (km_iF k) (ix q) (-1)))) (ix q) 0))) H := hP
    have hD : va_D A (mW b F S tI tZ tA (ku_mk (ku_iF k (upd (km_iF k) (ix q) (-1))) (upd (km_mk (ku_iF k (upd (km_iF k) (ix q) (-1)))) (ix q) 0))) := hD
    refine ob_vret hlocks hx hb hr d_M_freePlace_33 hS.2.2 (fun t ht hW => ?_)
    have e1 : k_freePlace k q = ku_mk (ku_iF k (upd (km_iF k) (ix q) (-1))) (upd (km_mk k) (ix q) 0) := if_pos hc
    rw [e1]
    exact ⟨rfl, by rw [ht]; exact hP, hD, hS.F ht⟩
  · refine lv_aload_n hx hb d_M_freePlace_6 rfl (lv_at hl 0 rfl) ?_
    refine va_get (D := D) (ci := 1) (v := .ref (b 11)) hx hb hT.lays ly_M hown hT.1 hP 0 rfl rfl 1 (by decide) (hT.w k_M_19) (fun _ h => h) rfl d_M_freePlace_7 ?_
    refine lv_iload_n hx hb d_M_freePlace_10 rfl (lv_at hl 1 rfl) ?_
    refine lv_bipush (v := 100) hx hb d_M_freePlace_11 (by decide) ?_
    refine lv_isub hx hb d_M_freePlace_13 ?_
    refine lv_iconst (v := -1) hx hb d_M_freePlace_14 (by decide) ?_
    refine va_iast hx hb hT.1 hP hD hS 2 0 rfl rfl (hq.2 hc) d_M_freePlace_15 (fun H locs hP hD hS => ?_)
    have hP : va_P D vcl (mW b F S tI tZ tA (ku_iS k (upd (km_iS k) (ix (q - 100)) (-1)))) H := hP
    have hD : va_D A (mW b F S tI tZ tA (ku_iS k (upd (km_iS k) (ix (q - 100)) (-1)))) := hD
    refine lv_goto (tgt := 33) hx hb d_M_freePlace_16 (by decide) ?_
    refine ob_vret hlocks hx hb hr d_M_freePlace_33 hS.2.2 (fun t ht hW => ?_)
    have e1 : k_freePlace k q = ku_iS k (upd (km_iS k) (ix (q - 100)) (-1)) := if_neg hc
    rw [e1]
    exact ⟨rfl, by rw [ht]; exact hP, hD, hS.F ht⟩
