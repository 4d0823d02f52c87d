theorem m_turn_in {F : Nat} {h : Int32} (hF : F ≤ 8) (hh : vp_in h F) : vp_in (m_turn F h) F := by
  obtain ⟨j, hj, rfl⟩ := vp_in_of hh (by omega)
  unfold m_turn
  rw [nI_1]
  by_cases h1 : nI (j + 1) = nI F
  · rw [if_pos h1]
    exact vp_in_nI (n := 0) (N := F) (by omega) (by omega)
  · rw [if_neg h1]
    have : ¬ j + 1 = F := fun h2 => h1 (by rw [h2])
    exact vp_in_nI (by omega) (by omega)
theorem vp_in_mono {x : Int32} {n m : Nat} (h : vp_in x n) (hnm : n ≤ m) : vp_in x m := fun q => h (q.elim Or.inl (fun z => Or.inr (by omega)))
/-- what the reference's getFrame, make, bringIn, empty ask -/
def mg_ok (F S : Nat) (s : Sg) : Prop := F ≤ 8 ∧ S ≤ 10 ∧ (m_lowF (sg_li s) F 0 < 0 → vp_in (sg_hd s) F ∧ (m_sweep F 8 (sg_mk s) (sg_hd s)).1 (ix (m_sweep F 8 (sg_mk s) (sg_hd s)).2) = 0 ∧ vp_in (m_sheetAt (sg_li s) (m_sweep F 8 (sg_mk s) (sg_hd s)).2) 18)
def mm_ok (F S : Nat) (s : Sg) (k like : Int32) : Prop := mg_ok F S s ∧ vp_in (m_sheetAt (sg_li s) (-1)) 18 ∧ vp_in k 36 ∧ (0 ≤ like → vp_in like 18)
def mb_ok (F S : Nat) (s : Sg) (a : Int32) : Prop := vp_in a 18 ∧ (¬ sg_li s (ix a) < 100 → mg_ok F S (su_li s (upd (sg_li s) (ix a) (-1))))
def me_ok (s : Sg) (k : Int32) : Prop := vp_in k 36 ∧ (¬ sg_pg s (ix k) < 0 → m_owners (upd (sg_pg s) (ix k) (-1)) (sg_pg s (ix k)) ≤ 0 → vp_in (sg_pg s (ix k)) 18 ∧ (¬ 100 ≤ sg_li s (ix (sg_pg s (ix k))) → vp_in (sg_li s (ix (sg_pg s (ix k)))) 8))
theorem ix4 {a : Int32} {i : Nat} (ha : vp_in a 18) (hi : i < 4) : vp_in (4 * a + nI i) 72 := by
  obtain ⟨j, hj, rfl⟩ := vp_in_of ha (by omega)
  have e : (4 : Int32) * nI j + nI i = nI (4 * j + i) := by rw [show (4 : Int32) = nI 4 from rfl, pk_mul, nI_add]
  rw [e]
  exact vp_in_nI (by omega) (by omega)

set_option maxHeartbeats 4000000 in
set_option maxRecDepth 100000 in
/-- T_turn -/
theorem c_T_turn (l : Launch) (D : va_G) (tI tZ tA tJ : ClassId) (b : Nat → Nat) (F S sz : Nat) (tw : Int32) (g : Sg)  : ob_M l y_T_turn w_T_turn ({ frames := 0, cells := 0, slots := 0, locals := 0 }) (pW D tI tZ tA tJ [.ref (b 0)] (tW b F S tI tZ tw g) sz (True)) (ob_qW D vcl none (tW b F S tI tZ tw (su_hd g (m_turn F (sg_hd g)))) (va_A (tW b F S tI tZ tw g) sz)) 0 0 (va_A (tW b F S tI tZ tw g) sz) := by
  refine ob_ofW (by decide +kernel) ?_
  intro p e s m args below meth c s₁ B hml htab hv
  obtain ⟨rfl, hT, -, hsz, hP, hD0⟩ := hv
  have hx := B.exec
  have hb := B.bytes
  have hr := B.returns
  have hlocks := B.notSynchronized
  have hown : s.vm.findClass R_T = some m.cls := findClass_of_methodNamed B.named
  have hl := lv_entry ([.ref (b 0)]) (n := 1) (Nat.le_of_ble_eq_true rfl)
  rw [lg_entry_eq]
  generalize (lg_sl ([.ref (b 0)]) ++ List.replicate (1 - (lg_sl ([.ref (b 0)])).length) Slot.unset).toArray = ls at hl ⊢
  have hl : lv_has ls 1 [(0, .ref (b 0))] := hl
  subst hsz
  have hD := hD0.self (sz := s.heap.size)
  generalize hAe : va_A (tW b F S tI tZ tw g) s.heap.size = A at hD ⊢
  have hA : ∀ q : Nat, s.heap.size ≤ q → A q := fun q h => by rw [← hAe]; exact Or.inr h
  have hS : va_S A s.heap s.heap [] := va_S.rf
  refine lv_aload_n hx hb d_T_turn_0 rfl (lv_at hl 0 rfl) ?_
  refine lv_aload_n hx hb d_T_turn_1 rfl (lv_at hl 0 rfl) ?_
  refine va_get (D := D) (ci := 2) (v := .int (sg_hd g)) hx hb hT.lays ly_T hown hT.1 hP 0 rfl rfl 4 (by decide) (hT.w k_T_40) (fun _ h => h) rfl d_T_turn_2 ?_
  refine lv_iconst (v := 1) hx hb d_T_turn_5 (by decide) ?_
  refine lv_iadd hx hb d_T_turn_6 ?_
  refine lv_aload_n hx hb d_T_turn_7 rfl (lv_at hl 0 rfl) ?_
  refine va_get (D := D) (ci := 2) (v := .int (nI F)) hx hb hT.lays ly_T hown hT.1 hP 0 rfl rfl 1 (by decide) (hT.w k_T_26) (fun _ h => h) rfl d_T_turn_8 ?_
  refine lv_icmp_ne (tgt := 18) hx hb d_T_turn_11 (by decide) (fun hc => ?_) (fun hc => ?_)
  · have e1 : m_turn F (sg_hd g) = sg_hd g + 1 := if_neg hc
    rw [e1]
    refine lv_aload_n hx hb d_T_turn_18 rfl (lv_at hl 0 rfl) ?_
    refine va_get (D := D) (ci := 2) (v := .int (sg_hd g)) hx hb hT.lays ly_T hown hT.1 hP 0 rfl rfl 4 (by decide) (hT.w k_T_40) (fun _ h => h) rfl d_T_turn_19 ?_
    refine lv_iconst (v := 1) hx hb d_T_turn_22 (by decide) ?_
    refine lv_iadd hx hb d_T_turn_23 ?_
    refine va_put (D := D) (ci := 2) (v := .int ((sg_hd g) + 1)) (ty := .int) hx hb hT.lays ly_T ty_T ty_T_ok n_T hown hT.1 hP hD hS 0 rfl rfl 4 (by decide) (hT.w k_T_40) (fun _ h => h) rfl (by decide +kernel) rfl rfl (Nat.le_of_ble_eq_true rfl) d_T_turn_24 (fun H locs hP hD hS => ?_)
    have hP : va_P D vcl (tW b F S tI tZ tw (su_hd g ((sg_hd g) + 1))) H := hP
    have hD : va_D A (tW b F S tI tZ tw (su_hd g ((sg_hd g) + 1))) := hD
    refine ob_vret hlocks hx hb hr d_T_turn_27 hS.2.2 (fun t ht hW => ?_)
    exact ⟨rfl, by rw [ht]; exact hP, hD, hS.F ht⟩
  · have e1 : m_turn F (sg_hd g) = 0 := if_pos hc
    rw [e1]
    refine lv_iconst (v := 0) hx hb d_T_turn_14 (by decide) ?_
    refine lv_goto (tgt := 24) hx hb d_T_turn_15 (by decide) ?_
    refine va_put (D := D) (ci := 2) (v := .int 0) (ty := .int) hx hb hT.lays ly_T ty_T ty_T_ok n_T hown hT.1 hP hD hS 0 rfl rfl 4 (by decide) (hT.w k_T_40) (fun _ h => h) rfl (by decide +kernel) rfl rfl (Nat.le_of_ble_eq_true rfl) d_T_turn_24 (fun H locs hP hD hS => ?_)
    have hP : va_P D vcl (tW b F S tI tZ tw (su_hd g 0)) H := hP
    have hD : va_D A (tW b F S tI tZ tw (su_hd g 0)) := hD
    refine ob_vret hlocks hx hb hr d_T_turn_27 hS.2.2 (fun t ht hW => ?_)
    exact ⟨rfl, by rw [ht]; exact hP, hD, hS.F ht⟩

set_option maxHeartbeats 4000000 in
set_option maxRecDepth 100000 in
/-- T_getFrame -/
theorem c_T_getFrame (l : Launch) (D : va_G) (tI tZ tA tJ : ClassId) (b : Nat → Nat) (F S sz : Nat) (tw : Int32) (g : Sg)  : ob_M l y_T_getFrame w_T_getFrame ({ frames := 2, cells := 0, slots := 0, locals := 43 }) (pW D tI tZ tA tJ [.ref (b 0)] (tW b F S tI tZ tw g) sz (mg_ok F S g)) (ob_qW D vcl (some (.int ((m_getFrame F S g).1))) (tW b F S tI tZ tw ((m_getFrame F S g).2)) (va_A (tW b F S tI tZ tw g) sz)) 0 0 (va_A (tW b F S tI tZ tw g) sz) := by
  refine ob_ofW (by decide +kernel) ?_
  intro p e s m args below meth c s₁ B hml htab hv
  obtain ⟨rfl, hT, ⟨hF, hS10, hq⟩, hsz, hP, hD0⟩ := hv
  have hx := B.exec
  have hb := B.bytes
  have hr := B.returns
  have hlocks := B.notSynchronized
  have hown : s.vm.findClass R_T = some m.cls := findClass_of_methodNamed B.named
  have hl := lv_entry ([.ref (b 0)]) (n := 4) (Nat.le_of_ble_eq_true rfl)
  rw [lg_entry_eq]
  generalize (lg_sl ([.ref (b 0)]) ++ List.replicate (4 - (lg_sl ([.ref (b 0)])).length) Slot.unset).toArray = ls at hl ⊢
  have hl : lv_has ls 4 [(0, .ref (b 0))] := hl
  subst hsz
  have hD := hD0.self (sz := s.heap.size)
  generalize hAe : va_A (tW b F S tI tZ tw g) s.heap.size = A at hD ⊢
  have hA : ∀ q : Nat, s.heap.size ≤ q → A q := fun q h => by rw [← hAe]; exact Or.inr h
  have hS : va_S A s.heap s.heap [] := va_S.rf
  refine lv_aload_n hx hb d_T_getFrame_0 rfl (lv_at hl 0 rfl) ?_
  refine ob_callR (v := (some (.int (m_lowF (sg_li g) F 0)))) (ob_runV (n := 0) (As := []) (rest := []) (c_T_lowestFrame l D tI tZ tA tJ b F S tw g) (hT.ok ob_cd_c (by decide +kernel) rfl rfl (Nat.le_of_ble_eq_true rfl) (Nat.le_of_ble_eq_true rfl) kn_T kc_T_lowestFrame) hx hb hml hown (hT.w k_T_43) (hT.w ki_T_lowestFrame) (hT.w kv_T_lowestFrame) (va_recv (q0 := 0) (ci := 2) hT.1 hP rfl rfl) pR.blind (pR.at hT (by omega) hP) rfl rfl hl.1 rfl (lv_room (Nat.le_of_ble_eq_true rfl)) d_T_getFrame_1 ⟨Nat.le_of_ble_eq_true rfl, Nat.le_of_ble_eq_true rfl⟩) ?_
  refine W.eq (g2 := F0 m 4 ls [.int (m_lowF (sg_li g) F 0)]) rfl ?_
  refine lv_istore_n (lv' := [(1, .int (m_lowF (sg_li g) F 0)), (0, .ref (b 0))]) hx hb d_T_getFrame_4 rfl hl (by decide) rfl (fun ls hl => ?_)
  refine lv_iload_n hx hb d_T_getFrame_5 rfl (lv_at hl 0 rfl) ?_
  refine lv_if_lt (tgt := 11) hx hb d_T_getFrame_6 (by decide) (fun hc => ?_) (fun hc => ?_)
  · obtain ⟨hhd, hz0, hsa⟩ := hq hc
    obtain ⟨R, hR⟩ : ∃ R, m_sweep F 8 (sg_mk g) (sg_hd g) = R := ⟨_, rfl⟩
    rw [hR] at hz0 hsa
    have e0 : m_getFrame F S g = (R.2, su_hd (su_ev (su_li (su_mk g R.1) (upd (sg_li g) (ix (m_sheetAt (sg_li g) R.2)) (m_lowS (sg_li g) S 0))) (sg_ev g + 1)) (m_turn F R.2)) := by unfold m_getFrame; rw [if_pos hc]; unfold m_evict; rw [hR]
    rw [e0]
    have hend : ∀ (ls : Array Slot) (H : Heap) (locs : List Loc), lv_has ls 4 [(0, .ref (b 0))] → va_P D vcl (tW b F S tI tZ tw (su_hd (su_mk g R.1) R.2)) H → va_D A (tW b F S tI tZ tw (su_hd (su_mk g R.1) R.2)) → va_S A s.heap H locs → W p l e ({ frames := 2, cells := 0, slots := 0, locals := 43 } : Room) s m ([.ref (b 0)] : List Value).toArray below meth c H locs 0 0 (ob_Q below (ob_qW D vcl (some (.int R.2)) (tW b F S tI tZ tw (su_hd (su_ev (su_li (su_mk g R.1) (upd (sg_li g) (ix (m_sheetAt (sg_li g) R.2)) (m_lowS (sg_li g) S 0))) (sg_ev g + 1)) (m_turn F R.2))) A) ([.ref (b 0)] : List Value).toArray s 0 0 A) (F0 m 40 ls []) := by
      intro ls H locs hl hP hD hS
      refine lv_aload_n hx hb d_T_getFrame_40 rfl (lv_at hl 0 rfl) ?_
      refine va_get (D := D) (ci := 2) (v := .int R.2) hx hb hT.lays ly_T hown hT.1 hP 0 rfl rfl 4 (by decide) (hT.w k_T_40) (fun _ h => h) rfl d_T_getFrame_41 ?_
      refine lv_istore_n (lv' := [(2, .int R.2), (0, .ref (b 0))]) hx hb d_T_getFrame_44 rfl hl (by decide) rfl (fun ls hl => ?_)
      refine lv_aload_n hx hb d_T_getFrame_45 rfl (lv_at hl 1 rfl) ?_
      refine lv_iload_n hx hb d_T_getFrame_46 rfl (lv_at hl 0 rfl) ?_
      refine ob_callR (v := (some (.int (m_sheetAt (sg_li g) R.2)))) (ob_runV (n := 1) (As := [.int R.2]) (rest := []) (c_T_sheetAt l D tI tZ tA tJ b F S tw (su_hd (su_mk g R.1) R.2) R.2) (hT.ok ob_cd_c (by decide +kernel) rfl rfl (Nat.le_of_ble_eq_true rfl) (Nat.le_of_ble_eq_true rfl) kn_T kc_T_sheetAt) hx hb hml hown (hT.w k_T_36) (hT.w ki_T_sheetAt) (hT.w kv_T_sheetAt) (va_recv (q0 := 0) (ci := 2) hT.1 hP rfl rfl) pR.blind (pR.at hT (trivial) hP) rfl rfl hl.1 rfl (lv_room (Nat.le_of_ble_eq_true rfl)) d_T_getFrame_47 ⟨Nat.le_of_ble_eq_true rfl, Nat.le_of_ble_eq_true rfl⟩) ?_
      refine W.eq (g2 := F0 m 50 ls [.int (m_sheetAt (sg_li g) R.2)]) rfl ?_
      refine lv_istore_n (lv' := [(3, .int (m_sheetAt (sg_li g) R.2)), (2, .int R.2), (0, .ref (b 0))]) hx hb d_T_getFrame_50 rfl hl (by decide) rfl (fun ls hl => ?_)
      refine lv_aload_n hx hb d_T_getFrame_51 rfl (lv_at hl 2 rfl) ?_
      refine va_get (D := D) (ci := 2) (v := .ref (b 2)) hx hb hT.lays ly_T hown hT.1 hP 0 rfl rfl 5 (by decide) (hT.w k_T_13) (fun _ h => h) rfl d_T_getFrame_52 ?_
      refine lv_iload_n hx hb d_T_getFrame_55 rfl (lv_at hl 0 rfl) ?_
      refine lv_aload_n hx hb d_T_getFrame_56 rfl (lv_at hl 2 rfl) ?_
      refine ob_callR (v := (some (.int (m_lowS (sg_li g) S 0)))) (ob_runV (n := 0) (As := []) (rest := [.int (m_sheetAt (sg_li g) R.2), .ref (b 2)]) (c_T_lowestSlot l D tI tZ tA tJ b F S tw (su_hd (su_mk g R.1) R.2)) (hT.ok ob_cd_c (by decide +kernel) rfl rfl (Nat.le_of_ble_eq_true rfl) (Nat.le_of_ble_eq_true rfl) kn_T kc_T_lowestSlot) hx hb hml hown (hT.w k_T_50) (hT.w ki_T_lowestSlot) (hT.w kv_T_lowestSlot) (va_recv (q0 := 0) (ci := 2) hT.1 hP rfl rfl) pR.blind (pR.at hT (hS10) hP) rfl rfl hl.1 rfl (lv_room (Nat.le_of_ble_eq_true rfl)) d_T_getFrame_57 ⟨Nat.le_of_ble_eq_true rfl, Nat.le_of_ble_eq_true rfl⟩) ?_
      refine W.eq (g2 := F0 m 60 ls [.int (m_lowS (sg_li g) S 0), .int (m_sheetAt (sg_li g) R.2), .ref (b 2)]) rfl ?_
      refine va_iast hx hb hT.1 hP hD hS 2 0 rfl rfl (hsa) d_T_getFrame_60 (fun H locs hP hD hS => ?_)
      have hP : va_P D vcl (tW b F S tI tZ tw (su_hd (su_li (su_mk g R.1) (upd (sg_li g) (ix (m_sheetAt (sg_li g) R.2)) (m_lowS (sg_li g) S 0))) R.2)) H := hP
      have hD : va_D A (tW b F S tI tZ tw (su_hd (su_li (su_mk g R.1) (upd (sg_li g) (ix (m_sheetAt (sg_li g) R.2)) (m_lowS (sg_li g) S 0))) R.2)) := hD
      refine lv_aload_n hx hb d_T_getFrame_61 rfl (lv_at hl 2 rfl) ?_
      refine lv_dup hx hb d_T_getFrame_62 rfl ?_
      refine va_get (D := D) (ci := 2) (v := .int (sg_ev (su_hd (su_li (su_mk g R.1) (upd (sg_li g) (ix (m_sheetAt (sg_li g) R.2)) (m_lowS (sg_li g) S 0))) R.2))) hx hb hT.lays ly_T hown hT.1 hP 0 rfl rfl 10 (by decide) (hT.w k_T_53) (fun _ h => h) rfl d_T_getFrame_63 ?_
      refine lv_iconst (v := 1) hx hb d_T_getFrame_66 (by decide) ?_
      refine lv_iadd hx hb d_T_getFrame_67 ?_
      refine va_put (D := D) (ci := 2) (v := .int ((sg_ev g) + 1)) (ty := .int) hx hb hT.lays ly_T ty_T ty_T_ok n_T hown hT.1 hP hD hS 0 rfl rfl 10 (by decide) (hT.w k_T_53) (fun _ h => h) rfl (by decide +kernel) rfl rfl (Nat.le_of_ble_eq_true rfl) d_T_getFrame_68 (fun H locs hP hD hS => ?_)
      have hP : va_P D vcl (tW b F S tI tZ tw (su_hd (su_ev (su_li (su_mk g R.1) (upd (sg_li g) (ix (m_sheetAt (sg_li g) R.2)) (m_lowS (sg_li g) S 0))) (sg_ev g + 1)) R.2)) H := hP
      have hD : va_D A (tW b F S tI tZ tw (su_hd (su_ev (su_li (su_mk g R.1) (upd (sg_li g) (ix (m_sheetAt (sg_li g) R.2)) (m_lowS (sg_li g) S 0))) (sg_ev g + 1)) R.2)) := hD
      refine lv_aload_n hx hb d_T_getFrame_71 rfl (lv_at hl 2 rfl) ?_
      refine ob_callW (v := none) (X := []) (M := tW b F S tI tZ tw (su_hd (su_ev (su_li (su_mk g R.1) (upd (sg_li g) (ix (m_sheetAt (sg_li g) R.2)) (m_lowS (sg_li g) S 0))) (sg_ev g + 1)) R.2)) (M' := tW b F S tI tZ tw (su_hd (su_ev (su_li (su_mk g R.1) (upd (sg_li g) (ix (m_sheetAt (sg_li g) R.2)) (m_lowS (sg_li g) S 0))) (sg_ev g + 1)) (m_turn F R.2))) (ob_runV (n := 0) (As := []) (rest := []) (c_T_turn l D tI tZ tA tJ b F S H.size tw (su_hd (su_ev (su_li (su_mk g R.1) (upd (sg_li g) (ix (m_sheetAt (sg_li g) R.2)) (m_lowS (sg_li g) S 0))) (sg_ev g + 1)) R.2)) (hT.ok ob_cd_c (by decide +kernel) rfl rfl (Nat.le_of_ble_eq_true rfl) (Nat.le_of_ble_eq_true rfl) kn_T kc_T_turn) hx hb hml hown (hT.w k_T_47) (hT.w ki_T_turn) (hT.w kv_T_turn) (va_recv (q0 := 0) (ci := 2) hT.1 hP rfl rfl) pW.blind (pW.at hT (trivial) hP hD) rfl rfl hl.1 rfl (lv_room (Nat.le_of_ble_eq_true rfl)) d_T_getFrame_72 ⟨Nat.le_of_ble_eq_true rfl, Nat.le_of_ble_eq_true rfl⟩) hP hD hS hA (fun H locs hP hD hS => ?_)
      have hP : va_P D vcl (tW b F S tI tZ tw (su_hd (su_ev (su_li (su_mk g R.1) (upd (sg_li g) (ix (m_sheetAt (sg_li g) R.2)) (m_lowS (sg_li g) S 0))) (sg_ev g + 1)) (m_turn F R.2))) H := hP
      have hD : va_D A (tW b F S tI tZ tw (su_hd (su_ev (su_li (su_mk g R.1) (upd (sg_li g) (ix (m_sheetAt (sg_li g) R.2)) (m_lowS (sg_li g) S 0))) (sg_ev g + 1)) (m_turn F R.2))) := hD
      refine W.eq (g2 := F0 m 75 ls []) rfl ?_
      refine lv_iload_n hx hb d_T_getFrame_75 rfl (lv_at hl 1 rfl) ?_
      refine ob_iret hlocks hx hb hr d_T_getFrame_76 hS.2.2 (fun t ht hW => ?_)
      exact ⟨rfl, by rw [ht]; exact hP, hD, hS.F ht⟩
    have loop : ∀ (n : Nat) (mq : Nat → Int32) (h : Int32) (ls : Array Slot) (H : Heap) (locs : List Loc), m_sweep F n mq h = R → vp_in h F → lv_has ls 4 [(0, .ref (b 0))] → va_P D vcl (tW b F S tI tZ tw (su_hd (su_mk g mq) h)) H → va_D A (tW b F S tI tZ tw (su_hd (su_mk g mq) h)) → va_S A s.heap H locs → W p l e ({ frames := 2, cells := 0, slots := 0, locals := 43 } : Room) s m ([.ref (b 0)] : List Value).toArray below meth c H locs 0 0 (ob_Q below (ob_qW D vcl (some (.int R.2)) (tW b F S tI tZ tw (su_hd (su_ev (su_li (su_mk g R.1) (upd (sg_li g) (ix (m_sheetAt (sg_li g) R.2)) (m_lowS (sg_li g) S 0))) (sg_ev g + 1)) (m_turn F R.2))) A) ([.ref (b 0)] : List Value).toArray s 0 0 A) (F0 m 11 ls []) := by
      intro n
      induction n with
      | zero =>
        intro mq h ls H locs hs hh hl hP hD hS
        subst hs
        refine lv_aload_n hx hb d_T_getFrame_11 rfl (lv_at hl 0 rfl) ?_
        refine va_get (D := D) (ci := 2) (v := .ref (b 1)) hx hb hT.lays ly_T hown hT.1 hP 0 rfl rfl 3 (by decide) (hT.w k_T_7) (fun _ h => h) rfl d_T_getFrame_12 ?_
        refine lv_aload_n hx hb d_T_getFrame_15 rfl (lv_at hl 0 rfl) ?_
        refine va_get (D := D) (ci := 2) (v := .int h) hx hb hT.lays ly_T hown hT.1 hP 0 rfl rfl 4 (by decide) (hT.w k_T_40) (fun _ h => h) rfl d_T_getFrame_16 ?_
        refine va_zald hx hb hT.1 hP 1 1 rfl rfl (vp_in_mono hh hF) d_T_getFrame_19 ?_
        refine lv_if_eq (tgt := 40) hx hb d_T_getFrame_20 (by decide) (fun hc => ?_) (fun hc => absurd hz0 hc)
        exact hend ls H locs hl hP hD hS
      | succ n ih =>
        intro mq h ls H locs hs hh hl hP hD hS
        refine lv_aload_n hx hb d_T_getFrame_11 rfl (lv_at hl 0 rfl) ?_
        refine va_get (D := D) (ci := 2) (v := .ref (b 1)) hx hb hT.lays ly_T hown hT.1 hP 0 rfl rfl 3 (by decide) (hT.w k_T_7) (fun _ h => h) rfl d_T_getFrame_12 ?_
        refine lv_aload_n hx hb d_T_getFrame_15 rfl (lv_at hl 0 rfl) ?_
        refine va_get (D := D) (ci := 2) (v := .int h) hx hb hT.lays ly_T hown hT.1 hP 0 rfl rfl 4 (by decide) (hT.w k_T_40) (fun _ h => h) rfl d_T_getFrame_16 ?_
        refine va_zald hx hb hT.1 hP 1 1 rfl rfl (vp_in_mono hh hF) d_T_getFrame_19 ?_
        refine lv_if_eq (tgt := 40) hx hb d_T_getFrame_20 (by decide) (fun hc => ?_) (fun hc => ?_)
        · have e1 : m_sweep F (n + 1) mq h = (mq, h) := if_pos hc
          rw [e1] at hs
          subst hs
          exact hend ls H locs hl hP hD hS
        · have e1 : m_sweep F (n + 1) mq h = m_sweep F n (upd mq (ix h) 0) (m_turn F h) := if_neg hc
          rw [e1] at hs
          refine lv_aload_n hx hb d_T_getFrame_23 rfl (lv_at hl 0 rfl) ?_
          refine va_get (D := D) (ci := 2) (v := .ref (b 1)) hx hb hT.lays ly_T hown hT.1 hP 0 rfl rfl 3 (by decide) (hT.w k_T_7) (fun _ h => h) rfl d_T_getFrame_24 ?_
          refine lv_aload_n hx hb d_T_getFrame_27 rfl (lv_at hl 0 rfl) ?_
          refine va_get (D := D) (ci := 2) (v := .int h) hx hb hT.lays ly_T hown hT.1 hP 0 rfl rfl 4 (by decide) (hT.w k_T_40) (fun _ h => h) rfl d_T_getFrame_28 ?_
          refine lv_iconst (v := 0) hx hb d_T_getFrame_31 (by decide) ?_
          refine va_zast hx hb hT.1 hP hD hS 1 1 rfl rfl (vp_in_mono hh hF) d_T_getFrame_32 (fun H locs hP hD hS => ?_)
          rw [nar0] at hP hD
          have hP : va_P D vcl (tW b F S tI tZ tw (su_hd (su_mk g (upd mq (ix h) 0)) h)) H := hP
          have hD : va_D A (tW b F S tI tZ tw (su_hd (su_mk g (upd mq (ix h) 0)) h)) := hD
          refine lv_aload_n hx hb d_T_getFrame_33 rfl (lv_at hl 0 rfl) ?_
          refine ob_callW (v := none) (X := []) (M := tW b F S tI tZ tw (su_hd (su_mk g (upd mq (ix h) 0)) h)) (M' := tW b F S tI tZ tw (su_hd (su_mk g (upd mq (ix h) 0)) (m_turn F h))) (ob_runV (n := 0) (As := []) (rest := []) (c_T_turn l D tI tZ tA tJ b F S H.size tw (su_hd (su_mk g (upd mq (ix h) 0)) h)) (hT.ok ob_cd_c (by decide +kernel) rfl rfl (Nat.le_of_ble_eq_true rfl) (Nat.le_of_ble_eq_true rfl) kn_T kc_T_turn) hx hb hml hown (hT.w k_T_47) (hT.w ki_T_turn) (hT.w kv_T_turn) (va_recv (q0 := 0) (ci := 2) hT.1 hP rfl rfl) pW.blind (pW.at hT (trivial) hP hD) rfl rfl hl.1 rfl (lv_room (Nat.le_of_ble_eq_true rfl)) d_T_getFrame_34 ⟨Nat.le_of_ble_eq_true rfl, Nat.le_of_ble_eq_true rfl⟩) hP hD hS hA (fun H locs hP hD hS => ?_)
          have hP : va_P D vcl (tW b F S tI tZ tw (su_hd (su_mk g (upd mq (ix h) 0)) (m_turn F h))) H := hP
          have hD : va_D A (tW b F S tI tZ tw (su_hd (su_mk g (upd mq (ix h) 0)) (m_turn F h))) := hD
          refine W.eq (g2 := F0 m 37 ls []) rfl ?_
          refine lv_goto (tgt := 11) hx hb d_T_getFrame_37 (by decide) ?_
          exact ih _ _ ls H locs hs (m_turn_in hF hh) hl hP hD hS
    have hl : lv_has ls 4 [(0, .ref (b 0))] := lv_sub hl [1] rfl
    exact loop 8 (sg_mk g) (sg_hd g) ls s.heap [] hR hhd hl hP hD hS
  · have e1 : m_getFrame F S g = (m_lowF (sg_li g) F 0, g) := if_neg hc
    rw [e1]
    refine lv_iload_n hx hb d_T_getFrame_9 rfl (lv_at hl 0 rfl) ?_
    refine ob_iret hlocks hx hb hr d_T_getFrame_10 hS.2.2 (fun t ht hW => ?_)
    exact ⟨rfl, by rw [ht]; exact hP, hD, hS.F ht⟩

set_option maxHeartbeats 4000000 in
set_option maxRecDepth 100000 in
/-- T_make -/
theorem c_T_make (l : Launch) (D : va_G) (tI tZ tA tJ : ClassId) (b : Nat → Nat) (F S sz : Nat) (tw : Int32) (g : Sg) (x like : Int32) : ob_M l y_T_make w_T_make ({ frames := 3, cells := 0, slots := 0, locals := 66 }) (pW D tI tZ tA tJ [.ref (b 0), .int x, .int like] (tW b F S tI tZ tw g) sz (mm_ok F S g x like)) (ob_qW D vcl none (tW b F S tI tZ tw (m_make F S g x like)) (va_A (tW b F S tI tZ tw g) sz)) 0 0 (va_A (tW b F S tI tZ tw g) sz) := by
  refine ob_ofW (by decide +kernel) ?_
  intro p e s m args below meth c s₁ B hml htab hv
  obtain ⟨rfl, hT, ⟨hg, ha, hx0, hlk⟩, hsz, hP, hD0⟩ := hv
  have hx := B.exec
  have hb := B.bytes
  have hr := B.returns
  have hlocks := B.notSynchronized
  have hown : s.vm.findClass R_T = some m.cls := findClass_of_methodNamed B.named
  have hl := lv_entry ([.ref (b 0), .int x, .int like]) (n := 6) (Nat.le_of_ble_eq_true rfl)
  rw [lg_entry_eq]
  generalize (lg_sl ([.ref (b 0), .int x, .int like]) ++ List.replicate (6 - (lg_sl ([.ref (b 0), .int x, .int like])).length) Slot.unset).toArray = ls at hl ⊢
  have hl : lv_has ls 6 [(0, .ref (b 0)), (1, .int x), (2, .int like)] := hl
  subst hsz
  have hD := hD0.self (sz := s.heap.size)
  generalize hAe : va_A (tW b F S tI tZ tw g) s.heap.size = A at hD ⊢
  have hA : ∀ q : Nat, s.heap.size ≤ q → A q := fun q h => by rw [← hAe]; exact Or.inr h
  have hS : va_S A s.heap s.heap [] := va_S.rf
  refine lv_aload_n hx hb d_T_make_0 rfl (lv_at hl 0 rfl) ?_
  refine lv_iconst (v := -1) hx hb d_T_make_1 (by decide) ?_
  refine ob_callR (v := (some (.int (m_sheetAt (sg_li g) (-1))))) (ob_runV (n := 1) (As := [.int (-1)]) (rest := []) (c_T_sheetAt l D tI tZ tA tJ b F S tw g (-1)) (hT.ok ob_cd_c (by decide +kernel) rfl rfl (Nat.le_of_ble_eq_true rfl) (Nat.le_of_ble_eq_true rfl) kn_T kc_T_sheetAt) hx hb hml hown (hT.w k_T_36) (hT.w ki_T_sheetAt) (hT.w kv_T_sheetAt) (va_recv (q0 := 0) (ci := 2) hT.1 hP rfl rfl) pR.blind (pR.at hT (trivial) hP) rfl rfl hl.1 rfl (lv_room (Nat.le_of_ble_eq_true rfl)) d_T_make_2 ⟨Nat.le_of_ble_eq_true rfl, Nat.le_of_ble_eq_true rfl⟩) ?_
  refine W.eq (g2 := F0 m 5 ls [.int (m_sheetAt (sg_li g) (-1))]) rfl ?_
  refine lv_istore_n (lv' := [(3, .int (m_sheetAt (sg_li g) (-1))), (0, .ref (b 0)), (1, .int x), (2, .int like)]) hx hb d_T_make_5 rfl hl (by decide) rfl (fun ls hl => ?_)
  refine lv_aload_n hx hb d_T_make_6 rfl (lv_at hl 1 rfl) ?_
  refine ob_callW (v := (some (.int ((m_getFrame F S g).1)))) (X := []) (M := tW b F S tI tZ tw g) (M' := tW b F S tI tZ tw ((m_getFrame F S g).2)) (ob_runV (n := 0) (As := []) (rest := []) (c_T_getFrame l D tI tZ tA tJ b F S s.heap.size tw g) (hT.ok ob_cd_c (by decide +kernel) rfl rfl (Nat.le_of_ble_eq_true rfl) (Nat.le_of_ble_eq_true rfl) kn_T kc_T_getFrame) hx hb hml hown (hT.w k_T_56) (hT.w ki_T_getFrame) (hT.w kv_T_getFrame) (va_recv (q0 := 0) (ci := 2) hT.1 hP rfl rfl) pW.blind (pW.at hT (hg) hP hD) rfl rfl hl.1 rfl (lv_room (Nat.le_of_ble_eq_true rfl)) d_T_make_7 ⟨Nat.le_of_ble_eq_true rfl, Nat.le_of_ble_eq_true rfl⟩) hP hD hS hA (fun H locs hP hD hS => ?_)
  have hP : va_P D vcl (tW b F S tI tZ tw ((m_getFrame F S g).2)) H := hP
  have hD : va_D A (tW b F S tI tZ tw ((m_getFrame F S g).2)) := hD
  refine W.eq (g2 := F0 m 10 ls [.int ((m_getFrame F S g).1)]) rfl ?_
  refine lv_istore (lv' := [(4, .int ((m_getFrame F S g).1)), (3, .int (m_sheetAt (sg_li g) (-1))), (0, .ref (b 0)), (1, .int x), (2, .int like)]) hx hb d_T_make_10 hl (by decide) rfl (fun ls hl => ?_)
  refine lv_aload_n hx hb d_T_make_12 rfl (lv_at hl 2 rfl) ?_
  refine va_get (D := D) (ci := 2) (v := .ref (b 2)) hx hb hT.lays ly_T hown hT.1 hP 0 rfl rfl 5 (by decide) (hT.w k_T_13) (fun _ h => h) rfl d_T_make_13 ?_
  refine lv_iload_n hx hb d_T_make_16 rfl (lv_at hl 1 rfl) ?_
  refine lv_iload hx hb d_T_make_17 (lv_at hl 0 rfl) ?_
  refine va_iast hx hb hT.1 hP hD hS 2 0 rfl rfl (ha) d_T_make_19 (fun H locs hP hD hS => ?_)
  have hP : va_P D vcl (tW b F S tI tZ tw (su_li ((m_getFrame F S g).2) (upd (sg_li ((m_getFrame F S g).2)) (ix (m_sheetAt (sg_li g) (-1))) ((m_getFrame F S g).1)))) H := hP
  have hD : va_D A (tW b F S tI tZ tw (su_li ((m_getFrame F S g).2) (upd (sg_li ((m_getFrame F S g).2)) (ix (m_sheetAt (sg_li g) (-1))) ((m_getFrame F S g).1)))) := hD
  refine lv_iconst (v := 0) hx hb d_T_make_20 (by decide) ?_
  refine lv_istore (lv' := [(5, .int 0), (4, .int ((m_getFrame F S g).1)), (3, .int (m_sheetAt (sg_li g) (-1))), (0, .ref (b 0)), (1, .int x), (2, .int like)]) hx hb d_T_make_21 hl (by decide) rfl (fun ls hl => ?_)
  have loop : ∀ (n i : Nat) (q : Nat → Int32) (ls : Array Slot) (H : Heap) (locs : List Loc), i + n = 4 → m_cpw like (m_sheetAt (sg_li g) (-1)) n i q = m_cpw like (m_sheetAt (sg_li g) (-1)) 4 0 (sg_wd (m_getFrame F S g).2) → lv_has ls 6 [(5, .int (nI i)), (4, .int ((m_getFrame F S g).1)), (3, .int (m_sheetAt (sg_li g) (-1))), (0, .ref (b 0)), (1, .int x), (2, .int like)] → va_P D vcl (tW b F S tI tZ tw (su_wd (su_li (m_getFrame F S g).2 (upd (sg_li (m_getFrame F S g).2) (ix (m_sheetAt (sg_li g) (-1))) (m_getFrame F S g).1)) q)) H → va_D A (tW b F S tI tZ tw (su_wd (su_li (m_getFrame F S g).2 (upd (sg_li (m_getFrame F S g).2) (ix (m_sheetAt (sg_li g) (-1))) (m_getFrame F S g).1)) q)) → va_S A s.heap H locs → W p l e ({ frames := 3, cells := 0, slots := 0, locals := 66 } : Room) s m ([.ref (b 0), .int x, .int like] : List Value).toArray below meth c H locs 0 0 (ob_Q below (ob_qW D vcl none (tW b F S tI tZ tw (m_make F S g x like)) A) ([.ref (b 0), .int x, .int like] : List Value).toArray s 0 0 A) (F0 m 23 ls []) := by
    intro n
    induction n with
    | zero =>
      intro i q ls H locs hi hR hl hP hD hS
      refine lv_iload hx hb d_T_make_23 (lv_at hl 0 rfl) ?_
      refine lv_iconst (v := 4) hx hb d_T_make_25 (by decide) ?_
      refine lv_icmp_ge (tgt := 65) hx hb d_T_make_26 (by decide) (fun hc => ?_) (fun hc => absurd (nI_le (a := 4) (by omega) (by omega)) hc)
      have e2 : q = m_cpw like (m_sheetAt (sg_li g) (-1)) 4 0 (sg_wd (m_getFrame F S g).2) := hR
      rw [e2] at hP hD
      refine lv_aload_n hx hb d_T_make_65 rfl (lv_at hl 3 rfl) ?_
      refine va_get (D := D) (ci := 2) (v := .ref (b 5)) hx hb hT.lays ly_T hown hT.1 hP 0 rfl rfl 8 (by decide) (hT.w k_T_23) (fun _ h => h) rfl d_T_make_66 ?_
      refine lv_iload_n hx hb d_T_make_69 rfl (lv_at hl 4 rfl) ?_
      refine lv_iload_n hx hb d_T_make_70 rfl (lv_at hl 2 rfl) ?_
      refine va_iast hx hb hT.1 hP hD hS 5 0 rfl rfl (hx0) d_T_make_71 (fun H locs hP hD hS => ?_)
      have hP : va_P D vcl (tW b F S tI tZ tw (su_pg (su_wd (su_li (m_getFrame F S g).2 (upd (sg_li (m_getFrame F S g).2) (ix (m_sheetAt (sg_li g) (-1))) (m_getFrame F S g).1)) (m_cpw like (m_sheetAt (sg_li g) (-1)) 4 0 (sg_wd (m_getFrame F S g).2))) (upd (sg_pg (m_getFrame F S g).2) (ix x) (m_sheetAt (sg_li g) (-1))))) H := hP
      have hD : va_D A (tW b F S tI tZ tw (su_pg (su_wd (su_li (m_getFrame F S g).2 (upd (sg_li (m_getFrame F S g).2) (ix (m_sheetAt (sg_li g) (-1))) (m_getFrame F S g).1)) (m_cpw like (m_sheetAt (sg_li g) (-1)) 4 0 (sg_wd (m_getFrame F S g).2))) (upd (sg_pg (m_getFrame F S g).2) (ix x) (m_sheetAt (sg_li g) (-1))))) := hD
      refine lv_aload_n hx hb d_T_make_72 rfl (lv_at hl 3 rfl) ?_
      refine lv_dup hx hb d_T_make_73 rfl ?_
      refine va_get (D := D) (ci := 2) (v := .int (sg_fl (su_pg (su_wd (su_li (m_getFrame F S g).2 (upd (sg_li (m_getFrame F S g).2) (ix (m_sheetAt (sg_li g) (-1))) (m_getFrame F S g).1)) (m_cpw like (m_sheetAt (sg_li g) (-1)) 4 0 (sg_wd (m_getFrame F S g).2))) (upd (sg_pg (m_getFrame F S g).2) (ix x) (m_sheetAt (sg_li g) (-1)))))) hx hb hT.lays ly_T hown hT.1 hP 0 rfl rfl 9 (by decide) (hT.w k_T_59) (fun _ h => h) rfl d_T_make_74 ?_
      refine lv_iconst (v := 1) hx hb d_T_make_77 (by decide) ?_
      refine lv_iadd hx hb d_T_make_78 ?_
      refine va_put (D := D) (ci := 2) (v := .int ((sg_fl (m_getFrame F S g).2) + 1)) (ty := .int) hx hb hT.lays ly_T ty_T ty_T_ok n_T hown hT.1 hP hD hS 0 rfl rfl 9 (by decide) (hT.w k_T_59) (fun _ h => h) rfl (by decide +kernel) rfl rfl (Nat.le_of_ble_eq_true rfl) d_T_make_79 (fun H locs hP hD hS => ?_)
      have hP : va_P D vcl (tW b F S tI tZ tw (m_make F S g x like)) H := hP
      have hD : va_D A (tW b F S tI tZ tw (m_make F S g x like)) := hD
      refine ob_vret hlocks hx hb hr d_T_make_82 hS.2.2 (fun t ht hW => ?_)
      exact ⟨rfl, by rw [ht]; exact hP, hD, hS.F ht⟩
    | succ n ih =>
      intro i q ls H locs hi hR hl hP hD hS
      refine lv_iload hx hb d_T_make_23 (lv_at hl 0 rfl) ?_
      refine lv_iconst (v := 4) hx hb d_T_make_25 (by decide) ?_
      refine lv_icmp_ge (tgt := 65) hx hb d_T_make_26 (by decide) (fun hc => absurd hc (nI_ge (b := 4) (by omega) (by omega))) (fun hc => ?_)
      refine lv_aload_n hx hb d_T_make_29 rfl (lv_at hl 3 rfl) ?_
      refine va_get (D := D) (ci := 2) (v := .ref (b 3)) hx hb hT.lays ly_T hown hT.1 hP 0 rfl rfl 6 (by decide) (hT.w k_T_17) (fun _ h => h) rfl d_T_make_30 ?_
      refine lv_iconst (v := 4) hx hb d_T_make_33 (by decide) ?_
      refine lv_iload_n hx hb d_T_make_34 rfl (lv_at hl 2 rfl) ?_
      refine lv_imul hx hb d_T_make_35 ?_
      refine lv_iload hx hb d_T_make_36 (lv_at hl 0 rfl) ?_
      refine lv_iadd hx hb d_T_make_38 ?_
      refine lv_iload_n hx hb d_T_make_39 rfl (lv_at hl 5 rfl) ?_
      refine lv_if_ge (tgt := 47) hx hb d_T_make_40 (by decide) (fun hc => ?_) (fun hc => ?_)
      · have e3 : m_cpw like (m_sheetAt (sg_li g) (-1)) (n + 1) i q = m_cpw like (m_sheetAt (sg_li g) (-1)) n (i + 1) (upd q (ix (4 * (m_sheetAt (sg_li g) (-1)) + nI i)) (q (ix (4 * like + nI i)))) := by show m_cpw like (m_sheetAt (sg_li g) (-1)) n (i + 1) (upd q (ix (4 * (m_sheetAt (sg_li g) (-1)) + nI i)) (if 0 ≤ like then q (ix (4 * like + nI i)) else 0)) = _; rw [if_pos hc]
        rw [e3] at hR
        refine lv_aload_n hx hb d_T_make_47 rfl (lv_at hl 3 rfl) ?_
        refine va_get (D := D) (ci := 2) (v := .ref (b 3)) hx hb hT.lays ly_T hown hT.1 hP 0 rfl rfl 6 (by decide) (hT.w k_T_17) (fun _ h => h) rfl d_T_make_48 ?_
        refine lv_iconst (v := 4) hx hb d_T_make_51 (by decide) ?_
        refine lv_iload_n hx hb d_T_make_52 rfl (lv_at hl 5 rfl) ?_
        refine lv_imul hx hb d_T_make_53 ?_
        refine lv_iload hx hb d_T_make_54 (lv_at hl 0 rfl) ?_
        refine lv_iadd hx hb d_T_make_56 ?_
        refine va_iald hx hb hT.1 hP 3 0 rfl rfl (ix4 (hlk hc) (by omega)) d_T_make_57 ?_
        refine va_iast hx hb hT.1 hP hD hS 3 0 rfl rfl (ix4 ha (by omega)) d_T_make_58 (fun H locs hP hD hS => ?_)
        have hP : va_P D vcl (tW b F S tI tZ tw (su_wd (su_li (m_getFrame F S g).2 (upd (sg_li (m_getFrame F S g).2) (ix (m_sheetAt (sg_li g) (-1))) (m_getFrame F S g).1)) (upd q (ix (4 * (m_sheetAt (sg_li g) (-1)) + nI i)) (q (ix (4 * like + nI i)))))) H := hP
        have hD : va_D A (tW b F S tI tZ tw (su_wd (su_li (m_getFrame F S g).2 (upd (sg_li (m_getFrame F S g).2) (ix (m_sheetAt (sg_li g) (-1))) (m_getFrame F S g).1)) (upd q (ix (4 * (m_sheetAt (sg_li g) (-1)) + nI i)) (q (ix (4 * like + nI i)))))) := hD
        refine lv_iinc (k := 0) (v := nI (i + 1)) (lv' := [(5, .int (nI (i + 1))), (4, .int ((m_getFrame F S g).1)), (3, .int (m_sheetAt (sg_li g) (-1))), (0, .ref (b 0)), (1, .int x), (2, .int like)]) hx hb d_T_make_59 hl rfl (nI_1 i) (by decide) rfl (fun ls hl => ?_)
        refine lv_goto (tgt := 23) hx hb d_T_make_62 (by decide) ?_
        exact ih (i + 1) _ ls H locs (by omega) hR hl hP hD hS
      · have e3 : m_cpw like (m_sheetAt (sg_li g) (-1)) (n + 1) i q = m_cpw like (m_sheetAt (sg_li g) (-1)) n (i + 1) (upd q (ix (4 * (m_sheetAt (sg_li g) (-1)) + nI i)) (0)) := by show m_cpw like (m_sheetAt (sg_li g) (-1)) n (i + 1) (upd q (ix (4 * (m_sheetAt (sg_li g) (-1)) + nI i)) (if 0 ≤ like then q (ix (4 * like + nI i)) else 0)) = _; rw [if_neg hc]
        rw [e3] at hR
        refine lv_iconst (v := 0) hx hb d_T_make_43 (by decide) ?_
        refine lv_goto (tgt := 58) hx hb d_T_make_44 (by decide) ?_
        refine va_iast hx hb hT.1 hP hD hS 3 0 rfl rfl (ix4 ha (by omega)) d_T_make_58 (fun H locs hP hD hS => ?_)
        have hP : va_P D vcl (tW b F S tI tZ tw (su_wd (su_li (m_getFrame F S g).2 (upd (sg_li (m_getFrame F S g).2) (ix (m_sheetAt (sg_li g) (-1))) (m_getFrame F S g).1)) (upd q (ix (4 * (m_sheetAt (sg_li g) (-1)) + nI i)) (0)))) H := hP
        have hD : va_D A (tW b F S tI tZ tw (su_wd (su_li (m_getFrame F S g).2 (upd (sg_li (m_getFrame F S g).2) (ix (m_sheetAt (sg_li g) (-1))) (m_getFrame F S g).1)) (upd q (ix (4 * (m_sheetAt (sg_li g) (-1)) + nI i)) (0)))) := hD
        refine lv_iinc (k := 0) (v := nI (i + 1)) (lv' := [(5, .int (nI (i + 1))), (4, .int ((m_getFrame F S g).1)), (3, .int (m_sheetAt (sg_li g) (-1))), (0, .ref (b 0)), (1, .int x), (2, .int like)]) hx hb d_T_make_59 hl rfl (nI_1 i) (by decide) rfl (fun ls hl => ?_)
        refine lv_goto (tgt := 23) hx hb d_T_make_62 (by decide) ?_
        exact ih (i + 1) _ ls H locs (by omega) hR hl hP hD hS
  exact loop 4 0 (sg_wd (m_getFrame F S g).2) ls H locs rfl rfl hl hP hD hS

set_option maxHeartbeats 4000000 in
set_option maxRecDepth 100000 in
/-- T_bringIn -/
theorem c_T_bringIn (l : Launch) (D : va_G) (tI tZ tA tJ : ClassId) (b : Nat → Nat) (F S sz : Nat) (tw : Int32) (g : Sg) (a : Int32) : ob_M l y_T_bringIn w_T_bringIn ({ frames := 3, cells := 0, slots := 0, locals := 66 }) (pW D tI tZ tA tJ [.ref (b 0), .int a] (tW b F S tI tZ tw g) sz (mb_ok F S g a)) (ob_qW D vcl none (tW b F S tI tZ tw (m_bringIn F S g a)) (va_A (tW b F S tI tZ tw g) sz)) 0 0 (va_A (tW b F S tI tZ tw g) sz) := by
  refine ob_ofW (by decide +kernel) ?_
  intro p e s m args below meth c s₁ B hml htab hv
  obtain ⟨rfl, hT, ⟨ha, hq⟩, hsz, hP, hD0⟩ := hv
  have hx := B.exec
  have hb := B.bytes
  have hr := B.returns
  have hlocks := B.notSynchronized
  have hown : s.vm.findClass R_T = some m.cls := findClass_of_methodNamed B.named
  have hl := lv_entry ([.ref (b 0), .int a]) (n := 3) (Nat.le_of_ble_eq_true rfl)
  rw [lg_entry_eq]
  generalize (lg_sl ([.ref (b 0), .int a]) ++ List.replicate (3 - (lg_sl ([.ref (b 0), .int a])).length) Slot.unset).toArray = ls at hl ⊢
  have hl : lv_has ls 3 [(0, .ref (b 0)), (1, .int a)] := hl
  subst hsz
  have hD := hD0.self (sz := s.heap.size)
  generalize hAe : va_A (tW b F S tI tZ tw g) s.heap.size = A at hD ⊢
  have hA : ∀ q : Nat, s.heap.size ≤ q → A q := fun q h => by rw [← hAe]; exact Or.inr h
  have hS : va_S A s.heap s.heap [] := va_S.rf
  refine lv_aload_n hx hb d_T_bringIn_0 rfl (lv_at hl 0 rfl) ?_
  refine va_get (D := D) (ci := 2) (v := .ref (b 2)) hx hb hT.lays ly_T hown hT.1 hP 0 rfl rfl 5 (by decide) (hT.w k_T_13) (fun _ h => h) rfl d_T_bringIn_1 ?_
  refine lv_iload_n hx hb d_T_bringIn_4 rfl (lv_at hl 1 rfl) ?_
  refine va_iald hx hb hT.1 hP 2 0 rfl rfl (ha) d_T_bringIn_5 ?_
  refine lv_bipush (v := 100) hx hb d_T_bringIn_6 (by decide) ?_
  refine lv_icmp_lt (tgt := 40) hx hb d_T_bringIn_8 (by decide) (fun hc => ?_) (fun hc => ?_)
  · have e1 : m_bringIn F S g a = g := if_pos hc
    rw [e1]
    refine ob_vret hlocks hx hb hr d_T_bringIn_40 hS.2.2 (fun t ht hW => ?_)
    exact ⟨rfl, by rw [ht]; exact hP, hD, hS.F ht⟩
  · have e1 : m_bringIn F S g a = su_fl (su_li (m_getFrame F S (su_li g (upd (sg_li g) (ix a) (-1)))).2 (upd (sg_li (m_getFrame F S (su_li g (upd (sg_li g) (ix a) (-1)))).2) (ix a) (m_getFrame F S (su_li g (upd (sg_li g) (ix a) (-1)))).1)) (sg_fl (m_getFrame F S (su_li g (upd (sg_li g) (ix a) (-1)))).2 + 1) := if_neg hc
    rw [e1]
    refine lv_aload_n hx hb d_T_bringIn_11 rfl (lv_at hl 0 rfl) ?_
    refine va_get (D := D) (ci := 2) (v := .ref (b 2)) hx hb hT.lays ly_T hown hT.1 hP 0 rfl rfl 5 (by decide) (hT.w k_T_13) (fun _ h => h) rfl d_T_bringIn_12 ?_
    refine lv_iload_n hx hb d_T_bringIn_15 rfl (lv_at hl 1 rfl) ?_
    refine lv_iconst (v := -1) hx hb d_T_bringIn_16 (by decide) ?_
    refine va_iast hx hb hT.1 hP hD hS 2 0 rfl rfl (ha) d_T_bringIn_17 (fun H locs hP hD hS => ?_)
    have hP : va_P D vcl (tW b F S tI tZ tw (su_li g (upd (sg_li g) (ix a) (-1)))) H := hP
    have hD : va_D A (tW b F S tI tZ tw (su_li g (upd (sg_li g) (ix a) (-1)))) := hD
    refine lv_aload_n hx hb d_T_bringIn_18 rfl (lv_at hl 0 rfl) ?_
    refine ob_callW (v := (some (.int ((m_getFrame F S (su_li g (upd (sg_li g) (ix a) (-1)))).1)))) (X := []) (M := tW b F S tI tZ tw (su_li g (upd (sg_li g) (ix a) (-1)))) (M' := tW b F S tI tZ tw ((m_getFrame F S (su_li g (upd (sg_li g) (ix a) (-1)))).2)) (ob_runV (n := 0) (As := []) (rest := []) (c_T_getFrame l D tI tZ tA tJ b F S H.size tw (su_li g (upd (sg_li g) (ix a) (-1)))) (hT.ok ob_cd_c (by decide +kernel) rfl rfl (Nat.le_of_ble_eq_true rfl) (Nat.le_of_ble_eq_true rfl) kn_T kc_T_getFrame) hx hb hml hown (hT.w k_T_56) (hT.w ki_T_getFrame) (hT.w kv_T_getFrame) (va_recv (q0 := 0) (ci := 2) hT.1 hP rfl rfl) pW.blind (pW.at hT (hq hc) hP hD) rfl rfl hl.1 rfl (lv_room (Nat.le_of_ble_eq_true rfl)) d_T_bringIn_19 ⟨Nat.le_of_ble_eq_true rfl, Nat.le_of_ble_eq_true rfl⟩) hP hD hS hA (fun H locs hP hD hS => ?_)
    have hP : va_P D vcl (tW b F S tI tZ tw ((m_getFrame F S (su_li g (upd (sg_li g) (ix a) (-1)))).2)) H := hP
    have hD : va_D A (tW b F S tI tZ tw ((m_getFrame F S (su_li g (upd (sg_li g) (ix a) (-1)))).2)) := hD
    refine W.eq (g2 := F0 m 22 ls [.int ((m_getFrame F S (su_li g (upd (sg_li g) (ix a) (-1)))).1)]) rfl ?_
    refine lv_istore_n (lv' := [(2, .int ((m_getFrame F S (su_li g (upd (sg_li g) (ix a) (-1)))).1)), (0, .ref (b 0)), (1, .int a)]) hx hb d_T_bringIn_22 rfl hl (by decide) rfl (fun ls hl => ?_)
    refine lv_aload_n hx hb d_T_bringIn_23 rfl (lv_at hl 1 rfl) ?_
    refine va_get (D := D) (ci := 2) (v := .ref (b 2)) hx hb hT.lays ly_T hown hT.1 hP 0 rfl rfl 5 (by decide) (hT.w k_T_13) (fun _ h => h) rfl d_T_bringIn_24 ?_
    refine lv_iload_n hx hb d_T_bringIn_27 rfl (lv_at hl 2 rfl) ?_
    refine lv_iload_n hx hb d_T_bringIn_28 rfl (lv_at hl 0 rfl) ?_
    refine va_iast hx hb hT.1 hP hD hS 2 0 rfl rfl (ha) d_T_bringIn_29 (fun H locs hP hD hS => ?_)
    have hP : va_P D vcl (tW b F S tI tZ tw (su_li ((m_getFrame F S (su_li g (upd (sg_li g) (ix a) (-1)))).2) (upd (sg_li ((m_getFrame F S (su_li g (upd (sg_li g) (ix a) (-1)))).2)) (ix a) ((m_getFrame F S (su_li g (upd (sg_li g) (ix a) (-1)))).1)))) H := hP
    have hD : va_D A (tW b F S tI tZ tw (su_li ((m_getFrame F S (su_li g (upd (sg_li g) (ix a) (-1)))).2) (upd (sg_li ((m_getFrame F S (su_li g (upd (sg_li g) (ix a) (-1)))).2)) (ix a) ((m_getFrame F S (su_li g (upd (sg_li g) (ix a) (-1)))).1)))) := hD
    refine lv_aload_n hx hb d_T_bringIn_30 rfl (lv_at hl 1 rfl) ?_
    refine lv_dup hx hb d_T_bringIn_31 rfl ?_
    refine va_get (D := D) (ci := 2) (v := .int (sg_fl (su_li ((m_getFrame F S (su_li g (upd (sg_li g) (ix a) (-1)))).2) (upd (sg_li ((m_getFrame F S (su_li g (upd (sg_li g) (ix a) (-1)))).2)) (ix a) ((m_getFrame F S (su_li g (upd (sg_li g) (ix a) (-1)))).1))))) hx hb hT.lays ly_T hown hT.1 hP 0 rfl rfl 9 (by decide) (hT.w k_T_59) (fun _ h => h) rfl d_T_bringIn_32 ?_
    refine lv_iconst (v := 1) hx hb d_T_bringIn_35 (by decide) ?_
    refine lv_iadd hx hb d_T_bringIn_36 ?_
    refine va_put (D := D) (ci := 2) (v := .int ((sg_fl (m_getFrame F S (su_li g (upd (sg_li g) (ix a) (-1)))).2) + 1)) (ty := .int) hx hb hT.lays ly_T ty_T ty_T_ok n_T hown hT.1 hP hD hS 0 rfl rfl 9 (by decide) (hT.w k_T_59) (fun _ h => h) rfl (by decide +kernel) rfl rfl (Nat.le_of_ble_eq_true rfl) d_T_bringIn_37 (fun H locs hP hD hS => ?_)
    have hP : va_P D vcl (tW b F S tI tZ tw (su_fl (su_li ((m_getFrame F S (su_li g (upd (sg_li g) (ix a) (-1)))).2) (upd (sg_li ((m_getFrame F S (su_li g (upd (sg_li g) (ix a) (-1)))).2)) (ix a) ((m_getFrame F S (su_li g (upd (sg_li g) (ix a) (-1)))).1))) ((sg_fl (m_getFrame F S (su_li g (upd (sg_li g) (ix a) (-1)))).2) + 1))) H := hP
    have hD : va_D A (tW b F S tI tZ tw (su_fl (su_li ((m_getFrame F S (su_li g (upd (sg_li g) (ix a) (-1)))).2) (upd (sg_li ((m_getFrame F S (su_li g (upd (sg_li g) (ix a) (-1)))).2)) (ix a) ((m_getFrame F S (su_li g (upd (sg_li g) (ix a) (-1)))).1))) ((sg_fl (m_getFrame F S (su_li g (upd (sg_li g) (ix a) (-1)))).2) + 1))) := hD
    refine ob_vret hlocks hx hb hr d_T_bringIn_40 hS.2.2 (fun t ht hW => ?_)
    exact ⟨rfl, by rw [ht]; exact hP, hD, hS.F ht⟩

set_option maxHeartbeats 4000000 in
set_option maxRecDepth 100000 in
/-- T_empty -/
theorem c_T_empty (l : Launch) (D : va_G) (tI tZ tA tJ : ClassId) (b : Nat → Nat) (F S sz : Nat) (tw : Int32) (g : Sg) (x : Int32) : ob_M l y_T_empty w_T_empty ({ frames := 1, cells := 0, slots := 0, locals := 23 }) (pW D tI tZ tA tJ [.ref (b 0), .int x] (tW b F S tI tZ tw g) sz (me_ok g x)) (ob_qW D vcl (some (.int ((m_empty g x).1))) (tW b F S tI tZ tw ((m_empty g x).2)) (va_A (tW b F S tI tZ tw g) sz)) 0 0 (va_A (tW b F S tI tZ tw g) sz) := by
  refine ob_ofW (by decide +kernel) ?_
  intro p e s m args below meth c s₁ B hml htab hv
  obtain ⟨rfl, hT, ⟨hx0, hq⟩, hsz, hP, hD0⟩ := hv
  have hx := B.exec
  have hb := B.bytes
  have hr := B.returns
  have hlocks := B.notSynchronized
  have hown : s.vm.findClass R_T = some m.cls := findClass_of_methodNamed B.named
  have hl := lv_entry ([.ref (b 0), .int x]) (n := 3) (Nat.le_of_ble_eq_true rfl)
  rw [lg_entry_eq]
  generalize (lg_sl ([.ref (b 0), .int x]) ++ List.replicate (3 - (lg_sl ([.ref (b 0), .int x])).length) Slot.unset).toArray = ls at hl ⊢
  have hl : lv_has ls 3 [(0, .ref (b 0)), (1, .int x)] := hl
  subst hsz
  have hD := hD0.self (sz := s.heap.size)
  generalize hAe : va_A (tW b F S tI tZ tw g) s.heap.size = A at hD ⊢
  have hA : ∀ q : Nat, s.heap.size ≤ q → A q := fun q h => by rw [← hAe]; exact Or.inr h
  have hS : va_S A s.heap s.heap [] := va_S.rf
  refine lv_aload_n hx hb d_T_empty_0 rfl (lv_at hl 0 rfl) ?_
  refine va_get (D := D) (ci := 2) (v := .ref (b 5)) hx hb hT.lays ly_T hown hT.1 hP 0 rfl rfl 8 (by decide) (hT.w k_T_23) (fun _ h => h) rfl d_T_empty_1 ?_
  refine lv_iload_n hx hb d_T_empty_4 rfl (lv_at hl 1 rfl) ?_
  refine va_iald hx hb hT.1 hP 5 0 rfl rfl (hx0) d_T_empty_5 ?_
  refine lv_istore_n (lv' := [(2, .int ((sg_pg g) (ix x))), (0, .ref (b 0)), (1, .int x)]) hx hb d_T_empty_6 rfl hl (by decide) rfl (fun ls hl => ?_)
  refine lv_aload_n hx hb d_T_empty_7 rfl (lv_at hl 1 rfl) ?_
  refine va_get (D := D) (ci := 2) (v := .ref (b 5)) hx hb hT.lays ly_T hown hT.1 hP 0 rfl rfl 8 (by decide) (hT.w k_T_23) (fun _ h => h) rfl d_T_empty_8 ?_
  refine lv_iload_n hx hb d_T_empty_11 rfl (lv_at hl 2 rfl) ?_
  refine lv_iconst (v := -1) hx hb d_T_empty_12 (by decide) ?_
  refine va_iast hx hb hT.1 hP hD hS 5 0 rfl rfl (hx0) d_T_empty_13 (fun H locs hP hD hS => ?_)
  have hP : va_P D vcl (tW b F S tI tZ tw (su_pg g (upd (sg_pg g) (ix x) (-1)))) H := hP
  have hD : va_D A (tW b F S tI tZ tw (su_pg g (upd (sg_pg g) (ix x) (-1)))) := hD
  refine lv_iload_n hx hb d_T_empty_14 rfl (lv_at hl 0 rfl) ?_
  refine lv_if_lt (tgt := 26) hx hb d_T_empty_15 (by decide) (fun hc => ?_) (fun hc => ?_)
  · have e1 : m_empty g x = (0, su_pg g (upd (sg_pg g) (ix x) (-1))) := if_pos hc
    rw [e1]
    refine lv_iconst (v := 0) hx hb d_T_empty_26 (by decide) ?_
    refine ob_zret hlocks hx hb hr d_T_empty_27 (rfl) hS.2.2 (fun t ht hW => ?_)
    exact ⟨rfl, by rw [ht]; exact hP, hD, hS.F ht⟩
  · have hc0 := hc
    refine lv_aload_n hx hb d_T_empty_18 rfl (lv_at hl 1 rfl) ?_
    refine lv_iload_n hx hb d_T_empty_19 rfl (lv_at hl 0 rfl) ?_
    refine ob_callR (v := (some (.int (m_owners (upd (sg_pg g) (ix x) (-1)) (sg_pg g (ix x)))))) (ob_runV (n := 1) (As := [.int (sg_pg g (ix x))]) (rest := []) (c_T_owners l D tI tZ tA tJ b F S tw (su_pg g (upd (sg_pg g) (ix x) (-1))) (sg_pg g (ix x))) (hT.ok ob_cd_c (by decide +kernel) rfl rfl (Nat.le_of_ble_eq_true rfl) (Nat.le_of_ble_eq_true rfl) kn_T kc_T_owners) hx hb hml hown (hT.w k_T_62) (hT.w ki_T_owners) (hT.w kv_T_owners) (va_recv (q0 := 0) (ci := 2) hT.1 hP rfl rfl) pR.blind (pR.at hT (trivial) hP) rfl rfl hl.1 rfl (lv_room (Nat.le_of_ble_eq_true rfl)) d_T_empty_20 ⟨Nat.le_of_ble_eq_true rfl, Nat.le_of_ble_eq_true rfl⟩) ?_
    refine W.eq (g2 := F0 m 23 ls [.int (m_owners (upd (sg_pg g) (ix x) (-1)) (sg_pg g (ix x)))]) rfl ?_
    refine lv_if_le (tgt := 28) hx hb d_T_empty_23 (by decide) (fun hc => ?_) (fun hc => ?_)
    · obtain ⟨ha, hl8⟩ := hq hc0 hc
      have e1 : m_empty g x = (1, m_emp g x (sg_pg g (ix x))) := by unfold m_empty; rw [if_neg hc0, if_pos hc]
      rw [e1]
      unfold m_emp
      refine lv_aload_n hx hb d_T_empty_28 rfl (lv_at hl 1 rfl) ?_
      refine va_get (D := D) (ci := 2) (v := .ref (b 2)) hx hb hT.lays ly_T hown hT.1 hP 0 rfl rfl 5 (by decide) (hT.w k_T_13) (fun _ h => h) rfl d_T_empty_29 ?_
      refine lv_iload_n hx hb d_T_empty_32 rfl (lv_at hl 0 rfl) ?_
      refine va_iald hx hb hT.1 hP 2 0 rfl rfl (ha) d_T_empty_33 ?_
      refine lv_bipush (v := 100) hx hb d_T_empty_34 (by decide) ?_
      refine lv_icmp_ge (tgt := 51) hx hb d_T_empty_36 (by decide) (fun hc => ?_) (fun hc => ?_)
      · rw [if_pos hc]
        refine lv_aload_n hx hb d_T_empty_51 rfl (lv_at hl 1 rfl) ?_
        refine va_get (D := D) (ci := 2) (v := .ref (b 2)) hx hb hT.lays ly_T hown hT.1 hP 0 rfl rfl 5 (by decide) (hT.w k_T_13) (fun _ h => h) rfl d_T_empty_52 ?_
        refine lv_iload_n hx hb d_T_empty_55 rfl (lv_at hl 0 rfl) ?_
        refine lv_iconst (v := -1) hx hb d_T_empty_56 (by decide) ?_
        refine va_iast hx hb hT.1 hP hD hS 2 0 rfl rfl (ha) d_T_empty_57 (fun H locs hP hD hS => ?_)
        have hP : va_P D vcl (tW b F S tI tZ tw (su_li (su_pg g (upd (sg_pg g) (ix x) (-1))) (upd (sg_li (su_pg g (upd (sg_pg g) (ix x) (-1)))) (ix ((sg_pg g) (ix x))) (-1)))) H := hP
        have hD : va_D A (tW b F S tI tZ tw (su_li (su_pg g (upd (sg_pg g) (ix x) (-1))) (upd (sg_li (su_pg g (upd (sg_pg g) (ix x) (-1)))) (ix ((sg_pg g) (ix x))) (-1)))) := hD
        refine lv_iconst (v := 1) hx hb d_T_empty_58 (by decide) ?_
        refine ob_zret hlocks hx hb hr d_T_empty_59 (rfl) hS.2.2 (fun t ht hW => ?_)
        exact ⟨rfl, by rw [ht]; exact hP, hD, hS.F ht⟩
      · rw [if_neg hc]
        refine lv_aload_n hx hb d_T_empty_39 rfl (lv_at hl 1 rfl) ?_
        refine va_get (D := D) (ci := 2) (v := .ref (b 1)) hx hb hT.lays ly_T hown hT.1 hP 0 rfl rfl 3 (by decide) (hT.w k_T_7) (fun _ h => h) rfl d_T_empty_40 ?_
        refine lv_aload_n hx hb d_T_empty_43 rfl (lv_at hl 1 rfl) ?_
        refine va_get (D := D) (ci := 2) (v := .ref (b 2)) hx hb hT.lays ly_T hown hT.1 hP 0 rfl rfl 5 (by decide) (hT.w k_T_13) (fun _ h => h) rfl d_T_empty_44 ?_
        refine lv_iload_n hx hb d_T_empty_47 rfl (lv_at hl 0 rfl) ?_
        refine va_iald hx hb hT.1 hP 2 0 rfl rfl (ha) d_T_empty_48 ?_
        refine lv_iconst (v := 0) hx hb d_T_empty_49 (by decide) ?_
        refine va_zast hx hb hT.1 hP hD hS 1 1 rfl rfl (hl8 hc) d_T_empty_50 (fun H locs hP hD hS => ?_)
        rw [nar0] at hP hD
        have hP : va_P D vcl (tW b F S tI tZ tw (su_mk (su_pg g (upd (sg_pg g) (ix x) (-1))) (upd (sg_mk (su_pg g (upd (sg_pg g) (ix x) (-1)))) (ix (sg_li g (ix (sg_pg g (ix x))))) 0))) H := hP
        have hD : va_D A (tW b F S tI tZ tw (su_mk (su_pg g (upd (sg_pg g) (ix x) (-1))) (upd (sg_mk (su_pg g (upd (sg_pg g) (ix x) (-1)))) (ix (sg_li g (ix (sg_pg g (ix x))))) 0))) := hD
        refine lv_aload_n hx hb d_T_empty_51 rfl (lv_at hl 1 rfl) ?_
        refine va_get (D := D) (ci := 2) (v := .ref (b 2)) hx hb hT.lays ly_T hown hT.1 hP 0 rfl rfl 5 (by decide) (hT.w k_T_13) (fun _ h => h) rfl d_T_empty_52 ?_
        refine lv_iload_n hx hb d_T_empty_55 rfl (lv_at hl 0 rfl) ?_
        refine lv_iconst (v := -1) hx hb d_T_empty_56 (by decide) ?_
        refine va_iast hx hb hT.1 hP hD hS 2 0 rfl rfl (ha) d_T_empty_57 (fun H locs hP hD hS => ?_)
        have hP : va_P D vcl (tW b F S tI tZ tw (su_li (su_mk (su_pg g (upd (sg_pg g) (ix x) (-1))) (upd (sg_mk (su_pg g (upd (sg_pg g) (ix x) (-1)))) (ix (sg_li g (ix (sg_pg g (ix x))))) 0)) (upd (sg_li (su_mk (su_pg g (upd (sg_pg g) (ix x) (-1))) (upd (sg_mk (su_pg g (upd (sg_pg g) (ix x) (-1)))) (ix (sg_li g (ix (sg_pg g (ix x))))) 0))) (ix ((sg_pg g) (ix x))) (-1)))) H := hP
        have hD : va_D A (tW b F S tI tZ tw (su_li (su_mk (su_pg g (upd (sg_pg g) (ix x) (-1))) (upd (sg_mk (su_pg g (upd (sg_pg g) (ix x) (-1)))) (ix (sg_li g (ix (sg_pg g (ix x))))) 0)) (upd (sg_li (su_mk (su_pg g (upd (sg_pg g) (ix x) (-1))) (upd (sg_mk (su_pg g (upd (sg_pg g) (ix x) (-1)))) (ix (sg_li g (ix (sg_pg g (ix x))))) 0))) (ix ((sg_pg g) (ix x))) (-1)))) := hD
        refine lv_iconst (v := 1) hx hb d_T_empty_58 (by decide) ?_
        refine ob_zret hlocks hx hb hr d_T_empty_59 (rfl) hS.2.2 (fun t ht hW => ?_)
        exact ⟨rfl, by rw [ht]; exact hP, hD, hS.F ht⟩
    · have e1 : m_empty g x = (0, su_pg g (upd (sg_pg g) (ix x) (-1))) := by unfold m_empty; rw [if_neg hc0, if_neg hc]
      rw [e1]
      refine lv_iconst (v := 0) hx hb d_T_empty_26 (by decide) ?_
      refine ob_zret hlocks hx hb hr d_T_empty_27 (rfl) hS.2.2 (fun t ht hW => ?_)
      exact ⟨rfl, by rw [ht]; exact hP, hD, hS.F ht⟩
