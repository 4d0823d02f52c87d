set_option maxHeartbeats 4000000 in
set_option maxRecDepth 100000 in
/-- placeOf -/
theorem c_M_placeOf (l : Launch) (D : va_G) (tI tZ tA tJ : ClassId) (b : Nat → Nat) (F S : Nat) (k : KM) (a : Int32) : ob_M l y_M_placeOf w_M_placeOf ({ frames := 0, cells := 0, slots := 0, locals := 0 }) (pR D tI tZ tA tJ [.ref (b 9), .int a] (mW b F S tI tZ tA k) (vp_in a (F + S))) (ob_qR (some (.int (km_pl k (ix a))))) 0 0 (fun _ => False) := by
  refine ob_ofW (by decide +kernel) ?_
  intro p e s m args below meth c s₁ B hml htab hv
  obtain ⟨rfl, hT, hin, hP⟩ := hv
  have hx := B.exec
  have hb := B.bytes
  have hr := B.returns
  have hlocks := B.notSynchronized
  have hown : s.vm.findClass R_M = some m.cls := findClass_of_methodNamed B.named
  have hl := lv_entry ([.ref (b 9), .int a]) (n := 2) (Nat.le_of_ble_eq_true rfl)
  rw [lg_entry_eq]
  generalize (lg_sl ([.ref (b 9), .int a]) ++ List.replicate (2 - (lg_sl ([.ref (b 9), .int a])).length) Slot.unset).toArray = ls at hl ⊢
  have hl : lv_has ls 2 [(0, .ref (b 9)), (1, .int a)] := hl
  refine lv_aload_n hx hb d_M_placeOf_0 rfl (lv_at hl 0 rfl) ?_
  refine va_get (D := D) (ci := 1) (v := .ref (b 13)) hx hb hT.lays ly_M hown hT.1 hP 0 rfl rfl 3 (by decide) (hT.w k_M_26) (fun _ h => h) rfl d_M_placeOf_1 ?_
  refine lv_iload_n hx hb d_M_placeOf_4 rfl (lv_at hl 1 rfl) ?_
  refine va_iald hx hb hT.1 hP 4 0 rfl rfl (hin) d_M_placeOf_5 ?_
  refine ob_iret hlocks hx hb hr d_M_placeOf_6 (fun q hq => nomatch hq) (fun t ht hW => ?_)
  exact ⟨rfl, ht⟩

set_option maxHeartbeats 4000000 in
set_option maxRecDepth 100000 in
/-- pagesOf -/
theorem c_M_pagesOf (l : Launch) (D : va_G) (tI tZ tA tJ : ClassId) (b : Nat → Nat) (F S : Nat) (k : KM) (a : Int32) : ob_M l y_M_pagesOf w_M_pagesOf ({ frames := 0, cells := 0, slots := 0, locals := 0 }) (pR D tI tZ tA tJ [.ref (b 9), .int a] (mW b F S tI tZ tA k) (vp_in a (F + S))) (ob_qR (some (.int (km_ct k (ix a))))) 0 0 (fun _ => False) := by
  refine ob_ofW (by decide +kernel) ?_
  intro p e s m args below meth c s₁ B hml htab hv
  obtain ⟨rfl, hT, hin, hP⟩ := hv
  have hx := B.exec
  have hb := B.bytes
  have hr := B.returns
  have hlocks := B.notSynchronized
  have hown : s.vm.findClass R_M = some m.cls := findClass_of_methodNamed B.named
  have hl := lv_entry ([.ref (b 9), .int a]) (n := 2) (Nat.le_of_ble_eq_true rfl)
  rw [lg_entry_eq]
  generalize (lg_sl ([.ref (b 9), .int a]) ++ List.replicate (2 - (lg_sl ([.ref (b 9), .int a])).length) Slot.unset).toArray = ls at hl ⊢
  have hl : lv_has ls 2 [(0, .ref (b 9)), (1, .int a)] := hl
  refine lv_aload_n hx hb d_M_pagesOf_0 rfl (lv_at hl 0 rfl) ?_
  refine va_get (D := D) (ci := 1) (v := .ref (b 14)) hx hb hT.lays ly_M hown hT.1 hP 0 rfl rfl 4 (by decide) (hT.w k_M_29) (fun _ h => h) rfl d_M_pagesOf_1 ?_
  refine lv_iload_n hx hb d_M_pagesOf_4 rfl (lv_at hl 1 rfl) ?_
  refine va_iald hx hb hT.1 hP 5 0 rfl rfl (hin) d_M_pagesOf_5 ?_
  refine ob_iret hlocks hx hb hr d_M_pagesOf_6 (fun q hq => nomatch hq) (fun t ht hW => ?_)
  exact ⟨rfl, ht⟩

set_option maxHeartbeats 4000000 in
set_option maxRecDepth 100000 in
/-- moveHand -/
theorem c_M_moveHand (l : Launch) (D : va_G) (tI tZ tA tJ : ClassId) (b : Nat → Nat) (F S sz : Nat) (k : KM) : ob_M l y_M_moveHand w_M_moveHand ({ frames := 0, cells := 0, slots := 0, locals := 0 }) (pW D tI tZ tA tJ [.ref (b 9)] (mW b F S tI tZ tA k) sz True) (ob_qW D vcl none (mW b F S tI tZ tA (ku_hd k (k_next F (km_hd k)))) (va_A (mW b F S tI tZ tA k) sz)) 0 0 (va_A (mW b F S tI tZ tA k) sz) := by
  refine ob_ofW (by decide +kernel) ?_
  intro p e s m args below meth c s₁ B hml htab hv
  obtain ⟨rfl, hT, -, hsz, hP, hD0⟩ := hv
  have hx := B.exec
  have hb := B.bytes
  have hr := B.returns
  have hlocks := B.notSynchronized
  have hown : s.vm.findClass R_M = some m.cls := findClass_of_methodNamed B.named
  have hl := lv_entry ([.ref (b 9)]) (n := 1) (Nat.le_of_ble_eq_true rfl)
  rw [lg_entry_eq]
  generalize (lg_sl ([.ref (b 9)]) ++ List.replicate (1 - (lg_sl ([.ref (b 9)])).length) Slot.unset).toArray = ls at hl ⊢
  have hl : lv_has ls 1 [(0, .ref (b 9))] := hl
  subst hsz
  have hD := hD0.self (sz := s.heap.size)
  generalize hAe : va_A (mW b F S tI tZ tA k) s.heap.size = A at hD ⊢
  have hA : ∀ q : Nat, s.heap.size ≤ q → A q := fun q h => by rw [← hAe]; exact Or.inr h
  have hS : va_S A s.heap s.heap [] := va_S.rf
  refine lv_aload_n hx hb d_M_moveHand_0 rfl (lv_at hl 0 rfl) ?_
  refine lv_aload_n hx hb d_M_moveHand_1 rfl (lv_at hl 0 rfl) ?_
  refine va_get (D := D) (ci := 1) (v := .int (km_hd k)) hx hb hT.lays ly_M hown hT.1 hP 0 rfl rfl 6 (by decide) (hT.w k_M_79) (fun _ h => h) rfl d_M_moveHand_2 ?_
  refine lv_iconst (v := 1) hx hb d_M_moveHand_5 (by decide) ?_
  refine lv_iadd hx hb d_M_moveHand_6 ?_
  refine lv_aload_n hx hb d_M_moveHand_7 rfl (lv_at hl 0 rfl) ?_
  refine va_get (D := D) (ci := 1) (v := .ref (b 12)) hx hb hT.lays ly_M hown hT.1 hP 0 rfl rfl 2 (by decide) (hT.w k_M_22) (fun _ h => h) rfl d_M_moveHand_8 ?_
  refine va_alen (v := nI F) hx hb hT.1 hP 3 1 rfl rfl rfl d_M_moveHand_11 ?_
  refine lv_icmp_ge (tgt := 24) hx hb d_M_moveHand_12 (by decide) (fun hc => ?_) (fun hc => ?_)
  · refine lv_iconst (v := 0) hx hb d_M_moveHand_24 (by decide) ?_
    refine va_put (D := D) (ci := 1) (v := .int 0) (ty := .int) hx hb hT.lays ly_M ty_M ty_M_ok n_M hown hT.1 hP hD hS 0 rfl rfl 6 (by decide) (hT.w k_M_79) (fun _ h => h) rfl (by decide +kernel) rfl rfl (Nat.le_of_ble_eq_true rfl) d_M_moveHand_25 (fun H locs hP hD hS => ?_)
    have hP : va_P D vcl (mW b F S tI tZ tA (ku_hd k 0)) H := hP
    have hD : va_D A (mW b F S tI tZ tA (ku_hd k 0)) := hD
    refine ob_vret hlocks hx hb hr d_M_moveHand_28 hS.2.2 (fun t ht hW => ?_)
    have e1 : k_next F (km_hd k) = 0 := if_pos hc
    rw [e1]
    exact ⟨rfl, by rw [ht]; exact hP, hD, hS.F ht⟩
  · refine lv_aload_n hx hb d_M_moveHand_15 rfl (lv_at hl 0 rfl) ?_
    refine va_get (D := D) (ci := 1) (v := .int (km_hd k)) hx hb hT.lays ly_M hown hT.1 hP 0 rfl rfl 6 (by decide) (hT.w k_M_79) (fun _ h => h) rfl d_M_moveHand_16 ?_
    refine lv_iconst (v := 1) hx hb d_M_moveHand_19 (by decide) ?_
    refine lv_iadd hx hb d_M_moveHand_20 ?_
    refine lv_goto (tgt := 25) hx hb d_M_moveHand_21 (by decide) ?_
    refine va_put (D := D) (ci := 1) (v := .int ((km_hd k) + 1)) (ty := .int) hx hb hT.lays ly_M ty_M ty_M_ok n_M hown hT.1 hP hD hS 0 rfl rfl 6 (by decide) (hT.w k_M_79) (fun _ h => h) rfl (by decide +kernel) rfl rfl (Nat.le_of_ble_eq_true rfl) d_M_moveHand_25 (fun H locs hP hD hS => ?_)
    have hP : va_P D vcl (mW b F S tI tZ tA (ku_hd k ((km_hd k) + 1))) H := hP
    have hD : va_D A (mW b F S tI tZ tA (ku_hd k ((km_hd k) + 1))) := hD
    refine ob_vret hlocks hx hb hr d_M_moveHand_28 hS.2.2 (fun t ht hW => ?_)
    have e1 : k_next F (km_hd k) = km_hd k + 1 := if_neg hc
    rw [e1]
    exact ⟨rfl, by rw [ht]; exact hP, hD, hS.F ht⟩
