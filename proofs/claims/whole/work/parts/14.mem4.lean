set_option maxHeartbeats 4000000 in
set_option maxRecDepth 100000 in
/-- M_copyWords -/
theorem c_M_copyWords (l : Launch) (D : va_G) (tI tZ tA tJ : ClassId) (b : Nat → Nat) (F S sz : Nat) (k : KM) (a d : Int32) : ob_M l y_M_copyWords w_M_copyWords ({ frames := 1, cells := 0, slots := 0, locals := 60 }) (pW D tI tZ tA tJ [.ref (b 9), .int a, .int d] (mW b F S tI tZ tA k) sz (vp_in a (F + S) ∧ vp_in d (F + S))) (ob_qW D vcl none (mW b F S tI tZ tA (k_cpw k a d)) (va_A (mW b F S tI tZ tA k) sz)) 0 0 (va_A (mW b F S tI tZ tA k) sz) := by
  refine ob_ofW (by decide +kernel) ?_
  intro p e s m args below meth c s₁ B hml htab hv
  obtain ⟨rfl, hT, ⟨ha, hd⟩, hsz, hP, hD0⟩ := hv
  have hx := B.exec
  have hb := B.bytes
  have hr := B.returns
  have hlocks := B.notSynchronized
  have hown : s.vm.findClass R_M = some m.cls := findClass_of_methodNamed B.named
  have hl := lv_entry ([.ref (b 9), .int a, .int d]) (n := 3) (Nat.le_of_ble_eq_true rfl)
  rw [lg_entry_eq]
  generalize (lg_sl ([.ref (b 9), .int a, .int d]) ++ List.replicate (3 - (lg_sl ([.ref (b 9), .int a, .int d])).length) Slot.unset).toArray = ls at hl ⊢
  have hl : lv_has ls 3 [(0, .ref (b 9)), (1, .int a), (2, .int d)] := hl
  subst hsz
  have hD := hD0.self (sz := s.heap.size)
  generalize hAe : va_A (mW b F S tI tZ tA k) s.heap.size = A at hD ⊢
  have hA : ∀ q : Nat, s.heap.size ≤ q → A q := fun q h => by rw [← hAe]; exact Or.inr h
  have hS : va_S A s.heap s.heap [] := va_S.rf
  refine lv_aload_n hx hb d_M_copyWords_0 rfl (lv_at hl 0 rfl) ?_
  refine va_get (D := D) (ci := 1) (v := .ref (b 15)) hx hb hT.lays ly_M hown hT.1 hP 0 rfl rfl 5 (by decide) (hT.w k_M_34) (fun _ h => h) rfl d_M_copyWords_1 ?_
  refine lv_iload_n hx hb d_M_copyWords_4 rfl (lv_at hl 1 rfl) ?_
  refine ob_aald hx hb hT.1 hP 6 2 rfl rfl (ha) d_M_copyWords_5 ?_
  refine lv_iconst (v := 0) hx hb d_M_copyWords_6 (by decide) ?_
  refine lv_aload_n hx hb d_M_copyWords_7 rfl (lv_at hl 0 rfl) ?_
  refine va_get (D := D) (ci := 1) (v := .ref (b 15)) hx hb hT.lays ly_M hown hT.1 hP 0 rfl rfl 5 (by decide) (hT.w k_M_34) (fun _ h => h) rfl d_M_copyWords_8 ?_
  refine lv_iload_n hx hb d_M_copyWords_11 rfl (lv_at hl 2 rfl) ?_
  refine ob_aald hx hb hT.1 hP 6 2 rfl rfl (hd) d_M_copyWords_12 ?_
  refine lv_iconst (v := 0) hx hb d_M_copyWords_13 (by decide) ?_
  refine lv_iconst (v := 4) hx hb d_M_copyWords_14 (by decide) ?_
  refine va_copyi hx hb (hml.trans hl.1.symm) hown (hT.w k_M_41) (hT.w kN_S_arraycopy) (hT.w ks_S_arraycopy) (hT.w kn_S) hT.1 hP hD hS (7 + ix a) (7 + ix d) 0 0 (pl_get (vp_ix ha) rfl) (pl_get (vp_ix hd) rfl) rfl rfl rfl (by decide) (by decide) (by decide) (by decide) (by decide) (fun i _ => rfl) (Nat.le_of_ble_eq_true rfl) (Nat.le_of_ble_eq_true rfl) d_M_copyWords_15 (fun H locs hP hD hS => ?_)
  rw [mW_row (vp_ix hd)] at hP hD
  have hP : va_P D vcl (mW b F S tI tZ tA (k_cpw k a d)) H := hP
  have hD : va_D A (mW b F S tI tZ tA (k_cpw k a d)) := hD
  refine ob_vret hlocks hx hb hr d_M_copyWords_18 hS.2.2 (fun t ht hW => ?_)
  exact ⟨rfl, by rw [ht]; exact hP, hD, hS.F ht⟩

set_option maxHeartbeats 4000000 in
set_option maxRecDepth 100000 in
/-- M_make -/
theorem c_M_make (l : Launch) (D : va_G) (tI tZ tA tJ : ClassId) (b : Nat → Nat) (F S sz : Nat) (k : KM)  : ob_M l y_M_make w_M_make ({ frames := 3, cells := 0, slots := 0, locals := 65 }) (pW D tI tZ tA tJ [.ref (b 9)] (mW b F S tI tZ tA k) sz (mk_ok F S k)) (ob_qW D vcl (some (.int ((k_make F S k).1))) (mW b F S tI tZ tA ((k_make F S k).2)) (va_A (mW b F S tI tZ tA k) sz)) 0 0 (va_A (mW b F S tI tZ tA k) sz) := by
  refine ob_ofW (by decide +kernel) ?_
  intro p e s m args below meth c s₁ B hml htab hv
  obtain ⟨rfl, hT, hq, hsz, hP, hD0⟩ := hv
  have hx := B.exec
  have hb := B.bytes
  have hr := B.returns
  have hlocks := B.notSynchronized
  have hown : s.vm.findClass R_M = some m.cls := findClass_of_methodNamed B.named
  have hl := lv_entry ([.ref (b 9)]) (n := 3) (Nat.le_of_ble_eq_true rfl)
  rw [lg_entry_eq]
  generalize (lg_sl ([.ref (b 9)]) ++ List.replicate (3 - (lg_sl ([.ref (b 9)])).length) Slot.unset).toArray = ls at hl ⊢
  have hl : lv_has ls 3 [(0, .ref (b 9))] := hl
  subst hsz
  have hD := hD0.self (sz := s.heap.size)
  generalize hAe : va_A (mW b F S tI tZ tA k) s.heap.size = A at hD ⊢
  have hA : ∀ q : Nat, s.heap.size ≤ q → A q := fun q h => by rw [← hAe]; exact Or.inr h
  have hS : va_S A s.heap s.heap [] := va_S.rf
  obtain ⟨hF, hS10, hq⟩ := hq
  refine lv_aload_n hx hb d_M_make_0 rfl (lv_at hl 0 rfl) ?_
  refine va_get (D := D) (ci := 1) (v := .ref (b 13)) hx hb hT.lays ly_M hown hT.1 hP 0 rfl rfl 3 (by decide) (hT.w k_M_26) (fun _ h => h) rfl d_M_make_1 ?_
  refine ob_callR (v := (some (.int (k_low (km_pl k) (F + S) 0)))) (ob_runSN (n := 1) (As := [.ref (b 13)]) (rest := []) (c_X_lowestFree l D tI tZ tA tJ (b 13) (F + S) (km_pl k)) (hT.ok ob_cd_c (by decide +kernel) rfl rfl (Nat.le_of_ble_eq_true rfl) (Nat.le_of_ble_eq_true rfl) kn_X kc_X_lowestFree) hx hb hml hown (hT.w k_M_47) (hT.w ks_X_lowestFree) pR.blind (pR.at hT (by omega) (hP.sub [4] rfl)) rfl rfl hl.1 rfl (lv_room (Nat.le_of_ble_eq_true rfl)) d_M_make_4 ⟨Nat.le_of_ble_eq_true rfl, Nat.le_of_ble_eq_true rfl⟩) ?_
  refine W.eq (g2 := F0 m 7 ls [.int (k_low (km_pl k) (F + S) 0)]) rfl ?_
  refine lv_istore_n (lv' := [(1, .int (k_low (km_pl k) (F + S) 0)), (0, .ref (b 9))]) hx hb d_M_make_7 rfl hl (by decide) rfl (fun ls hl => ?_)
  refine lv_iload_n hx hb d_M_make_8 rfl (lv_at hl 0 rfl) ?_
  refine lv_iconst (v := -1) hx hb d_M_make_9 (by decide) ?_
  refine lv_icmp_ne (tgt := 17) hx hb d_M_make_10 (by decide) (fun hc => ?_) (fun hc => ?_)
  · obtain ⟨hgf, hain, hfin⟩ := hq hc
    have hc1 := hc
    refine lv_aload_n hx hb d_M_make_17 rfl (lv_at hl 1 rfl) ?_
    refine ob_callW (v := (some (.int ((k_getFrame F S k).1)))) (X := []) (M := mW b F S tI tZ tA k) (M' := mW b F S tI tZ tA ((k_getFrame F S k).2)) (ob_runV (n := 0) (As := []) (rest := []) (c_M_getFrame l D tI tZ tA tJ b F S s.heap.size k) (hT.ok ob_cd_c (by decide +kernel) rfl rfl (Nat.le_of_ble_eq_true rfl) (Nat.le_of_ble_eq_true rfl) kn_M kc_M_getFrame) hx hb hml hown (hT.w k_M_51) (hT.w ki_M_getFrame) (hT.w kv_M_getFrame) (va_recv (q0 := 0) (ci := 1) hT.1 hP rfl rfl) pW.blind (pW.at hT (hgf) hP hD) rfl rfl hl.1 rfl (lv_room (Nat.le_of_ble_eq_true rfl)) d_M_make_18 ⟨Nat.le_of_ble_eq_true rfl, Nat.le_of_ble_eq_true rfl⟩) hP hD hS hA (fun H locs hP hD hS => ?_)
    have hP : va_P D vcl (mW b F S tI tZ tA ((k_getFrame F S k).2)) H := hP
    have hD : va_D A (mW b F S tI tZ tA ((k_getFrame F S k).2)) := hD
    refine W.eq (g2 := F0 m 21 ls [.int ((k_getFrame F S k).1)]) rfl ?_
    refine lv_istore_n (lv' := [(2, .int ((k_getFrame F S k).1)), (1, .int (k_low (km_pl k) (F + S) 0)), (0, .ref (b 9))]) hx hb d_M_make_21 rfl hl (by decide) rfl (fun ls hl => ?_)
    refine lv_iload_n hx hb d_M_make_22 rfl (lv_at hl 0 rfl) ?_
    refine lv_iconst (v := -1) hx hb d_M_make_23 (by decide) ?_
    refine lv_icmp_ne (tgt := 29) hx hb d_M_make_24 (by decide) (fun hc => ?_) (fun hc => ?_)
    · have e1 : k_make F S k = (k_low (km_pl k) (F + S) 0, k_lay (ku_ct (ku_wd (k_getFrame F S k).2 (up2 (km_wd (k_getFrame F S k).2) (ix (k_low (km_pl k) (F + S) 0)) (fun _ => 0))) (upd (km_ct (k_getFrame F S k).2) (ix (k_low (km_pl k) (F + S) 0)) 1)) (k_low (km_pl k) (F + S) 0) (k_getFrame F S k).1) := by unfold k_make; rw [if_neg hc1, if_neg hc]
      rw [e1]
      refine lv_aload_n hx hb d_M_make_29 rfl (lv_at hl 2 rfl) ?_
      refine va_get (D := D) (ci := 1) (v := .ref (b 15)) hx hb hT.lays ly_M hown hT.1 hP 0 rfl rfl 5 (by decide) (hT.w k_M_34) (fun _ h => h) rfl d_M_make_30 ?_
      refine lv_iload_n hx hb d_M_make_33 rfl (lv_at hl 1 rfl) ?_
      refine ob_aald hx hb hT.1 hP 6 2 rfl rfl (hain) d_M_make_34 ?_
      refine lv_iconst (v := 0) hx hb d_M_make_35 (by decide) ?_
      refine ob_callC (v := none) (q0 := 7 + ix (k_low (km_pl k) (F + S) 0)) (ob_runS (n := 2) (As := [.ref (b (16 + ix (k_low (km_pl k) (F + S) 0))), .int 0]) (rest := []) (c_A_fill l D tI tZ tA tJ (b (16 + ix (k_low (km_pl k) (F + S) 0))) 4 H.size (km_wd (k_getFrame F S k).2 (ix (k_low (km_pl k) (F + S) 0))) 0) (hT.ok ob_cd_c (by decide +kernel) rfl rfl (Nat.le_of_ble_eq_true rfl) (Nat.le_of_ble_eq_true rfl) kn_A kc_A_fill) hx hb hml hown (hT.w k_M_55) (hT.w ks_A_fill) pW.blind (pW.at hT (by omega) (ob_P1 hP (pl_get (vp_ix hain) rfl)) (ob_D1 hD (pl_get (vp_ix hain) rfl))) rfl rfl hl.1 rfl (lv_room (Nat.le_of_ble_eq_true rfl)) d_M_make_36 ⟨Nat.le_of_ble_eq_true rfl, Nat.le_of_ble_eq_true rfl⟩) (pl_get (vp_ix hain) rfl) hP hD hS hA (fun H locs hP hD hS => ?_)
      rw [mW_row (vp_ix hain)] at hP hD
      have hP : va_P D vcl (mW b F S tI tZ tA (ku_wd (k_getFrame F S k).2 (up2 (km_wd (k_getFrame F S k).2) (ix (k_low (km_pl k) (F + S) 0)) (fun _ => 0)))) H := hP
      have hD : va_D A (mW b F S tI tZ tA (ku_wd (k_getFrame F S k).2 (up2 (km_wd (k_getFrame F S k).2) (ix (k_low (km_pl k) (F + S) 0)) (fun _ => 0)))) := hD
      refine W.eq (g2 := F0 m 39 ls []) rfl ?_
      refine lv_aload_n hx hb d_M_make_39 rfl (lv_at hl 2 rfl) ?_
      refine va_get (D := D) (ci := 1) (v := .ref (b 14)) hx hb hT.lays ly_M hown hT.1 hP 0 rfl rfl 4 (by decide) (hT.w k_M_29) (fun _ h => h) rfl d_M_make_40 ?_
      refine lv_iload_n hx hb d_M_make_43 rfl (lv_at hl 1 rfl) ?_
      refine lv_iconst (v := 1) hx hb d_M_make_44 (by decide) ?_
      refine va_iast hx hb hT.1 hP hD hS 5 0 rfl rfl (hain) d_M_make_45 (fun H locs hP hD hS => ?_)
      have hP : va_P D vcl (mW b F S tI tZ tA (ku_ct (ku_wd (k_getFrame F S k).2 (up2 (km_wd (k_getFrame F S k).2) (ix (k_low (km_pl k) (F + S) 0)) (fun _ => 0))) (upd (km_ct (k_getFrame F S k).2) (ix (k_low (km_pl k) (F + S) 0)) 1))) H := hP
      have hD : va_D A (mW b F S tI tZ tA (ku_ct (ku_wd (k_getFrame F S k).2 (up2 (km_wd (k_getFrame F S k).2) (ix (k_low (km_pl k) (F + S) 0)) (fun _ => 0))) (upd (km_ct (k_getFrame F S k).2) (ix (k_low (km_pl k) (F + S) 0)) 1))) := hD
      refine lv_aload_n hx hb d_M_make_46 rfl (lv_at hl 2 rfl) ?_
      refine lv_iload_n hx hb d_M_make_47 rfl (lv_at hl 1 rfl) ?_
      refine lv_iload_n hx hb d_M_make_48 rfl (lv_at hl 0 rfl) ?_
      refine ob_callW (v := none) (X := []) (M := mW b F S tI tZ tA (ku_ct (ku_wd (k_getFrame F S k).2 (up2 (km_wd (k_getFrame F S k).2) (ix (k_low (km_pl k) (F + S) 0)) (fun _ => 0))) (upd (km_ct (k_getFrame F S k).2) (ix (k_low (km_pl k) (F + S) 0)) 1))) (M' := mW b F S tI tZ tA (k_lay (ku_ct (ku_wd (k_getFrame F S k).2 (up2 (km_wd (k_getFrame F S k).2) (ix (k_low (km_pl k) (F + S) 0)) (fun _ => 0))) (upd (km_ct (k_getFrame F S k).2) (ix (k_low (km_pl k) (F + S) 0)) 1)) (k_low (km_pl k) (F + S) 0) (k_getFrame F S k).1)) (ob_runV (n := 2) (As := [.int (k_low (km_pl k) (F + S) 0), .int ((k_getFrame F S k).1)]) (rest := []) (c_M_layIntoFrame l D tI tZ tA tJ b F S H.size (ku_ct (ku_wd (k_getFrame F S k).2 (up2 (km_wd (k_getFrame F S k).2) (ix (k_low (km_pl k) (F + S) 0)) (fun _ => 0))) (upd (km_ct (k_getFrame F S k).2) (ix (k_low (km_pl k) (F + S) 0)) 1)) (k_low (km_pl k) (F + S) 0) (k_getFrame F S k).1) (hT.ok ob_cd_c (by decide +kernel) rfl rfl (Nat.le_of_ble_eq_true rfl) (Nat.le_of_ble_eq_true rfl) kn_M kc_M_layIntoFrame) hx hb hml hown (hT.w k_M_61) (hT.w ki_M_layIntoFrame) (hT.w kv_M_layIntoFrame) (va_recv (q0 := 0) (ci := 1) hT.1 hP rfl rfl) pW.blind (pW.at hT (⟨hfin hc, hain⟩) hP hD) rfl rfl hl.1 rfl (lv_room (Nat.le_of_ble_eq_true rfl)) d_M_make_49 ⟨Nat.le_of_ble_eq_true rfl, Nat.le_of_ble_eq_true rfl⟩) hP hD hS hA (fun H locs hP hD hS => ?_)
      have hP : va_P D vcl (mW b F S tI tZ tA (k_lay (ku_ct (ku_wd (k_getFrame F S k).2 (up2 (km_wd (k_getFrame F S k).2) (ix (k_low (km_pl k) (F + S) 0)) (fun _ => 0))) (upd (km_ct (k_getFrame F S k).2) (ix (k_low (km_pl k) (F + S) 0)) 1)) (k_low (km_pl k) (F + S) 0) (k_getFrame F S k).1)) H := hP
      have hD : va_D A (mW b F S tI tZ tA (k_lay (ku_ct (ku_wd (k_getFrame F S k).2 (up2 (km_wd (k_getFrame F S k).2) (ix (k_low (km_pl k) (F + S) 0)) (fun _ => 0))) (upd (km_ct (k_getFrame F S k).2) (ix (k_low (km_pl k) (F + S) 0)) 1)) (k_low (km_pl k) (F + S) 0) (k_getFrame F S k).1)) := hD
      refine W.eq (g2 := F0 m 52 ls []) rfl ?_
      refine lv_iload_n hx hb d_M_make_52 rfl (lv_at hl 1 rfl) ?_
      refine ob_iret hlocks hx hb hr d_M_make_53 hS.2.2 (fun t ht hW => ?_)
      exact ⟨rfl, by rw [ht]; exact hP, hD, hS.F ht⟩
    · have e1 : k_make F S k = (-1, (k_getFrame F S k).2) := by unfold k_make; rw [if_neg hc1, if_pos hc]
      rw [e1]
      refine lv_iconst (v := -1) hx hb d_M_make_27 (by decide) ?_
      refine ob_iret hlocks hx hb hr d_M_make_28 hS.2.2 (fun t ht hW => ?_)
      exact ⟨rfl, by rw [ht]; exact hP, hD, hS.F ht⟩
  · have e1 : k_make F S k = (-1, k) := if_pos hc
    rw [e1]
    refine lv_iconst (v := -1) hx hb d_M_make_13 (by decide) ?_
    refine lv_goto (tgt := 21) hx hb d_M_make_14 (by decide) ?_
    refine lv_istore_n (lv' := [(2, .int (-1)), (1, .int (k_low (km_pl k) (F + S) 0)), (0, .ref (b 9))]) hx hb d_M_make_21 rfl hl (by decide) rfl (fun ls hl => ?_)
    refine lv_iload_n hx hb d_M_make_22 rfl (lv_at hl 0 rfl) ?_
    refine lv_iconst (v := -1) hx hb d_M_make_23 (by decide) ?_
    refine lv_icmp_ne (tgt := 29) hx hb d_M_make_24 (by decide) (fun hc => absurd rfl hc) (fun hc => ?_)
    refine lv_iconst (v := -1) hx hb d_M_make_27 (by decide) ?_
    refine ob_iret hlocks hx hb hr d_M_make_28 hS.2.2 (fun t ht hW => ?_)
    exact ⟨rfl, by rw [ht]; exact hP, hD, hS.F ht⟩

set_option maxHeartbeats 4000000 in
set_option maxRecDepth 100000 in
/-- M_leave -/
theorem c_M_leave (l : Launch) (D : va_G) (tI tZ tA tJ : ClassId) (b : Nat → Nat) (F S sz : Nat) (k : KM) (a : Int32) : ob_M l y_M_leave w_M_leave ({ frames := 1, cells := 0, slots := 0, locals := 21 }) (pW D tI tZ tA tJ [.ref (b 9), .int a] (mW b F S tI tZ tA k) sz (lv_ok F S k a)) (ob_qW D vcl (some (.int ((k_leave k a).1))) (mW b F S tI tZ tA ((k_leave k a).2)) (va_A (mW b F S tI tZ tA k) sz)) 0 0 (va_A (mW b F S tI tZ tA k) sz) := by
  refine ob_ofW (by decide +kernel) ?_
  intro p e s m args below meth c s₁ B hml htab hv
  obtain ⟨rfl, hT, ⟨ha, hq⟩, hsz, hP, hD0⟩ := hv
  have hx := B.exec
  have hb := B.bytes
  have hr := B.returns
  have hlocks := B.notSynchronized
  have hown : s.vm.findClass R_M = some m.cls := findClass_of_methodNamed B.named
  have hl := lv_entry ([.ref (b 9), .int a]) (n := 2) (Nat.le_of_ble_eq_true rfl)
  rw [lg_entry_eq]
  generalize (lg_sl ([.ref (b 9), .int a]) ++ List.replicate (2 - (lg_sl ([.ref (b 9), .int a])).length) Slot.unset).toArray = ls at hl ⊢
  have hl : lv_has ls 2 [(0, .ref (b 9)), (1, .int a)] := hl
  subst hsz
  have hD := hD0.self (sz := s.heap.size)
  generalize hAe : va_A (mW b F S tI tZ tA k) s.heap.size = A at hD ⊢
  have hA : ∀ q : Nat, s.heap.size ≤ q → A q := fun q h => by rw [← hAe]; exact Or.inr h
  have hS : va_S A s.heap s.heap [] := va_S.rf
  refine lv_aload_n hx hb d_M_leave_0 rfl (lv_at hl 0 rfl) ?_
  refine va_get (D := D) (ci := 1) (v := .ref (b 14)) hx hb hT.lays ly_M hown hT.1 hP 0 rfl rfl 4 (by decide) (hT.w k_M_29) (fun _ h => h) rfl d_M_leave_1 ?_
  refine lv_iload_n hx hb d_M_leave_4 rfl (lv_at hl 1 rfl) ?_
  refine lv_dup2_11 hx hb d_M_leave_5 rfl rfl ?_
  refine va_iald hx hb hT.1 hP 5 0 rfl rfl (ha) d_M_leave_6 ?_
  refine lv_iconst (v := 1) hx hb d_M_leave_7 (by decide) ?_
  refine lv_isub hx hb d_M_leave_8 ?_
  refine va_iast hx hb hT.1 hP hD hS 5 0 rfl rfl (ha) d_M_leave_9 (fun H locs hP hD hS => ?_)
  have hP : va_P D vcl (mW b F S tI tZ tA (ku_ct k (upd (km_ct k) (ix a) (((km_ct k) (ix a)) - 1)))) H := hP
  have hD : va_D A (mW b F S tI tZ tA (ku_ct k (upd (km_ct k) (ix a) (((km_ct k) (ix a)) - 1)))) := hD
  refine lv_aload_n hx hb d_M_leave_10 rfl (lv_at hl 0 rfl) ?_
  refine va_get (D := D) (ci := 1) (v := .ref (b 14)) hx hb hT.lays ly_M hown hT.1 hP 0 rfl rfl 4 (by decide) (hT.w k_M_29) (fun _ h => h) rfl d_M_leave_11 ?_
  refine lv_iload_n hx hb d_M_leave_14 rfl (lv_at hl 1 rfl) ?_
  refine va_iald hx hb hT.1 hP 5 0 rfl rfl (ha) d_M_leave_15 ?_
  rw [show km_ct (ku_ct k (upd (km_ct k) (ix a) (km_ct k (ix a) - 1))) (ix a) = km_ct k (ix a) - 1 from pk_us]
  refine lv_if_le (tgt := 21) hx hb d_M_leave_16 (by decide) (fun hc => ?_) (fun hc => ?_)
  · have e1 : k_leave k a = (1, ku_pl (k_freePlace (ku_ct k (upd (km_ct k) (ix a) (km_ct k (ix a) - 1))) (km_pl k (ix a))) (upd (km_pl (k_freePlace (ku_ct k (upd (km_ct k) (ix a) (km_ct k (ix a) - 1))) (km_pl k (ix a)))) (ix a) (-1))) := if_pos hc
    rw [e1]
    refine lv_aload_n hx hb d_M_leave_21 rfl (lv_at hl 0 rfl) ?_
    refine lv_aload_n hx hb d_M_leave_22 rfl (lv_at hl 0 rfl) ?_
    refine va_get (D := D) (ci := 1) (v := .ref (b 13)) hx hb hT.lays ly_M hown hT.1 hP 0 rfl rfl 3 (by decide) (hT.w k_M_26) (fun _ h => h) rfl d_M_leave_23 ?_
    refine lv_iload_n hx hb d_M_leave_26 rfl (lv_at hl 1 rfl) ?_
    refine va_iald hx hb hT.1 hP 4 0 rfl rfl (ha) d_M_leave_27 ?_
    refine ob_callW (v := none) (X := []) (M := mW b F S tI tZ tA (ku_ct k (upd (km_ct k) (ix a) (km_ct k (ix a) - 1)))) (M' := mW b F S tI tZ tA (k_freePlace (ku_ct k (upd (km_ct k) (ix a) (km_ct k (ix a) - 1))) (km_pl k (ix a)))) (ob_runV (n := 1) (As := [.int (km_pl k (ix a))]) (rest := []) (c_M_freePlace l D tI tZ tA tJ b F S H.size (ku_ct k (upd (km_ct k) (ix a) (km_ct k (ix a) - 1))) (km_pl k (ix a))) (hT.ok ob_cd_c (by decide +kernel) rfl rfl (Nat.le_of_ble_eq_true rfl) (Nat.le_of_ble_eq_true rfl) kn_M kc_M_freePlace) hx hb hml hown (hT.w k_M_65) (hT.w ki_M_freePlace) (hT.w kv_M_freePlace) (va_recv (q0 := 0) (ci := 1) hT.1 hP rfl rfl) pW.blind (pW.at hT (hq hc) hP hD) rfl rfl hl.1 rfl (lv_room (Nat.le_of_ble_eq_true rfl)) d_M_leave_28 ⟨Nat.le_of_ble_eq_true rfl, Nat.le_of_ble_eq_true rfl⟩) hP hD hS hA (fun H locs hP hD hS => ?_)
    have hP : va_P D vcl (mW b F S tI tZ tA (k_freePlace (ku_ct k (upd (km_ct k) (ix a) (km_ct k (ix a) - 1))) (km_pl k (ix a)))) H := hP
    have hD : va_D A (mW b F S tI tZ tA (k_freePlace (ku_ct k (upd (km_ct k) (ix a) (km_ct k (ix a) - 1))) (km_pl k (ix a)))) := hD
    refine W.eq (g2 := F0 m 31 ls []) rfl ?_
    refine lv_aload_n hx hb d_M_leave_31 rfl (lv_at hl 0 rfl) ?_
    refine va_get (D := D) (ci := 1) (v := .ref (b 13)) hx hb hT.lays ly_M hown hT.1 hP 0 rfl rfl 3 (by decide) (hT.w k_M_26) (fun _ h => h) rfl d_M_leave_32 ?_
    refine lv_iload_n hx hb d_M_leave_35 rfl (lv_at hl 1 rfl) ?_
    refine lv_iconst (v := -1) hx hb d_M_leave_36 (by decide) ?_
    refine va_iast hx hb hT.1 hP hD hS 4 0 rfl rfl (ha) d_M_leave_37 (fun H locs hP hD hS => ?_)
    have hP : va_P D vcl (mW b F S tI tZ tA (ku_pl (k_freePlace (ku_ct k (upd (km_ct k) (ix a) (km_ct k (ix a) - 1))) (km_pl k (ix a))) (upd (km_pl (k_freePlace (ku_ct k (upd (km_ct k) (ix a) (km_ct k (ix a) - 1))) (km_pl k (ix a)))) (ix a) (-1)))) H := hP
    have hD : va_D A (mW b F S tI tZ tA (ku_pl (k_freePlace (ku_ct k (upd (km_ct k) (ix a) (km_ct k (ix a) - 1))) (km_pl k (ix a))) (upd (km_pl (k_freePlace (ku_ct k (upd (km_ct k) (ix a) (km_ct k (ix a) - 1))) (km_pl k (ix a)))) (ix a) (-1)))) := hD
    refine lv_iconst (v := 1) hx hb d_M_leave_38 (by decide) ?_
    refine ob_zret hlocks hx hb hr d_M_leave_39 (rfl) hS.2.2 (fun t ht hW => ?_)
    exact ⟨rfl, by rw [ht]; exact hP, hD, hS.F ht⟩
  · have e1 : k_leave k a = (0, ku_ct k (upd (km_ct k) (ix a) (km_ct k (ix a) - 1))) := if_neg hc
    rw [e1]
    refine lv_iconst (v := 0) hx hb d_M_leave_19 (by decide) ?_
    refine ob_zret hlocks hx hb hr d_M_leave_20 (rfl) hS.2.2 (fun t ht hW => ?_)
    exact ⟨rfl, by rw [ht]; exact hP, hD, hS.F ht⟩

def k_hasMark (F : Nat) (f : Nat → Int32) (x : Int32) : Int32 := if x < 0 then 0 else if nI F ≤ x then 0 else if f (ix x) = 0 then 0 else 1

set_option maxHeartbeats 4000000 in
set_option maxRecDepth 100000 in
/-- hasMark -/
theorem c_M_hasMark (l : Launch) (D : va_G) (tI tZ tA tJ : ClassId) (b : Nat → Nat) (F S : Nat) (k : KM) (x : Int32) : ob_M l y_M_hasMark w_M_hasMark ({ frames := 0, cells := 0, slots := 0, locals := 0 }) (pR D tI tZ tA tJ [.ref (b 9), .int x] (mW b F S tI tZ tA k) (F ≤ 8)) (ob_qR (some (.int (k_hasMark F (km_mk k) x)))) 0 0 (fun _ => False) := by
  refine ob_ofW (by decide +kernel) ?_
  intro p e s m args below meth c s₁ B hml htab hv
  obtain ⟨rfl, hT, hF, hP⟩ := hv
  have hx := B.exec
  have hb := B.bytes
  have hr := B.returns
  have hlocks := B.notSynchronized
  have hown : s.vm.findClass R_M = some m.cls := findClass_of_methodNamed B.named
  have hl := lv_entry ([.ref (b 9), .int x]) (n := 2) (Nat.le_of_ble_eq_true rfl)
  rw [lg_entry_eq]
  generalize (lg_sl ([.ref (b 9), .int x]) ++ List.replicate (2 - (lg_sl ([.ref (b 9), .int x])).length) Slot.unset).toArray = ls at hl ⊢
  have hl : lv_has ls 2 [(0, .ref (b 9)), (1, .int x)] := hl
  unfold k_hasMark
  refine lv_iload_n hx hb d_M_hasMark_0 rfl (lv_at hl 1 rfl) ?_
  refine lv_if_lt (tgt := 26) hx hb d_M_hasMark_1 (by decide) (fun hc => ?_) (fun hc => ?_)
  · rw [if_pos hc]
    refine lv_iconst (v := 0) hx hb d_M_hasMark_26 (by decide) ?_
    refine ob_zret hlocks hx hb hr d_M_hasMark_27 (rfl) (fun q hq => nomatch hq) (fun t ht hW => ?_)
    exact ⟨rfl, ht⟩
  · rw [if_neg hc]
    have hc0 := hc
    refine lv_iload_n hx hb d_M_hasMark_4 rfl (lv_at hl 1 rfl) ?_
    refine lv_aload_n hx hb d_M_hasMark_5 rfl (lv_at hl 0 rfl) ?_
    refine va_get (D := D) (ci := 1) (v := .ref (b 12)) hx hb hT.lays ly_M hown hT.1 hP 0 rfl rfl 2 (by decide) (hT.w k_M_22) (fun _ h => h) rfl d_M_hasMark_6 ?_
    refine va_alen (v := nI F) hx hb hT.1 hP 3 1 rfl rfl rfl d_M_hasMark_9 ?_
    refine lv_icmp_ge (tgt := 26) hx hb d_M_hasMark_10 (by decide) (fun hc => ?_) (fun hc => ?_)
    · rw [if_pos hc]
      refine lv_iconst (v := 0) hx hb d_M_hasMark_26 (by decide) ?_
      refine ob_zret hlocks hx hb hr d_M_hasMark_27 (rfl) (fun q hq => nomatch hq) (fun t ht hW => ?_)
      exact ⟨rfl, ht⟩
    · rw [if_neg hc]
      have hin : vp_in x F := by obtain ⟨j, hj, e, -⟩ := pk_mu hc0 hc (by omega); rw [e]; exact vp_in_nI hj (by omega)
      refine lv_aload_n hx hb d_M_hasMark_13 rfl (lv_at hl 0 rfl) ?_
      refine va_get (D := D) (ci := 1) (v := .ref (b 12)) hx hb hT.lays ly_M hown hT.1 hP 0 rfl rfl 2 (by decide) (hT.w k_M_22) (fun _ h => h) rfl d_M_hasMark_14 ?_
      refine lv_iload_n hx hb d_M_hasMark_17 rfl (lv_at hl 1 rfl) ?_
      refine va_zald hx hb hT.1 hP 3 1 rfl rfl (hin) d_M_hasMark_18 ?_
      refine lv_if_eq (tgt := 26) hx hb d_M_hasMark_19 (by decide) (fun hc => ?_) (fun hc => ?_)
      · rw [if_pos hc]
        refine lv_iconst (v := 0) hx hb d_M_hasMark_26 (by decide) ?_
        refine ob_zret hlocks hx hb hr d_M_hasMark_27 (rfl) (fun q hq => nomatch hq) (fun t ht hW => ?_)
        exact ⟨rfl, ht⟩
      · rw [if_neg hc]
        refine lv_iconst (v := 1) hx hb d_M_hasMark_22 (by decide) ?_
        refine lv_goto (tgt := 27) hx hb d_M_hasMark_23 (by decide) ?_
        refine ob_zret hlocks hx hb hr d_M_hasMark_27 (rfl) (fun q hq => nomatch hq) (fun t ht hW => ?_)
        exact ⟨rfl, ht⟩
