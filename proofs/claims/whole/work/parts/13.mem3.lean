/-- what bringIn, touch, make, leave ask -/
def bi_ok (F S : Nat) (k : KM) (a : Int32) : Prop := vp_in a (F + S) ∧ fp_ok F S (km_pl k (ix a)) ∧ gf_ok F S (k_freePlace k (km_pl k (ix a))) ∧ vp_in (k_getFrame F S (k_freePlace k (km_pl k (ix a)))).1 F
def to_ok (F S : Nat) (k : KM) (a : Int32) : Prop := vp_in a (F + S) ∧ (¬ km_pl k (ix a) < 100 → bi_ok F S k a) ∧ vp_in (km_pl (k_tch F S k a) (ix a)) F
def lv_ok (F S : Nat) (k : KM) (a : Int32) : Prop := vp_in a (F + S) ∧ (km_ct k (ix a) - 1 ≤ 0 → fp_ok F S (km_pl k (ix a)))
def mk_ok (F S : Nat) (k : KM) : Prop := F ≤ 8 ∧ S ≤ 10 ∧ (¬ k_low (km_pl k) (F + S) 0 = -1 → gf_ok F S k ∧ vp_in (k_low (km_pl k) (F + S) 0) (F + S) ∧ (¬ (k_getFrame F S k).1 = -1 → vp_in (k_getFrame F S k).1 F))

theorem vp_ix {i : Int32} {n : Nat} (h : vp_in i n) : ix i < n := Nat.not_le.mp fun q => h (Or.inr q)

theorem mW_row {b : Nat → Nat} {F S : Nat} {tI tZ tA : ClassId} {k : KM} {i : Nat} {f : Nat → Int32} (hi : i < F + S) : (mW b F S tI tZ tA k).set (7 + i) (b (16 + i), .inl (tI, 4, .inl f)) = mW b F S tI tZ tA (ku_wd k (up2 (km_wd k) i f)) := pl_set (X := [_, _, _, _, _, _, _]) (Y := []) hi rfl

set_option maxHeartbeats 4000000 in
set_option maxRecDepth 100000 in
/-- M_getFrame -/
theorem c_M_getFrame (l : Launch) (D : va_G) (tI tZ tA tJ : ClassId) (b : Nat → Nat) (F S sz : Nat) (k : KM)  : ob_M l y_M_getFrame w_M_getFrame ({ frames := 2, cells := 0, slots := 0, locals := 43 }) (pW D tI tZ tA tJ [.ref (b 9)] (mW b F S tI tZ tA k) sz (gf_ok F S k)) (ob_qW D vcl (some (.int ((k_getFrame F S k).1))) (mW b F S tI tZ tA ((k_getFrame F S k).2)) (va_A (mW b F S tI tZ tA k) sz)) 0 0 (va_A (mW b F S tI tZ tA k) sz) := by
  refine ob_ofW (by decide +kernel) ?_
  intro p e s m args below meth c s₁ B hml htab hv
  obtain ⟨rfl, hT, hq, hsz, hP, hD0⟩ := hv
  have hx := B.exec
  have hb := B.bytes
  have hr := B.returns
  have hlocks := B.notSynchronized
  have hown : s.vm.findClass R_M = some m.cls := findClass_of_methodNamed B.named
  have hl := lv_entry ([.ref (b 9)]) (n := 3) (Nat.le_of_ble_eq_true rfl)
  rw [lg_entry_eq]
  generalize (lg_sl ([.ref (b 9)]) ++ List.replicate (3 - (lg_sl ([.ref (b 9)])).length) Slot.unset).toArray = ls at hl ⊢
  have hl : lv_has ls 3 [(0, .ref (b 9))] := hl
  subst hsz
  have hD := hD0.self (sz := s.heap.size)
  generalize hAe : va_A (mW b F S tI tZ tA k) s.heap.size = A at hD ⊢
  have hA : ∀ q : Nat, s.heap.size ≤ q → A q := fun q h => by rw [← hAe]; exact Or.inr h
  have hS : va_S A s.heap s.heap [] := va_S.rf
  obtain ⟨hF, hS10, hev⟩ := hq
  refine lv_aload_n hx hb d_M_getFrame_0 rfl (lv_at hl 0 rfl) ?_
  refine va_get (D := D) (ci := 1) (v := .ref (b 10)) hx hb hT.lays ly_M hown hT.1 hP 0 rfl rfl 0 (by decide) (hT.w k_M_13) (fun _ h => h) rfl d_M_getFrame_1 ?_
  refine ob_callR (v := (some (.int (k_low (km_iF k) F 0)))) (ob_runSN (n := 1) (As := [.ref (b 10)]) (rest := []) (c_X_lowestFree l D tI tZ tA tJ (b 10) F (km_iF k)) (hT.ok ob_cd_c (by decide +kernel) rfl rfl (Nat.le_of_ble_eq_true rfl) (Nat.le_of_ble_eq_true rfl) kn_X kc_X_lowestFree) hx hb hml hown (hT.w k_M_47) (hT.w ks_X_lowestFree) pR.blind (pR.at hT (by omega) (hP.sub [1] rfl)) rfl rfl hl.1 rfl (lv_room (Nat.le_of_ble_eq_true rfl)) d_M_getFrame_4 ⟨Nat.le_of_ble_eq_true rfl, Nat.le_of_ble_eq_true rfl⟩) ?_
  refine W.eq (g2 := F0 m 7 ls [.int (k_low (km_iF k) F 0)]) rfl ?_
  refine lv_istore_n (lv' := [(1, .int (k_low (km_iF k) F 0)), (0, .ref (b 9))]) hx hb d_M_getFrame_7 rfl hl (by decide) rfl (fun ls hl => ?_)
  refine lv_iload_n hx hb d_M_getFrame_8 rfl (lv_at hl 0 rfl) ?_
  refine lv_iconst (v := -1) hx hb d_M_getFrame_9 (by decide) ?_
  refine lv_icmp_eq (tgt := 15) hx hb d_M_getFrame_10 (by decide) (fun hc => ?_) (fun hc => ?_)
  · refine lv_aload_n hx hb d_M_getFrame_15 rfl (lv_at hl 1 rfl) ?_
    refine va_get (D := D) (ci := 1) (v := .ref (b 11)) hx hb hT.lays ly_M hown hT.1 hP 0 rfl rfl 1 (by decide) (hT.w k_M_19) (fun _ h => h) rfl d_M_getFrame_16 ?_
    refine ob_callR (v := (some (.int (k_low (km_iS k) S 0)))) (ob_runSN (n := 1) (As := [.ref (b 11)]) (rest := []) (c_X_lowestFree l D tI tZ tA tJ (b 11) S (km_iS k)) (hT.ok ob_cd_c (by decide +kernel) rfl rfl (Nat.le_of_ble_eq_true rfl) (Nat.le_of_ble_eq_true rfl) kn_X kc_X_lowestFree) hx hb hml hown (hT.w k_M_47) (hT.w ks_X_lowestFree) pR.blind (pR.at hT (by omega) (hP.sub [2] rfl)) rfl rfl hl.1 rfl (lv_room (Nat.le_of_ble_eq_true rfl)) d_M_getFrame_19 ⟨Nat.le_of_ble_eq_true rfl, Nat.le_of_ble_eq_true rfl⟩) ?_
    refine W.eq (g2 := F0 m 22 ls [.int (k_low (km_iS k) S 0)]) rfl ?_
    refine lv_istore_n (lv' := [(2, .int (k_low (km_iS k) S 0)), (1, .int (k_low (km_iF k) F 0)), (0, .ref (b 9))]) hx hb d_M_getFrame_22 rfl hl (by decide) rfl (fun ls hl => ?_)
    refine lv_iload_n hx hb d_M_getFrame_23 rfl (lv_at hl 0 rfl) ?_
    refine lv_iconst (v := -1) hx hb d_M_getFrame_24 (by decide) ?_
    refine lv_icmp_ne (tgt := 32) hx hb d_M_getFrame_25 (by decide) (fun hc => ?_) (fun hc => ?_)
    · rename_i hc1
      have e1 : k_getFrame F S k = k_evict F k (k_low (km_iS k) S 0) := by unfold k_getFrame; rw [if_pos hc1, if_neg hc]
      rw [e1]
      refine lv_aload_n hx hb d_M_getFrame_32 rfl (lv_at hl 2 rfl) ?_
      refine lv_iload_n hx hb d_M_getFrame_33 rfl (lv_at hl 0 rfl) ?_
      refine ob_callW (v := (some (.int ((k_evict F k (k_low (km_iS k) S 0)).1)))) (X := []) (M := mW b F S tI tZ tA k) (M' := mW b F S tI tZ tA ((k_evict F k (k_low (km_iS k) S 0)).2)) (ob_runV (n := 1) (As := [.int (k_low (km_iS k) S 0)]) (rest := []) (c_M_evictInto l D tI tZ tA tJ b F S s.heap.size k (k_low (km_iS k) S 0)) (hT.ok ob_cd_c (by decide +kernel) rfl rfl (Nat.le_of_ble_eq_true rfl) (Nat.le_of_ble_eq_true rfl) kn_M kc_M_evictInto) hx hb hml hown (hT.w k_M_75) (hT.w ki_M_evictInto) (hT.w kv_M_evictInto) (va_recv (q0 := 0) (ci := 1) hT.1 hP rfl rfl) pW.blind (pW.at hT (hev hc1 hc) hP hD) rfl rfl hl.1 rfl (lv_room (Nat.le_of_ble_eq_true rfl)) d_M_getFrame_34 ⟨Nat.le_of_ble_eq_true rfl, Nat.le_of_ble_eq_true rfl⟩) hP hD hS hA (fun H locs hP hD hS => ?_)
      have hP : va_P D vcl (mW b F S tI tZ tA ((k_evict F k (k_low (km_iS k) S 0)).2)) H := hP
      have hD : va_D A (mW b F S tI tZ tA ((k_evict F k (k_low (km_iS k) S 0)).2)) := hD
      refine W.eq (g2 := F0 m 37 ls [.int ((k_evict F k (k_low (km_iS k) S 0)).1)]) rfl ?_
      refine ob_iret hlocks hx hb hr d_M_getFrame_37 hS.2.2 (fun t ht hW => ?_)
      exact ⟨rfl, by rw [ht]; exact hP, hD, hS.F ht⟩
    · rename_i hc1
      have e1 : k_getFrame F S k = (-1, k) := by unfold k_getFrame; rw [if_pos hc1, if_pos hc]
      rw [e1]
      refine lv_iconst (v := -1) hx hb d_M_getFrame_28 (by decide) ?_
      refine lv_goto (tgt := 37) hx hb d_M_getFrame_29 (by decide) ?_
      refine ob_iret hlocks hx hb hr d_M_getFrame_37 hS.2.2 (fun t ht hW => ?_)
      exact ⟨rfl, by rw [ht]; exact hP, hD, hS.F ht⟩
  · have e1 : k_getFrame F S k = (k_low (km_iF k) F 0, k) := if_neg hc
    rw [e1]
    refine lv_iload_n hx hb d_M_getFrame_13 rfl (lv_at hl 0 rfl) ?_
    refine ob_iret hlocks hx hb hr d_M_getFrame_14 hS.2.2 (fun t ht hW => ?_)
    exact ⟨rfl, by rw [ht]; exact hP, hD, hS.F ht⟩

set_option maxHeartbeats 4000000 in
set_option maxRecDepth 100000 in
/-- M_bringIn -/
theorem c_M_bringIn (l : Launch) (D : va_G) (tI tZ tA tJ : ClassId) (b : Nat → Nat) (F S sz : Nat) (k : KM) (a : Int32) : ob_M l y_M_bringIn w_M_bringIn ({ frames := 3, cells := 0, slots := 0, locals := 65 }) (pW D tI tZ tA tJ [.ref (b 9), .int a] (mW b F S tI tZ tA k) sz (bi_ok F S k a)) (ob_qW D vcl none (mW b F S tI tZ tA (k_bringIn F S k a)) (va_A (mW b F S tI tZ tA k) sz)) 0 0 (va_A (mW b F S tI tZ tA k) sz) := by
  refine ob_ofW (by decide +kernel) ?_
  intro p e s m args below meth c s₁ B hml htab hv
  obtain ⟨rfl, hT, hq, hsz, hP, hD0⟩ := hv
  have hx := B.exec
  have hb := B.bytes
  have hr := B.returns
  have hlocks := B.notSynchronized
  have hown : s.vm.findClass R_M = some m.cls := findClass_of_methodNamed B.named
  have hl := lv_entry ([.ref (b 9), .int a]) (n := 2) (Nat.le_of_ble_eq_true rfl)
  rw [lg_entry_eq]
  generalize (lg_sl ([.ref (b 9), .int a]) ++ List.replicate (2 - (lg_sl ([.ref (b 9), .int a])).length) Slot.unset).toArray = ls at hl ⊢
  have hl : lv_has ls 2 [(0, .ref (b 9)), (1, .int a)] := hl
  subst hsz
  have hD := hD0.self (sz := s.heap.size)
  generalize hAe : va_A (mW b F S tI tZ tA k) s.heap.size = A at hD ⊢
  have hA : ∀ q : Nat, s.heap.size ≤ q → A q := fun q h => by rw [← hAe]; exact Or.inr h
  have hS : va_S A s.heap s.heap [] := va_S.rf
  obtain ⟨ha, hfp, hgf, hin⟩ := hq
  refine lv_aload_n hx hb d_M_bringIn_0 rfl (lv_at hl 0 rfl) ?_
  refine lv_aload_n hx hb d_M_bringIn_1 rfl (lv_at hl 0 rfl) ?_
  refine va_get (D := D) (ci := 1) (v := .ref (b 13)) hx hb hT.lays ly_M hown hT.1 hP 0 rfl rfl 3 (by decide) (hT.w k_M_26) (fun _ h => h) rfl d_M_bringIn_2 ?_
  refine lv_iload_n hx hb d_M_bringIn_5 rfl (lv_at hl 1 rfl) ?_
  refine va_iald hx hb hT.1 hP 4 0 rfl rfl (ha) d_M_bringIn_6 ?_
  refine ob_callW (v := none) (X := []) (M := mW b F S tI tZ tA k) (M' := mW b F S tI tZ tA (k_freePlace k (km_pl k (ix a)))) (ob_runV (n := 1) (As := [.int (km_pl k (ix a))]) (rest := []) (c_M_freePlace l D tI tZ tA tJ b F S s.heap.size k (km_pl k (ix a))) (hT.ok ob_cd_c (by decide +kernel) rfl rfl (Nat.le_of_ble_eq_true rfl) (Nat.le_of_ble_eq_true rfl) kn_M kc_M_freePlace) hx hb hml hown (hT.w k_M_65) (hT.w ki_M_freePlace) (hT.w kv_M_freePlace) (va_recv (q0 := 0) (ci := 1) hT.1 hP rfl rfl) pW.blind (pW.at hT (hfp) hP hD) rfl rfl hl.1 rfl (lv_room (Nat.le_of_ble_eq_true rfl)) d_M_bringIn_7 ⟨Nat.le_of_ble_eq_true rfl, Nat.le_of_ble_eq_true rfl⟩) hP hD hS hA (fun H locs hP hD hS => ?_)
  have hP : va_P D vcl (mW b F S tI tZ tA (k_freePlace k (km_pl k (ix a)))) H := hP
  have hD : va_D A (mW b F S tI tZ tA (k_freePlace k (km_pl k (ix a)))) := hD
  refine W.eq (g2 := F0 m 10 ls []) rfl ?_
  refine lv_aload_n hx hb d_M_bringIn_10 rfl (lv_at hl 0 rfl) ?_
  refine lv_iload_n hx hb d_M_bringIn_11 rfl (lv_at hl 1 rfl) ?_
  refine lv_aload_n hx hb d_M_bringIn_12 rfl (lv_at hl 0 rfl) ?_
  refine ob_callW (v := (some (.int ((k_getFrame F S (k_freePlace k (km_pl k (ix a)))).1)))) (X := []) (M := mW b F S tI tZ tA (k_freePlace k (km_pl k (ix a)))) (M' := mW b F S tI tZ tA ((k_getFrame F S (k_freePlace k (km_pl k (ix a)))).2)) (ob_runV (n := 0) (As := []) (rest := [.int a, .ref (b 9)]) (c_M_getFrame l D tI tZ tA tJ b F S H.size (k_freePlace k (km_pl k (ix a)))) (hT.ok ob_cd_c (by decide +kernel) rfl rfl (Nat.le_of_ble_eq_true rfl) (Nat.le_of_ble_eq_true rfl) kn_M kc_M_getFrame) hx hb hml hown (hT.w k_M_51) (hT.w ki_M_getFrame) (hT.w kv_M_getFrame) (va_recv (q0 := 0) (ci := 1) hT.1 hP rfl rfl) pW.blind (pW.at hT (hgf) hP hD) rfl rfl hl.1 rfl (lv_room (Nat.le_of_ble_eq_true rfl)) d_M_bringIn_13 ⟨Nat.le_of_ble_eq_true rfl, Nat.le_of_ble_eq_true rfl⟩) hP hD hS hA (fun H locs hP hD hS => ?_)
  have hP : va_P D vcl (mW b F S tI tZ tA ((k_getFrame F S (k_freePlace k (km_pl k (ix a)))).2)) H := hP
  have hD : va_D A (mW b F S tI tZ tA ((k_getFrame F S (k_freePlace k (km_pl k (ix a)))).2)) := hD
  refine W.eq (g2 := F0 m 16 ls [.int ((k_getFrame F S (k_freePlace k (km_pl k (ix a)))).1), .int a, .ref (b 9)]) rfl ?_
  refine ob_callW (v := none) (X := []) (M := mW b F S tI tZ tA ((k_getFrame F S (k_freePlace k (km_pl k (ix a)))).2)) (M' := mW b F S tI tZ tA (k_lay ((k_getFrame F S (k_freePlace k (km_pl k (ix a)))).2) a ((k_getFrame F S (k_freePlace k (km_pl k (ix a)))).1))) (ob_runV (n := 2) (As := [.int a, .int ((k_getFrame F S (k_freePlace k (km_pl k (ix a)))).1)]) (rest := []) (c_M_layIntoFrame l D tI tZ tA tJ b F S H.size ((k_getFrame F S (k_freePlace k (km_pl k (ix a)))).2) a ((k_getFrame F S (k_freePlace k (km_pl k (ix a)))).1)) (hT.ok ob_cd_c (by decide +kernel) rfl rfl (Nat.le_of_ble_eq_true rfl) (Nat.le_of_ble_eq_true rfl) kn_M kc_M_layIntoFrame) hx hb hml hown (hT.w k_M_61) (hT.w ki_M_layIntoFrame) (hT.w kv_M_layIntoFrame) (va_recv (q0 := 0) (ci := 1) hT.1 hP rfl rfl) pW.blind (pW.at hT (⟨hin, ha⟩) hP hD) rfl rfl hl.1 rfl (lv_room (Nat.le_of_ble_eq_true rfl)) d_M_bringIn_16 ⟨Nat.le_of_ble_eq_true rfl, Nat.le_of_ble_eq_true rfl⟩) hP hD hS hA (fun H locs hP hD hS => ?_)
  have hP : va_P D vcl (mW b F S tI tZ tA (k_bringIn F S k a)) H := hP
  have hD : va_D A (mW b F S tI tZ tA (k_bringIn F S k a)) := hD
  refine W.eq (g2 := F0 m 19 ls []) rfl ?_
  refine ob_vret hlocks hx hb hr d_M_bringIn_19 hS.2.2 (fun t ht hW => ?_)
  exact ⟨rfl, by rw [ht]; exact hP, hD, hS.F ht⟩

set_option maxHeartbeats 4000000 in
set_option maxRecDepth 100000 in
/-- M_touch -/
theorem c_M_touch (l : Launch) (D : va_G) (tI tZ tA tJ : ClassId) (b : Nat → Nat) (F S sz : Nat) (k : KM) (a : Int32) : ob_M l y_M_touch w_M_touch ({ frames := 4, cells := 0, slots := 0, locals := 86 }) (pW D tI tZ tA tJ [.ref (b 9), .int a] (mW b F S tI tZ tA k) sz (to_ok F S k a)) (ob_qW D vcl none (mW b F S tI tZ tA (k_touch F S k a)) (va_A (mW b F S tI tZ tA k) sz)) 0 0 (va_A (mW b F S tI tZ tA k) sz) := by
  refine ob_ofW (by decide +kernel) ?_
  intro p e s m args below meth c s₁ B hml htab hv
  obtain ⟨rfl, hT, hq, hsz, hP, hD0⟩ := hv
  have hx := B.exec
  have hb := B.bytes
  have hr := B.returns
  have hlocks := B.notSynchronized
  have hown : s.vm.findClass R_M = some m.cls := findClass_of_methodNamed B.named
  have hl := lv_entry ([.ref (b 9), .int a]) (n := 2) (Nat.le_of_ble_eq_true rfl)
  rw [lg_entry_eq]
  generalize (lg_sl ([.ref (b 9), .int a]) ++ List.replicate (2 - (lg_sl ([.ref (b 9), .int a])).length) Slot.unset).toArray = ls at hl ⊢
  have hl : lv_has ls 2 [(0, .ref (b 9)), (1, .int a)] := hl
  subst hsz
  have hD := hD0.self (sz := s.heap.size)
  generalize hAe : va_A (mW b F S tI tZ tA k) s.heap.size = A at hD ⊢
  have hA : ∀ q : Nat, s.heap.size ≤ q → A q := fun q h => by rw [← hAe]; exact Or.inr h
  have hS : va_S A s.heap s.heap [] := va_S.rf
  obtain ⟨ha, hbi, hin⟩ := hq
  have hend : ∀ (H : Heap) (locs : List Loc), va_P D vcl (mW b F S tI tZ tA (k_tch F S k a)) H → va_D A (mW b F S tI tZ tA (k_tch F S k a)) → va_S A s.heap H locs → W p l e ({ frames := 4, cells := 0, slots := 0, locals := 86 } : Room) s m ([.ref (b 9), .int a] : List Value).toArray below meth c H locs 0 0 (ob_Q below (ob_qW D vcl none (mW b F S tI tZ tA (k_touch F S k a)) A) ([.ref (b 9), .int a] : List Value).toArray s 0 0 A) (F0 m 16 ls []) := by
    intro H locs hP hD hS
    refine lv_aload_n hx hb d_M_touch_16 rfl (lv_at hl 0 rfl) ?_
    refine va_get (D := D) (ci := 1) (v := .ref (b 12)) hx hb hT.lays ly_M hown hT.1 hP 0 rfl rfl 2 (by decide) (hT.w k_M_22) (fun _ h => h) rfl d_M_touch_17 ?_
    refine lv_aload_n hx hb d_M_touch_20 rfl (lv_at hl 0 rfl) ?_
    refine va_get (D := D) (ci := 1) (v := .ref (b 13)) hx hb hT.lays ly_M hown hT.1 hP 0 rfl rfl 3 (by decide) (hT.w k_M_26) (fun _ h => h) rfl d_M_touch_21 ?_
    refine lv_iload_n hx hb d_M_touch_24 rfl (lv_at hl 1 rfl) ?_
    refine va_iald hx hb hT.1 hP 4 0 rfl rfl (ha) d_M_touch_25 ?_
    refine lv_iconst (v := 1) hx hb d_M_touch_26 (by decide) ?_
    refine va_zast hx hb hT.1 hP hD hS 3 1 rfl rfl (hin) d_M_touch_27 (fun H locs hP hD hS => ?_)
    rw [nar1] at hP hD
    have hP : va_P D vcl (mW b F S tI tZ tA (ku_mk (k_tch F S k a) (upd (km_mk (k_tch F S k a)) (ix ((km_pl (k_tch F S k a)) (ix a))) 1))) H := hP
    have hD : va_D A (mW b F S tI tZ tA (ku_mk (k_tch F S k a) (upd (km_mk (k_tch F S k a)) (ix ((km_pl (k_tch F S k a)) (ix a))) 1))) := hD
    refine ob_vret hlocks hx hb hr d_M_touch_28 hS.2.2 (fun t ht hW => ?_)
    exact ⟨rfl, by rw [ht]; exact hP, hD, hS.F ht⟩
  refine lv_aload_n hx hb d_M_touch_0 rfl (lv_at hl 0 rfl) ?_
  refine va_get (D := D) (ci := 1) (v := .ref (b 13)) hx hb hT.lays ly_M hown hT.1 hP 0 rfl rfl 3 (by decide) (hT.w k_M_26) (fun _ h => h) rfl d_M_touch_1 ?_
  refine lv_iload_n hx hb d_M_touch_4 rfl (lv_at hl 1 rfl) ?_
  refine va_iald hx hb hT.1 hP 4 0 rfl rfl (ha) d_M_touch_5 ?_
  refine lv_bipush (v := 100) hx hb d_M_touch_6 (by decide) ?_
  refine lv_icmp_lt (tgt := 16) hx hb d_M_touch_8 (by decide) (fun hc => ?_) (fun hc => ?_)
  · have e1 : k_tch F S k a = k := if_pos hc
    rw [e1] at hend
    exact hend s.heap [] hP hD hS
  · have e1 : k_tch F S k a = k_bringIn F S k a := if_neg hc
    rw [e1] at hend
    refine lv_aload_n hx hb d_M_touch_11 rfl (lv_at hl 0 rfl) ?_
    refine lv_iload_n hx hb d_M_touch_12 rfl (lv_at hl 1 rfl) ?_
    refine ob_callW (v := none) (X := []) (M := mW b F S tI tZ tA k) (M' := mW b F S tI tZ tA (k_bringIn F S k a)) (ob_runV (n := 1) (As := [.int a]) (rest := []) (c_M_bringIn l D tI tZ tA tJ b F S s.heap.size k a) (hT.ok ob_cd_c (by decide +kernel) rfl rfl (Nat.le_of_ble_eq_true rfl) (Nat.le_of_ble_eq_true rfl) kn_M kc_M_bringIn) hx hb hml hown (hT.w k_M_68) (hT.w ki_M_bringIn) (hT.w kv_M_bringIn) (va_recv (q0 := 0) (ci := 1) hT.1 hP rfl rfl) pW.blind (pW.at hT (hbi hc) hP hD) rfl rfl hl.1 rfl (lv_room (Nat.le_of_ble_eq_true rfl)) d_M_touch_13 ⟨Nat.le_of_ble_eq_true rfl, Nat.le_of_ble_eq_true rfl⟩) hP hD hS hA (fun H locs hP hD hS => ?_)
    have hP : va_P D vcl (mW b F S tI tZ tA (k_bringIn F S k a)) H := hP
    have hD : va_D A (mW b F S tI tZ tA (k_bringIn F S k a)) := hD
    refine W.eq (g2 := F0 m 16 ls []) rfl ?_
    exact hend H locs hP hD hS

set_option maxHeartbeats 4000000 in
set_option maxRecDepth 100000 in
/-- M_read -/
theorem c_M_read (l : Launch) (D : va_G) (tI tZ tA tJ : ClassId) (b : Nat → Nat) (F S sz : Nat) (k : KM) (a i : Int32) : ob_M l y_M_read w_M_read ({ frames := 5, cells := 0, slots := 0, locals := 107 }) (pW D tI tZ tA tJ [.ref (b 9), .int a, .int i] (mW b F S tI tZ tA k) sz (to_ok F S k a ∧ vp_in i 4)) (ob_qW D vcl (some (.int (km_wd (k_touch F S k a) (ix a) (ix i)))) (mW b F S tI tZ tA (k_touch F S k a)) (va_A (mW b F S tI tZ tA k) sz)) 0 0 (va_A (mW b F S tI tZ tA k) sz) := by
  refine ob_ofW (by decide +kernel) ?_
  intro p e s m args below meth c s₁ B hml htab hv
  obtain ⟨rfl, hT, ⟨hq, hi⟩, hsz, hP, hD0⟩ := hv
  have hx := B.exec
  have hb := B.bytes
  have hr := B.returns
  have hlocks := B.notSynchronized
  have hown : s.vm.findClass R_M = some m.cls := findClass_of_methodNamed B.named
  have hl := lv_entry ([.ref (b 9), .int a, .int i]) (n := 3) (Nat.le_of_ble_eq_true rfl)
  rw [lg_entry_eq]
  generalize (lg_sl ([.ref (b 9), .int a, .int i]) ++ List.replicate (3 - (lg_sl ([.ref (b 9), .int a, .int i])).length) Slot.unset).toArray = ls at hl ⊢
  have hl : lv_has ls 3 [(0, .ref (b 9)), (1, .int a), (2, .int i)] := hl
  subst hsz
  have hD := hD0.self (sz := s.heap.size)
  generalize hAe : va_A (mW b F S tI tZ tA k) s.heap.size = A at hD ⊢
  have hA : ∀ q : Nat, s.heap.size ≤ q → A q := fun q h => by rw [← hAe]; exact Or.inr h
  have hS : va_S A s.heap s.heap [] := va_S.rf
  have ha := hq.1
  refine lv_aload_n hx hb d_M_read_0 rfl (lv_at hl 0 rfl) ?_
  refine lv_iload_n hx hb d_M_read_1 rfl (lv_at hl 1 rfl) ?_
  refine ob_callW (v := none) (X := []) (M := mW b F S tI tZ tA k) (M' := mW b F S tI tZ tA (k_touch F S k a)) (ob_runV (n := 1) (As := [.int a]) (rest := []) (c_M_touch l D tI tZ tA tJ b F S s.heap.size k a) (hT.ok ob_cd_c (by decide +kernel) rfl rfl (Nat.le_of_ble_eq_true rfl) (Nat.le_of_ble_eq_true rfl) kn_M kc_M_touch) hx hb hml hown (hT.w k_M_37) (hT.w ki_M_touch) (hT.w kv_M_touch) (va_recv (q0 := 0) (ci := 1) hT.1 hP rfl rfl) pW.blind (pW.at hT (hq) hP hD) rfl rfl hl.1 rfl (lv_room (Nat.le_of_ble_eq_true rfl)) d_M_read_2 ⟨Nat.le_of_ble_eq_true rfl, Nat.le_of_ble_eq_true rfl⟩) hP hD hS hA (fun H locs hP hD hS => ?_)
  have hP : va_P D vcl (mW b F S tI tZ tA (k_touch F S k a)) H := hP
  have hD : va_D A (mW b F S tI tZ tA (k_touch F S k a)) := hD
  refine W.eq (g2 := F0 m 5 ls []) rfl ?_
  refine lv_aload_n hx hb d_M_read_5 rfl (lv_at hl 0 rfl) ?_
  refine va_get (D := D) (ci := 1) (v := .ref (b 15)) hx hb hT.lays ly_M hown hT.1 hP 0 rfl rfl 5 (by decide) (hT.w k_M_34) (fun _ h => h) rfl d_M_read_6 ?_
  refine lv_iload_n hx hb d_M_read_9 rfl (lv_at hl 1 rfl) ?_
  refine ob_aald hx hb hT.1 hP 6 2 rfl rfl (ha) d_M_read_10 ?_
  refine lv_iload_n hx hb d_M_read_11 rfl (lv_at hl 2 rfl) ?_
  refine va_iald hx hb hT.1 hP (7 + ix a) 0 (pl_get (vp_ix ha) rfl) rfl (hi) d_M_read_12 ?_
  refine ob_iret hlocks hx hb hr d_M_read_13 hS.2.2 (fun t ht hW => ?_)
  exact ⟨rfl, by rw [ht]; exact hP, hD, hS.F ht⟩

set_option maxHeartbeats 4000000 in
set_option maxRecDepth 100000 in
/-- M_write -/
theorem c_M_write (l : Launch) (D : va_G) (tI tZ tA tJ : ClassId) (b : Nat → Nat) (F S sz : Nat) (k : KM) (a i x : Int32) : ob_M l y_M_write w_M_write ({ frames := 5, cells := 0, slots := 0, locals := 107 }) (pW D tI tZ tA tJ [.ref (b 9), .int a, .int i, .int x] (mW b F S tI tZ tA k) sz (to_ok F S k a ∧ vp_in i 4)) (ob_qW D vcl none (mW b F S tI tZ tA (k_write F S k a i x)) (va_A (mW b F S tI tZ tA k) sz)) 0 0 (va_A (mW b F S tI tZ tA k) sz) := by
  refine ob_ofW (by decide +kernel) ?_
  intro p e s m args below meth c s₁ B hml htab hv
  obtain ⟨rfl, hT, ⟨hq, hi⟩, hsz, hP, hD0⟩ := hv
  have hx := B.exec
  have hb := B.bytes
  have hr := B.returns
  have hlocks := B.notSynchronized
  have hown : s.vm.findClass R_M = some m.cls := findClass_of_methodNamed B.named
  have hl := lv_entry ([.ref (b 9), .int a, .int i, .int x]) (n := 4) (Nat.le_of_ble_eq_true rfl)
  rw [lg_entry_eq]
  generalize (lg_sl ([.ref (b 9), .int a, .int i, .int x]) ++ List.replicate (4 - (lg_sl ([.ref (b 9), .int a, .int i, .int x])).length) Slot.unset).toArray = ls at hl ⊢
  have hl : lv_has ls 4 [(0, .ref (b 9)), (1, .int a), (2, .int i), (3, .int x)] := hl
  subst hsz
  have hD := hD0.self (sz := s.heap.size)
  generalize hAe : va_A (mW b F S tI tZ tA k) s.heap.size = A at hD ⊢
  have hA : ∀ q : Nat, s.heap.size ≤ q → A q := fun q h => by rw [← hAe]; exact Or.inr h
  have hS : va_S A s.heap s.heap [] := va_S.rf
  have ha := hq.1
  refine lv_aload_n hx hb d_M_write_0 rfl (lv_at hl 0 rfl) ?_
  refine lv_iload_n hx hb d_M_write_1 rfl (lv_at hl 1 rfl) ?_
  refine ob_callW (v := none) (X := []) (M := mW b F S tI tZ tA k) (M' := mW b F S tI tZ tA (k_touch F S k a)) (ob_runV (n := 1) (As := [.int a]) (rest := []) (c_M_touch l D tI tZ tA tJ b F S s.heap.size k a) (hT.ok ob_cd_c (by decide +kernel) rfl rfl (Nat.le_of_ble_eq_true rfl) (Nat.le_of_ble_eq_true rfl) kn_M kc_M_touch) hx hb hml hown (hT.w k_M_37) (hT.w ki_M_touch) (hT.w kv_M_touch) (va_recv (q0 := 0) (ci := 1) hT.1 hP rfl rfl) pW.blind (pW.at hT (hq) hP hD) rfl rfl hl.1 rfl (lv_room (Nat.le_of_ble_eq_true rfl)) d_M_write_2 ⟨Nat.le_of_ble_eq_true rfl, Nat.le_of_ble_eq_true rfl⟩) hP hD hS hA (fun H locs hP hD hS => ?_)
  have hP : va_P D vcl (mW b F S tI tZ tA (k_touch F S k a)) H := hP
  have hD : va_D A (mW b F S tI tZ tA (k_touch F S k a)) := hD
  refine W.eq (g2 := F0 m 5 ls []) rfl ?_
  refine lv_aload_n hx hb d_M_write_5 rfl (lv_at hl 0 rfl) ?_
  refine va_get (D := D) (ci := 1) (v := .ref (b 15)) hx hb hT.lays ly_M hown hT.1 hP 0 rfl rfl 5 (by decide) (hT.w k_M_34) (fun _ h => h) rfl d_M_write_6 ?_
  refine lv_iload_n hx hb d_M_write_9 rfl (lv_at hl 1 rfl) ?_
  refine ob_aald hx hb hT.1 hP 6 2 rfl rfl (ha) d_M_write_10 ?_
  refine lv_iload_n hx hb d_M_write_11 rfl (lv_at hl 2 rfl) ?_
  refine lv_iload_n hx hb d_M_write_12 rfl (lv_at hl 3 rfl) ?_
  refine va_iast hx hb hT.1 hP hD hS (7 + ix a) 0 (pl_get (vp_ix ha) rfl) rfl (hi) d_M_write_13 (fun H locs hP hD hS => ?_)
  rw [mW_row (vp_ix ha)] at hP hD
  have hP : va_P D vcl (mW b F S tI tZ tA (k_write F S k a i x)) H := hP
  have hD : va_D A (mW b F S tI tZ tA (k_write F S k a i x)) := hD
  refine ob_vret hlocks hx hb hr d_M_write_14 hS.2.2 (fun t ht hW => ?_)
  exact ⟨rfl, by rw [ht]; exact hP, hD, hS.F ht⟩
