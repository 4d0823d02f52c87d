theorem xE_D {A : Nat → Prop} : va_D A [] := ⟨fun i j p q h => by simp at h, fun k q h => by simp at h⟩
theorem k_make_no {F S : Nat} {k : KM} (h : (k_make F S k).1 = -1) : (k_make F S k).2 = k ∨ (k_make F S k).2 = (k_getFrame F S k).2 := by
  unfold k_make at h ⊢
  by_cases h1 : k_low (km_pl k) (F + S) 0 = -1
  · rw [if_pos h1]; exact Or.inl rfl
  · rw [if_neg h1] at h ⊢
    by_cases h2 : (k_getFrame F S k).1 = -1
    · rw [if_pos h2]; exact Or.inr rfl
    · rw [if_neg h2] at h
      exact absurd h h1

set_option maxHeartbeats 4000000 in
set_option maxRecDepth 100000 in
/-- t_X_requireProcess -/
theorem t_X_requireProcess (l : Launch) (D : va_G) (tI tZ tA tJ : ClassId) (htr : l.stackTraces = false) (b : Nat → Nat) (F S sz : Nat) (q : KS) (p0 : Int32) : ob_M l y_X_requireProcess w_X_requireProcess ({ frames := 6, cells := 1, slots := 6, locals := 90 }) (pT D tI tZ tA tJ [.ref (b 0), .int p0] (xW b F S tI tZ tA q) sz (m_isP (ks_th q) p0 = 0)) (ob_qT D vcl R_En (xW b F S tI tZ tA q) (va_A (xW b F S tI tZ tA q) sz)) 1 6 (va_A (xW b F S tI tZ tA q) sz) := by
  refine ob_ofW (by decide +kernel) ?_
  intro p e s m args below meth c s₁ B hml htab hv
  obtain ⟨rfl, hT, hz, hq, hsz, hP, hD0⟩ := hv
  have hx := B.exec
  have hb := B.bytes
  have hr := B.returns
  have hlocks := B.notSynchronized
  have hown : s.vm.findClass R_X = some m.cls := findClass_of_methodNamed B.named
  have hl := lv_entry ([.ref (b 0), .int p0]) (n := 2) (Nat.le_of_ble_eq_true rfl)
  rw [lg_entry_eq]
  generalize (lg_sl ([.ref (b 0), .int p0]) ++ List.replicate (2 - (lg_sl ([.ref (b 0), .int p0])).length) Slot.unset).toArray = ls at hl ⊢
  have hl : lv_has ls 2 [(0, .ref (b 0)), (1, .int p0)] := hl
  subst hsz
  have hD := hD0.self (sz := s.heap.size)
  have hpl : ∀ a, va_A (xW b F S tI tZ tA q) s.heap.size a → ∀ cell, s.heap[a]? = some cell → cell.vm.isStatics = false := va_A.plain hP
  generalize hAe : va_A (xW b F S tI tZ tA q) s.heap.size = A at hD hpl ⊢
  have hA : ∀ q : Nat, s.heap.size ≤ q → A q := fun q h => by rw [← hAe]; exact Or.inr h
  have hS : va_S A s.heap s.heap [] := va_S.rf
  refine lv_aload_n hx hb d_X_requireProcess_0 rfl (lv_at hl 0 rfl) ?_
  refine lv_iload_n hx hb d_X_requireProcess_1 rfl (lv_at hl 1 rfl) ?_
  refine ob_callR (v := (some (.int (m_isP (ks_th q) p0)))) (ob_runV (n := 1) (As := [.int p0]) (rest := []) (c_X_isThere l D tI tZ tA tJ b F S q p0) (hT.ok ob_cd_c (by decide +kernel) rfl rfl (Nat.le_of_ble_eq_true rfl) (Nat.le_of_ble_eq_true rfl) kn_X kc_X_isThere) hx hb hml hown (hT.w k_X_120) (hT.w ki_X_isThere) (hT.w kv_X_isThere) (va_recv (q0 := 0) (ci := 0) hT.1 hP rfl rfl) pR.blind (pR.at hT (trivial) hP) rfl rfl hl.1 rfl (lv_room (Nat.le_of_ble_eq_true rfl)) d_X_requireProcess_2 ⟨Nat.le_of_ble_eq_true rfl, Nat.le_of_ble_eq_true rfl⟩) ?_
  refine W.eq (g2 := F0 m 5 ls [.int (m_isP (ks_th q) p0)]) rfl ?_
  refine lv_if_ne (tgt := 18) hx hb d_X_requireProcess_5 (by decide) (fun hc => absurd hq hc) (fun hc => ?_)
  obtain ⟨zt, hzt⟩ := hT.2.2.1 (125, "no such process") (by decide +kernel)
  refine th_throw (E := R_En) (k := 2) (bytes := th_b13) hlocks hx hb (hml.trans hl.1.symm) htr hown (by decide +kernel) (hT.h1 hz) hT.h2 (fun w hw => hT.2.1 w (th_okEn w (List.mem_append_left _ hw)).1 (th_okEn w (List.mem_append_left _ hw)).2 _) hz.h4 (fun hpl => hT.chEn hpl) (hT.w k_X_123) (hT.w kn_En) hzt hS hpl d_X_requireProcess_8 d_X_requireProcess_11 d_X_requireProcess_12 d_X_requireProcess_14 d_X_requireProcess_17 (th_out htab) (Nat.le_of_ble_eq_true rfl) (Nat.le_of_ble_eq_true rfl) (show 2 + 3 < _ from Nat.le_of_ble_eq_true rfl) (Nat.le_of_ble_eq_true rfl) hS.2.2 (th_end hP hD hS)

set_option maxHeartbeats 4000000 in
set_option maxRecDepth 100000 in
/-- t_X_requireAddress -/
theorem t_X_requireAddress (l : Launch) (D : va_G) (tI tZ tA tJ : ClassId) (htr : l.stackTraces = false) (sz : Nat) (a : Int32) : ob_M l y_X_requireAddress w_X_requireAddress ({ frames := 6, cells := 1, slots := 6, locals := 90 }) (pT D tI tZ tA tJ [.int a] ([]) sz (m_isA a = 0)) (ob_qT D vcl R_Ei ([]) (va_A ([]) sz)) 1 6 (va_A ([]) sz) := by
  refine ob_ofW (by decide +kernel) ?_
  intro p e s m args below meth c s₁ B hml htab hv
  obtain ⟨rfl, hT, hz, hq, hsz, hP, hD0⟩ := hv
  have hx := B.exec
  have hb := B.bytes
  have hr := B.returns
  have hlocks := B.notSynchronized
  have hown : s.vm.findClass R_X = some m.cls := findClass_of_methodNamed B.named
  have hl := lv_entry ([.int a]) (n := 1) (Nat.le_of_ble_eq_true rfl)
  rw [lg_entry_eq]
  generalize (lg_sl ([.int a]) ++ List.replicate (1 - (lg_sl ([.int a])).length) Slot.unset).toArray = ls at hl ⊢
  have hl : lv_has ls 1 [(0, .int a)] := hl
  subst hsz
  have hD := hD0.self (sz := s.heap.size)
  have hpl : ∀ a, va_A ([]) s.heap.size a → ∀ cell, s.heap[a]? = some cell → cell.vm.isStatics = false := va_A.plain hP
  generalize hAe : va_A ([]) s.heap.size = A at hD hpl ⊢
  have hA : ∀ q : Nat, s.heap.size ≤ q → A q := fun q h => by rw [← hAe]; exact Or.inr h
  have hS : va_S A s.heap s.heap [] := va_S.rf
  unfold m_isA at hq
  refine lv_iload_n hx hb d_X_requireAddress_0 rfl (lv_at hl 0 rfl) ?_
  refine lv_if_lt (tgt := 10) hx hb d_X_requireAddress_1 (by decide) (fun hc => ?_) (fun hc => ?_)
  · obtain ⟨zt, hzt⟩ := hT.2.2.1 (128, "no such address") (by decide +kernel)
    refine th_throw (E := R_Ei) (k := 2) (bytes := Bundle.six) hlocks hx hb (hml.trans hl.1.symm) htr hown (by decide +kernel) (hT.h1 hz) hT.h2 (fun w hw => hT.2.1 w (th_okEi w (List.mem_append_left _ hw)).1 (th_okEi w (List.mem_append_left _ hw)).2 _) hz.h4 (fun hpl => hT.chS (names := ["java/lang/RuntimeException", "java/lang/Exception"]) (by decide +kernel) (by decide +kernel) (fun w hw => th_okEi w (List.mem_append_right _ hw)) hpl) (hT.w k_X_64) (hT.w kn_Ei) hzt hS hpl d_X_requireAddress_10 d_X_requireAddress_13 d_X_requireAddress_14 d_X_requireAddress_16 d_X_requireAddress_19 (th_out htab) (Nat.le_of_ble_eq_true rfl) (Nat.le_of_ble_eq_true rfl) (show 2 + 3 < _ from Nat.le_of_ble_eq_true rfl) (Nat.le_of_ble_eq_true rfl) hS.2.2 (th_end hP hD hS)
  · rw [if_neg hc] at hq
    refine lv_iload_n hx hb d_X_requireAddress_4 rfl (lv_at hl 0 rfl) ?_
    refine lv_bipush (v := 24) hx hb d_X_requireAddress_5 (by decide) ?_
    refine lv_icmp_lt (tgt := 20) hx hb d_X_requireAddress_7 (by decide) (fun hc => absurd (show (1 : Int32) = 0 by rw [if_neg (Int32.not_le.mpr hc)] at hq; exact hq) (by decide)) (fun hc => ?_)
    obtain ⟨zt, hzt⟩ := hT.2.2.1 (128, "no such address") (by decide +kernel)
    refine th_throw (E := R_Ei) (k := 2) (bytes := Bundle.six) hlocks hx hb (hml.trans hl.1.symm) htr hown (by decide +kernel) (hT.h1 hz) hT.h2 (fun w hw => hT.2.1 w (th_okEi w (List.mem_append_left _ hw)).1 (th_okEi w (List.mem_append_left _ hw)).2 _) hz.h4 (fun hpl => hT.chS (names := ["java/lang/RuntimeException", "java/lang/Exception"]) (by decide +kernel) (by decide +kernel) (fun w hw => th_okEi w (List.mem_append_right _ hw)) hpl) (hT.w k_X_64) (hT.w kn_Ei) hzt hS hpl d_X_requireAddress_10 d_X_requireAddress_13 d_X_requireAddress_14 d_X_requireAddress_16 d_X_requireAddress_19 (th_out htab) (Nat.le_of_ble_eq_true rfl) (Nat.le_of_ble_eq_true rfl) (show 2 + 3 < _ from Nat.le_of_ble_eq_true rfl) (Nat.le_of_ble_eq_true rfl) hS.2.2 (th_end hP hD hS)

set_option maxHeartbeats 4000000 in
set_option maxRecDepth 100000 in
/-- t_X_requireRange -/
theorem t_X_requireRange (l : Launch) (D : va_G) (tI tZ tA tJ : ClassId) (htr : l.stackTraces = false) (sz : Nat) (a n : Int32) : ob_M l y_X_requireRange w_X_requireRange ({ frames := 6, cells := 1, slots := 6, locals := 90 }) (pT D tI tZ tA tJ [.int a, .int n] ([]) sz (k_rng a n = 0)) (ob_qT D vcl R_Ei ([]) (va_A ([]) sz)) 1 6 (va_A ([]) sz) := by
  refine ob_ofW (by decide +kernel) ?_
  intro p e s m args below meth c s₁ B hml htab hv
  obtain ⟨rfl, hT, hz, hq, hsz, hP, hD0⟩ := hv
  have hx := B.exec
  have hb := B.bytes
  have hr := B.returns
  have hlocks := B.notSynchronized
  have hown : s.vm.findClass R_X = some m.cls := findClass_of_methodNamed B.named
  have hl := lv_entry ([.int a, .int n]) (n := 2) (Nat.le_of_ble_eq_true rfl)
  rw [lg_entry_eq]
  generalize (lg_sl ([.int a, .int n]) ++ List.replicate (2 - (lg_sl ([.int a, .int n])).length) Slot.unset).toArray = ls at hl ⊢
  have hl : lv_has ls 2 [(0, .int a), (1, .int n)] := hl
  subst hsz
  have hD := hD0.self (sz := s.heap.size)
  have hpl : ∀ a, va_A ([]) s.heap.size a → ∀ cell, s.heap[a]? = some cell → cell.vm.isStatics = false := va_A.plain hP
  generalize hAe : va_A ([]) s.heap.size = A at hD hpl ⊢
  have hA : ∀ q : Nat, s.heap.size ≤ q → A q := fun q h => by rw [← hAe]; exact Or.inr h
  have hS : va_S A s.heap s.heap [] := va_S.rf
  unfold k_rng at hq
  refine lv_iload_n hx hb d_X_requireRange_0 rfl (lv_at hl 1 rfl) ?_
  refine lv_if_ge (tgt := 14) hx hb d_X_requireRange_1 (by decide) (fun hc => ?_) (fun hc => ?_)
  · rw [if_pos hc] at hq
    refine lv_iload_n hx hb d_X_requireRange_14 rfl (lv_at hl 1 rfl) ?_
    refine lv_if_le (tgt := 46) hx hb d_X_requireRange_15 (by decide) (fun hc => absurd (show (1 : Int32) = 0 by rw [if_pos hc] at hq; exact hq) (by decide)) (fun hc => ?_)
    rw [if_neg hc] at hq
    refine lv_iload_n hx hb d_X_requireRange_18 rfl (lv_at hl 0 rfl) ?_
    refine lv_if_lt (tgt := 36) hx hb d_X_requireRange_19 (by decide) (fun hc => ?_) (fun hc => ?_)
    · obtain ⟨zt, hzt⟩ := hT.2.2.1 (128, "no such address") (by decide +kernel)
      refine th_throw (E := R_Ei) (k := 2) (bytes := Bundle.six) hlocks hx hb (hml.trans hl.1.symm) htr hown (by decide +kernel) (hT.h1 hz) hT.h2 (fun w hw => hT.2.1 w (th_okEi w (List.mem_append_left _ hw)).1 (th_okEi w (List.mem_append_left _ hw)).2 _) hz.h4 (fun hpl => hT.chS (names := ["java/lang/RuntimeException", "java/lang/Exception"]) (by decide +kernel) (by decide +kernel) (fun w hw => th_okEi w (List.mem_append_right _ hw)) hpl) (hT.w k_X_64) (hT.w kn_Ei) hzt hS hpl d_X_requireRange_36 d_X_requireRange_39 d_X_requireRange_40 d_X_requireRange_42 d_X_requireRange_45 (th_out htab) (Nat.le_of_ble_eq_true rfl) (Nat.le_of_ble_eq_true rfl) (show 2 + 3 < _ from Nat.le_of_ble_eq_true rfl) (Nat.le_of_ble_eq_true rfl) hS.2.2 (th_end hP hD hS)
    · rw [if_neg hc] at hq
      refine lv_iload_n hx hb d_X_requireRange_22 rfl (lv_at hl 0 rfl) ?_
      refine lv_bipush (v := 24) hx hb d_X_requireRange_23 (by decide) ?_
      refine lv_icmp_ge (tgt := 36) hx hb d_X_requireRange_25 (by decide) (fun hc => ?_) (fun hc => ?_)
      · obtain ⟨zt, hzt⟩ := hT.2.2.1 (128, "no such address") (by decide +kernel)
        refine th_throw (E := R_Ei) (k := 2) (bytes := Bundle.six) hlocks hx hb (hml.trans hl.1.symm) htr hown (by decide +kernel) (hT.h1 hz) hT.h2 (fun w hw => hT.2.1 w (th_okEi w (List.mem_append_left _ hw)).1 (th_okEi w (List.mem_append_left _ hw)).2 _) hz.h4 (fun hpl => hT.chS (names := ["java/lang/RuntimeException", "java/lang/Exception"]) (by decide +kernel) (by decide +kernel) (fun w hw => th_okEi w (List.mem_append_right _ hw)) hpl) (hT.w k_X_64) (hT.w kn_Ei) hzt hS hpl d_X_requireRange_36 d_X_requireRange_39 d_X_requireRange_40 d_X_requireRange_42 d_X_requireRange_45 (th_out htab) (Nat.le_of_ble_eq_true rfl) (Nat.le_of_ble_eq_true rfl) (show 2 + 3 < _ from Nat.le_of_ble_eq_true rfl) (Nat.le_of_ble_eq_true rfl) hS.2.2 (th_end hP hD hS)
      · rw [if_neg hc] at hq
        refine lv_iload_n hx hb d_X_requireRange_28 rfl (lv_at hl 1 rfl) ?_
        refine lv_bipush (v := 24) hx hb d_X_requireRange_29 (by decide) ?_
        refine lv_iload_n hx hb d_X_requireRange_31 rfl (lv_at hl 0 rfl) ?_
        refine lv_isub hx hb d_X_requireRange_32 ?_
        refine lv_icmp_le (tgt := 46) hx hb d_X_requireRange_33 (by decide) (fun hc => absurd (show (1 : Int32) = 0 by rw [if_pos hc] at hq; exact hq) (by decide)) (fun hc => ?_)
        obtain ⟨zt, hzt⟩ := hT.2.2.1 (128, "no such address") (by decide +kernel)
        refine th_throw (E := R_Ei) (k := 2) (bytes := Bundle.six) hlocks hx hb (hml.trans hl.1.symm) htr hown (by decide +kernel) (hT.h1 hz) hT.h2 (fun w hw => hT.2.1 w (th_okEi w (List.mem_append_left _ hw)).1 (th_okEi w (List.mem_append_left _ hw)).2 _) hz.h4 (fun hpl => hT.chS (names := ["java/lang/RuntimeException", "java/lang/Exception"]) (by decide +kernel) (by decide +kernel) (fun w hw => th_okEi w (List.mem_append_right _ hw)) hpl) (hT.w k_X_64) (hT.w kn_Ei) hzt hS hpl d_X_requireRange_36 d_X_requireRange_39 d_X_requireRange_40 d_X_requireRange_42 d_X_requireRange_45 (th_out htab) (Nat.le_of_ble_eq_true rfl) (Nat.le_of_ble_eq_true rfl) (show 2 + 3 < _ from Nat.le_of_ble_eq_true rfl) (Nat.le_of_ble_eq_true rfl) hS.2.2 (th_end hP hD hS)
  · obtain ⟨zt, hzt⟩ := hT.2.2.1 (130, "fewer words than none") (by decide +kernel)
    refine th_throw (E := R_Ei) (k := 2) (bytes := Bundle.six) hlocks hx hb (hml.trans hl.1.symm) htr hown (by decide +kernel) (hT.h1 hz) hT.h2 (fun w hw => hT.2.1 w (th_okEi w (List.mem_append_left _ hw)).1 (th_okEi w (List.mem_append_left _ hw)).2 _) hz.h4 (fun hpl => hT.chS (names := ["java/lang/RuntimeException", "java/lang/Exception"]) (by decide +kernel) (by decide +kernel) (fun w hw => th_okEi w (List.mem_append_right _ hw)) hpl) (hT.w k_X_64) (hT.w kn_Ei) hzt hS hpl d_X_requireRange_4 d_X_requireRange_7 d_X_requireRange_8 d_X_requireRange_10 d_X_requireRange_13 (th_out htab) (Nat.le_of_ble_eq_true rfl) (Nat.le_of_ble_eq_true rfl) (show 2 + 3 < _ from Nat.le_of_ble_eq_true rfl) (Nat.le_of_ble_eq_true rfl) hS.2.2 (th_end hP hD hS)

set_option maxHeartbeats 4000000 in
set_option maxRecDepth 100000 in
/-- t_X_spawn -/
theorem t_X_spawn (l : Launch) (D : va_G) (tI tZ tA tJ : ClassId) (htr : l.stackTraces = false) (b : Nat → Nat) (F S sz : Nat) (q : KS)  : ob_M l y_X_spawn w_X_spawn ({ frames := 6, cells := 1, slots := 6, locals := 90 }) (pT D tI tZ tA tJ [.ref (b 0)] (xW b F S tI tZ tA q) sz (m_lowP (ks_th q) 6 0 = -1)) (ob_qT D vcl R_Es (xW b F S tI tZ tA q) (va_A (xW b F S tI tZ tA q) sz)) 1 6 (va_A (xW b F S tI tZ tA q) sz) := by
  refine ob_ofW (by decide +kernel) ?_
  intro p e s m args below meth c s₁ B hml htab hv
  obtain ⟨rfl, hT, hz, hq, hsz, hP, hD0⟩ := hv
  have hx := B.exec
  have hb := B.bytes
  have hr := B.returns
  have hlocks := B.notSynchronized
  have hown : s.vm.findClass R_X = some m.cls := findClass_of_methodNamed B.named
  have hl := lv_entry ([.ref (b 0)]) (n := 2) (Nat.le_of_ble_eq_true rfl)
  rw [lg_entry_eq]
  generalize (lg_sl ([.ref (b 0)]) ++ List.replicate (2 - (lg_sl ([.ref (b 0)])).length) Slot.unset).toArray = ls at hl ⊢
  have hl : lv_has ls 2 [(0, .ref (b 0))] := hl
  subst hsz
  have hD := hD0.self (sz := s.heap.size)
  have hpl : ∀ a, va_A (xW b F S tI tZ tA q) s.heap.size a → ∀ cell, s.heap[a]? = some cell → cell.vm.isStatics = false := va_A.plain hP
  generalize hAe : va_A (xW b F S tI tZ tA q) s.heap.size = A at hD hpl ⊢
  have hA : ∀ q : Nat, s.heap.size ≤ q → A q := fun q h => by rw [← hAe]; exact Or.inr h
  have hS : va_S A s.heap s.heap [] := va_S.rf
  refine lv_aload_n hx hb d_X_spawn_0 rfl (lv_at hl 0 rfl) ?_
  refine ob_callR (v := (some (.int (m_lowP (ks_th q) 6 0)))) (ob_runV (n := 0) (As := []) (rest := []) (c_X_lowestNotThere l D tI tZ tA tJ b F S q) (hT.ok ob_cd_c (by decide +kernel) rfl rfl (Nat.le_of_ble_eq_true rfl) (Nat.le_of_ble_eq_true rfl) kn_X kc_X_lowestNotThere) hx hb hml hown (hT.w k_X_42) (hT.w ki_X_lowestNotThere) (hT.w kv_X_lowestNotThere) (va_recv (q0 := 0) (ci := 0) hT.1 hP rfl rfl) pR.blind (pR.at hT (trivial) hP) rfl rfl hl.1 rfl (lv_room (Nat.le_of_ble_eq_true rfl)) d_X_spawn_1 ⟨Nat.le_of_ble_eq_true rfl, Nat.le_of_ble_eq_true rfl⟩) ?_
  refine W.eq (g2 := F0 m 4 ls [.int (m_lowP (ks_th q) 6 0)]) rfl ?_
  refine lv_istore_n (lv' := [(1, .int (m_lowP (ks_th q) 6 0)), (0, .ref (b 0))]) hx hb d_X_spawn_4 rfl hl (by decide) rfl (fun ls hl => ?_)
  refine lv_iload_n hx hb d_X_spawn_5 rfl (lv_at hl 0 rfl) ?_
  refine lv_iconst (v := -1) hx hb d_X_spawn_6 (by decide) ?_
  refine lv_icmp_ne (tgt := 20) hx hb d_X_spawn_7 (by decide) (fun hc => absurd hq hc) (fun hc => ?_)
  obtain ⟨zt, hzt⟩ := hT.2.2.1 (48, "all processes are there") (by decide +kernel)
  refine th_throw (E := R_Es) (k := 2) (bytes := Bundle.six) hlocks hx hb (hml.trans hl.1.symm) htr hown (by decide +kernel) (hT.h1 hz) hT.h2 (fun w hw => hT.2.1 w (th_okEs w (List.mem_append_left _ hw)).1 (th_okEs w (List.mem_append_left _ hw)).2 _) hz.h4 (fun hpl => hT.chS (names := ["java/lang/RuntimeException", "java/lang/Exception"]) (by decide +kernel) (by decide +kernel) (fun w hw => th_okEs w (List.mem_append_right _ hw)) hpl) (hT.w k_X_46) (hT.w kn_Es) hzt hS hpl d_X_spawn_10 d_X_spawn_13 d_X_spawn_14 d_X_spawn_16 d_X_spawn_19 (th_out htab) (Nat.le_of_ble_eq_true rfl) (Nat.le_of_ble_eq_true rfl) (show 2 + 3 < _ from Nat.le_of_ble_eq_true rfl) (Nat.le_of_ble_eq_true rfl) hS.2.2 (th_end hP hD hS)

set_option maxHeartbeats 4000000 in
set_option maxRecDepth 100000 in
/-- t_X_fork1 -/
theorem t_X_fork1 (l : Launch) (D : va_G) (tI tZ tA tJ : ClassId) (htr : l.stackTraces = false) (b : Nat → Nat) (F S sz : Nat) (q : KS) (p0 : Int32) : ob_M l y_X_fork w_X_fork ({ frames := 7, cells := 1, slots := 6, locals := 111 }) (pT D tI tZ tA tJ [.ref (b 0), .int p0] (xW b F S tI tZ tA q) sz (m_isP (ks_th q) p0 = 0)) (ob_qT D vcl R_En (xW b F S tI tZ tA q) (va_A (xW b F S tI tZ tA q) sz)) 1 6 (va_A (xW b F S tI tZ tA q) sz) := by
  refine ob_ofW (by decide +kernel) ?_
  intro p e s m args below meth c s₁ B hml htab hv
  obtain ⟨rfl, hT, hz, hq, hsz, hP, hD0⟩ := hv
  have hx := B.exec
  have hb := B.bytes
  have hr := B.returns
  have hlocks := B.notSynchronized
  have hown : s.vm.findClass R_X = some m.cls := findClass_of_methodNamed B.named
  have hl := lv_entry ([.ref (b 0), .int p0]) (n := 5) (Nat.le_of_ble_eq_true rfl)
  rw [lg_entry_eq]
  generalize (lg_sl ([.ref (b 0), .int p0]) ++ List.replicate (5 - (lg_sl ([.ref (b 0), .int p0])).length) Slot.unset).toArray = ls at hl ⊢
  have hl : lv_has ls 5 [(0, .ref (b 0)), (1, .int p0)] := hl
  subst hsz
  have hD := hD0.self (sz := s.heap.size)
  have hpl : ∀ a, va_A (xW b F S tI tZ tA q) s.heap.size a → ∀ cell, s.heap[a]? = some cell → cell.vm.isStatics = false := va_A.plain hP
  generalize hAe : va_A (xW b F S tI tZ tA q) s.heap.size = A at hD hpl ⊢
  have hA : ∀ q : Nat, s.heap.size ≤ q → A q := fun q h => by rw [← hAe]; exact Or.inr h
  have hS : va_S A s.heap s.heap [] := va_S.rf
  refine lv_aload_n hx hb d_X_fork_0 rfl (lv_at hl 0 rfl) ?_
  refine lv_iload_n hx hb d_X_fork_1 rfl (lv_at hl 1 rfl) ?_
  refine ob_callT (E := R_En) (X := []) (M := xW b F S tI tZ tA q) (M' := xW b F S tI tZ tA q) (ob_runV (n := 1) (As := [.int p0]) (rest := []) (t_X_requireProcess l D tI tZ tA tJ htr b F S s.heap.size q p0) (hT.ok ob_cd_c (by decide +kernel) rfl rfl (Nat.le_of_ble_eq_true rfl) (Nat.le_of_ble_eq_true rfl) kn_X kc_X_requireProcess) hx hb hml hown (hT.w k_X_53) (hT.w ki_X_requireProcess) (hT.w kv_X_requireProcess) (va_recv (q0 := 0) (ci := 0) hT.1 hP rfl rfl) pT.blind (pT.at hT (hz.on hS hpl) (hq) hP hD) rfl rfl hl.1 rfl (lv_room (Nat.le_of_ble_eq_true rfl)) d_X_fork_2 ⟨Nat.le_of_ble_eq_true rfl, Nat.le_of_ble_eq_true rfl⟩) hP hD hS hA (fun x H locs hex hP hD hS => ?_)
  exact ob_leave hlocks (th_out htab) (fun t ht hW => ⟨x, rfl, by rw [ht]; exact hex, by rw [ht]; exact hP, hD, hS.F ht⟩) hS.2.2

set_option maxHeartbeats 4000000 in
set_option maxRecDepth 100000 in
/-- t_X_exit1 -/
theorem t_X_exit1 (l : Launch) (D : va_G) (tI tZ tA tJ : ClassId) (htr : l.stackTraces = false) (b : Nat → Nat) (F S sz : Nat) (q : KS) (p0 : Int32) : ob_M l y_X_exit w_X_exit ({ frames := 7, cells := 1, slots := 6, locals := 111 }) (pT D tI tZ tA tJ [.ref (b 0), .int p0] (xW b F S tI tZ tA q) sz (m_isP (ks_th q) p0 = 0)) (ob_qT D vcl R_En (xW b F S tI tZ tA q) (va_A (xW b F S tI tZ tA q) sz)) 1 6 (va_A (xW b F S tI tZ tA q) sz) := by
  refine ob_ofW (by decide +kernel) ?_
  intro p e s m args below meth c s₁ B hml htab hv
  obtain ⟨rfl, hT, hz, hq, hsz, hP, hD0⟩ := hv
  have hx := B.exec
  have hb := B.bytes
  have hr := B.returns
  have hlocks := B.notSynchronized
  have hown : s.vm.findClass R_X = some m.cls := findClass_of_methodNamed B.named
  have hl := lv_entry ([.ref (b 0), .int p0]) (n := 4) (Nat.le_of_ble_eq_true rfl)
  rw [lg_entry_eq]
  generalize (lg_sl ([.ref (b 0), .int p0]) ++ List.replicate (4 - (lg_sl ([.ref (b 0), .int p0])).length) Slot.unset).toArray = ls at hl ⊢
  have hl : lv_has ls 4 [(0, .ref (b 0)), (1, .int p0)] := hl
  subst hsz
  have hD := hD0.self (sz := s.heap.size)
  have hpl : ∀ a, va_A (xW b F S tI tZ tA q) s.heap.size a → ∀ cell, s.heap[a]? = some cell → cell.vm.isStatics = false := va_A.plain hP
  generalize hAe : va_A (xW b F S tI tZ tA q) s.heap.size = A at hD hpl ⊢
  have hA : ∀ q : Nat, s.heap.size ≤ q → A q := fun q h => by rw [← hAe]; exact Or.inr h
  have hS : va_S A s.heap s.heap [] := va_S.rf
  refine lv_aload_n hx hb d_X_exit_0 rfl (lv_at hl 0 rfl) ?_
  refine lv_iload_n hx hb d_X_exit_1 rfl (lv_at hl 1 rfl) ?_
  refine ob_callT (E := R_En) (X := []) (M := xW b F S tI tZ tA q) (M' := xW b F S tI tZ tA q) (ob_runV (n := 1) (As := [.int p0]) (rest := []) (t_X_requireProcess l D tI tZ tA tJ htr b F S s.heap.size q p0) (hT.ok ob_cd_c (by decide +kernel) rfl rfl (Nat.le_of_ble_eq_true rfl) (Nat.le_of_ble_eq_true rfl) kn_X kc_X_requireProcess) hx hb hml hown (hT.w k_X_53) (hT.w ki_X_requireProcess) (hT.w kv_X_requireProcess) (va_recv (q0 := 0) (ci := 0) hT.1 hP rfl rfl) pT.blind (pT.at hT (hz.on hS hpl) (hq) hP hD) rfl rfl hl.1 rfl (lv_room (Nat.le_of_ble_eq_true rfl)) d_X_exit_2 ⟨Nat.le_of_ble_eq_true rfl, Nat.le_of_ble_eq_true rfl⟩) hP hD hS hA (fun x H locs hex hP hD hS => ?_)
  exact ob_leave hlocks (th_out htab) (fun t ht hW => ⟨x, rfl, by rw [ht]; exact hex, by rw [ht]; exact hP, hD, hS.F ht⟩) hS.2.2

set_option maxHeartbeats 4000000 in
set_option maxRecDepth 100000 in
/-- t_X_drop1 -/
theorem t_X_drop1 (l : Launch) (D : va_G) (tI tZ tA tJ : ClassId) (htr : l.stackTraces = false) (b : Nat → Nat) (F S sz : Nat) (q : KS) (p0 x : Int32) : ob_M l y_X_drop w_X_drop ({ frames := 7, cells := 1, slots := 6, locals := 111 }) (pT D tI tZ tA tJ [.ref (b 0), .int p0, .int x] (xW b F S tI tZ tA q) sz (m_isP (ks_th q) p0 = 0)) (ob_qT D vcl R_En (xW b F S tI tZ tA q) (va_A (xW b F S tI tZ tA q) sz)) 1 6 (va_A (xW b F S tI tZ tA q) sz) := by
  refine ob_ofW (by decide +kernel) ?_
  intro p e s m args below meth c s₁ B hml htab hv
  obtain ⟨rfl, hT, hz, hq, hsz, hP, hD0⟩ := hv
  have hx := B.exec
  have hb := B.bytes
  have hr := B.returns
  have hlocks := B.notSynchronized
  have hown : s.vm.findClass R_X = some m.cls := findClass_of_methodNamed B.named
  have hl := lv_entry ([.ref (b 0), .int p0, .int x]) (n := 3) (Nat.le_of_ble_eq_true rfl)
  rw [lg_entry_eq]
  generalize (lg_sl ([.ref (b 0), .int p0, .int x]) ++ List.replicate (3 - (lg_sl ([.ref (b 0), .int p0, .int x])).length) Slot.unset).toArray = ls at hl ⊢
  have hl : lv_has ls 3 [(0, .ref (b 0)), (1, .int p0), (2, .int x)] := hl
  subst hsz
  have hD := hD0.self (sz := s.heap.size)
  have hpl : ∀ a, va_A (xW b F S tI tZ tA q) s.heap.size a → ∀ cell, s.heap[a]? = some cell → cell.vm.isStatics = false := va_A.plain hP
  generalize hAe : va_A (xW b F S tI tZ tA q) s.heap.size = A at hD hpl ⊢
  have hA : ∀ q : Nat, s.heap.size ≤ q → A q := fun q h => by rw [← hAe]; exact Or.inr h
  have hS : va_S A s.heap s.heap [] := va_S.rf
  refine lv_aload_n hx hb d_X_drop_0 rfl (lv_at hl 0 rfl) ?_
  refine lv_iload_n hx hb d_X_drop_1 rfl (lv_at hl 1 rfl) ?_
  refine ob_callT (E := R_En) (X := []) (M := xW b F S tI tZ tA q) (M' := xW b F S tI tZ tA q) (ob_runV (n := 1) (As := [.int p0]) (rest := []) (t_X_requireProcess l D tI tZ tA tJ htr b F S s.heap.size q p0) (hT.ok ob_cd_c (by decide +kernel) rfl rfl (Nat.le_of_ble_eq_true rfl) (Nat.le_of_ble_eq_true rfl) kn_X kc_X_requireProcess) hx hb hml hown (hT.w k_X_53) (hT.w ki_X_requireProcess) (hT.w kv_X_requireProcess) (va_recv (q0 := 0) (ci := 0) hT.1 hP rfl rfl) pT.blind (pT.at hT (hz.on hS hpl) (hq) hP hD) rfl rfl hl.1 rfl (lv_room (Nat.le_of_ble_eq_true rfl)) d_X_drop_2 ⟨Nat.le_of_ble_eq_true rfl, Nat.le_of_ble_eq_true rfl⟩) hP hD hS hA (fun x H locs hex hP hD hS => ?_)
  exact ob_leave hlocks (th_out htab) (fun t ht hW => ⟨x, rfl, by rw [ht]; exact hex, by rw [ht]; exact hP, hD, hS.F ht⟩) hS.2.2

set_option maxHeartbeats 4000000 in
set_option maxRecDepth 100000 in
/-- t_X_load1 -/
theorem t_X_load1 (l : Launch) (D : va_G) (tI tZ tA tJ : ClassId) (htr : l.stackTraces = false) (b : Nat → Nat) (F S sz : Nat) (q : KS) (p0 a : Int32) : ob_M l y_X_load w_X_load ({ frames := 7, cells := 1, slots := 6, locals := 111 }) (pT D tI tZ tA tJ [.ref (b 0), .int p0, .int a] (xW b F S tI tZ tA q) sz (m_isP (ks_th q) p0 = 0)) (ob_qT D vcl R_En (xW b F S tI tZ tA q) (va_A (xW b F S tI tZ tA q) sz)) 1 6 (va_A (xW b F S tI tZ tA q) sz) := by
  refine ob_ofW (by decide +kernel) ?_
  intro p e s m args below meth c s₁ B hml htab hv
  obtain ⟨rfl, hT, hz, hq, hsz, hP, hD0⟩ := hv
  have hx := B.exec
  have hb := B.bytes
  have hr := B.returns
  have hlocks := B.notSynchronized
  have hown : s.vm.findClass R_X = some m.cls := findClass_of_methodNamed B.named
  have hl := lv_entry ([.ref (b 0), .int p0, .int a]) (n := 3) (Nat.le_of_ble_eq_true rfl)
  rw [lg_entry_eq]
  generalize (lg_sl ([.ref (b 0), .int p0, .int a]) ++ List.replicate (3 - (lg_sl ([.ref (b 0), .int p0, .int a])).length) Slot.unset).toArray = ls at hl ⊢
  have hl : lv_has ls 3 [(0, .ref (b 0)), (1, .int p0), (2, .int a)] := hl
  subst hsz
  have hD := hD0.self (sz := s.heap.size)
  have hpl : ∀ a, va_A (xW b F S tI tZ tA q) s.heap.size a → ∀ cell, s.heap[a]? = some cell → cell.vm.isStatics = false := va_A.plain hP
  generalize hAe : va_A (xW b F S tI tZ tA q) s.heap.size = A at hD hpl ⊢
  have hA : ∀ q : Nat, s.heap.size ≤ q → A q := fun q h => by rw [← hAe]; exact Or.inr h
  have hS : va_S A s.heap s.heap [] := va_S.rf
  refine lv_aload_n hx hb d_X_load_0 rfl (lv_at hl 0 rfl) ?_
  refine lv_iload_n hx hb d_X_load_1 rfl (lv_at hl 1 rfl) ?_
  refine ob_callT (E := R_En) (X := []) (M := xW b F S tI tZ tA q) (M' := xW b F S tI tZ tA q) (ob_runV (n := 1) (As := [.int p0]) (rest := []) (t_X_requireProcess l D tI tZ tA tJ htr b F S s.heap.size q p0) (hT.ok ob_cd_c (by decide +kernel) rfl rfl (Nat.le_of_ble_eq_true rfl) (Nat.le_of_ble_eq_true rfl) kn_X kc_X_requireProcess) hx hb hml hown (hT.w k_X_53) (hT.w ki_X_requireProcess) (hT.w kv_X_requireProcess) (va_recv (q0 := 0) (ci := 0) hT.1 hP rfl rfl) pT.blind (pT.at hT (hz.on hS hpl) (hq) hP hD) rfl rfl hl.1 rfl (lv_room (Nat.le_of_ble_eq_true rfl)) d_X_load_2 ⟨Nat.le_of_ble_eq_true rfl, Nat.le_of_ble_eq_true rfl⟩) hP hD hS hA (fun x H locs hex hP hD hS => ?_)
  exact ob_leave hlocks (th_out htab) (fun t ht hW => ⟨x, rfl, by rw [ht]; exact hex, by rw [ht]; exact hP, hD, hS.F ht⟩) hS.2.2

set_option maxHeartbeats 4000000 in
set_option maxRecDepth 100000 in
/-- t_X_store1 -/
theorem t_X_store1 (l : Launch) (D : va_G) (tI tZ tA tJ : ClassId) (htr : l.stackTraces = false) (b : Nat → Nat) (F S sz : Nat) (q : KS) (p0 a v : Int32) : ob_M l y_X_store w_X_store ({ frames := 7, cells := 1, slots := 6, locals := 111 }) (pT D tI tZ tA tJ [.ref (b 0), .int p0, .int a, .int v] (xW b F S tI tZ tA q) sz (m_isP (ks_th q) p0 = 0)) (ob_qT D vcl R_En (xW b F S tI tZ tA q) (va_A (xW b F S tI tZ tA q) sz)) 1 6 (va_A (xW b F S tI tZ tA q) sz) := by
  refine ob_ofW (by decide +kernel) ?_
  intro p e s m args below meth c s₁ B hml htab hv
  obtain ⟨rfl, hT, hz, hq, hsz, hP, hD0⟩ := hv
  have hx := B.exec
  have hb := B.bytes
  have hr := B.returns
  have hlocks := B.notSynchronized
  have hown : s.vm.findClass R_X = some m.cls := findClass_of_methodNamed B.named
  have hl := lv_entry ([.ref (b 0), .int p0, .int a, .int v]) (n := 4) (Nat.le_of_ble_eq_true rfl)
  rw [lg_entry_eq]
  generalize (lg_sl ([.ref (b 0), .int p0, .int a, .int v]) ++ List.replicate (4 - (lg_sl ([.ref (b 0), .int p0, .int a, .int v])).length) Slot.unset).toArray = ls at hl ⊢
  have hl : lv_has ls 4 [(0, .ref (b 0)), (1, .int p0), (2, .int a), (3, .int v)] := hl
  subst hsz
  have hD := hD0.self (sz := s.heap.size)
  have hpl : ∀ a, va_A (xW b F S tI tZ tA q) s.heap.size a → ∀ cell, s.heap[a]? = some cell → cell.vm.isStatics = false := va_A.plain hP
  generalize hAe : va_A (xW b F S tI tZ tA q) s.heap.size = A at hD hpl ⊢
  have hA : ∀ q : Nat, s.heap.size ≤ q → A q := fun q h => by rw [← hAe]; exact Or.inr h
  have hS : va_S A s.heap s.heap [] := va_S.rf
  refine lv_aload_n hx hb d_X_store_0 rfl (lv_at hl 0 rfl) ?_
  refine lv_iload_n hx hb d_X_store_1 rfl (lv_at hl 1 rfl) ?_
  refine ob_callT (E := R_En) (X := []) (M := xW b F S tI tZ tA q) (M' := xW b F S tI tZ tA q) (ob_runV (n := 1) (As := [.int p0]) (rest := []) (t_X_requireProcess l D tI tZ tA tJ htr b F S s.heap.size q p0) (hT.ok ob_cd_c (by decide +kernel) rfl rfl (Nat.le_of_ble_eq_true rfl) (Nat.le_of_ble_eq_true rfl) kn_X kc_X_requireProcess) hx hb hml hown (hT.w k_X_53) (hT.w ki_X_requireProcess) (hT.w kv_X_requireProcess) (va_recv (q0 := 0) (ci := 0) hT.1 hP rfl rfl) pT.blind (pT.at hT (hz.on hS hpl) (hq) hP hD) rfl rfl hl.1 rfl (lv_room (Nat.le_of_ble_eq_true rfl)) d_X_store_2 ⟨Nat.le_of_ble_eq_true rfl, Nat.le_of_ble_eq_true rfl⟩) hP hD hS hA (fun x H locs hex hP hD hS => ?_)
  exact ob_leave hlocks (th_out htab) (fun t ht hW => ⟨x, rfl, by rw [ht]; exact hex, by rw [ht]; exact hP, hD, hS.F ht⟩) hS.2.2

set_option maxHeartbeats 4000000 in
set_option maxRecDepth 100000 in
/-- t_X_copy1 -/
theorem t_X_copy1 (l : Launch) (D : va_G) (tI tZ tA tJ : ClassId) (htr : l.stackTraces = false) (b : Nat → Nat) (F S sz : Nat) (q : KS) (p0 a d n : Int32) : ob_M l y_X_copy w_X_copy ({ frames := 7, cells := 1, slots := 6, locals := 111 }) (pT D tI tZ tA tJ [.ref (b 0), .int p0, .int a, .int d, .int n] (xW b F S tI tZ tA q) sz (m_isP (ks_th q) p0 = 0)) (ob_qT D vcl R_En (xW b F S tI tZ tA q) (va_A (xW b F S tI tZ tA q) sz)) 1 6 (va_A (xW b F S tI tZ tA q) sz) := by
  refine ob_ofW (by decide +kernel) ?_
  intro p e s m args below meth c s₁ B hml htab hv
  obtain ⟨rfl, hT, hz, hq, hsz, hP, hD0⟩ := hv
  have hx := B.exec
  have hb := B.bytes
  have hr := B.returns
  have hlocks := B.notSynchronized
  have hown : s.vm.findClass R_X = some m.cls := findClass_of_methodNamed B.named
  have hl := lv_entry ([.ref (b 0), .int p0, .int a, .int d, .int n]) (n := 6) (Nat.le_of_ble_eq_true rfl)
  rw [lg_entry_eq]
  generalize (lg_sl ([.ref (b 0), .int p0, .int a, .int d, .int n]) ++ List.replicate (6 - (lg_sl ([.ref (b 0), .int p0, .int a, .int d, .int n])).length) Slot.unset).toArray = ls at hl ⊢
  have hl : lv_has ls 6 [(0, .ref (b 0)), (1, .int p0), (2, .int a), (3, .int d), (4, .int n)] := hl
  subst hsz
  have hD := hD0.self (sz := s.heap.size)
  have hpl : ∀ a, va_A (xW b F S tI tZ tA q) s.heap.size a → ∀ cell, s.heap[a]? = some cell → cell.vm.isStatics = false := va_A.plain hP
  generalize hAe : va_A (xW b F S tI tZ tA q) s.heap.size = A at hD hpl ⊢
  have hA : ∀ q : Nat, s.heap.size ≤ q → A q := fun q h => by rw [← hAe]; exact Or.inr h
  have hS : va_S A s.heap s.heap [] := va_S.rf
  refine lv_aload_n hx hb d_X_copy_0 rfl (lv_at hl 0 rfl) ?_
  refine lv_iload_n hx hb d_X_copy_1 rfl (lv_at hl 1 rfl) ?_
  refine ob_callT (E := R_En) (X := []) (M := xW b F S tI tZ tA q) (M' := xW b F S tI tZ tA q) (ob_runV (n := 1) (As := [.int p0]) (rest := []) (t_X_requireProcess l D tI tZ tA tJ htr b F S s.heap.size q p0) (hT.ok ob_cd_c (by decide +kernel) rfl rfl (Nat.le_of_ble_eq_true rfl) (Nat.le_of_ble_eq_true rfl) kn_X kc_X_requireProcess) hx hb hml hown (hT.w k_X_53) (hT.w ki_X_requireProcess) (hT.w kv_X_requireProcess) (va_recv (q0 := 0) (ci := 0) hT.1 hP rfl rfl) pT.blind (pT.at hT (hz.on hS hpl) (hq) hP hD) rfl rfl hl.1 rfl (lv_room (Nat.le_of_ble_eq_true rfl)) d_X_copy_2 ⟨Nat.le_of_ble_eq_true rfl, Nat.le_of_ble_eq_true rfl⟩) hP hD hS hA (fun x H locs hex hP hD hS => ?_)
  exact ob_leave hlocks (th_out htab) (fun t ht hW => ⟨x, rfl, by rw [ht]; exact hex, by rw [ht]; exact hP, hD, hS.F ht⟩) hS.2.2

set_option maxHeartbeats 4000000 in
set_option maxRecDepth 100000 in
/-- t_X_fork2 -/
theorem t_X_fork2 (l : Launch) (D : va_G) (tI tZ tA tJ : ClassId) (htr : l.stackTraces = false) (b : Nat → Nat) (F S sz : Nat) (q : KS) (p0 : Int32) : ob_M l y_X_fork w_X_fork ({ frames := 6, cells := 1, slots := 6, locals := 90 }) (pT D tI tZ tA tJ [.ref (b 0), .int p0] (xW b F S tI tZ tA q) sz (¬ m_isP (ks_th q) p0 = 0 ∧ m_lowP (ks_th q) 6 0 = -1)) (ob_qT D vcl R_Es (xW b F S tI tZ tA q) (va_A (xW b F S tI tZ tA q) sz)) 1 6 (va_A (xW b F S tI tZ tA q) sz) := by
  refine ob_ofW (by decide +kernel) ?_
  intro p e s m args below meth c s₁ B hml htab hv
  obtain ⟨rfl, hT, hz, ⟨hpr, hq⟩, hsz, hP, hD0⟩ := hv
  have hx := B.exec
  have hb := B.bytes
  have hr := B.returns
  have hlocks := B.notSynchronized
  have hown : s.vm.findClass R_X = some m.cls := findClass_of_methodNamed B.named
  have hl := lv_entry ([.ref (b 0), .int p0]) (n := 5) (Nat.le_of_ble_eq_true rfl)
  rw [lg_entry_eq]
  generalize (lg_sl ([.ref (b 0), .int p0]) ++ List.replicate (5 - (lg_sl ([.ref (b 0), .int p0])).length) Slot.unset).toArray = ls at hl ⊢
  have hl : lv_has ls 5 [(0, .ref (b 0)), (1, .int p0)] := hl
  subst hsz
  have hD := hD0.self (sz := s.heap.size)
  have hpl : ∀ a, va_A (xW b F S tI tZ tA q) s.heap.size a → ∀ cell, s.heap[a]? = some cell → cell.vm.isStatics = false := va_A.plain hP
  generalize hAe : va_A (xW b F S tI tZ tA q) s.heap.size = A at hD hpl ⊢
  have hA : ∀ q : Nat, s.heap.size ≤ q → A q := fun q h => by rw [← hAe]; exact Or.inr h
  have hS : va_S A s.heap s.heap [] := va_S.rf
  refine lv_aload_n hx hb d_X_fork_0 rfl (lv_at hl 0 rfl) ?_
  refine lv_iload_n hx hb d_X_fork_1 rfl (lv_at hl 1 rfl) ?_
  refine ob_callR (v := none) (ob_runV (n := 1) (As := [.int p0]) (rest := []) (c_X_requireProcess l D tI tZ tA tJ b F S q p0) (hT.ok ob_cd_c (by decide +kernel) rfl rfl (Nat.le_of_ble_eq_true rfl) (Nat.le_of_ble_eq_true rfl) kn_X kc_X_requireProcess) hx hb hml hown (hT.w k_X_53) (hT.w ki_X_requireProcess) (hT.w kv_X_requireProcess) (va_recv (q0 := 0) (ci := 0) hT.1 hP rfl rfl) pR.blind (pR.at hT (hpr) hP) rfl rfl hl.1 rfl (lv_room (Nat.le_of_ble_eq_true rfl)) d_X_fork_2 ⟨Nat.le_of_ble_eq_true rfl, Nat.le_of_ble_eq_true rfl⟩) ?_
  refine W.eq (g2 := F0 m 5 ls []) rfl ?_
  refine lv_aload_n hx hb d_X_fork_5 rfl (lv_at hl 0 rfl) ?_
  refine ob_callR (v := (some (.int (m_lowP (ks_th q) 6 0)))) (ob_runV (n := 0) (As := []) (rest := []) (c_X_lowestNotThere l D tI tZ tA tJ b F S q) (hT.ok ob_cd_c (by decide +kernel) rfl rfl (Nat.le_of_ble_eq_true rfl) (Nat.le_of_ble_eq_true rfl) kn_X kc_X_lowestNotThere) hx hb hml hown (hT.w k_X_42) (hT.w ki_X_lowestNotThere) (hT.w kv_X_lowestNotThere) (va_recv (q0 := 0) (ci := 0) hT.1 hP rfl rfl) pR.blind (pR.at hT (trivial) hP) rfl rfl hl.1 rfl (lv_room (Nat.le_of_ble_eq_true rfl)) d_X_fork_6 ⟨Nat.le_of_ble_eq_true rfl, Nat.le_of_ble_eq_true rfl⟩) ?_
  refine W.eq (g2 := F0 m 9 ls [.int (m_lowP (ks_th q) 6 0)]) rfl ?_
  refine lv_istore_n (lv' := [(2, .int (m_lowP (ks_th q) 6 0)), (0, .ref (b 0)), (1, .int p0)]) hx hb d_X_fork_9 rfl hl (by decide) rfl (fun ls hl => ?_)
  refine lv_iload_n hx hb d_X_fork_10 rfl (lv_at hl 0 rfl) ?_
  refine lv_iconst (v := -1) hx hb d_X_fork_11 (by decide) ?_
  refine lv_icmp_ne (tgt := 25) hx hb d_X_fork_12 (by decide) (fun hc => absurd hq hc) (fun hc => ?_)
  obtain ⟨zt, hzt⟩ := hT.2.2.1 (48, "all processes are there") (by decide +kernel)
  refine th_throw (E := R_Es) (k := 2) (bytes := Bundle.six) hlocks hx hb (hml.trans hl.1.symm) htr hown (by decide +kernel) (hT.h1 hz) hT.h2 (fun w hw => hT.2.1 w (th_okEs w (List.mem_append_left _ hw)).1 (th_okEs w (List.mem_append_left _ hw)).2 _) hz.h4 (fun hpl => hT.chS (names := ["java/lang/RuntimeException", "java/lang/Exception"]) (by decide +kernel) (by decide +kernel) (fun w hw => th_okEs w (List.mem_append_right _ hw)) hpl) (hT.w k_X_46) (hT.w kn_Es) hzt hS hpl d_X_fork_15 d_X_fork_18 d_X_fork_19 d_X_fork_21 d_X_fork_24 (th_out htab) (Nat.le_of_ble_eq_true rfl) (Nat.le_of_ble_eq_true rfl) (show 2 + 3 < _ from Nat.le_of_ble_eq_true rfl) (Nat.le_of_ble_eq_true rfl) hS.2.2 (th_end hP hD hS)

set_option maxHeartbeats 4000000 in
set_option maxRecDepth 100000 in
/-- t_X_drop2 -/
theorem t_X_drop2 (l : Launch) (D : va_G) (tI tZ tA tJ : ClassId) (htr : l.stackTraces = false) (b : Nat → Nat) (F S sz : Nat) (q : KS) (p0 x : Int32) : ob_M l y_X_drop w_X_drop ({ frames := 6, cells := 1, slots := 6, locals := 90 }) (pT D tI tZ tA tJ [.ref (b 0), .int p0, .int x] (xW b F S tI tZ tA q) sz (¬ m_isP (ks_th q) p0 = 0 ∧ (¬ x < 0 → 6 ≤ x))) (ob_qT D vcl R_Ei (xW b F S tI tZ tA q) (va_A (xW b F S tI tZ tA q) sz)) 1 6 (va_A (xW b F S tI tZ tA q) sz) := by
  refine ob_ofW (by decide +kernel) ?_
  intro p e s m args below meth c s₁ B hml htab hv
  obtain ⟨rfl, hT, hz, ⟨hpr, hq⟩, hsz, hP, hD0⟩ := hv
  have hx := B.exec
  have hb := B.bytes
  have hr := B.returns
  have hlocks := B.notSynchronized
  have hown : s.vm.findClass R_X = some m.cls := findClass_of_methodNamed B.named
  have hl := lv_entry ([.ref (b 0), .int p0, .int x]) (n := 3) (Nat.le_of_ble_eq_true rfl)
  rw [lg_entry_eq]
  generalize (lg_sl ([.ref (b 0), .int p0, .int x]) ++ List.replicate (3 - (lg_sl ([.ref (b 0), .int p0, .int x])).length) Slot.unset).toArray = ls at hl ⊢
  have hl : lv_has ls 3 [(0, .ref (b 0)), (1, .int p0), (2, .int x)] := hl
  subst hsz
  have hD := hD0.self (sz := s.heap.size)
  have hpl : ∀ a, va_A (xW b F S tI tZ tA q) s.heap.size a → ∀ cell, s.heap[a]? = some cell → cell.vm.isStatics = false := va_A.plain hP
  generalize hAe : va_A (xW b F S tI tZ tA q) s.heap.size = A at hD hpl ⊢
  have hA : ∀ q : Nat, s.heap.size ≤ q → A q := fun q h => by rw [← hAe]; exact Or.inr h
  have hS : va_S A s.heap s.heap [] := va_S.rf
  refine lv_aload_n hx hb d_X_drop_0 rfl (lv_at hl 0 rfl) ?_
  refine lv_iload_n hx hb d_X_drop_1 rfl (lv_at hl 1 rfl) ?_
  refine ob_callR (v := none) (ob_runV (n := 1) (As := [.int p0]) (rest := []) (c_X_requireProcess l D tI tZ tA tJ b F S q p0) (hT.ok ob_cd_c (by decide +kernel) rfl rfl (Nat.le_of_ble_eq_true rfl) (Nat.le_of_ble_eq_true rfl) kn_X kc_X_requireProcess) hx hb hml hown (hT.w k_X_53) (hT.w ki_X_requireProcess) (hT.w kv_X_requireProcess) (va_recv (q0 := 0) (ci := 0) hT.1 hP rfl rfl) pR.blind (pR.at hT (hpr) hP) rfl rfl hl.1 rfl (lv_room (Nat.le_of_ble_eq_true rfl)) d_X_drop_2 ⟨Nat.le_of_ble_eq_true rfl, Nat.le_of_ble_eq_true rfl⟩) ?_
  refine W.eq (g2 := F0 m 5 ls []) rfl ?_
  refine lv_iload_n hx hb d_X_drop_5 rfl (lv_at hl 2 rfl) ?_
  refine lv_if_lt (tgt := 15) hx hb d_X_drop_6 (by decide) (fun hc => ?_) (fun hc => ?_)
  · obtain ⟨zt, hzt⟩ := hT.2.2.1 (66, "no such page") (by decide +kernel)
    refine th_throw (E := R_Ei) (k := 2) (bytes := Bundle.six) hlocks hx hb (hml.trans hl.1.symm) htr hown (by decide +kernel) (hT.h1 hz) hT.h2 (fun w hw => hT.2.1 w (th_okEi w (List.mem_append_left _ hw)).1 (th_okEi w (List.mem_append_left _ hw)).2 _) hz.h4 (fun hpl => hT.chS (names := ["java/lang/RuntimeException", "java/lang/Exception"]) (by decide +kernel) (by decide +kernel) (fun w hw => th_okEi w (List.mem_append_right _ hw)) hpl) (hT.w k_X_64) (hT.w kn_Ei) hzt hS hpl d_X_drop_15 d_X_drop_18 d_X_drop_19 d_X_drop_21 d_X_drop_24 (th_out htab) (Nat.le_of_ble_eq_true rfl) (Nat.le_of_ble_eq_true rfl) (show 2 + 3 < _ from Nat.le_of_ble_eq_true rfl) (Nat.le_of_ble_eq_true rfl) hS.2.2 (th_end hP hD hS)
  · have hc0 := hc
    refine lv_iload_n hx hb d_X_drop_9 rfl (lv_at hl 2 rfl) ?_
    refine lv_bipush (v := 6) hx hb d_X_drop_10 (by decide) ?_
    refine lv_icmp_lt (tgt := 25) hx hb d_X_drop_12 (by decide) (fun hc => absurd (hq hc0) (Int32.not_le.mpr hc)) (fun hc => ?_)
    obtain ⟨zt, hzt⟩ := hT.2.2.1 (66, "no such page") (by decide +kernel)
    refine th_throw (E := R_Ei) (k := 2) (bytes := Bundle.six) hlocks hx hb (hml.trans hl.1.symm) htr hown (by decide +kernel) (hT.h1 hz) hT.h2 (fun w hw => hT.2.1 w (th_okEi w (List.mem_append_left _ hw)).1 (th_okEi w (List.mem_append_left _ hw)).2 _) hz.h4 (fun hpl => hT.chS (names := ["java/lang/RuntimeException", "java/lang/Exception"]) (by decide +kernel) (by decide +kernel) (fun w hw => th_okEi w (List.mem_append_right _ hw)) hpl) (hT.w k_X_64) (hT.w kn_Ei) hzt hS hpl d_X_drop_15 d_X_drop_18 d_X_drop_19 d_X_drop_21 d_X_drop_24 (th_out htab) (Nat.le_of_ble_eq_true rfl) (Nat.le_of_ble_eq_true rfl) (show 2 + 3 < _ from Nat.le_of_ble_eq_true rfl) (Nat.le_of_ble_eq_true rfl) hS.2.2 (th_end hP hD hS)

set_option maxHeartbeats 4000000 in
set_option maxRecDepth 100000 in
/-- t_X_load2 -/
theorem t_X_load2 (l : Launch) (D : va_G) (tI tZ tA tJ : ClassId) (htr : l.stackTraces = false) (b : Nat → Nat) (F S sz : Nat) (q : KS) (p0 a : Int32) : ob_M l y_X_load w_X_load ({ frames := 7, cells := 1, slots := 6, locals := 110 }) (pT D tI tZ tA tJ [.ref (b 0), .int p0, .int a] (xW b F S tI tZ tA q) sz (¬ m_isP (ks_th q) p0 = 0 ∧ m_isA a = 0)) (ob_qT D vcl R_Ei (xW b F S tI tZ tA q) (va_A (xW b F S tI tZ tA q) sz)) 1 6 (va_A (xW b F S tI tZ tA q) sz) := by
  refine ob_ofW (by decide +kernel) ?_
  intro p e s m args below meth c s₁ B hml htab hv
  obtain ⟨rfl, hT, hz, ⟨hpr, hq⟩, hsz, hP, hD0⟩ := hv
  have hx := B.exec
  have hb := B.bytes
  have hr := B.returns
  have hlocks := B.notSynchronized
  have hown : s.vm.findClass R_X = some m.cls := findClass_of_methodNamed B.named
  have hl := lv_entry ([.ref (b 0), .int p0, .int a]) (n := 3) (Nat.le_of_ble_eq_true rfl)
  rw [lg_entry_eq]
  generalize (lg_sl ([.ref (b 0), .int p0, .int a]) ++ List.replicate (3 - (lg_sl ([.ref (b 0), .int p0, .int a])).length) Slot.unset).toArray = ls at hl ⊢
  have hl : lv_has ls 3 [(0, .ref (b 0)), (1, .int p0), (2, .int a)] := hl
  subst hsz
  have hD := hD0.self (sz := s.heap.size)
  have hpl : ∀ a, va_A (xW b F S tI tZ tA q) s.heap.size a → ∀ cell, s.heap[a]? = some cell → cell.vm.isStatics = false := va_A.plain hP
  generalize hAe : va_A (xW b F S tI tZ tA q) s.heap.size = A at hD hpl ⊢
  have hA : ∀ q : Nat, s.heap.size ≤ q → A q := fun q h => by rw [← hAe]; exact Or.inr h
  have hS : va_S A s.heap s.heap [] := va_S.rf
  refine lv_aload_n hx hb d_X_load_0 rfl (lv_at hl 0 rfl) ?_
  refine lv_iload_n hx hb d_X_load_1 rfl (lv_at hl 1 rfl) ?_
  refine ob_callR (v := none) (ob_runV (n := 1) (As := [.int p0]) (rest := []) (c_X_requireProcess l D tI tZ tA tJ b F S q p0) (hT.ok ob_cd_c (by decide +kernel) rfl rfl (Nat.le_of_ble_eq_true rfl) (Nat.le_of_ble_eq_true rfl) kn_X kc_X_requireProcess) hx hb hml hown (hT.w k_X_53) (hT.w ki_X_requireProcess) (hT.w kv_X_requireProcess) (va_recv (q0 := 0) (ci := 0) hT.1 hP rfl rfl) pR.blind (pR.at hT (hpr) hP) rfl rfl hl.1 rfl (lv_room (Nat.le_of_ble_eq_true rfl)) d_X_load_2 ⟨Nat.le_of_ble_eq_true rfl, Nat.le_of_ble_eq_true rfl⟩) ?_
  refine W.eq (g2 := F0 m 5 ls []) rfl ?_
  refine lv_iload_n hx hb d_X_load_5 rfl (lv_at hl 2 rfl) ?_
  refine ob_callT (E := R_Ei) (X := xW b F S tI tZ tA q) (M := []) (M' := []) (ob_runS (n := 1) (As := [.int a]) (rest := []) (t_X_requireAddress l D tI tZ tA tJ htr s.heap.size a) (hT.ok ob_cd_c (by decide +kernel) rfl rfl (Nat.le_of_ble_eq_true rfl) (Nat.le_of_ble_eq_true rfl) kn_X kc_X_requireAddress) hx hb hml hown (hT.w k_X_69) (hT.w ks_X_requireAddress) pT.blind (pT.at hT (hz.on hS hpl) (hq) (fun k q h => nomatch h) (xE_D : va_D A [])) rfl rfl hl.1 rfl (lv_room (Nat.le_of_ble_eq_true rfl)) d_X_load_6 ⟨Nat.le_of_ble_eq_true rfl, Nat.le_of_ble_eq_true rfl⟩) (xN_to hP) (xM_to hD) hS hA (fun x H locs hex hP hD hS => ?_)
  have hP : va_P D vcl (xW b F S tI tZ tA q) H := xN_of hP
  have hD : va_D A (xW b F S tI tZ tA q) := xM_of hD
  exact ob_leave hlocks (th_out htab) (fun t ht hW => ⟨x, rfl, by rw [ht]; exact hex, by rw [ht]; exact hP, hD, hS.F ht⟩) hS.2.2

set_option maxHeartbeats 4000000 in
set_option maxRecDepth 100000 in
/-- t_X_store2 -/
theorem t_X_store2 (l : Launch) (D : va_G) (tI tZ tA tJ : ClassId) (htr : l.stackTraces = false) (b : Nat → Nat) (F S sz : Nat) (q : KS) (p0 a v : Int32) : ob_M l y_X_store w_X_store ({ frames := 7, cells := 1, slots := 6, locals := 110 }) (pT D tI tZ tA tJ [.ref (b 0), .int p0, .int a, .int v] (xW b F S tI tZ tA q) sz (¬ m_isP (ks_th q) p0 = 0 ∧ m_isA a = 0)) (ob_qT D vcl R_Ei (xW b F S tI tZ tA q) (va_A (xW b F S tI tZ tA q) sz)) 1 6 (va_A (xW b F S tI tZ tA q) sz) := by
  refine ob_ofW (by decide +kernel) ?_
  intro p e s m args below meth c s₁ B hml htab hv
  obtain ⟨rfl, hT, hz, ⟨hpr, hq⟩, hsz, hP, hD0⟩ := hv
  have hx := B.exec
  have hb := B.bytes
  have hr := B.returns
  have hlocks := B.notSynchronized
  have hown : s.vm.findClass R_X = some m.cls := findClass_of_methodNamed B.named
  have hl := lv_entry ([.ref (b 0), .int p0, .int a, .int v]) (n := 4) (Nat.le_of_ble_eq_true rfl)
  rw [lg_entry_eq]
  generalize (lg_sl ([.ref (b 0), .int p0, .int a, .int v]) ++ List.replicate (4 - (lg_sl ([.ref (b 0), .int p0, .int a, .int v])).length) Slot.unset).toArray = ls at hl ⊢
  have hl : lv_has ls 4 [(0, .ref (b 0)), (1, .int p0), (2, .int a), (3, .int v)] := hl
  subst hsz
  have hD := hD0.self (sz := s.heap.size)
  have hpl : ∀ a, va_A (xW b F S tI tZ tA q) s.heap.size a → ∀ cell, s.heap[a]? = some cell → cell.vm.isStatics = false := va_A.plain hP
  generalize hAe : va_A (xW b F S tI tZ tA q) s.heap.size = A at hD hpl ⊢
  have hA : ∀ q : Nat, s.heap.size ≤ q → A q := fun q h => by rw [← hAe]; exact Or.inr h
  have hS : va_S A s.heap s.heap [] := va_S.rf
  refine lv_aload_n hx hb d_X_store_0 rfl (lv_at hl 0 rfl) ?_
  refine lv_iload_n hx hb d_X_store_1 rfl (lv_at hl 1 rfl) ?_
  refine ob_callR (v := none) (ob_runV (n := 1) (As := [.int p0]) (rest := []) (c_X_requireProcess l D tI tZ tA tJ b F S q p0) (hT.ok ob_cd_c (by decide +kernel) rfl rfl (Nat.le_of_ble_eq_true rfl) (Nat.le_of_ble_eq_true rfl) kn_X kc_X_requireProcess) hx hb hml hown (hT.w k_X_53) (hT.w ki_X_requireProcess) (hT.w kv_X_requireProcess) (va_recv (q0 := 0) (ci := 0) hT.1 hP rfl rfl) pR.blind (pR.at hT (hpr) hP) rfl rfl hl.1 rfl (lv_room (Nat.le_of_ble_eq_true rfl)) d_X_store_2 ⟨Nat.le_of_ble_eq_true rfl, Nat.le_of_ble_eq_true rfl⟩) ?_
  refine W.eq (g2 := F0 m 5 ls []) rfl ?_
  refine lv_iload_n hx hb d_X_store_5 rfl (lv_at hl 2 rfl) ?_
  refine ob_callT (E := R_Ei) (X := xW b F S tI tZ tA q) (M := []) (M' := []) (ob_runS (n := 1) (As := [.int a]) (rest := []) (t_X_requireAddress l D tI tZ tA tJ htr s.heap.size a) (hT.ok ob_cd_c (by decide +kernel) rfl rfl (Nat.le_of_ble_eq_true rfl) (Nat.le_of_ble_eq_true rfl) kn_X kc_X_requireAddress) hx hb hml hown (hT.w k_X_69) (hT.w ks_X_requireAddress) pT.blind (pT.at hT (hz.on hS hpl) (hq) (fun k q h => nomatch h) (xE_D : va_D A [])) rfl rfl hl.1 rfl (lv_room (Nat.le_of_ble_eq_true rfl)) d_X_store_6 ⟨Nat.le_of_ble_eq_true rfl, Nat.le_of_ble_eq_true rfl⟩) (xN_to hP) (xM_to hD) hS hA (fun x H locs hex hP hD hS => ?_)
  have hP : va_P D vcl (xW b F S tI tZ tA q) H := xN_of hP
  have hD : va_D A (xW b F S tI tZ tA q) := xM_of hD
  exact ob_leave hlocks (th_out htab) (fun t ht hW => ⟨x, rfl, by rw [ht]; exact hex, by rw [ht]; exact hP, hD, hS.F ht⟩) hS.2.2

set_option maxHeartbeats 4000000 in
set_option maxRecDepth 100000 in
/-- t_X_copy2 -/
theorem t_X_copy2 (l : Launch) (D : va_G) (tI tZ tA tJ : ClassId) (htr : l.stackTraces = false) (b : Nat → Nat) (F S sz : Nat) (q : KS) (p0 a d n : Int32) : ob_M l y_X_copy w_X_copy ({ frames := 7, cells := 1, slots := 6, locals := 111 }) (pT D tI tZ tA tJ [.ref (b 0), .int p0, .int a, .int d, .int n] (xW b F S tI tZ tA q) sz (¬ m_isP (ks_th q) p0 = 0 ∧ (k_rng a n = 0 ∨ k_rng d n = 0))) (ob_qT D vcl R_Ei (xW b F S tI tZ tA q) (va_A (xW b F S tI tZ tA q) sz)) 1 6 (va_A (xW b F S tI tZ tA q) sz) := by
  refine ob_ofW (by decide +kernel) ?_
  intro p e s m args below meth c s₁ B hml htab hv
  obtain ⟨rfl, hT, hz, ⟨hpr, hq⟩, hsz, hP, hD0⟩ := hv
  have hx := B.exec
  have hb := B.bytes
  have hr := B.returns
  have hlocks := B.notSynchronized
  have hown : s.vm.findClass R_X = some m.cls := findClass_of_methodNamed B.named
  have hl := lv_entry ([.ref (b 0), .int p0, .int a, .int d, .int n]) (n := 6) (Nat.le_of_ble_eq_true rfl)
  rw [lg_entry_eq]
  generalize (lg_sl ([.ref (b 0), .int p0, .int a, .int d, .int n]) ++ List.replicate (6 - (lg_sl ([.ref (b 0), .int p0, .int a, .int d, .int n])).length) Slot.unset).toArray = ls at hl ⊢
  have hl : lv_has ls 6 [(0, .ref (b 0)), (1, .int p0), (2, .int a), (3, .int d), (4, .int n)] := hl
  subst hsz
  have hD := hD0.self (sz := s.heap.size)
  have hpl : ∀ a, va_A (xW b F S tI tZ tA q) s.heap.size a → ∀ cell, s.heap[a]? = some cell → cell.vm.isStatics = false := va_A.plain hP
  generalize hAe : va_A (xW b F S tI tZ tA q) s.heap.size = A at hD hpl ⊢
  have hA : ∀ q : Nat, s.heap.size ≤ q → A q := fun q h => by rw [← hAe]; exact Or.inr h
  have hS : va_S A s.heap s.heap [] := va_S.rf
  refine lv_aload_n hx hb d_X_copy_0 rfl (lv_at hl 0 rfl) ?_
  refine lv_iload_n hx hb d_X_copy_1 rfl (lv_at hl 1 rfl) ?_
  refine ob_callR (v := none) (ob_runV (n := 1) (As := [.int p0]) (rest := []) (c_X_requireProcess l D tI tZ tA tJ b F S q p0) (hT.ok ob_cd_c (by decide +kernel) rfl rfl (Nat.le_of_ble_eq_true rfl) (Nat.le_of_ble_eq_true rfl) kn_X kc_X_requireProcess) hx hb hml hown (hT.w k_X_53) (hT.w ki_X_requireProcess) (hT.w kv_X_requireProcess) (va_recv (q0 := 0) (ci := 0) hT.1 hP rfl rfl) pR.blind (pR.at hT (hpr) hP) rfl rfl hl.1 rfl (lv_room (Nat.le_of_ble_eq_true rfl)) d_X_copy_2 ⟨Nat.le_of_ble_eq_true rfl, Nat.le_of_ble_eq_true rfl⟩) ?_
  refine W.eq (g2 := F0 m 5 ls []) rfl ?_
  refine lv_iload_n hx hb d_X_copy_5 rfl (lv_at hl 2 rfl) ?_
  refine lv_iload hx hb d_X_copy_6 (lv_at hl 4 rfl) ?_
  by_cases hc : k_rng a n = 0
  · refine ob_callT (E := R_Ei) (X := xW b F S tI tZ tA q) (M := []) (M' := []) (ob_runS (n := 2) (As := [.int a, .int n]) (rest := []) (t_X_requireRange l D tI tZ tA tJ htr s.heap.size a n) (hT.ok ob_cd_c (by decide +kernel) rfl rfl (Nat.le_of_ble_eq_true rfl) (Nat.le_of_ble_eq_true rfl) kn_X kc_X_requireRange) hx hb hml hown (hT.w k_X_79) (hT.w ks_X_requireRange) pT.blind (pT.at hT (hz.on hS hpl) (hc) (fun k q h => nomatch h) (xE_D : va_D A [])) rfl rfl hl.1 rfl (lv_room (Nat.le_of_ble_eq_true rfl)) d_X_copy_8 ⟨Nat.le_of_ble_eq_true rfl, Nat.le_of_ble_eq_true rfl⟩) (xN_to hP) (xM_to hD) hS hA (fun x H locs hex hP hD hS => ?_)
    have hP : va_P D vcl (xW b F S tI tZ tA q) H := xN_of hP
    have hD : va_D A (xW b F S tI tZ tA q) := xM_of hD
    exact ob_leave hlocks (th_out htab) (fun t ht hW => ⟨x, rfl, by rw [ht]; exact hex, by rw [ht]; exact hP, hD, hS.F ht⟩) hS.2.2
  · refine ob_callR (v := none) (ob_runS (n := 2) (As := [.int a, .int n]) (rest := []) (c_X_requireRange l D tI tZ tA tJ a n) (hT.ok ob_cd_c (by decide +kernel) rfl rfl (Nat.le_of_ble_eq_true rfl) (Nat.le_of_ble_eq_true rfl) kn_X kc_X_requireRange) hx hb hml hown (hT.w k_X_79) (hT.w ks_X_requireRange) pR.blind (pR.at hT (hc) (fun k q h => nomatch h)) rfl rfl hl.1 rfl (lv_room (Nat.le_of_ble_eq_true rfl)) d_X_copy_8 ⟨Nat.le_of_ble_eq_true rfl, Nat.le_of_ble_eq_true rfl⟩) ?_
    refine W.eq (g2 := F0 m 11 ls []) rfl ?_
    refine lv_iload_n hx hb d_X_copy_11 rfl (lv_at hl 3 rfl) ?_
    refine lv_iload hx hb d_X_copy_12 (lv_at hl 4 rfl) ?_
    refine ob_callT (E := R_Ei) (X := xW b F S tI tZ tA q) (M := []) (M' := []) (ob_runS (n := 2) (As := [.int d, .int n]) (rest := []) (t_X_requireRange l D tI tZ tA tJ htr s.heap.size d n) (hT.ok ob_cd_c (by decide +kernel) rfl rfl (Nat.le_of_ble_eq_true rfl) (Nat.le_of_ble_eq_true rfl) kn_X kc_X_requireRange) hx hb hml hown (hT.w k_X_79) (hT.w ks_X_requireRange) pT.blind (pT.at hT (hz.on hS hpl) (hq.elim (fun z => absurd z hc) id) (fun k q h => nomatch h) (xE_D : va_D A [])) rfl rfl hl.1 rfl (lv_room (Nat.le_of_ble_eq_true rfl)) d_X_copy_14 ⟨Nat.le_of_ble_eq_true rfl, Nat.le_of_ble_eq_true rfl⟩) (xN_to hP) (xM_to hD) hS hA (fun x H locs hex hP hD hS => ?_)
    have hP : va_P D vcl (xW b F S tI tZ tA q) H := xN_of hP
    have hD : va_D A (xW b F S tI tZ tA q) := xM_of hD
    exact ob_leave hlocks (th_out htab) (fun t ht hW => ⟨x, rfl, by rw [ht]; exact hex, by rw [ht]; exact hP, hD, hS.F ht⟩) hS.2.2

set_option maxHeartbeats 4000000 in
set_option maxRecDepth 100000 in
/-- t_X_giveOwnSheet -/
theorem t_X_giveOwnSheet (l : Launch) (D : va_G) (tI tZ tA tJ : ClassId) (htr : l.stackTraces = false) (b : Nat → Nat) (F S sz : Nat) (q : KS) (p0 x : Int32) : ob_M l y_X_giveOwnSheet w_X_giveOwnSheet ({ frames := 6, cells := 1, slots := 6, locals := 90 }) (pT D tI tZ tA tJ [.ref (b 0), .int p0, .int x] (xW b F S tI tZ tA q) sz (mk_ok F S (ks_m q) ∧ (k_make F S (ks_m q)).1 = -1)) (ob_qT D vcl R_Es (xW b F S tI tZ tA (kv_m q (k_make F S (ks_m q)).2)) (va_A (xW b F S tI tZ tA q) sz)) 1 6 (va_A (xW b F S tI tZ tA q) sz) := by
  refine ob_ofW (by decide +kernel) ?_
  intro p e s m args below meth c s₁ B hml htab hv
  obtain ⟨rfl, hT, hz, ⟨hmk, hq⟩, hsz, hP, hD0⟩ := hv
  have hx := B.exec
  have hb := B.bytes
  have hr := B.returns
  have hlocks := B.notSynchronized
  have hown : s.vm.findClass R_X = some m.cls := findClass_of_methodNamed B.named
  have hl := lv_entry ([.ref (b 0), .int p0, .int x]) (n := 5) (Nat.le_of_ble_eq_true rfl)
  rw [lg_entry_eq]
  generalize (lg_sl ([.ref (b 0), .int p0, .int x]) ++ List.replicate (5 - (lg_sl ([.ref (b 0), .int p0, .int x])).length) Slot.unset).toArray = ls at hl ⊢
  have hl : lv_has ls 5 [(0, .ref (b 0)), (1, .int p0), (2, .int x)] := hl
  subst hsz
  have hD := hD0.self (sz := s.heap.size)
  have hpl : ∀ a, va_A (xW b F S tI tZ tA q) s.heap.size a → ∀ cell, s.heap[a]? = some cell → cell.vm.isStatics = false := va_A.plain hP
  generalize hAe : va_A (xW b F S tI tZ tA q) s.heap.size = A at hD hpl ⊢
  have hA : ∀ q : Nat, s.heap.size ≤ q → A q := fun q h => by rw [← hAe]; exact Or.inr h
  have hS : va_S A s.heap s.heap [] := va_S.rf
  refine lv_aload_n hx hb d_X_giveOwnSheet_0 rfl (lv_at hl 0 rfl) ?_
  refine va_get (D := D) (ci := 0) (v := .ref (b 9)) hx hb hT.lays ly_X hown hT.1 hP 0 rfl rfl 2 (by decide) (hT.w k_X_32) (fun _ h => h) rfl d_X_giveOwnSheet_1 ?_
  refine ob_callW (v := (some (.int ((k_make F S (ks_m q)).1)))) (X := xX b tI tZ tA q) (M := mW b F S tI tZ tA (ks_m q)) (M' := mW b F S tI tZ tA ((k_make F S (ks_m q)).2)) (ob_runV (n := 0) (As := []) (rest := []) (c_M_make l D tI tZ tA tJ b F S s.heap.size (ks_m q)) (hT.ok ob_cd_c (by decide +kernel) rfl rfl (Nat.le_of_ble_eq_true rfl) (Nat.le_of_ble_eq_true rfl) kn_M kc_M_make) hx hb hml hown (hT.w k_X_144) (hT.w ki_M_make) (hT.w kv_M_make) (va_recv (q0 := 9) (ci := 1) hT.1 hP rfl rfl) pW.blind (pW.at hT (hmk) (ob_Pr (xP_to hP)) (ob_Dr (xD_to hD))) rfl rfl hl.1 rfl (lv_room (Nat.le_of_ble_eq_true rfl)) d_X_giveOwnSheet_4 ⟨Nat.le_of_ble_eq_true rfl, Nat.le_of_ble_eq_true rfl⟩) (xP_to hP) (xD_to hD) hS hA (fun H locs hP hD hS => ?_)
  have hP : va_P D vcl (xW b F S tI tZ tA (kv_m q ((k_make F S (ks_m q)).2))) H := xP_of hP
  have hD : va_D A (xW b F S tI tZ tA (kv_m q ((k_make F S (ks_m q)).2))) := xD_of hD
  refine W.eq (g2 := F0 m 7 ls [.int ((k_make F S (ks_m q)).1)]) rfl ?_
  refine lv_istore_n (lv' := [(3, .int ((k_make F S (ks_m q)).1)), (0, .ref (b 0)), (1, .int p0), (2, .int x)]) hx hb d_X_giveOwnSheet_7 rfl hl (by decide) rfl (fun ls hl => ?_)
  refine lv_iload_n hx hb d_X_giveOwnSheet_8 rfl (lv_at hl 0 rfl) ?_
  refine lv_iconst (v := -1) hx hb d_X_giveOwnSheet_9 (by decide) ?_
  refine lv_icmp_ne (tgt := 23) hx hb d_X_giveOwnSheet_10 (by decide) (fun hc => absurd hq hc) (fun hc => ?_)
  obtain ⟨zt, hzt⟩ := hT.2.2.1 (147, "no frame and no slot is free") (by decide +kernel)
  refine th_throw (E := R_Es) (k := 2) (bytes := Bundle.six) hlocks hx hb (hml.trans hl.1.symm) htr hown (by decide +kernel) (hT.h1 hz) hT.h2 (fun w hw => hT.2.1 w (th_okEs w (List.mem_append_left _ hw)).1 (th_okEs w (List.mem_append_left _ hw)).2 _) hz.h4 (fun hpl => hT.chS (names := ["java/lang/RuntimeException", "java/lang/Exception"]) (by decide +kernel) (by decide +kernel) (fun w hw => th_okEs w (List.mem_append_right _ hw)) hpl) (hT.w k_X_46) (hT.w kn_Es) hzt hS hpl d_X_giveOwnSheet_13 d_X_giveOwnSheet_16 d_X_giveOwnSheet_17 d_X_giveOwnSheet_19 d_X_giveOwnSheet_22 (th_out htab) (Nat.le_of_ble_eq_true rfl) (Nat.le_of_ble_eq_true rfl) (show 2 + 3 < _ from Nat.le_of_ble_eq_true rfl) (Nat.le_of_ble_eq_true rfl) hS.2.2 (th_end hP hD hS)

set_option maxHeartbeats 4000000 in
set_option maxRecDepth 100000 in
/-- t_X_storeWord -/
theorem t_X_storeWord (l : Launch) (D : va_G) (tI tZ tA tJ : ClassId) (htr : l.stackTraces = false) (b : Nat → Nat) (F S sz : Nat) (q : KS) (p0 a v : Int32) : ob_M l y_X_storeWord w_X_storeWord ({ frames := 7, cells := 1, slots := 6, locals := 114 }) (pT D tI tZ tA tJ [.ref (b 0), .int p0, .int a, .int v] (xW b F S tI tZ tA q) sz (xt_ok F S q p0 a ∧ ¬ k_no F S q p0 (a / 4) = 0)) (ob_qT D vcl R_Es (xW b F S tI tZ tA (kv_m q (k_make F S (ks_m q)).2)) (va_A (xW b F S tI tZ tA q) sz)) 1 6 (va_A (xW b F S tI tZ tA q) sz) := by
  refine ob_ofW (by decide +kernel) ?_
  intro p e s m args below meth c s₁ B hml htab hv
  obtain ⟨rfl, hT, hz, ⟨⟨hp6, hg6, hin, hmk⟩, hq⟩, hsz, hP, hD0⟩ := hv
  have hx := B.exec
  have hb := B.bytes
  have hr := B.returns
  have hlocks := B.notSynchronized
  have hown : s.vm.findClass R_X = some m.cls := findClass_of_methodNamed B.named
  have hl := lv_entry ([.ref (b 0), .int p0, .int a, .int v]) (n := 6) (Nat.le_of_ble_eq_true rfl)
  rw [lg_entry_eq]
  generalize (lg_sl ([.ref (b 0), .int p0, .int a, .int v]) ++ List.replicate (6 - (lg_sl ([.ref (b 0), .int p0, .int a, .int v])).length) Slot.unset).toArray = ls at hl ⊢
  have hl : lv_has ls 6 [(0, .ref (b 0)), (1, .int p0), (2, .int a), (3, .int v)] := hl
  subst hsz
  have hD := hD0.self (sz := s.heap.size)
  have hpl : ∀ a, va_A (xW b F S tI tZ tA q) s.heap.size a → ∀ cell, s.heap[a]? = some cell → cell.vm.isStatics = false := va_A.plain hP
  generalize hAe : va_A (xW b F S tI tZ tA q) s.heap.size = A at hD hpl ⊢
  have hA : ∀ q : Nat, s.heap.size ≤ q → A q := fun q h => by rw [← hAe]; exact Or.inr h
  have hS : va_S A s.heap s.heap [] := va_S.rf
  unfold k_no at hq
  have hn : ¬ k_need q p0 (a / 4) = 0 := fun z => hq (if_pos z)
  rw [if_neg hn] at hq
  have hm1 : (k_make F S (ks_m q)).1 = -1 := Classical.byContradiction fun z => hq (if_neg z)
  refine lv_iload_n hx hb d_X_storeWord_0 rfl (lv_at hl 2 rfl) ?_
  refine lv_iconst (v := 4) hx hb d_X_storeWord_1 (by decide) ?_
  refine lv_idiv hx hb d_X_storeWord_2 (by decide) ?_
  refine lv_istore (lv' := [(4, .int (a / 4)), (0, .ref (b 0)), (1, .int p0), (2, .int a), (3, .int v)]) hx hb d_X_storeWord_3 hl (by decide) rfl (fun ls hl => ?_)
  refine lv_aload_n hx hb d_X_storeWord_5 rfl (lv_at hl 1 rfl) ?_
  refine va_get (D := D) (ci := 0) (v := .ref (b 2)) hx hb hT.lays ly_X hown hT.1 hP 0 rfl rfl 1 (by decide) (hT.w k_X_15) (fun _ h => h) rfl d_X_storeWord_6 ?_
  refine lv_iload_n hx hb d_X_storeWord_9 rfl (lv_at hl 2 rfl) ?_
  refine ob_aald hx hb hT.1 hP 2 2 rfl rfl (hp6) d_X_storeWord_10 ?_
  refine lv_iload hx hb d_X_storeWord_11 (lv_at hl 0 rfl) ?_
  refine va_iald hx hb hT.1 hP (3 + ix p0) 0 (pl_get (vp_ix hp6) rfl) rfl (hg6) d_X_storeWord_13 ?_
  refine lv_istore (lv' := [(5, .int ((ks_pg q (ix p0)) (ix (a / 4)))), (4, .int (a / 4)), (0, .ref (b 0)), (1, .int p0), (2, .int a), (3, .int v)]) hx hb d_X_storeWord_14 hl (by decide) rfl (fun ls hl => ?_)
  have hgo : W p l e ({ frames := 7, cells := 1, slots := 6, locals := 114 } : Room) s m ([.ref (b 0), .int p0, .int a, .int v] : List Value).toArray below meth c s.heap [] 0 0 (ob_Q below (ob_qT D vcl R_Es (xW b F S tI tZ tA (kv_m q (k_make F S (ks_m q)).2)) A) ([.ref (b 0), .int p0, .int a, .int v] : List Value).toArray s 1 6 A) (F0 m 35 ls []) := by
    refine lv_aload_n hx hb d_X_storeWord_35 rfl (lv_at hl 2 rfl) ?_
    refine lv_iload_n hx hb d_X_storeWord_36 rfl (lv_at hl 3 rfl) ?_
    refine lv_iload hx hb d_X_storeWord_37 (lv_at hl 1 rfl) ?_
    refine ob_callT (E := R_Es) (X := []) (M := xW b F S tI tZ tA q) (M' := xW b F S tI tZ tA (kv_m q (k_make F S (ks_m q)).2)) (ob_runV (n := 2) (As := [.int p0, .int (a / 4)]) (rest := []) (t_X_giveOwnSheet l D tI tZ tA tJ htr b F S s.heap.size q p0 (a / 4)) (hT.ok ob_cd_c (by decide +kernel) rfl rfl (Nat.le_of_ble_eq_true rfl) (Nat.le_of_ble_eq_true rfl) kn_X kc_X_giveOwnSheet) hx hb hml hown (hT.w k_X_138) (hT.w ki_X_giveOwnSheet) (hT.w kv_X_giveOwnSheet) (va_recv (q0 := 0) (ci := 0) hT.1 hP rfl rfl) pT.blind (pT.at hT (hz.on hS hpl) (⟨hmk, hm1⟩) hP hD) rfl rfl hl.1 rfl (lv_room (Nat.le_of_ble_eq_true rfl)) d_X_storeWord_39 ⟨Nat.le_of_ble_eq_true rfl, Nat.le_of_ble_eq_true rfl⟩) hP hD hS hA (fun x H locs hex hP hD hS => ?_)
    exact ob_leave hlocks (th_out htab) (fun t ht hW => ⟨x, rfl, by rw [ht]; exact hex, by rw [ht]; exact hP, hD, hS.F ht⟩) hS.2.2
  refine lv_iload hx hb d_X_storeWord_16 (lv_at hl 0 rfl) ?_
  refine lv_iconst (v := -1) hx hb d_X_storeWord_18 (by decide) ?_
  refine lv_icmp_eq (tgt := 35) hx hb d_X_storeWord_19 (by decide) (fun hc => ?_) (fun hc => ?_)
  · exact hgo
  · have hc0 := hc
    refine lv_aload_n hx hb d_X_storeWord_22 rfl (lv_at hl 2 rfl) ?_
    refine va_get (D := D) (ci := 0) (v := .ref (b 9)) hx hb hT.lays ly_X hown hT.1 hP 0 rfl rfl 2 (by decide) (hT.w k_X_32) (fun _ h => h) rfl d_X_storeWord_23 ?_
    refine lv_iload hx hb d_X_storeWord_26 (lv_at hl 0 rfl) ?_
    refine ob_callR (v := (some (.int (km_ct (ks_m q) (ix (k_at q p0 (a / 4))))))) (ob_runV (n := 1) (As := [.int (k_at q p0 (a / 4))]) (rest := []) (c_M_pagesOf l D tI tZ tA tJ b F S (ks_m q) (k_at q p0 (a / 4))) (hT.ok ob_cd_c (by decide +kernel) rfl rfl (Nat.le_of_ble_eq_true rfl) (Nat.le_of_ble_eq_true rfl) kn_M kc_M_pagesOf) hx hb hml hown (hT.w k_X_93) (hT.w ki_M_pagesOf) (hT.w kv_M_pagesOf) (va_recv (q0 := 9) (ci := 1) hT.1 hP rfl rfl) pR.blind (pR.at hT (hin hc) (ob_Pr (ob_Pr hP))) rfl rfl hl.1 rfl (lv_room (Nat.le_of_ble_eq_true rfl)) d_X_storeWord_28 ⟨Nat.le_of_ble_eq_true rfl, Nat.le_of_ble_eq_true rfl⟩) ?_
    refine W.eq (g2 := F0 m 31 ls [.int (km_ct (ks_m q) (ix (k_at q p0 (a / 4))))]) rfl ?_
    refine lv_iconst (v := 1) hx hb d_X_storeWord_31 (by decide) ?_
    refine lv_icmp_le (tgt := 44) hx hb d_X_storeWord_32 (by decide) (fun hc => absurd (show k_need q p0 (a / 4) = 0 by unfold k_need; rw [if_neg hc0, if_pos hc]) hn) (fun hc => hgo)

set_option maxHeartbeats 4000000 in
set_option maxRecDepth 100000 in
/-- t_X_store3 -/
theorem t_X_store3 (l : Launch) (D : va_G) (tI tZ tA tJ : ClassId) (htr : l.stackTraces = false) (b : Nat → Nat) (F S sz : Nat) (q : KS) (p0 a v : Int32) : ob_M l y_X_store w_X_store ({ frames := 8, cells := 1, slots := 6, locals := 139 }) (pT D tI tZ tA tJ [.ref (b 0), .int p0, .int a, .int v] (xW b F S tI tZ tA q) sz (¬ m_isP (ks_th q) p0 = 0 ∧ ¬ m_isA a = 0 ∧ xt_ok F S q p0 a ∧ ¬ k_no F S q p0 (a / 4) = 0)) (ob_qT D vcl R_Es (xW b F S tI tZ tA (kv_m q (k_make F S (ks_m q)).2)) (va_A (xW b F S tI tZ tA q) sz)) 1 6 (va_A (xW b F S tI tZ tA q) sz) := by
  refine ob_ofW (by decide +kernel) ?_
  intro p e s m args below meth c s₁ B hml htab hv
  obtain ⟨rfl, hT, hz, ⟨hpr, hpa, hxt, hq⟩, hsz, hP, hD0⟩ := hv
  have hx := B.exec
  have hb := B.bytes
  have hr := B.returns
  have hlocks := B.notSynchronized
  have hown : s.vm.findClass R_X = some m.cls := findClass_of_methodNamed B.named
  have hl := lv_entry ([.ref (b 0), .int p0, .int a, .int v]) (n := 4) (Nat.le_of_ble_eq_true rfl)
  rw [lg_entry_eq]
  generalize (lg_sl ([.ref (b 0), .int p0, .int a, .int v]) ++ List.replicate (4 - (lg_sl ([.ref (b 0), .int p0, .int a, .int v])).length) Slot.unset).toArray = ls at hl ⊢
  have hl : lv_has ls 4 [(0, .ref (b 0)), (1, .int p0), (2, .int a), (3, .int v)] := hl
  subst hsz
  have hD := hD0.self (sz := s.heap.size)
  have hpl : ∀ a, va_A (xW b F S tI tZ tA q) s.heap.size a → ∀ cell, s.heap[a]? = some cell → cell.vm.isStatics = false := va_A.plain hP
  generalize hAe : va_A (xW b F S tI tZ tA q) s.heap.size = A at hD hpl ⊢
  have hA : ∀ q : Nat, s.heap.size ≤ q → A q := fun q h => by rw [← hAe]; exact Or.inr h
  have hS : va_S A s.heap s.heap [] := va_S.rf
  refine lv_aload_n hx hb d_X_store_0 rfl (lv_at hl 0 rfl) ?_
  refine lv_iload_n hx hb d_X_store_1 rfl (lv_at hl 1 rfl) ?_
  refine ob_callR (v := none) (ob_runV (n := 1) (As := [.int p0]) (rest := []) (c_X_requireProcess l D tI tZ tA tJ b F S q p0) (hT.ok ob_cd_c (by decide +kernel) rfl rfl (Nat.le_of_ble_eq_true rfl) (Nat.le_of_ble_eq_true rfl) kn_X kc_X_requireProcess) hx hb hml hown (hT.w k_X_53) (hT.w ki_X_requireProcess) (hT.w kv_X_requireProcess) (va_recv (q0 := 0) (ci := 0) hT.1 hP rfl rfl) pR.blind (pR.at hT (hpr) hP) rfl rfl hl.1 rfl (lv_room (Nat.le_of_ble_eq_true rfl)) d_X_store_2 ⟨Nat.le_of_ble_eq_true rfl, Nat.le_of_ble_eq_true rfl⟩) ?_
  refine W.eq (g2 := F0 m 5 ls []) rfl ?_
  refine lv_iload_n hx hb d_X_store_5 rfl (lv_at hl 2 rfl) ?_
  refine ob_callR (v := none) (ob_runS (n := 1) (As := [.int a]) (rest := []) (c_X_requireAddress l D tI tZ tA tJ a) (hT.ok ob_cd_c (by decide +kernel) rfl rfl (Nat.le_of_ble_eq_true rfl) (Nat.le_of_ble_eq_true rfl) kn_X kc_X_requireAddress) hx hb hml hown (hT.w k_X_69) (hT.w ks_X_requireAddress) pR.blind (pR.at hT (hpa) (fun k q h => nomatch h)) rfl rfl hl.1 rfl (lv_room (Nat.le_of_ble_eq_true rfl)) d_X_store_6 ⟨Nat.le_of_ble_eq_true rfl, Nat.le_of_ble_eq_true rfl⟩) ?_
  refine W.eq (g2 := F0 m 9 ls []) rfl ?_
  refine lv_aload_n hx hb d_X_store_9 rfl (lv_at hl 0 rfl) ?_
  refine lv_iload_n hx hb d_X_store_10 rfl (lv_at hl 1 rfl) ?_
  refine lv_iload_n hx hb d_X_store_11 rfl (lv_at hl 2 rfl) ?_
  refine lv_iload_n hx hb d_X_store_12 rfl (lv_at hl 3 rfl) ?_
  refine ob_callT (E := R_Es) (X := []) (M := xW b F S tI tZ tA q) (M' := xW b F S tI tZ tA (kv_m q (k_make F S (ks_m q)).2)) (ob_runV (n := 3) (As := [.int p0, .int a, .int v]) (rest := []) (t_X_storeWord l D tI tZ tA tJ htr b F S s.heap.size q p0 a v) (hT.ok ob_cd_c (by decide +kernel) rfl rfl (Nat.le_of_ble_eq_true rfl) (Nat.le_of_ble_eq_true rfl) kn_X kc_X_storeWord) hx hb hml hown (hT.w k_X_75) (hT.w ki_X_storeWord) (hT.w kv_X_storeWord) (va_recv (q0 := 0) (ci := 0) hT.1 hP rfl rfl) pT.blind (pT.at hT (hz.on hS hpl) (⟨hxt, hq⟩) hP hD) rfl rfl hl.1 rfl (lv_room (Nat.le_of_ble_eq_true rfl)) d_X_store_13 ⟨Nat.le_of_ble_eq_true rfl, Nat.le_of_ble_eq_true rfl⟩) hP hD hS hA (fun x H locs hex hP hD hS => ?_)
  exact ob_leave hlocks (th_out htab) (fun t ht hW => ⟨x, rfl, by rw [ht]; exact hex, by rw [ht]; exact hP, hD, hS.F ht⟩) hS.2.2
