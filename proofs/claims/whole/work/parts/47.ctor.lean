set_option maxHeartbeats 4000000 in
set_option maxRecDepth 100000 in
/-- freeRow -/
theorem c_X_freeRow (l : Launch) (D : va_G) (tI tZ tA tJ : ClassId) (L sz : Nat) (n : Int32) : ob_M l y_X_freeRow w_X_freeRow ({ frames := 1, cells := 1, slots := L, locals := 23 }) (pW D tI tZ tA tJ [.int n] [] sz (n = nI L ∧ L ≤ 100)) (ob_qE D vcl (fun z : Nat => some (.ref z)) (fun z => [(z, .inl (tI, L, .inl (fun _ => -1)))]) (va_A [] sz)) 1 L (va_A [] sz) := by
  refine ob_ofW (by decide +kernel) ?_
  intro p e s m args below meth c s₁ B hml htab hv
  obtain ⟨rfl, hT, ⟨hn, hL⟩, hsz, hP, hD0⟩ := hv
  have hx := B.exec
  have hb := B.bytes
  have hr := B.returns
  have hlocks := B.notSynchronized
  have hown : s.vm.findClass R_X = some m.cls := findClass_of_methodNamed B.named
  have hl := lv_entry ([.int n]) (n := 2) (Nat.le_of_ble_eq_true rfl)
  rw [lg_entry_eq]
  generalize (lg_sl ([.int n]) ++ List.replicate (2 - (lg_sl ([.int n])).length) Slot.unset).toArray = ls at hl ⊢
  have hl : lv_has ls 2 [(0, .int n)] := hl
  subst hsz
  have hD := hD0.self (sz := s.heap.size)
  generalize hAe : va_A ([]) s.heap.size = A at hD ⊢
  have hA : ∀ q : Nat, s.heap.size ≤ q → A q := fun q h => by rw [← hAe]; exact Or.inr h
  have hS : va_S A s.heap s.heap [] := va_S.rf
  refine lv_iload_n hx hb d_X_freeRow_0 rfl (lv_at hl 0 rfl) ?_
  refine ob_newa (ty := .int) (a0 := (L, .inl (fun _ => 0))) hx hb (hT.w ka_int) rfl hT.1 0 rfl (fun _ h => h) hP hD hS hA (fun _ => rfl) hn (by omega) (by show L * 4 ≤ _; omega) (Nat.le_of_ble_eq_true rfl) (by show 0 + L ≤ L; omega) d_X_freeRow_1 (fun r H hP hD hS => ?_)
  have hP : va_P D vcl ([(r, .inl (tI, L, .inl (fun _ => 0)))]) H := hP
  have hD : va_D A ([(r, .inl (tI, L, .inl (fun _ => 0)))]) := hD
  refine lv_astore_n (lv' := [(1, .ref r), (0, .int n)]) hx hb d_X_freeRow_3 rfl hl (by decide) rfl (fun ls hl => ?_)
  refine lv_aload_n hx hb d_X_freeRow_4 rfl (lv_at hl 0 rfl) ?_
  refine lv_iconst (v := -1) hx hb d_X_freeRow_5 (by decide) ?_
  refine ob_callW (v := none) (X := []) (M := [(r, .inl (tI, L, .inl (fun _ => 0)))]) (M' := [(r, .inl (tI, L, .inl (fun _ => -1)))]) (ob_runS (n := 2) (As := [.ref r, .int (-1)]) (rest := []) (c_A_fill l D tI tZ tA tJ r L H.size (fun _ => 0) (-1)) (hT.ok ob_cd_c (by decide +kernel) rfl rfl (Nat.le_of_ble_eq_true rfl) (Nat.le_of_ble_eq_true rfl) kn_A kc_A_fill) hx hb hml hown (hT.w k_X_36) (hT.w ks_A_fill) pW.blind (pW.at hT (by omega) hP hD) rfl rfl hl.1 rfl (lv_room (Nat.le_of_ble_eq_true rfl)) d_X_freeRow_6 ⟨Nat.le_refl _, by show 0 + L + 0 ≤ L; omega⟩) hP hD hS hA (fun H locs hP hD hS => ?_)
  have hP : va_P D vcl ([(r, .inl (tI, L, .inl (fun _ => -1)))]) H := hP
  have hD : va_D A ([(r, .inl (tI, L, .inl (fun _ => -1)))]) := hD
  refine W.eq (g2 := F0 m 9 ls []) rfl ?_
  refine lv_aload_n hx hb d_X_freeRow_9 rfl (lv_at hl 0 rfl) ?_
  rw [show 0 + 1 + 0 = 1 from rfl, show 0 + L + 0 = L by omega]
  exact ob_aret hlocks hx hb hr d_X_freeRow_10 hS.2.2 (fun t ht hW => ⟨r, rfl, by rw [ht]; exact hP, hD, hS.F ht⟩)

set_option maxHeartbeats 4000000 in
set_option maxRecDepth 100000 in
/-- Memory's constructor -/
theorem c_M_init (l : Launch) (D : va_G) (tI tZ tA tJ : ClassId) (r F S sz : Nat) : ob_M l y_M_init w_M_init ({ frames := 2, cells := 24, slots := 170, locals := 44 }) (pN D tI tZ tA tJ [.ref r, .int (nI F), .int (nI S)] [(r, .inr (1, [.null, .null, .null, .null, .null, .null, .int 0, .int 0, .int 0]))] sz (F ≤ 8 ∧ S ≤ 10)) (ob_qE D vcl (fun _ : { f : Nat → Nat // f 9 = r } => none) (fun z => mW z.1 F S tI tZ tA km_0) (va_A [(r, .inr (1, [.null, .null, .null, .null, .null, .null, .int 0, .int 0, .int 0]))] sz)) 24 170 (va_A [(r, .inr (1, [.null, .null, .null, .null, .null, .null, .int 0, .int 0, .int 0]))] sz) := by
  refine ob_ofW (by decide +kernel) ?_
  intro p e s m args below meth c s₁ B hml htab hv
  obtain ⟨rfl, hT, ho, ⟨hF, hS10⟩, hsz, hP, hD0⟩ := hv
  have hx := B.exec
  have hb := B.bytes
  have hr := B.returns
  have hlocks := B.notSynchronized
  have hown : s.vm.findClass R_M = some m.cls := findClass_of_methodNamed B.named
  have hl := lv_entry ([.ref r, .int (nI F), .int (nI S)]) (n := 3) (Nat.le_of_ble_eq_true rfl)
  rw [lg_entry_eq]
  generalize (lg_sl ([.ref r, .int (nI F), .int (nI S)]) ++ List.replicate (3 - (lg_sl ([.ref r, .int (nI F), .int (nI S)])).length) Slot.unset).toArray = ls at hl ⊢
  have hl : lv_has ls 3 [(0, .ref r), (1, .int (nI F)), (2, .int (nI S))] := hl
  subst hsz
  have hD := hD0.self (sz := s.heap.size)
  generalize hAe : va_A ([(r, .inr (1, [.null, .null, .null, .null, .null, .null, .int 0, .int 0, .int 0]))]) s.heap.size = A at hD ⊢
  have hA : ∀ q : Nat, s.heap.size ≤ q → A q := fun q h => by rw [← hAe]; exact Or.inr h
  have hS : va_S A s.heap s.heap [] := va_S.rf
  have hin : meth.name = "<init>" := (name_of_methodNamed B.named B.method).1
  refine lv_aload_n hx hb d_M_init_0 rfl (lv_at hl 0 rfl) ?_
  refine W.objInit hx hb hown (hT.w k_M_3) (hT.w ki_Ob_init) (hT.w kc_Ob_init) rfl (by rw [hml]; exact hl.1) rfl d_M_init_1 (Nat.le_of_ble_eq_true rfl) (Nat.le_of_ble_eq_true rfl) ?_
  refine W.eq (g2 := F0 m 4 ls []) rfl ?_
  refine lv_aload_n hx hb d_M_init_4 rfl (lv_at hl 0 rfl) ?_
  refine lv_iload_n hx hb d_M_init_5 rfl (lv_at hl 1 rfl) ?_
  refine ob_callE (X := [(r, .inr (1, [.null, .null, .null, .null, .null, .null, .int 0, .int 0, .int 0]))]) (M := []) (ob_runSN (n := 1) (As := [.int (nI F)]) (rest := [.ref r]) (c_X_freeRow l D tI tZ tA tJ (F) s.heap.size (nI F)) (hT.ok ob_cd_c (by decide +kernel) rfl rfl (Nat.le_of_ble_eq_true rfl) (Nat.le_of_ble_eq_true rfl) kn_X kc_X_freeRow) hx hb hml hown (hT.w k_M_9) (hT.w ks_X_freeRow) pW.blind (pW.at hT (⟨by first | rfl | (rw [nI_add]), by omega⟩) (fun k q h => nomatch h) (xE_D : va_D A [])) rfl rfl hl.1 rfl (lv_room (Nat.le_of_ble_eq_true rfl)) d_M_init_6 ⟨by show _ + 1 ≤ 24; omega, by show _ + _ ≤ 170; omega⟩) (xN_to hP) (xM_to hD) hS hA (fun a0 H locs hP hD hS => ?_)
  have hP : va_P D vcl ([(r, .inr (1, [.null, .null, .null, .null, .null, .null, .int 0, .int 0, .int 0])), (a0, .inl (tI, F, .inl (fun _ => -1)))]) H := hP
  have hD : va_D A ([(r, .inr (1, [.null, .null, .null, .null, .null, .null, .int 0, .int 0, .int 0])), (a0, .inl (tI, F, .inl (fun _ => -1)))]) := hD
  refine W.eq (g2 := F0 m 9 ls [.ref a0, .ref r]) rfl ?_
  refine va_putF (D := D) (ci := 1) (v := .ref a0) (ty := .array .int) hx hb hT.lays ly_M ty_M ty_M_ok n_M hown hT.1 hP hD hS 0 rfl rfl 0 (by decide) (hT.w k_M_13) (fun _ h => h) rfl hin rfl (by decide +kernel) rfl rfl (Nat.le_of_ble_eq_true rfl) d_M_init_9 (fun H locs hP hD hS => ?_)
  have hP : va_P D vcl ([(r, .inr (1, [.ref a0, .null, .null, .null, .null, .null, .int 0, .int 0, .int 0])), (a0, .inl (tI, F, .inl (fun _ => -1)))]) H := hP
  have hD : va_D A ([(r, .inr (1, [.ref a0, .null, .null, .null, .null, .null, .int 0, .int 0, .int 0])), (a0, .inl (tI, F, .inl (fun _ => -1)))]) := hD
  refine lv_aload_n hx hb d_M_init_12 rfl (lv_at hl 0 rfl) ?_
  refine lv_iload_n hx hb d_M_init_13 rfl (lv_at hl 2 rfl) ?_
  refine ob_callE (X := [(r, .inr (1, [.ref a0, .null, .null, .null, .null, .null, .int 0, .int 0, .int 0])), (a0, .inl (tI, F, .inl (fun _ => -1)))]) (M := []) (ob_runSN (n := 1) (As := [.int (nI S)]) (rest := [.ref r]) (c_X_freeRow l D tI tZ tA tJ (S) H.size (nI S)) (hT.ok ob_cd_c (by decide +kernel) rfl rfl (Nat.le_of_ble_eq_true rfl) (Nat.le_of_ble_eq_true rfl) kn_X kc_X_freeRow) hx hb hml hown (hT.w k_M_9) (hT.w ks_X_freeRow) pW.blind (pW.at hT (⟨by first | rfl | (rw [nI_add]), by omega⟩) (fun k q h => nomatch h) (xE_D : va_D A [])) rfl rfl hl.1 rfl (lv_room (Nat.le_of_ble_eq_true rfl)) d_M_init_14 ⟨by show _ + 1 ≤ 24; omega, by show _ + _ ≤ 170; omega⟩) (xN_to hP) (xM_to hD) hS hA (fun a1 H locs hP hD hS => ?_)
  have hP : va_P D vcl ([(r, .inr (1, [.ref a0, .null, .null, .null, .null, .null, .int 0, .int 0, .int 0])), (a0, .inl (tI, F, .inl (fun _ => -1))), (a1, .inl (tI, S, .inl (fun _ => -1)))]) H := hP
  have hD : va_D A ([(r, .inr (1, [.ref a0, .null, .null, .null, .null, .null, .int 0, .int 0, .int 0])), (a0, .inl (tI, F, .inl (fun _ => -1))), (a1, .inl (tI, S, .inl (fun _ => -1)))]) := hD
  refine W.eq (g2 := F0 m 17 ls [.ref a1, .ref r]) rfl ?_
  refine va_putF (D := D) (ci := 1) (v := .ref a1) (ty := .array .int) hx hb hT.lays ly_M ty_M ty_M_ok n_M hown hT.1 hP hD hS 0 rfl rfl 1 (by decide) (hT.w k_M_19) (fun _ h => h) rfl hin rfl (by decide +kernel) rfl rfl (Nat.le_of_ble_eq_true rfl) d_M_init_17 (fun H locs hP hD hS => ?_)
  have hP : va_P D vcl ([(r, .inr (1, [.ref a0, .ref a1, .null, .null, .null, .null, .int 0, .int 0, .int 0])), (a0, .inl (tI, F, .inl (fun _ => -1))), (a1, .inl (tI, S, .inl (fun _ => -1)))]) H := hP
  have hD : va_D A ([(r, .inr (1, [.ref a0, .ref a1, .null, .null, .null, .null, .int 0, .int 0, .int 0])), (a0, .inl (tI, F, .inl (fun _ => -1))), (a1, .inl (tI, S, .inl (fun _ => -1)))]) := hD
  refine lv_aload_n hx hb d_M_init_20 rfl (lv_at hl 0 rfl) ?_
  refine lv_iload_n hx hb d_M_init_21 rfl (lv_at hl 1 rfl) ?_
  refine ob_newa (ty := .boolean) (a0 := (F, .inl (fun _ => 0))) hx hb (hT.w ka_boolean) rfl hT.1 1 rfl (fun _ h => h) hP hD hS hA (fun _ => rfl) (rfl) (by omega) (by show _ * 1 ≤ _; omega) (by show _ + 1 ≤ 24; omega) (by show _ + _ ≤ 170; omega) d_M_init_22 (fun a2 H hP hD hS => ?_)
  have hP : va_P D vcl ([(r, .inr (1, [.ref a0, .ref a1, .null, .null, .null, .null, .int 0, .int 0, .int 0])), (a0, .inl (tI, F, .inl (fun _ => -1))), (a1, .inl (tI, S, .inl (fun _ => -1))), (a2, .inl (tZ, F, .inl (fun _ => 0)))]) H := hP
  have hD : va_D A ([(r, .inr (1, [.ref a0, .ref a1, .null, .null, .null, .null, .int 0, .int 0, .int 0])), (a0, .inl (tI, F, .inl (fun _ => -1))), (a1, .inl (tI, S, .inl (fun _ => -1))), (a2, .inl (tZ, F, .inl (fun _ => 0)))]) := hD
  refine va_putF (D := D) (ci := 1) (v := .ref a2) (ty := .array .boolean) hx hb hT.lays ly_M ty_M ty_M_ok n_M hown hT.1 hP hD hS 0 rfl rfl 2 (by decide) (hT.w k_M_22) (fun _ h => h) rfl hin rfl (by decide +kernel) rfl rfl (Nat.le_of_ble_eq_true rfl) d_M_init_24 (fun H locs hP hD hS => ?_)
  have hP : va_P D vcl ([(r, .inr (1, [.ref a0, .ref a1, .ref a2, .null, .null, .null, .int 0, .int 0, .int 0])), (a0, .inl (tI, F, .inl (fun _ => -1))), (a1, .inl (tI, S, .inl (fun _ => -1))), (a2, .inl (tZ, F, .inl (fun _ => 0)))]) H := hP
  have hD : va_D A ([(r, .inr (1, [.ref a0, .ref a1, .ref a2, .null, .null, .null, .int 0, .int 0, .int 0])), (a0, .inl (tI, F, .inl (fun _ => -1))), (a1, .inl (tI, S, .inl (fun _ => -1))), (a2, .inl (tZ, F, .inl (fun _ => 0)))]) := hD
  refine lv_aload_n hx hb d_M_init_27 rfl (lv_at hl 0 rfl) ?_
  refine lv_iload_n hx hb d_M_init_28 rfl (lv_at hl 1 rfl) ?_
  refine lv_iload_n hx hb d_M_init_29 rfl (lv_at hl 2 rfl) ?_
  refine lv_iadd hx hb d_M_init_30 ?_
  rw [nI_add]
  refine ob_callE (X := [(r, .inr (1, [.ref a0, .ref a1, .ref a2, .null, .null, .null, .int 0, .int 0, .int 0])), (a0, .inl (tI, F, .inl (fun _ => -1))), (a1, .inl (tI, S, .inl (fun _ => -1))), (a2, .inl (tZ, F, .inl (fun _ => 0)))]) (M := []) (ob_runSN (n := 1) (As := [.int (nI (F + S))]) (rest := [.ref r]) (c_X_freeRow l D tI tZ tA tJ (F + S) H.size (nI (F + S))) (hT.ok ob_cd_c (by decide +kernel) rfl rfl (Nat.le_of_ble_eq_true rfl) (Nat.le_of_ble_eq_true rfl) kn_X kc_X_freeRow) hx hb hml hown (hT.w k_M_9) (hT.w ks_X_freeRow) pW.blind (pW.at hT (⟨by first | rfl | (rw [nI_add]), by omega⟩) (fun k q h => nomatch h) (xE_D : va_D A [])) rfl rfl hl.1 rfl (lv_room (Nat.le_of_ble_eq_true rfl)) d_M_init_31 ⟨by show _ + 1 ≤ 24; omega, by show _ + _ ≤ 170; omega⟩) (xN_to hP) (xM_to hD) hS hA (fun a3 H locs hP hD hS => ?_)
  have hP : va_P D vcl ([(r, .inr (1, [.ref a0, .ref a1, .ref a2, .null, .null, .null, .int 0, .int 0, .int 0])), (a0, .inl (tI, F, .inl (fun _ => -1))), (a1, .inl (tI, S, .inl (fun _ => -1))), (a2, .inl (tZ, F, .inl (fun _ => 0))), (a3, .inl (tI, F + S, .inl (fun _ => -1)))]) H := hP
  have hD : va_D A ([(r, .inr (1, [.ref a0, .ref a1, .ref a2, .null, .null, .null, .int 0, .int 0, .int 0])), (a0, .inl (tI, F, .inl (fun _ => -1))), (a1, .inl (tI, S, .inl (fun _ => -1))), (a2, .inl (tZ, F, .inl (fun _ => 0))), (a3, .inl (tI, F + S, .inl (fun _ => -1)))]) := hD
  refine W.eq (g2 := F0 m 34 ls [.ref a3, .ref r]) rfl ?_
  refine va_putF (D := D) (ci := 1) (v := .ref a3) (ty := .array .int) hx hb hT.lays ly_M ty_M ty_M_ok n_M hown hT.1 hP hD hS 0 rfl rfl 3 (by decide) (hT.w k_M_26) (fun _ h => h) rfl hin rfl (by decide +kernel) rfl rfl (Nat.le_of_ble_eq_true rfl) d_M_init_34 (fun H locs hP hD hS => ?_)
  have hP : va_P D vcl ([(r, .inr (1, [.ref a0, .ref a1, .ref a2, .ref a3, .null, .null, .int 0, .int 0, .int 0])), (a0, .inl (tI, F, .inl (fun _ => -1))), (a1, .inl (tI, S, .inl (fun _ => -1))), (a2, .inl (tZ, F, .inl (fun _ => 0))), (a3, .inl (tI, F + S, .inl (fun _ => -1)))]) H := hP
  have hD : va_D A ([(r, .inr (1, [.ref a0, .ref a1, .ref a2, .ref a3, .null, .null, .int 0, .int 0, .int 0])), (a0, .inl (tI, F, .inl (fun _ => -1))), (a1, .inl (tI, S, .inl (fun _ => -1))), (a2, .inl (tZ, F, .inl (fun _ => 0))), (a3, .inl (tI, F + S, .inl (fun _ => -1)))]) := hD
  refine lv_aload_n hx hb d_M_init_37 rfl (lv_at hl 0 rfl) ?_
  refine lv_iload_n hx hb d_M_init_38 rfl (lv_at hl 1 rfl) ?_
  refine lv_iload_n hx hb d_M_init_39 rfl (lv_at hl 2 rfl) ?_
  refine lv_iadd hx hb d_M_init_40 ?_
  rw [nI_add]
  refine ob_newa (ty := .int) (a0 := (F + S, .inl (fun _ => 0))) hx hb (hT.w ka_int) rfl hT.1 0 rfl (fun _ h => h) hP hD hS hA (fun _ => rfl) (rfl) (by omega) (by show _ * 4 ≤ _; omega) (by show _ + 1 ≤ 24; omega) (by show _ + _ ≤ 170; omega) d_M_init_41 (fun a4 H hP hD hS => ?_)
  have hP : va_P D vcl ([(r, .inr (1, [.ref a0, .ref a1, .ref a2, .ref a3, .null, .null, .int 0, .int 0, .int 0])), (a0, .inl (tI, F, .inl (fun _ => -1))), (a1, .inl (tI, S, .inl (fun _ => -1))), (a2, .inl (tZ, F, .inl (fun _ => 0))), (a3, .inl (tI, F + S, .inl (fun _ => -1))), (a4, .inl (tI, F + S, .inl (fun _ => 0)))]) H := hP
  have hD : va_D A ([(r, .inr (1, [.ref a0, .ref a1, .ref a2, .ref a3, .null, .null, .int 0, .int 0, .int 0])), (a0, .inl (tI, F, .inl (fun _ => -1))), (a1, .inl (tI, S, .inl (fun _ => -1))), (a2, .inl (tZ, F, .inl (fun _ => 0))), (a3, .inl (tI, F + S, .inl (fun _ => -1))), (a4, .inl (tI, F + S, .inl (fun _ => 0)))]) := hD
  refine va_putF (D := D) (ci := 1) (v := .ref a4) (ty := .array .int) hx hb hT.lays ly_M ty_M ty_M_ok n_M hown hT.1 hP hD hS 0 rfl rfl 4 (by decide) (hT.w k_M_29) (fun _ h => h) rfl hin rfl (by decide +kernel) rfl rfl (Nat.le_of_ble_eq_true rfl) d_M_init_43 (fun H locs hP hD hS => ?_)
  have hP : va_P D vcl ([(r, .inr (1, [.ref a0, .ref a1, .ref a2, .ref a3, .ref a4, .null, .int 0, .int 0, .int 0])), (a0, .inl (tI, F, .inl (fun _ => -1))), (a1, .inl (tI, S, .inl (fun _ => -1))), (a2, .inl (tZ, F, .inl (fun _ => 0))), (a3, .inl (tI, F + S, .inl (fun _ => -1))), (a4, .inl (tI, F + S, .inl (fun _ => 0)))]) H := hP
  have hD : va_D A ([(r, .inr (1, [.ref a0, .ref a1, .ref a2, .ref a3, .ref a4, .null, .int 0, .int 0, .int 0])), (a0, .inl (tI, F, .inl (fun _ => -1))), (a1, .inl (tI, S, .inl (fun _ => -1))), (a2, .inl (tZ, F, .inl (fun _ => 0))), (a3, .inl (tI, F + S, .inl (fun _ => -1))), (a4, .inl (tI, F + S, .inl (fun _ => 0)))]) := hD
  refine lv_aload_n hx hb d_M_init_46 rfl (lv_at hl 0 rfl) ?_
  refine lv_iload_n hx hb d_M_init_47 rfl (lv_at hl 1 rfl) ?_
  refine lv_iload_n hx hb d_M_init_48 rfl (lv_at hl 2 rfl) ?_
  refine lv_iadd hx hb d_M_init_49 ?_
  rw [nI_add]
  refine lv_iconst (v := 4) hx hb d_M_init_50 (by decide) ?_
  refine ob_grid (N := F + S) (K := 4) hx hb hown (hT.w k_M_32) ho (hT.w ka_int) hT.1 hP hD hS hA d_M_init_51 rfl (by omega) rfl (by omega) (by show _ + (1 + (F + S)) ≤ 24; omega) (by show _ + (F + S + (F + S) * 4) ≤ 170; omega) (fun a5 H hP hD hS => ?_)
  have hP : va_P D vcl ([(r, .inr (1, [.ref a0, .ref a1, .ref a2, .ref a3, .ref a4, .null, .int 0, .int 0, .int 0])), (a0, .inl (tI, F, .inl (fun _ => -1))), (a1, .inl (tI, S, .inl (fun _ => -1))), (a2, .inl (tZ, F, .inl (fun _ => 0))), (a3, .inl (tI, F + S, .inl (fun _ => -1))), (a4, .inl (tI, F + S, .inl (fun _ => 0)))] ++ ((a5, .inl (tA, F + S, ra (fun i => a5 + 1 + i))) :: pl_rows (fun i => a5 + 1 + i) 0 (F + S) 4 tI (fun _ _ => 0))) H := hP
  have hD : va_D A ([(r, .inr (1, [.ref a0, .ref a1, .ref a2, .ref a3, .ref a4, .null, .int 0, .int 0, .int 0])), (a0, .inl (tI, F, .inl (fun _ => -1))), (a1, .inl (tI, S, .inl (fun _ => -1))), (a2, .inl (tZ, F, .inl (fun _ => 0))), (a3, .inl (tI, F + S, .inl (fun _ => -1))), (a4, .inl (tI, F + S, .inl (fun _ => 0)))] ++ ((a5, .inl (tA, F + S, ra (fun i => a5 + 1 + i))) :: pl_rows (fun i => a5 + 1 + i) 0 (F + S) 4 tI (fun _ _ => 0))) := hD
  refine va_putF (D := D) (ci := 1) (v := .ref a5) (ty := .array (.array .int)) hx hb hT.lays ly_M ty_M ty_M_ok n_M hown hT.1 hP hD hS 0 rfl rfl 5 (by decide) (hT.w k_M_34) (fun _ h => h) rfl hin rfl (by decide +kernel) rfl rfl (Nat.le_of_ble_eq_true rfl) d_M_init_55 (fun H locs hP hD hS => ?_)
  have hP : va_P D vcl ([(r, .inr (1, [.ref a0, .ref a1, .ref a2, .ref a3, .ref a4, .ref a5, .int 0, .int 0, .int 0])), (a0, .inl (tI, F, .inl (fun _ => -1))), (a1, .inl (tI, S, .inl (fun _ => -1))), (a2, .inl (tZ, F, .inl (fun _ => 0))), (a3, .inl (tI, F + S, .inl (fun _ => -1))), (a4, .inl (tI, F + S, .inl (fun _ => 0)))] ++ ((a5, .inl (tA, F + S, ra (fun i => a5 + 1 + i))) :: pl_rows (fun i => a5 + 1 + i) 0 (F + S) 4 tI (fun _ _ => 0))) H := hP
  have hD : va_D A ([(r, .inr (1, [.ref a0, .ref a1, .ref a2, .ref a3, .ref a4, .ref a5, .int 0, .int 0, .int 0])), (a0, .inl (tI, F, .inl (fun _ => -1))), (a1, .inl (tI, S, .inl (fun _ => -1))), (a2, .inl (tZ, F, .inl (fun _ => 0))), (a3, .inl (tI, F + S, .inl (fun _ => -1))), (a4, .inl (tI, F + S, .inl (fun _ => 0)))] ++ ((a5, .inl (tA, F + S, ra (fun i => a5 + 1 + i))) :: pl_rows (fun i => a5 + 1 + i) 0 (F + S) 4 tI (fun _ _ => 0))) := hD
  rw [← bf_M_world r a0 a1 a2 a3 a4 a5] at hP hD
  refine W.widen (k := 24) (n := 170) (by show _ ≤ 24; omega) (by show _ ≤ 170; omega) ?_
  refine ob_vret hlocks hx hb hr d_M_init_58 hS.2.2 (fun t ht hW => ?_)
  exact ⟨⟨bf_M r a0 a1 a2 a3 a4 a5, rfl⟩, rfl, by rw [ht]; exact hP, hD, hS.F ht⟩
