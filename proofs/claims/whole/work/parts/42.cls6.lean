set_option maxHeartbeats 4000000 in
set_option maxRecDepth 100000 in
/-- t_X_copy3 -/
theorem t_X_copy3 (l : Launch) (D : va_G) (tI tZ tA tJ : ClassId) (htr : l.stackTraces = false) (b : Nat → Nat) (F S sz : Nat) (q : KS) (p0 a d n : Int32) : ob_M l y_X_copy w_X_copy ({ frames := 8, cells := 1, slots := 6, locals := 155 }) (pT D tI tZ tA tJ [.ref (b 0), .int p0, .int a, .int d, .int n] (xW b F S tI tZ tA q) sz (¬ m_isP (ks_th q) p0 = 0 ∧ ¬ k_rng a n = 0 ∧ ¬ k_rng d n = 0 ∧ vp_in n 25 ∧ ¬ (k_copyL F S p0 a d (ix n) 0 (kv_cp q 0)).1 = 0 ∧ kc_ok F S p0 a d (ix n) 0 (kv_cp q 0))) (ob_qT D vcl R_Es (xW b F S tI tZ tA ((k_copyL F S p0 a d (ix n) 0 (kv_cp q 0)).2)) (va_A (xW b F S tI tZ tA q) sz)) 1 6 (va_A (xW b F S tI tZ tA q) sz) := by
  refine ob_ofW (by decide +kernel) ?_
  intro p e s m args below meth c s₁ B hml htab hv
  obtain ⟨rfl, hT, hz, ⟨hpr, hra, hrd, hn25, hno, hok⟩, hsz, hP, hD0⟩ := hv
  have hx := B.exec
  have hb := B.bytes
  have hr := B.returns
  have hlocks := B.notSynchronized
  have hown : s.vm.findClass R_X = some m.cls := findClass_of_methodNamed B.named
  have hl := lv_entry ([.ref (b 0), .int p0, .int a, .int d, .int n]) (n := 6) (Nat.le_of_ble_eq_true rfl)
  rw [lg_entry_eq]
  generalize (lg_sl ([.ref (b 0), .int p0, .int a, .int d, .int n]) ++ List.replicate (6 - (lg_sl ([.ref (b 0), .int p0, .int a, .int d, .int n])).length) Slot.unset).toArray = ls at hl ⊢
  have hl : lv_has ls 6 [(0, .ref (b 0)), (1, .int p0), (2, .int a), (3, .int d), (4, .int n)] := hl
  subst hsz
  have hD := hD0.self (sz := s.heap.size)
  have hpl : ∀ a, va_A (xW b F S tI tZ tA q) s.heap.size a → ∀ cell, s.heap[a]? = some cell → cell.vm.isStatics = false := va_A.plain hP
  generalize hAe : va_A (xW b F S tI tZ tA q) s.heap.size = A at hD hpl ⊢
  have hA : ∀ q : Nat, s.heap.size ≤ q → A q := fun q h => by rw [← hAe]; exact Or.inr h
  have hS : va_S A s.heap s.heap [] := va_S.rf
  refine lv_aload_n hx hb d_X_copy_0 rfl (lv_at hl 0 rfl) ?_
  refine lv_iload_n hx hb d_X_copy_1 rfl (lv_at hl 1 rfl) ?_
  refine ob_callR (v := none) (ob_runV (n := 1) (As := [.int p0]) (rest := []) (c_X_requireProcess l D tI tZ tA tJ b F S q p0) (hT.ok ob_cd_c (by decide +kernel) rfl rfl (Nat.le_of_ble_eq_true rfl) (Nat.le_of_ble_eq_true rfl) kn_X kc_X_requireProcess) hx hb hml hown (hT.w k_X_53) (hT.w ki_X_requireProcess) (hT.w kv_X_requireProcess) (va_recv (q0 := 0) (ci := 0) hT.1 hP rfl rfl) pR.blind (pR.at hT (hpr) hP) rfl rfl hl.1 rfl (lv_room (Nat.le_of_ble_eq_true rfl)) d_X_copy_2 ⟨Nat.le_of_ble_eq_true rfl, Nat.le_of_ble_eq_true rfl⟩) ?_
  refine W.eq (g2 := F0 m 5 ls []) rfl ?_
  refine lv_iload_n hx hb d_X_copy_5 rfl (lv_at hl 2 rfl) ?_
  refine lv_iload hx hb d_X_copy_6 (lv_at hl 4 rfl) ?_
  refine ob_callR (v := none) (ob_runS (n := 2) (As := [.int a, .int n]) (rest := []) (c_X_requireRange l D tI tZ tA tJ a n) (hT.ok ob_cd_c (by decide +kernel) rfl rfl (Nat.le_of_ble_eq_true rfl) (Nat.le_of_ble_eq_true rfl) kn_X kc_X_requireRange) hx hb hml hown (hT.w k_X_79) (hT.w ks_X_requireRange) pR.blind (pR.at hT (hra) (fun k q h => nomatch h)) rfl rfl hl.1 rfl (lv_room (Nat.le_of_ble_eq_true rfl)) d_X_copy_8 ⟨Nat.le_of_ble_eq_true rfl, Nat.le_of_ble_eq_true rfl⟩) ?_
  refine W.eq (g2 := F0 m 11 ls []) rfl ?_
  refine lv_iload_n hx hb d_X_copy_11 rfl (lv_at hl 3 rfl) ?_
  refine lv_iload hx hb d_X_copy_12 (lv_at hl 4 rfl) ?_
  refine ob_callR (v := none) (ob_runS (n := 2) (As := [.int d, .int n]) (rest := []) (c_X_requireRange l D tI tZ tA tJ d n) (hT.ok ob_cd_c (by decide +kernel) rfl rfl (Nat.le_of_ble_eq_true rfl) (Nat.le_of_ble_eq_true rfl) kn_X kc_X_requireRange) hx hb hml hown (hT.w k_X_79) (hT.w ks_X_requireRange) pR.blind (pR.at hT (hrd) (fun k q h => nomatch h)) rfl rfl hl.1 rfl (lv_room (Nat.le_of_ble_eq_true rfl)) d_X_copy_14 ⟨Nat.le_of_ble_eq_true rfl, Nat.le_of_ble_eq_true rfl⟩) ?_
  refine W.eq (g2 := F0 m 17 ls []) rfl ?_
  refine lv_aload_n hx hb d_X_copy_17 rfl (lv_at hl 0 rfl) ?_
  refine lv_iconst (v := 0) hx hb d_X_copy_18 (by decide) ?_
  refine va_put (D := D) (ci := 0) (v := .int 0) (ty := .int) hx hb hT.lays ly_X ty_X ty_X_ok n_X hown hT.1 hP hD hS 0 rfl rfl 3 (by decide) (hT.w k_X_82) (fun _ h => h) rfl (by decide +kernel) rfl rfl (Nat.le_of_ble_eq_true rfl) d_X_copy_19 (fun H locs hP hD hS => ?_)
  have hP : va_P D vcl (xW b F S tI tZ tA (kv_cp q 0)) H := hP
  have hD : va_D A (xW b F S tI tZ tA (kv_cp q 0)) := hD
  refine lv_iconst (v := 0) hx hb d_X_copy_22 (by decide) ?_
  refine lv_istore (lv' := [(5, .int 0), (0, .ref (b 0)), (1, .int p0), (2, .int a), (3, .int d), (4, .int n)]) hx hb d_X_copy_23 hl (by decide) rfl (fun ls hl => ?_)
  obtain ⟨N, hN, hnN⟩ := vp_in_of hn25 (by omega)
  have hixn : ix n = N := by rw [hnN]; exact nI_clamp (by omega)
  rw [hixn] at hok hno ⊢
  obtain ⟨RR, hRR⟩ : ∃ z, z = k_copyL F S p0 a d N 0 (kv_cp q 0) := ⟨_, rfl⟩
  rw [← hRR] at hno ⊢
  have loop : ∀ (f i : Nat) (k : KS) (ls : Array Slot) (H : Heap) (locs : List Loc), i + f = N → k_copyL F S p0 a d f i k = RR → kc_ok F S p0 a d f i k → lv_has ls 6 [(5, .int (nI i)), (0, .ref (b 0)), (1, .int p0), (2, .int a), (3, .int d), (4, .int n)] → va_P D vcl (xW b F S tI tZ tA k) H → va_D A (xW b F S tI tZ tA k) → va_S A s.heap H locs → W p l e ({ frames := 8, cells := 1, slots := 6, locals := 155 } : Room) s m ([.ref (b 0), .int p0, .int a, .int d, .int n] : List Value).toArray below meth c H locs 0 0 (ob_Q below (ob_qT D vcl R_Es (xW b F S tI tZ tA RR.2) A) ([.ref (b 0), .int p0, .int a, .int d, .int n] : List Value).toArray s 1 6 A) (F0 m 25 ls []) := by
    intro f
    induction f with
    | zero =>
      intro i k ls H locs hi hR hok hl hP hD hS
      exact absurd (show RR.1 = 0 by rw [← hR]; rfl) hno
    | succ f ih =>
      intro i k ls H locs hi hR hok hl hP hD hS
      obtain ⟨hxl, hok2, hok4⟩ := hok
      rw [k_copyL] at hR
      obtain ⟨r, hr0⟩ : ∃ z, z = k_loadW F S k p0 (a + nI i) := ⟨_, rfl⟩
      rw [← hr0] at hR hok2 hok4
      have hcL := c_X_loadWord l D tI tZ tA tJ b F S H.size k p0 (a + nI i)
      rw [← hr0] at hcL
      refine lv_iload hx hb d_X_copy_25 (lv_at hl 0 rfl) ?_
      refine lv_iload hx hb d_X_copy_27 (lv_at hl 5 rfl) ?_
      refine lv_icmp_ge (tgt := 66) hx hb d_X_copy_29 (by decide) (fun hc => absurd (by rw [hnN] at hc; exact hc) (nI_ge (by omega) (by omega))) (fun hc => ?_)
      refine lv_aload_n hx hb d_X_copy_32 rfl (lv_at hl 1 rfl) ?_
      refine lv_iload_n hx hb d_X_copy_33 rfl (lv_at hl 2 rfl) ?_
      refine lv_iload_n hx hb d_X_copy_34 rfl (lv_at hl 4 rfl) ?_
      refine lv_iload hx hb d_X_copy_35 (lv_at hl 0 rfl) ?_
      refine lv_iadd hx hb d_X_copy_37 ?_
      refine lv_aload_n hx hb d_X_copy_38 rfl (lv_at hl 1 rfl) ?_
      refine lv_iload_n hx hb d_X_copy_39 rfl (lv_at hl 2 rfl) ?_
      refine lv_iload_n hx hb d_X_copy_40 rfl (lv_at hl 3 rfl) ?_
      refine lv_iload hx hb d_X_copy_41 (lv_at hl 0 rfl) ?_
      refine lv_iadd hx hb d_X_copy_43 ?_
      refine ob_callW (v := (some (.int r.1))) (X := []) (M := xW b F S tI tZ tA k) (M' := xW b F S tI tZ tA r.2) (ob_runV (n := 2) (As := [.int p0, .int (a + nI i)]) (rest := [.int (d + (nI i)), .int p0, .ref (b 0)]) (hcL) (hT.ok ob_cd_c (by decide +kernel) rfl rfl (Nat.le_of_ble_eq_true rfl) (Nat.le_of_ble_eq_true rfl) kn_X kc_X_loadWord) hx hb hml hown (hT.w k_X_72) (hT.w ki_X_loadWord) (hT.w kv_X_loadWord) (va_recv (q0 := 0) (ci := 0) hT.1 hP rfl rfl) pW.blind (pW.at hT (hxl) hP hD) rfl rfl hl.1 rfl (lv_room (Nat.le_of_ble_eq_true rfl)) d_X_copy_44 ⟨Nat.le_of_ble_eq_true rfl, Nat.le_of_ble_eq_true rfl⟩) hP hD hS hA (fun H locs hP hD hS => ?_)
      have hP : va_P D vcl (xW b F S tI tZ tA r.2) H := hP
      have hD : va_D A (xW b F S tI tZ tA r.2) := hD
      refine W.eq (g2 := F0 m 47 ls [.int r.1, .int (d + (nI i)), .int p0, .ref (b 0)]) rfl ?_
      by_cases hn0 : k_no F S r.2 p0 ((d + nI i) / 4) = 0
      · rw [if_pos hn0] at hR
        obtain ⟨hxs, hok3⟩ := hok2 hn0
        refine ob_callW (v := none) (X := []) (M := xW b F S tI tZ tA r.2) (M' := xW b F S tI tZ tA (k_storeW F S r.2 p0 (d + nI i) r.1)) (ob_runV (n := 3) (As := [.int p0, .int (d + nI i), .int r.1]) (rest := []) (c_X_storeWord l D tI tZ tA tJ b F S H.size r.2 p0 (d + nI i) r.1) (hT.ok ob_cd_c (by decide +kernel) rfl rfl (Nat.le_of_ble_eq_true rfl) (Nat.le_of_ble_eq_true rfl) kn_X kc_X_storeWord) hx hb hml hown (hT.w k_X_75) (hT.w ki_X_storeWord) (hT.w kv_X_storeWord) (va_recv (q0 := 0) (ci := 0) hT.1 hP rfl rfl) pW.blind (pW.at hT (hxs) hP hD) rfl rfl hl.1 rfl (lv_room (Nat.le_of_ble_eq_true rfl)) d_X_copy_47 ⟨Nat.le_of_ble_eq_true rfl, Nat.le_of_ble_eq_true rfl⟩) hP hD hS hA (fun H locs hP hD hS => ?_)
        have hP : va_P D vcl (xW b F S tI tZ tA (k_storeW F S r.2 p0 (d + nI i) r.1)) H := hP
        have hD : va_D A (xW b F S tI tZ tA (k_storeW F S r.2 p0 (d + nI i) r.1)) := hD
        refine W.eq (g2 := F0 m 50 ls []) rfl ?_
        refine lv_aload_n hx hb d_X_copy_50 rfl (lv_at hl 1 rfl) ?_
        refine lv_dup hx hb d_X_copy_51 rfl ?_
        refine va_get (D := D) (ci := 0) (v := .int (ks_cp (k_storeW F S r.2 p0 (d + nI i) r.1))) hx hb hT.lays ly_X hown hT.1 hP 0 rfl rfl 3 (by decide) (hT.w k_X_82) (fun _ h => h) rfl d_X_copy_52 ?_
        refine lv_iconst (v := 1) hx hb d_X_copy_55 (by decide) ?_
        refine lv_iadd hx hb d_X_copy_56 ?_
        refine va_put (D := D) (ci := 0) (v := .int ((ks_cp (k_storeW F S r.2 p0 (d + nI i) r.1)) + 1)) (ty := .int) hx hb hT.lays ly_X ty_X ty_X_ok n_X hown hT.1 hP hD hS 0 rfl rfl 3 (by decide) (hT.w k_X_82) (fun _ h => h) rfl (by decide +kernel) rfl rfl (Nat.le_of_ble_eq_true rfl) d_X_copy_57 (fun H locs hP hD hS => ?_)
        have hP : va_P D vcl (xW b F S tI tZ tA (kv_cp (k_storeW F S r.2 p0 (d + nI i) r.1) ((ks_cp (k_storeW F S r.2 p0 (d + nI i) r.1)) + 1))) H := hP
        have hD : va_D A (xW b F S tI tZ tA (kv_cp (k_storeW F S r.2 p0 (d + nI i) r.1) ((ks_cp (k_storeW F S r.2 p0 (d + nI i) r.1)) + 1))) := hD
        refine lv_iinc (k := 0) (v := nI (i + 1)) (lv' := [(5, .int (nI (i + 1))), (0, .ref (b 0)), (1, .int p0), (2, .int a), (3, .int d), (4, .int n)]) hx hb d_X_copy_60 hl rfl (nI_1 i) (by decide) rfl (fun ls hl => ?_)
        refine lv_goto (tgt := 25) hx hb d_X_copy_63 (by decide) ?_
        exact ih (i + 1) _ ls H locs (by omega) hR hok3 (lv_sub hl [0, 1, 2, 3, 4, 5] rfl) hP hD hS
      · rw [if_neg hn0] at hR
        subst hR
        refine ob_callT (E := R_Es) (X := []) (M := xW b F S tI tZ tA r.2) (M' := xW b F S tI tZ tA (kv_m r.2 (k_make F S (ks_m r.2)).2)) (ob_runV (n := 3) (As := [.int p0, .int (d + nI i), .int r.1]) (rest := []) (t_X_storeWord l D tI tZ tA tJ htr b F S H.size r.2 p0 (d + nI i) r.1) (hT.ok ob_cd_c (by decide +kernel) rfl rfl (Nat.le_of_ble_eq_true rfl) (Nat.le_of_ble_eq_true rfl) kn_X kc_X_storeWord) hx hb hml hown (hT.w k_X_75) (hT.w ki_X_storeWord) (hT.w kv_X_storeWord) (va_recv (q0 := 0) (ci := 0) hT.1 hP rfl rfl) pT.blind (pT.at hT (hz.on hS hpl) (⟨hok4 hn0, hn0⟩) hP hD) rfl rfl hl.1 rfl (lv_room (Nat.le_of_ble_eq_true rfl)) d_X_copy_47 ⟨Nat.le_of_ble_eq_true rfl, Nat.le_of_ble_eq_true rfl⟩) hP hD hS hA (fun x H locs hex hP hD hS => ?_)
        exact ob_leave hlocks (th_out htab) (fun t ht hW => ⟨x, rfl, by rw [ht]; exact hex, by rw [ht]; exact hP, hD, hS.F ht⟩) hS.2.2
  exact loop N 0 (kv_cp q 0) ls H locs (by omega) hRR.symm hok (lv_sub hl [0, 1, 2, 3, 4, 5] rfl) hP hD hS
