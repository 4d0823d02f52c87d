set_option maxHeartbeats 4000000 in
set_option maxRecDepth 100000 in
/-- T_copy -/
theorem c_T_copy (l : Launch) (D : va_G) (tI tZ tA tJ : ClassId) (b : Nat → Nat) (F S sz : Nat) (tw : Int32) (g : Sg) (p0 a d n : Int32) : ob_M l y_T_copy w_T_copy ({ frames := 5, cells := 0, slots := 0, locals := 116 }) (pW D tI tZ tA tJ [.ref (b 0), .int p0, .int a, .int d, .int n] (tW b F S tI tZ tw g) sz (F ≤ 8 ∧ S ≤ 10 ∧ (¬ m_isP (sg_th g) p0 = 0 → m_bad a d n = 0 → vp_in n 25 ∧ mc_ok F S p0 a d (ix n) (su_cp g 0)))) (ob_qW D vcl none (tW b F S tI tZ ((m_copy F S g p0 a d n).1) ((m_copy F S g p0 a d n).2)) (va_A (tW b F S tI tZ tw g) sz)) 0 0 (va_A (tW b F S tI tZ tw g) sz) := by
  refine ob_ofW (by decide +kernel) ?_
  intro p e s m args below meth c s₁ B hml htab hv
  obtain ⟨rfl, hT, ⟨hF, hS10, hq⟩, hsz, hP, hD0⟩ := hv
  have hx := B.exec
  have hb := B.bytes
  have hr := B.returns
  have hlocks := B.notSynchronized
  have hown : s.vm.findClass R_T = some m.cls := findClass_of_methodNamed B.named
  have hl := lv_entry ([.ref (b 0), .int p0, .int a, .int d, .int n]) (n := 7) (Nat.le_of_ble_eq_true rfl)
  rw [lg_entry_eq]
  generalize (lg_sl ([.ref (b 0), .int p0, .int a, .int d, .int n]) ++ List.replicate (7 - (lg_sl ([.ref (b 0), .int p0, .int a, .int d, .int n])).length) Slot.unset).toArray = ls at hl ⊢
  have hl : lv_has ls 7 [(0, .ref (b 0)), (1, .int p0), (2, .int a), (3, .int d), (4, .int n)] := hl
  subst hsz
  have hD := hD0.self (sz := s.heap.size)
  generalize hAe : va_A (tW b F S tI tZ tw g) s.heap.size = A at hD ⊢
  have hA : ∀ q : Nat, s.heap.size ≤ q → A q := fun q h => by rw [← hAe]; exact Or.inr h
  have hS : va_S A s.heap s.heap [] := va_S.rf
  have hend : ∀ (ls : Array Slot), lv_has ls 7 [(0, .ref (b 0)), (1, .int p0), (2, .int a), (3, .int d), (4, .int n)] → W p l e ({ frames := 5, cells := 0, slots := 0, locals := 116 } : Room) s m ([.ref (b 0), .int p0, .int a, .int d, .int n] : List Value).toArray below meth c s.heap [] 0 0 (ob_Q below (ob_qW D vcl none (tW b F S tI tZ ((m_copy F S g p0 a d n).1) ((m_copy F S g p0 a d n).2)) A) ([.ref (b 0), .int p0, .int a, .int d, .int n] : List Value).toArray s 0 0 A) (F0 m 54 ls [.int (m_bad a d n)]) := by
    intro ls hl
    refine lv_istore (lv' := [(5, .int (m_bad a d n)), (0, .ref (b 0)), (1, .int p0), (2, .int a), (3, .int d), (4, .int n)]) hx hb d_T_copy_54 hl (by decide) rfl (fun ls hl => ?_)
    refine lv_aload_n hx hb d_T_copy_56 rfl (lv_at hl 1 rfl) ?_
    refine lv_aload_n hx hb d_T_copy_57 rfl (lv_at hl 1 rfl) ?_
    refine lv_iload_n hx hb d_T_copy_58 rfl (lv_at hl 2 rfl) ?_
    refine ob_callR (v := (some (.int (m_isP (sg_th g) p0)))) (ob_runV (n := 1) (As := [.int p0]) (rest := [.ref (b 0)]) (c_T_isProcess l D tI tZ tA tJ b F S tw g p0) (hT.ok ob_cd_c (by decide +kernel) rfl rfl (Nat.le_of_ble_eq_true rfl) (Nat.le_of_ble_eq_true rfl) kn_T kc_T_isProcess) hx hb hml hown (hT.w k_T_68) (hT.w ki_T_isProcess) (hT.w kv_T_isProcess) (va_recv (q0 := 0) (ci := 2) hT.1 hP rfl rfl) pR.blind (pR.at hT (trivial) hP) rfl rfl hl.1 rfl (lv_room (Nat.le_of_ble_eq_true rfl)) d_T_copy_59 ⟨Nat.le_of_ble_eq_true rfl, Nat.le_of_ble_eq_true rfl⟩) ?_
    refine W.eq (g2 := F0 m 62 ls [.int (m_isP (sg_th g) p0), .ref (b 0)]) rfl ?_
    refine lv_if_ne (tgt := 69) hx hb d_T_copy_62 (by decide) (fun hc => ?_) (fun hc => ?_)
    · have hc0 := hc
      refine lv_iload hx hb d_T_copy_69 (lv_at hl 0 rfl) ?_
      refine lv_if_eq (tgt := 78) hx hb d_T_copy_71 (by decide) (fun hc => ?_) (fun hc => ?_)
      · obtain ⟨hn25, hok⟩ := hq hc0 hc
        have e1 : m_copy F S g p0 a d n = m_copyL F S p0 a d (ix n) (su_cp g 0) := by unfold m_copy; rw [if_neg hc0, if_pos hc]
        rw [e1]
        obtain ⟨N, hN, hnN⟩ := vp_in_of hn25 (by omega)
        have hixn : ix n = N := by rw [hnN]; exact nI_clamp (by omega)
        rw [hixn] at hok ⊢
        obtain ⟨RR, hRR⟩ : ∃ z, z = m_copyL F S p0 a d N (su_cp g 0) := ⟨_, rfl⟩
        rw [← hRR]
        refine lv_iconst (v := 0) hx hb d_T_copy_78 (by decide) ?_
        refine va_put (D := D) (ci := 2) (v := .int 0) (ty := .int) hx hb hT.lays ly_T ty_T ty_T_ok n_T hown hT.1 hP hD hS 0 rfl rfl 0 (by decide) (hT.w k_T_33) (fun _ h => h) rfl (by decide +kernel) rfl rfl (Nat.le_of_ble_eq_true rfl) d_T_copy_79 (fun H locs hP hD hS => ?_)
        have hP : va_P D vcl (tW b F S tI tZ 0 g) H := hP
        have hD : va_D A (tW b F S tI tZ 0 g) := hD
        refine lv_aload_n hx hb d_T_copy_82 rfl (lv_at hl 1 rfl) ?_
        refine va_get (D := D) (ci := 2) (v := .int 0) hx hb hT.lays ly_T hown hT.1 hP 0 rfl rfl 0 (by decide) (hT.w k_T_33) (fun _ h => h) rfl d_T_copy_83 ?_
        refine lv_if_le (tgt := 90) hx hb d_T_copy_86 (by decide) (fun hc => ?_) (fun hc => absurd (by decide) hc)
        refine lv_aload_n hx hb d_T_copy_90 rfl (lv_at hl 1 rfl) ?_
        refine lv_iconst (v := 0) hx hb d_T_copy_91 (by decide) ?_
        refine va_put (D := D) (ci := 2) (v := .int 0) (ty := .int) hx hb hT.lays ly_T ty_T ty_T_ok n_T hown hT.1 hP hD hS 0 rfl rfl 11 (by decide) (hT.w k_T_102) (fun _ h => h) rfl (by decide +kernel) rfl rfl (Nat.le_of_ble_eq_true rfl) d_T_copy_92 (fun H locs hP hD hS => ?_)
        have hP : va_P D vcl (tW b F S tI tZ 0 (su_cp g 0)) H := hP
        have hD : va_D A (tW b F S tI tZ 0 (su_cp g 0)) := hD
        have hl : lv_has ls 7 [(0, .ref (b 0)), (1, .int p0), (2, .int a), (3, .int d), (4, .int n)] := lv_sub hl [1, 2, 3, 4, 5] rfl
        have loop : ∀ (f : Nat) (q : Sg) (ls : Array Slot) (H : Heap) (locs : List Loc) (i : Nat), i + f = N → sg_cp q = nI i → m_copyL F S p0 a d f q = RR → mc_ok F S p0 a d f q → lv_has ls 7 [(0, .ref (b 0)), (1, .int p0), (2, .int a), (3, .int d), (4, .int n)] → va_P D vcl (tW b F S tI tZ 0 q) H → va_D A (tW b F S tI tZ 0 q) → va_S A s.heap H locs → W p l e ({ frames := 5, cells := 0, slots := 0, locals := 116 } : Room) s m ([.ref (b 0), .int p0, .int a, .int d, .int n] : List Value).toArray below meth c H locs 0 0 (ob_Q below (ob_qW D vcl none (tW b F S tI tZ RR.1 RR.2) A) ([.ref (b 0), .int p0, .int a, .int d, .int n] : List Value).toArray s 0 0 A) (F0 m 95 ls []) := by
          intro f
          induction f with
          | zero =>
            intro q ls H locs i hi hcp hR hok hl hP hD hS
            refine lv_aload_n hx hb d_T_copy_95 rfl (lv_at hl 0 rfl) ?_
            refine va_get (D := D) (ci := 2) (v := .int (sg_cp q)) hx hb hT.lays ly_T hown hT.1 hP 0 rfl rfl 11 (by decide) (hT.w k_T_102) (fun _ h => h) rfl d_T_copy_96 ?_
            refine lv_iload hx hb d_T_copy_99 (lv_at hl 4 rfl) ?_
            refine lv_icmp_ge (tgt := 179) hx hb d_T_copy_101 (by decide) (fun hc => ?_) (fun hc => absurd (by rw [hcp, hnN]; exact nI_le (by omega) (by omega)) hc)
            rw [← hR]
            refine ob_vret hlocks hx hb hr d_T_copy_179 hS.2.2 (fun t ht hW => ?_)
            exact ⟨rfl, by rw [ht]; exact hP, hD, hS.F ht⟩
          | succ f ih =>
            intro q ls H locs i hi hcp hR hok hl hP hD hS
            refine lv_aload_n hx hb d_T_copy_95 rfl (lv_at hl 0 rfl) ?_
            refine va_get (D := D) (ci := 2) (v := .int (sg_cp q)) hx hb hT.lays ly_T hown hT.1 hP 0 rfl rfl 11 (by decide) (hT.w k_T_102) (fun _ h => h) rfl d_T_copy_96 ?_
            refine lv_iload hx hb d_T_copy_99 (lv_at hl 4 rfl) ?_
            refine lv_icmp_ge (tgt := 179) hx hb d_T_copy_101 (by decide) (fun hc => absurd (by rw [hcp, hnN] at hc; exact hc) (nI_ge (by omega) (by omega))) (fun hc => ?_)
            refine lv_aload_n hx hb d_T_copy_104 rfl (lv_at hl 0 rfl) ?_
            refine va_get (D := D) (ci := 2) (v := .int 0) hx hb hT.lays ly_T hown hT.1 hP 0 rfl rfl 0 (by decide) (hT.w k_T_33) (fun _ h => h) rfl d_T_copy_105 ?_
            refine lv_if_ne (tgt := 179) hx hb d_T_copy_108 (by decide) (fun hc => absurd rfl hc) (fun hc => ?_)
            obtain ⟨hml1, hin, hok2⟩ := hok
            refine lv_aload_n hx hb d_T_copy_111 rfl (lv_at hl 0 rfl) ?_
            refine lv_iload_n hx hb d_T_copy_112 rfl (lv_at hl 1 rfl) ?_
            refine lv_iload_n hx hb d_T_copy_113 rfl (lv_at hl 2 rfl) ?_
            refine lv_aload_n hx hb d_T_copy_114 rfl (lv_at hl 0 rfl) ?_
            refine va_get (D := D) (ci := 2) (v := .int (sg_cp q)) hx hb hT.lays ly_T hown hT.1 hP 0 rfl rfl 11 (by decide) (hT.w k_T_102) (fun _ h => h) rfl d_T_copy_115 ?_
            refine lv_iadd hx hb d_T_copy_118 ?_
            refine ob_callW (v := (some (.int ((m_loaded F S q p0 (a + sg_cp q)).1)))) (X := []) (M := tW b F S tI tZ 0 q) (M' := tW b F S tI tZ 0 ((m_loaded F S q p0 (a + sg_cp q)).2)) (ob_runV (n := 2) (As := [.int p0, .int (a + sg_cp q)]) (rest := []) (c_T_loaded l D tI tZ tA tJ b F S H.size 0 q p0 (a + sg_cp q)) (hT.ok ob_cd_c (by decide +kernel) rfl rfl (Nat.le_of_ble_eq_true rfl) (Nat.le_of_ble_eq_true rfl) kn_T kc_T_loaded) hx hb hml hown (hT.w k_T_90) (hT.w ki_T_loaded) (hT.w kv_T_loaded) (va_recv (q0 := 0) (ci := 2) hT.1 hP rfl rfl) pW.blind (pW.at hT (hml1) hP hD) rfl rfl hl.1 rfl (lv_room (Nat.le_of_ble_eq_true rfl)) d_T_copy_119 ⟨Nat.le_of_ble_eq_true rfl, Nat.le_of_ble_eq_true rfl⟩) hP hD hS hA (fun H locs hP hD hS => ?_)
            have hP : va_P D vcl (tW b F S tI tZ 0 ((m_loaded F S q p0 (a + sg_cp q)).2)) H := hP
            have hD : va_D A (tW b F S tI tZ 0 ((m_loaded F S q p0 (a + sg_cp q)).2)) := hD
            refine W.eq (g2 := F0 m 122 ls [.int ((m_loaded F S q p0 (a + sg_cp q)).1)]) rfl ?_
            refine lv_istore (lv' := [(6, .int ((m_loaded F S q p0 (a + sg_cp q)).1)), (0, .ref (b 0)), (1, .int p0), (2, .int a), (3, .int d), (4, .int n)]) hx hb d_T_copy_122 hl (by decide) rfl (fun ls hl => ?_)
            refine lv_aload_n hx hb d_T_copy_124 rfl (lv_at hl 1 rfl) ?_
            refine lv_iload_n hx hb d_T_copy_125 rfl (lv_at hl 2 rfl) ?_
            refine lv_iload_n hx hb d_T_copy_126 rfl (lv_at hl 4 rfl) ?_
            refine lv_aload_n hx hb d_T_copy_127 rfl (lv_at hl 1 rfl) ?_
            refine va_get (D := D) (ci := 2) (v := .int (sg_cp ((m_loaded F S q p0 (a + sg_cp q)).2))) hx hb hT.lays ly_T hown hT.1 hP 0 rfl rfl 11 (by decide) (hT.w k_T_102) (fun _ h => h) rfl d_T_copy_128 ?_
            refine lv_iadd hx hb d_T_copy_131 ?_
            refine ob_callR (v := (some (.int (m_needs (sg_pg (m_loaded F S q p0 (a + sg_cp q)).2) p0 (d + sg_cp (m_loaded F S q p0 (a + sg_cp q)).2))))) (ob_runV (n := 2) (As := [.int p0, .int (d + sg_cp (m_loaded F S q p0 (a + sg_cp q)).2)]) (rest := []) (c_T_needs l D tI tZ tA tJ b F S 0 ((m_loaded F S q p0 (a + sg_cp q)).2) p0 (d + sg_cp (m_loaded F S q p0 (a + sg_cp q)).2)) (hT.ok ob_cd_c (by decide +kernel) rfl rfl (Nat.le_of_ble_eq_true rfl) (Nat.le_of_ble_eq_true rfl) kn_T kc_T_needs) hx hb hml hown (hT.w k_T_79) (hT.w ki_T_needs) (hT.w kv_T_needs) (va_recv (q0 := 0) (ci := 2) hT.1 hP rfl rfl) pR.blind (pR.at hT (hin) hP) rfl rfl hl.1 rfl (lv_room (Nat.le_of_ble_eq_true rfl)) d_T_copy_132 ⟨Nat.le_of_ble_eq_true rfl, Nat.le_of_ble_eq_true rfl⟩) ?_
            refine W.eq (g2 := F0 m 135 ls [.int (m_needs (sg_pg (m_loaded F S q p0 (a + sg_cp q)).2) p0 (d + sg_cp (m_loaded F S q p0 (a + sg_cp q)).2))]) rfl ?_
            have hcp2 : sg_cp (su_cp (m_stored F S (m_loaded F S q p0 (a + sg_cp q)).2 p0 (d + sg_cp (m_loaded F S q p0 (a + sg_cp q)).2) (m_loaded F S q p0 (a + sg_cp q)).1) (sg_cp (m_stored F S (m_loaded F S q p0 (a + sg_cp q)).2 p0 (d + sg_cp (m_loaded F S q p0 (a + sg_cp q)).2) (m_loaded F S q p0 (a + sg_cp q)).1) + 1)) = nI (i + 1) := by show sg_cp (m_stored F S (m_loaded F S q p0 (a + sg_cp q)).2 p0 (d + sg_cp (m_loaded F S q p0 (a + sg_cp q)).2) (m_loaded F S q p0 (a + sg_cp q)).1) + 1 = nI (i + 1); rw [m_stored_cp, m_loaded_cp, hcp, nI_1]
            have hgo : (m_needs (sg_pg (m_loaded F S q p0 (a + sg_cp q)).2) p0 (d + sg_cp (m_loaded F S q p0 (a + sg_cp q)).2) = 0 ∨ ¬ m_canMake F S (sg_li (m_loaded F S q p0 (a + sg_cp q)).2) = 0) → m_copyL F S p0 a d (f + 1) q = m_copyL F S p0 a d f (su_cp (m_stored F S (m_loaded F S q p0 (a + sg_cp q)).2 p0 (d + sg_cp (m_loaded F S q p0 (a + sg_cp q)).2) (m_loaded F S q p0 (a + sg_cp q)).1) (sg_cp (m_stored F S (m_loaded F S q p0 (a + sg_cp q)).2 p0 (d + sg_cp (m_loaded F S q p0 (a + sg_cp q)).2) (m_loaded F S q p0 (a + sg_cp q)).1) + 1)) → ∀ (ls : Array Slot), lv_has ls 7 [(6, .int ((m_loaded F S q p0 (a + sg_cp q)).1)), (0, .ref (b 0)), (1, .int p0), (2, .int a), (3, .int d), (4, .int n)] → W p l e ({ frames := 5, cells := 0, slots := 0, locals := 116 } : Room) s m ([.ref (b 0), .int p0, .int a, .int d, .int n] : List Value).toArray below meth c H locs 0 0 (ob_Q below (ob_qW D vcl none (tW b F S tI tZ RR.1 RR.2) A) ([.ref (b 0), .int p0, .int a, .int d, .int n] : List Value).toArray s 0 0 A) (F0 m 153 ls []) := by
              intro hor e3 ls hl
              obtain ⟨hms, hok3⟩ := hok2 hor
              refine lv_aload_n hx hb d_T_copy_153 rfl (lv_at hl 1 rfl) ?_
              refine lv_iload_n hx hb d_T_copy_154 rfl (lv_at hl 2 rfl) ?_
              refine lv_iload_n hx hb d_T_copy_155 rfl (lv_at hl 4 rfl) ?_
              refine lv_aload_n hx hb d_T_copy_156 rfl (lv_at hl 1 rfl) ?_
              refine va_get (D := D) (ci := 2) (v := .int (sg_cp ((m_loaded F S q p0 (a + sg_cp q)).2))) hx hb hT.lays ly_T hown hT.1 hP 0 rfl rfl 11 (by decide) (hT.w k_T_102) (fun _ h => h) rfl d_T_copy_157 ?_
              refine lv_iadd hx hb d_T_copy_160 ?_
              refine lv_iload hx hb d_T_copy_161 (lv_at hl 0 rfl) ?_
              refine ob_callW (v := none) (X := []) (M := tW b F S tI tZ 0 ((m_loaded F S q p0 (a + sg_cp q)).2)) (M' := tW b F S tI tZ 0 (m_stored F S (m_loaded F S q p0 (a + sg_cp q)).2 p0 (d + sg_cp (m_loaded F S q p0 (a + sg_cp q)).2) (m_loaded F S q p0 (a + sg_cp q)).1)) (ob_runV (n := 3) (As := [.int p0, .int (d + sg_cp (m_loaded F S q p0 (a + sg_cp q)).2), .int ((m_loaded F S q p0 (a + sg_cp q)).1)]) (rest := []) (c_T_stored l D tI tZ tA tJ b F S H.size 0 ((m_loaded F S q p0 (a + sg_cp q)).2) p0 (d + sg_cp (m_loaded F S q p0 (a + sg_cp q)).2) ((m_loaded F S q p0 (a + sg_cp q)).1)) (hT.ok ob_cd_c (by decide +kernel) rfl rfl (Nat.le_of_ble_eq_true rfl) (Nat.le_of_ble_eq_true rfl) kn_T kc_T_stored) hx hb hml hown (hT.w k_T_98) (hT.w ki_T_stored) (hT.w kv_T_stored) (va_recv (q0 := 0) (ci := 2) hT.1 hP rfl rfl) pW.blind (pW.at hT (hms) hP hD) rfl rfl hl.1 rfl (lv_room (Nat.le_of_ble_eq_true rfl)) d_T_copy_163 ⟨Nat.le_of_ble_eq_true rfl, Nat.le_of_ble_eq_true rfl⟩) hP hD hS hA (fun H locs hP hD hS => ?_)
              have hP : va_P D vcl (tW b F S tI tZ 0 (m_stored F S (m_loaded F S q p0 (a + sg_cp q)).2 p0 (d + sg_cp (m_loaded F S q p0 (a + sg_cp q)).2) (m_loaded F S q p0 (a + sg_cp q)).1)) H := hP
              have hD : va_D A (tW b F S tI tZ 0 (m_stored F S (m_loaded F S q p0 (a + sg_cp q)).2 p0 (d + sg_cp (m_loaded F S q p0 (a + sg_cp q)).2) (m_loaded F S q p0 (a + sg_cp q)).1)) := hD
              refine W.eq (g2 := F0 m 166 ls []) rfl ?_
              refine lv_aload_n hx hb d_T_copy_166 rfl (lv_at hl 1 rfl) ?_
              refine lv_dup hx hb d_T_copy_167 rfl ?_
              refine va_get (D := D) (ci := 2) (v := .int (sg_cp (m_stored F S (m_loaded F S q p0 (a + sg_cp q)).2 p0 (d + sg_cp (m_loaded F S q p0 (a + sg_cp q)).2) (m_loaded F S q p0 (a + sg_cp q)).1))) hx hb hT.lays ly_T hown hT.1 hP 0 rfl rfl 11 (by decide) (hT.w k_T_102) (fun _ h => h) rfl d_T_copy_168 ?_
              refine lv_iconst (v := 1) hx hb d_T_copy_171 (by decide) ?_
              refine lv_iadd hx hb d_T_copy_172 ?_
              refine va_put (D := D) (ci := 2) (v := .int ((sg_cp (m_stored F S (m_loaded F S q p0 (a + sg_cp q)).2 p0 (d + sg_cp (m_loaded F S q p0 (a + sg_cp q)).2) (m_loaded F S q p0 (a + sg_cp q)).1)) + 1)) (ty := .int) hx hb hT.lays ly_T ty_T ty_T_ok n_T hown hT.1 hP hD hS 0 rfl rfl 11 (by decide) (hT.w k_T_102) (fun _ h => h) rfl (by decide +kernel) rfl rfl (Nat.le_of_ble_eq_true rfl) d_T_copy_173 (fun H locs hP hD hS => ?_)
              have hP : va_P D vcl (tW b F S tI tZ 0 (su_cp (m_stored F S (m_loaded F S q p0 (a + sg_cp q)).2 p0 (d + sg_cp (m_loaded F S q p0 (a + sg_cp q)).2) (m_loaded F S q p0 (a + sg_cp q)).1) ((sg_cp (m_stored F S (m_loaded F S q p0 (a + sg_cp q)).2 p0 (d + sg_cp (m_loaded F S q p0 (a + sg_cp q)).2) (m_loaded F S q p0 (a + sg_cp q)).1)) + 1))) H := hP
              have hD : va_D A (tW b F S tI tZ 0 (su_cp (m_stored F S (m_loaded F S q p0 (a + sg_cp q)).2 p0 (d + sg_cp (m_loaded F S q p0 (a + sg_cp q)).2) (m_loaded F S q p0 (a + sg_cp q)).1) ((sg_cp (m_stored F S (m_loaded F S q p0 (a + sg_cp q)).2 p0 (d + sg_cp (m_loaded F S q p0 (a + sg_cp q)).2) (m_loaded F S q p0 (a + sg_cp q)).1)) + 1))) := hD
              refine lv_goto (tgt := 95) hx hb d_T_copy_176 (by decide) ?_
              exact ih (su_cp (m_stored F S (m_loaded F S q p0 (a + sg_cp q)).2 p0 (d + sg_cp (m_loaded F S q p0 (a + sg_cp q)).2) (m_loaded F S q p0 (a + sg_cp q)).1) (sg_cp (m_stored F S (m_loaded F S q p0 (a + sg_cp q)).2 p0 (d + sg_cp (m_loaded F S q p0 (a + sg_cp q)).2) (m_loaded F S q p0 (a + sg_cp q)).1) + 1)) ls H locs (i + 1) (by omega) hcp2 (e3 ▸ hR) hok3 (lv_sub hl [1, 2, 3, 4, 5] rfl) hP hD hS
            have hl : lv_has ls 7 [(6, .int ((m_loaded F S q p0 (a + sg_cp q)).1)), (0, .ref (b 0)), (1, .int p0), (2, .int a), (3, .int d), (4, .int n)] := lv_sub hl [0, 1, 2, 3, 4, 5] rfl
            refine lv_if_eq (tgt := 153) hx hb d_T_copy_135 (by decide) (fun hc => ?_) (fun hc => ?_)
            · exact hgo (Or.inl hc) (if_pos hc) ls hl
            · have hcn := hc
              refine lv_aload_n hx hb d_T_copy_138 rfl (lv_at hl 1 rfl) ?_
              refine ob_callR (v := (some (.int (m_canMake F S (sg_li (m_loaded F S q p0 (a + sg_cp q)).2))))) (ob_runV (n := 0) (As := []) (rest := []) (c_T_canMake l D tI tZ tA tJ b F S 0 ((m_loaded F S q p0 (a + sg_cp q)).2)) (hT.ok ob_cd_c (by decide +kernel) rfl rfl (Nat.le_of_ble_eq_true rfl) (Nat.le_of_ble_eq_true rfl) kn_T kc_T_canMake) hx hb hml hown (hT.w k_T_94) (hT.w ki_T_canMake) (hT.w kv_T_canMake) (va_recv (q0 := 0) (ci := 2) hT.1 hP rfl rfl) pR.blind (pR.at hT (⟨hF, hS10⟩) hP) rfl rfl hl.1 rfl (lv_room (Nat.le_of_ble_eq_true rfl)) d_T_copy_139 ⟨Nat.le_of_ble_eq_true rfl, Nat.le_of_ble_eq_true rfl⟩) ?_
              refine W.eq (g2 := F0 m 142 ls [.int (m_canMake F S (sg_li (m_loaded F S q p0 (a + sg_cp q)).2))]) rfl ?_
              refine lv_if_ne (tgt := 153) hx hb d_T_copy_142 (by decide) (fun hc => ?_) (fun hc => ?_)
              · exact hgo (Or.inr hc) (show m_copyL F S p0 a d (f + 1) q = _ by rw [m_copyL]; rw [if_neg hcn, if_neg hc]) ls hl
              · have e3 : m_copyL F S p0 a d (f + 1) q = (3, (m_loaded F S q p0 (a + sg_cp q)).2) := by rw [m_copyL]; rw [if_neg hcn, if_pos hc]
                rw [e3] at hR
                subst hR
                refine lv_aload_n hx hb d_T_copy_145 rfl (lv_at hl 1 rfl) ?_
                refine lv_iconst (v := 3) hx hb d_T_copy_146 (by decide) ?_
                refine va_put (D := D) (ci := 2) (v := .int 3) (ty := .int) hx hb hT.lays ly_T ty_T ty_T_ok n_T hown hT.1 hP hD hS 0 rfl rfl 0 (by decide) (hT.w k_T_33) (fun _ h => h) rfl (by decide +kernel) rfl rfl (Nat.le_of_ble_eq_true rfl) d_T_copy_147 (fun H locs hP hD hS => ?_)
                have hP : va_P D vcl (tW b F S tI tZ 3 ((m_loaded F S q p0 (a + sg_cp q)).2)) H := hP
                have hD : va_D A (tW b F S tI tZ 3 ((m_loaded F S q p0 (a + sg_cp q)).2)) := hD
                refine lv_goto (tgt := 176) hx hb d_T_copy_150 (by decide) ?_
                refine lv_goto (tgt := 95) hx hb d_T_copy_176 (by decide) ?_
                refine lv_aload_n hx hb d_T_copy_95 rfl (lv_at hl 1 rfl) ?_
                refine va_get (D := D) (ci := 2) (v := .int (sg_cp ((m_loaded F S q p0 (a + sg_cp q)).2))) hx hb hT.lays ly_T hown hT.1 hP 0 rfl rfl 11 (by decide) (hT.w k_T_102) (fun _ h => h) rfl d_T_copy_96 ?_
                refine lv_iload hx hb d_T_copy_99 (lv_at hl 5 rfl) ?_
                refine lv_icmp_ge (tgt := 179) hx hb d_T_copy_101 (by decide) (fun hc => ?_) (fun hc => ?_)
                · refine ob_vret hlocks hx hb hr d_T_copy_179 hS.2.2 (fun t ht hW => ?_)
                  exact ⟨rfl, by rw [ht]; exact hP, hD, hS.F ht⟩
                · refine lv_aload_n hx hb d_T_copy_104 rfl (lv_at hl 1 rfl) ?_
                  refine va_get (D := D) (ci := 2) (v := .int 3) hx hb hT.lays ly_T hown hT.1 hP 0 rfl rfl 0 (by decide) (hT.w k_T_33) (fun _ h => h) rfl d_T_copy_105 ?_
                  refine lv_if_ne (tgt := 179) hx hb d_T_copy_108 (by decide) (fun hc => ?_) (fun hc => absurd hc (by decide))
                  refine ob_vret hlocks hx hb hr d_T_copy_179 hS.2.2 (fun t ht hW => ?_)
                  exact ⟨rfl, by rw [ht]; exact hP, hD, hS.F ht⟩
        exact loop N (su_cp g 0) ls H locs 0 (by omega) rfl hRR.symm hok hl hP hD hS
      · have e1 : m_copy F S g p0 a d n = (2, g) := by unfold m_copy; rw [if_neg hc0, if_neg hc]
        rw [e1]
        refine lv_iconst (v := 2) hx hb d_T_copy_74 (by decide) ?_
        refine lv_goto (tgt := 79) hx hb d_T_copy_75 (by decide) ?_
        refine va_put (D := D) (ci := 2) (v := .int 2) (ty := .int) hx hb hT.lays ly_T ty_T ty_T_ok n_T hown hT.1 hP hD hS 0 rfl rfl 0 (by decide) (hT.w k_T_33) (fun _ h => h) rfl (by decide +kernel) rfl rfl (Nat.le_of_ble_eq_true rfl) d_T_copy_79 (fun H locs hP hD hS => ?_)
        have hP : va_P D vcl (tW b F S tI tZ 2 g) H := hP
        have hD : va_D A (tW b F S tI tZ 2 g) := hD
        refine lv_aload_n hx hb d_T_copy_82 rfl (lv_at hl 1 rfl) ?_
        refine va_get (D := D) (ci := 2) (v := .int 2) hx hb hT.lays ly_T hown hT.1 hP 0 rfl rfl 0 (by decide) (hT.w k_T_33) (fun _ h => h) rfl d_T_copy_83 ?_
        refine lv_if_le (tgt := 90) hx hb d_T_copy_86 (by decide) (fun hc => absurd hc (by decide)) (fun hc => ?_)
        refine ob_vret hlocks hx hb hr d_T_copy_89 hS.2.2 (fun t ht hW => ?_)
        exact ⟨rfl, by rw [ht]; exact hP, hD, hS.F ht⟩
    · have e1 : m_copy F S g p0 a d n = (1, g) := if_pos hc
      rw [e1]
      refine lv_iconst (v := 1) hx hb d_T_copy_65 (by decide) ?_
      refine lv_goto (tgt := 79) hx hb d_T_copy_66 (by decide) ?_
      refine va_put (D := D) (ci := 2) (v := .int 1) (ty := .int) hx hb hT.lays ly_T ty_T ty_T_ok n_T hown hT.1 hP hD hS 0 rfl rfl 0 (by decide) (hT.w k_T_33) (fun _ h => h) rfl (by decide +kernel) rfl rfl (Nat.le_of_ble_eq_true rfl) d_T_copy_79 (fun H locs hP hD hS => ?_)
      have hP : va_P D vcl (tW b F S tI tZ 1 g) H := hP
      have hD : va_D A (tW b F S tI tZ 1 g) := hD
      refine lv_aload_n hx hb d_T_copy_82 rfl (lv_at hl 1 rfl) ?_
      refine va_get (D := D) (ci := 2) (v := .int 1) hx hb hT.lays ly_T hown hT.1 hP 0 rfl rfl 0 (by decide) (hT.w k_T_33) (fun _ h => h) rfl d_T_copy_83 ?_
      refine lv_if_le (tgt := 90) hx hb d_T_copy_86 (by decide) (fun hc => absurd hc (by decide)) (fun hc => ?_)
      refine ob_vret hlocks hx hb hr d_T_copy_89 hS.2.2 (fun t ht hW => ?_)
      exact ⟨rfl, by rw [ht]; exact hP, hD, hS.F ht⟩
  unfold m_bad at hend
  refine lv_iload hx hb d_T_copy_0 (lv_at hl 4 rfl) ?_
  refine lv_if_lt (tgt := 49) hx hb d_T_copy_2 (by decide) (fun hc => ?_) (fun hc => ?_)
  · rw [if_pos hc] at hend
    refine lv_iconst (v := 1) hx hb d_T_copy_49 (by decide) ?_
    refine lv_goto (tgt := 54) hx hb d_T_copy_50 (by decide) ?_
    exact hend ls hl
  · rw [if_neg hc] at hend
    refine lv_iload hx hb d_T_copy_5 (lv_at hl 4 rfl) ?_
    refine lv_bipush (v := 24) hx hb d_T_copy_7 (by decide) ?_
    refine lv_icmp_gt (tgt := 49) hx hb d_T_copy_9 (by decide) (fun hc => ?_) (fun hc => ?_)
    · rw [if_pos hc] at hend
      refine lv_iconst (v := 1) hx hb d_T_copy_49 (by decide) ?_
      refine lv_goto (tgt := 54) hx hb d_T_copy_50 (by decide) ?_
      exact hend ls hl
    · rw [if_neg hc] at hend
      refine lv_iload hx hb d_T_copy_12 (lv_at hl 4 rfl) ?_
      refine lv_if_le (tgt := 53) hx hb d_T_copy_14 (by decide) (fun hc => ?_) (fun hc => ?_)
      · rw [if_pos hc] at hend
        refine lv_iconst (v := 0) hx hb d_T_copy_53 (by decide) ?_
        exact hend ls hl
      · rw [if_neg hc] at hend
        refine lv_iload_n hx hb d_T_copy_17 rfl (lv_at hl 2 rfl) ?_
        refine ob_callR (v := (some (.int (m_isA a)))) (ob_runS (n := 1) (As := [.int a]) (rest := []) (c_T_isAddress l D tI tZ tA tJ a) (hT.ok ob_cd_c (by decide +kernel) rfl rfl (Nat.le_of_ble_eq_true rfl) (Nat.le_of_ble_eq_true rfl) kn_T kc_T_isAddress) hx hb hml hown (hT.w k_T_87) (hT.w ks_T_isAddress) pR.blind (pR.at hT (trivial) (hP.sub [] rfl)) rfl rfl hl.1 rfl (lv_room (Nat.le_of_ble_eq_true rfl)) d_T_copy_18 ⟨Nat.le_of_ble_eq_true rfl, Nat.le_of_ble_eq_true rfl⟩) ?_
        refine W.eq (g2 := F0 m 21 ls [.int (m_isA a)]) rfl ?_
        refine lv_if_eq (tgt := 49) hx hb d_T_copy_21 (by decide) (fun hc => ?_) (fun hc => ?_)
        · rw [if_pos hc] at hend
          refine lv_iconst (v := 1) hx hb d_T_copy_49 (by decide) ?_
          refine lv_goto (tgt := 54) hx hb d_T_copy_50 (by decide) ?_
          exact hend ls hl
        · rw [if_neg hc] at hend
          refine lv_iload_n hx hb d_T_copy_24 rfl (lv_at hl 3 rfl) ?_
          refine ob_callR (v := (some (.int (m_isA d)))) (ob_runS (n := 1) (As := [.int d]) (rest := []) (c_T_isAddress l D tI tZ tA tJ d) (hT.ok ob_cd_c (by decide +kernel) rfl rfl (Nat.le_of_ble_eq_true rfl) (Nat.le_of_ble_eq_true rfl) kn_T kc_T_isAddress) hx hb hml hown (hT.w k_T_87) (hT.w ks_T_isAddress) pR.blind (pR.at hT (trivial) (hP.sub [] rfl)) rfl rfl hl.1 rfl (lv_room (Nat.le_of_ble_eq_true rfl)) d_T_copy_25 ⟨Nat.le_of_ble_eq_true rfl, Nat.le_of_ble_eq_true rfl⟩) ?_
          refine W.eq (g2 := F0 m 28 ls [.int (m_isA d)]) rfl ?_
          refine lv_if_eq (tgt := 49) hx hb d_T_copy_28 (by decide) (fun hc => ?_) (fun hc => ?_)
          · rw [if_pos hc] at hend
            refine lv_iconst (v := 1) hx hb d_T_copy_49 (by decide) ?_
            refine lv_goto (tgt := 54) hx hb d_T_copy_50 (by decide) ?_
            exact hend ls hl
          · rw [if_neg hc] at hend
            refine lv_iload_n hx hb d_T_copy_31 rfl (lv_at hl 2 rfl) ?_
            refine lv_iload hx hb d_T_copy_32 (lv_at hl 4 rfl) ?_
            refine lv_iadd hx hb d_T_copy_34 ?_
            refine lv_bipush (v := 24) hx hb d_T_copy_35 (by decide) ?_
            refine lv_icmp_gt (tgt := 49) hx hb d_T_copy_37 (by decide) (fun hc => ?_) (fun hc => ?_)
            · rw [if_pos hc] at hend
              refine lv_iconst (v := 1) hx hb d_T_copy_49 (by decide) ?_
              refine lv_goto (tgt := 54) hx hb d_T_copy_50 (by decide) ?_
              exact hend ls hl
            · rw [if_neg hc] at hend
              refine lv_iload_n hx hb d_T_copy_40 rfl (lv_at hl 3 rfl) ?_
              refine lv_iload hx hb d_T_copy_41 (lv_at hl 4 rfl) ?_
              refine lv_iadd hx hb d_T_copy_43 ?_
              refine lv_bipush (v := 24) hx hb d_T_copy_44 (by decide) ?_
              refine lv_icmp_le (tgt := 53) hx hb d_T_copy_46 (by decide) (fun hc => ?_) (fun hc => ?_)
              · rw [if_pos hc] at hend
                refine lv_iconst (v := 0) hx hb d_T_copy_53 (by decide) ?_
                exact hend ls hl
              · rw [if_neg hc] at hend
                refine lv_iconst (v := 1) hx hb d_T_copy_49 (by decide) ?_
                refine lv_goto (tgt := 54) hx hb d_T_copy_50 (by decide) ?_
                exact hend ls hl

set_option maxHeartbeats 4000000 in
set_option maxRecDepth 100000 in
/-- T_copied -/
theorem c_T_copied (l : Launch) (D : va_G) (tI tZ tA tJ : ClassId) (b : Nat → Nat) (F S sz : Nat) (tw : Int32) (g : Sg)  : ob_M l y_T_copied w_T_copied ({ frames := 0, cells := 0, slots := 0, locals := 0 }) (pW D tI tZ tA tJ [.ref (b 0)] (tW b F S tI tZ tw g) sz (True)) (ob_qW D vcl (some (.int (sg_cp g))) (tW b F S tI tZ 0 g) (va_A (tW b F S tI tZ tw g) sz)) 0 0 (va_A (tW b F S tI tZ tw g) sz) := by
  refine ob_ofW (by decide +kernel) ?_
  intro p e s m args below meth c s₁ B hml htab hv
  obtain ⟨rfl, hT, -, hsz, hP, hD0⟩ := hv
  have hx := B.exec
  have hb := B.bytes
  have hr := B.returns
  have hlocks := B.notSynchronized
  have hown : s.vm.findClass R_T = some m.cls := findClass_of_methodNamed B.named
  have hl := lv_entry ([.ref (b 0)]) (n := 1) (Nat.le_of_ble_eq_true rfl)
  rw [lg_entry_eq]
  generalize (lg_sl ([.ref (b 0)]) ++ List.replicate (1 - (lg_sl ([.ref (b 0)])).length) Slot.unset).toArray = ls at hl ⊢
  have hl : lv_has ls 1 [(0, .ref (b 0))] := hl
  subst hsz
  have hD := hD0.self (sz := s.heap.size)
  generalize hAe : va_A (tW b F S tI tZ tw g) s.heap.size = A at hD ⊢
  have hA : ∀ q : Nat, s.heap.size ≤ q → A q := fun q h => by rw [← hAe]; exact Or.inr h
  have hS : va_S A s.heap s.heap [] := va_S.rf
  refine lv_aload_n hx hb d_T_copied_0 rfl (lv_at hl 0 rfl) ?_
  refine lv_iconst (v := 0) hx hb d_T_copied_1 (by decide) ?_
  refine va_put (D := D) (ci := 2) (v := .int 0) (ty := .int) hx hb hT.lays ly_T ty_T ty_T_ok n_T hown hT.1 hP hD hS 0 rfl rfl 0 (by decide) (hT.w k_T_33) (fun _ h => h) rfl (by decide +kernel) rfl rfl (Nat.le_of_ble_eq_true rfl) d_T_copied_2 (fun H locs hP hD hS => ?_)
  have hP : va_P D vcl (tW b F S tI tZ 0 g) H := hP
  have hD : va_D A (tW b F S tI tZ 0 g) := hD
  refine lv_aload_n hx hb d_T_copied_5 rfl (lv_at hl 0 rfl) ?_
  refine va_get (D := D) (ci := 2) (v := .int (sg_cp g)) hx hb hT.lays ly_T hown hT.1 hP 0 rfl rfl 11 (by decide) (hT.w k_T_102) (fun _ h => h) rfl d_T_copied_6 ?_
  refine ob_iret hlocks hx hb hr d_T_copied_9 hS.2.2 (fun t ht hW => ?_)
  exact ⟨rfl, by rw [ht]; exact hP, hD, hS.F ht⟩

set_option maxHeartbeats 4000000 in
set_option maxRecDepth 100000 in
/-- T_hand -/
theorem c_T_hand (l : Launch) (D : va_G) (tI tZ tA tJ : ClassId) (b : Nat → Nat) (F S sz : Nat) (tw : Int32) (g : Sg)  : ob_M l y_T_hand w_T_hand ({ frames := 0, cells := 0, slots := 0, locals := 0 }) (pW D tI tZ tA tJ [.ref (b 0)] (tW b F S tI tZ tw g) sz (True)) (ob_qW D vcl (some (.int (sg_hd g))) (tW b F S tI tZ 0 g) (va_A (tW b F S tI tZ tw g) sz)) 0 0 (va_A (tW b F S tI tZ tw g) sz) := by
  refine ob_ofW (by decide +kernel) ?_
  intro p e s m args below meth c s₁ B hml htab hv
  obtain ⟨rfl, hT, -, hsz, hP, hD0⟩ := hv
  have hx := B.exec
  have hb := B.bytes
  have hr := B.returns
  have hlocks := B.notSynchronized
  have hown : s.vm.findClass R_T = some m.cls := findClass_of_methodNamed B.named
  have hl := lv_entry ([.ref (b 0)]) (n := 1) (Nat.le_of_ble_eq_true rfl)
  rw [lg_entry_eq]
  generalize (lg_sl ([.ref (b 0)]) ++ List.replicate (1 - (lg_sl ([.ref (b 0)])).length) Slot.unset).toArray = ls at hl ⊢
  have hl : lv_has ls 1 [(0, .ref (b 0))] := hl
  subst hsz
  have hD := hD0.self (sz := s.heap.size)
  generalize hAe : va_A (tW b F S tI tZ tw g) s.heap.size = A at hD ⊢
  have hA : ∀ q : Nat, s.heap.size ≤ q → A q := fun q h => by rw [← hAe]; exact Or.inr h
  have hS : va_S A s.heap s.heap [] := va_S.rf
  refine lv_aload_n hx hb d_T_hand_0 rfl (lv_at hl 0 rfl) ?_
  refine lv_iconst (v := 0) hx hb d_T_hand_1 (by decide) ?_
  refine va_put (D := D) (ci := 2) (v := .int 0) (ty := .int) hx hb hT.lays ly_T ty_T ty_T_ok n_T hown hT.1 hP hD hS 0 rfl rfl 0 (by decide) (hT.w k_T_33) (fun _ h => h) rfl (by decide +kernel) rfl rfl (Nat.le_of_ble_eq_true rfl) d_T_hand_2 (fun H locs hP hD hS => ?_)
  have hP : va_P D vcl (tW b F S tI tZ 0 g) H := hP
  have hD : va_D A (tW b F S tI tZ 0 g) := hD
  refine lv_aload_n hx hb d_T_hand_5 rfl (lv_at hl 0 rfl) ?_
  refine va_get (D := D) (ci := 2) (v := .int (sg_hd g)) hx hb hT.lays ly_T hown hT.1 hP 0 rfl rfl 4 (by decide) (hT.w k_T_40) (fun _ h => h) rfl d_T_hand_6 ?_
  refine ob_iret hlocks hx hb hr d_T_hand_9 hS.2.2 (fun t ht hW => ?_)
  exact ⟨rfl, by rw [ht]; exact hP, hD, hS.F ht⟩

set_option maxHeartbeats 4000000 in
set_option maxRecDepth 100000 in
/-- T_faults -/
theorem c_T_faults (l : Launch) (D : va_G) (tI tZ tA tJ : ClassId) (b : Nat → Nat) (F S sz : Nat) (tw : Int32) (g : Sg)  : ob_M l y_T_faults w_T_faults ({ frames := 0, cells := 0, slots := 0, locals := 0 }) (pW D tI tZ tA tJ [.ref (b 0)] (tW b F S tI tZ tw g) sz (True)) (ob_qW D vcl (some (.int (sg_fl g))) (tW b F S tI tZ 0 g) (va_A (tW b F S tI tZ tw g) sz)) 0 0 (va_A (tW b F S tI tZ tw g) sz) := by
  refine ob_ofW (by decide +kernel) ?_
  intro p e s m args below meth c s₁ B hml htab hv
  obtain ⟨rfl, hT, -, hsz, hP, hD0⟩ := hv
  have hx := B.exec
  have hb := B.bytes
  have hr := B.returns
  have hlocks := B.notSynchronized
  have hown : s.vm.findClass R_T = some m.cls := findClass_of_methodNamed B.named
  have hl := lv_entry ([.ref (b 0)]) (n := 1) (Nat.le_of_ble_eq_true rfl)
  rw [lg_entry_eq]
  generalize (lg_sl ([.ref (b 0)]) ++ List.replicate (1 - (lg_sl ([.ref (b 0)])).length) Slot.unset).toArray = ls at hl ⊢
  have hl : lv_has ls 1 [(0, .ref (b 0))] := hl
  subst hsz
  have hD := hD0.self (sz := s.heap.size)
  generalize hAe : va_A (tW b F S tI tZ tw g) s.heap.size = A at hD ⊢
  have hA : ∀ q : Nat, s.heap.size ≤ q → A q := fun q h => by rw [← hAe]; exact Or.inr h
  have hS : va_S A s.heap s.heap [] := va_S.rf
  refine lv_aload_n hx hb d_T_faults_0 rfl (lv_at hl 0 rfl) ?_
  refine lv_iconst (v := 0) hx hb d_T_faults_1 (by decide) ?_
  refine va_put (D := D) (ci := 2) (v := .int 0) (ty := .int) hx hb hT.lays ly_T ty_T ty_T_ok n_T hown hT.1 hP hD hS 0 rfl rfl 0 (by decide) (hT.w k_T_33) (fun _ h => h) rfl (by decide +kernel) rfl rfl (Nat.le_of_ble_eq_true rfl) d_T_faults_2 (fun H locs hP hD hS => ?_)
  have hP : va_P D vcl (tW b F S tI tZ 0 g) H := hP
  have hD : va_D A (tW b F S tI tZ 0 g) := hD
  refine lv_aload_n hx hb d_T_faults_5 rfl (lv_at hl 0 rfl) ?_
  refine va_get (D := D) (ci := 2) (v := .int (sg_fl g)) hx hb hT.lays ly_T hown hT.1 hP 0 rfl rfl 9 (by decide) (hT.w k_T_59) (fun _ h => h) rfl d_T_faults_6 ?_
  refine ob_iret hlocks hx hb hr d_T_faults_9 hS.2.2 (fun t ht hW => ?_)
  exact ⟨rfl, by rw [ht]; exact hP, hD, hS.F ht⟩

set_option maxHeartbeats 4000000 in
set_option maxRecDepth 100000 in
/-- T_evicted -/
theorem c_T_evicted (l : Launch) (D : va_G) (tI tZ tA tJ : ClassId) (b : Nat → Nat) (F S sz : Nat) (tw : Int32) (g : Sg)  : ob_M l y_T_evicted w_T_evicted ({ frames := 0, cells := 0, slots := 0, locals := 0 }) (pW D tI tZ tA tJ [.ref (b 0)] (tW b F S tI tZ tw g) sz (True)) (ob_qW D vcl (some (.int (sg_ev g))) (tW b F S tI tZ 0 g) (va_A (tW b F S tI tZ tw g) sz)) 0 0 (va_A (tW b F S tI tZ tw g) sz) := by
  refine ob_ofW (by decide +kernel) ?_
  intro p e s m args below meth c s₁ B hml htab hv
  obtain ⟨rfl, hT, -, hsz, hP, hD0⟩ := hv
  have hx := B.exec
  have hb := B.bytes
  have hr := B.returns
  have hlocks := B.notSynchronized
  have hown : s.vm.findClass R_T = some m.cls := findClass_of_methodNamed B.named
  have hl := lv_entry ([.ref (b 0)]) (n := 1) (Nat.le_of_ble_eq_true rfl)
  rw [lg_entry_eq]
  generalize (lg_sl ([.ref (b 0)]) ++ List.replicate (1 - (lg_sl ([.ref (b 0)])).length) Slot.unset).toArray = ls at hl ⊢
  have hl : lv_has ls 1 [(0, .ref (b 0))] := hl
  subst hsz
  have hD := hD0.self (sz := s.heap.size)
  generalize hAe : va_A (tW b F S tI tZ tw g) s.heap.size = A at hD ⊢
  have hA : ∀ q : Nat, s.heap.size ≤ q → A q := fun q h => by rw [← hAe]; exact Or.inr h
  have hS : va_S A s.heap s.heap [] := va_S.rf
  refine lv_aload_n hx hb d_T_evicted_0 rfl (lv_at hl 0 rfl) ?_
  refine lv_iconst (v := 0) hx hb d_T_evicted_1 (by decide) ?_
  refine va_put (D := D) (ci := 2) (v := .int 0) (ty := .int) hx hb hT.lays ly_T ty_T ty_T_ok n_T hown hT.1 hP hD hS 0 rfl rfl 0 (by decide) (hT.w k_T_33) (fun _ h => h) rfl (by decide +kernel) rfl rfl (Nat.le_of_ble_eq_true rfl) d_T_evicted_2 (fun H locs hP hD hS => ?_)
  have hP : va_P D vcl (tW b F S tI tZ 0 g) H := hP
  have hD : va_D A (tW b F S tI tZ 0 g) := hD
  refine lv_aload_n hx hb d_T_evicted_5 rfl (lv_at hl 0 rfl) ?_
  refine va_get (D := D) (ci := 2) (v := .int (sg_ev g)) hx hb hT.lays ly_T hown hT.1 hP 0 rfl rfl 10 (by decide) (hT.w k_T_53) (fun _ h => h) rfl d_T_evicted_6 ?_
  refine ob_iret hlocks hx hb hr d_T_evicted_9 hS.2.2 (fun t ht hW => ?_)
  exact ⟨rfl, by rw [ht]; exact hP, hD, hS.F ht⟩

theorem m_isP_nar (th : Nat → Int32) (p : Int32) : narrow .boolean (.int (m_isP th p)) = .int (m_isP th p) := by
  unfold m_isP
  split
  · rfl
  · split
    · rfl
    · split <;> rfl

set_option maxHeartbeats 4000000 in
set_option maxRecDepth 100000 in
/-- T_isThere -/
theorem c_T_isThere (l : Launch) (D : va_G) (tI tZ tA tJ : ClassId) (b : Nat → Nat) (F S sz : Nat) (tw : Int32) (g : Sg) (p0 : Int32) : ob_M l y_T_isThere w_T_isThere ({ frames := 1, cells := 0, slots := 0, locals := 21 }) (pW D tI tZ tA tJ [.ref (b 0), .int p0] (tW b F S tI tZ tw g) sz (True)) (ob_qW D vcl (some (.int (m_isP (sg_th g) p0))) (tW b F S tI tZ 0 g) (va_A (tW b F S tI tZ tw g) sz)) 0 0 (va_A (tW b F S tI tZ tw g) sz) := by
  refine ob_ofW (by decide +kernel) ?_
  intro p e s m args below meth c s₁ B hml htab hv
  obtain ⟨rfl, hT, -, hsz, hP, hD0⟩ := hv
  have hx := B.exec
  have hb := B.bytes
  have hr := B.returns
  have hlocks := B.notSynchronized
  have hown : s.vm.findClass R_T = some m.cls := findClass_of_methodNamed B.named
  have hl := lv_entry ([.ref (b 0), .int p0]) (n := 2) (Nat.le_of_ble_eq_true rfl)
  rw [lg_entry_eq]
  generalize (lg_sl ([.ref (b 0), .int p0]) ++ List.replicate (2 - (lg_sl ([.ref (b 0), .int p0])).length) Slot.unset).toArray = ls at hl ⊢
  have hl : lv_has ls 2 [(0, .ref (b 0)), (1, .int p0)] := hl
  subst hsz
  have hD := hD0.self (sz := s.heap.size)
  generalize hAe : va_A (tW b F S tI tZ tw g) s.heap.size = A at hD ⊢
  have hA : ∀ q : Nat, s.heap.size ≤ q → A q := fun q h => by rw [← hAe]; exact Or.inr h
  have hS : va_S A s.heap s.heap [] := va_S.rf
  refine lv_aload_n hx hb d_T_isThere_0 rfl (lv_at hl 0 rfl) ?_
  refine lv_iconst (v := 0) hx hb d_T_isThere_1 (by decide) ?_
  refine va_put (D := D) (ci := 2) (v := .int 0) (ty := .int) hx hb hT.lays ly_T ty_T ty_T_ok n_T hown hT.1 hP hD hS 0 rfl rfl 0 (by decide) (hT.w k_T_33) (fun _ h => h) rfl (by decide +kernel) rfl rfl (Nat.le_of_ble_eq_true rfl) d_T_isThere_2 (fun H locs hP hD hS => ?_)
  have hP : va_P D vcl (tW b F S tI tZ 0 g) H := hP
  have hD : va_D A (tW b F S tI tZ 0 g) := hD
  refine lv_aload_n hx hb d_T_isThere_5 rfl (lv_at hl 0 rfl) ?_
  refine lv_iload_n hx hb d_T_isThere_6 rfl (lv_at hl 1 rfl) ?_
  refine ob_callR (v := (some (.int (m_isP (sg_th g) p0)))) (ob_runV (n := 1) (As := [.int p0]) (rest := []) (c_T_isProcess l D tI tZ tA tJ b F S 0 g p0) (hT.ok ob_cd_c (by decide +kernel) rfl rfl (Nat.le_of_ble_eq_true rfl) (Nat.le_of_ble_eq_true rfl) kn_T kc_T_isProcess) hx hb hml hown (hT.w k_T_68) (hT.w ki_T_isProcess) (hT.w kv_T_isProcess) (va_recv (q0 := 0) (ci := 2) hT.1 hP rfl rfl) pR.blind (pR.at hT (trivial) hP) rfl rfl hl.1 rfl (lv_room (Nat.le_of_ble_eq_true rfl)) d_T_isThere_7 ⟨Nat.le_of_ble_eq_true rfl, Nat.le_of_ble_eq_true rfl⟩) ?_
  refine W.eq (g2 := F0 m 10 ls [.int (m_isP (sg_th g) p0)]) rfl ?_
  refine ob_zret hlocks hx hb hr d_T_isThere_10 (m_isP_nar _ _) hS.2.2 (fun t ht hW => ?_)
  exact ⟨rfl, by rw [ht]; exact hP, hD, hS.F ht⟩

set_option maxHeartbeats 4000000 in
set_option maxRecDepth 100000 in
/-- T_where -/
theorem c_T_where (l : Launch) (D : va_G) (tI tZ tA tJ : ClassId) (b : Nat → Nat) (F S sz : Nat) (tw : Int32) (g : Sg) (p0 x : Int32) : ob_M l y_T_where w_T_where ({ frames := 2, cells := 0, slots := 0, locals := 43 }) (pW D tI tZ tA tJ [.ref (b 0), .int p0, .int x] (tW b F S tI tZ tw g) sz ((¬ m_isP (sg_th g) p0 = 0 → ¬ x < 0 → ¬ 6 ≤ x → vp_in (6 * p0 + x) 36) ∧ (0 ≤ m_sheetOf g p0 x → vp_in (m_sheetOf g p0 x) 18))) (ob_qW D vcl (some (.int (m_where g p0 x))) (tW b F S tI tZ 0 g) (va_A (tW b F S tI tZ tw g) sz)) 0 0 (va_A (tW b F S tI tZ tw g) sz) := by
  refine ob_ofW (by decide +kernel) ?_
  intro p e s m args below meth c s₁ B hml htab hv
  obtain ⟨rfl, hT, ⟨hin, h18⟩, hsz, hP, hD0⟩ := hv
  have hx := B.exec
  have hb := B.bytes
  have hr := B.returns
  have hlocks := B.notSynchronized
  have hown : s.vm.findClass R_T = some m.cls := findClass_of_methodNamed B.named
  have hl := lv_entry ([.ref (b 0), .int p0, .int x]) (n := 4) (Nat.le_of_ble_eq_true rfl)
  rw [lg_entry_eq]
  generalize (lg_sl ([.ref (b 0), .int p0, .int x]) ++ List.replicate (4 - (lg_sl ([.ref (b 0), .int p0, .int x])).length) Slot.unset).toArray = ls at hl ⊢
  have hl : lv_has ls 4 [(0, .ref (b 0)), (1, .int p0), (2, .int x)] := hl
  subst hsz
  have hD := hD0.self (sz := s.heap.size)
  generalize hAe : va_A (tW b F S tI tZ tw g) s.heap.size = A at hD ⊢
  have hA : ∀ q : Nat, s.heap.size ≤ q → A q := fun q h => by rw [← hAe]; exact Or.inr h
  have hS : va_S A s.heap s.heap [] := va_S.rf
  refine lv_aload_n hx hb d_T_where_0 rfl (lv_at hl 0 rfl) ?_
  refine lv_iconst (v := 0) hx hb d_T_where_1 (by decide) ?_
  refine va_put (D := D) (ci := 2) (v := .int 0) (ty := .int) hx hb hT.lays ly_T ty_T ty_T_ok n_T hown hT.1 hP hD hS 0 rfl rfl 0 (by decide) (hT.w k_T_33) (fun _ h => h) rfl (by decide +kernel) rfl rfl (Nat.le_of_ble_eq_true rfl) d_T_where_2 (fun H locs hP hD hS => ?_)
  have hP : va_P D vcl (tW b F S tI tZ 0 g) H := hP
  have hD : va_D A (tW b F S tI tZ 0 g) := hD
  unfold m_where
  refine lv_aload_n hx hb d_T_where_5 rfl (lv_at hl 0 rfl) ?_
  refine lv_iload_n hx hb d_T_where_6 rfl (lv_at hl 1 rfl) ?_
  refine lv_iload_n hx hb d_T_where_7 rfl (lv_at hl 2 rfl) ?_
  refine ob_callR (v := (some (.int (m_sheetOf g p0 x)))) (ob_runV (n := 2) (As := [.int p0, .int x]) (rest := []) (c_T_sheetOf l D tI tZ tA tJ b F S 0 g p0 x) (hT.ok ob_cd_c (by decide +kernel) rfl rfl (Nat.le_of_ble_eq_true rfl) (Nat.le_of_ble_eq_true rfl) kn_T kc_T_sheetOf) hx hb hml hown (hT.w k_T_105) (hT.w ki_T_sheetOf) (hT.w kv_T_sheetOf) (va_recv (q0 := 0) (ci := 2) hT.1 hP rfl rfl) pR.blind (pR.at hT (hin) hP) rfl rfl hl.1 rfl (lv_room (Nat.le_of_ble_eq_true rfl)) d_T_where_8 ⟨Nat.le_of_ble_eq_true rfl, Nat.le_of_ble_eq_true rfl⟩) ?_
  refine W.eq (g2 := F0 m 11 ls [.int (m_sheetOf g p0 x)]) rfl ?_
  refine lv_istore_n (lv' := [(3, .int (m_sheetOf g p0 x)), (0, .ref (b 0)), (1, .int p0), (2, .int x)]) hx hb d_T_where_11 rfl hl (by decide) rfl (fun ls hl => ?_)
  refine lv_iload_n hx hb d_T_where_12 rfl (lv_at hl 0 rfl) ?_
  refine lv_if_ge (tgt := 20) hx hb d_T_where_13 (by decide) (fun hc => ?_) (fun hc => ?_)
  · rw [if_pos hc]
    refine lv_aload_n hx hb d_T_where_20 rfl (lv_at hl 1 rfl) ?_
    refine va_get (D := D) (ci := 2) (v := .ref (b 2)) hx hb hT.lays ly_T hown hT.1 hP 0 rfl rfl 5 (by decide) (hT.w k_T_13) (fun _ h => h) rfl d_T_where_21 ?_
    refine lv_iload_n hx hb d_T_where_24 rfl (lv_at hl 0 rfl) ?_
    refine va_iald hx hb hT.1 hP 2 0 rfl rfl (h18 hc) d_T_where_25 ?_
    refine ob_iret hlocks hx hb hr d_T_where_26 hS.2.2 (fun t ht hW => ?_)
    exact ⟨rfl, by rw [ht]; exact hP, hD, hS.F ht⟩
  · rw [if_neg hc]
    refine lv_iconst (v := -1) hx hb d_T_where_16 (by decide) ?_
    refine lv_goto (tgt := 26) hx hb d_T_where_17 (by decide) ?_
    refine ob_iret hlocks hx hb hr d_T_where_26 hS.2.2 (fun t ht hW => ?_)
    exact ⟨rfl, by rw [ht]; exact hP, hD, hS.F ht⟩

set_option maxHeartbeats 4000000 in
set_option maxRecDepth 100000 in
/-- T_sharers -/
theorem c_T_sharers (l : Launch) (D : va_G) (tI tZ tA tJ : ClassId) (b : Nat → Nat) (F S sz : Nat) (tw : Int32) (g : Sg) (p0 x : Int32) : ob_M l y_T_sharers w_T_sharers ({ frames := 2, cells := 0, slots := 0, locals := 43 }) (pW D tI tZ tA tJ [.ref (b 0), .int p0, .int x] (tW b F S tI tZ tw g) sz (¬ m_isP (sg_th g) p0 = 0 → ¬ x < 0 → ¬ 6 ≤ x → vp_in (6 * p0 + x) 36)) (ob_qW D vcl (some (.int (m_sharers g p0 x))) (tW b F S tI tZ 0 g) (va_A (tW b F S tI tZ tw g) sz)) 0 0 (va_A (tW b F S tI tZ tw g) sz) := by
  refine ob_ofW (by decide +kernel) ?_
  intro p e s m args below meth c s₁ B hml htab hv
  obtain ⟨rfl, hT, hin, hsz, hP, hD0⟩ := hv
  have hx := B.exec
  have hb := B.bytes
  have hr := B.returns
  have hlocks := B.notSynchronized
  have hown : s.vm.findClass R_T = some m.cls := findClass_of_methodNamed B.named
  have hl := lv_entry ([.ref (b 0), .int p0, .int x]) (n := 4) (Nat.le_of_ble_eq_true rfl)
  rw [lg_entry_eq]
  generalize (lg_sl ([.ref (b 0), .int p0, .int x]) ++ List.replicate (4 - (lg_sl ([.ref (b 0), .int p0, .int x])).length) Slot.unset).toArray = ls at hl ⊢
  have hl : lv_has ls 4 [(0, .ref (b 0)), (1, .int p0), (2, .int x)] := hl
  subst hsz
  have hD := hD0.self (sz := s.heap.size)
  generalize hAe : va_A (tW b F S tI tZ tw g) s.heap.size = A at hD ⊢
  have hA : ∀ q : Nat, s.heap.size ≤ q → A q := fun q h => by rw [← hAe]; exact Or.inr h
  have hS : va_S A s.heap s.heap [] := va_S.rf
  refine lv_aload_n hx hb d_T_sharers_0 rfl (lv_at hl 0 rfl) ?_
  refine lv_iconst (v := 0) hx hb d_T_sharers_1 (by decide) ?_
  refine va_put (D := D) (ci := 2) (v := .int 0) (ty := .int) hx hb hT.lays ly_T ty_T ty_T_ok n_T hown hT.1 hP hD hS 0 rfl rfl 0 (by decide) (hT.w k_T_33) (fun _ h => h) rfl (by decide +kernel) rfl rfl (Nat.le_of_ble_eq_true rfl) d_T_sharers_2 (fun H locs hP hD hS => ?_)
  have hP : va_P D vcl (tW b F S tI tZ 0 g) H := hP
  have hD : va_D A (tW b F S tI tZ 0 g) := hD
  unfold m_sharers
  refine lv_aload_n hx hb d_T_sharers_5 rfl (lv_at hl 0 rfl) ?_
  refine lv_iload_n hx hb d_T_sharers_6 rfl (lv_at hl 1 rfl) ?_
  refine lv_iload_n hx hb d_T_sharers_7 rfl (lv_at hl 2 rfl) ?_
  refine ob_callR (v := (some (.int (m_sheetOf g p0 x)))) (ob_runV (n := 2) (As := [.int p0, .int x]) (rest := []) (c_T_sheetOf l D tI tZ tA tJ b F S 0 g p0 x) (hT.ok ob_cd_c (by decide +kernel) rfl rfl (Nat.le_of_ble_eq_true rfl) (Nat.le_of_ble_eq_true rfl) kn_T kc_T_sheetOf) hx hb hml hown (hT.w k_T_105) (hT.w ki_T_sheetOf) (hT.w kv_T_sheetOf) (va_recv (q0 := 0) (ci := 2) hT.1 hP rfl rfl) pR.blind (pR.at hT (hin) hP) rfl rfl hl.1 rfl (lv_room (Nat.le_of_ble_eq_true rfl)) d_T_sharers_8 ⟨Nat.le_of_ble_eq_true rfl, Nat.le_of_ble_eq_true rfl⟩) ?_
  refine W.eq (g2 := F0 m 11 ls [.int (m_sheetOf g p0 x)]) rfl ?_
  refine lv_istore_n (lv' := [(3, .int (m_sheetOf g p0 x)), (0, .ref (b 0)), (1, .int p0), (2, .int x)]) hx hb d_T_sharers_11 rfl hl (by decide) rfl (fun ls hl => ?_)
  refine lv_iload_n hx hb d_T_sharers_12 rfl (lv_at hl 0 rfl) ?_
  refine lv_if_ge (tgt := 20) hx hb d_T_sharers_13 (by decide) (fun hc => ?_) (fun hc => ?_)
  · rw [if_pos hc]
    refine lv_aload_n hx hb d_T_sharers_20 rfl (lv_at hl 1 rfl) ?_
    refine lv_iload_n hx hb d_T_sharers_21 rfl (lv_at hl 0 rfl) ?_
    refine ob_callR (v := (some (.int (m_owners (sg_pg g) (m_sheetOf g p0 x))))) (ob_runV (n := 1) (As := [.int (m_sheetOf g p0 x)]) (rest := []) (c_T_owners l D tI tZ tA tJ b F S 0 g (m_sheetOf g p0 x)) (hT.ok ob_cd_c (by decide +kernel) rfl rfl (Nat.le_of_ble_eq_true rfl) (Nat.le_of_ble_eq_true rfl) kn_T kc_T_owners) hx hb hml hown (hT.w k_T_62) (hT.w ki_T_owners) (hT.w kv_T_owners) (va_recv (q0 := 0) (ci := 2) hT.1 hP rfl rfl) pR.blind (pR.at hT (trivial) hP) rfl rfl hl.1 rfl (lv_room (Nat.le_of_ble_eq_true rfl)) d_T_sharers_22 ⟨Nat.le_of_ble_eq_true rfl, Nat.le_of_ble_eq_true rfl⟩) ?_
    refine W.eq (g2 := F0 m 25 ls [.int (m_owners (sg_pg g) (m_sheetOf g p0 x))]) rfl ?_
    refine ob_iret hlocks hx hb hr d_T_sharers_25 hS.2.2 (fun t ht hW => ?_)
    exact ⟨rfl, by rw [ht]; exact hP, hD, hS.F ht⟩
  · rw [if_neg hc]
    refine lv_iconst (v := 0) hx hb d_T_sharers_16 (by decide) ?_
    refine lv_goto (tgt := 25) hx hb d_T_sharers_17 (by decide) ?_
    refine ob_iret hlocks hx hb hr d_T_sharers_25 hS.2.2 (fun t ht hW => ?_)
    exact ⟨rfl, by rw [ht]; exact hP, hD, hS.F ht⟩

set_option maxHeartbeats 4000000 in
set_option maxRecDepth 100000 in
/-- T_marked -/
theorem c_T_marked (l : Launch) (D : va_G) (tI tZ tA tJ : ClassId) (b : Nat → Nat) (F S sz : Nat) (tw : Int32) (g : Sg) (x : Int32) : ob_M l y_T_marked w_T_marked ({ frames := 0, cells := 0, slots := 0, locals := 0 }) (pW D tI tZ tA tJ [.ref (b 0), .int x] (tW b F S tI tZ tw g) sz (F ≤ 8)) (ob_qW D vcl (some (.int (m_marked F (sg_mk g) x))) (tW b F S tI tZ 0 g) (va_A (tW b F S tI tZ tw g) sz)) 0 0 (va_A (tW b F S tI tZ tw g) sz) := by
  refine ob_ofW (by decide +kernel) ?_
  intro p e s m args below meth c s₁ B hml htab hv
  obtain ⟨rfl, hT, hF, hsz, hP, hD0⟩ := hv
  have hx := B.exec
  have hb := B.bytes
  have hr := B.returns
  have hlocks := B.notSynchronized
  have hown : s.vm.findClass R_T = some m.cls := findClass_of_methodNamed B.named
  have hl := lv_entry ([.ref (b 0), .int x]) (n := 2) (Nat.le_of_ble_eq_true rfl)
  rw [lg_entry_eq]
  generalize (lg_sl ([.ref (b 0), .int x]) ++ List.replicate (2 - (lg_sl ([.ref (b 0), .int x])).length) Slot.unset).toArray = ls at hl ⊢
  have hl : lv_has ls 2 [(0, .ref (b 0)), (1, .int x)] := hl
  subst hsz
  have hD := hD0.self (sz := s.heap.size)
  generalize hAe : va_A (tW b F S tI tZ tw g) s.heap.size = A at hD ⊢
  have hA : ∀ q : Nat, s.heap.size ≤ q → A q := fun q h => by rw [← hAe]; exact Or.inr h
  have hS : va_S A s.heap s.heap [] := va_S.rf
  refine lv_aload_n hx hb d_T_marked_0 rfl (lv_at hl 0 rfl) ?_
  refine lv_iconst (v := 0) hx hb d_T_marked_1 (by decide) ?_
  refine va_put (D := D) (ci := 2) (v := .int 0) (ty := .int) hx hb hT.lays ly_T ty_T ty_T_ok n_T hown hT.1 hP hD hS 0 rfl rfl 0 (by decide) (hT.w k_T_33) (fun _ h => h) rfl (by decide +kernel) rfl rfl (Nat.le_of_ble_eq_true rfl) d_T_marked_2 (fun H locs hP hD hS => ?_)
  have hP : va_P D vcl (tW b F S tI tZ 0 g) H := hP
  have hD : va_D A (tW b F S tI tZ 0 g) := hD
  unfold m_marked
  refine lv_iload_n hx hb d_T_marked_5 rfl (lv_at hl 1 rfl) ?_
  refine lv_if_lt (tgt := 30) hx hb d_T_marked_6 (by decide) (fun hc => ?_) (fun hc => ?_)
  · rw [if_pos hc]
    refine lv_iconst (v := 0) hx hb d_T_marked_30 (by decide) ?_
    refine ob_zret hlocks hx hb hr d_T_marked_31 (rfl) hS.2.2 (fun t ht hW => ?_)
    exact ⟨rfl, by rw [ht]; exact hP, hD, hS.F ht⟩
  · rw [if_neg hc]
    have hc0 := hc
    refine lv_iload_n hx hb d_T_marked_9 rfl (lv_at hl 1 rfl) ?_
    refine lv_aload_n hx hb d_T_marked_10 rfl (lv_at hl 0 rfl) ?_
    refine va_get (D := D) (ci := 2) (v := .int (nI F)) hx hb hT.lays ly_T hown hT.1 hP 0 rfl rfl 1 (by decide) (hT.w k_T_26) (fun _ h => h) rfl d_T_marked_11 ?_
    refine lv_icmp_ge (tgt := 30) hx hb d_T_marked_14 (by decide) (fun hc => ?_) (fun hc => ?_)
    · rw [if_pos hc]
      refine lv_iconst (v := 0) hx hb d_T_marked_30 (by decide) ?_
      refine ob_zret hlocks hx hb hr d_T_marked_31 (rfl) hS.2.2 (fun t ht hW => ?_)
      exact ⟨rfl, by rw [ht]; exact hP, hD, hS.F ht⟩
    · rw [if_neg hc]
      have hin : vp_in x 8 := by obtain ⟨j, hj, e, -⟩ := pk_mu hc0 hc (by omega); rw [e]; exact vp_in_nI (by omega) (by omega)
      refine lv_aload_n hx hb d_T_marked_17 rfl (lv_at hl 0 rfl) ?_
      refine va_get (D := D) (ci := 2) (v := .ref (b 1)) hx hb hT.lays ly_T hown hT.1 hP 0 rfl rfl 3 (by decide) (hT.w k_T_7) (fun _ h => h) rfl d_T_marked_18 ?_
      refine lv_iload_n hx hb d_T_marked_21 rfl (lv_at hl 1 rfl) ?_
      refine va_zald hx hb hT.1 hP 1 1 rfl rfl (hin) d_T_marked_22 ?_
      refine lv_if_eq (tgt := 30) hx hb d_T_marked_23 (by decide) (fun hc => ?_) (fun hc => ?_)
      · rw [if_pos hc]
        refine lv_iconst (v := 0) hx hb d_T_marked_30 (by decide) ?_
        refine ob_zret hlocks hx hb hr d_T_marked_31 (rfl) hS.2.2 (fun t ht hW => ?_)
        exact ⟨rfl, by rw [ht]; exact hP, hD, hS.F ht⟩
      · rw [if_neg hc]
        refine lv_iconst (v := 1) hx hb d_T_marked_26 (by decide) ?_
        refine lv_goto (tgt := 31) hx hb d_T_marked_27 (by decide) ?_
        refine ob_zret hlocks hx hb hr d_T_marked_31 (rfl) hS.2.2 (fun t ht hW => ?_)
        exact ⟨rfl, by rw [ht]; exact hP, hD, hS.F ht⟩

set_option maxHeartbeats 4000000 in
set_option maxRecDepth 100000 in
/-- T_freeFrames -/
theorem c_T_freeFrames (l : Launch) (D : va_G) (tI tZ tA tJ : ClassId) (b : Nat → Nat) (F S sz : Nat) (tw : Int32) (g : Sg)  : ob_M l y_T_freeFrames w_T_freeFrames ({ frames := 1, cells := 0, slots := 0, locals := 22 }) (pW D tI tZ tA tJ [.ref (b 0)] (tW b F S tI tZ tw g) sz (F ≤ 10)) (ob_qW D vcl (some (.int (m_cntG (sg_li g) F 0 0))) (tW b F S tI tZ 0 g) (va_A (tW b F S tI tZ tw g) sz)) 0 0 (va_A (tW b F S tI tZ tw g) sz) := by
  refine ob_ofW (by decide +kernel) ?_
  intro p e s m args below meth c s₁ B hml htab hv
  obtain ⟨rfl, hT, hN, hsz, hP, hD0⟩ := hv
  have hx := B.exec
  have hb := B.bytes
  have hr := B.returns
  have hlocks := B.notSynchronized
  have hown : s.vm.findClass R_T = some m.cls := findClass_of_methodNamed B.named
  have hl := lv_entry ([.ref (b 0)]) (n := 3) (Nat.le_of_ble_eq_true rfl)
  rw [lg_entry_eq]
  generalize (lg_sl ([.ref (b 0)]) ++ List.replicate (3 - (lg_sl ([.ref (b 0)])).length) Slot.unset).toArray = ls at hl ⊢
  have hl : lv_has ls 3 [(0, .ref (b 0))] := hl
  subst hsz
  have hD := hD0.self (sz := s.heap.size)
  generalize hAe : va_A (tW b F S tI tZ tw g) s.heap.size = A at hD ⊢
  have hA : ∀ q : Nat, s.heap.size ≤ q → A q := fun q h => by rw [← hAe]; exact Or.inr h
  have hS : va_S A s.heap s.heap [] := va_S.rf
  refine lv_aload_n hx hb d_T_freeFrames_0 rfl (lv_at hl 0 rfl) ?_
  refine lv_iconst (v := 0) hx hb d_T_freeFrames_1 (by decide) ?_
  refine va_put (D := D) (ci := 2) (v := .int 0) (ty := .int) hx hb hT.lays ly_T ty_T ty_T_ok n_T hown hT.1 hP hD hS 0 rfl rfl 0 (by decide) (hT.w k_T_33) (fun _ h => h) rfl (by decide +kernel) rfl rfl (Nat.le_of_ble_eq_true rfl) d_T_freeFrames_2 (fun H locs hP hD hS => ?_)
  have hP : va_P D vcl (tW b F S tI tZ 0 g) H := hP
  have hD : va_D A (tW b F S tI tZ 0 g) := hD
  have loop : ∀ (n i : Nat) (x : Int32) (ls : Array Slot), i + n = F → m_cntG (sg_li g) n i x = m_cntG (sg_li g) F 0 0 → lv_has ls 3 [(2, .int (nI i)), (1, .int x), (0, .ref (b 0))] → W p l e ({ frames := 1, cells := 0, slots := 0, locals := 22 } : Room) s m ([.ref (b 0)] : List Value).toArray below meth c H locs 0 0 (ob_Q below (ob_qW D vcl (some (.int (m_cntG (sg_li g) F 0 0))) (tW b F S tI tZ 0 g) A) ([.ref (b 0)] : List Value).toArray s 0 0 A) (F0 m 9 ls []) := by
    intro n
    induction n with
    | zero =>
      intro i x ls hi hR hl
      refine lv_iload_n hx hb d_T_freeFrames_9 rfl (lv_at hl 0 rfl) ?_
      refine lv_aload_n hx hb d_T_freeFrames_10 rfl (lv_at hl 2 rfl) ?_
      refine va_get (D := D) (ci := 2) (v := .int (nI F)) hx hb hT.lays ly_T hown hT.1 hP 0 rfl rfl 1 (by decide) (hT.w k_T_26) (fun _ h => h) rfl d_T_freeFrames_11 ?_
      refine lv_icmp_ge (tgt := 39) hx hb d_T_freeFrames_14 (by decide) (fun hc => ?_) (fun hc => absurd (nI_le (by omega) (by omega)) hc)
      rw [← hR]
      refine lv_iload_n hx hb d_T_freeFrames_39 rfl (lv_at hl 1 rfl) ?_
      refine ob_iret hlocks hx hb hr d_T_freeFrames_40 hS.2.2 (fun t ht hW => ?_)
      exact ⟨rfl, by rw [ht]; exact hP, hD, hS.F ht⟩
    | succ n ih =>
      intro i x ls hi hR hl
      refine lv_iload_n hx hb d_T_freeFrames_9 rfl (lv_at hl 0 rfl) ?_
      refine lv_aload_n hx hb d_T_freeFrames_10 rfl (lv_at hl 2 rfl) ?_
      refine va_get (D := D) (ci := 2) (v := .int (nI F)) hx hb hT.lays ly_T hown hT.1 hP 0 rfl rfl 1 (by decide) (hT.w k_T_26) (fun _ h => h) rfl d_T_freeFrames_11 ?_
      refine lv_icmp_ge (tgt := 39) hx hb d_T_freeFrames_14 (by decide) (fun hc => absurd hc (nI_ge (by omega) (by omega))) (fun hc => ?_)
      refine lv_aload_n hx hb d_T_freeFrames_17 rfl (lv_at hl 2 rfl) ?_
      refine lv_iload_n hx hb d_T_freeFrames_18 rfl (lv_at hl 0 rfl) ?_
      refine ob_callR (v := (some (.int (m_sheetAt (sg_li g) (nI i))))) (ob_runV (n := 1) (As := [.int (nI i)]) (rest := []) (c_T_sheetAt l D tI tZ tA tJ b F S 0 g (nI i)) (hT.ok ob_cd_c (by decide +kernel) rfl rfl (Nat.le_of_ble_eq_true rfl) (Nat.le_of_ble_eq_true rfl) kn_T kc_T_sheetAt) hx hb hml hown (hT.w k_T_36) (hT.w ki_T_sheetAt) (hT.w kv_T_sheetAt) (va_recv (q0 := 0) (ci := 2) hT.1 hP rfl rfl) pR.blind (pR.at hT (trivial) hP) rfl rfl hl.1 rfl (lv_room (Nat.le_of_ble_eq_true rfl)) d_T_freeFrames_19 ⟨Nat.le_of_ble_eq_true rfl, Nat.le_of_ble_eq_true rfl⟩) ?_
      refine W.eq (g2 := F0 m 22 ls [.int (m_sheetAt (sg_li g) (nI i))]) rfl ?_
      refine lv_if_ge (tgt := 31) hx hb d_T_freeFrames_22 (by decide) (fun hc => ?_) (fun hc => ?_)
      · refine lv_iload_n hx hb d_T_freeFrames_31 rfl (lv_at hl 1 rfl) ?_
        refine lv_istore_n (lv' := [(1, .int x), (2, .int (nI i)), (0, .ref (b 0))]) hx hb d_T_freeFrames_32 rfl hl (by decide) rfl (fun ls hl => ?_)
        refine lv_iinc (k := 1) (v := nI (i + 1)) (lv' := [(2, .int (nI (i + 1))), (1, .int x), (0, .ref (b 0))]) hx hb d_T_freeFrames_33 hl rfl (nI_1 i) (by decide) rfl (fun ls hl => ?_)
        refine lv_goto (tgt := 9) hx hb d_T_freeFrames_36 (by decide) ?_
        have hl : lv_has ls 3 [(2, .int (nI (i + 1))), (1, .int (x)), (0, .ref (b 0))] := hl
        refine ih (i + 1) (x) ls (by omega) ?_ hl
        rw [← hR]
        show _ = m_cntG (sg_li g) n (i + 1) (if 0 ≤ m_sheetAt (sg_li g) (nI i) then x else x + 1)
        rw [if_pos hc]
      · refine lv_iload_n hx hb d_T_freeFrames_25 rfl (lv_at hl 1 rfl) ?_
        refine lv_iconst (v := 1) hx hb d_T_freeFrames_26 (by decide) ?_
        refine lv_iadd hx hb d_T_freeFrames_27 ?_
        refine lv_goto (tgt := 32) hx hb d_T_freeFrames_28 (by decide) ?_
        refine lv_istore_n (lv' := [(1, .int (x + 1)), (2, .int (nI i)), (0, .ref (b 0))]) hx hb d_T_freeFrames_32 rfl hl (by decide) rfl (fun ls hl => ?_)
        refine lv_iinc (k := 1) (v := nI (i + 1)) (lv' := [(2, .int (nI (i + 1))), (1, .int (x + 1)), (0, .ref (b 0))]) hx hb d_T_freeFrames_33 hl rfl (nI_1 i) (by decide) rfl (fun ls hl => ?_)
        refine lv_goto (tgt := 9) hx hb d_T_freeFrames_36 (by decide) ?_
        have hl : lv_has ls 3 [(2, .int (nI (i + 1))), (1, .int (x + 1)), (0, .ref (b 0))] := hl
        refine ih (i + 1) (x + 1) ls (by omega) ?_ hl
        rw [← hR]
        show _ = m_cntG (sg_li g) n (i + 1) (if 0 ≤ m_sheetAt (sg_li g) (nI i) then x else x + 1)
        rw [if_neg hc]
  refine lv_iconst (v := 0) hx hb d_T_freeFrames_5 (by decide) ?_
  refine lv_istore_n (lv' := [(1, .int 0), (0, .ref (b 0))]) hx hb d_T_freeFrames_6 rfl hl (by decide) rfl (fun ls hl => ?_)
  refine lv_iconst (v := 0) hx hb d_T_freeFrames_7 (by decide) ?_
  refine lv_istore_n (lv' := [(2, .int 0), (1, .int 0), (0, .ref (b 0))]) hx hb d_T_freeFrames_8 rfl hl (by decide) rfl (fun ls hl => ?_)
  exact loop F 0 0 ls (by omega) rfl hl

set_option maxHeartbeats 4000000 in
set_option maxRecDepth 100000 in
/-- T_freeSlots -/
theorem c_T_freeSlots (l : Launch) (D : va_G) (tI tZ tA tJ : ClassId) (b : Nat → Nat) (F S sz : Nat) (tw : Int32) (g : Sg)  : ob_M l y_T_freeSlots w_T_freeSlots ({ frames := 1, cells := 0, slots := 0, locals := 22 }) (pW D tI tZ tA tJ [.ref (b 0)] (tW b F S tI tZ tw g) sz (S ≤ 10)) (ob_qW D vcl (some (.int (m_cntF (sg_li g) 100 S 0 0))) (tW b F S tI tZ 0 g) (va_A (tW b F S tI tZ tw g) sz)) 0 0 (va_A (tW b F S tI tZ tw g) sz) := by
  refine ob_ofW (by decide +kernel) ?_
  intro p e s m args below meth c s₁ B hml htab hv
  obtain ⟨rfl, hT, hN, hsz, hP, hD0⟩ := hv
  have hx := B.exec
  have hb := B.bytes
  have hr := B.returns
  have hlocks := B.notSynchronized
  have hown : s.vm.findClass R_T = some m.cls := findClass_of_methodNamed B.named
  have hl := lv_entry ([.ref (b 0)]) (n := 3) (Nat.le_of_ble_eq_true rfl)
  rw [lg_entry_eq]
  generalize (lg_sl ([.ref (b 0)]) ++ List.replicate (3 - (lg_sl ([.ref (b 0)])).length) Slot.unset).toArray = ls at hl ⊢
  have hl : lv_has ls 3 [(0, .ref (b 0))] := hl
  subst hsz
  have hD := hD0.self (sz := s.heap.size)
  generalize hAe : va_A (tW b F S tI tZ tw g) s.heap.size = A at hD ⊢
  have hA : ∀ q : Nat, s.heap.size ≤ q → A q := fun q h => by rw [← hAe]; exact Or.inr h
  have hS : va_S A s.heap s.heap [] := va_S.rf
  refine lv_aload_n hx hb d_T_freeSlots_0 rfl (lv_at hl 0 rfl) ?_
  refine lv_iconst (v := 0) hx hb d_T_freeSlots_1 (by decide) ?_
  refine va_put (D := D) (ci := 2) (v := .int 0) (ty := .int) hx hb hT.lays ly_T ty_T ty_T_ok n_T hown hT.1 hP hD hS 0 rfl rfl 0 (by decide) (hT.w k_T_33) (fun _ h => h) rfl (by decide +kernel) rfl rfl (Nat.le_of_ble_eq_true rfl) d_T_freeSlots_2 (fun H locs hP hD hS => ?_)
  have hP : va_P D vcl (tW b F S tI tZ 0 g) H := hP
  have hD : va_D A (tW b F S tI tZ 0 g) := hD
  have loop : ∀ (n i : Nat) (x : Int32) (ls : Array Slot), i + n = S → m_cntF (sg_li g) 100 n i x = m_cntF (sg_li g) 100 S 0 0 → lv_has ls 3 [(2, .int (nI i)), (1, .int x), (0, .ref (b 0))] → W p l e ({ frames := 1, cells := 0, slots := 0, locals := 22 } : Room) s m ([.ref (b 0)] : List Value).toArray below meth c H locs 0 0 (ob_Q below (ob_qW D vcl (some (.int (m_cntF (sg_li g) 100 S 0 0))) (tW b F S tI tZ 0 g) A) ([.ref (b 0)] : List Value).toArray s 0 0 A) (F0 m 9 ls []) := by
    intro n
    induction n with
    | zero =>
      intro i x ls hi hR hl
      refine lv_iload_n hx hb d_T_freeSlots_9 rfl (lv_at hl 0 rfl) ?_
      refine lv_aload_n hx hb d_T_freeSlots_10 rfl (lv_at hl 2 rfl) ?_
      refine va_get (D := D) (ci := 2) (v := .int (nI S)) hx hb hT.lays ly_T hown hT.1 hP 0 rfl rfl 2 (by decide) (hT.w k_T_30) (fun _ h => h) rfl d_T_freeSlots_11 ?_
      refine lv_icmp_ge (tgt := 42) hx hb d_T_freeSlots_14 (by decide) (fun hc => ?_) (fun hc => absurd (nI_le (by omega) (by omega)) hc)
      rw [← hR]
      refine lv_iload_n hx hb d_T_freeSlots_42 rfl (lv_at hl 1 rfl) ?_
      refine ob_iret hlocks hx hb hr d_T_freeSlots_43 hS.2.2 (fun t ht hW => ?_)
      exact ⟨rfl, by rw [ht]; exact hP, hD, hS.F ht⟩
    | succ n ih =>
      intro i x ls hi hR hl
      refine lv_iload_n hx hb d_T_freeSlots_9 rfl (lv_at hl 0 rfl) ?_
      refine lv_aload_n hx hb d_T_freeSlots_10 rfl (lv_at hl 2 rfl) ?_
      refine va_get (D := D) (ci := 2) (v := .int (nI S)) hx hb hT.lays ly_T hown hT.1 hP 0 rfl rfl 2 (by decide) (hT.w k_T_30) (fun _ h => h) rfl d_T_freeSlots_11 ?_
      refine lv_icmp_ge (tgt := 42) hx hb d_T_freeSlots_14 (by decide) (fun hc => absurd hc (nI_ge (by omega) (by omega))) (fun hc => ?_)
      refine lv_aload_n hx hb d_T_freeSlots_17 rfl (lv_at hl 2 rfl) ?_
      refine lv_bipush (v := 100) hx hb d_T_freeSlots_18 (by decide) ?_
      refine lv_iload_n hx hb d_T_freeSlots_20 rfl (lv_at hl 0 rfl) ?_
      refine lv_iadd hx hb d_T_freeSlots_21 ?_
      refine ob_callR (v := (some (.int (m_sheetAt (sg_li g) (100 + nI i))))) (ob_runV (n := 1) (As := [.int (100 + nI i)]) (rest := []) (c_T_sheetAt l D tI tZ tA tJ b F S 0 g (100 + nI i)) (hT.ok ob_cd_c (by decide +kernel) rfl rfl (Nat.le_of_ble_eq_true rfl) (Nat.le_of_ble_eq_true rfl) kn_T kc_T_sheetAt) hx hb hml hown (hT.w k_T_36) (hT.w ki_T_sheetAt) (hT.w kv_T_sheetAt) (va_recv (q0 := 0) (ci := 2) hT.1 hP rfl rfl) pR.blind (pR.at hT (trivial) hP) rfl rfl hl.1 rfl (lv_room (Nat.le_of_ble_eq_true rfl)) d_T_freeSlots_22 ⟨Nat.le_of_ble_eq_true rfl, Nat.le_of_ble_eq_true rfl⟩) ?_
      refine W.eq (g2 := F0 m 25 ls [.int (m_sheetAt (sg_li g) (100 + nI i))]) rfl ?_
      refine lv_if_ge (tgt := 34) hx hb d_T_freeSlots_25 (by decide) (fun hc => ?_) (fun hc => ?_)
      · refine lv_iload_n hx hb d_T_freeSlots_34 rfl (lv_at hl 1 rfl) ?_
        refine lv_istore_n (lv' := [(1, .int x), (2, .int (nI i)), (0, .ref (b 0))]) hx hb d_T_freeSlots_35 rfl hl (by decide) rfl (fun ls hl => ?_)
        refine lv_iinc (k := 1) (v := nI (i + 1)) (lv' := [(2, .int (nI (i + 1))), (1, .int x), (0, .ref (b 0))]) hx hb d_T_freeSlots_36 hl rfl (nI_1 i) (by decide) rfl (fun ls hl => ?_)
        refine lv_goto (tgt := 9) hx hb d_T_freeSlots_39 (by decide) ?_
        have hl : lv_has ls 3 [(2, .int (nI (i + 1))), (1, .int (x)), (0, .ref (b 0))] := hl
        refine ih (i + 1) (x) ls (by omega) ?_ hl
        rw [← hR]
        show _ = m_cntF (sg_li g) 100 n (i + 1) (if 0 ≤ m_sheetAt (sg_li g) (100 + nI i) then x else x + 1)
        rw [if_pos hc]
      · refine lv_iload_n hx hb d_T_freeSlots_28 rfl (lv_at hl 1 rfl) ?_
        refine lv_iconst (v := 1) hx hb d_T_freeSlots_29 (by decide) ?_
        refine lv_iadd hx hb d_T_freeSlots_30 ?_
        refine lv_goto (tgt := 35) hx hb d_T_freeSlots_31 (by decide) ?_
        refine lv_istore_n (lv' := [(1, .int (x + 1)), (2, .int (nI i)), (0, .ref (b 0))]) hx hb d_T_freeSlots_35 rfl hl (by decide) rfl (fun ls hl => ?_)
        refine lv_iinc (k := 1) (v := nI (i + 1)) (lv' := [(2, .int (nI (i + 1))), (1, .int (x + 1)), (0, .ref (b 0))]) hx hb d_T_freeSlots_36 hl rfl (nI_1 i) (by decide) rfl (fun ls hl => ?_)
        refine lv_goto (tgt := 9) hx hb d_T_freeSlots_39 (by decide) ?_
        have hl : lv_has ls 3 [(2, .int (nI (i + 1))), (1, .int (x + 1)), (0, .ref (b 0))] := hl
        refine ih (i + 1) (x + 1) ls (by omega) ?_ hl
        rw [← hR]
        show _ = m_cntF (sg_li g) 100 n (i + 1) (if 0 ≤ m_sheetAt (sg_li g) (100 + nI i) then x else x + 1)
        rw [if_neg hc]
  refine lv_iconst (v := 0) hx hb d_T_freeSlots_5 (by decide) ?_
  refine lv_istore_n (lv' := [(1, .int 0), (0, .ref (b 0))]) hx hb d_T_freeSlots_6 rfl hl (by decide) rfl (fun ls hl => ?_)
  refine lv_iconst (v := 0) hx hb d_T_freeSlots_7 (by decide) ?_
  refine lv_istore_n (lv' := [(2, .int 0), (1, .int 0), (0, .ref (b 0))]) hx hb d_T_freeSlots_8 rfl hl (by decide) rfl (fun ls hl => ?_)
  exact loop S 0 0 ls (by omega) rfl hl
