theorem m_lowP_or (th : Nat → Int32) : ∀ (n i : Nat), m_lowP th n i = -1 ∨ ∃ j, i ≤ j ∧ j < i + n ∧ m_lowP th n i = nI j ∧ th j = 0
  | 0, _ => Or.inl rfl
  | n + 1, i => by
    by_cases h : th i = 0
    · exact Or.inr ⟨i, Nat.le_refl _, by omega, if_pos h, h⟩
    · have e : m_lowP th (n + 1) i = m_lowP th n (i + 1) := if_neg h
      rw [e]
      rcases m_lowP_or th n (i + 1) with h1 | ⟨j, a, b, c, d⟩
      · exact Or.inl h1
      · exact Or.inr ⟨j, by omega, by omega, c, d⟩
theorem m_lowP_in {th : Nat → Int32} (h : 0 ≤ m_lowP th 6 0) : vp_in (m_lowP th 6 0) 6 := by
  rcases m_lowP_or th 6 0 with h1 | ⟨j, -, b, c, -⟩
  · rw [h1] at h; exact absurd h (by decide)
  · rw [c]; exact vp_in_nI (by omega) (by omega)
theorem m_isP_in {th : Nat → Int32} {p : Int32} (h : ¬ m_isP th p = 0) : vp_in p 6 := by
  unfold m_isP at h
  by_cases h1 : p < 0
  · rw [if_pos h1] at h; exact absurd rfl h
  · rw [if_neg h1] at h
    by_cases h2 : 6 ≤ p
    · rw [if_pos h2] at h; exact absurd rfl h
    · obtain ⟨j, hj, e, -⟩ := pk_mu (L := 6) h1 h2 (by omega)
      rw [e]; exact vp_in_nI hj (by omega)
theorem ix6 {p : Int32} {i : Nat} (ha : vp_in p 6) (hi : i < 6) : vp_in (6 * p + nI i) 36 := by
  obtain ⟨j, hj, rfl⟩ := vp_in_of ha (by omega)
  have e : (6 : Int32) * nI j + nI i = nI (6 * j + i) := by rw [show (6 : Int32) = nI 6 from rfl, pk_mul, nI_add]
  rw [e]
  exact vp_in_nI (by omega) (by omega)
theorem ix6' {p x : Int32} (ha : vp_in p 6) (hx : vp_in x 6) : vp_in (6 * p + x) 36 := by
  obtain ⟨i, hi, rfl⟩ := vp_in_of hx (by omega)
  exact ix6 ha hi
def ml_ok (F S : Nat) (s : Sg) (p a : Int32) : Prop := vp_in (6 * p + a / 4) 36 ∧ (0 ≤ sg_pg s (ix (6 * p + a / 4)) → mb_ok F S s (sg_pg s (ix (6 * p + a / 4))) ∧ vp_in (sg_pg s (ix (6 * p + a / 4))) 18 ∧ vp_in (sg_li (m_bringIn F S s (sg_pg s (ix (6 * p + a / 4)))) (ix (sg_pg s (ix (6 * p + a / 4))))) 8 ∧ vp_in (4 * sg_pg s (ix (6 * p + a / 4)) + (a - a / 4 * 4)) 72)
def ms_ok (F S : Nat) (s : Sg) (p a : Int32) : Prop := vp_in (6 * p + a / 4) 36 ∧ (m_needs (sg_pg s) p a = 0 → mb_ok F S s (sg_pg s (ix (6 * p + a / 4)))) ∧ (¬ m_needs (sg_pg s) p a = 0 → mm_ok F S s (6 * p + a / 4) (sg_pg s (ix (6 * p + a / 4)))) ∧
  vp_in (sg_pg (m_sto1 F S s p a) (ix (6 * p + a / 4))) 18 ∧ vp_in (sg_li (m_sto1 F S s p a) (ix (sg_pg (m_sto1 F S s p a) (ix (6 * p + a / 4))))) 8 ∧ vp_in (4 * sg_pg (m_sto1 F S s p a) (ix (6 * p + a / 4)) + (a - a / 4 * 4)) 72
def mx_ok (p : Int32) : Nat → Nat → Sg → Prop
  | 0, _, _ => True
  | n + 1, g, s => me_ok s (6 * p + nI g) ∧ mx_ok p n (g + 1) (m_empty s (6 * p + nI g)).2

set_option maxHeartbeats 4000000 in
set_option maxRecDepth 100000 in
/-- T_spawn -/
theorem c_T_spawn (l : Launch) (D : va_G) (tI tZ tA tJ : ClassId) (b : Nat → Nat) (F S sz : Nat) (tw : Int32) (g : Sg)  : ob_M l y_T_spawn w_T_spawn ({ frames := 1, cells := 0, slots := 0, locals := 21 }) (pW D tI tZ tA tJ [.ref (b 0)] (tW b F S tI tZ tw g) sz (True)) (ob_qW D vcl (some (.int ((m_spawn g).1))) (tW b F S tI tZ ((m_spawn g).2.1) ((m_spawn g).2.2)) (va_A (tW b F S tI tZ tw g) sz)) 0 0 (va_A (tW b F S tI tZ tw g) sz) := by
  refine ob_ofW (by decide +kernel) ?_
  intro p e s m args below meth c s₁ B hml htab hv
  obtain ⟨rfl, hT, -, hsz, hP, hD0⟩ := hv
  have hx := B.exec
  have hb := B.bytes
  have hr := B.returns
  have hlocks := B.notSynchronized
  have hown : s.vm.findClass R_T = some m.cls := findClass_of_methodNamed B.named
  have hl := lv_entry ([.ref (b 0)]) (n := 2) (Nat.le_of_ble_eq_true rfl)
  rw [lg_entry_eq]
  generalize (lg_sl ([.ref (b 0)]) ++ List.replicate (2 - (lg_sl ([.ref (b 0)])).length) Slot.unset).toArray = ls at hl ⊢
  have hl : lv_has ls 2 [(0, .ref (b 0))] := hl
  subst hsz
  have hD := hD0.self (sz := s.heap.size)
  generalize hAe : va_A (tW b F S tI tZ tw g) s.heap.size = A at hD ⊢
  have hA : ∀ q : Nat, s.heap.size ≤ q → A q := fun q h => by rw [← hAe]; exact Or.inr h
  have hS : va_S A s.heap s.heap [] := va_S.rf
  refine lv_aload_n hx hb d_T_spawn_0 rfl (lv_at hl 0 rfl) ?_
  refine ob_callR (v := (some (.int (m_lowP (sg_th g) 6 0)))) (ob_runV (n := 0) (As := []) (rest := []) (c_T_lowestProcess l D tI tZ tA tJ b F S tw g) (hT.ok ob_cd_c (by decide +kernel) rfl rfl (Nat.le_of_ble_eq_true rfl) (Nat.le_of_ble_eq_true rfl) kn_T kc_T_lowestProcess) hx hb hml hown (hT.w k_T_65) (hT.w ki_T_lowestProcess) (hT.w kv_T_lowestProcess) (va_recv (q0 := 0) (ci := 2) hT.1 hP rfl rfl) pR.blind (pR.at hT (trivial) hP) rfl rfl hl.1 rfl (lv_room (Nat.le_of_ble_eq_true rfl)) d_T_spawn_1 ⟨Nat.le_of_ble_eq_true rfl, Nat.le_of_ble_eq_true rfl⟩) ?_
  refine W.eq (g2 := F0 m 4 ls [.int (m_lowP (sg_th g) 6 0)]) rfl ?_
  refine lv_istore_n (lv' := [(1, .int (m_lowP (sg_th g) 6 0)), (0, .ref (b 0))]) hx hb d_T_spawn_4 rfl hl (by decide) rfl (fun ls hl => ?_)
  refine lv_aload_n hx hb d_T_spawn_5 rfl (lv_at hl 1 rfl) ?_
  refine lv_iload_n hx hb d_T_spawn_6 rfl (lv_at hl 0 rfl) ?_
  refine lv_if_ge (tgt := 14) hx hb d_T_spawn_7 (by decide) (fun hc => ?_) (fun hc => ?_)
  · have e1 : m_spawn g = (m_lowP (sg_th g) 6 0, 0, su_th g (upd (sg_th g) (ix (m_lowP (sg_th g) 6 0)) 1)) := if_pos hc
    rw [e1]
    have hin := m_lowP_in hc
    refine lv_iconst (v := 0) hx hb d_T_spawn_14 (by decide) ?_
    refine va_put (D := D) (ci := 2) (v := .int 0) (ty := .int) hx hb hT.lays ly_T ty_T ty_T_ok n_T hown hT.1 hP hD hS 0 rfl rfl 0 (by decide) (hT.w k_T_33) (fun _ h => h) rfl (by decide +kernel) rfl rfl (Nat.le_of_ble_eq_true rfl) d_T_spawn_15 (fun H locs hP hD hS => ?_)
    have hP : va_P D vcl (tW b F S tI tZ 0 g) H := hP
    have hD : va_D A (tW b F S tI tZ 0 g) := hD
    refine lv_aload_n hx hb d_T_spawn_18 rfl (lv_at hl 1 rfl) ?_
    refine va_get (D := D) (ci := 2) (v := .int 0) hx hb hT.lays ly_T hown hT.1 hP 0 rfl rfl 0 (by decide) (hT.w k_T_33) (fun _ h => h) rfl d_T_spawn_19 ?_
    refine lv_if_le (tgt := 27) hx hb d_T_spawn_22 (by decide) (fun hc => ?_) (fun hc => absurd (by decide) hc)
    refine lv_aload_n hx hb d_T_spawn_27 rfl (lv_at hl 1 rfl) ?_
    refine va_get (D := D) (ci := 2) (v := .ref (b 4)) hx hb hT.lays ly_T hown hT.1 hP 0 rfl rfl 7 (by decide) (hT.w k_T_20) (fun _ h => h) rfl d_T_spawn_28 ?_
    refine lv_iload_n hx hb d_T_spawn_31 rfl (lv_at hl 0 rfl) ?_
    refine lv_iconst (v := 1) hx hb d_T_spawn_32 (by decide) ?_
    refine va_zast hx hb hT.1 hP hD hS 4 1 rfl rfl (hin) d_T_spawn_33 (fun H locs hP hD hS => ?_)
    rw [nar1] at hP hD
    have hP : va_P D vcl (tW b F S tI tZ 0 (su_th g (upd (sg_th g) (ix (m_lowP (sg_th g) 6 0)) 1))) H := hP
    have hD : va_D A (tW b F S tI tZ 0 (su_th g (upd (sg_th g) (ix (m_lowP (sg_th g) 6 0)) 1))) := hD
    refine lv_iload_n hx hb d_T_spawn_34 rfl (lv_at hl 0 rfl) ?_
    refine ob_iret hlocks hx hb hr d_T_spawn_35 hS.2.2 (fun t ht hW => ?_)
    exact ⟨rfl, by rw [ht]; exact hP, hD, hS.F ht⟩
  · have e1 : m_spawn g = (0, 1, g) := if_neg hc
    rw [e1]
    refine lv_iconst (v := 1) hx hb d_T_spawn_10 (by decide) ?_
    refine lv_goto (tgt := 15) hx hb d_T_spawn_11 (by decide) ?_
    refine va_put (D := D) (ci := 2) (v := .int 1) (ty := .int) hx hb hT.lays ly_T ty_T ty_T_ok n_T hown hT.1 hP hD hS 0 rfl rfl 0 (by decide) (hT.w k_T_33) (fun _ h => h) rfl (by decide +kernel) rfl rfl (Nat.le_of_ble_eq_true rfl) d_T_spawn_15 (fun H locs hP hD hS => ?_)
    have hP : va_P D vcl (tW b F S tI tZ 1 g) H := hP
    have hD : va_D A (tW b F S tI tZ 1 g) := hD
    refine lv_aload_n hx hb d_T_spawn_18 rfl (lv_at hl 1 rfl) ?_
    refine va_get (D := D) (ci := 2) (v := .int 1) hx hb hT.lays ly_T hown hT.1 hP 0 rfl rfl 0 (by decide) (hT.w k_T_33) (fun _ h => h) rfl d_T_spawn_19 ?_
    refine lv_if_le (tgt := 27) hx hb d_T_spawn_22 (by decide) (fun hc => absurd hc (by decide)) (fun hc => ?_)
    refine lv_iconst (v := 0) hx hb d_T_spawn_25 (by decide) ?_
    refine ob_iret hlocks hx hb hr d_T_spawn_26 hS.2.2 (fun t ht hW => ?_)
    exact ⟨rfl, by rw [ht]; exact hP, hD, hS.F ht⟩

set_option maxHeartbeats 4000000 in
set_option maxRecDepth 100000 in
/-- T_fork -/
theorem c_T_fork (l : Launch) (D : va_G) (tI tZ tA tJ : ClassId) (b : Nat → Nat) (F S sz : Nat) (tw : Int32) (g : Sg) (p0 : Int32) : ob_M l y_T_fork w_T_fork ({ frames := 1, cells := 0, slots := 0, locals := 21 }) (pW D tI tZ tA tJ [.ref (b 0), .int p0] (tW b F S tI tZ tw g) sz (True)) (ob_qW D vcl (some (.int ((m_fork g p0).1))) (tW b F S tI tZ ((m_fork g p0).2.1) ((m_fork g p0).2.2)) (va_A (tW b F S tI tZ tw g) sz)) 0 0 (va_A (tW b F S tI tZ tw g) sz) := by
  refine ob_ofW (by decide +kernel) ?_
  intro p e s m args below meth c s₁ B hml htab hv
  obtain ⟨rfl, hT, -, hsz, hP, hD0⟩ := hv
  have hx := B.exec
  have hb := B.bytes
  have hr := B.returns
  have hlocks := B.notSynchronized
  have hown : s.vm.findClass R_T = some m.cls := findClass_of_methodNamed B.named
  have hl := lv_entry ([.ref (b 0), .int p0]) (n := 4) (Nat.le_of_ble_eq_true rfl)
  rw [lg_entry_eq]
  generalize (lg_sl ([.ref (b 0), .int p0]) ++ List.replicate (4 - (lg_sl ([.ref (b 0), .int p0])).length) Slot.unset).toArray = ls at hl ⊢
  have hl : lv_has ls 4 [(0, .ref (b 0)), (1, .int p0)] := hl
  subst hsz
  have hD := hD0.self (sz := s.heap.size)
  generalize hAe : va_A (tW b F S tI tZ tw g) s.heap.size = A at hD ⊢
  have hA : ∀ q : Nat, s.heap.size ≤ q → A q := fun q h => by rw [← hAe]; exact Or.inr h
  have hS : va_S A s.heap s.heap [] := va_S.rf
  refine lv_aload_n hx hb d_T_fork_0 rfl (lv_at hl 0 rfl) ?_
  refine ob_callR (v := (some (.int (m_lowP (sg_th g) 6 0)))) (ob_runV (n := 0) (As := []) (rest := []) (c_T_lowestProcess l D tI tZ tA tJ b F S tw g) (hT.ok ob_cd_c (by decide +kernel) rfl rfl (Nat.le_of_ble_eq_true rfl) (Nat.le_of_ble_eq_true rfl) kn_T kc_T_lowestProcess) hx hb hml hown (hT.w k_T_65) (hT.w ki_T_lowestProcess) (hT.w kv_T_lowestProcess) (va_recv (q0 := 0) (ci := 2) hT.1 hP rfl rfl) pR.blind (pR.at hT (trivial) hP) rfl rfl hl.1 rfl (lv_room (Nat.le_of_ble_eq_true rfl)) d_T_fork_1 ⟨Nat.le_of_ble_eq_true rfl, Nat.le_of_ble_eq_true rfl⟩) ?_
  refine W.eq (g2 := F0 m 4 ls [.int (m_lowP (sg_th g) 6 0)]) rfl ?_
  refine lv_istore_n (lv' := [(2, .int (m_lowP (sg_th g) 6 0)), (0, .ref (b 0)), (1, .int p0)]) hx hb d_T_fork_4 rfl hl (by decide) rfl (fun ls hl => ?_)
  refine lv_aload_n hx hb d_T_fork_5 rfl (lv_at hl 1 rfl) ?_
  refine lv_aload_n hx hb d_T_fork_6 rfl (lv_at hl 1 rfl) ?_
  refine lv_iload_n hx hb d_T_fork_7 rfl (lv_at hl 2 rfl) ?_
  refine ob_callR (v := (some (.int (m_isP (sg_th g) p0)))) (ob_runV (n := 1) (As := [.int p0]) (rest := [.ref (b 0)]) (c_T_isProcess l D tI tZ tA tJ b F S tw g p0) (hT.ok ob_cd_c (by decide +kernel) rfl rfl (Nat.le_of_ble_eq_true rfl) (Nat.le_of_ble_eq_true rfl) kn_T kc_T_isProcess) hx hb hml hown (hT.w k_T_68) (hT.w ki_T_isProcess) (hT.w kv_T_isProcess) (va_recv (q0 := 0) (ci := 2) hT.1 hP rfl rfl) pR.blind (pR.at hT (trivial) hP) rfl rfl hl.1 rfl (lv_room (Nat.le_of_ble_eq_true rfl)) d_T_fork_8 ⟨Nat.le_of_ble_eq_true rfl, Nat.le_of_ble_eq_true rfl⟩) ?_
  refine W.eq (g2 := F0 m 11 ls [.int (m_isP (sg_th g) p0), .ref (b 0)]) rfl ?_
  refine lv_if_ne (tgt := 18) hx hb d_T_fork_11 (by decide) (fun hc => ?_) (fun hc => ?_)
  · have hc0 := hc
    have hp6 := m_isP_in hc
    refine lv_iload_n hx hb d_T_fork_18 rfl (lv_at hl 0 rfl) ?_
    refine lv_if_ge (tgt := 26) hx hb d_T_fork_19 (by decide) (fun hc => ?_) (fun hc => ?_)
    · have hin := m_lowP_in hc
      have e1 : m_fork g p0 = (m_lowP (sg_th g) 6 0, 0, su_pg (su_th g (upd (sg_th g) (ix (m_lowP (sg_th g) 6 0)) 1)) (m_forkL p0 (m_lowP (sg_th g) 6 0) 6 0 (sg_pg g))) := by unfold m_fork; rw [if_neg hc0, if_pos hc]
      rw [e1]
      refine lv_iconst (v := 0) hx hb d_T_fork_26 (by decide) ?_
      refine va_put (D := D) (ci := 2) (v := .int 0) (ty := .int) hx hb hT.lays ly_T ty_T ty_T_ok n_T hown hT.1 hP hD hS 0 rfl rfl 0 (by decide) (hT.w k_T_33) (fun _ h => h) rfl (by decide +kernel) rfl rfl (Nat.le_of_ble_eq_true rfl) d_T_fork_27 (fun H locs hP hD hS => ?_)
      have hP : va_P D vcl (tW b F S tI tZ 0 g) H := hP
      have hD : va_D A (tW b F S tI tZ 0 g) := hD
      refine lv_aload_n hx hb d_T_fork_30 rfl (lv_at hl 1 rfl) ?_
      refine va_get (D := D) (ci := 2) (v := .int 0) hx hb hT.lays ly_T hown hT.1 hP 0 rfl rfl 0 (by decide) (hT.w k_T_33) (fun _ h => h) rfl d_T_fork_31 ?_
      refine lv_if_le (tgt := 39) hx hb d_T_fork_34 (by decide) (fun hc => ?_) (fun hc => absurd (by decide) hc)
      refine lv_aload_n hx hb d_T_fork_39 rfl (lv_at hl 1 rfl) ?_
      refine va_get (D := D) (ci := 2) (v := .ref (b 4)) hx hb hT.lays ly_T hown hT.1 hP 0 rfl rfl 7 (by decide) (hT.w k_T_20) (fun _ h => h) rfl d_T_fork_40 ?_
      refine lv_iload_n hx hb d_T_fork_43 rfl (lv_at hl 0 rfl) ?_
      refine lv_iconst (v := 1) hx hb d_T_fork_44 (by decide) ?_
      refine va_zast hx hb hT.1 hP hD hS 4 1 rfl rfl (hin) d_T_fork_45 (fun H locs hP hD hS => ?_)
      rw [nar1] at hP hD
      have hP : va_P D vcl (tW b F S tI tZ 0 (su_th g (upd (sg_th g) (ix (m_lowP (sg_th g) 6 0)) 1))) H := hP
      have hD : va_D A (tW b F S tI tZ 0 (su_th g (upd (sg_th g) (ix (m_lowP (sg_th g) 6 0)) 1))) := hD
      refine lv_iconst (v := 0) hx hb d_T_fork_46 (by decide) ?_
      refine lv_istore_n (lv' := [(3, .int 0), (2, .int (m_lowP (sg_th g) 6 0)), (0, .ref (b 0)), (1, .int p0)]) hx hb d_T_fork_47 rfl hl (by decide) rfl (fun ls hl => ?_)
      have loop : ∀ (n i : Nat) (q : Nat → Int32) (ls : Array Slot) (H : Heap) (locs : List Loc), i + n = 6 → m_forkL p0 (m_lowP (sg_th g) 6 0) n i q = m_forkL p0 (m_lowP (sg_th g) 6 0) 6 0 (sg_pg g) → lv_has ls 4 [(3, .int (nI i)), (2, .int (m_lowP (sg_th g) 6 0)), (0, .ref (b 0)), (1, .int p0)] → va_P D vcl (tW b F S tI tZ 0 (su_pg (su_th g (upd (sg_th g) (ix (m_lowP (sg_th g) 6 0)) 1)) q)) H → va_D A (tW b F S tI tZ 0 (su_pg (su_th g (upd (sg_th g) (ix (m_lowP (sg_th g) 6 0)) 1)) q)) → va_S A s.heap H locs → W p l e ({ frames := 1, cells := 0, slots := 0, locals := 21 } : Room) s m ([.ref (b 0), .int p0] : List Value).toArray below meth c H locs 0 0 (ob_Q below (ob_qW D vcl (some (.int (m_lowP (sg_th g) 6 0))) (tW b F S tI tZ 0 (su_pg (su_th g (upd (sg_th g) (ix (m_lowP (sg_th g) 6 0)) 1)) (m_forkL p0 (m_lowP (sg_th g) 6 0) 6 0 (sg_pg g)))) A) ([.ref (b 0), .int p0] : List Value).toArray s 0 0 A) (F0 m 48 ls []) := by
        intro n
        induction n with
        | zero =>
          intro i q ls H locs hi hR hl hP hD hS
          refine lv_iload_n hx hb d_T_fork_48 rfl (lv_at hl 0 rfl) ?_
          refine lv_bipush (v := 6) hx hb d_T_fork_49 (by decide) ?_
          refine lv_icmp_ge (tgt := 82) hx hb d_T_fork_51 (by decide) (fun hc => ?_) (fun hc => absurd (nI_le (a := 6) (by omega) (by omega)) hc)
          have e2 : q = m_forkL p0 (m_lowP (sg_th g) 6 0) 6 0 (sg_pg g) := hR
          rw [e2] at hP hD
          refine lv_iload_n hx hb d_T_fork_82 rfl (lv_at hl 1 rfl) ?_
          refine ob_iret hlocks hx hb hr d_T_fork_83 hS.2.2 (fun t ht hW => ?_)
          exact ⟨rfl, by rw [ht]; exact hP, hD, hS.F ht⟩
        | succ n ih =>
          intro i q ls H locs hi hR hl hP hD hS
          refine lv_iload_n hx hb d_T_fork_48 rfl (lv_at hl 0 rfl) ?_
          refine lv_bipush (v := 6) hx hb d_T_fork_49 (by decide) ?_
          refine lv_icmp_ge (tgt := 82) hx hb d_T_fork_51 (by decide) (fun hc => absurd hc (nI_ge (b := 6) (by omega) (by omega))) (fun hc => ?_)
          have e3 : m_forkL p0 (m_lowP (sg_th g) 6 0) (n + 1) i q = m_forkL p0 (m_lowP (sg_th g) 6 0) n (i + 1) (upd q (ix (6 * (m_lowP (sg_th g) 6 0) + nI i)) (q (ix (6 * p0 + nI i)))) := rfl
          rw [e3] at hR
          refine lv_aload_n hx hb d_T_fork_54 rfl (lv_at hl 2 rfl) ?_
          refine va_get (D := D) (ci := 2) (v := .ref (b 5)) hx hb hT.lays ly_T hown hT.1 hP 0 rfl rfl 8 (by decide) (hT.w k_T_23) (fun _ h => h) rfl d_T_fork_55 ?_
          refine lv_bipush (v := 6) hx hb d_T_fork_58 (by decide) ?_
          refine lv_iload_n hx hb d_T_fork_60 rfl (lv_at hl 1 rfl) ?_
          refine lv_imul hx hb d_T_fork_61 ?_
          refine lv_iload_n hx hb d_T_fork_62 rfl (lv_at hl 0 rfl) ?_
          refine lv_iadd hx hb d_T_fork_63 ?_
          refine lv_aload_n hx hb d_T_fork_64 rfl (lv_at hl 2 rfl) ?_
          refine va_get (D := D) (ci := 2) (v := .ref (b 5)) hx hb hT.lays ly_T hown hT.1 hP 0 rfl rfl 8 (by decide) (hT.w k_T_23) (fun _ h => h) rfl d_T_fork_65 ?_
          refine lv_bipush (v := 6) hx hb d_T_fork_68 (by decide) ?_
          refine lv_iload_n hx hb d_T_fork_70 rfl (lv_at hl 3 rfl) ?_
          refine lv_imul hx hb d_T_fork_71 ?_
          refine lv_iload_n hx hb d_T_fork_72 rfl (lv_at hl 0 rfl) ?_
          refine lv_iadd hx hb d_T_fork_73 ?_
          refine va_iald hx hb hT.1 hP 5 0 rfl rfl (ix6 hp6 (by omega)) d_T_fork_74 ?_
          refine va_iast hx hb hT.1 hP hD hS 5 0 rfl rfl (ix6 hin (by omega)) d_T_fork_75 (fun H locs hP hD hS => ?_)
          have hP : va_P D vcl (tW b F S tI tZ 0 (su_pg (su_th g (upd (sg_th g) (ix (m_lowP (sg_th g) 6 0)) 1)) (upd q (ix (6 * (m_lowP (sg_th g) 6 0) + nI i)) (q (ix (6 * p0 + nI i)))))) H := hP
          have hD : va_D A (tW b F S tI tZ 0 (su_pg (su_th g (upd (sg_th g) (ix (m_lowP (sg_th g) 6 0)) 1)) (upd q (ix (6 * (m_lowP (sg_th g) 6 0) + nI i)) (q (ix (6 * p0 + nI i)))))) := hD
          refine lv_iinc (k := 0) (v := nI (i + 1)) (lv' := [(3, .int (nI (i + 1))), (2, .int (m_lowP (sg_th g) 6 0)), (0, .ref (b 0)), (1, .int p0)]) hx hb d_T_fork_76 hl rfl (nI_1 i) (by decide) rfl (fun ls hl => ?_)
          refine lv_goto (tgt := 48) hx hb d_T_fork_79 (by decide) ?_
          exact ih (i + 1) _ ls H locs (by omega) hR hl hP hD hS
      exact loop 6 0 (sg_pg g) ls H locs rfl rfl hl hP hD hS
    · have e1 : m_fork g p0 = (0, 2, g) := by unfold m_fork; rw [if_neg hc0, if_neg hc]
      rw [e1]
      refine lv_iconst (v := 2) hx hb d_T_fork_22 (by decide) ?_
      refine lv_goto (tgt := 27) hx hb d_T_fork_23 (by decide) ?_
      refine va_put (D := D) (ci := 2) (v := .int 2) (ty := .int) hx hb hT.lays ly_T ty_T ty_T_ok n_T hown hT.1 hP hD hS 0 rfl rfl 0 (by decide) (hT.w k_T_33) (fun _ h => h) rfl (by decide +kernel) rfl rfl (Nat.le_of_ble_eq_true rfl) d_T_fork_27 (fun H locs hP hD hS => ?_)
      have hP : va_P D vcl (tW b F S tI tZ 2 g) H := hP
      have hD : va_D A (tW b F S tI tZ 2 g) := hD
      refine lv_aload_n hx hb d_T_fork_30 rfl (lv_at hl 1 rfl) ?_
      refine va_get (D := D) (ci := 2) (v := .int 2) hx hb hT.lays ly_T hown hT.1 hP 0 rfl rfl 0 (by decide) (hT.w k_T_33) (fun _ h => h) rfl d_T_fork_31 ?_
      refine lv_if_le (tgt := 39) hx hb d_T_fork_34 (by decide) (fun hc => absurd hc (by decide)) (fun hc => ?_)
      refine lv_iconst (v := 0) hx hb d_T_fork_37 (by decide) ?_
      refine ob_iret hlocks hx hb hr d_T_fork_38 hS.2.2 (fun t ht hW => ?_)
      exact ⟨rfl, by rw [ht]; exact hP, hD, hS.F ht⟩
  · have e1 : m_fork g p0 = (0, 1, g) := if_pos hc
    rw [e1]
    refine lv_iconst (v := 1) hx hb d_T_fork_14 (by decide) ?_
    refine lv_goto (tgt := 27) hx hb d_T_fork_15 (by decide) ?_
    refine va_put (D := D) (ci := 2) (v := .int 1) (ty := .int) hx hb hT.lays ly_T ty_T ty_T_ok n_T hown hT.1 hP hD hS 0 rfl rfl 0 (by decide) (hT.w k_T_33) (fun _ h => h) rfl (by decide +kernel) rfl rfl (Nat.le_of_ble_eq_true rfl) d_T_fork_27 (fun H locs hP hD hS => ?_)
    have hP : va_P D vcl (tW b F S tI tZ 1 g) H := hP
    have hD : va_D A (tW b F S tI tZ 1 g) := hD
    refine lv_aload_n hx hb d_T_fork_30 rfl (lv_at hl 1 rfl) ?_
    refine va_get (D := D) (ci := 2) (v := .int 1) hx hb hT.lays ly_T hown hT.1 hP 0 rfl rfl 0 (by decide) (hT.w k_T_33) (fun _ h => h) rfl d_T_fork_31 ?_
    refine lv_if_le (tgt := 39) hx hb d_T_fork_34 (by decide) (fun hc => absurd hc (by decide)) (fun hc => ?_)
    refine lv_iconst (v := 0) hx hb d_T_fork_37 (by decide) ?_
    refine ob_iret hlocks hx hb hr d_T_fork_38 hS.2.2 (fun t ht hW => ?_)
    exact ⟨rfl, by rw [ht]; exact hP, hD, hS.F ht⟩

set_option maxHeartbeats 4000000 in
set_option maxRecDepth 100000 in
/-- T_exit -/
theorem c_T_exit (l : Launch) (D : va_G) (tI tZ tA tJ : ClassId) (b : Nat → Nat) (F S sz : Nat) (tw : Int32) (g : Sg) (p0 : Int32) : ob_M l y_T_exit w_T_exit ({ frames := 2, cells := 0, slots := 0, locals := 45 }) (pW D tI tZ tA tJ [.ref (b 0), .int p0] (tW b F S tI tZ tw g) sz (¬ m_isP (sg_th g) p0 = 0 → mx_ok p0 6 0 (su_th g (upd (sg_th g) (ix p0) 0)))) (ob_qW D vcl (some (.int ((m_exit g p0).1))) (tW b F S tI tZ ((m_exit g p0).2.1) ((m_exit g p0).2.2)) (va_A (tW b F S tI tZ tw g) sz)) 0 0 (va_A (tW b F S tI tZ tw g) sz) := by
  refine ob_ofW (by decide +kernel) ?_
  intro p e s m args below meth c s₁ B hml htab hv
  obtain ⟨rfl, hT, hq, hsz, hP, hD0⟩ := hv
  have hx := B.exec
  have hb := B.bytes
  have hr := B.returns
  have hlocks := B.notSynchronized
  have hown : s.vm.findClass R_T = some m.cls := findClass_of_methodNamed B.named
  have hl := lv_entry ([.ref (b 0), .int p0]) (n := 4) (Nat.le_of_ble_eq_true rfl)
  rw [lg_entry_eq]
  generalize (lg_sl ([.ref (b 0), .int p0]) ++ List.replicate (4 - (lg_sl ([.ref (b 0), .int p0])).length) Slot.unset).toArray = ls at hl ⊢
  have hl : lv_has ls 4 [(0, .ref (b 0)), (1, .int p0)] := hl
  subst hsz
  have hD := hD0.self (sz := s.heap.size)
  generalize hAe : va_A (tW b F S tI tZ tw g) s.heap.size = A at hD ⊢
  have hA : ∀ q : Nat, s.heap.size ≤ q → A q := fun q h => by rw [← hAe]; exact Or.inr h
  have hS : va_S A s.heap s.heap [] := va_S.rf
  refine lv_aload_n hx hb d_T_exit_0 rfl (lv_at hl 0 rfl) ?_
  refine lv_aload_n hx hb d_T_exit_1 rfl (lv_at hl 0 rfl) ?_
  refine lv_iload_n hx hb d_T_exit_2 rfl (lv_at hl 1 rfl) ?_
  refine ob_callR (v := (some (.int (m_isP (sg_th g) p0)))) (ob_runV (n := 1) (As := [.int p0]) (rest := [.ref (b 0)]) (c_T_isProcess l D tI tZ tA tJ b F S tw g p0) (hT.ok ob_cd_c (by decide +kernel) rfl rfl (Nat.le_of_ble_eq_true rfl) (Nat.le_of_ble_eq_true rfl) kn_T kc_T_isProcess) hx hb hml hown (hT.w k_T_68) (hT.w ki_T_isProcess) (hT.w kv_T_isProcess) (va_recv (q0 := 0) (ci := 2) hT.1 hP rfl rfl) pR.blind (pR.at hT (trivial) hP) rfl rfl hl.1 rfl (lv_room (Nat.le_of_ble_eq_true rfl)) d_T_exit_3 ⟨Nat.le_of_ble_eq_true rfl, Nat.le_of_ble_eq_true rfl⟩) ?_
  refine W.eq (g2 := F0 m 6 ls [.int (m_isP (sg_th g) p0), .ref (b 0)]) rfl ?_
  refine lv_if_eq (tgt := 13) hx hb d_T_exit_6 (by decide) (fun hc => ?_) (fun hc => ?_)
  · have e1 : m_exit g p0 = (0, 1, g) := if_pos hc
    rw [e1]
    refine lv_iconst (v := 1) hx hb d_T_exit_13 (by decide) ?_
    refine va_put (D := D) (ci := 2) (v := .int 1) (ty := .int) hx hb hT.lays ly_T ty_T ty_T_ok n_T hown hT.1 hP hD hS 0 rfl rfl 0 (by decide) (hT.w k_T_33) (fun _ h => h) rfl (by decide +kernel) rfl rfl (Nat.le_of_ble_eq_true rfl) d_T_exit_14 (fun H locs hP hD hS => ?_)
    have hP : va_P D vcl (tW b F S tI tZ 1 g) H := hP
    have hD : va_D A (tW b F S tI tZ 1 g) := hD
    refine lv_aload_n hx hb d_T_exit_17 rfl (lv_at hl 0 rfl) ?_
    refine va_get (D := D) (ci := 2) (v := .int 1) hx hb hT.lays ly_T hown hT.1 hP 0 rfl rfl 0 (by decide) (hT.w k_T_33) (fun _ h => h) rfl d_T_exit_18 ?_
    refine lv_if_le (tgt := 26) hx hb d_T_exit_21 (by decide) (fun hc => absurd hc (by decide)) (fun hc => ?_)
    refine lv_iconst (v := 0) hx hb d_T_exit_24 (by decide) ?_
    refine ob_iret hlocks hx hb hr d_T_exit_25 hS.2.2 (fun t ht hW => ?_)
    exact ⟨rfl, by rw [ht]; exact hP, hD, hS.F ht⟩
  · have hp6 := m_isP_in hc
    have hok := hq hc
    have e1 : m_exit g p0 = ((m_exitL p0 6 0 0 (su_th g (upd (sg_th g) (ix p0) 0))).1, 0, (m_exitL p0 6 0 0 (su_th g (upd (sg_th g) (ix p0) 0))).2) := if_neg hc
    rw [show (m_exit g p0).1 = (m_exitL p0 6 0 0 (su_th g (upd (sg_th g) (ix p0) 0))).1 by rw [e1], show (m_exit g p0).2.1 = 0 by rw [e1], show (m_exit g p0).2.2 = (m_exitL p0 6 0 0 (su_th g (upd (sg_th g) (ix p0) 0))).2 by rw [e1]]
    refine lv_iconst (v := 0) hx hb d_T_exit_9 (by decide) ?_
    refine lv_goto (tgt := 14) hx hb d_T_exit_10 (by decide) ?_
    refine va_put (D := D) (ci := 2) (v := .int 0) (ty := .int) hx hb hT.lays ly_T ty_T ty_T_ok n_T hown hT.1 hP hD hS 0 rfl rfl 0 (by decide) (hT.w k_T_33) (fun _ h => h) rfl (by decide +kernel) rfl rfl (Nat.le_of_ble_eq_true rfl) d_T_exit_14 (fun H locs hP hD hS => ?_)
    have hP : va_P D vcl (tW b F S tI tZ 0 g) H := hP
    have hD : va_D A (tW b F S tI tZ 0 g) := hD
    refine lv_aload_n hx hb d_T_exit_17 rfl (lv_at hl 0 rfl) ?_
    refine va_get (D := D) (ci := 2) (v := .int 0) hx hb hT.lays ly_T hown hT.1 hP 0 rfl rfl 0 (by decide) (hT.w k_T_33) (fun _ h => h) rfl d_T_exit_18 ?_
    refine lv_if_le (tgt := 26) hx hb d_T_exit_21 (by decide) (fun hc => ?_) (fun hc => absurd (by decide) hc)
    refine lv_aload_n hx hb d_T_exit_26 rfl (lv_at hl 0 rfl) ?_
    refine va_get (D := D) (ci := 2) (v := .ref (b 4)) hx hb hT.lays ly_T hown hT.1 hP 0 rfl rfl 7 (by decide) (hT.w k_T_20) (fun _ h => h) rfl d_T_exit_27 ?_
    refine lv_iload_n hx hb d_T_exit_30 rfl (lv_at hl 1 rfl) ?_
    refine lv_iconst (v := 0) hx hb d_T_exit_31 (by decide) ?_
    refine va_zast hx hb hT.1 hP hD hS 4 1 rfl rfl (hp6) d_T_exit_32 (fun H locs hP hD hS => ?_)
    rw [nar0] at hP hD
    have hP : va_P D vcl (tW b F S tI tZ 0 (su_th g (upd (sg_th g) (ix p0) 0))) H := hP
    have hD : va_D A (tW b F S tI tZ 0 (su_th g (upd (sg_th g) (ix p0) 0))) := hD
    refine lv_iconst (v := 0) hx hb d_T_exit_33 (by decide) ?_
    refine lv_istore_n (lv' := [(2, .int 0), (0, .ref (b 0)), (1, .int p0)]) hx hb d_T_exit_34 rfl hl (by decide) rfl (fun ls hl => ?_)
    refine lv_iconst (v := 0) hx hb d_T_exit_35 (by decide) ?_
    refine lv_istore_n (lv' := [(3, .int 0), (2, .int 0), (0, .ref (b 0)), (1, .int p0)]) hx hb d_T_exit_36 rfl hl (by decide) rfl (fun ls hl => ?_)
    have loop : ∀ (n i : Nat) (x : Int32) (q : Sg) (ls : Array Slot) (H : Heap) (locs : List Loc), i + n = 6 → m_exitL p0 n i x q = m_exitL p0 6 0 0 (su_th g (upd (sg_th g) (ix p0) 0)) → mx_ok p0 n i q → lv_has ls 4 [(3, .int (nI i)), (2, .int x), (0, .ref (b 0)), (1, .int p0)] → va_P D vcl (tW b F S tI tZ 0 q) H → va_D A (tW b F S tI tZ 0 q) → va_S A s.heap H locs → W p l e ({ frames := 2, cells := 0, slots := 0, locals := 45 } : Room) s m ([.ref (b 0), .int p0] : List Value).toArray below meth c H locs 0 0 (ob_Q below (ob_qW D vcl (some (.int (m_exitL p0 6 0 0 (su_th g (upd (sg_th g) (ix p0) 0))).1)) (tW b F S tI tZ 0 ((m_exitL p0 6 0 0 (su_th g (upd (sg_th g) (ix p0) 0))).2)) A) ([.ref (b 0), .int p0] : List Value).toArray s 0 0 A) (F0 m 37 ls []) := by
      intro n
      induction n with
      | zero =>
        intro i x q ls H locs hi hR hok hl hP hD hS
        refine lv_iload_n hx hb d_T_exit_37 rfl (lv_at hl 0 rfl) ?_
        refine lv_bipush (v := 6) hx hb d_T_exit_38 (by decide) ?_
        refine lv_icmp_ge (tgt := 70) hx hb d_T_exit_40 (by decide) (fun hc => ?_) (fun hc => absurd (nI_le (a := 6) (by omega) (by omega)) hc)
        rw [← hR]
        refine lv_iload_n hx hb d_T_exit_70 rfl (lv_at hl 1 rfl) ?_
        refine ob_iret hlocks hx hb hr d_T_exit_71 hS.2.2 (fun t ht hW => ?_)
        exact ⟨rfl, by rw [ht]; exact hP, hD, hS.F ht⟩
      | succ n ih =>
        intro i x q ls H locs hi hR hok hl hP hD hS
        refine lv_iload_n hx hb d_T_exit_37 rfl (lv_at hl 0 rfl) ?_
        refine lv_bipush (v := 6) hx hb d_T_exit_38 (by decide) ?_
        refine lv_icmp_ge (tgt := 70) hx hb d_T_exit_40 (by decide) (fun hc => absurd hc (nI_ge (b := 6) (by omega) (by omega))) (fun hc => ?_)
        refine lv_aload_n hx hb d_T_exit_43 rfl (lv_at hl 2 rfl) ?_
        refine lv_bipush (v := 6) hx hb d_T_exit_44 (by decide) ?_
        refine lv_iload_n hx hb d_T_exit_46 rfl (lv_at hl 3 rfl) ?_
        refine lv_imul hx hb d_T_exit_47 ?_
        refine lv_iload_n hx hb d_T_exit_48 rfl (lv_at hl 0 rfl) ?_
        refine lv_iadd hx hb d_T_exit_49 ?_
        refine ob_callW (v := (some (.int ((m_empty q (6 * p0 + nI i)).1)))) (X := []) (M := tW b F S tI tZ 0 q) (M' := tW b F S tI tZ 0 ((m_empty q (6 * p0 + nI i)).2)) (ob_runV (n := 1) (As := [.int (6 * p0 + nI i)]) (rest := []) (c_T_empty l D tI tZ tA tJ b F S H.size 0 q (6 * p0 + nI i)) (hT.ok ob_cd_c (by decide +kernel) rfl rfl (Nat.le_of_ble_eq_true rfl) (Nat.le_of_ble_eq_true rfl) kn_T kc_T_empty) hx hb hml hown (hT.w k_T_72) (hT.w ki_T_empty) (hT.w kv_T_empty) (va_recv (q0 := 0) (ci := 2) hT.1 hP rfl rfl) pW.blind (pW.at hT (hok.1) hP hD) rfl rfl hl.1 rfl (lv_room (Nat.le_of_ble_eq_true rfl)) d_T_exit_50 ⟨Nat.le_of_ble_eq_true rfl, Nat.le_of_ble_eq_true rfl⟩) hP hD hS hA (fun H locs hP hD hS => ?_)
        have hP : va_P D vcl (tW b F S tI tZ 0 ((m_empty q (6 * p0 + nI i)).2)) H := hP
        have hD : va_D A (tW b F S tI tZ 0 ((m_empty q (6 * p0 + nI i)).2)) := hD
        refine W.eq (g2 := F0 m 53 ls [.int ((m_empty q (6 * p0 + nI i)).1)]) rfl ?_
        refine lv_if_eq (tgt := 62) hx hb d_T_exit_53 (by decide) (fun hc => ?_) (fun hc => ?_)
        · have e3 : m_exitL p0 (n + 1) i x q = m_exitL p0 n (i + 1) (x) (m_empty q (6 * p0 + nI i)).2 := by show m_exitL p0 n (i + 1) (if (m_empty q (6 * p0 + nI i)).1 = 0 then x else x + 1) (m_empty q (6 * p0 + nI i)).2 = _; rw [if_pos hc]
          rw [e3] at hR
          refine lv_iload_n hx hb d_T_exit_62 rfl (lv_at hl 1 rfl) ?_
          refine lv_istore_n (lv' := [(2, .int x), (3, .int (nI i)), (0, .ref (b 0)), (1, .int p0)]) hx hb d_T_exit_63 rfl hl (by decide) rfl (fun ls hl => ?_)
          refine lv_iinc (k := 1) (v := nI (i + 1)) (lv' := [(3, .int (nI (i + 1))), (2, .int x), (0, .ref (b 0)), (1, .int p0)]) hx hb d_T_exit_64 hl rfl (nI_1 i) (by decide) rfl (fun ls hl => ?_)
          refine lv_goto (tgt := 37) hx hb d_T_exit_67 (by decide) ?_
          exact ih (i + 1) _ _ ls H locs (by omega) hR hok.2 hl hP hD hS
        · have e3 : m_exitL p0 (n + 1) i x q = m_exitL p0 n (i + 1) (x + 1) (m_empty q (6 * p0 + nI i)).2 := by show m_exitL p0 n (i + 1) (if (m_empty q (6 * p0 + nI i)).1 = 0 then x else x + 1) (m_empty q (6 * p0 + nI i)).2 = _; rw [if_neg hc]
          rw [e3] at hR
          refine lv_iload_n hx hb d_T_exit_56 rfl (lv_at hl 1 rfl) ?_
          refine lv_iconst (v := 1) hx hb d_T_exit_57 (by decide) ?_
          refine lv_iadd hx hb d_T_exit_58 ?_
          refine lv_goto (tgt := 63) hx hb d_T_exit_59 (by decide) ?_
          refine lv_istore_n (lv' := [(2, .int (x + 1)), (3, .int (nI i)), (0, .ref (b 0)), (1, .int p0)]) hx hb d_T_exit_63 rfl hl (by decide) rfl (fun ls hl => ?_)
          refine lv_iinc (k := 1) (v := nI (i + 1)) (lv' := [(3, .int (nI (i + 1))), (2, .int (x + 1)), (0, .ref (b 0)), (1, .int p0)]) hx hb d_T_exit_64 hl rfl (nI_1 i) (by decide) rfl (fun ls hl => ?_)
          refine lv_goto (tgt := 37) hx hb d_T_exit_67 (by decide) ?_
          exact ih (i + 1) _ _ ls H locs (by omega) hR hok.2 hl hP hD hS
    exact loop 6 0 0 (su_th g (upd (sg_th g) (ix p0) 0)) ls H locs rfl rfl hok hl hP hD hS

theorem m_empty01 (g : Sg) (k : Int32) : (m_empty g k).1 = 0 ∨ (m_empty g k).1 = 1 := by
  unfold m_empty
  split
  · exact Or.inl rfl
  · split
    · exact Or.inr rfl
    · exact Or.inl rfl

set_option maxHeartbeats 4000000 in
set_option maxRecDepth 100000 in
/-- T_drop -/
theorem c_T_drop (l : Launch) (D : va_G) (tI tZ tA tJ : ClassId) (b : Nat → Nat) (F S sz : Nat) (tw : Int32) (g : Sg) (p0 x : Int32) : ob_M l y_T_drop w_T_drop ({ frames := 2, cells := 0, slots := 0, locals := 45 }) (pW D tI tZ tA tJ [.ref (b 0), .int p0, .int x] (tW b F S tI tZ tw g) sz (¬ m_isP (sg_th g) p0 = 0 → ¬ x < 0 → x ≤ 5 → me_ok g (6 * p0 + x))) (ob_qW D vcl (some (.int ((m_drop g p0 x).1))) (tW b F S tI tZ ((m_drop g p0 x).2.1) ((m_drop g p0 x).2.2)) (va_A (tW b F S tI tZ tw g) sz)) 0 0 (va_A (tW b F S tI tZ tw g) sz) := by
  refine ob_ofW (by decide +kernel) ?_
  intro p e s m args below meth c s₁ B hml htab hv
  obtain ⟨rfl, hT, hq, hsz, hP, hD0⟩ := hv
  have hx := B.exec
  have hb := B.bytes
  have hr := B.returns
  have hlocks := B.notSynchronized
  have hown : s.vm.findClass R_T = some m.cls := findClass_of_methodNamed B.named
  have hl := lv_entry ([.ref (b 0), .int p0, .int x]) (n := 3) (Nat.le_of_ble_eq_true rfl)
  rw [lg_entry_eq]
  generalize (lg_sl ([.ref (b 0), .int p0, .int x]) ++ List.replicate (3 - (lg_sl ([.ref (b 0), .int p0, .int x])).length) Slot.unset).toArray = ls at hl ⊢
  have hl : lv_has ls 3 [(0, .ref (b 0)), (1, .int p0), (2, .int x)] := hl
  subst hsz
  have hD := hD0.self (sz := s.heap.size)
  generalize hAe : va_A (tW b F S tI tZ tw g) s.heap.size = A at hD ⊢
  have hA : ∀ q : Nat, s.heap.size ≤ q → A q := fun q h => by rw [← hAe]; exact Or.inr h
  have hS : va_S A s.heap s.heap [] := va_S.rf
  refine lv_aload_n hx hb d_T_drop_0 rfl (lv_at hl 0 rfl) ?_
  refine lv_aload_n hx hb d_T_drop_1 rfl (lv_at hl 0 rfl) ?_
  refine lv_iload_n hx hb d_T_drop_2 rfl (lv_at hl 1 rfl) ?_
  refine ob_callR (v := (some (.int (m_isP (sg_th g) p0)))) (ob_runV (n := 1) (As := [.int p0]) (rest := [.ref (b 0)]) (c_T_isProcess l D tI tZ tA tJ b F S tw g p0) (hT.ok ob_cd_c (by decide +kernel) rfl rfl (Nat.le_of_ble_eq_true rfl) (Nat.le_of_ble_eq_true rfl) kn_T kc_T_isProcess) hx hb hml hown (hT.w k_T_68) (hT.w ki_T_isProcess) (hT.w kv_T_isProcess) (va_recv (q0 := 0) (ci := 2) hT.1 hP rfl rfl) pR.blind (pR.at hT (trivial) hP) rfl rfl hl.1 rfl (lv_room (Nat.le_of_ble_eq_true rfl)) d_T_drop_3 ⟨Nat.le_of_ble_eq_true rfl, Nat.le_of_ble_eq_true rfl⟩) ?_
  refine W.eq (g2 := F0 m 6 ls [.int (m_isP (sg_th g) p0), .ref (b 0)]) rfl ?_
  refine lv_if_ne (tgt := 13) hx hb d_T_drop_6 (by decide) (fun hc => ?_) (fun hc => ?_)
  · have hc0 := hc
    refine lv_iload_n hx hb d_T_drop_13 rfl (lv_at hl 2 rfl) ?_
    refine lv_if_lt (tgt := 22) hx hb d_T_drop_14 (by decide) (fun hc => ?_) (fun hc => ?_)
    · have e1 : m_drop g p0 x = (0, 2, g) := by unfold m_drop; rw [if_neg hc0, if_pos hc]
      rw [e1]
      refine lv_iconst (v := 2) hx hb d_T_drop_22 (by decide) ?_
      refine lv_goto (tgt := 27) hx hb d_T_drop_23 (by decide) ?_
      refine va_put (D := D) (ci := 2) (v := .int 2) (ty := .int) hx hb hT.lays ly_T ty_T ty_T_ok n_T hown hT.1 hP hD hS 0 rfl rfl 0 (by decide) (hT.w k_T_33) (fun _ h => h) rfl (by decide +kernel) rfl rfl (Nat.le_of_ble_eq_true rfl) d_T_drop_27 (fun H locs hP hD hS => ?_)
      have hP : va_P D vcl (tW b F S tI tZ 2 g) H := hP
      have hD : va_D A (tW b F S tI tZ 2 g) := hD
      refine lv_aload_n hx hb d_T_drop_30 rfl (lv_at hl 0 rfl) ?_
      refine va_get (D := D) (ci := 2) (v := .int 2) hx hb hT.lays ly_T hown hT.1 hP 0 rfl rfl 0 (by decide) (hT.w k_T_33) (fun _ h => h) rfl d_T_drop_31 ?_
      refine lv_if_ne (tgt := 54) hx hb d_T_drop_34 (by decide) (fun hc => ?_) (fun hc => absurd hc (by decide))
      refine lv_iconst (v := 0) hx hb d_T_drop_54 (by decide) ?_
      refine ob_zret hlocks hx hb hr d_T_drop_55 (rfl) hS.2.2 (fun t ht hW => ?_)
      exact ⟨rfl, by rw [ht]; exact hP, hD, hS.F ht⟩
    · have hc1 := hc
      refine lv_iload_n hx hb d_T_drop_17 rfl (lv_at hl 2 rfl) ?_
      refine lv_iconst (v := 5) hx hb d_T_drop_18 (by decide) ?_
      refine lv_icmp_le (tgt := 26) hx hb d_T_drop_19 (by decide) (fun hc => ?_) (fun hc => ?_)
      · have e1 : m_drop g p0 x = ((m_empty g (6 * p0 + x)).1, 0, (m_empty g (6 * p0 + x)).2) := by unfold m_drop; rw [if_neg hc0, if_neg hc1, if_pos hc]
        rw [e1]
        refine lv_iconst (v := 0) hx hb d_T_drop_26 (by decide) ?_
        refine va_put (D := D) (ci := 2) (v := .int 0) (ty := .int) hx hb hT.lays ly_T ty_T ty_T_ok n_T hown hT.1 hP hD hS 0 rfl rfl 0 (by decide) (hT.w k_T_33) (fun _ h => h) rfl (by decide +kernel) rfl rfl (Nat.le_of_ble_eq_true rfl) d_T_drop_27 (fun H locs hP hD hS => ?_)
        have hP : va_P D vcl (tW b F S tI tZ 0 g) H := hP
        have hD : va_D A (tW b F S tI tZ 0 g) := hD
        refine lv_aload_n hx hb d_T_drop_30 rfl (lv_at hl 0 rfl) ?_
        refine va_get (D := D) (ci := 2) (v := .int 0) hx hb hT.lays ly_T hown hT.1 hP 0 rfl rfl 0 (by decide) (hT.w k_T_33) (fun _ h => h) rfl d_T_drop_31 ?_
        refine lv_if_ne (tgt := 54) hx hb d_T_drop_34 (by decide) (fun hc => absurd rfl hc) (fun hc => ?_)
        refine lv_aload_n hx hb d_T_drop_37 rfl (lv_at hl 0 rfl) ?_
        refine lv_bipush (v := 6) hx hb d_T_drop_38 (by decide) ?_
        refine lv_iload_n hx hb d_T_drop_40 rfl (lv_at hl 1 rfl) ?_
        refine lv_imul hx hb d_T_drop_41 ?_
        refine lv_iload_n hx hb d_T_drop_42 rfl (lv_at hl 2 rfl) ?_
        refine lv_iadd hx hb d_T_drop_43 ?_
        refine ob_callW (v := (some (.int ((m_empty g (6 * p0 + x)).1)))) (X := []) (M := tW b F S tI tZ 0 g) (M' := tW b F S tI tZ 0 ((m_empty g (6 * p0 + x)).2)) (ob_runV (n := 1) (As := [.int (6 * p0 + x)]) (rest := []) (c_T_empty l D tI tZ tA tJ b F S H.size 0 g (6 * p0 + x)) (hT.ok ob_cd_c (by decide +kernel) rfl rfl (Nat.le_of_ble_eq_true rfl) (Nat.le_of_ble_eq_true rfl) kn_T kc_T_empty) hx hb hml hown (hT.w k_T_72) (hT.w ki_T_empty) (hT.w kv_T_empty) (va_recv (q0 := 0) (ci := 2) hT.1 hP rfl rfl) pW.blind (pW.at hT (hq hc0 hc1 ‹x ≤ 5›) hP hD) rfl rfl hl.1 rfl (lv_room (Nat.le_of_ble_eq_true rfl)) d_T_drop_44 ⟨Nat.le_of_ble_eq_true rfl, Nat.le_of_ble_eq_true rfl⟩) hP hD hS hA (fun H locs hP hD hS => ?_)
        have hP : va_P D vcl (tW b F S tI tZ 0 ((m_empty g (6 * p0 + x)).2)) H := hP
        have hD : va_D A (tW b F S tI tZ 0 ((m_empty g (6 * p0 + x)).2)) := hD
        refine W.eq (g2 := F0 m 47 ls [.int ((m_empty g (6 * p0 + x)).1)]) rfl ?_
        refine lv_if_eq (tgt := 54) hx hb d_T_drop_47 (by decide) (fun hc => ?_) (fun hc => ?_)
        · rw [hc]
          refine lv_iconst (v := 0) hx hb d_T_drop_54 (by decide) ?_
          refine ob_zret hlocks hx hb hr d_T_drop_55 (rfl) hS.2.2 (fun t ht hW => ?_)
          exact ⟨rfl, by rw [ht]; exact hP, hD, hS.F ht⟩
        · have e2 : (m_empty g (6 * p0 + x)).1 = 1 := (m_empty01 g (6 * p0 + x)).resolve_left hc
          rw [e2]
          refine lv_iconst (v := 1) hx hb d_T_drop_50 (by decide) ?_
          refine lv_goto (tgt := 55) hx hb d_T_drop_51 (by decide) ?_
          refine ob_zret hlocks hx hb hr d_T_drop_55 (rfl) hS.2.2 (fun t ht hW => ?_)
          exact ⟨rfl, by rw [ht]; exact hP, hD, hS.F ht⟩
      · have e1 : m_drop g p0 x = (0, 2, g) := by unfold m_drop; rw [if_neg hc0, if_neg hc1, if_neg hc]
        rw [e1]
        refine lv_iconst (v := 2) hx hb d_T_drop_22 (by decide) ?_
        refine lv_goto (tgt := 27) hx hb d_T_drop_23 (by decide) ?_
        refine va_put (D := D) (ci := 2) (v := .int 2) (ty := .int) hx hb hT.lays ly_T ty_T ty_T_ok n_T hown hT.1 hP hD hS 0 rfl rfl 0 (by decide) (hT.w k_T_33) (fun _ h => h) rfl (by decide +kernel) rfl rfl (Nat.le_of_ble_eq_true rfl) d_T_drop_27 (fun H locs hP hD hS => ?_)
        have hP : va_P D vcl (tW b F S tI tZ 2 g) H := hP
        have hD : va_D A (tW b F S tI tZ 2 g) := hD
        refine lv_aload_n hx hb d_T_drop_30 rfl (lv_at hl 0 rfl) ?_
        refine va_get (D := D) (ci := 2) (v := .int 2) hx hb hT.lays ly_T hown hT.1 hP 0 rfl rfl 0 (by decide) (hT.w k_T_33) (fun _ h => h) rfl d_T_drop_31 ?_
        refine lv_if_ne (tgt := 54) hx hb d_T_drop_34 (by decide) (fun hc => ?_) (fun hc => absurd hc (by decide))
        refine lv_iconst (v := 0) hx hb d_T_drop_54 (by decide) ?_
        refine ob_zret hlocks hx hb hr d_T_drop_55 (rfl) hS.2.2 (fun t ht hW => ?_)
        exact ⟨rfl, by rw [ht]; exact hP, hD, hS.F ht⟩
  · have e1 : m_drop g p0 x = (0, 1, g) := if_pos hc
    rw [e1]
    refine lv_iconst (v := 1) hx hb d_T_drop_9 (by decide) ?_
    refine lv_goto (tgt := 27) hx hb d_T_drop_10 (by decide) ?_
    refine va_put (D := D) (ci := 2) (v := .int 1) (ty := .int) hx hb hT.lays ly_T ty_T ty_T_ok n_T hown hT.1 hP hD hS 0 rfl rfl 0 (by decide) (hT.w k_T_33) (fun _ h => h) rfl (by decide +kernel) rfl rfl (Nat.le_of_ble_eq_true rfl) d_T_drop_27 (fun H locs hP hD hS => ?_)
    have hP : va_P D vcl (tW b F S tI tZ 1 g) H := hP
    have hD : va_D A (tW b F S tI tZ 1 g) := hD
    refine lv_aload_n hx hb d_T_drop_30 rfl (lv_at hl 0 rfl) ?_
    refine va_get (D := D) (ci := 2) (v := .int 1) hx hb hT.lays ly_T hown hT.1 hP 0 rfl rfl 0 (by decide) (hT.w k_T_33) (fun _ h => h) rfl d_T_drop_31 ?_
    refine lv_if_ne (tgt := 54) hx hb d_T_drop_34 (by decide) (fun hc => ?_) (fun hc => absurd hc (by decide))
    refine lv_iconst (v := 0) hx hb d_T_drop_54 (by decide) ?_
    refine ob_zret hlocks hx hb hr d_T_drop_55 (rfl) hS.2.2 (fun t ht hW => ?_)
    exact ⟨rfl, by rw [ht]; exact hP, hD, hS.F ht⟩
