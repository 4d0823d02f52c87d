/-- what the law's own array of one long holds behind a call: the answer, where nothing was thrown -/
def k_ans (thr : Int32) (v : Nat → Int64) (x : Int64) : Nat → Int64 := if thr = 0 then vp_updL v 0 x else v
theorem k_ans_0 {v : Nat → Int64} {x : Int64} : k_ans 0 v x = vp_updL v 0 x := if_pos rfl
theorem k_ans_no {thr : Int32} {v : Nat → Int64} {x : Int64} (h : ¬ thr = 0) : k_ans thr v x = v := if_neg h
theorem cs_Es : Cond.castable R_Es R_Es ∈ lw_tbl := by decide +kernel
theorem cs_En : Cond.castable R_En R_En ∈ lw_tbl := by decide +kernel
theorem cs_Ei : Cond.castable R_Ei R_Ei ∈ lw_tbl := by decide +kernel
/-- the class's calls, with what they throw: answer, thrown, state -/
def kk_spawn (q : KS) : Int32 × Int32 × KS := if m_lowP (ks_th q) 6 0 = -1 then (0, 1, q) else (m_lowP (ks_th q) 6 0, 0, k_spawn q)
def kk_fork (q : KS) (p : Int32) : Int32 × Int32 × KS := if m_isP (ks_th q) p = 0 then (0, 1, q) else if m_lowP (ks_th q) 6 0 = -1 then (0, 2, q) else (m_lowP (ks_th q) 6 0, 0, k_forkL p (m_lowP (ks_th q) 6 0) 6 0 (k_spawn q))
def kk_exit (q : KS) (p : Int32) : Int32 × Int32 × KS := if m_isP (ks_th q) p = 0 then (0, 1, q) else ((k_exitL p 6 0 0 q).1, 0, kv_th (k_exitL p 6 0 0 q).2 (upd (ks_th (k_exitL p 6 0 0 q).2) (ix p) 0))
def kk_drop (q : KS) (p x : Int32) : Int32 × Int32 × KS := if m_isP (ks_th q) p = 0 then (0, 1, q) else if x < 0 then (0, 2, q) else if x < 6 then ((k_empty q p x).1, 0, (k_empty q p x).2) else (0, 2, q)
def kk_load (F S : Nat) (q : KS) (p a : Int32) : Int32 × Int32 × KS := if m_isP (ks_th q) p = 0 then (0, 1, q) else if m_isA a = 0 then (0, 2, q) else ((k_loadW F S q p a).1, 0, (k_loadW F S q p a).2)
def kk_store (F S : Nat) (q : KS) (p a x : Int32) : Int32 × KS := if m_isP (ks_th q) p = 0 then (1, q) else if m_isA a = 0 then (2, q) else if k_no F S q p (a / 4) = 0 then (0, k_storeW F S q p a x) else (3, kv_m q (k_make F S (ks_m q)).2)
def kk_copy (F S : Nat) (q : KS) (p a d n : Int32) : Int32 × KS := if m_isP (ks_th q) p = 0 then (1, q) else if k_rng a n = 0 then (2, q) else if k_rng d n = 0 then (2, q) else
  if (k_copyL F S p a d (ix n) 0 (kv_cp q 0)).1 = 0 then (0, (k_copyL F S p a d (ix n) 0 (kv_cp q 0)).2) else (3, (k_copyL F S p a d (ix n) 0 (kv_cp q 0)).2)

set_option maxHeartbeats 4000000 in
set_option maxRecDepth 100000 in
/-- L_spawn -/
theorem c_L_spawn (l : Launch) (D : va_G) (tI tZ tA tJ : ClassId) (htr : l.stackTraces = false) (b : Nat → Nat) (F S sz : Nat) (q : KS) (j : Nat) (v : Nat → Int64)  : ob_M l y_L_spawn w_L_spawn ({ frames := 7, cells := 1, slots := 6, locals := 111 }) (pT D tI tZ tA tJ [.ref (b 0), .ref j] ([(j, .inl (tJ, 1, .inr (.inl v)))] ++ xW b F S tI tZ tA q) sz (True)) (ob_qW D vcl (some (.int ((kk_spawn q).2.1))) ([(j, .inl (tJ, 1, .inr (.inl (k_ans ((kk_spawn q).2.1) v (((kk_spawn q).1).toInt64)))))] ++ xW b F S tI tZ tA ((kk_spawn q).2.2)) (va_A ([(j, .inl (tJ, 1, .inr (.inl v)))] ++ xW b F S tI tZ tA q) sz)) 1 6 (va_A ([(j, .inl (tJ, 1, .inr (.inl v)))] ++ xW b F S tI tZ tA q) sz) := by
  refine ob_ofWH (by decide +kernel) ?_
  intro p e s m args below meth c s₁ B hml htab hv
  obtain ⟨rfl, hT, hz, -, hsz, hP, hD0⟩ := hv
  have hx := B.exec
  have hb := B.bytes
  have hr := B.returns
  have hlocks := B.notSynchronized
  have hown : s.vm.findClass R_L = some m.cls := findClass_of_methodNamed B.named
  have hl := lv_entry ([.ref (b 0), .ref j]) (n := 3) (Nat.le_of_ble_eq_true rfl)
  rw [lg_entry_eq]
  generalize (lg_sl ([.ref (b 0), .ref j]) ++ List.replicate (3 - (lg_sl ([.ref (b 0), .ref j])).length) Slot.unset).toArray = ls at hl ⊢
  have hl : lv_has ls 3 [(0, .ref (b 0)), (1, .ref j)] := hl
  subst hsz
  have hD := hD0.self (sz := s.heap.size)
  have hpl : ∀ a, va_A ([(j, .inl (tJ, 1, .inr (.inl v)))] ++ xW b F S tI tZ tA q) s.heap.size a → ∀ cell, s.heap[a]? = some cell → cell.vm.isStatics = false := va_A.plain hP
  generalize hAe : va_A ([(j, .inl (tJ, 1, .inr (.inl v)))] ++ xW b F S tI tZ tA q) s.heap.size = A at hD hpl ⊢
  have hA : ∀ q : Nat, s.heap.size ≤ q → A q := fun q h => by rw [← hAe]; exact Or.inr h
  have hS : va_S A s.heap s.heap [] := va_S.rf
  refine lv_aload_n hx hb d_L_spawn_0 rfl (lv_at hl 1 rfl) ?_
  refine lv_iconst (v := 0) hx hb d_L_spawn_1 (by decide) ?_
  refine lv_aload_n hx hb d_L_spawn_2 rfl (lv_at hl 0 rfl) ?_
  by_cases hc : m_lowP (ks_th q) 6 0 = -1
  · have e1 : kk_spawn q = (0, 1, q) := if_pos hc
    rw [show (kk_spawn q).1 = 0 by rw [e1]]
    rw [show (kk_spawn q).2.1 = 1 by rw [e1]]
    rw [show (kk_spawn q).2.2 = q by rw [e1]]
    rw [k_ans_no (by decide)]
    refine ob_callT (E := R_Es) (X := [(j, .inl (tJ, 1, .inr (.inl v)))]) (M := xW b F S tI tZ tA q) (M' := xW b F S tI tZ tA q) (ob_runV (n := 0) (As := []) (rest := [.int 0, .ref j]) (t_X_spawn l D tI tZ tA tJ htr b F S s.heap.size q) (hT.ok ob_cd_c (by decide +kernel) rfl rfl (Nat.le_of_ble_eq_true rfl) (Nat.le_of_ble_eq_true rfl) kn_X kc_X_spawn) hx hb hml hown (hT.w k_L_7) (hT.w ki_X_spawn) (hT.w kv_X_spawn) (va_recv (q0 := 1) (ci := 0) hT.1 hP rfl rfl) pT.blind (pT.at hT (hz.on hS hpl) (hc) (ob_Pr hP) (ob_Dr hD)) rfl rfl hl.1 rfl (lv_room (Nat.le_of_ble_eq_true rfl)) d_L_spawn_3 ⟨Nat.le_of_ble_eq_true rfl, Nat.le_of_ble_eq_true rfl⟩) hP hD hS hA (fun xc H locs hex hP hD hS => ?_)
    have hP : va_P D vcl ([(j, .inl (tJ, 1, .inr (.inl v)))] ++ xW b F S tI tZ tA q) H := hP
    have hD : va_D A ([(j, .inl (tJ, 1, .inr (.inl v)))] ++ xW b F S tI tZ tA q) := hD
    refine ct_catch (own := R_L) (name := R_Es) (E := R_Es) hown [] ⟨0, 8, 11, 13⟩ [] (by rw [htab]; rfl) (fun y hy => nomatch hy) rfl (by decide) (hT.w k_L_13) (hT.2.1 (.castable R_Es R_Es) cs_Es rfl _) hex ?_
    refine lv_astore_n (lv' := [(2, .ref xc), (0, .ref (b 0)), (1, .ref j)]) hx hb d_L_spawn_11 rfl hl (by decide) rfl (fun ls hl => ?_)
    refine lv_iconst (v := 1) hx hb d_L_spawn_12 (by decide) ?_
    refine ob_iret hlocks hx hb hr d_L_spawn_13 hS.2.2 (fun t ht hW => ?_)
    exact ⟨rfl, by rw [ht]; exact hP, hD, hS.F ht⟩
  · have e1 : kk_spawn q = (m_lowP (ks_th q) 6 0, 0, k_spawn q) := if_neg hc
    rw [show (kk_spawn q).1 = m_lowP (ks_th q) 6 0 by rw [e1]]
    rw [show (kk_spawn q).2.1 = 0 by rw [e1]]
    rw [show (kk_spawn q).2.2 = k_spawn q by rw [e1]]
    rw [k_ans_0]
    refine ob_callW (v := (some (.int (m_lowP (ks_th q) 6 0)))) (X := [(j, .inl (tJ, 1, .inr (.inl v)))]) (M := xW b F S tI tZ tA q) (M' := xW b F S tI tZ tA (k_spawn q)) (ob_runV (n := 0) (As := []) (rest := [.int 0, .ref j]) (c_X_spawn l D tI tZ tA tJ b F S s.heap.size q) (hT.ok ob_cd_c (by decide +kernel) rfl rfl (Nat.le_of_ble_eq_true rfl) (Nat.le_of_ble_eq_true rfl) kn_X kc_X_spawn) hx hb hml hown (hT.w k_L_7) (hT.w ki_X_spawn) (hT.w kv_X_spawn) (va_recv (q0 := 1) (ci := 0) hT.1 hP rfl rfl) pW.blind (pW.at hT (hc) (ob_Pr hP) (ob_Dr hD)) rfl rfl hl.1 rfl (lv_room (Nat.le_of_ble_eq_true rfl)) d_L_spawn_3 ⟨Nat.le_of_ble_eq_true rfl, Nat.le_of_ble_eq_true rfl⟩) hP hD hS hA (fun H locs hP hD hS => ?_)
    have hP : va_P D vcl ([(j, .inl (tJ, 1, .inr (.inl v)))] ++ xW b F S tI tZ tA (k_spawn q)) H := hP
    have hD : va_D A ([(j, .inl (tJ, 1, .inr (.inl v)))] ++ xW b F S tI tZ tA (k_spawn q)) := hD
    refine W.eq (g2 := F0 m 6 ls [.int (m_lowP (ks_th q) 6 0), .int 0, .ref j]) rfl ?_
    refine W.widen (k := 1) (n := 6) (Nat.le_of_ble_eq_true rfl) (Nat.le_of_ble_eq_true rfl) ?_
    refine lv_i2l hx hb d_L_spawn_6 rfl ?_
    refine va_last hx hb hT.1 hP hD hS 0 3 rfl rfl (vp_in_nI (n := 0) (N := 1) (by omega) (by omega)) d_L_spawn_7 (fun H locs hP hD hS => ?_)
    have hP : va_P D vcl ([(j, .inl (tJ, 1, .inr (.inl (vp_updL v 0 ((m_lowP (ks_th q) 6 0).toInt64)))))] ++ xW b F S tI tZ tA (k_spawn q)) H := hP
    have hD : va_D A ([(j, .inl (tJ, 1, .inr (.inl (vp_updL v 0 ((m_lowP (ks_th q) 6 0).toInt64)))))] ++ xW b F S tI tZ tA (k_spawn q)) := hD
    refine lv_goto (tgt := 14) hx hb d_L_spawn_8 (by decide) ?_
    refine lv_iconst (v := 0) hx hb d_L_spawn_14 (by decide) ?_
    refine ob_iret hlocks hx hb hr d_L_spawn_15 hS.2.2 (fun t ht hW => ?_)
    exact ⟨rfl, by rw [ht]; exact hP, hD, hS.F ht⟩

set_option maxHeartbeats 4000000 in
set_option maxRecDepth 100000 in
/-- L_fork -/
theorem c_L_fork (l : Launch) (D : va_G) (tI tZ tA tJ : ClassId) (htr : l.stackTraces = false) (b : Nat → Nat) (F S sz : Nat) (q : KS) (j : Nat) (v : Nat → Int64) (p0 : Int32) : ob_M l y_L_fork w_L_fork ({ frames := 8, cells := 1, slots := 6, locals := 135 }) (pT D tI tZ tA tJ [.ref (b 0), .int p0, .ref j] ([(j, .inl (tJ, 1, .inr (.inl v)))] ++ xW b F S tI tZ tA q) sz (¬ m_isP (ks_th q) p0 = 0 → ¬ m_lowP (ks_th q) 6 0 = -1 → kf_ok F S p0 (m_lowP (ks_th q) 6 0) 6 0 (k_spawn q))) (ob_qW D vcl (some (.int ((kk_fork q p0).2.1))) ([(j, .inl (tJ, 1, .inr (.inl (k_ans ((kk_fork q p0).2.1) v (((kk_fork q p0).1).toInt64)))))] ++ xW b F S tI tZ tA ((kk_fork q p0).2.2)) (va_A ([(j, .inl (tJ, 1, .inr (.inl v)))] ++ xW b F S tI tZ tA q) sz)) 1 6 (va_A ([(j, .inl (tJ, 1, .inr (.inl v)))] ++ xW b F S tI tZ tA q) sz) := by
  refine ob_ofWH (by decide +kernel) ?_
  intro p e s m args below meth c s₁ B hml htab hv
  obtain ⟨rfl, hT, hz, hok, hsz, hP, hD0⟩ := hv
  have hx := B.exec
  have hb := B.bytes
  have hr := B.returns
  have hlocks := B.notSynchronized
  have hown : s.vm.findClass R_L = some m.cls := findClass_of_methodNamed B.named
  have hl := lv_entry ([.ref (b 0), .int p0, .ref j]) (n := 4) (Nat.le_of_ble_eq_true rfl)
  rw [lg_entry_eq]
  generalize (lg_sl ([.ref (b 0), .int p0, .ref j]) ++ List.replicate (4 - (lg_sl ([.ref (b 0), .int p0, .ref j])).length) Slot.unset).toArray = ls at hl ⊢
  have hl : lv_has ls 4 [(0, .ref (b 0)), (1, .int p0), (2, .ref j)] := hl
  subst hsz
  have hD := hD0.self (sz := s.heap.size)
  have hpl : ∀ a, va_A ([(j, .inl (tJ, 1, .inr (.inl v)))] ++ xW b F S tI tZ tA q) s.heap.size a → ∀ cell, s.heap[a]? = some cell → cell.vm.isStatics = false := va_A.plain hP
  generalize hAe : va_A ([(j, .inl (tJ, 1, .inr (.inl v)))] ++ xW b F S tI tZ tA q) s.heap.size = A at hD hpl ⊢
  have hA : ∀ q : Nat, s.heap.size ≤ q → A q := fun q h => by rw [← hAe]; exact Or.inr h
  have hS : va_S A s.heap s.heap [] := va_S.rf
  refine lv_aload_n hx hb d_L_fork_0 rfl (lv_at hl 2 rfl) ?_
  refine lv_iconst (v := 0) hx hb d_L_fork_1 (by decide) ?_
  refine lv_aload_n hx hb d_L_fork_2 rfl (lv_at hl 0 rfl) ?_
  refine lv_iload_n hx hb d_L_fork_3 rfl (lv_at hl 1 rfl) ?_
  by_cases hc : m_isP (ks_th q) p0 = 0
  · have e1 : kk_fork q p0 = (0, 1, q) := if_pos hc
    rw [show (kk_fork q p0).1 = 0 by rw [e1]]
    rw [show (kk_fork q p0).2.1 = 1 by rw [e1]]
    rw [show (kk_fork q p0).2.2 = q by rw [e1]]
    rw [k_ans_no (by decide)]
    refine ob_callT (E := R_En) (X := [(j, .inl (tJ, 1, .inr (.inl v)))]) (M := xW b F S tI tZ tA q) (M' := xW b F S tI tZ tA q) (ob_runV (n := 1) (As := [.int p0]) (rest := [.int 0, .ref j]) (t_X_fork1 l D tI tZ tA tJ htr b F S s.heap.size q p0) (hT.ok ob_cd_c (by decide +kernel) rfl rfl (Nat.le_of_ble_eq_true rfl) (Nat.le_of_ble_eq_true rfl) kn_X kc_X_fork) hx hb hml hown (hT.w k_L_15) (hT.w ki_X_fork) (hT.w kv_X_fork) (va_recv (q0 := 1) (ci := 0) hT.1 hP rfl rfl) pT.blind (pT.at hT (hz.on hS hpl) (hc) (ob_Pr hP) (ob_Dr hD)) rfl rfl hl.1 rfl (lv_room (Nat.le_of_ble_eq_true rfl)) d_L_fork_4 ⟨Nat.le_of_ble_eq_true rfl, Nat.le_of_ble_eq_true rfl⟩) hP hD hS hA (fun xc H locs hex hP hD hS => ?_)
    have hP : va_P D vcl ([(j, .inl (tJ, 1, .inr (.inl v)))] ++ xW b F S tI tZ tA q) H := hP
    have hD : va_D A ([(j, .inl (tJ, 1, .inr (.inl v)))] ++ xW b F S tI tZ tA q) := hD
    refine ct_catch (own := R_L) (name := R_En) (E := R_En) hown [] ⟨0, 9, 12, 19⟩ [⟨0, 9, 15, 13⟩] (by rw [htab]; rfl) (fun y hy => nomatch hy) rfl (by decide) (hT.w k_L_19) (hT.2.1 (.castable R_En R_En) cs_En rfl _) hex ?_
    refine lv_astore_n (lv' := [(3, .ref xc), (0, .ref (b 0)), (1, .int p0), (2, .ref j)]) hx hb d_L_fork_12 rfl hl (by decide) rfl (fun ls hl => ?_)
    refine lv_iconst (v := 1) hx hb d_L_fork_13 (by decide) ?_
    refine ob_iret hlocks hx hb hr d_L_fork_14 hS.2.2 (fun t ht hW => ?_)
    exact ⟨rfl, by rw [ht]; exact hP, hD, hS.F ht⟩
  · have hc0 := hc
    by_cases hc : m_lowP (ks_th q) 6 0 = -1
    · have e1 : kk_fork q p0 = (0, 2, q) := by unfold kk_fork; rw [if_neg hc0, if_pos hc]
      rw [show (kk_fork q p0).1 = 0 by rw [e1]]
      rw [show (kk_fork q p0).2.1 = 2 by rw [e1]]
      rw [show (kk_fork q p0).2.2 = q by rw [e1]]
      rw [k_ans_no (by decide)]
      refine ob_callT (E := R_Es) (X := [(j, .inl (tJ, 1, .inr (.inl v)))]) (M := xW b F S tI tZ tA q) (M' := xW b F S tI tZ tA q) (ob_runV (n := 1) (As := [.int p0]) (rest := [.int 0, .ref j]) (t_X_fork2 l D tI tZ tA tJ htr b F S s.heap.size q p0) (hT.ok ob_cd_c (by decide +kernel) rfl rfl (Nat.le_of_ble_eq_true rfl) (Nat.le_of_ble_eq_true rfl) kn_X kc_X_fork) hx hb hml hown (hT.w k_L_15) (hT.w ki_X_fork) (hT.w kv_X_fork) (va_recv (q0 := 1) (ci := 0) hT.1 hP rfl rfl) pT.blind (pT.at hT (hz.on hS hpl) (⟨hc0, hc⟩) (ob_Pr hP) (ob_Dr hD)) rfl rfl hl.1 rfl (lv_room (Nat.le_of_ble_eq_true rfl)) d_L_fork_4 ⟨Nat.le_of_ble_eq_true rfl, Nat.le_of_ble_eq_true rfl⟩) hP hD hS hA (fun xc H locs hex hP hD hS => ?_)
      have hP : va_P D vcl ([(j, .inl (tJ, 1, .inr (.inl v)))] ++ xW b F S tI tZ tA q) H := hP
      have hD : va_D A ([(j, .inl (tJ, 1, .inr (.inl v)))] ++ xW b F S tI tZ tA q) := hD
      refine ct_catch (own := R_L) (name := R_Es) (E := R_Es) hown [⟨0, 9, 12, 19⟩] ⟨0, 9, 15, 13⟩ [] (by rw [htab]; rfl) (fun y hy => by rw [List.mem_singleton.mp hy]; exact ⟨rfl, (by decide), R_En, hT.w k_L_19, hT.2.2.2 (R_Es, R_En) (by decide +kernel)⟩) rfl (by decide) (hT.w k_L_13) (hT.2.1 (.castable R_Es R_Es) cs_Es rfl _) hex ?_
      refine lv_astore_n (lv' := [(3, .ref xc), (0, .ref (b 0)), (1, .int p0), (2, .ref j)]) hx hb d_L_fork_15 rfl hl (by decide) rfl (fun ls hl => ?_)
      refine lv_iconst (v := 2) hx hb d_L_fork_16 (by decide) ?_
      refine ob_iret hlocks hx hb hr d_L_fork_17 hS.2.2 (fun t ht hW => ?_)
      exact ⟨rfl, by rw [ht]; exact hP, hD, hS.F ht⟩
    · have e1 : kk_fork q p0 = (m_lowP (ks_th q) 6 0, 0, k_forkL p0 (m_lowP (ks_th q) 6 0) 6 0 (k_spawn q)) := by unfold kk_fork; rw [if_neg hc0, if_neg hc]
      rw [show (kk_fork q p0).1 = m_lowP (ks_th q) 6 0 by rw [e1]]
      rw [show (kk_fork q p0).2.1 = 0 by rw [e1]]
      rw [show (kk_fork q p0).2.2 = k_forkL p0 (m_lowP (ks_th q) 6 0) 6 0 (k_spawn q) by rw [e1]]
      rw [k_ans_0]
      refine ob_callW (v := (some (.int (m_lowP (ks_th q) 6 0)))) (X := [(j, .inl (tJ, 1, .inr (.inl v)))]) (M := xW b F S tI tZ tA q) (M' := xW b F S tI tZ tA (k_forkL p0 (m_lowP (ks_th q) 6 0) 6 0 (k_spawn q))) (ob_runV (n := 1) (As := [.int p0]) (rest := [.int 0, .ref j]) (c_X_fork l D tI tZ tA tJ b F S s.heap.size q p0) (hT.ok ob_cd_c (by decide +kernel) rfl rfl (Nat.le_of_ble_eq_true rfl) (Nat.le_of_ble_eq_true rfl) kn_X kc_X_fork) hx hb hml hown (hT.w k_L_15) (hT.w ki_X_fork) (hT.w kv_X_fork) (va_recv (q0 := 1) (ci := 0) hT.1 hP rfl rfl) pW.blind (pW.at hT (⟨hc0, hc, hok hc0 hc⟩) (ob_Pr hP) (ob_Dr hD)) rfl rfl hl.1 rfl (lv_room (Nat.le_of_ble_eq_true rfl)) d_L_fork_4 ⟨Nat.le_of_ble_eq_true rfl, Nat.le_of_ble_eq_true rfl⟩) hP hD hS hA (fun H locs hP hD hS => ?_)
      have hP : va_P D vcl ([(j, .inl (tJ, 1, .inr (.inl v)))] ++ xW b F S tI tZ tA (k_forkL p0 (m_lowP (ks_th q) 6 0) 6 0 (k_spawn q))) H := hP
      have hD : va_D A ([(j, .inl (tJ, 1, .inr (.inl v)))] ++ xW b F S tI tZ tA (k_forkL p0 (m_lowP (ks_th q) 6 0) 6 0 (k_spawn q))) := hD
      refine W.eq (g2 := F0 m 7 ls [.int (m_lowP (ks_th q) 6 0), .int 0, .ref j]) rfl ?_
      refine W.widen (k := 1) (n := 6) (Nat.le_of_ble_eq_true rfl) (Nat.le_of_ble_eq_true rfl) ?_
      refine lv_i2l hx hb d_L_fork_7 rfl ?_
      refine va_last hx hb hT.1 hP hD hS 0 3 rfl rfl (vp_in_nI (n := 0) (N := 1) (by omega) (by omega)) d_L_fork_8 (fun H locs hP hD hS => ?_)
      have hP : va_P D vcl ([(j, .inl (tJ, 1, .inr (.inl (vp_updL v 0 ((m_lowP (ks_th q) 6 0).toInt64)))))] ++ xW b F S tI tZ tA (k_forkL p0 (m_lowP (ks_th q) 6 0) 6 0 (k_spawn q))) H := hP
      have hD : va_D A ([(j, .inl (tJ, 1, .inr (.inl (vp_updL v 0 ((m_lowP (ks_th q) 6 0).toInt64)))))] ++ xW b F S tI tZ tA (k_forkL p0 (m_lowP (ks_th q) 6 0) 6 0 (k_spawn q))) := hD
      refine lv_goto (tgt := 18) hx hb d_L_fork_9 (by decide) ?_
      refine lv_iconst (v := 0) hx hb d_L_fork_18 (by decide) ?_
      refine ob_iret hlocks hx hb hr d_L_fork_19 hS.2.2 (fun t ht hW => ?_)
      exact ⟨rfl, by rw [ht]; exact hP, hD, hS.F ht⟩

set_option maxHeartbeats 4000000 in
set_option maxRecDepth 100000 in
/-- L_exit -/
theorem c_L_exit (l : Launch) (D : va_G) (tI tZ tA tJ : ClassId) (htr : l.stackTraces = false) (b : Nat → Nat) (F S sz : Nat) (q : KS) (j : Nat) (v : Nat → Int64) (p0 : Int32) : ob_M l y_L_exit w_L_exit ({ frames := 8, cells := 1, slots := 6, locals := 134 }) (pT D tI tZ tA tJ [.ref (b 0), .int p0, .ref j] ([(j, .inl (tJ, 1, .inr (.inl v)))] ++ xW b F S tI tZ tA q) sz (¬ m_isP (ks_th q) p0 = 0 → kx_ok F S p0 6 0 q)) (ob_qW D vcl (some (.int ((kk_exit q p0).2.1))) ([(j, .inl (tJ, 1, .inr (.inl (k_ans ((kk_exit q p0).2.1) v (((kk_exit q p0).1).toInt64)))))] ++ xW b F S tI tZ tA ((kk_exit q p0).2.2)) (va_A ([(j, .inl (tJ, 1, .inr (.inl v)))] ++ xW b F S tI tZ tA q) sz)) 1 6 (va_A ([(j, .inl (tJ, 1, .inr (.inl v)))] ++ xW b F S tI tZ tA q) sz) := by
  refine ob_ofWH (by decide +kernel) ?_
  intro p e s m args below meth c s₁ B hml htab hv
  obtain ⟨rfl, hT, hz, hok, hsz, hP, hD0⟩ := hv
  have hx := B.exec
  have hb := B.bytes
  have hr := B.returns
  have hlocks := B.notSynchronized
  have hown : s.vm.findClass R_L = some m.cls := findClass_of_methodNamed B.named
  have hl := lv_entry ([.ref (b 0), .int p0, .ref j]) (n := 4) (Nat.le_of_ble_eq_true rfl)
  rw [lg_entry_eq]
  generalize (lg_sl ([.ref (b 0), .int p0, .ref j]) ++ List.replicate (4 - (lg_sl ([.ref (b 0), .int p0, .ref j])).length) Slot.unset).toArray = ls at hl ⊢
  have hl : lv_has ls 4 [(0, .ref (b 0)), (1, .int p0), (2, .ref j)] := hl
  subst hsz
  have hD := hD0.self (sz := s.heap.size)
  have hpl : ∀ a, va_A ([(j, .inl (tJ, 1, .inr (.inl v)))] ++ xW b F S tI tZ tA q) s.heap.size a → ∀ cell, s.heap[a]? = some cell → cell.vm.isStatics = false := va_A.plain hP
  generalize hAe : va_A ([(j, .inl (tJ, 1, .inr (.inl v)))] ++ xW b F S tI tZ tA q) s.heap.size = A at hD hpl ⊢
  have hA : ∀ q : Nat, s.heap.size ≤ q → A q := fun q h => by rw [← hAe]; exact Or.inr h
  have hS : va_S A s.heap s.heap [] := va_S.rf
  refine lv_aload_n hx hb d_L_exit_0 rfl (lv_at hl 2 rfl) ?_
  refine lv_iconst (v := 0) hx hb d_L_exit_1 (by decide) ?_
  refine lv_aload_n hx hb d_L_exit_2 rfl (lv_at hl 0 rfl) ?_
  refine lv_iload_n hx hb d_L_exit_3 rfl (lv_at hl 1 rfl) ?_
  by_cases hc : m_isP (ks_th q) p0 = 0
  · have e1 : kk_exit q p0 = (0, 1, q) := if_pos hc
    rw [show (kk_exit q p0).1 = 0 by rw [e1]]
    rw [show (kk_exit q p0).2.1 = 1 by rw [e1]]
    rw [show (kk_exit q p0).2.2 = q by rw [e1]]
    rw [k_ans_no (by decide)]
    refine ob_callT (E := R_En) (X := [(j, .inl (tJ, 1, .inr (.inl v)))]) (M := xW b F S tI tZ tA q) (M' := xW b F S tI tZ tA q) (ob_runV (n := 1) (As := [.int p0]) (rest := [.int 0, .ref j]) (t_X_exit1 l D tI tZ tA tJ htr b F S s.heap.size q p0) (hT.ok ob_cd_c (by decide +kernel) rfl rfl (Nat.le_of_ble_eq_true rfl) (Nat.le_of_ble_eq_true rfl) kn_X kc_X_exit) hx hb hml hown (hT.w k_L_21) (hT.w ki_X_exit) (hT.w kv_X_exit) (va_recv (q0 := 1) (ci := 0) hT.1 hP rfl rfl) pT.blind (pT.at hT (hz.on hS hpl) (hc) (ob_Pr hP) (ob_Dr hD)) rfl rfl hl.1 rfl (lv_room (Nat.le_of_ble_eq_true rfl)) d_L_exit_4 ⟨Nat.le_of_ble_eq_true rfl, Nat.le_of_ble_eq_true rfl⟩) hP hD hS hA (fun xc H locs hex hP hD hS => ?_)
    have hP : va_P D vcl ([(j, .inl (tJ, 1, .inr (.inl v)))] ++ xW b F S tI tZ tA q) H := hP
    have hD : va_D A ([(j, .inl (tJ, 1, .inr (.inl v)))] ++ xW b F S tI tZ tA q) := hD
    refine ct_catch (own := R_L) (name := R_En) (E := R_En) hown [] ⟨0, 9, 12, 19⟩ [] (by rw [htab]; rfl) (fun y hy => nomatch hy) rfl (by decide) (hT.w k_L_19) (hT.2.1 (.castable R_En R_En) cs_En rfl _) hex ?_
    refine lv_astore_n (lv' := [(3, .ref xc), (0, .ref (b 0)), (1, .int p0), (2, .ref j)]) hx hb d_L_exit_12 rfl hl (by decide) rfl (fun ls hl => ?_)
    refine lv_iconst (v := 1) hx hb d_L_exit_13 (by decide) ?_
    refine ob_iret hlocks hx hb hr d_L_exit_14 hS.2.2 (fun t ht hW => ?_)
    exact ⟨rfl, by rw [ht]; exact hP, hD, hS.F ht⟩
  · have e1 : kk_exit q p0 = ((k_exitL p0 6 0 0 q).1, 0, kv_th (k_exitL p0 6 0 0 q).2 (upd (ks_th (k_exitL p0 6 0 0 q).2) (ix p0) 0)) := if_neg hc
    rw [show (kk_exit q p0).1 = (k_exitL p0 6 0 0 q).1 by rw [e1]]
    rw [show (kk_exit q p0).2.1 = 0 by rw [e1]]
    rw [show (kk_exit q p0).2.2 = kv_th (k_exitL p0 6 0 0 q).2 (upd (ks_th (k_exitL p0 6 0 0 q).2) (ix p0) 0) by rw [e1]]
    rw [k_ans_0]
    refine ob_callW (v := (some (.int ((k_exitL p0 6 0 0 q).1)))) (X := [(j, .inl (tJ, 1, .inr (.inl v)))]) (M := xW b F S tI tZ tA q) (M' := xW b F S tI tZ tA (kv_th (k_exitL p0 6 0 0 q).2 (upd (ks_th (k_exitL p0 6 0 0 q).2) (ix p0) 0))) (ob_runV (n := 1) (As := [.int p0]) (rest := [.int 0, .ref j]) (c_X_exit l D tI tZ tA tJ b F S s.heap.size q p0) (hT.ok ob_cd_c (by decide +kernel) rfl rfl (Nat.le_of_ble_eq_true rfl) (Nat.le_of_ble_eq_true rfl) kn_X kc_X_exit) hx hb hml hown (hT.w k_L_21) (hT.w ki_X_exit) (hT.w kv_X_exit) (va_recv (q0 := 1) (ci := 0) hT.1 hP rfl rfl) pW.blind (pW.at hT (⟨hc, hok hc⟩) (ob_Pr hP) (ob_Dr hD)) rfl rfl hl.1 rfl (lv_room (Nat.le_of_ble_eq_true rfl)) d_L_exit_4 ⟨Nat.le_of_ble_eq_true rfl, Nat.le_of_ble_eq_true rfl⟩) hP hD hS hA (fun H locs hP hD hS => ?_)
    have hP : va_P D vcl ([(j, .inl (tJ, 1, .inr (.inl v)))] ++ xW b F S tI tZ tA (kv_th (k_exitL p0 6 0 0 q).2 (upd (ks_th (k_exitL p0 6 0 0 q).2) (ix p0) 0))) H := hP
    have hD : va_D A ([(j, .inl (tJ, 1, .inr (.inl v)))] ++ xW b F S tI tZ tA (kv_th (k_exitL p0 6 0 0 q).2 (upd (ks_th (k_exitL p0 6 0 0 q).2) (ix p0) 0))) := hD
    refine W.eq (g2 := F0 m 7 ls [.int ((k_exitL p0 6 0 0 q).1), .int 0, .ref j]) rfl ?_
    refine W.widen (k := 1) (n := 6) (Nat.le_of_ble_eq_true rfl) (Nat.le_of_ble_eq_true rfl) ?_
    refine lv_i2l hx hb d_L_exit_7 rfl ?_
    refine va_last hx hb hT.1 hP hD hS 0 3 rfl rfl (vp_in_nI (n := 0) (N := 1) (by omega) (by omega)) d_L_exit_8 (fun H locs hP hD hS => ?_)
    have hP : va_P D vcl ([(j, .inl (tJ, 1, .inr (.inl (vp_updL v 0 (((k_exitL p0 6 0 0 q).1).toInt64)))))] ++ xW b F S tI tZ tA (kv_th (k_exitL p0 6 0 0 q).2 (upd (ks_th (k_exitL p0 6 0 0 q).2) (ix p0) 0))) H := hP
    have hD : va_D A ([(j, .inl (tJ, 1, .inr (.inl (vp_updL v 0 (((k_exitL p0 6 0 0 q).1).toInt64)))))] ++ xW b F S tI tZ tA (kv_th (k_exitL p0 6 0 0 q).2 (upd (ks_th (k_exitL p0 6 0 0 q).2) (ix p0) 0))) := hD
    refine lv_goto (tgt := 15) hx hb d_L_exit_9 (by decide) ?_
    refine lv_iconst (v := 0) hx hb d_L_exit_15 (by decide) ?_
    refine ob_iret hlocks hx hb hr d_L_exit_16 hS.2.2 (fun t ht hW => ?_)
    exact ⟨rfl, by rw [ht]; exact hP, hD, hS.F ht⟩

set_option maxHeartbeats 4000000 in
set_option maxRecDepth 100000 in
/-- L_drop -/
theorem c_L_drop (l : Launch) (D : va_G) (tI tZ tA tJ : ClassId) (htr : l.stackTraces = false) (b : Nat → Nat) (F S sz : Nat) (q : KS) (j : Nat) (v : Nat → Int64) (p0 x : Int32) : ob_M l y_L_drop w_L_drop ({ frames := 8, cells := 1, slots := 6, locals := 133 }) (pT D tI tZ tA tJ [.ref (b 0), .int p0, .int x, .ref j] ([(j, .inl (tJ, 1, .inr (.inl v)))] ++ xW b F S tI tZ tA q) sz (¬ m_isP (ks_th q) p0 = 0 → ¬ x < 0 → x < 6 → xe_ok F S q p0 x)) (ob_qW D vcl (some (.int ((kk_drop q p0 x).2.1))) ([(j, .inl (tJ, 1, .inr (.inl (k_ans ((kk_drop q p0 x).2.1) v (if (kk_drop q p0 x).1 = 0 then 0 else 1)))))] ++ xW b F S tI tZ tA ((kk_drop q p0 x).2.2)) (va_A ([(j, .inl (tJ, 1, .inr (.inl v)))] ++ xW b F S tI tZ tA q) sz)) 1 6 (va_A ([(j, .inl (tJ, 1, .inr (.inl v)))] ++ xW b F S tI tZ tA q) sz) := by
  refine ob_ofWH (by decide +kernel) ?_
  intro p e s m args below meth c s₁ B hml htab hv
  obtain ⟨rfl, hT, hz, hok, hsz, hP, hD0⟩ := hv
  have hx := B.exec
  have hb := B.bytes
  have hr := B.returns
  have hlocks := B.notSynchronized
  have hown : s.vm.findClass R_L = some m.cls := findClass_of_methodNamed B.named
  have hl := lv_entry ([.ref (b 0), .int p0, .int x, .ref j]) (n := 5) (Nat.le_of_ble_eq_true rfl)
  rw [lg_entry_eq]
  generalize (lg_sl ([.ref (b 0), .int p0, .int x, .ref j]) ++ List.replicate (5 - (lg_sl ([.ref (b 0), .int p0, .int x, .ref j])).length) Slot.unset).toArray = ls at hl ⊢
  have hl : lv_has ls 5 [(0, .ref (b 0)), (1, .int p0), (2, .int x), (3, .ref j)] := hl
  subst hsz
  have hD := hD0.self (sz := s.heap.size)
  have hpl : ∀ a, va_A ([(j, .inl (tJ, 1, .inr (.inl v)))] ++ xW b F S tI tZ tA q) s.heap.size a → ∀ cell, s.heap[a]? = some cell → cell.vm.isStatics = false := va_A.plain hP
  generalize hAe : va_A ([(j, .inl (tJ, 1, .inr (.inl v)))] ++ xW b F S tI tZ tA q) s.heap.size = A at hD hpl ⊢
  have hA : ∀ q : Nat, s.heap.size ≤ q → A q := fun q h => by rw [← hAe]; exact Or.inr h
  have hS : va_S A s.heap s.heap [] := va_S.rf
  refine lv_aload_n hx hb d_L_drop_0 rfl (lv_at hl 3 rfl) ?_
  refine lv_iconst (v := 0) hx hb d_L_drop_1 (by decide) ?_
  refine lv_aload_n hx hb d_L_drop_2 rfl (lv_at hl 0 rfl) ?_
  refine lv_iload_n hx hb d_L_drop_3 rfl (lv_at hl 1 rfl) ?_
  refine lv_iload_n hx hb d_L_drop_4 rfl (lv_at hl 2 rfl) ?_
  by_cases hc : m_isP (ks_th q) p0 = 0
  · have e1 : kk_drop q p0 x = (0, 1, q) := if_pos hc
    rw [show (kk_drop q p0 x).1 = 0 by rw [e1]]
    rw [show (kk_drop q p0 x).2.1 = 1 by rw [e1]]
    rw [show (kk_drop q p0 x).2.2 = q by rw [e1]]
    rw [k_ans_no (by decide)]
    refine ob_callT (E := R_En) (X := [(j, .inl (tJ, 1, .inr (.inl v)))]) (M := xW b F S tI tZ tA q) (M' := xW b F S tI tZ tA q) (ob_runV (n := 2) (As := [.int p0, .int x]) (rest := [.int 0, .ref j]) (t_X_drop1 l D tI tZ tA tJ htr b F S s.heap.size q p0 x) (hT.ok ob_cd_c (by decide +kernel) rfl rfl (Nat.le_of_ble_eq_true rfl) (Nat.le_of_ble_eq_true rfl) kn_X kc_X_drop) hx hb hml hown (hT.w k_L_24) (hT.w ki_X_drop) (hT.w kv_X_drop) (va_recv (q0 := 1) (ci := 0) hT.1 hP rfl rfl) pT.blind (pT.at hT (hz.on hS hpl) (hc) (ob_Pr hP) (ob_Dr hD)) rfl rfl hl.1 rfl (lv_room (Nat.le_of_ble_eq_true rfl)) d_L_drop_5 ⟨Nat.le_of_ble_eq_true rfl, Nat.le_of_ble_eq_true rfl⟩) hP hD hS hA (fun xc H locs hex hP hD hS => ?_)
    have hP : va_P D vcl ([(j, .inl (tJ, 1, .inr (.inl v)))] ++ xW b F S tI tZ tA q) H := hP
    have hD : va_D A ([(j, .inl (tJ, 1, .inr (.inl v)))] ++ xW b F S tI tZ tA q) := hD
    refine ct_catch (own := R_L) (name := R_En) (E := R_En) hown [] ⟨0, 17, 20, 19⟩ [⟨0, 17, 24, 28⟩] (by rw [htab]; rfl) (fun y hy => nomatch hy) rfl (by decide) (hT.w k_L_19) (hT.2.1 (.castable R_En R_En) cs_En rfl _) hex ?_
    refine lv_astore (lv' := [(4, .ref xc), (0, .ref (b 0)), (1, .int p0), (2, .int x), (3, .ref j)]) hx hb d_L_drop_20 hl (by decide) rfl (fun ls hl => ?_)
    refine lv_iconst (v := 1) hx hb d_L_drop_22 (by decide) ?_
    refine ob_iret hlocks hx hb hr d_L_drop_23 hS.2.2 (fun t ht hW => ?_)
    exact ⟨rfl, by rw [ht]; exact hP, hD, hS.F ht⟩
  · have hc0 := hc
    by_cases hc : x < 0
    · have e1 : kk_drop q p0 x = (0, 2, q) := by unfold kk_drop; rw [if_neg hc0, if_pos hc]
      rw [show (kk_drop q p0 x).1 = 0 by rw [e1]]
      rw [show (kk_drop q p0 x).2.1 = 2 by rw [e1]]
      rw [show (kk_drop q p0 x).2.2 = q by rw [e1]]
      rw [k_ans_no (by decide)]
      refine ob_callT (E := R_Ei) (X := [(j, .inl (tJ, 1, .inr (.inl v)))]) (M := xW b F S tI tZ tA q) (M' := xW b F S tI tZ tA q) (ob_runV (n := 2) (As := [.int p0, .int x]) (rest := [.int 0, .ref j]) (t_X_drop2 l D tI tZ tA tJ htr b F S s.heap.size q p0 x) (hT.ok ob_cd_c (by decide +kernel) rfl rfl (Nat.le_of_ble_eq_true rfl) (Nat.le_of_ble_eq_true rfl) kn_X kc_X_drop) hx hb hml hown (hT.w k_L_24) (hT.w ki_X_drop) (hT.w kv_X_drop) (va_recv (q0 := 1) (ci := 0) hT.1 hP rfl rfl) pT.blind (pT.at hT (hz.on hS hpl) (⟨hc0, fun z => absurd hc z⟩) (ob_Pr hP) (ob_Dr hD)) rfl rfl hl.1 rfl (lv_room (Nat.le_of_ble_eq_true rfl)) d_L_drop_5 ⟨Nat.le_of_ble_eq_true rfl, Nat.le_of_ble_eq_true rfl⟩) hP hD hS hA (fun xc H locs hex hP hD hS => ?_)
      have hP : va_P D vcl ([(j, .inl (tJ, 1, .inr (.inl v)))] ++ xW b F S tI tZ tA q) H := hP
      have hD : va_D A ([(j, .inl (tJ, 1, .inr (.inl v)))] ++ xW b F S tI tZ tA q) := hD
      refine ct_catch (own := R_L) (name := R_Ei) (E := R_Ei) hown [⟨0, 17, 20, 19⟩] ⟨0, 17, 24, 28⟩ [] (by rw [htab]; rfl) (fun y hy => by rw [List.mem_singleton.mp hy]; exact ⟨rfl, (by decide), R_En, hT.w k_L_19, hT.2.2.2 (R_Ei, R_En) (by decide +kernel)⟩) rfl (by decide) (hT.w k_L_28) (hT.2.1 (.castable R_Ei R_Ei) cs_Ei rfl _) hex ?_
      refine lv_astore (lv' := [(4, .ref xc), (0, .ref (b 0)), (1, .int p0), (2, .int x), (3, .ref j)]) hx hb d_L_drop_24 hl (by decide) rfl (fun ls hl => ?_)
      refine lv_iconst (v := 2) hx hb d_L_drop_26 (by decide) ?_
      refine ob_iret hlocks hx hb hr d_L_drop_27 hS.2.2 (fun t ht hW => ?_)
      exact ⟨rfl, by rw [ht]; exact hP, hD, hS.F ht⟩
    · have hc1 := hc
      by_cases hc : x < 6
      · have e1 : kk_drop q p0 x = ((k_empty q p0 x).1, 0, (k_empty q p0 x).2) := by unfold kk_drop; rw [if_neg hc0, if_neg hc1, if_pos hc]
        rw [show (kk_drop q p0 x).1 = (k_empty q p0 x).1 by rw [e1]]
        rw [show (kk_drop q p0 x).2.1 = 0 by rw [e1]]
        rw [show (kk_drop q p0 x).2.2 = (k_empty q p0 x).2 by rw [e1]]
        rw [k_ans_0]
        refine ob_callW (v := (some (.int ((k_empty q p0 x).1)))) (X := [(j, .inl (tJ, 1, .inr (.inl v)))]) (M := xW b F S tI tZ tA q) (M' := xW b F S tI tZ tA ((k_empty q p0 x).2)) (ob_runV (n := 2) (As := [.int p0, .int x]) (rest := [.int 0, .ref j]) (c_X_drop l D tI tZ tA tJ b F S s.heap.size q p0 x) (hT.ok ob_cd_c (by decide +kernel) rfl rfl (Nat.le_of_ble_eq_true rfl) (Nat.le_of_ble_eq_true rfl) kn_X kc_X_drop) hx hb hml hown (hT.w k_L_24) (hT.w ki_X_drop) (hT.w kv_X_drop) (va_recv (q0 := 1) (ci := 0) hT.1 hP rfl rfl) pW.blind (pW.at hT (⟨hc0, hc1, hc, hok hc0 hc1 hc⟩) (ob_Pr hP) (ob_Dr hD)) rfl rfl hl.1 rfl (lv_room (Nat.le_of_ble_eq_true rfl)) d_L_drop_5 ⟨Nat.le_of_ble_eq_true rfl, Nat.le_of_ble_eq_true rfl⟩) hP hD hS hA (fun H locs hP hD hS => ?_)
        have hP : va_P D vcl ([(j, .inl (tJ, 1, .inr (.inl v)))] ++ xW b F S tI tZ tA ((k_empty q p0 x).2)) H := hP
        have hD : va_D A ([(j, .inl (tJ, 1, .inr (.inl v)))] ++ xW b F S tI tZ tA ((k_empty q p0 x).2)) := hD
        refine W.eq (g2 := F0 m 8 ls [.int ((k_empty q p0 x).1), .int 0, .ref j]) rfl ?_
        refine W.widen (k := 1) (n := 6) (Nat.le_of_ble_eq_true rfl) (Nat.le_of_ble_eq_true rfl) ?_
        refine lv_if_eq (tgt := 15) hx hb d_L_drop_8 (by decide) (fun hc => ?_) (fun hc => ?_)
        · rw [if_pos hc]
          refine lv_lconst (v := 0) hx hb d_L_drop_15 rfl ?_
          refine va_last hx hb hT.1 hP hD hS 0 3 rfl rfl (vp_in_nI (n := 0) (N := 1) (by omega) (by omega)) d_L_drop_16 (fun H locs hP hD hS => ?_)
          have hP : va_P D vcl ([(j, .inl (tJ, 1, .inr (.inl (vp_updL v 0 0))))] ++ xW b F S tI tZ tA ((k_empty q p0 x).2)) H := hP
          have hD : va_D A ([(j, .inl (tJ, 1, .inr (.inl (vp_updL v 0 0))))] ++ xW b F S tI tZ tA ((k_empty q p0 x).2)) := hD
          refine lv_goto (tgt := 28) hx hb d_L_drop_17 (by decide) ?_
          refine lv_iconst (v := 0) hx hb d_L_drop_28 (by decide) ?_
          refine ob_iret hlocks hx hb hr d_L_drop_29 hS.2.2 (fun t ht hW => ?_)
          exact ⟨rfl, by rw [ht]; exact hP, hD, hS.F ht⟩
        · rw [if_neg hc]
          refine lv_lconst (v := 1) hx hb d_L_drop_11 rfl ?_
          refine lv_goto (tgt := 16) hx hb d_L_drop_12 (by decide) ?_
          refine va_last hx hb hT.1 hP hD hS 0 3 rfl rfl (vp_in_nI (n := 0) (N := 1) (by omega) (by omega)) d_L_drop_16 (fun H locs hP hD hS => ?_)
          have hP : va_P D vcl ([(j, .inl (tJ, 1, .inr (.inl (vp_updL v 0 1))))] ++ xW b F S tI tZ tA ((k_empty q p0 x).2)) H := hP
          have hD : va_D A ([(j, .inl (tJ, 1, .inr (.inl (vp_updL v 0 1))))] ++ xW b F S tI tZ tA ((k_empty q p0 x).2)) := hD
          refine lv_goto (tgt := 28) hx hb d_L_drop_17 (by decide) ?_
          refine lv_iconst (v := 0) hx hb d_L_drop_28 (by decide) ?_
          refine ob_iret hlocks hx hb hr d_L_drop_29 hS.2.2 (fun t ht hW => ?_)
          exact ⟨rfl, by rw [ht]; exact hP, hD, hS.F ht⟩
      · have e1 : kk_drop q p0 x = (0, 2, q) := by unfold kk_drop; rw [if_neg hc0, if_neg hc1, if_neg hc]
        rw [show (kk_drop q p0 x).1 = 0 by rw [e1]]
        rw [show (kk_drop q p0 x).2.1 = 2 by rw [e1]]
        rw [show (kk_drop q p0 x).2.2 = q by rw [e1]]
        rw [k_ans_no (by decide)]
        refine ob_callT (E := R_Ei) (X := [(j, .inl (tJ, 1, .inr (.inl v)))]) (M := xW b F S tI tZ tA q) (M' := xW b F S tI tZ tA q) (ob_runV (n := 2) (As := [.int p0, .int x]) (rest := [.int 0, .ref j]) (t_X_drop2 l D tI tZ tA tJ htr b F S s.heap.size q p0 x) (hT.ok ob_cd_c (by decide +kernel) rfl rfl (Nat.le_of_ble_eq_true rfl) (Nat.le_of_ble_eq_true rfl) kn_X kc_X_drop) hx hb hml hown (hT.w k_L_24) (hT.w ki_X_drop) (hT.w kv_X_drop) (va_recv (q0 := 1) (ci := 0) hT.1 hP rfl rfl) pT.blind (pT.at hT (hz.on hS hpl) (⟨hc0, fun _ => Int32.not_lt.mp hc⟩) (ob_Pr hP) (ob_Dr hD)) rfl rfl hl.1 rfl (lv_room (Nat.le_of_ble_eq_true rfl)) d_L_drop_5 ⟨Nat.le_of_ble_eq_true rfl, Nat.le_of_ble_eq_true rfl⟩) hP hD hS hA (fun xc H locs hex hP hD hS => ?_)
        have hP : va_P D vcl ([(j, .inl (tJ, 1, .inr (.inl v)))] ++ xW b F S tI tZ tA q) H := hP
        have hD : va_D A ([(j, .inl (tJ, 1, .inr (.inl v)))] ++ xW b F S tI tZ tA q) := hD
        refine ct_catch (own := R_L) (name := R_Ei) (E := R_Ei) hown [⟨0, 17, 20, 19⟩] ⟨0, 17, 24, 28⟩ [] (by rw [htab]; rfl) (fun y hy => by rw [List.mem_singleton.mp hy]; exact ⟨rfl, (by decide), R_En, hT.w k_L_19, hT.2.2.2 (R_Ei, R_En) (by decide +kernel)⟩) rfl (by decide) (hT.w k_L_28) (hT.2.1 (.castable R_Ei R_Ei) cs_Ei rfl _) hex ?_
        refine lv_astore (lv' := [(4, .ref xc), (0, .ref (b 0)), (1, .int p0), (2, .int x), (3, .ref j)]) hx hb d_L_drop_24 hl (by decide) rfl (fun ls hl => ?_)
        refine lv_iconst (v := 2) hx hb d_L_drop_26 (by decide) ?_
        refine ob_iret hlocks hx hb hr d_L_drop_27 hS.2.2 (fun t ht hW => ?_)
        exact ⟨rfl, by rw [ht]; exact hP, hD, hS.F ht⟩

set_option maxHeartbeats 4000000 in
set_option maxRecDepth 100000 in
/-- L_load -/
theorem c_L_load (l : Launch) (D : va_G) (tI tZ tA tJ : ClassId) (htr : l.stackTraces = false) (b : Nat → Nat) (F S sz : Nat) (q : KS) (j : Nat) (v : Nat → Int64) (p0 a : Int32) : ob_M l y_L_load w_L_load ({ frames := 8, cells := 1, slots := 6, locals := 174 }) (pT D tI tZ tA tJ [.ref (b 0), .int p0, .int a, .ref j] ([(j, .inl (tJ, 1, .inr (.inl v)))] ++ xW b F S tI tZ tA q) sz (¬ m_isP (ks_th q) p0 = 0 → ¬ m_isA a = 0 → xl_ok F S q p0 a)) (ob_qW D vcl (some (.int ((kk_load F S q p0 a).2.1))) ([(j, .inl (tJ, 1, .inr (.inl (k_ans ((kk_load F S q p0 a).2.1) v (((kk_load F S q p0 a).1).toInt64)))))] ++ xW b F S tI tZ tA ((kk_load F S q p0 a).2.2)) (va_A ([(j, .inl (tJ, 1, .inr (.inl v)))] ++ xW b F S tI tZ tA q) sz)) 1 6 (va_A ([(j, .inl (tJ, 1, .inr (.inl v)))] ++ xW b F S tI tZ tA q) sz) := by
  refine ob_ofWH (by decide +kernel) ?_
  intro p e s m args below meth c s₁ B hml htab hv
  obtain ⟨rfl, hT, hz, hok, hsz, hP, hD0⟩ := hv
  have hx := B.exec
  have hb := B.bytes
  have hr := B.returns
  have hlocks := B.notSynchronized
  have hown : s.vm.findClass R_L = some m.cls := findClass_of_methodNamed B.named
  have hl := lv_entry ([.ref (b 0), .int p0, .int a, .ref j]) (n := 5) (Nat.le_of_ble_eq_true rfl)
  rw [lg_entry_eq]
  generalize (lg_sl ([.ref (b 0), .int p0, .int a, .ref j]) ++ List.replicate (5 - (lg_sl ([.ref (b 0), .int p0, .int a, .ref j])).length) Slot.unset).toArray = ls at hl ⊢
  have hl : lv_has ls 5 [(0, .ref (b 0)), (1, .int p0), (2, .int a), (3, .ref j)] := hl
  subst hsz
  have hD := hD0.self (sz := s.heap.size)
  have hpl : ∀ a, va_A ([(j, .inl (tJ, 1, .inr (.inl v)))] ++ xW b F S tI tZ tA q) s.heap.size a → ∀ cell, s.heap[a]? = some cell → cell.vm.isStatics = false := va_A.plain hP
  generalize hAe : va_A ([(j, .inl (tJ, 1, .inr (.inl v)))] ++ xW b F S tI tZ tA q) s.heap.size = A at hD hpl ⊢
  have hA : ∀ q : Nat, s.heap.size ≤ q → A q := fun q h => by rw [← hAe]; exact Or.inr h
  have hS : va_S A s.heap s.heap [] := va_S.rf
  refine lv_aload_n hx hb d_L_load_0 rfl (lv_at hl 3 rfl) ?_
  refine lv_iconst (v := 0) hx hb d_L_load_1 (by decide) ?_
  refine lv_aload_n hx hb d_L_load_2 rfl (lv_at hl 0 rfl) ?_
  refine lv_iload_n hx hb d_L_load_3 rfl (lv_at hl 1 rfl) ?_
  refine lv_iload_n hx hb d_L_load_4 rfl (lv_at hl 2 rfl) ?_
  by_cases hc : m_isP (ks_th q) p0 = 0
  · have e1 : kk_load F S q p0 a = (0, 1, q) := if_pos hc
    rw [show (kk_load F S q p0 a).1 = 0 by rw [e1]]
    rw [show (kk_load F S q p0 a).2.1 = 1 by rw [e1]]
    rw [show (kk_load F S q p0 a).2.2 = q by rw [e1]]
    rw [k_ans_no (by decide)]
    refine ob_callT (E := R_En) (X := [(j, .inl (tJ, 1, .inr (.inl v)))]) (M := xW b F S tI tZ tA q) (M' := xW b F S tI tZ tA q) (ob_runV (n := 2) (As := [.int p0, .int a]) (rest := [.int 0, .ref j]) (t_X_load1 l D tI tZ tA tJ htr b F S s.heap.size q p0 a) (hT.ok ob_cd_c (by decide +kernel) rfl rfl (Nat.le_of_ble_eq_true rfl) (Nat.le_of_ble_eq_true rfl) kn_X kc_X_load) hx hb hml hown (hT.w k_L_30) (hT.w ki_X_load) (hT.w kv_X_load) (va_recv (q0 := 1) (ci := 0) hT.1 hP rfl rfl) pT.blind (pT.at hT (hz.on hS hpl) (hc) (ob_Pr hP) (ob_Dr hD)) rfl rfl hl.1 rfl (lv_room (Nat.le_of_ble_eq_true rfl)) d_L_load_5 ⟨Nat.le_of_ble_eq_true rfl, Nat.le_of_ble_eq_true rfl⟩) hP hD hS hA (fun xc H locs hex hP hD hS => ?_)
    have hP : va_P D vcl ([(j, .inl (tJ, 1, .inr (.inl v)))] ++ xW b F S tI tZ tA q) H := hP
    have hD : va_D A ([(j, .inl (tJ, 1, .inr (.inl v)))] ++ xW b F S tI tZ tA q) := hD
    refine ct_catch (own := R_L) (name := R_En) (E := R_En) hown [] ⟨0, 10, 13, 19⟩ [⟨0, 10, 17, 28⟩] (by rw [htab]; rfl) (fun y hy => nomatch hy) rfl (by decide) (hT.w k_L_19) (hT.2.1 (.castable R_En R_En) cs_En rfl _) hex ?_
    refine lv_astore (lv' := [(4, .ref xc), (0, .ref (b 0)), (1, .int p0), (2, .int a), (3, .ref j)]) hx hb d_L_load_13 hl (by decide) rfl (fun ls hl => ?_)
    refine lv_iconst (v := 1) hx hb d_L_load_15 (by decide) ?_
    refine ob_iret hlocks hx hb hr d_L_load_16 hS.2.2 (fun t ht hW => ?_)
    exact ⟨rfl, by rw [ht]; exact hP, hD, hS.F ht⟩
  · have hc0 := hc
    by_cases hc : m_isA a = 0
    · have e1 : kk_load F S q p0 a = (0, 2, q) := by unfold kk_load; rw [if_neg hc0, if_pos hc]
      rw [show (kk_load F S q p0 a).1 = 0 by rw [e1]]
      rw [show (kk_load F S q p0 a).2.1 = 2 by rw [e1]]
      rw [show (kk_load F S q p0 a).2.2 = q by rw [e1]]
      rw [k_ans_no (by decide)]
      refine ob_callT (E := R_Ei) (X := [(j, .inl (tJ, 1, .inr (.inl v)))]) (M := xW b F S tI tZ tA q) (M' := xW b F S tI tZ tA q) (ob_runV (n := 2) (As := [.int p0, .int a]) (rest := [.int 0, .ref j]) (t_X_load2 l D tI tZ tA tJ htr b F S s.heap.size q p0 a) (hT.ok ob_cd_c (by decide +kernel) rfl rfl (Nat.le_of_ble_eq_true rfl) (Nat.le_of_ble_eq_true rfl) kn_X kc_X_load) hx hb hml hown (hT.w k_L_30) (hT.w ki_X_load) (hT.w kv_X_load) (va_recv (q0 := 1) (ci := 0) hT.1 hP rfl rfl) pT.blind (pT.at hT (hz.on hS hpl) (⟨hc0, hc⟩) (ob_Pr hP) (ob_Dr hD)) rfl rfl hl.1 rfl (lv_room (Nat.le_of_ble_eq_true rfl)) d_L_load_5 ⟨Nat.le_of_ble_eq_true rfl, Nat.le_of_ble_eq_true rfl⟩) hP hD hS hA (fun xc H locs hex hP hD hS => ?_)
      have hP : va_P D vcl ([(j, .inl (tJ, 1, .inr (.inl v)))] ++ xW b F S tI tZ tA q) H := hP
      have hD : va_D A ([(j, .inl (tJ, 1, .inr (.inl v)))] ++ xW b F S tI tZ tA q) := hD
      refine ct_catch (own := R_L) (name := R_Ei) (E := R_Ei) hown [⟨0, 10, 13, 19⟩] ⟨0, 10, 17, 28⟩ [] (by rw [htab]; rfl) (fun y hy => by rw [List.mem_singleton.mp hy]; exact ⟨rfl, (by decide), R_En, hT.w k_L_19, hT.2.2.2 (R_Ei, R_En) (by decide +kernel)⟩) rfl (by decide) (hT.w k_L_28) (hT.2.1 (.castable R_Ei R_Ei) cs_Ei rfl _) hex ?_
      refine lv_astore (lv' := [(4, .ref xc), (0, .ref (b 0)), (1, .int p0), (2, .int a), (3, .ref j)]) hx hb d_L_load_17 hl (by decide) rfl (fun ls hl => ?_)
      refine lv_iconst (v := 2) hx hb d_L_load_19 (by decide) ?_
      refine ob_iret hlocks hx hb hr d_L_load_20 hS.2.2 (fun t ht hW => ?_)
      exact ⟨rfl, by rw [ht]; exact hP, hD, hS.F ht⟩
    · have e1 : kk_load F S q p0 a = ((k_loadW F S q p0 a).1, 0, (k_loadW F S q p0 a).2) := by unfold kk_load; rw [if_neg hc0, if_neg hc]
      rw [show (kk_load F S q p0 a).1 = (k_loadW F S q p0 a).1 by rw [e1]]
      rw [show (kk_load F S q p0 a).2.1 = 0 by rw [e1]]
      rw [show (kk_load F S q p0 a).2.2 = (k_loadW F S q p0 a).2 by rw [e1]]
      rw [k_ans_0]
      refine ob_callW (v := (some (.int ((k_loadW F S q p0 a).1)))) (X := [(j, .inl (tJ, 1, .inr (.inl v)))]) (M := xW b F S tI tZ tA q) (M' := xW b F S tI tZ tA ((k_loadW F S q p0 a).2)) (ob_runV (n := 2) (As := [.int p0, .int a]) (rest := [.int 0, .ref j]) (c_X_load l D tI tZ tA tJ b F S s.heap.size q p0 a) (hT.ok ob_cd_c (by decide +kernel) rfl rfl (Nat.le_of_ble_eq_true rfl) (Nat.le_of_ble_eq_true rfl) kn_X kc_X_load) hx hb hml hown (hT.w k_L_30) (hT.w ki_X_load) (hT.w kv_X_load) (va_recv (q0 := 1) (ci := 0) hT.1 hP rfl rfl) pW.blind (pW.at hT (⟨hc0, hc, hok hc0 hc⟩) (ob_Pr hP) (ob_Dr hD)) rfl rfl hl.1 rfl (lv_room (Nat.le_of_ble_eq_true rfl)) d_L_load_5 ⟨Nat.le_of_ble_eq_true rfl, Nat.le_of_ble_eq_true rfl⟩) hP hD hS hA (fun H locs hP hD hS => ?_)
      have hP : va_P D vcl ([(j, .inl (tJ, 1, .inr (.inl v)))] ++ xW b F S tI tZ tA ((k_loadW F S q p0 a).2)) H := hP
      have hD : va_D A ([(j, .inl (tJ, 1, .inr (.inl v)))] ++ xW b F S tI tZ tA ((k_loadW F S q p0 a).2)) := hD
      refine W.eq (g2 := F0 m 8 ls [.int ((k_loadW F S q p0 a).1), .int 0, .ref j]) rfl ?_
      refine W.widen (k := 1) (n := 6) (Nat.le_of_ble_eq_true rfl) (Nat.le_of_ble_eq_true rfl) ?_
      refine lv_i2l hx hb d_L_load_8 rfl ?_
      refine va_last hx hb hT.1 hP hD hS 0 3 rfl rfl (vp_in_nI (n := 0) (N := 1) (by omega) (by omega)) d_L_load_9 (fun H locs hP hD hS => ?_)
      have hP : va_P D vcl ([(j, .inl (tJ, 1, .inr (.inl (vp_updL v 0 (((k_loadW F S q p0 a).1).toInt64)))))] ++ xW b F S tI tZ tA ((k_loadW F S q p0 a).2)) H := hP
      have hD : va_D A ([(j, .inl (tJ, 1, .inr (.inl (vp_updL v 0 (((k_loadW F S q p0 a).1).toInt64)))))] ++ xW b F S tI tZ tA ((k_loadW F S q p0 a).2)) := hD
      refine lv_goto (tgt := 21) hx hb d_L_load_10 (by decide) ?_
      refine lv_iconst (v := 0) hx hb d_L_load_21 (by decide) ?_
      refine ob_iret hlocks hx hb hr d_L_load_22 hS.2.2 (fun t ht hW => ?_)
      exact ⟨rfl, by rw [ht]; exact hP, hD, hS.F ht⟩

set_option maxHeartbeats 4000000 in
set_option maxRecDepth 100000 in
/-- L_store -/
theorem c_L_store (l : Launch) (D : va_G) (tI tZ tA tJ : ClassId) (htr : l.stackTraces = false) (b : Nat → Nat) (F S sz : Nat) (q : KS) (p0 a v : Int32) : ob_M l y_L_store w_L_store ({ frames := 9, cells := 1, slots := 6, locals := 178 }) (pT D tI tZ tA tJ [.ref (b 0), .int p0, .int a, .int v] (xW b F S tI tZ tA q) sz (¬ m_isP (ks_th q) p0 = 0 → ¬ m_isA a = 0 → (k_no F S q p0 (a / 4) = 0 → xs_ok F S q p0 a) ∧ (¬ k_no F S q p0 (a / 4) = 0 → xt_ok F S q p0 a))) (ob_qW D vcl (some (.int ((kk_store F S q p0 a v).1))) (xW b F S tI tZ tA ((kk_store F S q p0 a v).2)) (va_A (xW b F S tI tZ tA q) sz)) 1 6 (va_A (xW b F S tI tZ tA q) sz) := by
  refine ob_ofWH (by decide +kernel) ?_
  intro p e s m args below meth c s₁ B hml htab hv
  obtain ⟨rfl, hT, hz, hok, hsz, hP, hD0⟩ := hv
  have hx := B.exec
  have hb := B.bytes
  have hr := B.returns
  have hlocks := B.notSynchronized
  have hown : s.vm.findClass R_L = some m.cls := findClass_of_methodNamed B.named
  have hl := lv_entry ([.ref (b 0), .int p0, .int a, .int v]) (n := 5) (Nat.le_of_ble_eq_true rfl)
  rw [lg_entry_eq]
  generalize (lg_sl ([.ref (b 0), .int p0, .int a, .int v]) ++ List.replicate (5 - (lg_sl ([.ref (b 0), .int p0, .int a, .int v])).length) Slot.unset).toArray = ls at hl ⊢
  have hl : lv_has ls 5 [(0, .ref (b 0)), (1, .int p0), (2, .int a), (3, .int v)] := hl
  subst hsz
  have hD := hD0.self (sz := s.heap.size)
  have hpl : ∀ a, va_A (xW b F S tI tZ tA q) s.heap.size a → ∀ cell, s.heap[a]? = some cell → cell.vm.isStatics = false := va_A.plain hP
  generalize hAe : va_A (xW b F S tI tZ tA q) s.heap.size = A at hD hpl ⊢
  have hA : ∀ q : Nat, s.heap.size ≤ q → A q := fun q h => by rw [← hAe]; exact Or.inr h
  have hS : va_S A s.heap s.heap [] := va_S.rf
  refine lv_aload_n hx hb d_L_store_0 rfl (lv_at hl 0 rfl) ?_
  refine lv_iload_n hx hb d_L_store_1 rfl (lv_at hl 1 rfl) ?_
  refine lv_iload_n hx hb d_L_store_2 rfl (lv_at hl 2 rfl) ?_
  refine lv_iload_n hx hb d_L_store_3 rfl (lv_at hl 3 rfl) ?_
  by_cases hc : m_isP (ks_th q) p0 = 0
  · have e1 : kk_store F S q p0 a v = (1, q) := if_pos hc
    rw [show (kk_store F S q p0 a v).1 = 1 by rw [e1]]
    rw [show (kk_store F S q p0 a v).2 = q by rw [e1]]
    refine ob_callT (E := R_En) (X := []) (M := xW b F S tI tZ tA q) (M' := xW b F S tI tZ tA q) (ob_runV (n := 3) (As := [.int p0, .int a, .int v]) (rest := []) (t_X_store1 l D tI tZ tA tJ htr b F S s.heap.size q p0 a v) (hT.ok ob_cd_c (by decide +kernel) rfl rfl (Nat.le_of_ble_eq_true rfl) (Nat.le_of_ble_eq_true rfl) kn_X kc_X_store) hx hb hml hown (hT.w k_L_34) (hT.w ki_X_store) (hT.w kv_X_store) (va_recv (q0 := 0) (ci := 0) hT.1 hP rfl rfl) pT.blind (pT.at hT (hz.on hS hpl) (hc) hP hD) rfl rfl hl.1 rfl (lv_room (Nat.le_of_ble_eq_true rfl)) d_L_store_4 ⟨Nat.le_of_ble_eq_true rfl, Nat.le_of_ble_eq_true rfl⟩) hP hD hS hA (fun xc H locs hex hP hD hS => ?_)
    have hP : va_P D vcl (xW b F S tI tZ tA q) H := hP
    have hD : va_D A (xW b F S tI tZ tA q) := hD
    refine ct_catch (own := R_L) (name := R_En) (E := R_En) hown [] ⟨0, 7, 10, 19⟩ [⟨0, 7, 14, 28⟩, ⟨0, 7, 18, 13⟩] (by rw [htab]; rfl) (fun y hy => nomatch hy) rfl (by decide) (hT.w k_L_19) (hT.2.1 (.castable R_En R_En) cs_En rfl _) hex ?_
    refine lv_astore (lv' := [(4, .ref xc), (0, .ref (b 0)), (1, .int p0), (2, .int a), (3, .int v)]) hx hb d_L_store_10 hl (by decide) rfl (fun ls hl => ?_)
    refine lv_iconst (v := 1) hx hb d_L_store_12 (by decide) ?_
    refine ob_iret hlocks hx hb hr d_L_store_13 hS.2.2 (fun t ht hW => ?_)
    exact ⟨rfl, by rw [ht]; exact hP, hD, hS.F ht⟩
  · have hc0 := hc
    by_cases hc : m_isA a = 0
    · have e1 : kk_store F S q p0 a v = (2, q) := by unfold kk_store; rw [if_neg hc0, if_pos hc]
      rw [show (kk_store F S q p0 a v).1 = 2 by rw [e1]]
      rw [show (kk_store F S q p0 a v).2 = q by rw [e1]]
      refine ob_callT (E := R_Ei) (X := []) (M := xW b F S tI tZ tA q) (M' := xW b F S tI tZ tA q) (ob_runV (n := 3) (As := [.int p0, .int a, .int v]) (rest := []) (t_X_store2 l D tI tZ tA tJ htr b F S s.heap.size q p0 a v) (hT.ok ob_cd_c (by decide +kernel) rfl rfl (Nat.le_of_ble_eq_true rfl) (Nat.le_of_ble_eq_true rfl) kn_X kc_X_store) hx hb hml hown (hT.w k_L_34) (hT.w ki_X_store) (hT.w kv_X_store) (va_recv (q0 := 0) (ci := 0) hT.1 hP rfl rfl) pT.blind (pT.at hT (hz.on hS hpl) (⟨hc0, hc⟩) hP hD) rfl rfl hl.1 rfl (lv_room (Nat.le_of_ble_eq_true rfl)) d_L_store_4 ⟨Nat.le_of_ble_eq_true rfl, Nat.le_of_ble_eq_true rfl⟩) hP hD hS hA (fun xc H locs hex hP hD hS => ?_)
      have hP : va_P D vcl (xW b F S tI tZ tA q) H := hP
      have hD : va_D A (xW b F S tI tZ tA q) := hD
      refine ct_catch (own := R_L) (name := R_Ei) (E := R_Ei) hown [⟨0, 7, 10, 19⟩] ⟨0, 7, 14, 28⟩ [⟨0, 7, 18, 13⟩] (by rw [htab]; rfl) (fun y hy => by rw [List.mem_singleton.mp hy]; exact ⟨rfl, (by decide), R_En, hT.w k_L_19, hT.2.2.2 (R_Ei, R_En) (by decide +kernel)⟩) rfl (by decide) (hT.w k_L_28) (hT.2.1 (.castable R_Ei R_Ei) cs_Ei rfl _) hex ?_
      refine lv_astore (lv' := [(4, .ref xc), (0, .ref (b 0)), (1, .int p0), (2, .int a), (3, .int v)]) hx hb d_L_store_14 hl (by decide) rfl (fun ls hl => ?_)
      refine lv_iconst (v := 2) hx hb d_L_store_16 (by decide) ?_
      refine ob_iret hlocks hx hb hr d_L_store_17 hS.2.2 (fun t ht hW => ?_)
      exact ⟨rfl, by rw [ht]; exact hP, hD, hS.F ht⟩
    · have hc1 := hc
      by_cases hc : k_no F S q p0 (a / 4) = 0
      · have e1 : kk_store F S q p0 a v = (0, k_storeW F S q p0 a v) := by unfold kk_store; rw [if_neg hc0, if_neg hc1, if_pos hc]
        rw [show (kk_store F S q p0 a v).1 = 0 by rw [e1]]
        rw [show (kk_store F S q p0 a v).2 = k_storeW F S q p0 a v by rw [e1]]
        refine ob_callW (v := none) (X := []) (M := xW b F S tI tZ tA q) (M' := xW b F S tI tZ tA (k_storeW F S q p0 a v)) (ob_runV (n := 3) (As := [.int p0, .int a, .int v]) (rest := []) (c_X_store l D tI tZ tA tJ b F S s.heap.size q p0 a v) (hT.ok ob_cd_c (by decide +kernel) rfl rfl (Nat.le_of_ble_eq_true rfl) (Nat.le_of_ble_eq_true rfl) kn_X kc_X_store) hx hb hml hown (hT.w k_L_34) (hT.w ki_X_store) (hT.w kv_X_store) (va_recv (q0 := 0) (ci := 0) hT.1 hP rfl rfl) pW.blind (pW.at hT (⟨hc0, hc1, (hok hc0 hc1).1 hc⟩) hP hD) rfl rfl hl.1 rfl (lv_room (Nat.le_of_ble_eq_true rfl)) d_L_store_4 ⟨Nat.le_of_ble_eq_true rfl, Nat.le_of_ble_eq_true rfl⟩) hP hD hS hA (fun H locs hP hD hS => ?_)
        have hP : va_P D vcl (xW b F S tI tZ tA (k_storeW F S q p0 a v)) H := hP
        have hD : va_D A (xW b F S tI tZ tA (k_storeW F S q p0 a v)) := hD
        refine W.eq (g2 := F0 m 7 ls []) rfl ?_
        refine W.widen (k := 1) (n := 6) (Nat.le_of_ble_eq_true rfl) (Nat.le_of_ble_eq_true rfl) ?_
        refine lv_goto (tgt := 22) hx hb d_L_store_7 (by decide) ?_
        refine lv_iconst (v := 0) hx hb d_L_store_22 (by decide) ?_
        refine ob_iret hlocks hx hb hr d_L_store_23 hS.2.2 (fun t ht hW => ?_)
        exact ⟨rfl, by rw [ht]; exact hP, hD, hS.F ht⟩
      · have e1 : kk_store F S q p0 a v = (3, kv_m q (k_make F S (ks_m q)).2) := by unfold kk_store; rw [if_neg hc0, if_neg hc1, if_neg hc]
        rw [show (kk_store F S q p0 a v).1 = 3 by rw [e1]]
        rw [show (kk_store F S q p0 a v).2 = kv_m q (k_make F S (ks_m q)).2 by rw [e1]]
        refine ob_callT (E := R_Es) (X := []) (M := xW b F S tI tZ tA q) (M' := xW b F S tI tZ tA (kv_m q (k_make F S (ks_m q)).2)) (ob_runV (n := 3) (As := [.int p0, .int a, .int v]) (rest := []) (t_X_store3 l D tI tZ tA tJ htr b F S s.heap.size q p0 a v) (hT.ok ob_cd_c (by decide +kernel) rfl rfl (Nat.le_of_ble_eq_true rfl) (Nat.le_of_ble_eq_true rfl) kn_X kc_X_store) hx hb hml hown (hT.w k_L_34) (hT.w ki_X_store) (hT.w kv_X_store) (va_recv (q0 := 0) (ci := 0) hT.1 hP rfl rfl) pT.blind (pT.at hT (hz.on hS hpl) (⟨hc0, hc1, (hok hc0 hc1).2 hc, hc⟩) hP hD) rfl rfl hl.1 rfl (lv_room (Nat.le_of_ble_eq_true rfl)) d_L_store_4 ⟨Nat.le_of_ble_eq_true rfl, Nat.le_of_ble_eq_true rfl⟩) hP hD hS hA (fun xc H locs hex hP hD hS => ?_)
        have hP : va_P D vcl (xW b F S tI tZ tA (kv_m q (k_make F S (ks_m q)).2)) H := hP
        have hD : va_D A (xW b F S tI tZ tA (kv_m q (k_make F S (ks_m q)).2)) := hD
        refine ct_catch (own := R_L) (name := R_Es) (E := R_Es) hown [⟨0, 7, 10, 19⟩, ⟨0, 7, 14, 28⟩] ⟨0, 7, 18, 13⟩ [] (by rw [htab]; rfl) (fun y hy => (List.mem_cons.mp hy).elim (fun z => by rw [z]; exact ⟨rfl, (by decide), R_En, hT.w k_L_19, hT.2.2.2 (R_Es, R_En) (by decide +kernel)⟩) (fun z => by rw [List.mem_singleton.mp z]; exact ⟨rfl, (by decide), R_Ei, hT.w k_L_28, hT.2.2.2 (R_Es, R_Ei) (by decide +kernel)⟩)) rfl (by decide) (hT.w k_L_13) (hT.2.1 (.castable R_Es R_Es) cs_Es rfl _) hex ?_
        refine lv_astore (lv' := [(4, .ref xc), (0, .ref (b 0)), (1, .int p0), (2, .int a), (3, .int v)]) hx hb d_L_store_18 hl (by decide) rfl (fun ls hl => ?_)
        refine lv_iconst (v := 3) hx hb d_L_store_20 (by decide) ?_
        refine ob_iret hlocks hx hb hr d_L_store_21 hS.2.2 (fun t ht hW => ?_)
        exact ⟨rfl, by rw [ht]; exact hP, hD, hS.F ht⟩

set_option maxHeartbeats 4000000 in
set_option maxRecDepth 100000 in
/-- L_copy -/
theorem c_L_copy (l : Launch) (D : va_G) (tI tZ tA tJ : ClassId) (htr : l.stackTraces = false) (b : Nat → Nat) (F S sz : Nat) (q : KS) (p0 a d n : Int32) : ob_M l y_L_copy w_L_copy ({ frames := 9, cells := 1, slots := 6, locals := 180 }) (pT D tI tZ tA tJ [.ref (b 0), .int p0, .int a, .int d, .int n] (xW b F S tI tZ tA q) sz (¬ m_isP (ks_th q) p0 = 0 → ¬ k_rng a n = 0 → ¬ k_rng d n = 0 → vp_in n 25 ∧ kc_ok F S p0 a d (ix n) 0 (kv_cp q 0))) (ob_qW D vcl (some (.int ((kk_copy F S q p0 a d n).1))) (xW b F S tI tZ tA ((kk_copy F S q p0 a d n).2)) (va_A (xW b F S tI tZ tA q) sz)) 1 6 (va_A (xW b F S tI tZ tA q) sz) := by
  refine ob_ofWH (by decide +kernel) ?_
  intro p e s m args below meth c s₁ B hml htab hv
  obtain ⟨rfl, hT, hz, hok, hsz, hP, hD0⟩ := hv
  have hx := B.exec
  have hb := B.bytes
  have hr := B.returns
  have hlocks := B.notSynchronized
  have hown : s.vm.findClass R_L = some m.cls := findClass_of_methodNamed B.named
  have hl := lv_entry ([.ref (b 0), .int p0, .int a, .int d, .int n]) (n := 6) (Nat.le_of_ble_eq_true rfl)
  rw [lg_entry_eq]
  generalize (lg_sl ([.ref (b 0), .int p0, .int a, .int d, .int n]) ++ List.replicate (6 - (lg_sl ([.ref (b 0), .int p0, .int a, .int d, .int n])).length) Slot.unset).toArray = ls at hl ⊢
  have hl : lv_has ls 6 [(0, .ref (b 0)), (1, .int p0), (2, .int a), (3, .int d), (4, .int n)] := hl
  subst hsz
  have hD := hD0.self (sz := s.heap.size)
  have hpl : ∀ a, va_A (xW b F S tI tZ tA q) s.heap.size a → ∀ cell, s.heap[a]? = some cell → cell.vm.isStatics = false := va_A.plain hP
  generalize hAe : va_A (xW b F S tI tZ tA q) s.heap.size = A at hD hpl ⊢
  have hA : ∀ q : Nat, s.heap.size ≤ q → A q := fun q h => by rw [← hAe]; exact Or.inr h
  have hS : va_S A s.heap s.heap [] := va_S.rf
  refine lv_aload_n hx hb d_L_copy_0 rfl (lv_at hl 0 rfl) ?_
  refine lv_iload_n hx hb d_L_copy_1 rfl (lv_at hl 1 rfl) ?_
  refine lv_iload_n hx hb d_L_copy_2 rfl (lv_at hl 2 rfl) ?_
  refine lv_iload_n hx hb d_L_copy_3 rfl (lv_at hl 3 rfl) ?_
  refine lv_iload hx hb d_L_copy_4 (lv_at hl 4 rfl) ?_
  by_cases hc : m_isP (ks_th q) p0 = 0
  · have e1 : kk_copy F S q p0 a d n = (1, q) := if_pos hc
    rw [show (kk_copy F S q p0 a d n).1 = 1 by rw [e1]]
    rw [show (kk_copy F S q p0 a d n).2 = q by rw [e1]]
    refine ob_callT (E := R_En) (X := []) (M := xW b F S tI tZ tA q) (M' := xW b F S tI tZ tA q) (ob_runV (n := 4) (As := [.int p0, .int a, .int d, .int n]) (rest := []) (t_X_copy1 l D tI tZ tA tJ htr b F S s.heap.size q p0 a d n) (hT.ok ob_cd_c (by decide +kernel) rfl rfl (Nat.le_of_ble_eq_true rfl) (Nat.le_of_ble_eq_true rfl) kn_X kc_X_copy) hx hb hml hown (hT.w k_L_38) (hT.w ki_X_copy) (hT.w kv_X_copy) (va_recv (q0 := 0) (ci := 0) hT.1 hP rfl rfl) pT.blind (pT.at hT (hz.on hS hpl) (hc) hP hD) rfl rfl hl.1 rfl (lv_room (Nat.le_of_ble_eq_true rfl)) d_L_copy_6 ⟨Nat.le_of_ble_eq_true rfl, Nat.le_of_ble_eq_true rfl⟩) hP hD hS hA (fun xc H locs hex hP hD hS => ?_)
    have hP : va_P D vcl (xW b F S tI tZ tA q) H := hP
    have hD : va_D A (xW b F S tI tZ tA q) := hD
    refine ct_catch (own := R_L) (name := R_En) (E := R_En) hown [] ⟨0, 9, 12, 19⟩ [⟨0, 9, 16, 28⟩, ⟨0, 9, 20, 13⟩] (by rw [htab]; rfl) (fun y hy => nomatch hy) rfl (by decide) (hT.w k_L_19) (hT.2.1 (.castable R_En R_En) cs_En rfl _) hex ?_
    refine lv_astore (lv' := [(5, .ref xc), (0, .ref (b 0)), (1, .int p0), (2, .int a), (3, .int d), (4, .int n)]) hx hb d_L_copy_12 hl (by decide) rfl (fun ls hl => ?_)
    refine lv_iconst (v := 1) hx hb d_L_copy_14 (by decide) ?_
    refine ob_iret hlocks hx hb hr d_L_copy_15 hS.2.2 (fun t ht hW => ?_)
    exact ⟨rfl, by rw [ht]; exact hP, hD, hS.F ht⟩
  · have hc0 := hc
    by_cases hc : k_rng a n = 0
    · have e1 : kk_copy F S q p0 a d n = (2, q) := by unfold kk_copy; rw [if_neg hc0, if_pos hc]
      rw [show (kk_copy F S q p0 a d n).1 = 2 by rw [e1]]
      rw [show (kk_copy F S q p0 a d n).2 = q by rw [e1]]
      refine ob_callT (E := R_Ei) (X := []) (M := xW b F S tI tZ tA q) (M' := xW b F S tI tZ tA q) (ob_runV (n := 4) (As := [.int p0, .int a, .int d, .int n]) (rest := []) (t_X_copy2 l D tI tZ tA tJ htr b F S s.heap.size q p0 a d n) (hT.ok ob_cd_c (by decide +kernel) rfl rfl (Nat.le_of_ble_eq_true rfl) (Nat.le_of_ble_eq_true rfl) kn_X kc_X_copy) hx hb hml hown (hT.w k_L_38) (hT.w ki_X_copy) (hT.w kv_X_copy) (va_recv (q0 := 0) (ci := 0) hT.1 hP rfl rfl) pT.blind (pT.at hT (hz.on hS hpl) (⟨hc0, Or.inl hc⟩) hP hD) rfl rfl hl.1 rfl (lv_room (Nat.le_of_ble_eq_true rfl)) d_L_copy_6 ⟨Nat.le_of_ble_eq_true rfl, Nat.le_of_ble_eq_true rfl⟩) hP hD hS hA (fun xc H locs hex hP hD hS => ?_)
      have hP : va_P D vcl (xW b F S tI tZ tA q) H := hP
      have hD : va_D A (xW b F S tI tZ tA q) := hD
      refine ct_catch (own := R_L) (name := R_Ei) (E := R_Ei) hown [⟨0, 9, 12, 19⟩] ⟨0, 9, 16, 28⟩ [⟨0, 9, 20, 13⟩] (by rw [htab]; rfl) (fun y hy => by rw [List.mem_singleton.mp hy]; exact ⟨rfl, (by decide), R_En, hT.w k_L_19, hT.2.2.2 (R_Ei, R_En) (by decide +kernel)⟩) rfl (by decide) (hT.w k_L_28) (hT.2.1 (.castable R_Ei R_Ei) cs_Ei rfl _) hex ?_
      refine lv_astore (lv' := [(5, .ref xc), (0, .ref (b 0)), (1, .int p0), (2, .int a), (3, .int d), (4, .int n)]) hx hb d_L_copy_16 hl (by decide) rfl (fun ls hl => ?_)
      refine lv_iconst (v := 2) hx hb d_L_copy_18 (by decide) ?_
      refine ob_iret hlocks hx hb hr d_L_copy_19 hS.2.2 (fun t ht hW => ?_)
      exact ⟨rfl, by rw [ht]; exact hP, hD, hS.F ht⟩
    · have hc1 := hc
      by_cases hc : k_rng d n = 0
      · have e1 : kk_copy F S q p0 a d n = (2, q) := by unfold kk_copy; rw [if_neg hc0, if_neg hc1, if_pos hc]
        rw [show (kk_copy F S q p0 a d n).1 = 2 by rw [e1]]
        rw [show (kk_copy F S q p0 a d n).2 = q by rw [e1]]
        refine ob_callT (E := R_Ei) (X := []) (M := xW b F S tI tZ tA q) (M' := xW b F S tI tZ tA q) (ob_runV (n := 4) (As := [.int p0, .int a, .int d, .int n]) (rest := []) (t_X_copy2 l D tI tZ tA tJ htr b F S s.heap.size q p0 a d n) (hT.ok ob_cd_c (by decide +kernel) rfl rfl (Nat.le_of_ble_eq_true rfl) (Nat.le_of_ble_eq_true rfl) kn_X kc_X_copy) hx hb hml hown (hT.w k_L_38) (hT.w ki_X_copy) (hT.w kv_X_copy) (va_recv (q0 := 0) (ci := 0) hT.1 hP rfl rfl) pT.blind (pT.at hT (hz.on hS hpl) (⟨hc0, Or.inr hc⟩) hP hD) rfl rfl hl.1 rfl (lv_room (Nat.le_of_ble_eq_true rfl)) d_L_copy_6 ⟨Nat.le_of_ble_eq_true rfl, Nat.le_of_ble_eq_true rfl⟩) hP hD hS hA (fun xc H locs hex hP hD hS => ?_)
        have hP : va_P D vcl (xW b F S tI tZ tA q) H := hP
        have hD : va_D A (xW b F S tI tZ tA q) := hD
        refine ct_catch (own := R_L) (name := R_Ei) (E := R_Ei) hown [⟨0, 9, 12, 19⟩] ⟨0, 9, 16, 28⟩ [⟨0, 9, 20, 13⟩] (by rw [htab]; rfl) (fun y hy => by rw [List.mem_singleton.mp hy]; exact ⟨rfl, (by decide), R_En, hT.w k_L_19, hT.2.2.2 (R_Ei, R_En) (by decide +kernel)⟩) rfl (by decide) (hT.w k_L_28) (hT.2.1 (.castable R_Ei R_Ei) cs_Ei rfl _) hex ?_
        refine lv_astore (lv' := [(5, .ref xc), (0, .ref (b 0)), (1, .int p0), (2, .int a), (3, .int d), (4, .int n)]) hx hb d_L_copy_16 hl (by decide) rfl (fun ls hl => ?_)
        refine lv_iconst (v := 2) hx hb d_L_copy_18 (by decide) ?_
        refine ob_iret hlocks hx hb hr d_L_copy_19 hS.2.2 (fun t ht hW => ?_)
        exact ⟨rfl, by rw [ht]; exact hP, hD, hS.F ht⟩
      · have hc2 := hc
        obtain ⟨hn25, hkc⟩ := hok hc0 hc1 hc2
        by_cases hc : (k_copyL F S p0 a d (ix n) 0 (kv_cp q 0)).1 = 0
        · have e1 : kk_copy F S q p0 a d n = (0, (k_copyL F S p0 a d (ix n) 0 (kv_cp q 0)).2) := by unfold kk_copy; rw [if_neg hc0, if_neg hc1, if_neg hc2, if_pos hc]
          rw [show (kk_copy F S q p0 a d n).1 = 0 by rw [e1]]
          rw [show (kk_copy F S q p0 a d n).2 = (k_copyL F S p0 a d (ix n) 0 (kv_cp q 0)).2 by rw [e1]]
          refine ob_callW (v := none) (X := []) (M := xW b F S tI tZ tA q) (M' := xW b F S tI tZ tA ((k_copyL F S p0 a d (ix n) 0 (kv_cp q 0)).2)) (ob_runV (n := 4) (As := [.int p0, .int a, .int d, .int n]) (rest := []) (c_X_copy l D tI tZ tA tJ b F S s.heap.size q p0 a d n) (hT.ok ob_cd_c (by decide +kernel) rfl rfl (Nat.le_of_ble_eq_true rfl) (Nat.le_of_ble_eq_true rfl) kn_X kc_X_copy) hx hb hml hown (hT.w k_L_38) (hT.w ki_X_copy) (hT.w kv_X_copy) (va_recv (q0 := 0) (ci := 0) hT.1 hP rfl rfl) pW.blind (pW.at hT (⟨hc0, hc1, hc2, hn25, hc, hkc⟩) hP hD) rfl rfl hl.1 rfl (lv_room (Nat.le_of_ble_eq_true rfl)) d_L_copy_6 ⟨Nat.le_of_ble_eq_true rfl, Nat.le_of_ble_eq_true rfl⟩) hP hD hS hA (fun H locs hP hD hS => ?_)
          have hP : va_P D vcl (xW b F S tI tZ tA ((k_copyL F S p0 a d (ix n) 0 (kv_cp q 0)).2)) H := hP
          have hD : va_D A (xW b F S tI tZ tA ((k_copyL F S p0 a d (ix n) 0 (kv_cp q 0)).2)) := hD
          refine W.eq (g2 := F0 m 9 ls []) rfl ?_
          refine W.widen (k := 1) (n := 6) (Nat.le_of_ble_eq_true rfl) (Nat.le_of_ble_eq_true rfl) ?_
          refine lv_goto (tgt := 24) hx hb d_L_copy_9 (by decide) ?_
          refine lv_iconst (v := 0) hx hb d_L_copy_24 (by decide) ?_
          refine ob_iret hlocks hx hb hr d_L_copy_25 hS.2.2 (fun t ht hW => ?_)
          exact ⟨rfl, by rw [ht]; exact hP, hD, hS.F ht⟩
        · have e1 : kk_copy F S q p0 a d n = (3, (k_copyL F S p0 a d (ix n) 0 (kv_cp q 0)).2) := by unfold kk_copy; rw [if_neg hc0, if_neg hc1, if_neg hc2, if_neg hc]
          rw [show (kk_copy F S q p0 a d n).1 = 3 by rw [e1]]
          rw [show (kk_copy F S q p0 a d n).2 = (k_copyL F S p0 a d (ix n) 0 (kv_cp q 0)).2 by rw [e1]]
          refine ob_callT (E := R_Es) (X := []) (M := xW b F S tI tZ tA q) (M' := xW b F S tI tZ tA ((k_copyL F S p0 a d (ix n) 0 (kv_cp q 0)).2)) (ob_runV (n := 4) (As := [.int p0, .int a, .int d, .int n]) (rest := []) (t_X_copy3 l D tI tZ tA tJ htr b F S s.heap.size q p0 a d n) (hT.ok ob_cd_c (by decide +kernel) rfl rfl (Nat.le_of_ble_eq_true rfl) (Nat.le_of_ble_eq_true rfl) kn_X kc_X_copy) hx hb hml hown (hT.w k_L_38) (hT.w ki_X_copy) (hT.w kv_X_copy) (va_recv (q0 := 0) (ci := 0) hT.1 hP rfl rfl) pT.blind (pT.at hT (hz.on hS hpl) (⟨hc0, hc1, hc2, hn25, hc, hkc⟩) hP hD) rfl rfl hl.1 rfl (lv_room (Nat.le_of_ble_eq_true rfl)) d_L_copy_6 ⟨Nat.le_of_ble_eq_true rfl, Nat.le_of_ble_eq_true rfl⟩) hP hD hS hA (fun xc H locs hex hP hD hS => ?_)
          have hP : va_P D vcl (xW b F S tI tZ tA ((k_copyL F S p0 a d (ix n) 0 (kv_cp q 0)).2)) H := hP
          have hD : va_D A (xW b F S tI tZ tA ((k_copyL F S p0 a d (ix n) 0 (kv_cp q 0)).2)) := hD
          refine ct_catch (own := R_L) (name := R_Es) (E := R_Es) hown [⟨0, 9, 12, 19⟩, ⟨0, 9, 16, 28⟩] ⟨0, 9, 20, 13⟩ [] (by rw [htab]; rfl) (fun y hy => (List.mem_cons.mp hy).elim (fun z => by rw [z]; exact ⟨rfl, (by decide), R_En, hT.w k_L_19, hT.2.2.2 (R_Es, R_En) (by decide +kernel)⟩) (fun z => by rw [List.mem_singleton.mp z]; exact ⟨rfl, (by decide), R_Ei, hT.w k_L_28, hT.2.2.2 (R_Es, R_Ei) (by decide +kernel)⟩)) rfl (by decide) (hT.w k_L_13) (hT.2.1 (.castable R_Es R_Es) cs_Es rfl _) hex ?_
          refine lv_astore (lv' := [(5, .ref xc), (0, .ref (b 0)), (1, .int p0), (2, .int a), (3, .int d), (4, .int n)]) hx hb d_L_copy_20 hl (by decide) rfl (fun ls hl => ?_)
          refine lv_iconst (v := 3) hx hb d_L_copy_22 (by decide) ?_
          refine ob_iret hlocks hx hb hr d_L_copy_23 hS.2.2 (fun t ht hW => ?_)
          exact ⟨rfl, by rw [ht]; exact hP, hD, hS.F ht⟩
