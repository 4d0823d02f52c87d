theorem lowP_in {th : Nat → Int32} (h : ¬ m_lowP th 6 0 = -1) : vp_in (m_lowP th 6 0) 6 := by
  rcases m_lowP_or th 6 0 with h1 | ⟨j, -, b, c, -⟩
  · exact absurd h1 h
  · rw [c]; exact vp_in_nI (by omega) (by omega)
def k_spawn (q : KS) : KS := kv_th q (upd (ks_th q) (ix (m_lowP (ks_th q) 6 0)) 1)
def k_fork1 (q : KS) (p c g : Int32) : KS := if k_at q p g = -1 then k_setp q c g (k_at q p g) else kv_m (k_setp q c g (k_at q p g)) (k_join (ks_m q) (k_at q p g))
def k_forkL (p c : Int32) : Nat → Nat → KS → KS
  | 0, _, q => q
  | n + 1, g, q => k_forkL p c n (g + 1) (k_fork1 q p c (nI g))
def kf_ok (F S : Nat) (p c : Int32) : Nat → Nat → KS → Prop
  | 0, _, _ => True
  | n + 1, g, q => (¬ k_at q p (nI g) = -1 → vp_in (k_at q p (nI g)) (F + S)) ∧ kf_ok F S p c n (g + 1) (k_fork1 q p c (nI g))
def k_exitL (p : Int32) : Nat → Nat → Int32 → KS → Int32 × KS
  | 0, _, x, q => (x, q)
  | n + 1, g, x, q => k_exitL p n (g + 1) (if (k_empty q p (nI g)).1 = 0 then x else x + 1) (k_empty q p (nI g)).2
def kx_ok (F S : Nat) (p : Int32) : Nat → Nat → KS → Prop
  | 0, _, _ => True
  | n + 1, g, q => xe_ok F S q p (nI g) ∧ kx_ok F S p n (g + 1) (k_empty q p (nI g)).2
/-- whether a store into the page is refused -/
def k_no (F S : Nat) (q : KS) (p g : Int32) : Int32 := if k_need q p g = 0 then 0 else if (k_make F S (ks_m q)).1 = -1 then 1 else 0
/-- refused (1) or not, and the state then -/
def k_copyL (F S : Nat) (p a d : Int32) : Nat → Nat → KS → Int32 × KS
  | 0, _, q => (0, q)
  | n + 1, i, q =>
    if k_no F S (k_loadW F S q p (a + nI i)).2 p ((d + nI i) / 4) = 0 then
      k_copyL F S p a d n (i + 1) (kv_cp (k_storeW F S (k_loadW F S q p (a + nI i)).2 p (d + nI i) (k_loadW F S q p (a + nI i)).1) (ks_cp (k_storeW F S (k_loadW F S q p (a + nI i)).2 p (d + nI i) (k_loadW F S q p (a + nI i)).1) + 1))
    else (1, kv_m (k_loadW F S q p (a + nI i)).2 (k_make F S (ks_m (k_loadW F S q p (a + nI i)).2)).2)
/-- what a refused store asks -/
def xt_ok (F S : Nat) (q : KS) (p a : Int32) : Prop := vp_in p 6 ∧ vp_in (a / 4) 6 ∧ (¬ k_at q p (a / 4) = -1 → vp_in (k_at q p (a / 4)) (F + S)) ∧ mk_ok F S (ks_m q)
def kc_ok (F S : Nat) (p a d : Int32) : Nat → Nat → KS → Prop
  | 0, _, _ => True
  | n + 1, i, q => xl_ok F S q p (a + nI i) ∧ (k_no F S (k_loadW F S q p (a + nI i)).2 p ((d + nI i) / 4) = 0 → xs_ok F S (k_loadW F S q p (a + nI i)).2 p (d + nI i) ∧
      kc_ok F S p a d n (i + 1) (kv_cp (k_storeW F S (k_loadW F S q p (a + nI i)).2 p (d + nI i) (k_loadW F S q p (a + nI i)).1) (ks_cp (k_storeW F S (k_loadW F S q p (a + nI i)).2 p (d + nI i) (k_loadW F S q p (a + nI i)).1) + 1))) ∧
    (¬ k_no F S (k_loadW F S q p (a + nI i)).2 p ((d + nI i) / 4) = 0 → xt_ok F S (k_loadW F S q p (a + nI i)).2 p (d + nI i))
def k_rng (a n : Int32) : Int32 := if 0 ≤ n then (if n ≤ 0 then 1 else if a < 0 then 0 else if 24 ≤ a then 0 else if n ≤ 24 - a then 1 else 0) else 0

set_option maxHeartbeats 4000000 in
set_option maxRecDepth 100000 in
/-- X_requireProcess -/
theorem c_X_requireProcess (l : Launch) (D : va_G) (tI tZ tA tJ : ClassId) (b : Nat → Nat) (F S : Nat) (q : KS) (p0 : Int32) : ob_M l y_X_requireProcess w_X_requireProcess ({ frames := 1, cells := 0, slots := 0, locals := 21 }) (pR D tI tZ tA tJ [.ref (b 0), .int p0] (xW b F S tI tZ tA q) (¬ m_isP (ks_th q) p0 = 0)) (ob_qR none) 0 0 (fun _ => False) := by
  refine ob_ofW (by decide +kernel) ?_
  intro p e s m args below meth c s₁ B hml htab hv
  obtain ⟨rfl, hT, hq, hP⟩ := hv
  have hx := B.exec
  have hb := B.bytes
  have hr := B.returns
  have hlocks := B.notSynchronized
  have hown : s.vm.findClass R_X = some m.cls := findClass_of_methodNamed B.named
  have hl := lv_entry ([.ref (b 0), .int p0]) (n := 2) (Nat.le_of_ble_eq_true rfl)
  rw [lg_entry_eq]
  generalize (lg_sl ([.ref (b 0), .int p0]) ++ List.replicate (2 - (lg_sl ([.ref (b 0), .int p0])).length) Slot.unset).toArray = ls at hl ⊢
  have hl : lv_has ls 2 [(0, .ref (b 0)), (1, .int p0)] := hl
  refine lv_aload_n hx hb d_X_requireProcess_0 rfl (lv_at hl 0 rfl) ?_
  refine lv_iload_n hx hb d_X_requireProcess_1 rfl (lv_at hl 1 rfl) ?_
  refine ob_callR (v := (some (.int (m_isP (ks_th q) p0)))) (ob_runV (n := 1) (As := [.int p0]) (rest := []) (c_X_isThere l D tI tZ tA tJ b F S q p0) (hT.ok ob_cd_c (by decide +kernel) rfl rfl (Nat.le_of_ble_eq_true rfl) (Nat.le_of_ble_eq_true rfl) kn_X kc_X_isThere) hx hb hml hown (hT.w k_X_120) (hT.w ki_X_isThere) (hT.w kv_X_isThere) (va_recv (q0 := 0) (ci := 0) hT.1 hP rfl rfl) pR.blind (pR.at hT (trivial) hP) rfl rfl hl.1 rfl (lv_room (Nat.le_of_ble_eq_true rfl)) d_X_requireProcess_2 ⟨Nat.le_of_ble_eq_true rfl, Nat.le_of_ble_eq_true rfl⟩) ?_
  refine W.eq (g2 := F0 m 5 ls [.int (m_isP (ks_th q) p0)]) rfl ?_
  refine lv_if_ne (tgt := 18) hx hb d_X_requireProcess_5 (by decide) (fun hc => ?_) (fun hc => absurd hc hq)
  refine ob_vret hlocks hx hb hr d_X_requireProcess_18 (fun q hq => nomatch hq) (fun t ht hW => ?_)
  exact ⟨rfl, ht⟩

set_option maxHeartbeats 4000000 in
set_option maxRecDepth 100000 in
/-- X_requireAddress -/
theorem c_X_requireAddress (l : Launch) (D : va_G) (tI tZ tA tJ : ClassId) (a : Int32) : ob_M l y_X_requireAddress w_X_requireAddress ({ frames := 0, cells := 0, slots := 0, locals := 0 }) (pR D tI tZ tA tJ [.int a] ([]) (¬ m_isA a = 0)) (ob_qR none) 0 0 (fun _ => False) := by
  refine ob_ofW (by decide +kernel) ?_
  intro p e s m args below meth c s₁ B hml htab hv
  obtain ⟨rfl, hT, hq, hP⟩ := hv
  have hx := B.exec
  have hb := B.bytes
  have hr := B.returns
  have hlocks := B.notSynchronized
  have hown : s.vm.findClass R_X = some m.cls := findClass_of_methodNamed B.named
  have hl := lv_entry ([.int a]) (n := 1) (Nat.le_of_ble_eq_true rfl)
  rw [lg_entry_eq]
  generalize (lg_sl ([.int a]) ++ List.replicate (1 - (lg_sl ([.int a])).length) Slot.unset).toArray = ls at hl ⊢
  have hl : lv_has ls 1 [(0, .int a)] := hl
  unfold m_isA at hq
  refine lv_iload_n hx hb d_X_requireAddress_0 rfl (lv_at hl 0 rfl) ?_
  refine lv_if_lt (tgt := 10) hx hb d_X_requireAddress_1 (by decide) (fun hc => absurd (if_pos hc) hq) (fun hc => ?_)
  rw [if_neg hc] at hq
  refine lv_iload_n hx hb d_X_requireAddress_4 rfl (lv_at hl 0 rfl) ?_
  refine lv_bipush (v := 24) hx hb d_X_requireAddress_5 (by decide) ?_
  refine lv_icmp_lt (tgt := 20) hx hb d_X_requireAddress_7 (by decide) (fun hc => ?_) (fun hc => absurd (if_pos (Int32.not_lt.mp hc)) hq)
  refine ob_vret hlocks hx hb hr d_X_requireAddress_20 (fun q hq => nomatch hq) (fun t ht hW => ?_)
  exact ⟨rfl, ht⟩

set_option maxHeartbeats 4000000 in
set_option maxRecDepth 100000 in
/-- X_requireRange -/
theorem c_X_requireRange (l : Launch) (D : va_G) (tI tZ tA tJ : ClassId) (a n : Int32) : ob_M l y_X_requireRange w_X_requireRange ({ frames := 0, cells := 0, slots := 0, locals := 0 }) (pR D tI tZ tA tJ [.int a, .int n] ([]) (¬ k_rng a n = 0)) (ob_qR none) 0 0 (fun _ => False) := by
  refine ob_ofW (by decide +kernel) ?_
  intro p e s m args below meth c s₁ B hml htab hv
  obtain ⟨rfl, hT, hq, hP⟩ := hv
  have hx := B.exec
  have hb := B.bytes
  have hr := B.returns
  have hlocks := B.notSynchronized
  have hown : s.vm.findClass R_X = some m.cls := findClass_of_methodNamed B.named
  have hl := lv_entry ([.int a, .int n]) (n := 2) (Nat.le_of_ble_eq_true rfl)
  rw [lg_entry_eq]
  generalize (lg_sl ([.int a, .int n]) ++ List.replicate (2 - (lg_sl ([.int a, .int n])).length) Slot.unset).toArray = ls at hl ⊢
  have hl : lv_has ls 2 [(0, .int a), (1, .int n)] := hl
  unfold k_rng at hq
  refine lv_iload_n hx hb d_X_requireRange_0 rfl (lv_at hl 1 rfl) ?_
  refine lv_if_ge (tgt := 14) hx hb d_X_requireRange_1 (by decide) (fun hc => ?_) (fun hc => absurd (if_neg hc) hq)
  rw [if_pos hc] at hq
  refine lv_iload_n hx hb d_X_requireRange_14 rfl (lv_at hl 1 rfl) ?_
  refine lv_if_le (tgt := 46) hx hb d_X_requireRange_15 (by decide) (fun hc => ?_) (fun hc => ?_)
  · refine ob_vret hlocks hx hb hr d_X_requireRange_46 (fun q hq => nomatch hq) (fun t ht hW => ?_)
    exact ⟨rfl, ht⟩
  · rw [if_neg hc] at hq
    refine lv_iload_n hx hb d_X_requireRange_18 rfl (lv_at hl 0 rfl) ?_
    refine lv_if_lt (tgt := 36) hx hb d_X_requireRange_19 (by decide) (fun hc => absurd (if_pos hc) hq) (fun hc => ?_)
    rw [if_neg hc] at hq
    refine lv_iload_n hx hb d_X_requireRange_22 rfl (lv_at hl 0 rfl) ?_
    refine lv_bipush (v := 24) hx hb d_X_requireRange_23 (by decide) ?_
    refine lv_icmp_ge (tgt := 36) hx hb d_X_requireRange_25 (by decide) (fun hc => absurd (if_pos hc) hq) (fun hc => ?_)
    rw [if_neg hc] at hq
    refine lv_iload_n hx hb d_X_requireRange_28 rfl (lv_at hl 1 rfl) ?_
    refine lv_bipush (v := 24) hx hb d_X_requireRange_29 (by decide) ?_
    refine lv_iload_n hx hb d_X_requireRange_31 rfl (lv_at hl 0 rfl) ?_
    refine lv_isub hx hb d_X_requireRange_32 ?_
    refine lv_icmp_le (tgt := 46) hx hb d_X_requireRange_33 (by decide) (fun hc => ?_) (fun hc => absurd (if_neg hc) hq)
    refine ob_vret hlocks hx hb hr d_X_requireRange_46 (fun q hq => nomatch hq) (fun t ht hW => ?_)
    exact ⟨rfl, ht⟩

set_option maxHeartbeats 4000000 in
set_option maxRecDepth 100000 in
/-- X_spawn -/
theorem c_X_spawn (l : Launch) (D : va_G) (tI tZ tA tJ : ClassId) (b : Nat → Nat) (F S sz : Nat) (q : KS)  : ob_M l y_X_spawn w_X_spawn ({ frames := 1, cells := 0, slots := 0, locals := 21 }) (pW D tI tZ tA tJ [.ref (b 0)] (xW b F S tI tZ tA q) sz (¬ m_lowP (ks_th q) 6 0 = -1)) (ob_qW D vcl (some (.int (m_lowP (ks_th q) 6 0))) (xW b F S tI tZ tA (k_spawn q)) (va_A (xW b F S tI tZ tA q) sz)) 0 0 (va_A (xW b F S tI tZ tA q) sz) := by
  refine ob_ofW (by decide +kernel) ?_
  intro p e s m args below meth c s₁ B hml htab hv
  obtain ⟨rfl, hT, hq, hsz, hP, hD0⟩ := hv
  have hx := B.exec
  have hb := B.bytes
  have hr := B.returns
  have hlocks := B.notSynchronized
  have hown : s.vm.findClass R_X = some m.cls := findClass_of_methodNamed B.named
  have hl := lv_entry ([.ref (b 0)]) (n := 2) (Nat.le_of_ble_eq_true rfl)
  rw [lg_entry_eq]
  generalize (lg_sl ([.ref (b 0)]) ++ List.replicate (2 - (lg_sl ([.ref (b 0)])).length) Slot.unset).toArray = ls at hl ⊢
  have hl : lv_has ls 2 [(0, .ref (b 0))] := hl
  subst hsz
  have hD := hD0.self (sz := s.heap.size)
  generalize hAe : va_A (xW b F S tI tZ tA q) s.heap.size = A at hD ⊢
  have hA : ∀ q : Nat, s.heap.size ≤ q → A q := fun q h => by rw [← hAe]; exact Or.inr h
  have hS : va_S A s.heap s.heap [] := va_S.rf
  have hin := lowP_in hq
  refine lv_aload_n hx hb d_X_spawn_0 rfl (lv_at hl 0 rfl) ?_
  refine ob_callR (v := (some (.int (m_lowP (ks_th q) 6 0)))) (ob_runV (n := 0) (As := []) (rest := []) (c_X_lowestNotThere l D tI tZ tA tJ b F S q) (hT.ok ob_cd_c (by decide +kernel) rfl rfl (Nat.le_of_ble_eq_true rfl) (Nat.le_of_ble_eq_true rfl) kn_X kc_X_lowestNotThere) hx hb hml hown (hT.w k_X_42) (hT.w ki_X_lowestNotThere) (hT.w kv_X_lowestNotThere) (va_recv (q0 := 0) (ci := 0) hT.1 hP rfl rfl) pR.blind (pR.at hT (trivial) hP) rfl rfl hl.1 rfl (lv_room (Nat.le_of_ble_eq_true rfl)) d_X_spawn_1 ⟨Nat.le_of_ble_eq_true rfl, Nat.le_of_ble_eq_true rfl⟩) ?_
  refine W.eq (g2 := F0 m 4 ls [.int (m_lowP (ks_th q) 6 0)]) rfl ?_
  refine lv_istore_n (lv' := [(1, .int (m_lowP (ks_th q) 6 0)), (0, .ref (b 0))]) hx hb d_X_spawn_4 rfl hl (by decide) rfl (fun ls hl => ?_)
  refine lv_iload_n hx hb d_X_spawn_5 rfl (lv_at hl 0 rfl) ?_
  refine lv_iconst (v := -1) hx hb d_X_spawn_6 (by decide) ?_
  refine lv_icmp_ne (tgt := 20) hx hb d_X_spawn_7 (by decide) (fun hc => ?_) (fun hc => absurd hc hq)
  refine lv_aload_n hx hb d_X_spawn_20 rfl (lv_at hl 1 rfl) ?_
  refine va_get (D := D) (ci := 0) (v := .ref (b 1)) hx hb hT.lays ly_X hown hT.1 hP 0 rfl rfl 0 (by decide) (hT.w k_X_9) (fun _ h => h) rfl d_X_spawn_21 ?_
  refine lv_iload_n hx hb d_X_spawn_24 rfl (lv_at hl 0 rfl) ?_
  refine lv_iconst (v := 1) hx hb d_X_spawn_25 (by decide) ?_
  refine va_zast hx hb hT.1 hP hD hS 1 1 rfl rfl (hin) d_X_spawn_26 (fun H locs hP hD hS => ?_)
  rw [nar1] at hP hD
  have hP : va_P D vcl (xW b F S tI tZ tA (kv_th q (upd (ks_th q) (ix (m_lowP (ks_th q) 6 0)) 1))) H := hP
  have hD : va_D A (xW b F S tI tZ tA (kv_th q (upd (ks_th q) (ix (m_lowP (ks_th q) 6 0)) 1))) := hD
  refine lv_iload_n hx hb d_X_spawn_27 rfl (lv_at hl 0 rfl) ?_
  refine ob_iret hlocks hx hb hr d_X_spawn_28 hS.2.2 (fun t ht hW => ?_)
  exact ⟨rfl, by rw [ht]; exact hP, hD, hS.F ht⟩

set_option maxHeartbeats 4000000 in
set_option maxRecDepth 100000 in
/-- X_fork -/
theorem c_X_fork (l : Launch) (D : va_G) (tI tZ tA tJ : ClassId) (b : Nat → Nat) (F S sz : Nat) (q : KS) (p0 : Int32) : ob_M l y_X_fork w_X_fork ({ frames := 2, cells := 0, slots := 0, locals := 42 }) (pW D tI tZ tA tJ [.ref (b 0), .int p0] (xW b F S tI tZ tA q) sz (¬ m_isP (ks_th q) p0 = 0 ∧ ¬ m_lowP (ks_th q) 6 0 = -1 ∧ kf_ok F S p0 (m_lowP (ks_th q) 6 0) 6 0 (k_spawn q))) (ob_qW D vcl (some (.int (m_lowP (ks_th q) 6 0))) (xW b F S tI tZ tA (k_forkL p0 (m_lowP (ks_th q) 6 0) 6 0 (k_spawn q))) (va_A (xW b F S tI tZ tA q) sz)) 0 0 (va_A (xW b F S tI tZ tA q) sz) := by
  refine ob_ofW (by decide +kernel) ?_
  intro p e s m args below meth c s₁ B hml htab hv
  obtain ⟨rfl, hT, ⟨hpr, hq, hok⟩, hsz, hP, hD0⟩ := hv
  have hx := B.exec
  have hb := B.bytes
  have hr := B.returns
  have hlocks := B.notSynchronized
  have hown : s.vm.findClass R_X = some m.cls := findClass_of_methodNamed B.named
  have hl := lv_entry ([.ref (b 0), .int p0]) (n := 5) (Nat.le_of_ble_eq_true rfl)
  rw [lg_entry_eq]
  generalize (lg_sl ([.ref (b 0), .int p0]) ++ List.replicate (5 - (lg_sl ([.ref (b 0), .int p0])).length) Slot.unset).toArray = ls at hl ⊢
  have hl : lv_has ls 5 [(0, .ref (b 0)), (1, .int p0)] := hl
  subst hsz
  have hD := hD0.self (sz := s.heap.size)
  generalize hAe : va_A (xW b F S tI tZ tA q) s.heap.size = A at hD ⊢
  have hA : ∀ q : Nat, s.heap.size ≤ q → A q := fun q h => by rw [← hAe]; exact Or.inr h
  have hS : va_S A s.heap s.heap [] := va_S.rf
  have hin := lowP_in hq
  have hp6 := m_isP_in hpr
  refine lv_aload_n hx hb d_X_fork_0 rfl (lv_at hl 0 rfl) ?_
  refine lv_iload_n hx hb d_X_fork_1 rfl (lv_at hl 1 rfl) ?_
  refine ob_callR (v := none) (ob_runV (n := 1) (As := [.int p0]) (rest := []) (c_X_requireProcess l D tI tZ tA tJ b F S q p0) (hT.ok ob_cd_c (by decide +kernel) rfl rfl (Nat.le_of_ble_eq_true rfl) (Nat.le_of_ble_eq_true rfl) kn_X kc_X_requireProcess) hx hb hml hown (hT.w k_X_53) (hT.w ki_X_requireProcess) (hT.w kv_X_requireProcess) (va_recv (q0 := 0) (ci := 0) hT.1 hP rfl rfl) pR.blind (pR.at hT (hpr) hP) rfl rfl hl.1 rfl (lv_room (Nat.le_of_ble_eq_true rfl)) d_X_fork_2 ⟨Nat.le_of_ble_eq_true rfl, Nat.le_of_ble_eq_true rfl⟩) ?_
  refine W.eq (g2 := F0 m 5 ls []) rfl ?_
  refine lv_aload_n hx hb d_X_fork_5 rfl (lv_at hl 0 rfl) ?_
  refine ob_callR (v := (some (.int (m_lowP (ks_th q) 6 0)))) (ob_runV (n := 0) (As := []) (rest := []) (c_X_lowestNotThere l D tI tZ tA tJ b F S q) (hT.ok ob_cd_c (by decide +kernel) rfl rfl (Nat.le_of_ble_eq_true rfl) (Nat.le_of_ble_eq_true rfl) kn_X kc_X_lowestNotThere) hx hb hml hown (hT.w k_X_42) (hT.w ki_X_lowestNotThere) (hT.w kv_X_lowestNotThere) (va_recv (q0 := 0) (ci := 0) hT.1 hP rfl rfl) pR.blind (pR.at hT (trivial) hP) rfl rfl hl.1 rfl (lv_room (Nat.le_of_ble_eq_true rfl)) d_X_fork_6 ⟨Nat.le_of_ble_eq_true rfl, Nat.le_of_ble_eq_true rfl⟩) ?_
  refine W.eq (g2 := F0 m 9 ls [.int (m_lowP (ks_th q) 6 0)]) rfl ?_
  refine lv_istore_n (lv' := [(2, .int (m_lowP (ks_th q) 6 0)), (0, .ref (b 0)), (1, .int p0)]) hx hb d_X_fork_9 rfl hl (by decide) rfl (fun ls hl => ?_)
  refine lv_iload_n hx hb d_X_fork_10 rfl (lv_at hl 0 rfl) ?_
  refine lv_iconst (v := -1) hx hb d_X_fork_11 (by decide) ?_
  refine lv_icmp_ne (tgt := 25) hx hb d_X_fork_12 (by decide) (fun hc => ?_) (fun hc => absurd hc hq)
  refine lv_aload_n hx hb d_X_fork_25 rfl (lv_at hl 1 rfl) ?_
  refine va_get (D := D) (ci := 0) (v := .ref (b 1)) hx hb hT.lays ly_X hown hT.1 hP 0 rfl rfl 0 (by decide) (hT.w k_X_9) (fun _ h => h) rfl d_X_fork_26 ?_
  refine lv_iload_n hx hb d_X_fork_29 rfl (lv_at hl 0 rfl) ?_
  refine lv_iconst (v := 1) hx hb d_X_fork_30 (by decide) ?_
  refine va_zast hx hb hT.1 hP hD hS 1 1 rfl rfl (hin) d_X_fork_31 (fun H locs hP hD hS => ?_)
  rw [nar1] at hP hD
  have hP : va_P D vcl (xW b F S tI tZ tA (kv_th q (upd (ks_th q) (ix (m_lowP (ks_th q) 6 0)) 1))) H := hP
  have hD : va_D A (xW b F S tI tZ tA (kv_th q (upd (ks_th q) (ix (m_lowP (ks_th q) 6 0)) 1))) := hD
  refine lv_iconst (v := 0) hx hb d_X_fork_32 (by decide) ?_
  refine lv_istore_n (lv' := [(3, .int 0), (2, .int (m_lowP (ks_th q) 6 0)), (0, .ref (b 0)), (1, .int p0)]) hx hb d_X_fork_33 rfl hl (by decide) rfl (fun ls hl => ?_)
  have hP : va_P D vcl (xW b F S tI tZ tA (k_spawn q)) H := hP
  have hD : va_D A (xW b F S tI tZ tA (k_spawn q)) := hD
  obtain ⟨RR, hRR⟩ : ∃ z, z = k_forkL p0 (m_lowP (ks_th q) 6 0) 6 0 (k_spawn q) := ⟨_, rfl⟩
  rw [← hRR]
  have loop : ∀ (n i : Nat) (k : KS) (ls : Array Slot) (H : Heap) (locs : List Loc), i + n = 6 → k_forkL p0 (m_lowP (ks_th q) 6 0) n i k = RR → kf_ok F S p0 (m_lowP (ks_th q) 6 0) n i k → lv_has ls 5 [(3, .int (nI i)), (2, .int (m_lowP (ks_th q) 6 0)), (0, .ref (b 0)), (1, .int p0)] → va_P D vcl (xW b F S tI tZ tA k) H → va_D A (xW b F S tI tZ tA k) → va_S A s.heap H locs → W p l e ({ frames := 2, cells := 0, slots := 0, locals := 42 } : Room) s m ([.ref (b 0), .int p0] : List Value).toArray below meth c H locs 0 0 (ob_Q below (ob_qW D vcl (some (.int (m_lowP (ks_th q) 6 0))) (xW b F S tI tZ tA RR) A) ([.ref (b 0), .int p0] : List Value).toArray s 0 0 A) (F0 m 34 ls []) := by
    intro n
    induction n with
    | zero =>
      intro i k ls H locs hi hR hok hl hP hD hS
      subst hR
      refine lv_iload_n hx hb d_X_fork_34 rfl (lv_at hl 0 rfl) ?_
      refine lv_bipush (v := 6) hx hb d_X_fork_35 (by decide) ?_
      refine lv_icmp_ge (tgt := 81) hx hb d_X_fork_37 (by decide) (fun hc => ?_) (fun hc => absurd (nI_le (a := 6) (by omega) (by omega)) hc)
      refine lv_iload_n hx hb d_X_fork_81 rfl (lv_at hl 1 rfl) ?_
      refine ob_iret hlocks hx hb hr d_X_fork_82 hS.2.2 (fun t ht hW => ?_)
      exact ⟨rfl, by rw [ht]; exact hP, hD, hS.F ht⟩
    | succ n ih =>
      intro i k ls H locs hi hR hok hl hP hD hS
      obtain ⟨hin2, hok2⟩ := hok
      have hi6 : vp_in (nI i) 6 := vp_in_nI (by omega) (by omega)
      refine lv_iload_n hx hb d_X_fork_34 rfl (lv_at hl 0 rfl) ?_
      refine lv_bipush (v := 6) hx hb d_X_fork_35 (by decide) ?_
      refine lv_icmp_ge (tgt := 81) hx hb d_X_fork_37 (by decide) (fun hc => absurd hc (nI_ge (b := 6) (by omega) (by omega))) (fun hc => ?_)
      refine lv_aload_n hx hb d_X_fork_40 rfl (lv_at hl 2 rfl) ?_
      refine va_get (D := D) (ci := 0) (v := .ref (b 2)) hx hb hT.lays ly_X hown hT.1 hP 0 rfl rfl 1 (by decide) (hT.w k_X_15) (fun _ h => h) rfl d_X_fork_41 ?_
      refine lv_iload_n hx hb d_X_fork_44 rfl (lv_at hl 3 rfl) ?_
      refine ob_aald hx hb hT.1 hP 2 2 rfl rfl (hp6) d_X_fork_45 ?_
      refine lv_iload_n hx hb d_X_fork_46 rfl (lv_at hl 0 rfl) ?_
      refine va_iald hx hb hT.1 hP (3 + ix p0) 0 (pl_get (vp_ix hp6) rfl) rfl (hi6) d_X_fork_47 ?_
      refine lv_istore (lv' := [(4, .int ((ks_pg k (ix p0)) (ix (nI i)))), (3, .int (nI i)), (2, .int (m_lowP (ks_th q) 6 0)), (0, .ref (b 0)), (1, .int p0)]) hx hb d_X_fork_48 hl (by decide) rfl (fun ls hl => ?_)
      refine lv_aload_n hx hb d_X_fork_50 rfl (lv_at hl 3 rfl) ?_
      refine va_get (D := D) (ci := 0) (v := .ref (b 2)) hx hb hT.lays ly_X hown hT.1 hP 0 rfl rfl 1 (by decide) (hT.w k_X_15) (fun _ h => h) rfl d_X_fork_51 ?_
      refine lv_iload_n hx hb d_X_fork_54 rfl (lv_at hl 2 rfl) ?_
      refine ob_aald hx hb hT.1 hP 2 2 rfl rfl (hin) d_X_fork_55 ?_
      refine lv_iload_n hx hb d_X_fork_56 rfl (lv_at hl 1 rfl) ?_
      refine lv_iload hx hb d_X_fork_57 (lv_at hl 0 rfl) ?_
      refine va_iast hx hb hT.1 hP hD hS (3 + ix (m_lowP (ks_th q) 6 0)) 0 (pl_get (vp_ix hin) rfl) rfl (hi6) d_X_fork_59 (fun H locs hP hD hS => ?_)
      rw [xW_row (vp_ix hin)] at hP hD
      have hP : va_P D vcl (xW b F S tI tZ tA (kv_pg k (up2 (ks_pg k) (ix (m_lowP (ks_th q) 6 0)) (upd (ks_pg k (ix (m_lowP (ks_th q) 6 0))) (ix (nI i)) ((ks_pg k (ix p0)) (ix (nI i))))))) H := hP
      have hD : va_D A (xW b F S tI tZ tA (kv_pg k (up2 (ks_pg k) (ix (m_lowP (ks_th q) 6 0)) (upd (ks_pg k (ix (m_lowP (ks_th q) 6 0))) (ix (nI i)) ((ks_pg k (ix p0)) (ix (nI i))))))) := hD
      have hP : va_P D vcl (xW b F S tI tZ tA (k_setp k (m_lowP (ks_th q) 6 0) (nI i) (k_at k p0 (nI i)))) H := hP
      have hD : va_D A (xW b F S tI tZ tA (k_setp k (m_lowP (ks_th q) 6 0) (nI i) (k_at k p0 (nI i)))) := hD
      refine lv_iload hx hb d_X_fork_60 (lv_at hl 0 rfl) ?_
      refine lv_iconst (v := -1) hx hb d_X_fork_62 (by decide) ?_
      refine lv_icmp_eq (tgt := 75) hx hb d_X_fork_63 (by decide) (fun hc => ?_) (fun hc => ?_)
      · have e1 : k_fork1 k p0 (m_lowP (ks_th q) 6 0) (nI i) = k_setp k (m_lowP (ks_th q) 6 0) (nI i) (k_at k p0 (nI i)) := if_pos hc
        rw [k_forkL, e1] at hR
        rw [e1] at hok2
        refine lv_iinc (k := 1) (v := nI (i + 1)) (lv' := [(3, .int (nI (i + 1))), (4, .int ((ks_pg k (ix p0)) (ix (nI i)))), (2, .int (m_lowP (ks_th q) 6 0)), (0, .ref (b 0)), (1, .int p0)]) hx hb d_X_fork_75 hl rfl (nI_1 i) (by decide) rfl (fun ls hl => ?_)
        refine lv_goto (tgt := 34) hx hb d_X_fork_78 (by decide) ?_
        exact ih (i + 1) _ ls H locs (by omega) hR hok2 (lv_sub hl [0, 2, 3, 4] rfl) hP hD hS
      · refine lv_aload_n hx hb d_X_fork_66 rfl (lv_at hl 3 rfl) ?_
        refine va_get (D := D) (ci := 0) (v := .ref (b 9)) hx hb hT.lays ly_X hown hT.1 hP 0 rfl rfl 2 (by decide) (hT.w k_X_32) (fun _ h => h) rfl d_X_fork_67 ?_
        refine lv_iload hx hb d_X_fork_70 (lv_at hl 0 rfl) ?_
        refine ob_callW (v := none) (X := xX b tI tZ tA (k_setp k (m_lowP (ks_th q) 6 0) (nI i) (k_at k p0 (nI i)))) (M := mW b F S tI tZ tA (ks_m (k_setp k (m_lowP (ks_th q) 6 0) (nI i) (k_at k p0 (nI i))))) (M' := mW b F S tI tZ tA (k_join (ks_m k) (k_at k p0 (nI i)))) (ob_runV (n := 1) (As := [.int (k_at k p0 (nI i))]) (rest := []) (c_M_join l D tI tZ tA tJ b F S H.size (ks_m (k_setp k (m_lowP (ks_th q) 6 0) (nI i) (k_at k p0 (nI i)))) (k_at k p0 (nI i))) (hT.ok ob_cd_c (by decide +kernel) rfl rfl (Nat.le_of_ble_eq_true rfl) (Nat.le_of_ble_eq_true rfl) kn_M kc_M_join) hx hb hml hown (hT.w k_X_57) (hT.w ki_M_join) (hT.w kv_M_join) (va_recv (q0 := 9) (ci := 1) hT.1 hP rfl rfl) pW.blind (pW.at hT (hin2 hc) (ob_Pr (xP_to hP)) (ob_Dr (xD_to hD))) rfl rfl hl.1 rfl (lv_room (Nat.le_of_ble_eq_true rfl)) d_X_fork_72 ⟨Nat.le_of_ble_eq_true rfl, Nat.le_of_ble_eq_true rfl⟩) (xP_to hP) (xD_to hD) hS hA (fun H locs hP hD hS => ?_)
        have hP : va_P D vcl (xW b F S tI tZ tA (kv_m (k_setp k (m_lowP (ks_th q) 6 0) (nI i) (k_at k p0 (nI i))) (k_join (ks_m k) (k_at k p0 (nI i))))) H := xP_of hP
        have hD : va_D A (xW b F S tI tZ tA (kv_m (k_setp k (m_lowP (ks_th q) 6 0) (nI i) (k_at k p0 (nI i))) (k_join (ks_m k) (k_at k p0 (nI i))))) := xD_of hD
        refine W.eq (g2 := F0 m 75 ls []) rfl ?_
        have e1 : k_fork1 k p0 (m_lowP (ks_th q) 6 0) (nI i) = kv_m (k_setp k (m_lowP (ks_th q) 6 0) (nI i) (k_at k p0 (nI i))) (k_join (ks_m k) (k_at k p0 (nI i))) := if_neg hc
        rw [k_forkL, e1] at hR
        rw [e1] at hok2
        refine lv_iinc (k := 1) (v := nI (i + 1)) (lv' := [(3, .int (nI (i + 1))), (4, .int ((ks_pg k (ix p0)) (ix (nI i)))), (2, .int (m_lowP (ks_th q) 6 0)), (0, .ref (b 0)), (1, .int p0)]) hx hb d_X_fork_75 hl rfl (nI_1 i) (by decide) rfl (fun ls hl => ?_)
        refine lv_goto (tgt := 34) hx hb d_X_fork_78 (by decide) ?_
        exact ih (i + 1) _ ls H locs (by omega) hR hok2 (lv_sub hl [0, 2, 3, 4] rfl) hP hD hS
  exact loop 6 0 (k_spawn q) ls H locs rfl hRR.symm hok (lv_sub hl [0, 1, 2, 3] rfl) hP hD hS

set_option maxHeartbeats 4000000 in
set_option maxRecDepth 100000 in
/-- X_exit -/
theorem c_X_exit (l : Launch) (D : va_G) (tI tZ tA tJ : ClassId) (b : Nat → Nat) (F S sz : Nat) (q : KS) (p0 : Int32) : ob_M l y_X_exit w_X_exit ({ frames := 3, cells := 0, slots := 0, locals := 65 }) (pW D tI tZ tA tJ [.ref (b 0), .int p0] (xW b F S tI tZ tA q) sz (¬ m_isP (ks_th q) p0 = 0 ∧ kx_ok F S p0 6 0 q)) (ob_qW D vcl (some (.int ((k_exitL p0 6 0 0 q).1))) (xW b F S tI tZ tA (kv_th (k_exitL p0 6 0 0 q).2 (upd (ks_th (k_exitL p0 6 0 0 q).2) (ix p0) 0))) (va_A (xW b F S tI tZ tA q) sz)) 0 0 (va_A (xW b F S tI tZ tA q) sz) := by
  refine ob_ofW (by decide +kernel) ?_
  intro p e s m args below meth c s₁ B hml htab hv
  obtain ⟨rfl, hT, ⟨hpr, hok⟩, hsz, hP, hD0⟩ := hv
  have hx := B.exec
  have hb := B.bytes
  have hr := B.returns
  have hlocks := B.notSynchronized
  have hown : s.vm.findClass R_X = some m.cls := findClass_of_methodNamed B.named
  have hl := lv_entry ([.ref (b 0), .int p0]) (n := 4) (Nat.le_of_ble_eq_true rfl)
  rw [lg_entry_eq]
  generalize (lg_sl ([.ref (b 0), .int p0]) ++ List.replicate (4 - (lg_sl ([.ref (b 0), .int p0])).length) Slot.unset).toArray = ls at hl ⊢
  have hl : lv_has ls 4 [(0, .ref (b 0)), (1, .int p0)] := hl
  subst hsz
  have hD := hD0.self (sz := s.heap.size)
  generalize hAe : va_A (xW b F S tI tZ tA q) s.heap.size = A at hD ⊢
  have hA : ∀ q : Nat, s.heap.size ≤ q → A q := fun q h => by rw [← hAe]; exact Or.inr h
  have hS : va_S A s.heap s.heap [] := va_S.rf
  have hp6 := m_isP_in hpr
  refine lv_aload_n hx hb d_X_exit_0 rfl (lv_at hl 0 rfl) ?_
  refine lv_iload_n hx hb d_X_exit_1 rfl (lv_at hl 1 rfl) ?_
  refine ob_callR (v := none) (ob_runV (n := 1) (As := [.int p0]) (rest := []) (c_X_requireProcess l D tI tZ tA tJ b F S q p0) (hT.ok ob_cd_c (by decide +kernel) rfl rfl (Nat.le_of_ble_eq_true rfl) (Nat.le_of_ble_eq_true rfl) kn_X kc_X_requireProcess) hx hb hml hown (hT.w k_X_53) (hT.w ki_X_requireProcess) (hT.w kv_X_requireProcess) (va_recv (q0 := 0) (ci := 0) hT.1 hP rfl rfl) pR.blind (pR.at hT (hpr) hP) rfl rfl hl.1 rfl (lv_room (Nat.le_of_ble_eq_true rfl)) d_X_exit_2 ⟨Nat.le_of_ble_eq_true rfl, Nat.le_of_ble_eq_true rfl⟩) ?_
  refine W.eq (g2 := F0 m 5 ls []) rfl ?_
  refine lv_iconst (v := 0) hx hb d_X_exit_5 (by decide) ?_
  refine lv_istore_n (lv' := [(2, .int 0), (0, .ref (b 0)), (1, .int p0)]) hx hb d_X_exit_6 rfl hl (by decide) rfl (fun ls hl => ?_)
  refine lv_iconst (v := 0) hx hb d_X_exit_7 (by decide) ?_
  refine lv_istore_n (lv' := [(3, .int 0), (2, .int 0), (0, .ref (b 0)), (1, .int p0)]) hx hb d_X_exit_8 rfl hl (by decide) rfl (fun ls hl => ?_)
  obtain ⟨RR, hRR⟩ : ∃ z, z = k_exitL p0 6 0 0 q := ⟨_, rfl⟩
  rw [← hRR]
  have loop : ∀ (n i : Nat) (x : Int32) (k : KS) (ls : Array Slot) (H : Heap) (locs : List Loc), i + n = 6 → k_exitL p0 n i x k = RR → kx_ok F S p0 n i k → lv_has ls 4 [(3, .int (nI i)), (2, .int x), (0, .ref (b 0)), (1, .int p0)] → va_P D vcl (xW b F S tI tZ tA k) H → va_D A (xW b F S tI tZ tA k) → va_S A s.heap H locs → W p l e ({ frames := 3, cells := 0, slots := 0, locals := 65 } : Room) s m ([.ref (b 0), .int p0] : List Value).toArray below meth c H locs 0 0 (ob_Q below (ob_qW D vcl (some (.int RR.1)) (xW b F S tI tZ tA (kv_th RR.2 (upd (ks_th RR.2) (ix p0) 0))) A) ([.ref (b 0), .int p0] : List Value).toArray s 0 0 A) (F0 m 9 ls []) := by
    intro n
    induction n with
    | zero =>
      intro i x k ls H locs hi hR hok hl hP hD hS
      subst hR
      refine lv_iload_n hx hb d_X_exit_9 rfl (lv_at hl 0 rfl) ?_
      refine lv_bipush (v := 6) hx hb d_X_exit_10 (by decide) ?_
      refine lv_icmp_ge (tgt := 33) hx hb d_X_exit_12 (by decide) (fun hc => ?_) (fun hc => absurd (nI_le (a := 6) (by omega) (by omega)) hc)
      refine lv_aload_n hx hb d_X_exit_33 rfl (lv_at hl 2 rfl) ?_
      refine va_get (D := D) (ci := 0) (v := .ref (b 1)) hx hb hT.lays ly_X hown hT.1 hP 0 rfl rfl 0 (by decide) (hT.w k_X_9) (fun _ h => h) rfl d_X_exit_34 ?_
      refine lv_iload_n hx hb d_X_exit_37 rfl (lv_at hl 3 rfl) ?_
      refine lv_iconst (v := 0) hx hb d_X_exit_38 (by decide) ?_
      refine va_zast hx hb hT.1 hP hD hS 1 1 rfl rfl (hp6) d_X_exit_39 (fun H locs hP hD hS => ?_)
      rw [nar0] at hP hD
      have hP : va_P D vcl (xW b F S tI tZ tA (kv_th k (upd (ks_th k) (ix p0) 0))) H := hP
      have hD : va_D A (xW b F S tI tZ tA (kv_th k (upd (ks_th k) (ix p0) 0))) := hD
      refine lv_iload_n hx hb d_X_exit_40 rfl (lv_at hl 1 rfl) ?_
      refine ob_iret hlocks hx hb hr d_X_exit_41 hS.2.2 (fun t ht hW => ?_)
      exact ⟨rfl, by rw [ht]; exact hP, hD, hS.F ht⟩
    | succ n ih =>
      intro i x k ls H locs hi hR hok hl hP hD hS
      obtain ⟨hxe, hok2⟩ := hok
      refine lv_iload_n hx hb d_X_exit_9 rfl (lv_at hl 0 rfl) ?_
      refine lv_bipush (v := 6) hx hb d_X_exit_10 (by decide) ?_
      refine lv_icmp_ge (tgt := 33) hx hb d_X_exit_12 (by decide) (fun hc => absurd hc (nI_ge (b := 6) (by omega) (by omega))) (fun hc => ?_)
      refine lv_aload_n hx hb d_X_exit_15 rfl (lv_at hl 2 rfl) ?_
      refine lv_iload_n hx hb d_X_exit_16 rfl (lv_at hl 3 rfl) ?_
      refine lv_iload_n hx hb d_X_exit_17 rfl (lv_at hl 0 rfl) ?_
      refine ob_callW (v := (some (.int ((k_empty k p0 (nI i)).1)))) (X := []) (M := xW b F S tI tZ tA k) (M' := xW b F S tI tZ tA ((k_empty k p0 (nI i)).2)) (ob_runV (n := 2) (As := [.int p0, .int (nI i)]) (rest := []) (c_X_emptyPage l D tI tZ tA tJ b F S H.size k p0 (nI i)) (hT.ok ob_cd_c (by decide +kernel) rfl rfl (Nat.le_of_ble_eq_true rfl) (Nat.le_of_ble_eq_true rfl) kn_X kc_X_emptyPage) hx hb hml hown (hT.w k_X_60) (hT.w ki_X_emptyPage) (hT.w kv_X_emptyPage) (va_recv (q0 := 0) (ci := 0) hT.1 hP rfl rfl) pW.blind (pW.at hT (hxe) hP hD) rfl rfl hl.1 rfl (lv_room (Nat.le_of_ble_eq_true rfl)) d_X_exit_18 ⟨Nat.le_of_ble_eq_true rfl, Nat.le_of_ble_eq_true rfl⟩) hP hD hS hA (fun H locs hP hD hS => ?_)
      have hP : va_P D vcl (xW b F S tI tZ tA ((k_empty k p0 (nI i)).2)) H := hP
      have hD : va_D A (xW b F S tI tZ tA ((k_empty k p0 (nI i)).2)) := hD
      refine W.eq (g2 := F0 m 21 ls [.int ((k_empty k p0 (nI i)).1)]) rfl ?_
      refine lv_if_eq (tgt := 27) hx hb d_X_exit_21 (by decide) (fun hc => ?_) (fun hc => ?_)
      · refine lv_iinc (k := 0) (v := nI (i + 1)) (lv' := [(3, .int (nI (i + 1))), (2, .int x), (0, .ref (b 0)), (1, .int p0)]) hx hb d_X_exit_27 hl rfl (nI_1 i) (by decide) rfl (fun ls hl => ?_)
        refine lv_goto (tgt := 9) hx hb d_X_exit_30 (by decide) ?_
        have e1 : k_exitL p0 (n + 1) i x k = k_exitL p0 n (i + 1) (x) (k_empty k p0 (nI i)).2 := by rw [k_exitL, if_pos hc]
        rw [e1] at hR
        exact ih (i + 1) (x) _ ls H locs (by omega) hR hok2 (lv_sub hl [0, 1, 2, 3] rfl) hP hD hS
      · refine lv_iinc (k := 1) (v := x + 1) (lv' := [(2, .int (x + 1)), (3, .int (nI i)), (0, .ref (b 0)), (1, .int p0)]) hx hb d_X_exit_24 hl rfl (rfl) (by decide) rfl (fun ls hl => ?_)
        refine lv_iinc (k := 1) (v := nI (i + 1)) (lv' := [(3, .int (nI (i + 1))), (2, .int (x + 1)), (0, .ref (b 0)), (1, .int p0)]) hx hb d_X_exit_27 hl rfl (nI_1 i) (by decide) rfl (fun ls hl => ?_)
        refine lv_goto (tgt := 9) hx hb d_X_exit_30 (by decide) ?_
        have e1 : k_exitL p0 (n + 1) i x k = k_exitL p0 n (i + 1) (x + 1) (k_empty k p0 (nI i)).2 := by rw [k_exitL, if_neg hc]
        rw [e1] at hR
        exact ih (i + 1) (x + 1) _ ls H locs (by omega) hR hok2 (lv_sub hl [0, 1, 2, 3] rfl) hP hD hS
  exact loop 6 0 0 q ls s.heap [] rfl hRR.symm hok (lv_sub hl [0, 1, 2, 3] rfl) hP hD hS

theorem k_empty_nar (q : KS) (p g : Int32) : narrow .boolean (.int (k_empty q p g).1) = .int (k_empty q p g).1 := by
  unfold k_empty
  split
  · exact (rfl : narrow .boolean (.int 0) = .int 0)
  · split
    · exact (rfl : narrow .boolean (.int 0) = .int 0)
    · exact (rfl : narrow .boolean (.int 1) = .int 1)

set_option maxHeartbeats 4000000 in
set_option maxRecDepth 100000 in
/-- X_drop -/
theorem c_X_drop (l : Launch) (D : va_G) (tI tZ tA tJ : ClassId) (b : Nat → Nat) (F S sz : Nat) (q : KS) (p0 x : Int32) : ob_M l y_X_drop w_X_drop ({ frames := 3, cells := 0, slots := 0, locals := 65 }) (pW D tI tZ tA tJ [.ref (b 0), .int p0, .int x] (xW b F S tI tZ tA q) sz (¬ m_isP (ks_th q) p0 = 0 ∧ ¬ x < 0 ∧ x < 6 ∧ xe_ok F S q p0 x)) (ob_qW D vcl (some (.int ((k_empty q p0 x).1))) (xW b F S tI tZ tA ((k_empty q p0 x).2)) (va_A (xW b F S tI tZ tA q) sz)) 0 0 (va_A (xW b F S tI tZ tA q) sz) := by
  refine ob_ofW (by decide +kernel) ?_
  intro p e s m args below meth c s₁ B hml htab hv
  obtain ⟨rfl, hT, ⟨hpr, h0, h6, hok⟩, hsz, hP, hD0⟩ := hv
  have hx := B.exec
  have hb := B.bytes
  have hr := B.returns
  have hlocks := B.notSynchronized
  have hown : s.vm.findClass R_X = some m.cls := findClass_of_methodNamed B.named
  have hl := lv_entry ([.ref (b 0), .int p0, .int x]) (n := 3) (Nat.le_of_ble_eq_true rfl)
  rw [lg_entry_eq]
  generalize (lg_sl ([.ref (b 0), .int p0, .int x]) ++ List.replicate (3 - (lg_sl ([.ref (b 0), .int p0, .int x])).length) Slot.unset).toArray = ls at hl ⊢
  have hl : lv_has ls 3 [(0, .ref (b 0)), (1, .int p0), (2, .int x)] := hl
  subst hsz
  have hD := hD0.self (sz := s.heap.size)
  generalize hAe : va_A (xW b F S tI tZ tA q) s.heap.size = A at hD ⊢
  have hA : ∀ q : Nat, s.heap.size ≤ q → A q := fun q h => by rw [← hAe]; exact Or.inr h
  have hS : va_S A s.heap s.heap [] := va_S.rf
  refine lv_aload_n hx hb d_X_drop_0 rfl (lv_at hl 0 rfl) ?_
  refine lv_iload_n hx hb d_X_drop_1 rfl (lv_at hl 1 rfl) ?_
  refine ob_callR (v := none) (ob_runV (n := 1) (As := [.int p0]) (rest := []) (c_X_requireProcess l D tI tZ tA tJ b F S q p0) (hT.ok ob_cd_c (by decide +kernel) rfl rfl (Nat.le_of_ble_eq_true rfl) (Nat.le_of_ble_eq_true rfl) kn_X kc_X_requireProcess) hx hb hml hown (hT.w k_X_53) (hT.w ki_X_requireProcess) (hT.w kv_X_requireProcess) (va_recv (q0 := 0) (ci := 0) hT.1 hP rfl rfl) pR.blind (pR.at hT (hpr) hP) rfl rfl hl.1 rfl (lv_room (Nat.le_of_ble_eq_true rfl)) d_X_drop_2 ⟨Nat.le_of_ble_eq_true rfl, Nat.le_of_ble_eq_true rfl⟩) ?_
  refine W.eq (g2 := F0 m 5 ls []) rfl ?_
  refine lv_iload_n hx hb d_X_drop_5 rfl (lv_at hl 2 rfl) ?_
  refine lv_if_lt (tgt := 15) hx hb d_X_drop_6 (by decide) (fun hc => absurd hc h0) (fun hc => ?_)
  refine lv_iload_n hx hb d_X_drop_9 rfl (lv_at hl 2 rfl) ?_
  refine lv_bipush (v := 6) hx hb d_X_drop_10 (by decide) ?_
  refine lv_icmp_lt (tgt := 25) hx hb d_X_drop_12 (by decide) (fun hc => ?_) (fun hc => absurd h6 hc)
  refine lv_aload_n hx hb d_X_drop_25 rfl (lv_at hl 0 rfl) ?_
  refine lv_iload_n hx hb d_X_drop_26 rfl (lv_at hl 1 rfl) ?_
  refine lv_iload_n hx hb d_X_drop_27 rfl (lv_at hl 2 rfl) ?_
  refine ob_callW (v := (some (.int ((k_empty q p0 x).1)))) (X := []) (M := xW b F S tI tZ tA q) (M' := xW b F S tI tZ tA ((k_empty q p0 x).2)) (ob_runV (n := 2) (As := [.int p0, .int x]) (rest := []) (c_X_emptyPage l D tI tZ tA tJ b F S s.heap.size q p0 x) (hT.ok ob_cd_c (by decide +kernel) rfl rfl (Nat.le_of_ble_eq_true rfl) (Nat.le_of_ble_eq_true rfl) kn_X kc_X_emptyPage) hx hb hml hown (hT.w k_X_60) (hT.w ki_X_emptyPage) (hT.w kv_X_emptyPage) (va_recv (q0 := 0) (ci := 0) hT.1 hP rfl rfl) pW.blind (pW.at hT (hok) hP hD) rfl rfl hl.1 rfl (lv_room (Nat.le_of_ble_eq_true rfl)) d_X_drop_28 ⟨Nat.le_of_ble_eq_true rfl, Nat.le_of_ble_eq_true rfl⟩) hP hD hS hA (fun H locs hP hD hS => ?_)
  have hP : va_P D vcl (xW b F S tI tZ tA ((k_empty q p0 x).2)) H := hP
  have hD : va_D A (xW b F S tI tZ tA ((k_empty q p0 x).2)) := hD
  refine W.eq (g2 := F0 m 31 ls [.int ((k_empty q p0 x).1)]) rfl ?_
  refine ob_zret hlocks hx hb hr d_X_drop_31 (k_empty_nar _ _ _) hS.2.2 (fun t ht hW => ?_)
  exact ⟨rfl, by rw [ht]; exact hP, hD, hS.F ht⟩

set_option maxHeartbeats 4000000 in
set_option maxRecDepth 100000 in
/-- X_load -/
theorem c_X_load (l : Launch) (D : va_G) (tI tZ tA tJ : ClassId) (b : Nat → Nat) (F S sz : Nat) (q : KS) (p0 a : Int32) : ob_M l y_X_load w_X_load ({ frames := 7, cells := 0, slots := 0, locals := 152 }) (pW D tI tZ tA tJ [.ref (b 0), .int p0, .int a] (xW b F S tI tZ tA q) sz (¬ m_isP (ks_th q) p0 = 0 ∧ ¬ m_isA a = 0 ∧ xl_ok F S q p0 a)) (ob_qW D vcl (some (.int ((k_loadW F S q p0 a).1))) (xW b F S tI tZ tA ((k_loadW F S q p0 a).2)) (va_A (xW b F S tI tZ tA q) sz)) 0 0 (va_A (xW b F S tI tZ tA q) sz) := by
  refine ob_ofW (by decide +kernel) ?_
  intro p e s m args below meth c s₁ B hml htab hv
  obtain ⟨rfl, hT, ⟨hpr, hpa, hok⟩, hsz, hP, hD0⟩ := hv
  have hx := B.exec
  have hb := B.bytes
  have hr := B.returns
  have hlocks := B.notSynchronized
  have hown : s.vm.findClass R_X = some m.cls := findClass_of_methodNamed B.named
  have hl := lv_entry ([.ref (b 0), .int p0, .int a]) (n := 3) (Nat.le_of_ble_eq_true rfl)
  rw [lg_entry_eq]
  generalize (lg_sl ([.ref (b 0), .int p0, .int a]) ++ List.replicate (3 - (lg_sl ([.ref (b 0), .int p0, .int a])).length) Slot.unset).toArray = ls at hl ⊢
  have hl : lv_has ls 3 [(0, .ref (b 0)), (1, .int p0), (2, .int a)] := hl
  subst hsz
  have hD := hD0.self (sz := s.heap.size)
  generalize hAe : va_A (xW b F S tI tZ tA q) s.heap.size = A at hD ⊢
  have hA : ∀ q : Nat, s.heap.size ≤ q → A q := fun q h => by rw [← hAe]; exact Or.inr h
  have hS : va_S A s.heap s.heap [] := va_S.rf
  refine lv_aload_n hx hb d_X_load_0 rfl (lv_at hl 0 rfl) ?_
  refine lv_iload_n hx hb d_X_load_1 rfl (lv_at hl 1 rfl) ?_
  refine ob_callR (v := none) (ob_runV (n := 1) (As := [.int p0]) (rest := []) (c_X_requireProcess l D tI tZ tA tJ b F S q p0) (hT.ok ob_cd_c (by decide +kernel) rfl rfl (Nat.le_of_ble_eq_true rfl) (Nat.le_of_ble_eq_true rfl) kn_X kc_X_requireProcess) hx hb hml hown (hT.w k_X_53) (hT.w ki_X_requireProcess) (hT.w kv_X_requireProcess) (va_recv (q0 := 0) (ci := 0) hT.1 hP rfl rfl) pR.blind (pR.at hT (hpr) hP) rfl rfl hl.1 rfl (lv_room (Nat.le_of_ble_eq_true rfl)) d_X_load_2 ⟨Nat.le_of_ble_eq_true rfl, Nat.le_of_ble_eq_true rfl⟩) ?_
  refine W.eq (g2 := F0 m 5 ls []) rfl ?_
  refine lv_iload_n hx hb d_X_load_5 rfl (lv_at hl 2 rfl) ?_
  refine ob_callR (v := none) (ob_runS (n := 1) (As := [.int a]) (rest := []) (c_X_requireAddress l D tI tZ tA tJ a) (hT.ok ob_cd_c (by decide +kernel) rfl rfl (Nat.le_of_ble_eq_true rfl) (Nat.le_of_ble_eq_true rfl) kn_X kc_X_requireAddress) hx hb hml hown (hT.w k_X_69) (hT.w ks_X_requireAddress) pR.blind (pR.at hT (hpa) (fun k q h => nomatch h)) rfl rfl hl.1 rfl (lv_room (Nat.le_of_ble_eq_true rfl)) d_X_load_6 ⟨Nat.le_of_ble_eq_true rfl, Nat.le_of_ble_eq_true rfl⟩) ?_
  refine W.eq (g2 := F0 m 9 ls []) rfl ?_
  refine lv_aload_n hx hb d_X_load_9 rfl (lv_at hl 0 rfl) ?_
  refine lv_iload_n hx hb d_X_load_10 rfl (lv_at hl 1 rfl) ?_
  refine lv_iload_n hx hb d_X_load_11 rfl (lv_at hl 2 rfl) ?_
  refine ob_callW (v := (some (.int ((k_loadW F S q p0 a).1)))) (X := []) (M := xW b F S tI tZ tA q) (M' := xW b F S tI tZ tA ((k_loadW F S q p0 a).2)) (ob_runV (n := 2) (As := [.int p0, .int a]) (rest := []) (c_X_loadWord l D tI tZ tA tJ b F S s.heap.size q p0 a) (hT.ok ob_cd_c (by decide +kernel) rfl rfl (Nat.le_of_ble_eq_true rfl) (Nat.le_of_ble_eq_true rfl) kn_X kc_X_loadWord) hx hb hml hown (hT.w k_X_72) (hT.w ki_X_loadWord) (hT.w kv_X_loadWord) (va_recv (q0 := 0) (ci := 0) hT.1 hP rfl rfl) pW.blind (pW.at hT (hok) hP hD) rfl rfl hl.1 rfl (lv_room (Nat.le_of_ble_eq_true rfl)) d_X_load_12 ⟨Nat.le_of_ble_eq_true rfl, Nat.le_of_ble_eq_true rfl⟩) hP hD hS hA (fun H locs hP hD hS => ?_)
  have hP : va_P D vcl (xW b F S tI tZ tA ((k_loadW F S q p0 a).2)) H := hP
  have hD : va_D A (xW b F S tI tZ tA ((k_loadW F S q p0 a).2)) := hD
  refine W.eq (g2 := F0 m 15 ls [.int ((k_loadW F S q p0 a).1)]) rfl ?_
  refine ob_iret hlocks hx hb hr d_X_load_15 hS.2.2 (fun t ht hW => ?_)
  exact ⟨rfl, by rw [ht]; exact hP, hD, hS.F ht⟩

set_option maxHeartbeats 4000000 in
set_option maxRecDepth 100000 in
/-- X_store -/
theorem c_X_store (l : Launch) (D : va_G) (tI tZ tA tJ : ClassId) (b : Nat → Nat) (F S sz : Nat) (q : KS) (p0 a v : Int32) : ob_M l y_X_store w_X_store ({ frames := 7, cells := 0, slots := 0, locals := 155 }) (pW D tI tZ tA tJ [.ref (b 0), .int p0, .int a, .int v] (xW b F S tI tZ tA q) sz (¬ m_isP (ks_th q) p0 = 0 ∧ ¬ m_isA a = 0 ∧ xs_ok F S q p0 a)) (ob_qW D vcl none (xW b F S tI tZ tA (k_storeW F S q p0 a v)) (va_A (xW b F S tI tZ tA q) sz)) 0 0 (va_A (xW b F S tI tZ tA q) sz) := by
  refine ob_ofW (by decide +kernel) ?_
  intro p e s m args below meth c s₁ B hml htab hv
  obtain ⟨rfl, hT, ⟨hpr, hpa, hok⟩, hsz, hP, hD0⟩ := hv
  have hx := B.exec
  have hb := B.bytes
  have hr := B.returns
  have hlocks := B.notSynchronized
  have hown : s.vm.findClass R_X = some m.cls := findClass_of_methodNamed B.named
  have hl := lv_entry ([.ref (b 0), .int p0, .int a, .int v]) (n := 4) (Nat.le_of_ble_eq_true rfl)
  rw [lg_entry_eq]
  generalize (lg_sl ([.ref (b 0), .int p0, .int a, .int v]) ++ List.replicate (4 - (lg_sl ([.ref (b 0), .int p0, .int a, .int v])).length) Slot.unset).toArray = ls at hl ⊢
  have hl : lv_has ls 4 [(0, .ref (b 0)), (1, .int p0), (2, .int a), (3, .int v)] := hl
  subst hsz
  have hD := hD0.self (sz := s.heap.size)
  generalize hAe : va_A (xW b F S tI tZ tA q) s.heap.size = A at hD ⊢
  have hA : ∀ q : Nat, s.heap.size ≤ q → A q := fun q h => by rw [← hAe]; exact Or.inr h
  have hS : va_S A s.heap s.heap [] := va_S.rf
  refine lv_aload_n hx hb d_X_store_0 rfl (lv_at hl 0 rfl) ?_
  refine lv_iload_n hx hb d_X_store_1 rfl (lv_at hl 1 rfl) ?_
  refine ob_callR (v := none) (ob_runV (n := 1) (As := [.int p0]) (rest := []) (c_X_requireProcess l D tI tZ tA tJ b F S q p0) (hT.ok ob_cd_c (by decide +kernel) rfl rfl (Nat.le_of_ble_eq_true rfl) (Nat.le_of_ble_eq_true rfl) kn_X kc_X_requireProcess) hx hb hml hown (hT.w k_X_53) (hT.w ki_X_requireProcess) (hT.w kv_X_requireProcess) (va_recv (q0 := 0) (ci := 0) hT.1 hP rfl rfl) pR.blind (pR.at hT (hpr) hP) rfl rfl hl.1 rfl (lv_room (Nat.le_of_ble_eq_true rfl)) d_X_store_2 ⟨Nat.le_of_ble_eq_true rfl, Nat.le_of_ble_eq_true rfl⟩) ?_
  refine W.eq (g2 := F0 m 5 ls []) rfl ?_
  refine lv_iload_n hx hb d_X_store_5 rfl (lv_at hl 2 rfl) ?_
  refine ob_callR (v := none) (ob_runS (n := 1) (As := [.int a]) (rest := []) (c_X_requireAddress l D tI tZ tA tJ a) (hT.ok ob_cd_c (by decide +kernel) rfl rfl (Nat.le_of_ble_eq_true rfl) (Nat.le_of_ble_eq_true rfl) kn_X kc_X_requireAddress) hx hb hml hown (hT.w k_X_69) (hT.w ks_X_requireAddress) pR.blind (pR.at hT (hpa) (fun k q h => nomatch h)) rfl rfl hl.1 rfl (lv_room (Nat.le_of_ble_eq_true rfl)) d_X_store_6 ⟨Nat.le_of_ble_eq_true rfl, Nat.le_of_ble_eq_true rfl⟩) ?_
  refine W.eq (g2 := F0 m 9 ls []) rfl ?_
  refine lv_aload_n hx hb d_X_store_9 rfl (lv_at hl 0 rfl) ?_
  refine lv_iload_n hx hb d_X_store_10 rfl (lv_at hl 1 rfl) ?_
  refine lv_iload_n hx hb d_X_store_11 rfl (lv_at hl 2 rfl) ?_
  refine lv_iload_n hx hb d_X_store_12 rfl (lv_at hl 3 rfl) ?_
  refine ob_callW (v := none) (X := []) (M := xW b F S tI tZ tA q) (M' := xW b F S tI tZ tA (k_storeW F S q p0 a v)) (ob_runV (n := 3) (As := [.int p0, .int a, .int v]) (rest := []) (c_X_storeWord l D tI tZ tA tJ b F S s.heap.size q p0 a v) (hT.ok ob_cd_c (by decide +kernel) rfl rfl (Nat.le_of_ble_eq_true rfl) (Nat.le_of_ble_eq_true rfl) kn_X kc_X_storeWord) hx hb hml hown (hT.w k_X_75) (hT.w ki_X_storeWord) (hT.w kv_X_storeWord) (va_recv (q0 := 0) (ci := 0) hT.1 hP rfl rfl) pW.blind (pW.at hT (hok) hP hD) rfl rfl hl.1 rfl (lv_room (Nat.le_of_ble_eq_true rfl)) d_X_store_13 ⟨Nat.le_of_ble_eq_true rfl, Nat.le_of_ble_eq_true rfl⟩) hP hD hS hA (fun H locs hP hD hS => ?_)
  have hP : va_P D vcl (xW b F S tI tZ tA (k_storeW F S q p0 a v)) H := hP
  have hD : va_D A (xW b F S tI tZ tA (k_storeW F S q p0 a v)) := hD
  refine W.eq (g2 := F0 m 16 ls []) rfl ?_
  refine ob_vret hlocks hx hb hr d_X_store_16 hS.2.2 (fun t ht hW => ?_)
  exact ⟨rfl, by rw [ht]; exact hP, hD, hS.F ht⟩
