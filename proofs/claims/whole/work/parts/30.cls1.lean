theorem xW_row {b : Nat → Nat} {F S : Nat} {tI tZ tA : ClassId} {q : KS} {i : Nat} {f : Nat → Int32} (hi : i < 6) : (xW b F S tI tZ tA q).set (3 + i) (b (3 + i), .inl (tI, 6, .inl f)) = xW b F S tI tZ tA (kv_pg q (up2 (ks_pg q) i f)) := pl_set (X := [_, _, _]) (Y := mW b F S tI tZ tA (ks_m q)) hi rfl
theorem page_in {g : Int32} (h1 : ¬ g < 0) (h2 : ¬ (6 : Int32) ≤ g) : vp_in g 6 := by
  obtain ⟨j, hj, e, -⟩ := pk_mu (L := 6) h1 h2 (by omega)
  rw [e]
  exact vp_in_nI hj (by omega)
def k_sheetOf (q : KS) (p g : Int32) : Int32 := if m_isP (ks_th q) p = 0 then -1 else if g < 0 then -1 else if 6 ≤ g then -1 else ks_pg q (ix p) (ix g)
def k_where (q : KS) (p g : Int32) : Int32 := if k_sheetOf q p g = -1 then -1 else km_pl (ks_m q) (ix (k_sheetOf q p g))
def k_sharers (q : KS) (p g : Int32) : Int32 := if k_sheetOf q p g = -1 then 0 else km_ct (ks_m q) (ix (k_sheetOf q p g))

set_option maxHeartbeats 4000000 in
set_option maxRecDepth 100000 in
/-- X_copied -/
theorem c_X_copied (l : Launch) (D : va_G) (tI tZ tA tJ : ClassId) (b : Nat → Nat) (F S : Nat) (q : KS)  : ob_M l y_X_copied w_X_copied ({ frames := 0, cells := 0, slots := 0, locals := 0 }) (pR D tI tZ tA tJ [.ref (b 0)] (xW b F S tI tZ tA q) (True)) (ob_qR (some (.int (ks_cp q)))) 0 0 (fun _ => False) := by
  refine ob_ofW (by decide +kernel) ?_
  intro p e s m args below meth c s₁ B hml htab hv
  obtain ⟨rfl, hT, -, hP⟩ := hv
  have hx := B.exec
  have hb := B.bytes
  have hr := B.returns
  have hlocks := B.notSynchronized
  have hown : s.vm.findClass R_X = some m.cls := findClass_of_methodNamed B.named
  have hl := lv_entry ([.ref (b 0)]) (n := 1) (Nat.le_of_ble_eq_true rfl)
  rw [lg_entry_eq]
  generalize (lg_sl ([.ref (b 0)]) ++ List.replicate (1 - (lg_sl ([.ref (b 0)])).length) Slot.unset).toArray = ls at hl ⊢
  have hl : lv_has ls 1 [(0, .ref (b 0))] := hl
  refine lv_aload_n hx hb d_X_copied_0 rfl (lv_at hl 0 rfl) ?_
  refine va_get (D := D) (ci := 0) (v := .int (ks_cp q)) hx hb hT.lays ly_X hown hT.1 hP 0 rfl rfl 3 (by decide) (hT.w k_X_82) (fun _ h => h) rfl d_X_copied_1 ?_
  refine ob_iret hlocks hx hb hr d_X_copied_4 (fun q hq => nomatch hq) (fun t ht hW => ?_)
  exact ⟨rfl, ht⟩

set_option maxHeartbeats 4000000 in
set_option maxRecDepth 100000 in
/-- X_hand -/
theorem c_X_hand (l : Launch) (D : va_G) (tI tZ tA tJ : ClassId) (b : Nat → Nat) (F S : Nat) (q : KS)  : ob_M l y_X_hand w_X_hand ({ frames := 0, cells := 0, slots := 0, locals := 0 }) (pR D tI tZ tA tJ [.ref (b 0)] (xW b F S tI tZ tA q) (True)) (ob_qR (some (.int (km_hd (ks_m q))))) 0 0 (fun _ => False) := by
  refine ob_ofW (by decide +kernel) ?_
  intro p e s m args below meth c s₁ B hml htab hv
  obtain ⟨rfl, hT, -, hP⟩ := hv
  have hx := B.exec
  have hb := B.bytes
  have hr := B.returns
  have hlocks := B.notSynchronized
  have hown : s.vm.findClass R_X = some m.cls := findClass_of_methodNamed B.named
  have hl := lv_entry ([.ref (b 0)]) (n := 1) (Nat.le_of_ble_eq_true rfl)
  rw [lg_entry_eq]
  generalize (lg_sl ([.ref (b 0)]) ++ List.replicate (1 - (lg_sl ([.ref (b 0)])).length) Slot.unset).toArray = ls at hl ⊢
  have hl : lv_has ls 1 [(0, .ref (b 0))] := hl
  refine lv_aload_n hx hb d_X_hand_0 rfl (lv_at hl 0 rfl) ?_
  refine va_get (D := D) (ci := 0) (v := .ref (b 9)) hx hb hT.lays ly_X hown hT.1 hP 0 rfl rfl 2 (by decide) (hT.w k_X_32) (fun _ h => h) rfl d_X_hand_1 ?_
  refine va_getN (D := D) (ci := 1) (v := .int (km_hd (ks_m q))) hx hb hT.lays ly_M hown hT.1 hP 9 rfl rfl 6 (by decide) (hT.w k_X_100) (fun _ h => h) rfl d_X_hand_4 ?_
  refine ob_iret hlocks hx hb hr d_X_hand_7 (fun q hq => nomatch hq) (fun t ht hW => ?_)
  exact ⟨rfl, ht⟩

set_option maxHeartbeats 4000000 in
set_option maxRecDepth 100000 in
/-- X_faults -/
theorem c_X_faults (l : Launch) (D : va_G) (tI tZ tA tJ : ClassId) (b : Nat → Nat) (F S : Nat) (q : KS)  : ob_M l y_X_faults w_X_faults ({ frames := 0, cells := 0, slots := 0, locals := 0 }) (pR D tI tZ tA tJ [.ref (b 0)] (xW b F S tI tZ tA q) (True)) (ob_qR (some (.int (km_fl (ks_m q))))) 0 0 (fun _ => False) := by
  refine ob_ofW (by decide +kernel) ?_
  intro p e s m args below meth c s₁ B hml htab hv
  obtain ⟨rfl, hT, -, hP⟩ := hv
  have hx := B.exec
  have hb := B.bytes
  have hr := B.returns
  have hlocks := B.notSynchronized
  have hown : s.vm.findClass R_X = some m.cls := findClass_of_methodNamed B.named
  have hl := lv_entry ([.ref (b 0)]) (n := 1) (Nat.le_of_ble_eq_true rfl)
  rw [lg_entry_eq]
  generalize (lg_sl ([.ref (b 0)]) ++ List.replicate (1 - (lg_sl ([.ref (b 0)])).length) Slot.unset).toArray = ls at hl ⊢
  have hl : lv_has ls 1 [(0, .ref (b 0))] := hl
  refine lv_aload_n hx hb d_X_faults_0 rfl (lv_at hl 0 rfl) ?_
  refine va_get (D := D) (ci := 0) (v := .ref (b 9)) hx hb hT.lays ly_X hown hT.1 hP 0 rfl rfl 2 (by decide) (hT.w k_X_32) (fun _ h => h) rfl d_X_faults_1 ?_
  refine va_getN (D := D) (ci := 1) (v := .int (km_fl (ks_m q))) hx hb hT.lays ly_M hown hT.1 hP 9 rfl rfl 7 (by decide) (hT.w k_X_114) (fun _ h => h) rfl d_X_faults_4 ?_
  refine ob_iret hlocks hx hb hr d_X_faults_7 (fun q hq => nomatch hq) (fun t ht hW => ?_)
  exact ⟨rfl, ht⟩

set_option maxHeartbeats 4000000 in
set_option maxRecDepth 100000 in
/-- X_evicted -/
theorem c_X_evicted (l : Launch) (D : va_G) (tI tZ tA tJ : ClassId) (b : Nat → Nat) (F S : Nat) (q : KS)  : ob_M l y_X_evicted w_X_evicted ({ frames := 0, cells := 0, slots := 0, locals := 0 }) (pR D tI tZ tA tJ [.ref (b 0)] (xW b F S tI tZ tA q) (True)) (ob_qR (some (.int (km_ev (ks_m q))))) 0 0 (fun _ => False) := by
  refine ob_ofW (by decide +kernel) ?_
  intro p e s m args below meth c s₁ B hml htab hv
  obtain ⟨rfl, hT, -, hP⟩ := hv
  have hx := B.exec
  have hb := B.bytes
  have hr := B.returns
  have hlocks := B.notSynchronized
  have hown : s.vm.findClass R_X = some m.cls := findClass_of_methodNamed B.named
  have hl := lv_entry ([.ref (b 0)]) (n := 1) (Nat.le_of_ble_eq_true rfl)
  rw [lg_entry_eq]
  generalize (lg_sl ([.ref (b 0)]) ++ List.replicate (1 - (lg_sl ([.ref (b 0)])).length) Slot.unset).toArray = ls at hl ⊢
  have hl : lv_has ls 1 [(0, .ref (b 0))] := hl
  refine lv_aload_n hx hb d_X_evicted_0 rfl (lv_at hl 0 rfl) ?_
  refine va_get (D := D) (ci := 0) (v := .ref (b 9)) hx hb hT.lays ly_X hown hT.1 hP 0 rfl rfl 2 (by decide) (hT.w k_X_32) (fun _ h => h) rfl d_X_evicted_1 ?_
  refine va_getN (D := D) (ci := 1) (v := .int (km_ev (ks_m q))) hx hb hT.lays ly_M hown hT.1 hP 9 rfl rfl 8 (by decide) (hT.w k_X_117) (fun _ h => h) rfl d_X_evicted_4 ?_
  refine ob_iret hlocks hx hb hr d_X_evicted_7 (fun q hq => nomatch hq) (fun t ht hW => ?_)
  exact ⟨rfl, ht⟩

set_option maxHeartbeats 4000000 in
set_option maxRecDepth 100000 in
/-- X_isThere -/
theorem c_X_isThere (l : Launch) (D : va_G) (tI tZ tA tJ : ClassId) (b : Nat → Nat) (F S : Nat) (q : KS) (p0 : Int32) : ob_M l y_X_isThere w_X_isThere ({ frames := 0, cells := 0, slots := 0, locals := 0 }) (pR D tI tZ tA tJ [.ref (b 0), .int p0] (xW b F S tI tZ tA q) (True)) (ob_qR (some (.int (m_isP (ks_th q) p0)))) 0 0 (fun _ => False) := by
  refine ob_ofW (by decide +kernel) ?_
  intro p e s m args below meth c s₁ B hml htab hv
  obtain ⟨rfl, hT, -, hP⟩ := hv
  have hx := B.exec
  have hb := B.bytes
  have hr := B.returns
  have hlocks := B.notSynchronized
  have hown : s.vm.findClass R_X = some m.cls := findClass_of_methodNamed B.named
  have hl := lv_entry ([.ref (b 0), .int p0]) (n := 2) (Nat.le_of_ble_eq_true rfl)
  rw [lg_entry_eq]
  generalize (lg_sl ([.ref (b 0), .int p0]) ++ List.replicate (2 - (lg_sl ([.ref (b 0), .int p0])).length) Slot.unset).toArray = ls at hl ⊢
  have hl : lv_has ls 2 [(0, .ref (b 0)), (1, .int p0)] := hl
  unfold m_isP
  refine lv_iload_n hx hb d_X_isThere_0 rfl (lv_at hl 1 rfl) ?_
  refine lv_if_lt (tgt := 23) hx hb d_X_isThere_1 (by decide) (fun hc => ?_) (fun hc => ?_)
  · rw [if_pos hc]
    refine lv_iconst (v := 0) hx hb d_X_isThere_23 (by decide) ?_
    refine ob_zret hlocks hx hb hr d_X_isThere_24 (rfl) (fun q hq => nomatch hq) (fun t ht hW => ?_)
    exact ⟨rfl, ht⟩
  · rw [if_neg hc]
    have hc0 := hc
    refine lv_iload_n hx hb d_X_isThere_4 rfl (lv_at hl 1 rfl) ?_
    refine lv_bipush (v := 6) hx hb d_X_isThere_5 (by decide) ?_
    refine lv_icmp_ge (tgt := 23) hx hb d_X_isThere_7 (by decide) (fun hc => ?_) (fun hc => ?_)
    · rw [if_pos hc]
      refine lv_iconst (v := 0) hx hb d_X_isThere_23 (by decide) ?_
      refine ob_zret hlocks hx hb hr d_X_isThere_24 (rfl) (fun q hq => nomatch hq) (fun t ht hW => ?_)
      exact ⟨rfl, ht⟩
    · rw [if_neg hc]
      refine lv_aload_n hx hb d_X_isThere_10 rfl (lv_at hl 0 rfl) ?_
      refine va_get (D := D) (ci := 0) (v := .ref (b 1)) hx hb hT.lays ly_X hown hT.1 hP 0 rfl rfl 0 (by decide) (hT.w k_X_9) (fun _ h => h) rfl d_X_isThere_11 ?_
      refine lv_iload_n hx hb d_X_isThere_14 rfl (lv_at hl 1 rfl) ?_
      refine va_zald hx hb hT.1 hP 1 1 rfl rfl (page_in hc0 hc) d_X_isThere_15 ?_
      refine lv_if_eq (tgt := 23) hx hb d_X_isThere_16 (by decide) (fun hc => ?_) (fun hc => ?_)
      · rw [if_pos hc]
        refine lv_iconst (v := 0) hx hb d_X_isThere_23 (by decide) ?_
        refine ob_zret hlocks hx hb hr d_X_isThere_24 (rfl) (fun q hq => nomatch hq) (fun t ht hW => ?_)
        exact ⟨rfl, ht⟩
      · rw [if_neg hc]
        refine lv_iconst (v := 1) hx hb d_X_isThere_19 (by decide) ?_
        refine lv_goto (tgt := 24) hx hb d_X_isThere_20 (by decide) ?_
        refine ob_zret hlocks hx hb hr d_X_isThere_24 (rfl) (fun q hq => nomatch hq) (fun t ht hW => ?_)
        exact ⟨rfl, ht⟩

set_option maxHeartbeats 4000000 in
set_option maxRecDepth 100000 in
/-- X_lowestNotThere -/
theorem c_X_lowestNotThere (l : Launch) (D : va_G) (tI tZ tA tJ : ClassId) (b : Nat → Nat) (F S : Nat) (q : KS)  : ob_M l y_X_lowestNotThere w_X_lowestNotThere ({ frames := 0, cells := 0, slots := 0, locals := 0 }) (pR D tI tZ tA tJ [.ref (b 0)] (xW b F S tI tZ tA q) (True)) (ob_qR (some (.int (m_lowP (ks_th q) 6 0)))) 0 0 (fun _ => False) := by
  refine ob_ofW (by decide +kernel) ?_
  intro p e s m args below meth c s₁ B hml htab hv
  obtain ⟨rfl, hT, -, hP⟩ := hv
  have hx := B.exec
  have hb := B.bytes
  have hr := B.returns
  have hlocks := B.notSynchronized
  have hown : s.vm.findClass R_X = some m.cls := findClass_of_methodNamed B.named
  have hl := lv_entry ([.ref (b 0)]) (n := 2) (Nat.le_of_ble_eq_true rfl)
  rw [lg_entry_eq]
  generalize (lg_sl ([.ref (b 0)]) ++ List.replicate (2 - (lg_sl ([.ref (b 0)])).length) Slot.unset).toArray = ls at hl ⊢
  have hl : lv_has ls 2 [(0, .ref (b 0))] := hl
  have loop : ∀ (n i : Nat) (ls : Array Slot), i + n = 6 → m_lowP (ks_th q) n i = m_lowP (ks_th q) 6 0 → lv_has ls 2 [(1, .int (nI i)), (0, .ref (b 0))] → W p l e ({ frames := 0, cells := 0, slots := 0, locals := 0 } : Room) s m ([.ref (b 0)] : List Value).toArray below meth c s.heap [] 0 0 (ob_Q below (ob_qR (some (.int (m_lowP (ks_th q) 6 0)))) ([.ref (b 0)] : List Value).toArray s 0 0 (fun _ => False)) (F0 m 2 ls []) := by
    intro n
    induction n with
    | zero =>
      intro i ls hi hR hl
      refine lv_iload_n hx hb d_X_lowestNotThere_2 rfl (lv_at hl 0 rfl) ?_
      refine lv_bipush (v := 6) hx hb d_X_lowestNotThere_3 (by decide) ?_
      refine lv_icmp_ge (tgt := 25) hx hb d_X_lowestNotThere_5 (by decide) (fun hc => ?_) (fun hc => absurd (nI_le (a := 6) (by omega) (by omega)) hc)
      rw [← hR]
      refine lv_iconst (v := -1) hx hb d_X_lowestNotThere_25 (by decide) ?_
      refine ob_iret hlocks hx hb hr d_X_lowestNotThere_26 (fun q hq => nomatch hq) (fun t ht hW => ?_)
      exact ⟨rfl, ht⟩
    | succ n ih =>
      intro i ls hi hR hl
      refine lv_iload_n hx hb d_X_lowestNotThere_2 rfl (lv_at hl 0 rfl) ?_
      refine lv_bipush (v := 6) hx hb d_X_lowestNotThere_3 (by decide) ?_
      refine lv_icmp_ge (tgt := 25) hx hb d_X_lowestNotThere_5 (by decide) (fun hc => absurd hc (nI_ge (b := 6) (by omega) (by omega))) (fun hc => ?_)
      have hv : ks_th q (ix (nI i)) = ks_th q i := by show ks_th q (nI i).toNatClampNeg = ks_th q i; rw [nI_clamp (by omega)]
      refine lv_aload_n hx hb d_X_lowestNotThere_8 rfl (lv_at hl 1 rfl) ?_
      refine va_get (D := D) (ci := 0) (v := .ref (b 1)) hx hb hT.lays ly_X hown hT.1 hP 0 rfl rfl 0 (by decide) (hT.w k_X_9) (fun _ h => h) rfl d_X_lowestNotThere_9 ?_
      refine lv_iload_n hx hb d_X_lowestNotThere_12 rfl (lv_at hl 0 rfl) ?_
      refine va_zald hx hb hT.1 hP 1 1 rfl rfl (vp_in_nI (by omega) (by omega)) d_X_lowestNotThere_13 ?_
      rw [hv]
      refine lv_if_ne (tgt := 19) hx hb d_X_lowestNotThere_14 (by decide) (fun hc => ?_) (fun hc => ?_)
      · refine lv_iinc (k := 0) (v := nI (i + 1)) (lv' := [(1, .int (nI (i + 1))), (0, .ref (b 0))]) hx hb d_X_lowestNotThere_19 hl rfl (nI_1 i) (by decide) rfl (fun ls hl => ?_)
        refine lv_goto (tgt := 2) hx hb d_X_lowestNotThere_22 (by decide) ?_
        refine ih (i + 1) ls (by omega) ?_ hl
        rw [← hR]
        exact (if_neg hc).symm
      · have e1 : m_lowP (ks_th q) (n + 1) i = nI i := if_pos hc
        rw [← hR, e1]
        refine lv_iload_n hx hb d_X_lowestNotThere_17 rfl (lv_at hl 0 rfl) ?_
        refine ob_iret hlocks hx hb hr d_X_lowestNotThere_18 (fun q hq => nomatch hq) (fun t ht hW => ?_)
        exact ⟨rfl, ht⟩
  refine lv_iconst (v := 0) hx hb d_X_lowestNotThere_0 (by decide) ?_
  refine lv_istore_n (lv' := [(1, .int 0), (0, .ref (b 0))]) hx hb d_X_lowestNotThere_1 rfl hl (by decide) rfl (fun ls hl => ?_)
  exact loop 6 0 ls rfl rfl hl

set_option maxHeartbeats 4000000 in
set_option maxRecDepth 100000 in
/-- X_sheetOf -/
theorem c_X_sheetOf (l : Launch) (D : va_G) (tI tZ tA tJ : ClassId) (b : Nat → Nat) (F S : Nat) (q : KS) (p0 x : Int32) : ob_M l y_X_sheetOf w_X_sheetOf ({ frames := 1, cells := 0, slots := 0, locals := 21 }) (pR D tI tZ tA tJ [.ref (b 0), .int p0, .int x] (xW b F S tI tZ tA q) (True)) (ob_qR (some (.int (k_sheetOf q p0 x)))) 0 0 (fun _ => False) := by
  refine ob_ofW (by decide +kernel) ?_
  intro p e s m args below meth c s₁ B hml htab hv
  obtain ⟨rfl, hT, -, hP⟩ := hv
  have hx := B.exec
  have hb := B.bytes
  have hr := B.returns
  have hlocks := B.notSynchronized
  have hown : s.vm.findClass R_X = some m.cls := findClass_of_methodNamed B.named
  have hl := lv_entry ([.ref (b 0), .int p0, .int x]) (n := 3) (Nat.le_of_ble_eq_true rfl)
  rw [lg_entry_eq]
  generalize (lg_sl ([.ref (b 0), .int p0, .int x]) ++ List.replicate (3 - (lg_sl ([.ref (b 0), .int p0, .int x])).length) Slot.unset).toArray = ls at hl ⊢
  have hl : lv_has ls 3 [(0, .ref (b 0)), (1, .int p0), (2, .int x)] := hl
  unfold k_sheetOf
  refine lv_aload_n hx hb d_X_sheetOf_0 rfl (lv_at hl 0 rfl) ?_
  refine lv_iload_n hx hb d_X_sheetOf_1 rfl (lv_at hl 1 rfl) ?_
  refine ob_callR (v := (some (.int (m_isP (ks_th q) p0)))) (ob_runV (n := 1) (As := [.int p0]) (rest := []) (c_X_isThere l D tI tZ tA tJ b F S q p0) (hT.ok ob_cd_c (by decide +kernel) rfl rfl (Nat.le_of_ble_eq_true rfl) (Nat.le_of_ble_eq_true rfl) kn_X kc_X_isThere) hx hb hml hown (hT.w k_X_120) (hT.w ki_X_isThere) (hT.w kv_X_isThere) (va_recv (q0 := 0) (ci := 0) hT.1 hP rfl rfl) pR.blind (pR.at hT (trivial) hP) rfl rfl hl.1 rfl (lv_room (Nat.le_of_ble_eq_true rfl)) d_X_sheetOf_2 ⟨Nat.le_of_ble_eq_true rfl, Nat.le_of_ble_eq_true rfl⟩) ?_
  refine W.eq (g2 := F0 m 5 ls [.int (m_isP (ks_th q) p0)]) rfl ?_
  refine lv_if_eq (tgt := 29) hx hb d_X_sheetOf_5 (by decide) (fun hc => ?_) (fun hc => ?_)
  · rw [if_pos hc]
    refine lv_iconst (v := -1) hx hb d_X_sheetOf_29 (by decide) ?_
    refine ob_iret hlocks hx hb hr d_X_sheetOf_30 (fun q hq => nomatch hq) (fun t ht hW => ?_)
    exact ⟨rfl, ht⟩
  · rw [if_neg hc]
    have hp6 := m_isP_in hc
    refine lv_iload_n hx hb d_X_sheetOf_8 rfl (lv_at hl 2 rfl) ?_
    refine lv_if_lt (tgt := 29) hx hb d_X_sheetOf_9 (by decide) (fun hc => ?_) (fun hc => ?_)
    · rw [if_pos hc]
      refine lv_iconst (v := -1) hx hb d_X_sheetOf_29 (by decide) ?_
      refine ob_iret hlocks hx hb hr d_X_sheetOf_30 (fun q hq => nomatch hq) (fun t ht hW => ?_)
      exact ⟨rfl, ht⟩
    · rw [if_neg hc]
      have hc0 := hc
      refine lv_iload_n hx hb d_X_sheetOf_12 rfl (lv_at hl 2 rfl) ?_
      refine lv_bipush (v := 6) hx hb d_X_sheetOf_13 (by decide) ?_
      refine lv_icmp_ge (tgt := 29) hx hb d_X_sheetOf_15 (by decide) (fun hc => ?_) (fun hc => ?_)
      · rw [if_pos hc]
        refine lv_iconst (v := -1) hx hb d_X_sheetOf_29 (by decide) ?_
        refine ob_iret hlocks hx hb hr d_X_sheetOf_30 (fun q hq => nomatch hq) (fun t ht hW => ?_)
        exact ⟨rfl, ht⟩
      · rw [if_neg hc]
        refine lv_aload_n hx hb d_X_sheetOf_18 rfl (lv_at hl 0 rfl) ?_
        refine va_get (D := D) (ci := 0) (v := .ref (b 2)) hx hb hT.lays ly_X hown hT.1 hP 0 rfl rfl 1 (by decide) (hT.w k_X_15) (fun _ h => h) rfl d_X_sheetOf_19 ?_
        refine lv_iload_n hx hb d_X_sheetOf_22 rfl (lv_at hl 1 rfl) ?_
        refine ob_aald hx hb hT.1 hP 2 2 rfl rfl (hp6) d_X_sheetOf_23 ?_
        refine lv_iload_n hx hb d_X_sheetOf_24 rfl (lv_at hl 2 rfl) ?_
        refine va_iald hx hb hT.1 hP (3 + ix p0) 0 (pl_get (vp_ix hp6) rfl) rfl (page_in hc0 hc) d_X_sheetOf_25 ?_
        refine lv_goto (tgt := 30) hx hb d_X_sheetOf_26 (by decide) ?_
        refine ob_iret hlocks hx hb hr d_X_sheetOf_30 (fun q hq => nomatch hq) (fun t ht hW => ?_)
        exact ⟨rfl, ht⟩

set_option maxHeartbeats 4000000 in
set_option maxRecDepth 100000 in
/-- X_where -/
theorem c_X_where (l : Launch) (D : va_G) (tI tZ tA tJ : ClassId) (b : Nat → Nat) (F S : Nat) (q : KS) (p0 x : Int32) : ob_M l y_X_where w_X_where ({ frames := 2, cells := 0, slots := 0, locals := 43 }) (pR D tI tZ tA tJ [.ref (b 0), .int p0, .int x] (xW b F S tI tZ tA q) (¬ k_sheetOf q p0 x = -1 → vp_in (k_sheetOf q p0 x) (F + S))) (ob_qR (some (.int (k_where q p0 x)))) 0 0 (fun _ => False) := by
  refine ob_ofW (by decide +kernel) ?_
  intro p e s m args below meth c s₁ B hml htab hv
  obtain ⟨rfl, hT, hin, hP⟩ := hv
  have hx := B.exec
  have hb := B.bytes
  have hr := B.returns
  have hlocks := B.notSynchronized
  have hown : s.vm.findClass R_X = some m.cls := findClass_of_methodNamed B.named
  have hl := lv_entry ([.ref (b 0), .int p0, .int x]) (n := 4) (Nat.le_of_ble_eq_true rfl)
  rw [lg_entry_eq]
  generalize (lg_sl ([.ref (b 0), .int p0, .int x]) ++ List.replicate (4 - (lg_sl ([.ref (b 0), .int p0, .int x])).length) Slot.unset).toArray = ls at hl ⊢
  have hl : lv_has ls 4 [(0, .ref (b 0)), (1, .int p0), (2, .int x)] := hl
  unfold k_where
  refine lv_aload_n hx hb d_X_where_0 rfl (lv_at hl 0 rfl) ?_
  refine lv_iload_n hx hb d_X_where_1 rfl (lv_at hl 1 rfl) ?_
  refine lv_iload_n hx hb d_X_where_2 rfl (lv_at hl 2 rfl) ?_
  refine ob_callR (v := (some (.int (k_sheetOf q p0 x)))) (ob_runV (n := 2) (As := [.int p0, .int x]) (rest := []) (c_X_sheetOf l D tI tZ tA tJ b F S q p0 x) (hT.ok ob_cd_c (by decide +kernel) rfl rfl (Nat.le_of_ble_eq_true rfl) (Nat.le_of_ble_eq_true rfl) kn_X kc_X_sheetOf) hx hb hml hown (hT.w k_X_86) (hT.w ki_X_sheetOf) (hT.w kv_X_sheetOf) (va_recv (q0 := 0) (ci := 0) hT.1 hP rfl rfl) pR.blind (pR.at hT (trivial) hP) rfl rfl hl.1 rfl (lv_room (Nat.le_of_ble_eq_true rfl)) d_X_where_3 ⟨Nat.le_of_ble_eq_true rfl, Nat.le_of_ble_eq_true rfl⟩) ?_
  refine W.eq (g2 := F0 m 6 ls [.int (k_sheetOf q p0 x)]) rfl ?_
  refine lv_istore_n (lv' := [(3, .int (k_sheetOf q p0 x)), (0, .ref (b 0)), (1, .int p0), (2, .int x)]) hx hb d_X_where_6 rfl hl (by decide) rfl (fun ls hl => ?_)
  refine lv_iload_n hx hb d_X_where_7 rfl (lv_at hl 0 rfl) ?_
  refine lv_iconst (v := -1) hx hb d_X_where_8 (by decide) ?_
  refine lv_icmp_ne (tgt := 16) hx hb d_X_where_9 (by decide) (fun hc => ?_) (fun hc => ?_)
  · rw [if_neg hc]
    refine lv_aload_n hx hb d_X_where_16 rfl (lv_at hl 1 rfl) ?_
    refine va_get (D := D) (ci := 0) (v := .ref (b 9)) hx hb hT.lays ly_X hown hT.1 hP 0 rfl rfl 2 (by decide) (hT.w k_X_32) (fun _ h => h) rfl d_X_where_17 ?_
    refine lv_iload_n hx hb d_X_where_20 rfl (lv_at hl 0 rfl) ?_
    refine ob_callR (v := (some (.int (km_pl (ks_m q) (ix (k_sheetOf q p0 x)))))) (ob_runV (n := 1) (As := [.int (k_sheetOf q p0 x)]) (rest := []) (c_M_placeOf l D tI tZ tA tJ b F S (ks_m q) (k_sheetOf q p0 x)) (hT.ok ob_cd_c (by decide +kernel) rfl rfl (Nat.le_of_ble_eq_true rfl) (Nat.le_of_ble_eq_true rfl) kn_M kc_M_placeOf) hx hb hml hown (hT.w k_X_89) (hT.w ki_M_placeOf) (hT.w kv_M_placeOf) (va_recv (q0 := 9) (ci := 1) hT.1 hP rfl rfl) pR.blind (pR.at hT (hin hc) (ob_Pr (ob_Pr hP))) rfl rfl hl.1 rfl (lv_room (Nat.le_of_ble_eq_true rfl)) d_X_where_21 ⟨Nat.le_of_ble_eq_true rfl, Nat.le_of_ble_eq_true rfl⟩) ?_
    refine W.eq (g2 := F0 m 24 ls [.int (km_pl (ks_m q) (ix (k_sheetOf q p0 x)))]) rfl ?_
    refine ob_iret hlocks hx hb hr d_X_where_24 (fun q hq => nomatch hq) (fun t ht hW => ?_)
    exact ⟨rfl, ht⟩
  · rw [if_pos hc]
    refine lv_iconst (v := -1) hx hb d_X_where_12 (by decide) ?_
    refine lv_goto (tgt := 24) hx hb d_X_where_13 (by decide) ?_
    refine ob_iret hlocks hx hb hr d_X_where_24 (fun q hq => nomatch hq) (fun t ht hW => ?_)
    exact ⟨rfl, ht⟩

set_option maxHeartbeats 4000000 in
set_option maxRecDepth 100000 in
/-- X_sharers -/
theorem c_X_sharers (l : Launch) (D : va_G) (tI tZ tA tJ : ClassId) (b : Nat → Nat) (F S : Nat) (q : KS) (p0 x : Int32) : ob_M l y_X_sharers w_X_sharers ({ frames := 2, cells := 0, slots := 0, locals := 43 }) (pR D tI tZ tA tJ [.ref (b 0), .int p0, .int x] (xW b F S tI tZ tA q) (¬ k_sheetOf q p0 x = -1 → vp_in (k_sheetOf q p0 x) (F + S))) (ob_qR (some (.int (k_sharers q p0 x)))) 0 0 (fun _ => False) := by
  refine ob_ofW (by decide +kernel) ?_
  intro p e s m args below meth c s₁ B hml htab hv
  obtain ⟨rfl, hT, hin, hP⟩ := hv
  have hx := B.exec
  have hb := B.bytes
  have hr := B.returns
  have hlocks := B.notSynchronized
  have hown : s.vm.findClass R_X = some m.cls := findClass_of_methodNamed B.named
  have hl := lv_entry ([.ref (b 0), .int p0, .int x]) (n := 4) (Nat.le_of_ble_eq_true rfl)
  rw [lg_entry_eq]
  generalize (lg_sl ([.ref (b 0), .int p0, .int x]) ++ List.replicate (4 - (lg_sl ([.ref (b 0), .int p0, .int x])).length) Slot.unset).toArray = ls at hl ⊢
  have hl : lv_has ls 4 [(0, .ref (b 0)), (1, .int p0), (2, .int x)] := hl
  unfold k_sharers
  refine lv_aload_n hx hb d_X_sharers_0 rfl (lv_at hl 0 rfl) ?_
  refine lv_iload_n hx hb d_X_sharers_1 rfl (lv_at hl 1 rfl) ?_
  refine lv_iload_n hx hb d_X_sharers_2 rfl (lv_at hl 2 rfl) ?_
  refine ob_callR (v := (some (.int (k_sheetOf q p0 x)))) (ob_runV (n := 2) (As := [.int p0, .int x]) (rest := []) (c_X_sheetOf l D tI tZ tA tJ b F S q p0 x) (hT.ok ob_cd_c (by decide +kernel) rfl rfl (Nat.le_of_ble_eq_true rfl) (Nat.le_of_ble_eq_true rfl) kn_X kc_X_sheetOf) hx hb hml hown (hT.w k_X_86) (hT.w ki_X_sheetOf) (hT.w kv_X_sheetOf) (va_recv (q0 := 0) (ci := 0) hT.1 hP rfl rfl) pR.blind (pR.at hT (trivial) hP) rfl rfl hl.1 rfl (lv_room (Nat.le_of_ble_eq_true rfl)) d_X_sharers_3 ⟨Nat.le_of_ble_eq_true rfl, Nat.le_of_ble_eq_true rfl⟩) ?_
  refine W.eq (g2 := F0 m 6 ls [.int (k_sheetOf q p0 x)]) rfl ?_
  refine lv_istore_n (lv' := [(3, .int (k_sheetOf q p0 x)), (0, .ref (b 0)), (1, .int p0), (2, .int x)]) hx hb d_X_sharers_6 rfl hl (by decide) rfl (fun ls hl => ?_)
  refine lv_iload_n hx hb d_X_sharers_7 rfl (lv_at hl 0 rfl) ?_
  refine lv_iconst (v := -1) hx hb d_X_sharers_8 (by decide) ?_
  refine lv_icmp_ne (tgt := 16) hx hb d_X_sharers_9 (by decide) (fun hc => ?_) (fun hc => ?_)
  · rw [if_neg hc]
    refine lv_aload_n hx hb d_X_sharers_16 rfl (lv_at hl 1 rfl) ?_
    refine va_get (D := D) (ci := 0) (v := .ref (b 9)) hx hb hT.lays ly_X hown hT.1 hP 0 rfl rfl 2 (by decide) (hT.w k_X_32) (fun _ h => h) rfl d_X_sharers_17 ?_
    refine lv_iload_n hx hb d_X_sharers_20 rfl (lv_at hl 0 rfl) ?_
    refine ob_callR (v := (some (.int (km_ct (ks_m q) (ix (k_sheetOf q p0 x)))))) (ob_runV (n := 1) (As := [.int (k_sheetOf q p0 x)]) (rest := []) (c_M_pagesOf l D tI tZ tA tJ b F S (ks_m q) (k_sheetOf q p0 x)) (hT.ok ob_cd_c (by decide +kernel) rfl rfl (Nat.le_of_ble_eq_true rfl) (Nat.le_of_ble_eq_true rfl) kn_M kc_M_pagesOf) hx hb hml hown (hT.w k_X_93) (hT.w ki_M_pagesOf) (hT.w kv_M_pagesOf) (va_recv (q0 := 9) (ci := 1) hT.1 hP rfl rfl) pR.blind (pR.at hT (hin hc) (ob_Pr (ob_Pr hP))) rfl rfl hl.1 rfl (lv_room (Nat.le_of_ble_eq_true rfl)) d_X_sharers_21 ⟨Nat.le_of_ble_eq_true rfl, Nat.le_of_ble_eq_true rfl⟩) ?_
    refine W.eq (g2 := F0 m 24 ls [.int (km_ct (ks_m q) (ix (k_sheetOf q p0 x)))]) rfl ?_
    refine ob_iret hlocks hx hb hr d_X_sharers_24 (fun q hq => nomatch hq) (fun t ht hW => ?_)
    exact ⟨rfl, ht⟩
  · rw [if_pos hc]
    refine lv_iconst (v := 0) hx hb d_X_sharers_12 (by decide) ?_
    refine lv_goto (tgt := 24) hx hb d_X_sharers_13 (by decide) ?_
    refine ob_iret hlocks hx hb hr d_X_sharers_24 (fun q hq => nomatch hq) (fun t ht hW => ?_)
    exact ⟨rfl, ht⟩

theorem k_hasMark_nar (F : Nat) (f : Nat → Int32) (x : Int32) : narrow .boolean (.int (k_hasMark F f x)) = .int (k_hasMark F f x) := by
  unfold k_hasMark
  split
  · rfl
  · split
    · rfl
    · split <;> rfl

set_option maxHeartbeats 4000000 in
set_option maxRecDepth 100000 in
/-- X_marked -/
theorem c_X_marked (l : Launch) (D : va_G) (tI tZ tA tJ : ClassId) (b : Nat → Nat) (F S : Nat) (q : KS) (x : Int32) : ob_M l y_X_marked w_X_marked ({ frames := 1, cells := 0, slots := 0, locals := 21 }) (pR D tI tZ tA tJ [.ref (b 0), .int x] (xW b F S tI tZ tA q) (F ≤ 8)) (ob_qR (some (.int (k_hasMark F (km_mk (ks_m q)) x)))) 0 0 (fun _ => False) := by
  refine ob_ofW (by decide +kernel) ?_
  intro p e s m args below meth c s₁ B hml htab hv
  obtain ⟨rfl, hT, hF, hP⟩ := hv
  have hx := B.exec
  have hb := B.bytes
  have hr := B.returns
  have hlocks := B.notSynchronized
  have hown : s.vm.findClass R_X = some m.cls := findClass_of_methodNamed B.named
  have hl := lv_entry ([.ref (b 0), .int x]) (n := 2) (Nat.le_of_ble_eq_true rfl)
  rw [lg_entry_eq]
  generalize (lg_sl ([.ref (b 0), .int x]) ++ List.replicate (2 - (lg_sl ([.ref (b 0), .int x])).length) Slot.unset).toArray = ls at hl ⊢
  have hl : lv_has ls 2 [(0, .ref (b 0)), (1, .int x)] := hl
  refine lv_aload_n hx hb d_X_marked_0 rfl (lv_at hl 0 rfl) ?_
  refine va_get (D := D) (ci := 0) (v := .ref (b 9)) hx hb hT.lays ly_X hown hT.1 hP 0 rfl rfl 2 (by decide) (hT.w k_X_32) (fun _ h => h) rfl d_X_marked_1 ?_
  refine lv_iload_n hx hb d_X_marked_4 rfl (lv_at hl 1 rfl) ?_
  refine ob_callR (v := (some (.int (k_hasMark F (km_mk (ks_m q)) x)))) (ob_runV (n := 1) (As := [.int x]) (rest := []) (c_M_hasMark l D tI tZ tA tJ b F S (ks_m q) x) (hT.ok ob_cd_c (by decide +kernel) rfl rfl (Nat.le_of_ble_eq_true rfl) (Nat.le_of_ble_eq_true rfl) kn_M kc_M_hasMark) hx hb hml hown (hT.w k_X_96) (hT.w ki_M_hasMark) (hT.w kv_M_hasMark) (va_recv (q0 := 9) (ci := 1) hT.1 hP rfl rfl) pR.blind (pR.at hT (hF) (ob_Pr (ob_Pr hP))) rfl rfl hl.1 rfl (lv_room (Nat.le_of_ble_eq_true rfl)) d_X_marked_5 ⟨Nat.le_of_ble_eq_true rfl, Nat.le_of_ble_eq_true rfl⟩) ?_
  refine W.eq (g2 := F0 m 8 ls [.int (k_hasMark F (km_mk (ks_m q)) x)]) rfl ?_
  refine ob_zret hlocks hx hb hr d_X_marked_8 (k_hasMark_nar _ _ _) (fun q hq => nomatch hq) (fun t ht hW => ?_)
  exact ⟨rfl, ht⟩

set_option maxHeartbeats 4000000 in
set_option maxRecDepth 100000 in
/-- X_freeFrames -/
theorem c_X_freeFrames (l : Launch) (D : va_G) (tI tZ tA tJ : ClassId) (b : Nat → Nat) (F S : Nat) (q : KS)  : ob_M l y_X_freeFrames w_X_freeFrames ({ frames := 1, cells := 0, slots := 0, locals := 22 }) (pR D tI tZ tA tJ [.ref (b 0)] (xW b F S tI tZ tA q) (F ≤ 10)) (ob_qR (some (.int (k_cnt (km_iF (ks_m q)) F 0 0)))) 0 0 (fun _ => False) := by
  refine ob_ofW (by decide +kernel) ?_
  intro p e s m args below meth c s₁ B hml htab hv
  obtain ⟨rfl, hT, hn, hP⟩ := hv
  have hx := B.exec
  have hb := B.bytes
  have hr := B.returns
  have hlocks := B.notSynchronized
  have hown : s.vm.findClass R_X = some m.cls := findClass_of_methodNamed B.named
  have hl := lv_entry ([.ref (b 0)]) (n := 1) (Nat.le_of_ble_eq_true rfl)
  rw [lg_entry_eq]
  generalize (lg_sl ([.ref (b 0)]) ++ List.replicate (1 - (lg_sl ([.ref (b 0)])).length) Slot.unset).toArray = ls at hl ⊢
  have hl : lv_has ls 1 [(0, .ref (b 0))] := hl
  refine lv_aload_n hx hb d_X_freeFrames_0 rfl (lv_at hl 0 rfl) ?_
  refine va_get (D := D) (ci := 0) (v := .ref (b 9)) hx hb hT.lays ly_X hown hT.1 hP 0 rfl rfl 2 (by decide) (hT.w k_X_32) (fun _ h => h) rfl d_X_freeFrames_1 ?_
  refine va_getN (D := D) (ci := 1) (v := .ref (b 10)) hx hb hT.lays ly_M hown hT.1 hP 9 rfl rfl 0 (by decide) (hT.w k_X_103) (fun _ h => h) rfl d_X_freeFrames_4 ?_
  refine ob_callR (v := (some (.int (k_cnt (km_iF (ks_m q)) F 0 0)))) (ob_runS (n := 1) (As := [.ref (b 10)]) (rest := []) (c_X_countFree l D tI tZ tA tJ (b 10) F (km_iF (ks_m q))) (hT.ok ob_cd_c (by decide +kernel) rfl rfl (Nat.le_of_ble_eq_true rfl) (Nat.le_of_ble_eq_true rfl) kn_X kc_X_countFree) hx hb hml hown (hT.w k_X_107) (hT.w ks_X_countFree) pR.blind (pR.at hT (by omega) (hP.sub [10] rfl)) rfl rfl hl.1 rfl (lv_room (Nat.le_of_ble_eq_true rfl)) d_X_freeFrames_7 ⟨Nat.le_of_ble_eq_true rfl, Nat.le_of_ble_eq_true rfl⟩) ?_
  refine W.eq (g2 := F0 m 10 ls [.int (k_cnt (km_iF (ks_m q)) F 0 0)]) rfl ?_
  refine ob_iret hlocks hx hb hr d_X_freeFrames_10 (fun q hq => nomatch hq) (fun t ht hW => ?_)
  exact ⟨rfl, ht⟩

set_option maxHeartbeats 4000000 in
set_option maxRecDepth 100000 in
/-- X_freeSlots -/
theorem c_X_freeSlots (l : Launch) (D : va_G) (tI tZ tA tJ : ClassId) (b : Nat → Nat) (F S : Nat) (q : KS)  : ob_M l y_X_freeSlots w_X_freeSlots ({ frames := 1, cells := 0, slots := 0, locals := 22 }) (pR D tI tZ tA tJ [.ref (b 0)] (xW b F S tI tZ tA q) (S ≤ 10)) (ob_qR (some (.int (k_cnt (km_iS (ks_m q)) S 0 0)))) 0 0 (fun _ => False) := by
  refine ob_ofW (by decide +kernel) ?_
  intro p e s m args below meth c s₁ B hml htab hv
  obtain ⟨rfl, hT, hn, hP⟩ := hv
  have hx := B.exec
  have hb := B.bytes
  have hr := B.returns
  have hlocks := B.notSynchronized
  have hown : s.vm.findClass R_X = some m.cls := findClass_of_methodNamed B.named
  have hl := lv_entry ([.ref (b 0)]) (n := 1) (Nat.le_of_ble_eq_true rfl)
  rw [lg_entry_eq]
  generalize (lg_sl ([.ref (b 0)]) ++ List.replicate (1 - (lg_sl ([.ref (b 0)])).length) Slot.unset).toArray = ls at hl ⊢
  have hl : lv_has ls 1 [(0, .ref (b 0))] := hl
  refine lv_aload_n hx hb d_X_freeSlots_0 rfl (lv_at hl 0 rfl) ?_
  refine va_get (D := D) (ci := 0) (v := .ref (b 9)) hx hb hT.lays ly_X hown hT.1 hP 0 rfl rfl 2 (by decide) (hT.w k_X_32) (fun _ h => h) rfl d_X_freeSlots_1 ?_
  refine va_getN (D := D) (ci := 1) (v := .ref (b 11)) hx hb hT.lays ly_M hown hT.1 hP 9 rfl rfl 1 (by decide) (hT.w k_X_111) (fun _ h => h) rfl d_X_freeSlots_4 ?_
  refine ob_callR (v := (some (.int (k_cnt (km_iS (ks_m q)) S 0 0)))) (ob_runS (n := 1) (As := [.ref (b 11)]) (rest := []) (c_X_countFree l D tI tZ tA tJ (b 11) S (km_iS (ks_m q))) (hT.ok ob_cd_c (by decide +kernel) rfl rfl (Nat.le_of_ble_eq_true rfl) (Nat.le_of_ble_eq_true rfl) kn_X kc_X_countFree) hx hb hml hown (hT.w k_X_107) (hT.w ks_X_countFree) pR.blind (pR.at hT (by omega) (hP.sub [11] rfl)) rfl rfl hl.1 rfl (lv_room (Nat.le_of_ble_eq_true rfl)) d_X_freeSlots_7 ⟨Nat.le_of_ble_eq_true rfl, Nat.le_of_ble_eq_true rfl⟩) ?_
  refine W.eq (g2 := F0 m 10 ls [.int (k_cnt (km_iS (ks_m q)) S 0 0)]) rfl ?_
  refine ob_iret hlocks hx hb hr d_X_freeSlots_10 (fun q hq => nomatch hq) (fun t ht hW => ?_)
  exact ⟨rfl, ht⟩
