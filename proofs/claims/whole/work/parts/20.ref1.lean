set_option maxHeartbeats 4000000 in
set_option maxRecDepth 100000 in
/-- T_thrown -/
theorem c_T_thrown (l : Launch) (D : va_G) (tI tZ tA tJ : ClassId) (b : Nat → Nat) (F S : Nat) (tw : Int32) (g : Sg)  : ob_M l y_T_thrown w_T_thrown ({ frames := 0, cells := 0, slots := 0, locals := 0 }) (pR D tI tZ tA tJ [.ref (b 0)] (tW b F S tI tZ tw g) (True)) (ob_qR (some (.int tw))) 0 0 (fun _ => False) := by
  refine ob_ofW (by decide +kernel) ?_
  intro p e s m args below meth c s₁ B hml htab hv
  obtain ⟨rfl, hT, -, hP⟩ := hv
  have hx := B.exec
  have hb := B.bytes
  have hr := B.returns
  have hlocks := B.notSynchronized
  have hown : s.vm.findClass R_T = some m.cls := findClass_of_methodNamed B.named
  have hl := lv_entry ([.ref (b 0)]) (n := 1) (Nat.le_of_ble_eq_true rfl)
  rw [lg_entry_eq]
  generalize (lg_sl ([.ref (b 0)]) ++ List.replicate (1 - (lg_sl ([.ref (b 0)])).length) Slot.unset).toArray = ls at hl ⊢
  have hl : lv_has ls 1 [(0, .ref (b 0))] := hl
  refine lv_aload_n hx hb d_T_thrown_0 rfl (lv_at hl 0 rfl) ?_
  refine va_get (D := D) (ci := 2) (v := .int tw) hx hb hT.lays ly_T hown hT.1 hP 0 rfl rfl 0 (by decide) (hT.w k_T_33) (fun _ h => h) rfl d_T_thrown_1 ?_
  refine ob_iret hlocks hx hb hr d_T_thrown_4 (fun q hq => nomatch hq) (fun t ht hW => ?_)
  exact ⟨rfl, ht⟩

set_option maxHeartbeats 4000000 in
set_option maxRecDepth 100000 in
/-- T_sheetAt -/
theorem c_T_sheetAt (l : Launch) (D : va_G) (tI tZ tA tJ : ClassId) (b : Nat → Nat) (F S : Nat) (tw : Int32) (g : Sg) (x : Int32) : ob_M l y_T_sheetAt w_T_sheetAt ({ frames := 0, cells := 0, slots := 0, locals := 0 }) (pR D tI tZ tA tJ [.ref (b 0), .int x] (tW b F S tI tZ tw g) (True)) (ob_qR (some (.int (m_sheetAt (sg_li g) x)))) 0 0 (fun _ => False) := by
  refine ob_ofW (by decide +kernel) ?_
  intro p e s m args below meth c s₁ B hml htab hv
  obtain ⟨rfl, hT, -, hP⟩ := hv
  have hx := B.exec
  have hb := B.bytes
  have hr := B.returns
  have hlocks := B.notSynchronized
  have hown : s.vm.findClass R_T = some m.cls := findClass_of_methodNamed B.named
  have hl := lv_entry ([.ref (b 0), .int x]) (n := 3) (Nat.le_of_ble_eq_true rfl)
  rw [lg_entry_eq]
  generalize (lg_sl ([.ref (b 0), .int x]) ++ List.replicate (3 - (lg_sl ([.ref (b 0), .int x])).length) Slot.unset).toArray = ls at hl ⊢
  have hl : lv_has ls 3 [(0, .ref (b 0)), (1, .int x)] := hl
  have loop : ∀ (n i : Nat) (ls : Array Slot), i + n = 18 → m_at (sg_li g) x n i = m_sheetAt (sg_li g) x → lv_has ls 3 [(2, .int (nI i)), (0, .ref (b 0)), (1, .int x)] → W p l e ({ frames := 0, cells := 0, slots := 0, locals := 0 } : Room) s m ([.ref (b 0), .int x] : List Value).toArray below meth c s.heap [] 0 0 (ob_Q below (ob_qR (some (.int (m_sheetAt (sg_li g) x)))) ([.ref (b 0), .int x] : List Value).toArray s 0 0 (fun _ => False)) (F0 m 2 ls []) := by
    intro n
    induction n with
    | zero =>
      intro i ls hi hR hl
      refine lv_iload_n hx hb d_T_sheetAt_2 rfl (lv_at hl 0 rfl) ?_
      refine lv_bipush (v := 18) hx hb d_T_sheetAt_3 (by decide) ?_
      refine lv_icmp_ge (tgt := 26) hx hb d_T_sheetAt_5 (by decide) (fun hc => ?_) (fun hc => absurd (nI_le (a := 18) (by omega) (by omega)) hc)
      rw [← hR]
      refine lv_iconst (v := -1) hx hb d_T_sheetAt_26 (by decide) ?_
      refine ob_iret hlocks hx hb hr d_T_sheetAt_27 (fun q hq => nomatch hq) (fun t ht hW => ?_)
      exact ⟨rfl, ht⟩
    | succ n ih =>
      intro i ls hi hR hl
      refine lv_iload_n hx hb d_T_sheetAt_2 rfl (lv_at hl 0 rfl) ?_
      refine lv_bipush (v := 18) hx hb d_T_sheetAt_3 (by decide) ?_
      refine lv_icmp_ge (tgt := 26) hx hb d_T_sheetAt_5 (by decide) (fun hc => absurd hc (nI_ge (b := 18) (by omega) (by omega))) (fun hc => ?_)
      have hv : sg_li g (ix (nI i)) = sg_li g i := by show sg_li g (nI i).toNatClampNeg = sg_li g i; rw [nI_clamp (by omega)]
      refine lv_aload_n hx hb d_T_sheetAt_8 rfl (lv_at hl 1 rfl) ?_
      refine va_get (D := D) (ci := 2) (v := .ref (b 2)) hx hb hT.lays ly_T hown hT.1 hP 0 rfl rfl 5 (by decide) (hT.w k_T_13) (fun _ h => h) rfl d_T_sheetAt_9 ?_
      refine lv_iload_n hx hb d_T_sheetAt_12 rfl (lv_at hl 0 rfl) ?_
      refine va_iald hx hb hT.1 hP 2 0 rfl rfl (vp_in_nI (by omega) (by omega)) d_T_sheetAt_13 ?_
      rw [hv]
      refine lv_iload_n hx hb d_T_sheetAt_14 rfl (lv_at hl 2 rfl) ?_
      refine lv_icmp_ne (tgt := 20) hx hb d_T_sheetAt_15 (by decide) (fun hc => ?_) (fun hc => ?_)
      · refine lv_iinc (k := 0) (v := nI (i + 1)) (lv' := [(2, .int (nI (i + 1))), (0, .ref (b 0)), (1, .int x)]) hx hb d_T_sheetAt_20 hl rfl (nI_1 i) (by decide) rfl (fun ls hl => ?_)
        refine lv_goto (tgt := 2) hx hb d_T_sheetAt_23 (by decide) ?_
        refine ih (i + 1) ls (by omega) ?_ hl
        rw [← hR]
        exact (if_neg hc).symm
      · have e1 : m_at (sg_li g) x (n + 1) i = nI i := if_pos hc
        rw [← hR, e1]
        refine lv_iload_n hx hb d_T_sheetAt_18 rfl (lv_at hl 0 rfl) ?_
        refine ob_iret hlocks hx hb hr d_T_sheetAt_19 (fun q hq => nomatch hq) (fun t ht hW => ?_)
        exact ⟨rfl, ht⟩
  refine lv_iconst (v := 0) hx hb d_T_sheetAt_0 (by decide) ?_
  refine lv_istore_n (lv' := [(2, .int 0), (0, .ref (b 0)), (1, .int x)]) hx hb d_T_sheetAt_1 rfl hl (by decide) rfl (fun ls hl => ?_)
  exact loop 18 0 ls rfl rfl hl

set_option maxHeartbeats 4000000 in
set_option maxRecDepth 100000 in
/-- T_lowestFrame -/
theorem c_T_lowestFrame (l : Launch) (D : va_G) (tI tZ tA tJ : ClassId) (b : Nat → Nat) (F S : Nat) (tw : Int32) (g : Sg)  : ob_M l y_T_lowestFrame w_T_lowestFrame ({ frames := 1, cells := 0, slots := 0, locals := 22 }) (pR D tI tZ tA tJ [.ref (b 0)] (tW b F S tI tZ tw g) (F ≤ 10)) (ob_qR (some (.int (m_lowF (sg_li g) F 0)))) 0 0 (fun _ => False) := by
  refine ob_ofW (by decide +kernel) ?_
  intro p e s m args below meth c s₁ B hml htab hv
  obtain ⟨rfl, hT, hN, hP⟩ := hv
  have hx := B.exec
  have hb := B.bytes
  have hr := B.returns
  have hlocks := B.notSynchronized
  have hown : s.vm.findClass R_T = some m.cls := findClass_of_methodNamed B.named
  have hl := lv_entry ([.ref (b 0)]) (n := 2) (Nat.le_of_ble_eq_true rfl)
  rw [lg_entry_eq]
  generalize (lg_sl ([.ref (b 0)]) ++ List.replicate (2 - (lg_sl ([.ref (b 0)])).length) Slot.unset).toArray = ls at hl ⊢
  have hl : lv_has ls 2 [(0, .ref (b 0))] := hl
  have loop : ∀ (n i : Nat) (ls : Array Slot), i + n = F → m_lowF (sg_li g) n i = m_lowF (sg_li g) F 0 → lv_has ls 2 [(1, .int (nI i)), (0, .ref (b 0))] → W p l e ({ frames := 1, cells := 0, slots := 0, locals := 22 } : Room) s m ([.ref (b 0)] : List Value).toArray below meth c s.heap [] 0 0 (ob_Q below (ob_qR (some (.int (m_lowF (sg_li g) F 0)))) ([.ref (b 0)] : List Value).toArray s 0 0 (fun _ => False)) (F0 m 2 ls []) := by
    intro n
    induction n with
    | zero =>
      intro i ls hi hR hl
      refine lv_iload_n hx hb d_T_lowestFrame_2 rfl (lv_at hl 0 rfl) ?_
      refine lv_aload_n hx hb d_T_lowestFrame_3 rfl (lv_at hl 1 rfl) ?_
      refine va_get (D := D) (ci := 2) (v := .int (nI F)) hx hb hT.lays ly_T hown hT.1 hP 0 rfl rfl 1 (by decide) (hT.w k_T_26) (fun _ h => h) rfl d_T_lowestFrame_4 ?_
      refine lv_icmp_ge (tgt := 26) hx hb d_T_lowestFrame_7 (by decide) (fun hc => ?_) (fun hc => absurd (nI_le (by omega) (by omega)) hc)
      rw [← hR]
      refine lv_iconst (v := -1) hx hb d_T_lowestFrame_26 (by decide) ?_
      refine ob_iret hlocks hx hb hr d_T_lowestFrame_27 (fun q hq => nomatch hq) (fun t ht hW => ?_)
      exact ⟨rfl, ht⟩
    | succ n ih =>
      intro i ls hi hR hl
      refine lv_iload_n hx hb d_T_lowestFrame_2 rfl (lv_at hl 0 rfl) ?_
      refine lv_aload_n hx hb d_T_lowestFrame_3 rfl (lv_at hl 1 rfl) ?_
      refine va_get (D := D) (ci := 2) (v := .int (nI F)) hx hb hT.lays ly_T hown hT.1 hP 0 rfl rfl 1 (by decide) (hT.w k_T_26) (fun _ h => h) rfl d_T_lowestFrame_4 ?_
      refine lv_icmp_ge (tgt := 26) hx hb d_T_lowestFrame_7 (by decide) (fun hc => absurd hc (nI_ge (by omega) (by omega))) (fun hc => ?_)
      refine lv_aload_n hx hb d_T_lowestFrame_10 rfl (lv_at hl 1 rfl) ?_
      refine lv_iload_n hx hb d_T_lowestFrame_11 rfl (lv_at hl 0 rfl) ?_
      refine ob_callR (v := (some (.int (m_sheetAt (sg_li g) (nI i))))) (ob_runV (n := 1) (As := [.int (nI i)]) (rest := []) (c_T_sheetAt l D tI tZ tA tJ b F S tw g (nI i)) (hT.ok ob_cd_c (by decide +kernel) rfl rfl (Nat.le_of_ble_eq_true rfl) (Nat.le_of_ble_eq_true rfl) kn_T kc_T_sheetAt) hx hb hml hown (hT.w k_T_36) (hT.w ki_T_sheetAt) (hT.w kv_T_sheetAt) (va_recv (q0 := 0) (ci := 2) hT.1 hP rfl rfl) pR.blind (pR.at hT (trivial) hP) rfl rfl hl.1 rfl (lv_room (Nat.le_of_ble_eq_true rfl)) d_T_lowestFrame_12 ⟨Nat.le_of_ble_eq_true rfl, Nat.le_of_ble_eq_true rfl⟩) ?_
      refine W.eq (g2 := F0 m 15 ls [.int (m_sheetAt (sg_li g) (nI i))]) rfl ?_
      refine lv_if_ge (tgt := 20) hx hb d_T_lowestFrame_15 (by decide) (fun hc => ?_) (fun hc => ?_)
      · refine lv_iinc (k := 0) (v := nI (i + 1)) (lv' := [(1, .int (nI (i + 1))), (0, .ref (b 0))]) hx hb d_T_lowestFrame_20 hl rfl (nI_1 i) (by decide) rfl (fun ls hl => ?_)
        refine lv_goto (tgt := 2) hx hb d_T_lowestFrame_23 (by decide) ?_
        refine ih (i + 1) ls (by omega) ?_ hl
        rw [← hR]
        exact (if_pos hc).symm
      · have e1 : m_lowF (sg_li g) (n + 1) i = nI i := if_neg hc
        rw [← hR, e1]
        refine lv_iload_n hx hb d_T_lowestFrame_18 rfl (lv_at hl 0 rfl) ?_
        refine ob_iret hlocks hx hb hr d_T_lowestFrame_19 (fun q hq => nomatch hq) (fun t ht hW => ?_)
        exact ⟨rfl, ht⟩
  refine lv_iconst (v := 0) hx hb d_T_lowestFrame_0 (by decide) ?_
  refine lv_istore_n (lv' := [(1, .int 0), (0, .ref (b 0))]) hx hb d_T_lowestFrame_1 rfl hl (by decide) rfl (fun ls hl => ?_)
  exact loop F 0 ls (by omega) rfl hl

set_option maxHeartbeats 4000000 in
set_option maxRecDepth 100000 in
/-- T_lowestSlot -/
theorem c_T_lowestSlot (l : Launch) (D : va_G) (tI tZ tA tJ : ClassId) (b : Nat → Nat) (F S : Nat) (tw : Int32) (g : Sg)  : ob_M l y_T_lowestSlot w_T_lowestSlot ({ frames := 1, cells := 0, slots := 0, locals := 22 }) (pR D tI tZ tA tJ [.ref (b 0)] (tW b F S tI tZ tw g) (S ≤ 10)) (ob_qR (some (.int (m_lowS (sg_li g) S 0)))) 0 0 (fun _ => False) := by
  refine ob_ofW (by decide +kernel) ?_
  intro p e s m args below meth c s₁ B hml htab hv
  obtain ⟨rfl, hT, hN, hP⟩ := hv
  have hx := B.exec
  have hb := B.bytes
  have hr := B.returns
  have hlocks := B.notSynchronized
  have hown : s.vm.findClass R_T = some m.cls := findClass_of_methodNamed B.named
  have hl := lv_entry ([.ref (b 0)]) (n := 2) (Nat.le_of_ble_eq_true rfl)
  rw [lg_entry_eq]
  generalize (lg_sl ([.ref (b 0)]) ++ List.replicate (2 - (lg_sl ([.ref (b 0)])).length) Slot.unset).toArray = ls at hl ⊢
  have hl : lv_has ls 2 [(0, .ref (b 0))] := hl
  have loop : ∀ (n i : Nat) (ls : Array Slot), i + n = S → m_lowS (sg_li g) n i = m_lowS (sg_li g) S 0 → lv_has ls 2 [(1, .int (nI i)), (0, .ref (b 0))] → W p l e ({ frames := 1, cells := 0, slots := 0, locals := 22 } : Room) s m ([.ref (b 0)] : List Value).toArray below meth c s.heap [] 0 0 (ob_Q below (ob_qR (some (.int (m_lowS (sg_li g) S 0)))) ([.ref (b 0)] : List Value).toArray s 0 0 (fun _ => False)) (F0 m 2 ls []) := by
    intro n
    induction n with
    | zero =>
      intro i ls hi hR hl
      refine lv_iload_n hx hb d_T_lowestSlot_2 rfl (lv_at hl 0 rfl) ?_
      refine lv_aload_n hx hb d_T_lowestSlot_3 rfl (lv_at hl 1 rfl) ?_
      refine va_get (D := D) (ci := 2) (v := .int (nI S)) hx hb hT.lays ly_T hown hT.1 hP 0 rfl rfl 2 (by decide) (hT.w k_T_30) (fun _ h => h) rfl d_T_lowestSlot_4 ?_
      refine lv_icmp_ge (tgt := 32) hx hb d_T_lowestSlot_7 (by decide) (fun hc => ?_) (fun hc => absurd (nI_le (by omega) (by omega)) hc)
      rw [← hR]
      refine lv_iconst (v := -1) hx hb d_T_lowestSlot_32 (by decide) ?_
      refine ob_iret hlocks hx hb hr d_T_lowestSlot_33 (fun q hq => nomatch hq) (fun t ht hW => ?_)
      exact ⟨rfl, ht⟩
    | succ n ih =>
      intro i ls hi hR hl
      refine lv_iload_n hx hb d_T_lowestSlot_2 rfl (lv_at hl 0 rfl) ?_
      refine lv_aload_n hx hb d_T_lowestSlot_3 rfl (lv_at hl 1 rfl) ?_
      refine va_get (D := D) (ci := 2) (v := .int (nI S)) hx hb hT.lays ly_T hown hT.1 hP 0 rfl rfl 2 (by decide) (hT.w k_T_30) (fun _ h => h) rfl d_T_lowestSlot_4 ?_
      refine lv_icmp_ge (tgt := 32) hx hb d_T_lowestSlot_7 (by decide) (fun hc => absurd hc (nI_ge (by omega) (by omega))) (fun hc => ?_)
      refine lv_aload_n hx hb d_T_lowestSlot_10 rfl (lv_at hl 1 rfl) ?_
      refine lv_bipush (v := 100) hx hb d_T_lowestSlot_11 (by decide) ?_
      refine lv_iload_n hx hb d_T_lowestSlot_13 rfl (lv_at hl 0 rfl) ?_
      refine lv_iadd hx hb d_T_lowestSlot_14 ?_
      refine ob_callR (v := (some (.int (m_sheetAt (sg_li g) (100 + nI i))))) (ob_runV (n := 1) (As := [.int (100 + nI i)]) (rest := []) (c_T_sheetAt l D tI tZ tA tJ b F S tw g (100 + nI i)) (hT.ok ob_cd_c (by decide +kernel) rfl rfl (Nat.le_of_ble_eq_true rfl) (Nat.le_of_ble_eq_true rfl) kn_T kc_T_sheetAt) hx hb hml hown (hT.w k_T_36) (hT.w ki_T_sheetAt) (hT.w kv_T_sheetAt) (va_recv (q0 := 0) (ci := 2) hT.1 hP rfl rfl) pR.blind (pR.at hT (trivial) hP) rfl rfl hl.1 rfl (lv_room (Nat.le_of_ble_eq_true rfl)) d_T_lowestSlot_15 ⟨Nat.le_of_ble_eq_true rfl, Nat.le_of_ble_eq_true rfl⟩) ?_
      refine W.eq (g2 := F0 m 18 ls [.int (m_sheetAt (sg_li g) (100 + nI i))]) rfl ?_
      refine lv_if_ge (tgt := 26) hx hb d_T_lowestSlot_18 (by decide) (fun hc => ?_) (fun hc => ?_)
      · refine lv_iinc (k := 0) (v := nI (i + 1)) (lv' := [(1, .int (nI (i + 1))), (0, .ref (b 0))]) hx hb d_T_lowestSlot_26 hl rfl (nI_1 i) (by decide) rfl (fun ls hl => ?_)
        refine lv_goto (tgt := 2) hx hb d_T_lowestSlot_29 (by decide) ?_
        refine ih (i + 1) ls (by omega) ?_ hl
        rw [← hR]
        exact (if_pos hc).symm
      · have e1 : m_lowS (sg_li g) (n + 1) i = 100 + nI i := if_neg hc
        rw [← hR, e1]
        refine lv_bipush (v := 100) hx hb d_T_lowestSlot_21 (by decide) ?_
        refine lv_iload_n hx hb d_T_lowestSlot_23 rfl (lv_at hl 0 rfl) ?_
        refine lv_iadd hx hb d_T_lowestSlot_24 ?_
        refine ob_iret hlocks hx hb hr d_T_lowestSlot_25 (fun q hq => nomatch hq) (fun t ht hW => ?_)
        exact ⟨rfl, ht⟩
  refine lv_iconst (v := 0) hx hb d_T_lowestSlot_0 (by decide) ?_
  refine lv_istore_n (lv' := [(1, .int 0), (0, .ref (b 0))]) hx hb d_T_lowestSlot_1 rfl hl (by decide) rfl (fun ls hl => ?_)
  exact loop S 0 ls (by omega) rfl hl

set_option maxHeartbeats 4000000 in
set_option maxRecDepth 100000 in
/-- T_owners -/
theorem c_T_owners (l : Launch) (D : va_G) (tI tZ tA tJ : ClassId) (b : Nat → Nat) (F S : Nat) (tw : Int32) (g : Sg) (x : Int32) : ob_M l y_T_owners w_T_owners ({ frames := 0, cells := 0, slots := 0, locals := 0 }) (pR D tI tZ tA tJ [.ref (b 0), .int x] (tW b F S tI tZ tw g) (True)) (ob_qR (some (.int (m_owners (sg_pg g) x)))) 0 0 (fun _ => False) := by
  refine ob_ofW (by decide +kernel) ?_
  intro p e s m args below meth c s₁ B hml htab hv
  obtain ⟨rfl, hT, -, hP⟩ := hv
  have hx := B.exec
  have hb := B.bytes
  have hr := B.returns
  have hlocks := B.notSynchronized
  have hown : s.vm.findClass R_T = some m.cls := findClass_of_methodNamed B.named
  have hl := lv_entry ([.ref (b 0), .int x]) (n := 4) (Nat.le_of_ble_eq_true rfl)
  rw [lg_entry_eq]
  generalize (lg_sl ([.ref (b 0), .int x]) ++ List.replicate (4 - (lg_sl ([.ref (b 0), .int x])).length) Slot.unset).toArray = ls at hl ⊢
  have hl : lv_has ls 4 [(0, .ref (b 0)), (1, .int x)] := hl
  have loop : ∀ (n i : Nat) (y : Int32) (ls : Array Slot), i + n = 36 → m_own (sg_pg g) x n i y = m_owners (sg_pg g) x → lv_has ls 4 [(3, .int (nI i)), (2, .int y), (0, .ref (b 0)), (1, .int x)] → W p l e ({ frames := 0, cells := 0, slots := 0, locals := 0 } : Room) s m ([.ref (b 0), .int x] : List Value).toArray below meth c s.heap [] 0 0 (ob_Q below (ob_qR (some (.int (m_owners (sg_pg g) x)))) ([.ref (b 0), .int x] : List Value).toArray s 0 0 (fun _ => False)) (F0 m 4 ls []) := by
    intro n
    induction n with
    | zero =>
      intro i y ls hi hR hl
      refine lv_iload_n hx hb d_T_owners_4 rfl (lv_at hl 0 rfl) ?_
      refine lv_bipush (v := 36) hx hb d_T_owners_5 (by decide) ?_
      refine lv_icmp_ge (tgt := 34) hx hb d_T_owners_7 (by decide) (fun hc => ?_) (fun hc => absurd (nI_le (a := 36) (by omega) (by omega)) hc)
      rw [← hR]
      refine lv_iload_n hx hb d_T_owners_34 rfl (lv_at hl 1 rfl) ?_
      refine ob_iret hlocks hx hb hr d_T_owners_35 (fun q hq => nomatch hq) (fun t ht hW => ?_)
      exact ⟨rfl, ht⟩
    | succ n ih =>
      intro i y ls hi hR hl
      refine lv_iload_n hx hb d_T_owners_4 rfl (lv_at hl 0 rfl) ?_
      refine lv_bipush (v := 36) hx hb d_T_owners_5 (by decide) ?_
      refine lv_icmp_ge (tgt := 34) hx hb d_T_owners_7 (by decide) (fun hc => absurd hc (nI_ge (b := 36) (by omega) (by omega))) (fun hc => ?_)
      have hv : sg_pg g (ix (nI i)) = sg_pg g i := by show sg_pg g (nI i).toNatClampNeg = sg_pg g i; rw [nI_clamp (by omega)]
      refine lv_aload_n hx hb d_T_owners_10 rfl (lv_at hl 2 rfl) ?_
      refine va_get (D := D) (ci := 2) (v := .ref (b 5)) hx hb hT.lays ly_T hown hT.1 hP 0 rfl rfl 8 (by decide) (hT.w k_T_23) (fun _ h => h) rfl d_T_owners_11 ?_
      refine lv_iload_n hx hb d_T_owners_14 rfl (lv_at hl 0 rfl) ?_
      refine va_iald hx hb hT.1 hP 5 0 rfl rfl (vp_in_nI (by omega) (by omega)) d_T_owners_15 ?_
      rw [hv]
      refine lv_iload_n hx hb d_T_owners_16 rfl (lv_at hl 3 rfl) ?_
      refine lv_icmp_ne (tgt := 26) hx hb d_T_owners_17 (by decide) (fun hc => ?_) (fun hc => ?_)
      · refine lv_iload_n hx hb d_T_owners_26 rfl (lv_at hl 1 rfl) ?_
        refine lv_istore_n (lv' := [(2, .int y), (3, .int (nI i)), (0, .ref (b 0)), (1, .int x)]) hx hb d_T_owners_27 rfl hl (by decide) rfl (fun ls hl => ?_)
        refine lv_iinc (k := 1) (v := nI (i + 1)) (lv' := [(3, .int (nI (i + 1))), (2, .int y), (0, .ref (b 0)), (1, .int x)]) hx hb d_T_owners_28 hl rfl (nI_1 i) (by decide) rfl (fun ls hl => ?_)
        refine lv_goto (tgt := 4) hx hb d_T_owners_31 (by decide) ?_
        refine ih (i + 1) (y) ls (by omega) ?_ hl
        rw [← hR]
        show _ = m_own (sg_pg g) x n (i + 1) (if sg_pg g i = x then y + 1 else y)
        rw [if_neg hc]
      · refine lv_iload_n hx hb d_T_owners_20 rfl (lv_at hl 1 rfl) ?_
        refine lv_iconst (v := 1) hx hb d_T_owners_21 (by decide) ?_
        refine lv_iadd hx hb d_T_owners_22 ?_
        refine lv_goto (tgt := 27) hx hb d_T_owners_23 (by decide) ?_
        refine lv_istore_n (lv' := [(2, .int (y + 1)), (3, .int (nI i)), (0, .ref (b 0)), (1, .int x)]) hx hb d_T_owners_27 rfl hl (by decide) rfl (fun ls hl => ?_)
        refine lv_iinc (k := 1) (v := nI (i + 1)) (lv' := [(3, .int (nI (i + 1))), (2, .int (y + 1)), (0, .ref (b 0)), (1, .int x)]) hx hb d_T_owners_28 hl rfl (nI_1 i) (by decide) rfl (fun ls hl => ?_)
        refine lv_goto (tgt := 4) hx hb d_T_owners_31 (by decide) ?_
        refine ih (i + 1) (y + 1) ls (by omega) ?_ hl
        rw [← hR]
        show _ = m_own (sg_pg g) x n (i + 1) (if sg_pg g i = x then y + 1 else y)
        rw [if_pos hc]
  refine lv_iconst (v := 0) hx hb d_T_owners_0 (by decide) ?_
  refine lv_istore_n (lv' := [(2, .int 0), (0, .ref (b 0)), (1, .int x)]) hx hb d_T_owners_1 rfl hl (by decide) rfl (fun ls hl => ?_)
  refine lv_iconst (v := 0) hx hb d_T_owners_2 (by decide) ?_
  refine lv_istore_n (lv' := [(3, .int 0), (2, .int 0), (0, .ref (b 0)), (1, .int x)]) hx hb d_T_owners_3 rfl hl (by decide) rfl (fun ls hl => ?_)
  exact loop 36 0 0 ls rfl rfl hl

set_option maxHeartbeats 4000000 in
set_option maxRecDepth 100000 in
/-- T_isProcess -/
theorem c_T_isProcess (l : Launch) (D : va_G) (tI tZ tA tJ : ClassId) (b : Nat → Nat) (F S : Nat) (tw : Int32) (g : Sg) (x : Int32) : ob_M l y_T_isProcess w_T_isProcess ({ frames := 0, cells := 0, slots := 0, locals := 0 }) (pR D tI tZ tA tJ [.ref (b 0), .int x] (tW b F S tI tZ tw g) (True)) (ob_qR (some (.int (m_isP (sg_th g) x)))) 0 0 (fun _ => False) := by
  refine ob_ofW (by decide +kernel) ?_
  intro p e s m args below meth c s₁ B hml htab hv
  obtain ⟨rfl, hT, -, hP⟩ := hv
  have hx := B.exec
  have hb := B.bytes
  have hr := B.returns
  have hlocks := B.notSynchronized
  have hown : s.vm.findClass R_T = some m.cls := findClass_of_methodNamed B.named
  have hl := lv_entry ([.ref (b 0), .int x]) (n := 2) (Nat.le_of_ble_eq_true rfl)
  rw [lg_entry_eq]
  generalize (lg_sl ([.ref (b 0), .int x]) ++ List.replicate (2 - (lg_sl ([.ref (b 0), .int x])).length) Slot.unset).toArray = ls at hl ⊢
  have hl : lv_has ls 2 [(0, .ref (b 0)), (1, .int x)] := hl
  unfold m_isP
  refine lv_iload_n hx hb d_T_isProcess_0 rfl (lv_at hl 1 rfl) ?_
  refine lv_if_lt (tgt := 23) hx hb d_T_isProcess_1 (by decide) (fun hc => ?_) (fun hc => ?_)
  · rw [if_pos hc]
    refine lv_iconst (v := 0) hx hb d_T_isProcess_23 (by decide) ?_
    refine ob_zret hlocks hx hb hr d_T_isProcess_24 (rfl) (fun q hq => nomatch hq) (fun t ht hW => ?_)
    exact ⟨rfl, ht⟩
  · rw [if_neg hc]
    have hc0 := hc
    refine lv_iload_n hx hb d_T_isProcess_4 rfl (lv_at hl 1 rfl) ?_
    refine lv_bipush (v := 6) hx hb d_T_isProcess_5 (by decide) ?_
    refine lv_icmp_ge (tgt := 23) hx hb d_T_isProcess_7 (by decide) (fun hc => ?_) (fun hc => ?_)
    · rw [if_pos hc]
      refine lv_iconst (v := 0) hx hb d_T_isProcess_23 (by decide) ?_
      refine ob_zret hlocks hx hb hr d_T_isProcess_24 (rfl) (fun q hq => nomatch hq) (fun t ht hW => ?_)
      exact ⟨rfl, ht⟩
    · rw [if_neg hc]
      have hin : vp_in x 6 := by obtain ⟨j, hj, e, -⟩ := pk_mu (L := 6) hc0 hc (by omega); rw [e]; exact vp_in_nI hj (by omega)
      refine lv_aload_n hx hb d_T_isProcess_10 rfl (lv_at hl 0 rfl) ?_
      refine va_get (D := D) (ci := 2) (v := .ref (b 4)) hx hb hT.lays ly_T hown hT.1 hP 0 rfl rfl 7 (by decide) (hT.w k_T_20) (fun _ h => h) rfl d_T_isProcess_11 ?_
      refine lv_iload_n hx hb d_T_isProcess_14 rfl (lv_at hl 1 rfl) ?_
      refine va_zald hx hb hT.1 hP 4 1 rfl rfl (hin) d_T_isProcess_15 ?_
      refine lv_if_eq (tgt := 23) hx hb d_T_isProcess_16 (by decide) (fun hc => ?_) (fun hc => ?_)
      · rw [if_pos hc]
        refine lv_iconst (v := 0) hx hb d_T_isProcess_23 (by decide) ?_
        refine ob_zret hlocks hx hb hr d_T_isProcess_24 (rfl) (fun q hq => nomatch hq) (fun t ht hW => ?_)
        exact ⟨rfl, ht⟩
      · rw [if_neg hc]
        refine lv_iconst (v := 1) hx hb d_T_isProcess_19 (by decide) ?_
        refine lv_goto (tgt := 24) hx hb d_T_isProcess_20 (by decide) ?_
        refine ob_zret hlocks hx hb hr d_T_isProcess_24 (rfl) (fun q hq => nomatch hq) (fun t ht hW => ?_)
        exact ⟨rfl, ht⟩

set_option maxHeartbeats 4000000 in
set_option maxRecDepth 100000 in
/-- T_lowestProcess -/
theorem c_T_lowestProcess (l : Launch) (D : va_G) (tI tZ tA tJ : ClassId) (b : Nat → Nat) (F S : Nat) (tw : Int32) (g : Sg)  : ob_M l y_T_lowestProcess w_T_lowestProcess ({ frames := 0, cells := 0, slots := 0, locals := 0 }) (pR D tI tZ tA tJ [.ref (b 0)] (tW b F S tI tZ tw g) (True)) (ob_qR (some (.int (m_lowP (sg_th g) 6 0)))) 0 0 (fun _ => False) := by
  refine ob_ofW (by decide +kernel) ?_
  intro p e s m args below meth c s₁ B hml htab hv
  obtain ⟨rfl, hT, -, hP⟩ := hv
  have hx := B.exec
  have hb := B.bytes
  have hr := B.returns
  have hlocks := B.notSynchronized
  have hown : s.vm.findClass R_T = some m.cls := findClass_of_methodNamed B.named
  have hl := lv_entry ([.ref (b 0)]) (n := 2) (Nat.le_of_ble_eq_true rfl)
  rw [lg_entry_eq]
  generalize (lg_sl ([.ref (b 0)]) ++ List.replicate (2 - (lg_sl ([.ref (b 0)])).length) Slot.unset).toArray = ls at hl ⊢
  have hl : lv_has ls 2 [(0, .ref (b 0))] := hl
  have loop : ∀ (n i : Nat) (ls : Array Slot), i + n = 6 → m_lowP (sg_th g) n i = m_lowP (sg_th g) 6 0 → lv_has ls 2 [(1, .int (nI i)), (0, .ref (b 0))] → W p l e ({ frames := 0, cells := 0, slots := 0, locals := 0 } : Room) s m ([.ref (b 0)] : List Value).toArray below meth c s.heap [] 0 0 (ob_Q below (ob_qR (some (.int (m_lowP (sg_th g) 6 0)))) ([.ref (b 0)] : List Value).toArray s 0 0 (fun _ => False)) (F0 m 2 ls []) := by
    intro n
    induction n with
    | zero =>
      intro i ls hi hR hl
      refine lv_iload_n hx hb d_T_lowestProcess_2 rfl (lv_at hl 0 rfl) ?_
      refine lv_bipush (v := 6) hx hb d_T_lowestProcess_3 (by decide) ?_
      refine lv_icmp_ge (tgt := 25) hx hb d_T_lowestProcess_5 (by decide) (fun hc => ?_) (fun hc => absurd (nI_le (a := 6) (by omega) (by omega)) hc)
      rw [← hR]
      refine lv_iconst (v := -1) hx hb d_T_lowestProcess_25 (by decide) ?_
      refine ob_iret hlocks hx hb hr d_T_lowestProcess_26 (fun q hq => nomatch hq) (fun t ht hW => ?_)
      exact ⟨rfl, ht⟩
    | succ n ih =>
      intro i ls hi hR hl
      refine lv_iload_n hx hb d_T_lowestProcess_2 rfl (lv_at hl 0 rfl) ?_
      refine lv_bipush (v := 6) hx hb d_T_lowestProcess_3 (by decide) ?_
      refine lv_icmp_ge (tgt := 25) hx hb d_T_lowestProcess_5 (by decide) (fun hc => absurd hc (nI_ge (b := 6) (by omega) (by omega))) (fun hc => ?_)
      have hv : sg_th g (ix (nI i)) = sg_th g i := by show sg_th g (nI i).toNatClampNeg = sg_th g i; rw [nI_clamp (by omega)]
      refine lv_aload_n hx hb d_T_lowestProcess_8 rfl (lv_at hl 1 rfl) ?_
      refine va_get (D := D) (ci := 2) (v := .ref (b 4)) hx hb hT.lays ly_T hown hT.1 hP 0 rfl rfl 7 (by decide) (hT.w k_T_20) (fun _ h => h) rfl d_T_lowestProcess_9 ?_
      refine lv_iload_n hx hb d_T_lowestProcess_12 rfl (lv_at hl 0 rfl) ?_
      refine va_zald hx hb hT.1 hP 4 1 rfl rfl (vp_in_nI (by omega) (by omega)) d_T_lowestProcess_13 ?_
      rw [hv]
      refine lv_if_ne (tgt := 19) hx hb d_T_lowestProcess_14 (by decide) (fun hc => ?_) (fun hc => ?_)
      · refine lv_iinc (k := 0) (v := nI (i + 1)) (lv' := [(1, .int (nI (i + 1))), (0, .ref (b 0))]) hx hb d_T_lowestProcess_19 hl rfl (nI_1 i) (by decide) rfl (fun ls hl => ?_)
        refine lv_goto (tgt := 2) hx hb d_T_lowestProcess_22 (by decide) ?_
        refine ih (i + 1) ls (by omega) ?_ hl
        rw [← hR]
        exact (if_neg hc).symm
      · have e1 : m_lowP (sg_th g) (n + 1) i = nI i := if_pos hc
        rw [← hR, e1]
        refine lv_iload_n hx hb d_T_lowestProcess_17 rfl (lv_at hl 0 rfl) ?_
        refine ob_iret hlocks hx hb hr d_T_lowestProcess_18 (fun q hq => nomatch hq) (fun t ht hW => ?_)
        exact ⟨rfl, ht⟩
  refine lv_iconst (v := 0) hx hb d_T_lowestProcess_0 (by decide) ?_
  refine lv_istore_n (lv' := [(1, .int 0), (0, .ref (b 0))]) hx hb d_T_lowestProcess_1 rfl hl (by decide) rfl (fun ls hl => ?_)
  exact loop 6 0 ls rfl rfl hl

set_option maxHeartbeats 4000000 in
set_option maxRecDepth 100000 in
/-- T_canMake -/
theorem c_T_canMake (l : Launch) (D : va_G) (tI tZ tA tJ : ClassId) (b : Nat → Nat) (F S : Nat) (tw : Int32) (g : Sg)  : ob_M l y_T_canMake w_T_canMake ({ frames := 2, cells := 0, slots := 0, locals := 43 }) (pR D tI tZ tA tJ [.ref (b 0)] (tW b F S tI tZ tw g) (F ≤ 8 ∧ S ≤ 10)) (ob_qR (some (.int (m_canMake F S (sg_li g))))) 0 0 (fun _ => False) := by
  refine ob_ofW (by decide +kernel) ?_
  intro p e s m args below meth c s₁ B hml htab hv
  obtain ⟨rfl, hT, ⟨hF, hS10⟩, hP⟩ := hv
  have hx := B.exec
  have hb := B.bytes
  have hr := B.returns
  have hlocks := B.notSynchronized
  have hown : s.vm.findClass R_T = some m.cls := findClass_of_methodNamed B.named
  have hl := lv_entry ([.ref (b 0)]) (n := 1) (Nat.le_of_ble_eq_true rfl)
  rw [lg_entry_eq]
  generalize (lg_sl ([.ref (b 0)]) ++ List.replicate (1 - (lg_sl ([.ref (b 0)])).length) Slot.unset).toArray = ls at hl ⊢
  have hl : lv_has ls 1 [(0, .ref (b 0))] := hl
  unfold m_canMake
  refine lv_aload_n hx hb d_T_canMake_0 rfl (lv_at hl 0 rfl) ?_
  refine ob_callR (v := (some (.int (m_lowF (sg_li g) F 0)))) (ob_runV (n := 0) (As := []) (rest := []) (c_T_lowestFrame l D tI tZ tA tJ b F S tw g) (hT.ok ob_cd_c (by decide +kernel) rfl rfl (Nat.le_of_ble_eq_true rfl) (Nat.le_of_ble_eq_true rfl) kn_T kc_T_lowestFrame) hx hb hml hown (hT.w k_T_43) (hT.w ki_T_lowestFrame) (hT.w kv_T_lowestFrame) (va_recv (q0 := 0) (ci := 2) hT.1 hP rfl rfl) pR.blind (pR.at hT (by omega) hP) rfl rfl hl.1 rfl (lv_room (Nat.le_of_ble_eq_true rfl)) d_T_canMake_1 ⟨Nat.le_of_ble_eq_true rfl, Nat.le_of_ble_eq_true rfl⟩) ?_
  refine W.eq (g2 := F0 m 4 ls [.int (m_lowF (sg_li g) F 0)]) rfl ?_
  refine lv_if_ge (tgt := 14) hx hb d_T_canMake_4 (by decide) (fun hc => ?_) (fun hc => ?_)
  · rw [if_pos hc]
    refine lv_iconst (v := 1) hx hb d_T_canMake_14 (by decide) ?_
    refine lv_goto (tgt := 19) hx hb d_T_canMake_15 (by decide) ?_
    refine ob_zret hlocks hx hb hr d_T_canMake_19 (rfl) (fun q hq => nomatch hq) (fun t ht hW => ?_)
    exact ⟨rfl, ht⟩
  · rw [if_neg hc]
    refine lv_aload_n hx hb d_T_canMake_7 rfl (lv_at hl 0 rfl) ?_
    refine ob_callR (v := (some (.int (m_lowS (sg_li g) S 0)))) (ob_runV (n := 0) (As := []) (rest := []) (c_T_lowestSlot l D tI tZ tA tJ b F S tw g) (hT.ok ob_cd_c (by decide +kernel) rfl rfl (Nat.le_of_ble_eq_true rfl) (Nat.le_of_ble_eq_true rfl) kn_T kc_T_lowestSlot) hx hb hml hown (hT.w k_T_50) (hT.w ki_T_lowestSlot) (hT.w kv_T_lowestSlot) (va_recv (q0 := 0) (ci := 2) hT.1 hP rfl rfl) pR.blind (pR.at hT (hS10) hP) rfl rfl hl.1 rfl (lv_room (Nat.le_of_ble_eq_true rfl)) d_T_canMake_8 ⟨Nat.le_of_ble_eq_true rfl, Nat.le_of_ble_eq_true rfl⟩) ?_
    refine W.eq (g2 := F0 m 11 ls [.int (m_lowS (sg_li g) S 0)]) rfl ?_
    refine lv_if_lt (tgt := 18) hx hb d_T_canMake_11 (by decide) (fun hc => ?_) (fun hc => ?_)
    · rw [if_pos hc]
      refine lv_iconst (v := 0) hx hb d_T_canMake_18 (by decide) ?_
      refine ob_zret hlocks hx hb hr d_T_canMake_19 (rfl) (fun q hq => nomatch hq) (fun t ht hW => ?_)
      exact ⟨rfl, ht⟩
    · rw [if_neg hc]
      refine lv_iconst (v := 1) hx hb d_T_canMake_14 (by decide) ?_
      refine lv_goto (tgt := 19) hx hb d_T_canMake_15 (by decide) ?_
      refine ob_zret hlocks hx hb hr d_T_canMake_19 (rfl) (fun q hq => nomatch hq) (fun t ht hW => ?_)
      exact ⟨rfl, ht⟩

set_option maxHeartbeats 4000000 in
set_option maxRecDepth 100000 in
/-- T_needs -/
theorem c_T_needs (l : Launch) (D : va_G) (tI tZ tA tJ : ClassId) (b : Nat → Nat) (F S : Nat) (tw : Int32) (g : Sg) (p0 x : Int32) : ob_M l y_T_needs w_T_needs ({ frames := 1, cells := 0, slots := 0, locals := 23 }) (pR D tI tZ tA tJ [.ref (b 0), .int p0, .int x] (tW b F S tI tZ tw g) (vp_in (6 * p0 + x / 4) 36)) (ob_qR (some (.int (m_needs (sg_pg g) p0 x)))) 0 0 (fun _ => False) := by
  refine ob_ofW (by decide +kernel) ?_
  intro p e s m args below meth c s₁ B hml htab hv
  obtain ⟨rfl, hT, hin, hP⟩ := hv
  have hx := B.exec
  have hb := B.bytes
  have hr := B.returns
  have hlocks := B.notSynchronized
  have hown : s.vm.findClass R_T = some m.cls := findClass_of_methodNamed B.named
  have hl := lv_entry ([.ref (b 0), .int p0, .int x]) (n := 4) (Nat.le_of_ble_eq_true rfl)
  rw [lg_entry_eq]
  generalize (lg_sl ([.ref (b 0), .int p0, .int x]) ++ List.replicate (4 - (lg_sl ([.ref (b 0), .int p0, .int x])).length) Slot.unset).toArray = ls at hl ⊢
  have hl : lv_has ls 4 [(0, .ref (b 0)), (1, .int p0), (2, .int x)] := hl
  unfold m_needs
  refine lv_aload_n hx hb d_T_needs_0 rfl (lv_at hl 0 rfl) ?_
  refine va_get (D := D) (ci := 2) (v := .ref (b 5)) hx hb hT.lays ly_T hown hT.1 hP 0 rfl rfl 8 (by decide) (hT.w k_T_23) (fun _ h => h) rfl d_T_needs_1 ?_
  refine lv_bipush (v := 6) hx hb d_T_needs_4 (by decide) ?_
  refine lv_iload_n hx hb d_T_needs_6 rfl (lv_at hl 1 rfl) ?_
  refine lv_imul hx hb d_T_needs_7 ?_
  refine lv_iload_n hx hb d_T_needs_8 rfl (lv_at hl 2 rfl) ?_
  refine lv_iconst (v := 4) hx hb d_T_needs_9 (by decide) ?_
  refine lv_idiv hx hb d_T_needs_10 (by decide) ?_
  refine lv_iadd hx hb d_T_needs_11 ?_
  refine va_iald hx hb hT.1 hP 5 0 rfl rfl (hin) d_T_needs_12 ?_
  refine lv_istore_n (lv' := [(3, .int ((sg_pg g) (ix ((6 * p0) + (x / 4))))), (0, .ref (b 0)), (1, .int p0), (2, .int x)]) hx hb d_T_needs_13 rfl hl (by decide) rfl (fun ls hl => ?_)
  refine lv_iload_n hx hb d_T_needs_14 rfl (lv_at hl 0 rfl) ?_
  refine lv_if_lt (tgt := 27) hx hb d_T_needs_15 (by decide) (fun hc => ?_) (fun hc => ?_)
  · rw [if_pos hc]
    refine lv_iconst (v := 1) hx hb d_T_needs_27 (by decide) ?_
    refine lv_goto (tgt := 32) hx hb d_T_needs_28 (by decide) ?_
    refine ob_zret hlocks hx hb hr d_T_needs_32 (rfl) (fun q hq => nomatch hq) (fun t ht hW => ?_)
    exact ⟨rfl, ht⟩
  · rw [if_neg hc]
    refine lv_aload_n hx hb d_T_needs_18 rfl (lv_at hl 1 rfl) ?_
    refine lv_iload_n hx hb d_T_needs_19 rfl (lv_at hl 0 rfl) ?_
    refine ob_callR (v := (some (.int (m_owners (sg_pg g) (sg_pg g (ix (6 * p0 + x / 4))))))) (ob_runV (n := 1) (As := [.int (sg_pg g (ix (6 * p0 + x / 4)))]) (rest := []) (c_T_owners l D tI tZ tA tJ b F S tw g (sg_pg g (ix (6 * p0 + x / 4)))) (hT.ok ob_cd_c (by decide +kernel) rfl rfl (Nat.le_of_ble_eq_true rfl) (Nat.le_of_ble_eq_true rfl) kn_T kc_T_owners) hx hb hml hown (hT.w k_T_62) (hT.w ki_T_owners) (hT.w kv_T_owners) (va_recv (q0 := 0) (ci := 2) hT.1 hP rfl rfl) pR.blind (pR.at hT (trivial) hP) rfl rfl hl.1 rfl (lv_room (Nat.le_of_ble_eq_true rfl)) d_T_needs_20 ⟨Nat.le_of_ble_eq_true rfl, Nat.le_of_ble_eq_true rfl⟩) ?_
    refine W.eq (g2 := F0 m 23 ls [.int (m_owners (sg_pg g) (sg_pg g (ix (6 * p0 + x / 4))))]) rfl ?_
    refine lv_iconst (v := 1) hx hb d_T_needs_23 (by decide) ?_
    refine lv_icmp_le (tgt := 31) hx hb d_T_needs_24 (by decide) (fun hc => ?_) (fun hc => ?_)
    · rw [if_pos hc]
      refine lv_iconst (v := 0) hx hb d_T_needs_31 (by decide) ?_
      refine ob_zret hlocks hx hb hr d_T_needs_32 (rfl) (fun q hq => nomatch hq) (fun t ht hW => ?_)
      exact ⟨rfl, ht⟩
    · rw [if_neg hc]
      refine lv_iconst (v := 1) hx hb d_T_needs_27 (by decide) ?_
      refine lv_goto (tgt := 32) hx hb d_T_needs_28 (by decide) ?_
      refine ob_zret hlocks hx hb hr d_T_needs_32 (rfl) (fun q hq => nomatch hq) (fun t ht hW => ?_)
      exact ⟨rfl, ht⟩

set_option maxHeartbeats 4000000 in
set_option maxRecDepth 100000 in
/-- T_sheetOf -/
theorem c_T_sheetOf (l : Launch) (D : va_G) (tI tZ tA tJ : ClassId) (b : Nat → Nat) (F S : Nat) (tw : Int32) (g : Sg) (p0 x : Int32) : ob_M l y_T_sheetOf w_T_sheetOf ({ frames := 1, cells := 0, slots := 0, locals := 21 }) (pR D tI tZ tA tJ [.ref (b 0), .int p0, .int x] (tW b F S tI tZ tw g) (¬ m_isP (sg_th g) p0 = 0 → ¬ x < 0 → ¬ 6 ≤ x → vp_in (6 * p0 + x) 36)) (ob_qR (some (.int (m_sheetOf g p0 x)))) 0 0 (fun _ => False) := by
  refine ob_ofW (by decide +kernel) ?_
  intro p e s m args below meth c s₁ B hml htab hv
  obtain ⟨rfl, hT, hin, hP⟩ := hv
  have hx := B.exec
  have hb := B.bytes
  have hr := B.returns
  have hlocks := B.notSynchronized
  have hown : s.vm.findClass R_T = some m.cls := findClass_of_methodNamed B.named
  have hl := lv_entry ([.ref (b 0), .int p0, .int x]) (n := 3) (Nat.le_of_ble_eq_true rfl)
  rw [lg_entry_eq]
  generalize (lg_sl ([.ref (b 0), .int p0, .int x]) ++ List.replicate (3 - (lg_sl ([.ref (b 0), .int p0, .int x])).length) Slot.unset).toArray = ls at hl ⊢
  have hl : lv_has ls 3 [(0, .ref (b 0)), (1, .int p0), (2, .int x)] := hl
  unfold m_sheetOf
  refine lv_aload_n hx hb d_T_sheetOf_0 rfl (lv_at hl 0 rfl) ?_
  refine lv_iload_n hx hb d_T_sheetOf_1 rfl (lv_at hl 1 rfl) ?_
  refine ob_callR (v := (some (.int (m_isP (sg_th g) p0)))) (ob_runV (n := 1) (As := [.int p0]) (rest := []) (c_T_isProcess l D tI tZ tA tJ b F S tw g p0) (hT.ok ob_cd_c (by decide +kernel) rfl rfl (Nat.le_of_ble_eq_true rfl) (Nat.le_of_ble_eq_true rfl) kn_T kc_T_isProcess) hx hb hml hown (hT.w k_T_68) (hT.w ki_T_isProcess) (hT.w kv_T_isProcess) (va_recv (q0 := 0) (ci := 2) hT.1 hP rfl rfl) pR.blind (pR.at hT (trivial) hP) rfl rfl hl.1 rfl (lv_room (Nat.le_of_ble_eq_true rfl)) d_T_sheetOf_2 ⟨Nat.le_of_ble_eq_true rfl, Nat.le_of_ble_eq_true rfl⟩) ?_
  refine W.eq (g2 := F0 m 5 ls [.int (m_isP (sg_th g) p0)]) rfl ?_
  refine lv_if_eq (tgt := 32) hx hb d_T_sheetOf_5 (by decide) (fun hc => ?_) (fun hc => ?_)
  · rw [if_pos hc]
    refine lv_iconst (v := -1) hx hb d_T_sheetOf_32 (by decide) ?_
    refine ob_iret hlocks hx hb hr d_T_sheetOf_33 (fun q hq => nomatch hq) (fun t ht hW => ?_)
    exact ⟨rfl, ht⟩
  · rw [if_neg hc]
    have hc0 := hc
    refine lv_iload_n hx hb d_T_sheetOf_8 rfl (lv_at hl 2 rfl) ?_
    refine lv_if_lt (tgt := 32) hx hb d_T_sheetOf_9 (by decide) (fun hc => ?_) (fun hc => ?_)
    · rw [if_pos hc]
      refine lv_iconst (v := -1) hx hb d_T_sheetOf_32 (by decide) ?_
      refine ob_iret hlocks hx hb hr d_T_sheetOf_33 (fun q hq => nomatch hq) (fun t ht hW => ?_)
      exact ⟨rfl, ht⟩
    · rw [if_neg hc]
      have hc1 := hc
      refine lv_iload_n hx hb d_T_sheetOf_12 rfl (lv_at hl 2 rfl) ?_
      refine lv_bipush (v := 6) hx hb d_T_sheetOf_13 (by decide) ?_
      refine lv_icmp_ge (tgt := 32) hx hb d_T_sheetOf_15 (by decide) (fun hc => ?_) (fun hc => ?_)
      · rw [if_pos hc]
        refine lv_iconst (v := -1) hx hb d_T_sheetOf_32 (by decide) ?_
        refine ob_iret hlocks hx hb hr d_T_sheetOf_33 (fun q hq => nomatch hq) (fun t ht hW => ?_)
        exact ⟨rfl, ht⟩
      · rw [if_neg hc]
        refine lv_aload_n hx hb d_T_sheetOf_18 rfl (lv_at hl 0 rfl) ?_
        refine va_get (D := D) (ci := 2) (v := .ref (b 5)) hx hb hT.lays ly_T hown hT.1 hP 0 rfl rfl 8 (by decide) (hT.w k_T_23) (fun _ h => h) rfl d_T_sheetOf_19 ?_
        refine lv_bipush (v := 6) hx hb d_T_sheetOf_22 (by decide) ?_
        refine lv_iload_n hx hb d_T_sheetOf_24 rfl (lv_at hl 1 rfl) ?_
        refine lv_imul hx hb d_T_sheetOf_25 ?_
        refine lv_iload_n hx hb d_T_sheetOf_26 rfl (lv_at hl 2 rfl) ?_
        refine lv_iadd hx hb d_T_sheetOf_27 ?_
        refine va_iald hx hb hT.1 hP 5 0 rfl rfl (hin hc0 hc1 hc) d_T_sheetOf_28 ?_
        refine lv_goto (tgt := 33) hx hb d_T_sheetOf_29 (by decide) ?_
        refine ob_iret hlocks hx hb hr d_T_sheetOf_33 (fun q hq => nomatch hq) (fun t ht hW => ?_)
        exact ⟨rfl, ht⟩

set_option maxHeartbeats 4000000 in
set_option maxRecDepth 100000 in
/-- T_isAddress -/
theorem c_T_isAddress (l : Launch) (D : va_G) (tI tZ tA tJ : ClassId) (x : Int32) : ob_M l y_T_isAddress w_T_isAddress ({ frames := 0, cells := 0, slots := 0, locals := 0 }) (pR D tI tZ tA tJ [.int x] [] True) (ob_qR (some (.int (m_isA x)))) 0 0 (fun _ => False) := by
  refine ob_ofW (by decide +kernel) ?_
  intro p e s m args below meth c s₁ B hml htab hv
  obtain ⟨rfl, hT, -, hP⟩ := hv
  have hx := B.exec
  have hb := B.bytes
  have hr := B.returns
  have hlocks := B.notSynchronized
  have hown : s.vm.findClass R_T = some m.cls := findClass_of_methodNamed B.named
  have hl := lv_entry ([.int x]) (n := 1) (Nat.le_of_ble_eq_true rfl)
  rw [lg_entry_eq]
  generalize (lg_sl ([.int x]) ++ List.replicate (1 - (lg_sl ([.int x])).length) Slot.unset).toArray = ls at hl ⊢
  have hl : lv_has ls 1 [(0, .int x)] := hl
  unfold m_isA
  refine lv_iload_n hx hb d_T_isAddress_0 rfl (lv_at hl 0 rfl) ?_
  refine lv_if_lt (tgt := 14) hx hb d_T_isAddress_1 (by decide) (fun hc => ?_) (fun hc => ?_)
  · rw [if_pos hc]
    refine lv_iconst (v := 0) hx hb d_T_isAddress_14 (by decide) ?_
    refine ob_zret hlocks hx hb hr d_T_isAddress_15 (rfl) (fun q hq => nomatch hq) (fun t ht hW => ?_)
    exact ⟨rfl, ht⟩
  · rw [if_neg hc]
    refine lv_iload_n hx hb d_T_isAddress_4 rfl (lv_at hl 0 rfl) ?_
    refine lv_bipush (v := 24) hx hb d_T_isAddress_5 (by decide) ?_
    refine lv_icmp_ge (tgt := 14) hx hb d_T_isAddress_7 (by decide) (fun hc => ?_) (fun hc => ?_)
    · rw [if_pos hc]
      refine lv_iconst (v := 0) hx hb d_T_isAddress_14 (by decide) ?_
      refine ob_zret hlocks hx hb hr d_T_isAddress_15 (rfl) (fun q hq => nomatch hq) (fun t ht hW => ?_)
      exact ⟨rfl, ht⟩
    · rw [if_neg hc]
      refine lv_iconst (v := 1) hx hb d_T_isAddress_10 (by decide) ?_
      refine lv_goto (tgt := 15) hx hb d_T_isAddress_11 (by decide) ?_
      refine ob_zret hlocks hx hb hr d_T_isAddress_15 (rfl) (fun q hq => nomatch hq) (fun t ht hW => ?_)
      exact ⟨rfl, ht⟩
