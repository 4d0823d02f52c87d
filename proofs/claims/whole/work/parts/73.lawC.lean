/-! The law: the readers. -/

set_option maxHeartbeats 4000000 in
set_option maxRecDepth 100000 in
/-- the law's branch: copied -/
theorem lb_copied {p : Program} {l : Launch} {e : Env} {s : State} {m : MethodId} {below : List Frame} {meth : Method} {c : Code} {sb L : Nat} {xs : Nat → Int32} {D : va_G} {tI tZ tA tJ : ClassId} (C : LC p l s m meth c sb L xs D tI tZ tA tJ) {Q : State → Prop} {b bt : Nat → Nat} {F S j i cells slots : Nat} {q : KS} {tw : Int32} {v : Nat → Int64} {H : Heap} {locs : List Loc} {ls : Array Slot} (hi : i + 5 ≤ L) (hcl : cells + 1 ≤ 668459) (hsl : slots + 6 ≤ 7090694) (hl : lv_has ls 7 (lwl sb b bt j i)) (hI : Inv F S q)
    (hP : va_P D vcl (LW tI tZ tA tJ b bt F S j v tw q) H) (hD : va_D (lA s) (LW tI tZ tA tJ b bt F S j v tw q)) (hS : va_S (lA s) s.heap H locs)
    (kk : ∀ (H : Heap) (locs : List Loc) (ls : Array Slot) (v : Nat → Int64) (tw : Int32) (q : KS), lv_has ls 7 (lwl sb b bt j i) → Inv F S q → va_P D vcl (LW tI tZ tA tJ b bt F S j v tw q) H → va_D (lA s) (LW tI tZ tA tJ b bt F S j v tw q) → va_S (lA s) s.heap H locs → W p l e room_1 s m #[Value.ref sb] below meth c H locs (cells + 1) (slots + 6) Q (F0 m 773 ls [])) :
    W p l e room_1 s m #[Value.ref sb] below meth c H locs cells slots Q (F0 m 571 ls []) := by
  obtain ⟨hx, hb, hr, hml, hown, hX, hbl, hlocks, hT, hz, ho, htr, hL⟩ := C
  have hA : ∀ a : Nat, s.heap.size ≤ a → lA s a := fun _ h => h
  have hpl := lA_plain (s := s)
  have c2 := fun sz => c_T_copied l D tI tZ tA tJ bt F S sz tw (cv q) 
  refine lv_aload_n hx hb d_L_law_571 rfl (lv_at hl 1 rfl) ?_
  refine ob_callR (v := some (.int (ks_cp q))) (ob_runV (n := 0) (As := []) (rest := []) (c_X_copied l D tI tZ tA tJ b F S q ) (hT.ok ob_cd_c (by decide +kernel) rfl rfl (Nat.le_of_ble_eq_true rfl) (Nat.le_of_ble_eq_true rfl) kn_X kc_X_copied) hx hb hml hown (hT.w k_L_83) (hT.w ki_X_copied) (hT.w kv_X_copied) (va_recv (q0 := 7) (ci := 0) hT.1 hP rfl rfl) pR.blind (pR.at hT trivial (ob_Pr (X := lJ tJ j v) (ob_Pr hP))) rfl rfl hl.1 rfl (lv_room (Nat.le_of_ble_eq_true rfl)) d_L_law_572 ⟨Nat.le_of_succ_le hcl, Nat.le_trans (Nat.le_add_right _ _) hsl⟩) ?_
  refine W.eq (g2 := F0 m 575 ls [.int (ks_cp q)]) rfl ?_
  have hP := lw_sP hP
  have hD := lw_sD hD
  refine lv_aload_n hx hb d_L_law_575 rfl (lv_at hl 2 rfl) ?_
  refine ob_callW (v := some (.int (ks_cp q))) (X := lJ tJ j v ++ xW b F S tI tZ tA q) (M := tW bt F S tI tZ tw (cv q)) (M' := tW bt F S tI tZ 0 (cv q)) (ob_runV (n := 0) (As := []) (rest := [.int (ks_cp q)]) (c2 H.size) (hT.ok ob_cd_c (by decide +kernel) rfl rfl (Nat.le_of_ble_eq_true rfl) (Nat.le_of_ble_eq_true rfl) kn_T kc_T_copied) hx hb hml hown (hT.w k_L_86) (hT.w ki_T_copied) (hT.w kv_T_copied) (va_recv (q0 := 0) (ci := 2) hT.1 (ob_Pr hP) rfl rfl) pW.blind (pW.at hT trivial (ob_Pr hP) (ob_Dr hD)) rfl rfl hl.1 rfl (lv_room (Nat.le_of_ble_eq_true rfl)) d_L_law_576 ⟨Nat.le_of_succ_le hcl, Nat.le_trans (Nat.le_add_right _ _) hsl⟩) hP hD hS hA (fun H locs hP hD hS => ?_)
  refine W.eq (g2 := F0 m 579 ls [.int (ks_cp q), .int (ks_cp q)]) rfl ?_
  refine lv_icmp_eq (tgt := 773) hx hb d_L_law_579 (by decide) (fun _ => ?_) (fun h => absurd rfl h)
  refine W.widen (k := cells + 1) (n := slots + 6) (Nat.le_succ _) (Nat.le_add_right _ _) ?_
  exact kk H locs ls _ _ q hl hI (lw_sP hP) (lw_sD hD) hS

set_option maxHeartbeats 4000000 in
set_option maxRecDepth 100000 in
/-- the law's branch: where -/
theorem lb_where {p : Program} {l : Launch} {e : Env} {s : State} {m : MethodId} {below : List Frame} {meth : Method} {c : Code} {sb L : Nat} {xs : Nat → Int32} {D : va_G} {tI tZ tA tJ : ClassId} (C : LC p l s m meth c sb L xs D tI tZ tA tJ) {Q : State → Prop} {b bt : Nat → Nat} {F S j i cells slots : Nat} {q : KS} {tw : Int32} {v : Nat → Int64} {H : Heap} {locs : List Loc} {ls : Array Slot} (hi : i + 5 ≤ L) (hcl : cells + 1 ≤ 668459) (hsl : slots + 6 ≤ 7090694) (hl : lv_has ls 7 (lwl sb b bt j i)) (hI : Inv F S q)
    (hP : va_P D vcl (LW tI tZ tA tJ b bt F S j v tw q) H) (hD : va_D (lA s) (LW tI tZ tA tJ b bt F S j v tw q)) (hS : va_S (lA s) s.heap H locs)
    (kk : ∀ (H : Heap) (locs : List Loc) (ls : Array Slot) (v : Nat → Int64) (tw : Int32) (q : KS), lv_has ls 7 (lwl sb b bt j i) → Inv F S q → va_P D vcl (LW tI tZ tA tJ b bt F S j v tw q) H → va_D (lA s) (LW tI tZ tA tJ b bt F S j v tw q) → va_S (lA s) s.heap H locs → W p l e room_1 s m #[Value.ref sb] below meth c H locs (cells + 1) (slots + 6) Q (F0 m 773 ls [])) :
    W p l e room_1 s m #[Value.ref sb] below meth c H locs cells slots Q (F0 m 584 ls []) := by
  obtain ⟨hx, hb, hr, hml, hown, hX, hbl, hlocks, hT, hz, ho, htr, hL⟩ := C
  have hA : ∀ a : Nat, s.heap.size ≤ a → lA s a := fun _ h => h
  have hpl := lA_plain (s := s)
  obtain ⟨g1, g2, g3, g4⟩ := sim_where hI (xs (i + 1)) (xs (i + 2))
  have c2 := fun sz => c_T_where l D tI tZ tA tJ bt F S sz tw (cv q) (xs (i + 1)) (xs (i + 2))
  simp only [g3] at c2
  refine lv_aload_n hx hb d_L_law_584 rfl (lv_at hl 1 rfl) ?_
  refine lw_rd (K := 1) hx hb hX hbl hL hS hi (by omega) (by decide +kernel) (lv_at hl 0 rfl) (lv_at hl 4 rfl) d_L_law_585 d_L_law_586 d_L_law_588 d_L_law_589 d_L_law_590 ?_
  refine lw_rd (K := 2) hx hb hX hbl hL hS hi (by omega) (by decide +kernel) (lv_at hl 0 rfl) (lv_at hl 4 rfl) d_L_law_591 d_L_law_592 d_L_law_594 d_L_law_595 d_L_law_596 ?_
  refine ob_callR (v := some (.int (k_where q (xs (i + 1)) (xs (i + 2))))) (ob_runV (n := 2) (As := [.int (xs (i + 1)), .int (xs (i + 2))]) (rest := []) (c_X_where l D tI tZ tA tJ b F S q (xs (i + 1)) (xs (i + 2))) (hT.ok ob_cd_c (by decide +kernel) rfl rfl (Nat.le_of_ble_eq_true rfl) (Nat.le_of_ble_eq_true rfl) kn_X kc_X_where) hx hb hml hown (hT.w k_L_87) (hT.w ki_X_where) (hT.w kv_X_where) (va_recv (q0 := 7) (ci := 0) hT.1 hP rfl rfl) pR.blind (pR.at hT g1 (ob_Pr (X := lJ tJ j v) (ob_Pr hP))) rfl rfl hl.1 rfl (lv_room (Nat.le_of_ble_eq_true rfl)) d_L_law_597 ⟨Nat.le_of_succ_le hcl, Nat.le_trans (Nat.le_add_right _ _) hsl⟩) ?_
  refine W.eq (g2 := F0 m 600 ls [.int (k_where q (xs (i + 1)) (xs (i + 2)))]) rfl ?_
  have hP := lw_sP hP
  have hD := lw_sD hD
  refine lv_aload_n hx hb d_L_law_600 rfl (lv_at hl 2 rfl) ?_
  refine lw_rd (K := 1) hx hb hX hbl hL hS hi (by omega) (by decide +kernel) (lv_at hl 0 rfl) (lv_at hl 4 rfl) d_L_law_601 d_L_law_602 d_L_law_604 d_L_law_605 d_L_law_606 ?_
  refine lw_rd (K := 2) hx hb hX hbl hL hS hi (by omega) (by decide +kernel) (lv_at hl 0 rfl) (lv_at hl 4 rfl) d_L_law_607 d_L_law_608 d_L_law_610 d_L_law_611 d_L_law_612 ?_
  refine ob_callW (v := some (.int (k_where q (xs (i + 1)) (xs (i + 2))))) (X := lJ tJ j v ++ xW b F S tI tZ tA q) (M := tW bt F S tI tZ tw (cv q)) (M' := tW bt F S tI tZ 0 (cv q)) (ob_runV (n := 2) (As := [.int (xs (i + 1)), .int (xs (i + 2))]) (rest := [.int (k_where q (xs (i + 1)) (xs (i + 2)))]) (c2 H.size) (hT.ok ob_cd_c (by decide +kernel) rfl rfl (Nat.le_of_ble_eq_true rfl) (Nat.le_of_ble_eq_true rfl) kn_T kc_T_where) hx hb hml hown (hT.w k_L_90) (hT.w ki_T_where) (hT.w kv_T_where) (va_recv (q0 := 0) (ci := 2) hT.1 (ob_Pr hP) rfl rfl) pW.blind (pW.at hT g2 (ob_Pr hP) (ob_Dr hD)) rfl rfl hl.1 rfl (lv_room (Nat.le_of_ble_eq_true rfl)) d_L_law_613 ⟨Nat.le_of_succ_le hcl, Nat.le_trans (Nat.le_add_right _ _) hsl⟩) hP hD hS hA (fun H locs hP hD hS => ?_)
  refine W.eq (g2 := F0 m 616 ls [.int (k_where q (xs (i + 1)) (xs (i + 2))), .int (k_where q (xs (i + 1)) (xs (i + 2)))]) rfl ?_
  refine lv_icmp_eq (tgt := 773) hx hb d_L_law_616 (by decide) (fun _ => ?_) (fun h => absurd rfl h)
  refine W.widen (k := cells + 1) (n := slots + 6) (Nat.le_succ _) (Nat.le_add_right _ _) ?_
  exact kk H locs ls _ _ q hl hI (lw_sP hP) (lw_sD hD) hS

set_option maxHeartbeats 4000000 in
set_option maxRecDepth 100000 in
/-- the law's branch: sharers -/
theorem lb_sharers {p : Program} {l : Launch} {e : Env} {s : State} {m : MethodId} {below : List Frame} {meth : Method} {c : Code} {sb L : Nat} {xs : Nat → Int32} {D : va_G} {tI tZ tA tJ : ClassId} (C : LC p l s m meth c sb L xs D tI tZ tA tJ) {Q : State → Prop} {b bt : Nat → Nat} {F S j i cells slots : Nat} {q : KS} {tw : Int32} {v : Nat → Int64} {H : Heap} {locs : List Loc} {ls : Array Slot} (hi : i + 5 ≤ L) (hcl : cells + 1 ≤ 668459) (hsl : slots + 6 ≤ 7090694) (hl : lv_has ls 7 (lwl sb b bt j i)) (hI : Inv F S q)
    (hP : va_P D vcl (LW tI tZ tA tJ b bt F S j v tw q) H) (hD : va_D (lA s) (LW tI tZ tA tJ b bt F S j v tw q)) (hS : va_S (lA s) s.heap H locs)
    (kk : ∀ (H : Heap) (locs : List Loc) (ls : Array Slot) (v : Nat → Int64) (tw : Int32) (q : KS), lv_has ls 7 (lwl sb b bt j i) → Inv F S q → va_P D vcl (LW tI tZ tA tJ b bt F S j v tw q) H → va_D (lA s) (LW tI tZ tA tJ b bt F S j v tw q) → va_S (lA s) s.heap H locs → W p l e room_1 s m #[Value.ref sb] below meth c H locs (cells + 1) (slots + 6) Q (F0 m 773 ls [])) :
    W p l e room_1 s m #[Value.ref sb] below meth c H locs cells slots Q (F0 m 621 ls []) := by
  obtain ⟨hx, hb, hr, hml, hown, hX, hbl, hlocks, hT, hz, ho, htr, hL⟩ := C
  have hA : ∀ a : Nat, s.heap.size ≤ a → lA s a := fun _ h => h
  have hpl := lA_plain (s := s)
  obtain ⟨g1, g2, g3, g4⟩ := sim_where hI (xs (i + 1)) (xs (i + 2))
  have c2 := fun sz => c_T_sharers l D tI tZ tA tJ bt F S sz tw (cv q) (xs (i + 1)) (xs (i + 2))
  simp only [g4] at c2
  refine lv_aload_n hx hb d_L_law_621 rfl (lv_at hl 1 rfl) ?_
  refine lw_rd (K := 1) hx hb hX hbl hL hS hi (by omega) (by decide +kernel) (lv_at hl 0 rfl) (lv_at hl 4 rfl) d_L_law_622 d_L_law_623 d_L_law_625 d_L_law_626 d_L_law_627 ?_
  refine lw_rd (K := 2) hx hb hX hbl hL hS hi (by omega) (by decide +kernel) (lv_at hl 0 rfl) (lv_at hl 4 rfl) d_L_law_628 d_L_law_629 d_L_law_631 d_L_law_632 d_L_law_633 ?_
  refine ob_callR (v := some (.int (k_sharers q (xs (i + 1)) (xs (i + 2))))) (ob_runV (n := 2) (As := [.int (xs (i + 1)), .int (xs (i + 2))]) (rest := []) (c_X_sharers l D tI tZ tA tJ b F S q (xs (i + 1)) (xs (i + 2))) (hT.ok ob_cd_c (by decide +kernel) rfl rfl (Nat.le_of_ble_eq_true rfl) (Nat.le_of_ble_eq_true rfl) kn_X kc_X_sharers) hx hb hml hown (hT.w k_L_91) (hT.w ki_X_sharers) (hT.w kv_X_sharers) (va_recv (q0 := 7) (ci := 0) hT.1 hP rfl rfl) pR.blind (pR.at hT g1 (ob_Pr (X := lJ tJ j v) (ob_Pr hP))) rfl rfl hl.1 rfl (lv_room (Nat.le_of_ble_eq_true rfl)) d_L_law_634 ⟨Nat.le_of_succ_le hcl, Nat.le_trans (Nat.le_add_right _ _) hsl⟩) ?_
  refine W.eq (g2 := F0 m 637 ls [.int (k_sharers q (xs (i + 1)) (xs (i + 2)))]) rfl ?_
  have hP := lw_sP hP
  have hD := lw_sD hD
  refine lv_aload_n hx hb d_L_law_637 rfl (lv_at hl 2 rfl) ?_
  refine lw_rd (K := 1) hx hb hX hbl hL hS hi (by omega) (by decide +kernel) (lv_at hl 0 rfl) (lv_at hl 4 rfl) d_L_law_638 d_L_law_639 d_L_law_641 d_L_law_642 d_L_law_643 ?_
  refine lw_rd (K := 2) hx hb hX hbl hL hS hi (by omega) (by decide +kernel) (lv_at hl 0 rfl) (lv_at hl 4 rfl) d_L_law_644 d_L_law_645 d_L_law_647 d_L_law_648 d_L_law_649 ?_
  refine ob_callW (v := some (.int (k_sharers q (xs (i + 1)) (xs (i + 2))))) (X := lJ tJ j v ++ xW b F S tI tZ tA q) (M := tW bt F S tI tZ tw (cv q)) (M' := tW bt F S tI tZ 0 (cv q)) (ob_runV (n := 2) (As := [.int (xs (i + 1)), .int (xs (i + 2))]) (rest := [.int (k_sharers q (xs (i + 1)) (xs (i + 2)))]) (c2 H.size) (hT.ok ob_cd_c (by decide +kernel) rfl rfl (Nat.le_of_ble_eq_true rfl) (Nat.le_of_ble_eq_true rfl) kn_T kc_T_sharers) hx hb hml hown (hT.w k_L_94) (hT.w ki_T_sharers) (hT.w kv_T_sharers) (va_recv (q0 := 0) (ci := 2) hT.1 (ob_Pr hP) rfl rfl) pW.blind (pW.at hT g2.1 (ob_Pr hP) (ob_Dr hD)) rfl rfl hl.1 rfl (lv_room (Nat.le_of_ble_eq_true rfl)) d_L_law_650 ⟨Nat.le_of_succ_le hcl, Nat.le_trans (Nat.le_add_right _ _) hsl⟩) hP hD hS hA (fun H locs hP hD hS => ?_)
  refine W.eq (g2 := F0 m 653 ls [.int (k_sharers q (xs (i + 1)) (xs (i + 2))), .int (k_sharers q (xs (i + 1)) (xs (i + 2)))]) rfl ?_
  refine lv_icmp_eq (tgt := 773) hx hb d_L_law_653 (by decide) (fun _ => ?_) (fun h => absurd rfl h)
  refine W.widen (k := cells + 1) (n := slots + 6) (Nat.le_succ _) (Nat.le_add_right _ _) ?_
  exact kk H locs ls _ _ q hl hI (lw_sP hP) (lw_sD hD) hS

set_option maxHeartbeats 4000000 in
set_option maxRecDepth 100000 in
/-- the law's branch: isThere -/
theorem lb_isThere {p : Program} {l : Launch} {e : Env} {s : State} {m : MethodId} {below : List Frame} {meth : Method} {c : Code} {sb L : Nat} {xs : Nat → Int32} {D : va_G} {tI tZ tA tJ : ClassId} (C : LC p l s m meth c sb L xs D tI tZ tA tJ) {Q : State → Prop} {b bt : Nat → Nat} {F S j i cells slots : Nat} {q : KS} {tw : Int32} {v : Nat → Int64} {H : Heap} {locs : List Loc} {ls : Array Slot} (hi : i + 5 ≤ L) (hcl : cells + 1 ≤ 668459) (hsl : slots + 6 ≤ 7090694) (hl : lv_has ls 7 (lwl sb b bt j i)) (hI : Inv F S q)
    (hP : va_P D vcl (LW tI tZ tA tJ b bt F S j v tw q) H) (hD : va_D (lA s) (LW tI tZ tA tJ b bt F S j v tw q)) (hS : va_S (lA s) s.heap H locs)
    (kk : ∀ (H : Heap) (locs : List Loc) (ls : Array Slot) (v : Nat → Int64) (tw : Int32) (q : KS), lv_has ls 7 (lwl sb b bt j i) → Inv F S q → va_P D vcl (LW tI tZ tA tJ b bt F S j v tw q) H → va_D (lA s) (LW tI tZ tA tJ b bt F S j v tw q) → va_S (lA s) s.heap H locs → W p l e room_1 s m #[Value.ref sb] below meth c H locs (cells + 1) (slots + 6) Q (F0 m 773 ls [])) :
    W p l e room_1 s m #[Value.ref sb] below meth c H locs cells slots Q (F0 m 658 ls []) := by
  obtain ⟨hx, hb, hr, hml, hown, hX, hbl, hlocks, hT, hz, ho, htr, hL⟩ := C
  have hA : ∀ a : Nat, s.heap.size ≤ a → lA s a := fun _ h => h
  have hpl := lA_plain (s := s)
  have c2 := fun sz => c_T_isThere l D tI tZ tA tJ bt F S sz tw (cv q) (xs (i + 1))
  refine lv_aload_n hx hb d_L_law_658 rfl (lv_at hl 1 rfl) ?_
  refine lw_rd (K := 1) hx hb hX hbl hL hS hi (by omega) (by decide +kernel) (lv_at hl 0 rfl) (lv_at hl 4 rfl) d_L_law_659 d_L_law_660 d_L_law_662 d_L_law_663 d_L_law_664 ?_
  refine ob_callR (v := some (.int (m_isP (ks_th q) (xs (i + 1))))) (ob_runV (n := 1) (As := [.int (xs (i + 1))]) (rest := []) (c_X_isThere l D tI tZ tA tJ b F S q (xs (i + 1))) (hT.ok ob_cd_c (by decide +kernel) rfl rfl (Nat.le_of_ble_eq_true rfl) (Nat.le_of_ble_eq_true rfl) kn_X kc_X_isThere) hx hb hml hown (hT.w k_L_95) (hT.w ki_X_isThere) (hT.w kv_X_isThere) (va_recv (q0 := 7) (ci := 0) hT.1 hP rfl rfl) pR.blind (pR.at hT trivial (ob_Pr (X := lJ tJ j v) (ob_Pr hP))) rfl rfl hl.1 rfl (lv_room (Nat.le_of_ble_eq_true rfl)) d_L_law_665 ⟨Nat.le_of_succ_le hcl, Nat.le_trans (Nat.le_add_right _ _) hsl⟩) ?_
  refine W.eq (g2 := F0 m 668 ls [.int (m_isP (ks_th q) (xs (i + 1)))]) rfl ?_
  have hP := lw_sP hP
  have hD := lw_sD hD
  refine lv_aload_n hx hb d_L_law_668 rfl (lv_at hl 2 rfl) ?_
  refine lw_rd (K := 1) hx hb hX hbl hL hS hi (by omega) (by decide +kernel) (lv_at hl 0 rfl) (lv_at hl 4 rfl) d_L_law_669 d_L_law_670 d_L_law_672 d_L_law_673 d_L_law_674 ?_
  refine ob_callW (v := some (.int (m_isP (ks_th q) (xs (i + 1))))) (X := lJ tJ j v ++ xW b F S tI tZ tA q) (M := tW bt F S tI tZ tw (cv q)) (M' := tW bt F S tI tZ 0 (cv q)) (ob_runV (n := 1) (As := [.int (xs (i + 1))]) (rest := [.int (m_isP (ks_th q) (xs (i + 1)))]) (c2 H.size) (hT.ok ob_cd_c (by decide +kernel) rfl rfl (Nat.le_of_ble_eq_true rfl) (Nat.le_of_ble_eq_true rfl) kn_T kc_T_isThere) hx hb hml hown (hT.w k_L_99) (hT.w ki_T_isThere) (hT.w kv_T_isThere) (va_recv (q0 := 0) (ci := 2) hT.1 (ob_Pr hP) rfl rfl) pW.blind (pW.at hT trivial (ob_Pr hP) (ob_Dr hD)) rfl rfl hl.1 rfl (lv_room (Nat.le_of_ble_eq_true rfl)) d_L_law_675 ⟨Nat.le_of_succ_le hcl, Nat.le_trans (Nat.le_add_right _ _) hsl⟩) hP hD hS hA (fun H locs hP hD hS => ?_)
  refine W.eq (g2 := F0 m 678 ls [.int (m_isP (ks_th q) (xs (i + 1))), .int (m_isP (ks_th q) (xs (i + 1)))]) rfl ?_
  refine lv_icmp_eq (tgt := 773) hx hb d_L_law_678 (by decide) (fun _ => ?_) (fun h => absurd rfl h)
  refine W.widen (k := cells + 1) (n := slots + 6) (Nat.le_succ _) (Nat.le_add_right _ _) ?_
  exact kk H locs ls _ _ q hl hI (lw_sP hP) (lw_sD hD) hS

set_option maxHeartbeats 4000000 in
set_option maxRecDepth 100000 in
/-- the law's branch: marked -/
theorem lb_marked {p : Program} {l : Launch} {e : Env} {s : State} {m : MethodId} {below : List Frame} {meth : Method} {c : Code} {sb L : Nat} {xs : Nat → Int32} {D : va_G} {tI tZ tA tJ : ClassId} (C : LC p l s m meth c sb L xs D tI tZ tA tJ) {Q : State → Prop} {b bt : Nat → Nat} {F S j i cells slots : Nat} {q : KS} {tw : Int32} {v : Nat → Int64} {H : Heap} {locs : List Loc} {ls : Array Slot} (hi : i + 5 ≤ L) (hcl : cells + 1 ≤ 668459) (hsl : slots + 6 ≤ 7090694) (hl : lv_has ls 7 (lwl sb b bt j i)) (hI : Inv F S q)
    (hP : va_P D vcl (LW tI tZ tA tJ b bt F S j v tw q) H) (hD : va_D (lA s) (LW tI tZ tA tJ b bt F S j v tw q)) (hS : va_S (lA s) s.heap H locs)
    (kk : ∀ (H : Heap) (locs : List Loc) (ls : Array Slot) (v : Nat → Int64) (tw : Int32) (q : KS), lv_has ls 7 (lwl sb b bt j i) → Inv F S q → va_P D vcl (LW tI tZ tA tJ b bt F S j v tw q) H → va_D (lA s) (LW tI tZ tA tJ b bt F S j v tw q) → va_S (lA s) s.heap H locs → W p l e room_1 s m #[Value.ref sb] below meth c H locs (cells + 1) (slots + 6) Q (F0 m 773 ls [])) :
    W p l e room_1 s m #[Value.ref sb] below meth c H locs cells slots Q (F0 m 683 ls []) := by
  obtain ⟨hx, hb, hr, hml, hown, hX, hbl, hlocks, hT, hz, ho, htr, hL⟩ := C
  have hA : ∀ a : Nat, s.heap.size ≤ a → lA s a := fun _ h => h
  have hpl := lA_plain (s := s)
  have g8 : F ≤ 8 := hI.1.1.2.1
  have c2 := fun sz => c_T_marked l D tI tZ tA tJ bt F S sz tw (cv q) (xs (i + 1))
  refine lv_aload_n hx hb d_L_law_683 rfl (lv_at hl 1 rfl) ?_
  refine lw_rd (K := 1) hx hb hX hbl hL hS hi (by omega) (by decide +kernel) (lv_at hl 0 rfl) (lv_at hl 4 rfl) d_L_law_684 d_L_law_685 d_L_law_687 d_L_law_688 d_L_law_689 ?_
  refine ob_callR (v := some (.int (k_hasMark F (km_mk (ks_m q)) (xs (i + 1))))) (ob_runV (n := 1) (As := [.int (xs (i + 1))]) (rest := []) (c_X_marked l D tI tZ tA tJ b F S q (xs (i + 1))) (hT.ok ob_cd_c (by decide +kernel) rfl rfl (Nat.le_of_ble_eq_true rfl) (Nat.le_of_ble_eq_true rfl) kn_X kc_X_marked) hx hb hml hown (hT.w k_L_100) (hT.w ki_X_marked) (hT.w kv_X_marked) (va_recv (q0 := 7) (ci := 0) hT.1 hP rfl rfl) pR.blind (pR.at hT g8 (ob_Pr (X := lJ tJ j v) (ob_Pr hP))) rfl rfl hl.1 rfl (lv_room (Nat.le_of_ble_eq_true rfl)) d_L_law_690 ⟨Nat.le_of_succ_le hcl, Nat.le_trans (Nat.le_add_right _ _) hsl⟩) ?_
  refine W.eq (g2 := F0 m 693 ls [.int (k_hasMark F (km_mk (ks_m q)) (xs (i + 1)))]) rfl ?_
  have hP := lw_sP hP
  have hD := lw_sD hD
  refine lv_aload_n hx hb d_L_law_693 rfl (lv_at hl 2 rfl) ?_
  refine lw_rd (K := 1) hx hb hX hbl hL hS hi (by omega) (by decide +kernel) (lv_at hl 0 rfl) (lv_at hl 4 rfl) d_L_law_694 d_L_law_695 d_L_law_697 d_L_law_698 d_L_law_699 ?_
  refine ob_callW (v := some (.int (k_hasMark F (km_mk (ks_m q)) (xs (i + 1))))) (X := lJ tJ j v ++ xW b F S tI tZ tA q) (M := tW bt F S tI tZ tw (cv q)) (M' := tW bt F S tI tZ 0 (cv q)) (ob_runV (n := 1) (As := [.int (xs (i + 1))]) (rest := [.int (k_hasMark F (km_mk (ks_m q)) (xs (i + 1)))]) (c2 H.size) (hT.ok ob_cd_c (by decide +kernel) rfl rfl (Nat.le_of_ble_eq_true rfl) (Nat.le_of_ble_eq_true rfl) kn_T kc_T_marked) hx hb hml hown (hT.w k_L_103) (hT.w ki_T_marked) (hT.w kv_T_marked) (va_recv (q0 := 0) (ci := 2) hT.1 (ob_Pr hP) rfl rfl) pW.blind (pW.at hT g8 (ob_Pr hP) (ob_Dr hD)) rfl rfl hl.1 rfl (lv_room (Nat.le_of_ble_eq_true rfl)) d_L_law_700 ⟨Nat.le_of_succ_le hcl, Nat.le_trans (Nat.le_add_right _ _) hsl⟩) hP hD hS hA (fun H locs hP hD hS => ?_)
  refine W.eq (g2 := F0 m 703 ls [.int (k_hasMark F (km_mk (ks_m q)) (xs (i + 1))), .int (k_hasMark F (km_mk (ks_m q)) (xs (i + 1)))]) rfl ?_
  refine lv_icmp_eq (tgt := 773) hx hb d_L_law_703 (by decide) (fun _ => ?_) (fun h => absurd rfl h)
  refine W.widen (k := cells + 1) (n := slots + 6) (Nat.le_succ _) (Nat.le_add_right _ _) ?_
  exact kk H locs ls _ _ q hl hI (lw_sP hP) (lw_sD hD) hS

set_option maxHeartbeats 4000000 in
set_option maxRecDepth 100000 in
/-- the law's branch: hand -/
theorem lb_hand {p : Program} {l : Launch} {e : Env} {s : State} {m : MethodId} {below : List Frame} {meth : Method} {c : Code} {sb L : Nat} {xs : Nat → Int32} {D : va_G} {tI tZ tA tJ : ClassId} (C : LC p l s m meth c sb L xs D tI tZ tA tJ) {Q : State → Prop} {b bt : Nat → Nat} {F S j i cells slots : Nat} {q : KS} {tw : Int32} {v : Nat → Int64} {H : Heap} {locs : List Loc} {ls : Array Slot} (hi : i + 5 ≤ L) (hcl : cells + 1 ≤ 668459) (hsl : slots + 6 ≤ 7090694) (hl : lv_has ls 7 (lwl sb b bt j i)) (hI : Inv F S q)
    (hP : va_P D vcl (LW tI tZ tA tJ b bt F S j v tw q) H) (hD : va_D (lA s) (LW tI tZ tA tJ b bt F S j v tw q)) (hS : va_S (lA s) s.heap H locs)
    (kk : ∀ (H : Heap) (locs : List Loc) (ls : Array Slot) (v : Nat → Int64) (tw : Int32) (q : KS), lv_has ls 7 (lwl sb b bt j i) → Inv F S q → va_P D vcl (LW tI tZ tA tJ b bt F S j v tw q) H → va_D (lA s) (LW tI tZ tA tJ b bt F S j v tw q) → va_S (lA s) s.heap H locs → W p l e room_1 s m #[Value.ref sb] below meth c H locs (cells + 1) (slots + 6) Q (F0 m 773 ls [])) :
    W p l e room_1 s m #[Value.ref sb] below meth c H locs cells slots Q (F0 m 708 ls []) := by
  obtain ⟨hx, hb, hr, hml, hown, hX, hbl, hlocks, hT, hz, ho, htr, hL⟩ := C
  have hA : ∀ a : Nat, s.heap.size ≤ a → lA s a := fun _ h => h
  have hpl := lA_plain (s := s)
  have c2 := fun sz => c_T_hand l D tI tZ tA tJ bt F S sz tw (cv q) 
  refine lv_aload_n hx hb d_L_law_708 rfl (lv_at hl 1 rfl) ?_
  refine ob_callR (v := some (.int (km_hd (ks_m q)))) (ob_runV (n := 0) (As := []) (rest := []) (c_X_hand l D tI tZ tA tJ b F S q ) (hT.ok ob_cd_c (by decide +kernel) rfl rfl (Nat.le_of_ble_eq_true rfl) (Nat.le_of_ble_eq_true rfl) kn_X kc_X_hand) hx hb hml hown (hT.w k_L_104) (hT.w ki_X_hand) (hT.w kv_X_hand) (va_recv (q0 := 7) (ci := 0) hT.1 hP rfl rfl) pR.blind (pR.at hT trivial (ob_Pr (X := lJ tJ j v) (ob_Pr hP))) rfl rfl hl.1 rfl (lv_room (Nat.le_of_ble_eq_true rfl)) d_L_law_709 ⟨Nat.le_of_succ_le hcl, Nat.le_trans (Nat.le_add_right _ _) hsl⟩) ?_
  refine W.eq (g2 := F0 m 712 ls [.int (km_hd (ks_m q))]) rfl ?_
  have hP := lw_sP hP
  have hD := lw_sD hD
  refine lv_aload_n hx hb d_L_law_712 rfl (lv_at hl 2 rfl) ?_
  refine ob_callW (v := some (.int (km_hd (ks_m q)))) (X := lJ tJ j v ++ xW b F S tI tZ tA q) (M := tW bt F S tI tZ tw (cv q)) (M' := tW bt F S tI tZ 0 (cv q)) (ob_runV (n := 0) (As := []) (rest := [.int (km_hd (ks_m q))]) (c2 H.size) (hT.ok ob_cd_c (by decide +kernel) rfl rfl (Nat.le_of_ble_eq_true rfl) (Nat.le_of_ble_eq_true rfl) kn_T kc_T_hand) hx hb hml hown (hT.w k_L_107) (hT.w ki_T_hand) (hT.w kv_T_hand) (va_recv (q0 := 0) (ci := 2) hT.1 (ob_Pr hP) rfl rfl) pW.blind (pW.at hT trivial (ob_Pr hP) (ob_Dr hD)) rfl rfl hl.1 rfl (lv_room (Nat.le_of_ble_eq_true rfl)) d_L_law_713 ⟨Nat.le_of_succ_le hcl, Nat.le_trans (Nat.le_add_right _ _) hsl⟩) hP hD hS hA (fun H locs hP hD hS => ?_)
  refine W.eq (g2 := F0 m 716 ls [.int (km_hd (ks_m q)), .int (km_hd (ks_m q))]) rfl ?_
  refine lv_icmp_eq (tgt := 773) hx hb d_L_law_716 (by decide) (fun _ => ?_) (fun h => absurd rfl h)
  refine W.widen (k := cells + 1) (n := slots + 6) (Nat.le_succ _) (Nat.le_add_right _ _) ?_
  exact kk H locs ls _ _ q hl hI (lw_sP hP) (lw_sD hD) hS

set_option maxHeartbeats 4000000 in
set_option maxRecDepth 100000 in
/-- the law's branch: freeFrames -/
theorem lb_freeFrames {p : Program} {l : Launch} {e : Env} {s : State} {m : MethodId} {below : List Frame} {meth : Method} {c : Code} {sb L : Nat} {xs : Nat → Int32} {D : va_G} {tI tZ tA tJ : ClassId} (C : LC p l s m meth c sb L xs D tI tZ tA tJ) {Q : State → Prop} {b bt : Nat → Nat} {F S j i cells slots : Nat} {q : KS} {tw : Int32} {v : Nat → Int64} {H : Heap} {locs : List Loc} {ls : Array Slot} (hi : i + 5 ≤ L) (hcl : cells + 1 ≤ 668459) (hsl : slots + 6 ≤ 7090694) (hl : lv_has ls 7 (lwl sb b bt j i)) (hI : Inv F S q)
    (hP : va_P D vcl (LW tI tZ tA tJ b bt F S j v tw q) H) (hD : va_D (lA s) (LW tI tZ tA tJ b bt F S j v tw q)) (hS : va_S (lA s) s.heap H locs)
    (kk : ∀ (H : Heap) (locs : List Loc) (ls : Array Slot) (v : Nat → Int64) (tw : Int32) (q : KS), lv_has ls 7 (lwl sb b bt j i) → Inv F S q → va_P D vcl (LW tI tZ tA tJ b bt F S j v tw q) H → va_D (lA s) (LW tI tZ tA tJ b bt F S j v tw q) → va_S (lA s) s.heap H locs → W p l e room_1 s m #[Value.ref sb] below meth c H locs (cells + 1) (slots + 6) Q (F0 m 773 ls [])) :
    W p l e room_1 s m #[Value.ref sb] below meth c H locs cells slots Q (F0 m 721 ls []) := by
  obtain ⟨hx, hb, hr, hml, hown, hX, hbl, hlocks, hT, hz, ho, htr, hL⟩ := C
  have hA : ∀ a : Nat, s.heap.size ≤ a → lA s a := fun _ h => h
  have hpl := lA_plain (s := s)
  have g8 : F ≤ 8 := hI.1.1.2.1
  have g3 : m_cntG (sg_li (cv q)) F 0 0 = k_cnt (km_iF (ks_m q)) F 0 0 := sim_cntF hI.1 F 0 0 (Nat.zero_add _)
  have c2 := fun sz => c_T_freeFrames l D tI tZ tA tJ bt F S sz tw (cv q) 
  simp only [g3] at c2
  refine lv_aload_n hx hb d_L_law_721 rfl (lv_at hl 1 rfl) ?_
  refine ob_callR (v := some (.int (k_cnt (km_iF (ks_m q)) F 0 0))) (ob_runV (n := 0) (As := []) (rest := []) (c_X_freeFrames l D tI tZ tA tJ b F S q ) (hT.ok ob_cd_c (by decide +kernel) rfl rfl (Nat.le_of_ble_eq_true rfl) (Nat.le_of_ble_eq_true rfl) kn_X kc_X_freeFrames) hx hb hml hown (hT.w k_L_108) (hT.w ki_X_freeFrames) (hT.w kv_X_freeFrames) (va_recv (q0 := 7) (ci := 0) hT.1 hP rfl rfl) pR.blind (pR.at hT (Nat.le_trans g8 (by omega)) (ob_Pr (X := lJ tJ j v) (ob_Pr hP))) rfl rfl hl.1 rfl (lv_room (Nat.le_of_ble_eq_true rfl)) d_L_law_722 ⟨Nat.le_of_succ_le hcl, Nat.le_trans (Nat.le_add_right _ _) hsl⟩) ?_
  refine W.eq (g2 := F0 m 725 ls [.int (k_cnt (km_iF (ks_m q)) F 0 0)]) rfl ?_
  have hP := lw_sP hP
  have hD := lw_sD hD
  refine lv_aload_n hx hb d_L_law_725 rfl (lv_at hl 2 rfl) ?_
  refine ob_callW (v := some (.int (k_cnt (km_iF (ks_m q)) F 0 0))) (X := lJ tJ j v ++ xW b F S tI tZ tA q) (M := tW bt F S tI tZ tw (cv q)) (M' := tW bt F S tI tZ 0 (cv q)) (ob_runV (n := 0) (As := []) (rest := [.int (k_cnt (km_iF (ks_m q)) F 0 0)]) (c2 H.size) (hT.ok ob_cd_c (by decide +kernel) rfl rfl (Nat.le_of_ble_eq_true rfl) (Nat.le_of_ble_eq_true rfl) kn_T kc_T_freeFrames) hx hb hml hown (hT.w k_L_111) (hT.w ki_T_freeFrames) (hT.w kv_T_freeFrames) (va_recv (q0 := 0) (ci := 2) hT.1 (ob_Pr hP) rfl rfl) pW.blind (pW.at hT (Nat.le_trans g8 (by omega)) (ob_Pr hP) (ob_Dr hD)) rfl rfl hl.1 rfl (lv_room (Nat.le_of_ble_eq_true rfl)) d_L_law_726 ⟨Nat.le_of_succ_le hcl, Nat.le_trans (Nat.le_add_right _ _) hsl⟩) hP hD hS hA (fun H locs hP hD hS => ?_)
  refine W.eq (g2 := F0 m 729 ls [.int (k_cnt (km_iF (ks_m q)) F 0 0), .int (k_cnt (km_iF (ks_m q)) F 0 0)]) rfl ?_
  refine lv_icmp_eq (tgt := 773) hx hb d_L_law_729 (by decide) (fun _ => ?_) (fun h => absurd rfl h)
  refine W.widen (k := cells + 1) (n := slots + 6) (Nat.le_succ _) (Nat.le_add_right _ _) ?_
  exact kk H locs ls _ _ q hl hI (lw_sP hP) (lw_sD hD) hS

set_option maxHeartbeats 4000000 in
set_option maxRecDepth 100000 in
/-- the law's branch: freeSlots -/
theorem lb_freeSlots {p : Program} {l : Launch} {e : Env} {s : State} {m : MethodId} {below : List Frame} {meth : Method} {c : Code} {sb L : Nat} {xs : Nat → Int32} {D : va_G} {tI tZ tA tJ : ClassId} (C : LC p l s m meth c sb L xs D tI tZ tA tJ) {Q : State → Prop} {b bt : Nat → Nat} {F S j i cells slots : Nat} {q : KS} {tw : Int32} {v : Nat → Int64} {H : Heap} {locs : List Loc} {ls : Array Slot} (hi : i + 5 ≤ L) (hcl : cells + 1 ≤ 668459) (hsl : slots + 6 ≤ 7090694) (hl : lv_has ls 7 (lwl sb b bt j i)) (hI : Inv F S q)
    (hP : va_P D vcl (LW tI tZ tA tJ b bt F S j v tw q) H) (hD : va_D (lA s) (LW tI tZ tA tJ b bt F S j v tw q)) (hS : va_S (lA s) s.heap H locs)
    (kk : ∀ (H : Heap) (locs : List Loc) (ls : Array Slot) (v : Nat → Int64) (tw : Int32) (q : KS), lv_has ls 7 (lwl sb b bt j i) → Inv F S q → va_P D vcl (LW tI tZ tA tJ b bt F S j v tw q) H → va_D (lA s) (LW tI tZ tA tJ b bt F S j v tw q) → va_S (lA s) s.heap H locs → W p l e room_1 s m #[Value.ref sb] below meth c H locs (cells + 1) (slots + 6) Q (F0 m 773 ls [])) :
    W p l e room_1 s m #[Value.ref sb] below meth c H locs cells slots Q (F0 m 734 ls []) := by
  obtain ⟨hx, hb, hr, hml, hown, hX, hbl, hlocks, hT, hz, ho, htr, hL⟩ := C
  have hA : ∀ a : Nat, s.heap.size ≤ a → lA s a := fun _ h => h
  have hpl := lA_plain (s := s)
  have g8 : S ≤ 10 := hI.1.1.2.2
  have g3 : m_cntF (sg_li (cv q)) 100 S 0 0 = k_cnt (km_iS (ks_m q)) S 0 0 := sim_cntS hI.1 S 0 0 (Nat.zero_add _)
  have c2 := fun sz => c_T_freeSlots l D tI tZ tA tJ bt F S sz tw (cv q) 
  simp only [g3] at c2
  refine lv_aload_n hx hb d_L_law_734 rfl (lv_at hl 1 rfl) ?_
  refine ob_callR (v := some (.int (k_cnt (km_iS (ks_m q)) S 0 0))) (ob_runV (n := 0) (As := []) (rest := []) (c_X_freeSlots l D tI tZ tA tJ b F S q ) (hT.ok ob_cd_c (by decide +kernel) rfl rfl (Nat.le_of_ble_eq_true rfl) (Nat.le_of_ble_eq_true rfl) kn_X kc_X_freeSlots) hx hb hml hown (hT.w k_L_112) (hT.w ki_X_freeSlots) (hT.w kv_X_freeSlots) (va_recv (q0 := 7) (ci := 0) hT.1 hP rfl rfl) pR.blind (pR.at hT g8 (ob_Pr (X := lJ tJ j v) (ob_Pr hP))) rfl rfl hl.1 rfl (lv_room (Nat.le_of_ble_eq_true rfl)) d_L_law_735 ⟨Nat.le_of_succ_le hcl, Nat.le_trans (Nat.le_add_right _ _) hsl⟩) ?_
  refine W.eq (g2 := F0 m 738 ls [.int (k_cnt (km_iS (ks_m q)) S 0 0)]) rfl ?_
  have hP := lw_sP hP
  have hD := lw_sD hD
  refine lv_aload_n hx hb d_L_law_738 rfl (lv_at hl 2 rfl) ?_
  refine ob_callW (v := some (.int (k_cnt (km_iS (ks_m q)) S 0 0))) (X := lJ tJ j v ++ xW b F S tI tZ tA q) (M := tW bt F S tI tZ tw (cv q)) (M' := tW bt F S tI tZ 0 (cv q)) (ob_runV (n := 0) (As := []) (rest := [.int (k_cnt (km_iS (ks_m q)) S 0 0)]) (c2 H.size) (hT.ok ob_cd_c (by decide +kernel) rfl rfl (Nat.le_of_ble_eq_true rfl) (Nat.le_of_ble_eq_true rfl) kn_T kc_T_freeSlots) hx hb hml hown (hT.w k_L_115) (hT.w ki_T_freeSlots) (hT.w kv_T_freeSlots) (va_recv (q0 := 0) (ci := 2) hT.1 (ob_Pr hP) rfl rfl) pW.blind (pW.at hT g8 (ob_Pr hP) (ob_Dr hD)) rfl rfl hl.1 rfl (lv_room (Nat.le_of_ble_eq_true rfl)) d_L_law_739 ⟨Nat.le_of_succ_le hcl, Nat.le_trans (Nat.le_add_right _ _) hsl⟩) hP hD hS hA (fun H locs hP hD hS => ?_)
  refine W.eq (g2 := F0 m 742 ls [.int (k_cnt (km_iS (ks_m q)) S 0 0), .int (k_cnt (km_iS (ks_m q)) S 0 0)]) rfl ?_
  refine lv_icmp_eq (tgt := 773) hx hb d_L_law_742 (by decide) (fun _ => ?_) (fun h => absurd rfl h)
  refine W.widen (k := cells + 1) (n := slots + 6) (Nat.le_succ _) (Nat.le_add_right _ _) ?_
  exact kk H locs ls _ _ q hl hI (lw_sP hP) (lw_sD hD) hS

set_option maxHeartbeats 4000000 in
set_option maxRecDepth 100000 in
/-- the law's branch: faults -/
theorem lb_faults {p : Program} {l : Launch} {e : Env} {s : State} {m : MethodId} {below : List Frame} {meth : Method} {c : Code} {sb L : Nat} {xs : Nat → Int32} {D : va_G} {tI tZ tA tJ : ClassId} (C : LC p l s m meth c sb L xs D tI tZ tA tJ) {Q : State → Prop} {b bt : Nat → Nat} {F S j i cells slots : Nat} {q : KS} {tw : Int32} {v : Nat → Int64} {H : Heap} {locs : List Loc} {ls : Array Slot} (hi : i + 5 ≤ L) (hcl : cells + 1 ≤ 668459) (hsl : slots + 6 ≤ 7090694) (hl : lv_has ls 7 (lwl sb b bt j i)) (hI : Inv F S q)
    (hP : va_P D vcl (LW tI tZ tA tJ b bt F S j v tw q) H) (hD : va_D (lA s) (LW tI tZ tA tJ b bt F S j v tw q)) (hS : va_S (lA s) s.heap H locs)
    (kk : ∀ (H : Heap) (locs : List Loc) (ls : Array Slot) (v : Nat → Int64) (tw : Int32) (q : KS), lv_has ls 7 (lwl sb b bt j i) → Inv F S q → va_P D vcl (LW tI tZ tA tJ b bt F S j v tw q) H → va_D (lA s) (LW tI tZ tA tJ b bt F S j v tw q) → va_S (lA s) s.heap H locs → W p l e room_1 s m #[Value.ref sb] below meth c H locs (cells + 1) (slots + 6) Q (F0 m 773 ls [])) :
    W p l e room_1 s m #[Value.ref sb] below meth c H locs cells slots Q (F0 m 747 ls []) := by
  obtain ⟨hx, hb, hr, hml, hown, hX, hbl, hlocks, hT, hz, ho, htr, hL⟩ := C
  have hA : ∀ a : Nat, s.heap.size ≤ a → lA s a := fun _ h => h
  have hpl := lA_plain (s := s)
  have c2 := fun sz => c_T_faults l D tI tZ tA tJ bt F S sz tw (cv q) 
  refine lv_aload_n hx hb d_L_law_747 rfl (lv_at hl 1 rfl) ?_
  refine ob_callR (v := some (.int (km_fl (ks_m q)))) (ob_runV (n := 0) (As := []) (rest := []) (c_X_faults l D tI tZ tA tJ b F S q ) (hT.ok ob_cd_c (by decide +kernel) rfl rfl (Nat.le_of_ble_eq_true rfl) (Nat.le_of_ble_eq_true rfl) kn_X kc_X_faults) hx hb hml hown (hT.w k_L_116) (hT.w ki_X_faults) (hT.w kv_X_faults) (va_recv (q0 := 7) (ci := 0) hT.1 hP rfl rfl) pR.blind (pR.at hT trivial (ob_Pr (X := lJ tJ j v) (ob_Pr hP))) rfl rfl hl.1 rfl (lv_room (Nat.le_of_ble_eq_true rfl)) d_L_law_748 ⟨Nat.le_of_succ_le hcl, Nat.le_trans (Nat.le_add_right _ _) hsl⟩) ?_
  refine W.eq (g2 := F0 m 751 ls [.int (km_fl (ks_m q))]) rfl ?_
  have hP := lw_sP hP
  have hD := lw_sD hD
  refine lv_aload_n hx hb d_L_law_751 rfl (lv_at hl 2 rfl) ?_
  refine ob_callW (v := some (.int (km_fl (ks_m q)))) (X := lJ tJ j v ++ xW b F S tI tZ tA q) (M := tW bt F S tI tZ tw (cv q)) (M' := tW bt F S tI tZ 0 (cv q)) (ob_runV (n := 0) (As := []) (rest := [.int (km_fl (ks_m q))]) (c2 H.size) (hT.ok ob_cd_c (by decide +kernel) rfl rfl (Nat.le_of_ble_eq_true rfl) (Nat.le_of_ble_eq_true rfl) kn_T kc_T_faults) hx hb hml hown (hT.w k_L_119) (hT.w ki_T_faults) (hT.w kv_T_faults) (va_recv (q0 := 0) (ci := 2) hT.1 (ob_Pr hP) rfl rfl) pW.blind (pW.at hT trivial (ob_Pr hP) (ob_Dr hD)) rfl rfl hl.1 rfl (lv_room (Nat.le_of_ble_eq_true rfl)) d_L_law_752 ⟨Nat.le_of_succ_le hcl, Nat.le_trans (Nat.le_add_right _ _) hsl⟩) hP hD hS hA (fun H locs hP hD hS => ?_)
  refine W.eq (g2 := F0 m 755 ls [.int (km_fl (ks_m q)), .int (km_fl (ks_m q))]) rfl ?_
  refine lv_icmp_eq (tgt := 773) hx hb d_L_law_755 (by decide) (fun _ => ?_) (fun h => absurd rfl h)
  refine W.widen (k := cells + 1) (n := slots + 6) (Nat.le_succ _) (Nat.le_add_right _ _) ?_
  exact kk H locs ls _ _ q hl hI (lw_sP hP) (lw_sD hD) hS

set_option maxHeartbeats 4000000 in
set_option maxRecDepth 100000 in
/-- the law's branch: evicted -/
theorem lb_evicted {p : Program} {l : Launch} {e : Env} {s : State} {m : MethodId} {below : List Frame} {meth : Method} {c : Code} {sb L : Nat} {xs : Nat → Int32} {D : va_G} {tI tZ tA tJ : ClassId} (C : LC p l s m meth c sb L xs D tI tZ tA tJ) {Q : State → Prop} {b bt : Nat → Nat} {F S j i cells slots : Nat} {q : KS} {tw : Int32} {v : Nat → Int64} {H : Heap} {locs : List Loc} {ls : Array Slot} (hi : i + 5 ≤ L) (hcl : cells + 1 ≤ 668459) (hsl : slots + 6 ≤ 7090694) (hl : lv_has ls 7 (lwl sb b bt j i)) (hI : Inv F S q)
    (hP : va_P D vcl (LW tI tZ tA tJ b bt F S j v tw q) H) (hD : va_D (lA s) (LW tI tZ tA tJ b bt F S j v tw q)) (hS : va_S (lA s) s.heap H locs)
    (kk : ∀ (H : Heap) (locs : List Loc) (ls : Array Slot) (v : Nat → Int64) (tw : Int32) (q : KS), lv_has ls 7 (lwl sb b bt j i) → Inv F S q → va_P D vcl (LW tI tZ tA tJ b bt F S j v tw q) H → va_D (lA s) (LW tI tZ tA tJ b bt F S j v tw q) → va_S (lA s) s.heap H locs → W p l e room_1 s m #[Value.ref sb] below meth c H locs (cells + 1) (slots + 6) Q (F0 m 773 ls [])) :
    W p l e room_1 s m #[Value.ref sb] below meth c H locs cells slots Q (F0 m 760 ls []) := by
  obtain ⟨hx, hb, hr, hml, hown, hX, hbl, hlocks, hT, hz, ho, htr, hL⟩ := C
  have hA : ∀ a : Nat, s.heap.size ≤ a → lA s a := fun _ h => h
  have hpl := lA_plain (s := s)
  have c2 := fun sz => c_T_evicted l D tI tZ tA tJ bt F S sz tw (cv q) 
  refine lv_aload_n hx hb d_L_law_760 rfl (lv_at hl 1 rfl) ?_
  refine ob_callR (v := some (.int (km_ev (ks_m q)))) (ob_runV (n := 0) (As := []) (rest := []) (c_X_evicted l D tI tZ tA tJ b F S q ) (hT.ok ob_cd_c (by decide +kernel) rfl rfl (Nat.le_of_ble_eq_true rfl) (Nat.le_of_ble_eq_true rfl) kn_X kc_X_evicted) hx hb hml hown (hT.w k_L_120) (hT.w ki_X_evicted) (hT.w kv_X_evicted) (va_recv (q0 := 7) (ci := 0) hT.1 hP rfl rfl) pR.blind (pR.at hT trivial (ob_Pr (X := lJ tJ j v) (ob_Pr hP))) rfl rfl hl.1 rfl (lv_room (Nat.le_of_ble_eq_true rfl)) d_L_law_761 ⟨Nat.le_of_succ_le hcl, Nat.le_trans (Nat.le_add_right _ _) hsl⟩) ?_
  refine W.eq (g2 := F0 m 764 ls [.int (km_ev (ks_m q))]) rfl ?_
  have hP := lw_sP hP
  have hD := lw_sD hD
  refine lv_aload_n hx hb d_L_law_764 rfl (lv_at hl 2 rfl) ?_
  refine ob_callW (v := some (.int (km_ev (ks_m q)))) (X := lJ tJ j v ++ xW b F S tI tZ tA q) (M := tW bt F S tI tZ tw (cv q)) (M' := tW bt F S tI tZ 0 (cv q)) (ob_runV (n := 0) (As := []) (rest := [.int (km_ev (ks_m q))]) (c2 H.size) (hT.ok ob_cd_c (by decide +kernel) rfl rfl (Nat.le_of_ble_eq_true rfl) (Nat.le_of_ble_eq_true rfl) kn_T kc_T_evicted) hx hb hml hown (hT.w k_L_123) (hT.w ki_T_evicted) (hT.w kv_T_evicted) (va_recv (q0 := 0) (ci := 2) hT.1 (ob_Pr hP) rfl rfl) pW.blind (pW.at hT trivial (ob_Pr hP) (ob_Dr hD)) rfl rfl hl.1 rfl (lv_room (Nat.le_of_ble_eq_true rfl)) d_L_law_765 ⟨Nat.le_of_succ_le hcl, Nat.le_trans (Nat.le_add_right _ _) hsl⟩) hP hD hS hA (fun H locs hP hD hS => ?_)
  refine W.eq (g2 := F0 m 768 ls [.int (km_ev (ks_m q)), .int (km_ev (ks_m q))]) rfl ?_
  refine lv_icmp_eq (tgt := 773) hx hb d_L_law_768 (by decide) (fun _ => ?_) (fun h => absurd rfl h)
  refine W.widen (k := cells + 1) (n := slots + 6) (Nat.le_succ _) (Nat.le_add_right _ _) ?_
  exact kk H locs ls _ _ q hl hI (lw_sP hP) (lw_sD hD) hS
