/-! The law: store, copy. -/

set_option maxHeartbeats 4000000 in
set_option maxRecDepth 100000 in
/-- the law's branch: store -/
theorem lb_store {p : Program} {l : Launch} {e : Env} {s : State} {m : MethodId} {below : List Frame} {meth : Method} {c : Code} {sb L : Nat} {xs : Nat → Int32} {D : va_G} {tI tZ tA tJ : ClassId} (C : LC p l s m meth c sb L xs D tI tZ tA tJ) {Q : State → Prop} {b bt : Nat → Nat} {F S j i cells slots : Nat} {q : KS} {tw : Int32} {v : Nat → Int64} {H : Heap} {locs : List Loc} {ls : Array Slot} (hi : i + 5 ≤ L) (hcl : cells + 1 ≤ 668459) (hsl : slots + 6 ≤ 7090694) (hl : lv_has ls 7 (lwl sb b bt j i)) (hI : Inv F S q)
    (hP : va_P D vcl (LW tI tZ tA tJ b bt F S j v tw q) H) (hD : va_D (lA s) (LW tI tZ tA tJ b bt F S j v tw q)) (hS : va_S (lA s) s.heap H locs)
    (kk : ∀ (H : Heap) (locs : List Loc) (ls : Array Slot) (v : Nat → Int64) (tw : Int32) (q : KS), lv_has ls 7 (lwl sb b bt j i) → Inv F S q → va_P D vcl (LW tI tZ tA tJ b bt F S j v tw q) H → va_D (lA s) (LW tI tZ tA tJ b bt F S j v tw q) → va_S (lA s) s.heap H locs → W p l e room_1 s m #[Value.ref sb] below meth c H locs (cells + 1) (slots + 6) Q (F0 m 773 ls [])) :
    W p l e room_1 s m #[Value.ref sb] below meth c H locs cells slots Q (F0 m 439 ls []) := by
  obtain ⟨hx, hb, hr, hml, hown, hX, hbl, hlocks, hT, hz, ho, htr, hL⟩ := C
  have hA : ∀ a : Nat, s.heap.size ≤ a → lA s a := fun _ h => h
  have hpl := lA_plain (s := s)
  obtain ⟨g1, g2, hm, hI1⟩ := sim_store hI (xs (i + 1)) (xs (i + 2)) (xs (i + 3))
  have c1 := c_L_store l D tI tZ tA tJ htr b F S H.size q (xs (i + 1)) (xs (i + 2)) (xs (i + 3))
  have c2 := fun sz => c_T_store l D tI tZ tA tJ bt F S sz tw (cv q) (xs (i + 1)) (xs (i + 2)) (xs (i + 3))
  simp only [hm] at c2
  obtain ⟨⟨rt, rq⟩, hr0⟩ : ∃ r, kk_store F S q (xs (i + 1)) (xs (i + 2)) (xs (i + 3)) = r := ⟨_, rfl⟩
  simp only [hr0] at c1 c2 hI1
  have hP : va_P D vcl ((tW bt F S tI tZ tw (cv q) ++ lJ tJ j v) ++ xW b F S tI tZ tA q) H := hP
  have hD : va_D (lA s) ((tW bt F S tI tZ tw (cv q) ++ lJ tJ j v) ++ xW b F S tI tZ tA q) := hD
  refine lv_aload_n hx hb d_L_law_439 rfl (lv_at hl 1 rfl) ?_
  refine lw_rd (K := 1) hx hb hX hbl hL hS hi (by omega) (by decide +kernel) (lv_at hl 0 rfl) (lv_at hl 4 rfl) d_L_law_440 d_L_law_441 d_L_law_443 d_L_law_444 d_L_law_445 ?_
  refine lw_rd (K := 2) hx hb hX hbl hL hS hi (by omega) (by decide +kernel) (lv_at hl 0 rfl) (lv_at hl 4 rfl) d_L_law_446 d_L_law_447 d_L_law_449 d_L_law_450 d_L_law_451 ?_
  refine lw_rd (K := 3) hx hb hX hbl hL hS hi (by omega) (by decide +kernel) (lv_at hl 0 rfl) (lv_at hl 4 rfl) d_L_law_452 d_L_law_453 d_L_law_455 d_L_law_456 d_L_law_457 ?_
  refine ob_callW (v := some (.int rt)) (X := tW bt F S tI tZ tw (cv q) ++ lJ tJ j v) (M := xW b F S tI tZ tA q) (M' := xW b F S tI tZ tA rq) (ob_runS (n := 4) (As := [.ref (b 0), .int (xs (i + 1)), .int (xs (i + 2)), .int (xs (i + 3))]) (rest := []) c1 (hT.ok ob_cd_h (by decide +kernel) rfl rfl (Nat.le_of_ble_eq_true rfl) (Nat.le_of_ble_eq_true rfl) kn_L kc_L_store) hx hb hml hown (hT.w k_L_75) (hT.w ks_L_store) pT.blind (pT.at hT (hz.on hS hpl) g1 (ob_Pr hP) (ob_Dr hD)) rfl rfl hl.1 rfl (lv_room (Nat.le_of_ble_eq_true rfl)) d_L_law_458 ⟨hcl, hsl⟩) hP hD hS hA (fun H locs hP hD hS => ?_)
  refine W.eq (g2 := F0 m 461 ls [.int rt]) rfl ?_
  refine lv_istore (lv' := (5, .int rt) :: lwl sb b bt j i) hx hb d_L_law_461 hl (by decide) rfl (fun ls hl => ?_)
  have hP : va_P D vcl ((lJ tJ j v ++ xW b F S tI tZ tA rq) ++ tW bt F S tI tZ tw (cv q)) H := lw_sP (X := tW bt F S tI tZ tw (cv q)) (Y := lJ tJ j v ++ xW b F S tI tZ tA rq) hP
  have hD : va_D (lA s) ((lJ tJ j v ++ xW b F S tI tZ tA rq) ++ tW bt F S tI tZ tw (cv q)) := lw_sD (X := tW bt F S tI tZ tw (cv q)) (Y := lJ tJ j v ++ xW b F S tI tZ tA rq) hD
  refine lv_aload_n hx hb d_L_law_463 rfl (lv_at hl 3 rfl) ?_
  refine lw_rd (K := 1) hx hb hX hbl hL hS hi (by omega) (by decide +kernel) (lv_at hl 1 rfl) (lv_at hl 5 rfl) d_L_law_464 d_L_law_465 d_L_law_467 d_L_law_468 d_L_law_469 ?_
  refine lw_rd (K := 2) hx hb hX hbl hL hS hi (by omega) (by decide +kernel) (lv_at hl 1 rfl) (lv_at hl 5 rfl) d_L_law_470 d_L_law_471 d_L_law_473 d_L_law_474 d_L_law_475 ?_
  refine lw_rd (K := 3) hx hb hX hbl hL hS hi (by omega) (by decide +kernel) (lv_at hl 1 rfl) (lv_at hl 5 rfl) d_L_law_476 d_L_law_477 d_L_law_479 d_L_law_480 d_L_law_481 ?_
  refine ob_callW (v := none) (X := lJ tJ j v ++ xW b F S tI tZ tA rq) (M := tW bt F S tI tZ tw (cv q)) (M' := tW bt F S tI tZ rt (cv rq)) (ob_runV (n := 3) (As := [.int (xs (i + 1)), .int (xs (i + 2)), .int (xs (i + 3))]) (rest := []) (c2 H.size) (hT.ok ob_cd_c (by decide +kernel) rfl rfl (Nat.le_of_ble_eq_true rfl) (Nat.le_of_ble_eq_true rfl) kn_T kc_T_store) hx hb hml hown (hT.w k_L_78) (hT.w ki_T_store) (hT.w kv_T_store) (va_recv (q0 := 0) (ci := 2) hT.1 (ob_Pr hP) rfl rfl) pW.blind (pW.at hT g2 (ob_Pr hP) (ob_Dr hD)) rfl rfl hl.1 rfl (lv_room (Nat.le_of_ble_eq_true rfl)) d_L_law_482 ⟨hcl, hsl⟩) hP hD hS hA (fun H locs hP hD hS => ?_)
  refine W.eq (g2 := F0 m 485 ls []) rfl ?_
  refine lv_aload_n hx hb d_L_law_485 rfl (lv_at hl 3 rfl) ?_
  refine ob_callR (v := some (.int rt)) (ob_runV (n := 0) (As := []) (rest := []) (c_T_thrown l D tI tZ tA tJ bt F S rt (cv rq)) (hT.ok ob_cd_c (by decide +kernel) rfl rfl (Nat.le_of_ble_eq_true rfl) (Nat.le_of_ble_eq_true rfl) kn_T kc_T_thrown) hx hb hml hown (hT.w k_L_58) (hT.w ki_T_thrown) (hT.w kv_T_thrown) (va_recv (q0 := 0) (ci := 2) hT.1 (ob_Pr hP) rfl rfl) pR.blind (pR.at hT trivial (ob_Pr hP)) rfl rfl hl.1 rfl (lv_room (Nat.le_of_ble_eq_true rfl)) d_L_law_486 ⟨hcl, hsl⟩) ?_
  refine W.eq (g2 := F0 m 489 ls [.int rt]) rfl ?_
  refine lv_iload hx hb d_L_law_489 (lv_at hl 0 rfl) ?_
  refine lv_icmp_eq (tgt := 496) hx hb d_L_law_491 (by decide) (fun _ => ?_) (fun h => absurd rfl h)
  refine lv_goto (tgt := 773) hx hb d_L_law_496 (by decide) ?_
  exact kk H locs ls _ _ rq (lv_sub hl [1, 2, 3, 4, 5] rfl) hI1 (lw_sP hP) (lw_sD hD) hS

set_option maxHeartbeats 4000000 in
set_option maxRecDepth 100000 in
/-- the law's branch: copy -/
theorem lb_copy {p : Program} {l : Launch} {e : Env} {s : State} {m : MethodId} {below : List Frame} {meth : Method} {c : Code} {sb L : Nat} {xs : Nat → Int32} {D : va_G} {tI tZ tA tJ : ClassId} (C : LC p l s m meth c sb L xs D tI tZ tA tJ) {Q : State → Prop} {b bt : Nat → Nat} {F S j i cells slots : Nat} {q : KS} {tw : Int32} {v : Nat → Int64} {H : Heap} {locs : List Loc} {ls : Array Slot} (hi : i + 5 ≤ L) (hcl : cells + 1 ≤ 668459) (hsl : slots + 6 ≤ 7090694) (hl : lv_has ls 7 (lwl sb b bt j i)) (hI : Inv F S q)
    (hP : va_P D vcl (LW tI tZ tA tJ b bt F S j v tw q) H) (hD : va_D (lA s) (LW tI tZ tA tJ b bt F S j v tw q)) (hS : va_S (lA s) s.heap H locs)
    (kk : ∀ (H : Heap) (locs : List Loc) (ls : Array Slot) (v : Nat → Int64) (tw : Int32) (q : KS), lv_has ls 7 (lwl sb b bt j i) → Inv F S q → va_P D vcl (LW tI tZ tA tJ b bt F S j v tw q) H → va_D (lA s) (LW tI tZ tA tJ b bt F S j v tw q) → va_S (lA s) s.heap H locs → W p l e room_1 s m #[Value.ref sb] below meth c H locs (cells + 1) (slots + 6) Q (F0 m 773 ls [])) :
    W p l e room_1 s m #[Value.ref sb] below meth c H locs cells slots Q (F0 m 499 ls []) := by
  obtain ⟨hx, hb, hr, hml, hown, hX, hbl, hlocks, hT, hz, ho, htr, hL⟩ := C
  have hA : ∀ a : Nat, s.heap.size ≤ a → lA s a := fun _ h => h
  have hpl := lA_plain (s := s)
  obtain ⟨g1, g2, hm, hI1⟩ := sim_copy hI (xs (i + 1)) (xs (i + 2)) (xs (i + 3)) (xs (i + 4))
  have c1 := c_L_copy l D tI tZ tA tJ htr b F S H.size q (xs (i + 1)) (xs (i + 2)) (xs (i + 3)) (xs (i + 4))
  have c2 := fun sz => c_T_copy l D tI tZ tA tJ bt F S sz tw (cv q) (xs (i + 1)) (xs (i + 2)) (xs (i + 3)) (xs (i + 4))
  simp only [hm] at c2
  obtain ⟨⟨rt, rq⟩, hr0⟩ : ∃ r, kk_copy F S q (xs (i + 1)) (xs (i + 2)) (xs (i + 3)) (xs (i + 4)) = r := ⟨_, rfl⟩
  simp only [hr0] at c1 c2 hI1
  have hP : va_P D vcl ((tW bt F S tI tZ tw (cv q) ++ lJ tJ j v) ++ xW b F S tI tZ tA q) H := hP
  have hD : va_D (lA s) ((tW bt F S tI tZ tw (cv q) ++ lJ tJ j v) ++ xW b F S tI tZ tA q) := hD
  refine lv_aload_n hx hb d_L_law_499 rfl (lv_at hl 1 rfl) ?_
  refine lw_rd (K := 1) hx hb hX hbl hL hS hi (by omega) (by decide +kernel) (lv_at hl 0 rfl) (lv_at hl 4 rfl) d_L_law_500 d_L_law_501 d_L_law_503 d_L_law_504 d_L_law_505 ?_
  refine lw_rd (K := 2) hx hb hX hbl hL hS hi (by omega) (by decide +kernel) (lv_at hl 0 rfl) (lv_at hl 4 rfl) d_L_law_506 d_L_law_507 d_L_law_509 d_L_law_510 d_L_law_511 ?_
  refine lw_rd (K := 3) hx hb hX hbl hL hS hi (by omega) (by decide +kernel) (lv_at hl 0 rfl) (lv_at hl 4 rfl) d_L_law_512 d_L_law_513 d_L_law_515 d_L_law_516 d_L_law_517 ?_
  refine lw_rd (K := 4) hx hb hX hbl hL hS hi (by omega) (by decide +kernel) (lv_at hl 0 rfl) (lv_at hl 4 rfl) d_L_law_518 d_L_law_519 d_L_law_521 d_L_law_522 d_L_law_523 ?_
  refine ob_callW (v := some (.int rt)) (X := tW bt F S tI tZ tw (cv q) ++ lJ tJ j v) (M := xW b F S tI tZ tA q) (M' := xW b F S tI tZ tA rq) (ob_runS (n := 5) (As := [.ref (b 0), .int (xs (i + 1)), .int (xs (i + 2)), .int (xs (i + 3)), .int (xs (i + 4))]) (rest := []) c1 (hT.ok ob_cd_h (by decide +kernel) rfl rfl (Nat.le_of_ble_eq_true rfl) (Nat.le_of_ble_eq_true rfl) kn_L kc_L_copy) hx hb hml hown (hT.w k_L_79) (hT.w ks_L_copy) pT.blind (pT.at hT (hz.on hS hpl) g1 (ob_Pr hP) (ob_Dr hD)) rfl rfl hl.1 rfl (lv_room (Nat.le_of_ble_eq_true rfl)) d_L_law_524 ⟨hcl, hsl⟩) hP hD hS hA (fun H locs hP hD hS => ?_)
  refine W.eq (g2 := F0 m 527 ls [.int rt]) rfl ?_
  refine lv_istore (lv' := (5, .int rt) :: lwl sb b bt j i) hx hb d_L_law_527 hl (by decide) rfl (fun ls hl => ?_)
  have hP : va_P D vcl ((lJ tJ j v ++ xW b F S tI tZ tA rq) ++ tW bt F S tI tZ tw (cv q)) H := lw_sP (X := tW bt F S tI tZ tw (cv q)) (Y := lJ tJ j v ++ xW b F S tI tZ tA rq) hP
  have hD : va_D (lA s) ((lJ tJ j v ++ xW b F S tI tZ tA rq) ++ tW bt F S tI tZ tw (cv q)) := lw_sD (X := tW bt F S tI tZ tw (cv q)) (Y := lJ tJ j v ++ xW b F S tI tZ tA rq) hD
  refine lv_aload_n hx hb d_L_law_529 rfl (lv_at hl 3 rfl) ?_
  refine lw_rd (K := 1) hx hb hX hbl hL hS hi (by omega) (by decide +kernel) (lv_at hl 1 rfl) (lv_at hl 5 rfl) d_L_law_530 d_L_law_531 d_L_law_533 d_L_law_534 d_L_law_535 ?_
  refine lw_rd (K := 2) hx hb hX hbl hL hS hi (by omega) (by decide +kernel) (lv_at hl 1 rfl) (lv_at hl 5 rfl) d_L_law_536 d_L_law_537 d_L_law_539 d_L_law_540 d_L_law_541 ?_
  refine lw_rd (K := 3) hx hb hX hbl hL hS hi (by omega) (by decide +kernel) (lv_at hl 1 rfl) (lv_at hl 5 rfl) d_L_law_542 d_L_law_543 d_L_law_545 d_L_law_546 d_L_law_547 ?_
  refine lw_rd (K := 4) hx hb hX hbl hL hS hi (by omega) (by decide +kernel) (lv_at hl 1 rfl) (lv_at hl 5 rfl) d_L_law_548 d_L_law_549 d_L_law_551 d_L_law_552 d_L_law_553 ?_
  refine ob_callW (v := none) (X := lJ tJ j v ++ xW b F S tI tZ tA rq) (M := tW bt F S tI tZ tw (cv q)) (M' := tW bt F S tI tZ rt (cv rq)) (ob_runV (n := 4) (As := [.int (xs (i + 1)), .int (xs (i + 2)), .int (xs (i + 3)), .int (xs (i + 4))]) (rest := []) (c2 H.size) (hT.ok ob_cd_c (by decide +kernel) rfl rfl (Nat.le_of_ble_eq_true rfl) (Nat.le_of_ble_eq_true rfl) kn_T kc_T_copy) hx hb hml hown (hT.w k_L_82) (hT.w ki_T_copy) (hT.w kv_T_copy) (va_recv (q0 := 0) (ci := 2) hT.1 (ob_Pr hP) rfl rfl) pW.blind (pW.at hT g2 (ob_Pr hP) (ob_Dr hD)) rfl rfl hl.1 rfl (lv_room (Nat.le_of_ble_eq_true rfl)) d_L_law_554 ⟨hcl, hsl⟩) hP hD hS hA (fun H locs hP hD hS => ?_)
  refine W.eq (g2 := F0 m 557 ls []) rfl ?_
  refine lv_aload_n hx hb d_L_law_557 rfl (lv_at hl 3 rfl) ?_
  refine ob_callR (v := some (.int rt)) (ob_runV (n := 0) (As := []) (rest := []) (c_T_thrown l D tI tZ tA tJ bt F S rt (cv rq)) (hT.ok ob_cd_c (by decide +kernel) rfl rfl (Nat.le_of_ble_eq_true rfl) (Nat.le_of_ble_eq_true rfl) kn_T kc_T_thrown) hx hb hml hown (hT.w k_L_58) (hT.w ki_T_thrown) (hT.w kv_T_thrown) (va_recv (q0 := 0) (ci := 2) hT.1 (ob_Pr hP) rfl rfl) pR.blind (pR.at hT trivial (ob_Pr hP)) rfl rfl hl.1 rfl (lv_room (Nat.le_of_ble_eq_true rfl)) d_L_law_558 ⟨hcl, hsl⟩) ?_
  refine W.eq (g2 := F0 m 561 ls [.int rt]) rfl ?_
  refine lv_iload hx hb d_L_law_561 (lv_at hl 0 rfl) ?_
  refine lv_icmp_eq (tgt := 568) hx hb d_L_law_563 (by decide) (fun _ => ?_) (fun h => absurd rfl h)
  refine lv_goto (tgt := 773) hx hb d_L_law_568 (by decide) ?_
  exact kk H locs ls _ _ rq (lv_sub hl [1, 2, 3, 4, 5] rfl) hI1 (lw_sP hP) (lw_sD hD) hS
