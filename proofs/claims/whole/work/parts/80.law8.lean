/-! The law's loop. -/
theorem lw_more {L i : Nat} (hL : L ≤ 2562) (hi : i < 10000) (h : ¬ nI L - 5 < nI i) : i + 5 ≤ L := by
  by_cases h5 : 5 ≤ L
  · obtain ⟨m, rfl⟩ : ∃ m, L = m + 5 := ⟨L - 5, by omega⟩
    rw [← nI_add m 5, show nI 5 = 5 from rfl, Int32.add_sub_cancel] at h
    have := mt (nI_ltI (by omega) (by omega)).mpr h
    omega
  · exfalso
    apply h
    have : L = 0 ∨ L = 1 ∨ L = 2 ∨ L = 3 ∨ L = 4 := by omega
    have hneg : (nI L - 5).toInt < 0 := by rcases this with rfl | rfl | rfl | rfl | rfl <;> decide +kernel
    rw [Int32.lt_iff_toInt_lt, nI_toInt (by omega)]
    omega
section LOOP
variable {p : Program} {l : Launch} {e : Env} {s : State} {m : MethodId} {below : List Frame} {meth : Method} {c : Code} {sb L : Nat} {xs : Nat → Int32} {D : va_G} {tI tZ tA tJ : ClassId} {b bt : Nat → Nat} {F S j : Nat}
set_option maxHeartbeats 4000000 in
set_option maxRecDepth 100000 in
theorem lw_loop (C : LC p l s m meth c sb L xs D tI tZ tA tJ) : ∀ (n k : Nat), k + n = 513 → ∀ (H : Heap) (locs : List Loc) (ls : Array Slot) (v : Nat → Int64) (tw : Int32) (q : KS), lv_has ls 7 (lwl sb b bt j (2 + 5 * k)) → Inv F S q → va_P D vcl (LW tI tZ tA tJ b bt F S j v tw q) H → va_D (lA s) (LW tI tZ tA tJ b bt F S j v tw q) → va_S (lA s) s.heap H locs →
    W p l e room_1 s m #[Value.ref sb] below meth c H locs (43 + k) (417 + 6 * k) (lw_Z below #[Value.ref sb] s) (F0 m 43 ls []) := by
  intro n
  induction n with
  | zero =>
    intro k hk H locs ls v tw q hl hI hP hD hS
    obtain ⟨hx, hb, hr, hml, hown, hX, hbl, hlocks, hT, hz, ho, htr, hL⟩ := C
    refine lv_iload hx hb d_L_law_43 (lv_at hl 4 rfl) ?_
    refine lv_aload_n hx hb d_L_law_45 rfl (lv_at hl 0 rfl) ?_
    refine va_slen hx hb hX hbl (A := lA s) (Nat.not_le.mpr hbl) hS d_L_law_46 ?_
    refine lv_iconst (v := 5) hx hb d_L_law_47 (by decide) ?_
    refine lv_isub hx hb d_L_law_48 ?_
    refine lv_icmp_gt (tgt := 779) hx hb d_L_law_49 (by decide) (fun hc => ?_) (fun hc => ?_)
    · refine lv_iconst (v := 1) hx hb d_L_law_779 (by decide) ?_
      refine va_forget (fun q hq => hS.2.2 q hq) ?_
      refine W.widen (k := 668459) (n := 7090694) (by omega) (by omega) ?_
      exact lw_ret hx hb hr hlocks d_L_law_780
    · have := lw_more hL (by omega) hc
      omega
  | succ n ih =>
    intro k hk H locs ls v tw q hl hI hP hD hS
    have C0 := C
    obtain ⟨hx, hb, hr, hml, hown, hX, hbl, hlocks, hT, hz, ho, htr, hL⟩ := C
    refine lv_iload hx hb d_L_law_43 (lv_at hl 4 rfl) ?_
    refine lv_aload_n hx hb d_L_law_45 rfl (lv_at hl 0 rfl) ?_
    refine va_slen hx hb hX hbl (A := lA s) (Nat.not_le.mpr hbl) hS d_L_law_46 ?_
    refine lv_iconst (v := 5) hx hb d_L_law_47 (by decide) ?_
    refine lv_isub hx hb d_L_law_48 ?_
    refine lv_icmp_gt (tgt := 779) hx hb d_L_law_49 (by decide) (fun hc => ?_) (fun hc => ?_)
    · refine lv_iconst (v := 1) hx hb d_L_law_779 (by decide) ?_
      refine va_forget (fun q hq => hS.2.2 q hq) ?_
      refine W.widen (k := 668459) (n := 7090694) (by omega) (by omega) ?_
      exact lw_ret hx hb hr hlocks d_L_law_780
    · have hi : 2 + 5 * k + 5 ≤ L := lw_more hL (by omega) hc
      have kk : ∀ (H : Heap) (locs : List Loc) (ls : Array Slot) (v : Nat → Int64) (tw : Int32) (q : KS), lv_has ls 7 (lwl sb b bt j (2 + 5 * k)) → Inv F S q → va_P D vcl (LW tI tZ tA tJ b bt F S j v tw q) H → va_D (lA s) (LW tI tZ tA tJ b bt F S j v tw q) → va_S (lA s) s.heap H locs →
          W p l e room_1 s m #[Value.ref sb] below meth c H locs (43 + k + 1) (417 + 6 * k + 6) (lw_Z below #[Value.ref sb] s) (F0 m 773 ls []) := by
        intro H locs ls v tw q hl hI hP hD hS
        refine lv_iinc (k := 4) (x := nI (2 + 5 * k)) (v := nI (2 + 5 * (k + 1))) (lv' := (4, .int (nI (2 + 5 * (k + 1)))) :: [(0, .ref sb), (1, .ref (b 0)), (2, .ref (bt 0)), (3, .ref j)]) hx hb d_L_law_773 hl rfl (by rw [show 2 + 5 * (k + 1) = 2 + 5 * k + 5 by omega, ← nI_add (2 + 5 * k) 5]; rfl) (by decide) rfl (fun ls hl => ?_)
        refine lv_goto (tgt := 43) hx hb d_L_law_776 (by decide) ?_
        refine W.widen (k := 43 + (k + 1)) (n := 417 + 6 * (k + 1)) (by omega) (by omega) ?_
        exact ih (k + 1) (by omega) H locs ls v tw q (lv_sub hl [1, 2, 3, 4, 0] rfl) hI hP hD hS
      refine lv_aload_n hx hb d_L_law_52 rfl (lv_at hl 0 rfl) ?_
      refine lv_iload hx hb d_L_law_53 (lv_at hl 4 rfl) ?_
      refine va_sld hx hb hX hbl (A := lA s) (Nat.not_le.mpr hbl) hS (vp_in_nI (by omega) (by omega)) d_L_law_55 ?_
      refine lv_bipush (v := 31) hx hb d_L_law_56 (by decide) ?_
      refine lv_iand hx hb d_L_law_58 ?_
      generalize xs (nI (2 + 5 * k)).toNatClampNeg &&& 31 = op
      have h1 : 43 + k + 1 ≤ 668459 := by omega
      have h2 : 417 + 6 * k + 6 ≤ 7090694 := by omega
      by_cases hop : op.toInt < 0 ∨ 16 < op.toInt
      · refine lv_tableOut (tgt := 773) hx hb d_L_law_59 hop (by decide) ?_
        refine W.widen (k := 43 + k + 1) (n := 417 + 6 * k + 6) (by omega) (by omega) ?_
        exact kk H locs ls v tw q hl hI hP hD hS
      · have ho0 : op.toInt = 0 ∨ op.toInt = 1 ∨ op.toInt = 2 ∨ op.toInt = 3 ∨ op.toInt = 4 ∨ op.toInt = 5 ∨ op.toInt = 6 ∨ op.toInt = 7 ∨ op.toInt = 8 ∨ op.toInt = 9 ∨ op.toInt = 10 ∨ op.toInt = 11 ∨ op.toInt = 12 ∨ op.toInt = 13 ∨ op.toInt = 14 ∨ op.toInt = 15 ∨ op.toInt = 16 := by omega
        rcases ho0 with h | h | h | h | h | h | h | h | h | h | h | h | h | h | h | h | h
        · exact lv_tableIn (tgt := 140) hx hb d_L_law_59 (by omega) (by omega) (by rw [h]; rfl) (by decide) (lb_spawn C0 hi h1 h2 hl hI hP hD hS kk)
        · exact lv_tableIn (tgt := 184) hx hb d_L_law_59 (by omega) (by omega) (by rw [h]; rfl) (by decide) (lb_fork C0 hi h1 h2 hl hI hP hD hS kk)
        · exact lv_tableIn (tgt := 240) hx hb d_L_law_59 (by omega) (by omega) (by rw [h]; rfl) (by decide) (lb_exit C0 hi h1 h2 hl hI hP hD hS kk)
        · exact lv_tableIn (tgt := 296) hx hb d_L_law_59 (by omega) (by omega) (by rw [h]; rfl) (by decide) (lb_drop C0 hi h1 h2 hl hI hP hD hS kk)
        · exact lv_tableIn (tgt := 371) hx hb d_L_law_59 (by omega) (by omega) (by rw [h]; rfl) (by decide) (lb_load C0 hi h1 h2 hl hI hP hD hS kk)
        · exact lv_tableIn (tgt := 439) hx hb d_L_law_59 (by omega) (by omega) (by rw [h]; rfl) (by decide) (lb_store C0 hi h1 h2 hl hI hP hD hS kk)
        · exact lv_tableIn (tgt := 499) hx hb d_L_law_59 (by omega) (by omega) (by rw [h]; rfl) (by decide) (lb_copy C0 hi h1 h2 hl hI hP hD hS kk)
        · exact lv_tableIn (tgt := 571) hx hb d_L_law_59 (by omega) (by omega) (by rw [h]; rfl) (by decide) (lb_copied C0 hi h1 h2 hl hI hP hD hS kk)
        · exact lv_tableIn (tgt := 584) hx hb d_L_law_59 (by omega) (by omega) (by rw [h]; rfl) (by decide) (lb_where C0 hi h1 h2 hl hI hP hD hS kk)
        · exact lv_tableIn (tgt := 621) hx hb d_L_law_59 (by omega) (by omega) (by rw [h]; rfl) (by decide) (lb_sharers C0 hi h1 h2 hl hI hP hD hS kk)
        · exact lv_tableIn (tgt := 658) hx hb d_L_law_59 (by omega) (by omega) (by rw [h]; rfl) (by decide) (lb_isThere C0 hi h1 h2 hl hI hP hD hS kk)
        · exact lv_tableIn (tgt := 683) hx hb d_L_law_59 (by omega) (by omega) (by rw [h]; rfl) (by decide) (lb_marked C0 hi h1 h2 hl hI hP hD hS kk)
        · exact lv_tableIn (tgt := 708) hx hb d_L_law_59 (by omega) (by omega) (by rw [h]; rfl) (by decide) (lb_hand C0 hi h1 h2 hl hI hP hD hS kk)
        · exact lv_tableIn (tgt := 721) hx hb d_L_law_59 (by omega) (by omega) (by rw [h]; rfl) (by decide) (lb_freeFrames C0 hi h1 h2 hl hI hP hD hS kk)
        · exact lv_tableIn (tgt := 734) hx hb d_L_law_59 (by omega) (by omega) (by rw [h]; rfl) (by decide) (lb_freeSlots C0 hi h1 h2 hl hI hP hD hS kk)
        · exact lv_tableIn (tgt := 747) hx hb d_L_law_59 (by omega) (by omega) (by rw [h]; rfl) (by decide) (lb_faults C0 hi h1 h2 hl hI hP hD hS kk)
        · exact lv_tableIn (tgt := 760) hx hb d_L_law_59 (by omega) (by omega) (by rw [h]; rfl) (by decide) (lb_evicted C0 hi h1 h2 hl hI hP hD hS kk)
end LOOP
/-! The law's start. -/
set_option maxHeartbeats 4000000 in
set_option maxRecDepth 100000 in
theorem lw_go {p : Program} {l : Launch} {e : Env} {s : State} {m : MethodId} {below : List Frame} {meth : Method} {c : Code} {sb L : Nat} {xs : Nat → Int32} {D : va_G} {tI tZ tA tJ : ClassId} (C : LC p l s m meth c sb L xs D tI tZ tA tJ) : W p l e room_1 s m #[Value.ref sb] below meth c s.heap [] 0 0 (lw_Z below #[Value.ref sb] s) (entryFrame m ([Value.ref sb] : List Value).toArray 7) := by
  have C0 := C
  obtain ⟨hx, hb, hr, hml, hown, hX, hbl, hlocks, hT, hz, ho, htr, hL⟩ := C
  have hA : ∀ a : Nat, s.heap.size ≤ a → lA s a := fun _ h => h
  have hl := lv_entry ([.ref sb]) (n := 7) (Nat.le_of_ble_eq_true rfl)
  rw [lg_entry_eq]
  generalize (lg_sl ([.ref sb]) ++ List.replicate (7 - (lg_sl ([.ref sb])).length) Slot.unset).toArray = ls at hl ⊢
  have hl : lv_has ls 7 [(0, .ref sb)] := hl
  have hP : va_P D vcl [] s.heap := fun k q h => nomatch h
  have hD : va_D (lA s) [] := ⟨fun i j x y h => (nomatch h), fun k q h => (nomatch h)⟩
  have hS : va_S (lA s) s.heap s.heap [] := va_S.rf
  have hXo : ∀ {H : Heap} {locs : List Loc}, va_S (lA s) s.heap H locs → va_X sb L xs s H := fun h => hX.kept (h.2.1 sb hbl (Nat.not_le.mpr hbl))
  refine va_new (fs := [.null, .null, .null, .int 0]) (ci := 0) hx hb hT.lays ly_X ty_X ty_X_ok hown (hT.w k_L_8) (hT.w kt_X) (hT.w kn_X) hT.1 hP hD hS hA rfl (by decide) (Nat.le_of_ble_eq_true rfl) (Nat.le_of_ble_eq_true rfl) d_L_law_0 (fun r0 H hP hD hS => ?_)
  have hP : va_P D vcl ([] ++ [(r0, .inr (0, [.null, .null, .null, .int 0]))]) H := hP
  have hD : va_D (lA s) ([] ++ [(r0, .inr (0, [.null, .null, .null, .int 0]))]) := hD
  refine lv_dup hx hb d_L_law_3 rfl ?_
  refine lv_aload_n hx hb d_L_law_4 rfl (lv_at hl 0 rfl) ?_
  refine lv_iconst (v := nI 0) hx hb d_L_law_5 (by decide +kernel) ?_
  refine ob_callR (v := some (.int (lw_w L xs 0))) (ob_runS (n := 2) (As := [.ref sb, .int (nI 0)]) (rest := [.ref r0, .ref r0]) (c_L_cell l sb L xs 0 (by omega) (by omega)) (hT.ok ob_cd_c (by decide +kernel) rfl rfl (Nat.le_of_ble_eq_true rfl) (Nat.le_of_ble_eq_true rfl) kn_L kc_L_cell) hx hb hml hown (hT.w k_L_42) (hT.w ks_L_cell) pC.blind (pC.at (hXo hS)) rfl rfl hl.1 rfl (lv_room (Nat.le_of_ble_eq_true rfl)) d_L_law_6 ⟨Nat.le_of_ble_eq_true rfl, Nat.le_of_ble_eq_true rfl⟩) ?_
  refine W.eq (g2 := F0 m 9 ls [.int (lw_w L xs 0), .ref r0, .ref r0]) rfl ?_
  refine lv_aload_n hx hb d_L_law_9 rfl (lv_at hl 0 rfl) ?_
  refine lv_iconst (v := nI 1) hx hb d_L_law_10 (by decide +kernel) ?_
  refine ob_callR (v := some (.int (lw_w L xs 1))) (ob_runS (n := 2) (As := [.ref sb, .int (nI 1)]) (rest := [.int (lw_w L xs 0), .ref r0, .ref r0]) (c_L_cell l sb L xs 1 (by omega) (by omega)) (hT.ok ob_cd_c (by decide +kernel) rfl rfl (Nat.le_of_ble_eq_true rfl) (Nat.le_of_ble_eq_true rfl) kn_L kc_L_cell) hx hb hml hown (hT.w k_L_42) (hT.w ks_L_cell) pC.blind (pC.at (hXo hS)) rfl rfl hl.1 rfl (lv_room (Nat.le_of_ble_eq_true rfl)) d_L_law_11 ⟨Nat.le_of_ble_eq_true rfl, Nat.le_of_ble_eq_true rfl⟩) ?_
  refine W.eq (g2 := F0 m 14 ls [.int (lw_w L xs 1), .int (lw_w L xs 0), .ref r0, .ref r0]) rfl ?_
  refine ob_callE (X := []) (M := [(r0, .inr (0, [.null, .null, .null, .int 0]))]) (ob_runI (n := 2) (As := [.int (lw_w L xs 0), .int (lw_w L xs 1)]) (rest := [.ref r0]) (c_X_init l D tI tZ tA tJ r0 H.size (lw_w L xs 0) (lw_w L xs 1)) (hT.ok ob_cd_c (by decide +kernel) rfl rfl (Nat.le_of_ble_eq_true rfl) (Nat.le_of_ble_eq_true rfl) kn_X kc_X_init) rfl hx hb hml hown rfl (hT.w k_L_48) (hT.w ki_X_init) pN.blind (pN.at hT ho trivial (ob_Pr hP) (ob_Dr hD)) rfl rfl hl.1 rfl (lv_room (Nat.le_of_ble_eq_true rfl)) d_L_law_14 ⟨Nat.le_of_ble_eq_true rfl, Nat.le_of_ble_eq_true rfl⟩) hP hD hS hA (fun z H locs hP hD hS => ?_)
  obtain ⟨b, hb0⟩ := z
  subst hb0
  have hP : va_P D vcl (xW b (cF (lw_w L xs 0)) (cS (lw_w L xs 1)) tI tZ tA ks_0) H := hP
  have hD : va_D (lA s) (xW b (cF (lw_w L xs 0)) (cS (lw_w L xs 1)) tI tZ tA ks_0) := hD
  refine W.eq (g2 := F0 m 17 ls [.ref (b 0)]) rfl ?_
  refine lv_astore_n (lv' := [(1, .ref (b 0)), (0, .ref sb)]) hx hb d_L_law_17 rfl hl (by decide) rfl (fun ls hl => ?_)
  refine va_new (fs := [.int 0, .int 0, .int 0, .null, .int 0, .null, .null, .null, .null, .int 0, .int 0, .int 0]) (ci := 2) hx hb hT.lays ly_T ty_T ty_T_ok hown (hT.w k_L_51) (hT.w kt_T) (hT.w kn_T) hT.1 hP hD hS hA rfl (by decide) (Nat.le_of_ble_eq_true rfl) (Nat.le_of_ble_eq_true rfl) d_L_law_18 (fun r2 H hP hD hS => ?_)
  refine lv_dup hx hb d_L_law_21 rfl ?_
  refine lv_aload_n hx hb d_L_law_22 rfl (lv_at hl 1 rfl) ?_
  refine lv_iconst (v := nI 0) hx hb d_L_law_23 (by decide +kernel) ?_
  refine ob_callR (v := some (.int (lw_w L xs 0))) (ob_runS (n := 2) (As := [.ref sb, .int (nI 0)]) (rest := [.ref r2, .ref r2]) (c_L_cell l sb L xs 0 (by omega) (by omega)) (hT.ok ob_cd_c (by decide +kernel) rfl rfl (Nat.le_of_ble_eq_true rfl) (Nat.le_of_ble_eq_true rfl) kn_L kc_L_cell) hx hb hml hown (hT.w k_L_42) (hT.w ks_L_cell) pC.blind (pC.at (hXo hS)) rfl rfl hl.1 rfl (lv_room (Nat.le_of_ble_eq_true rfl)) d_L_law_24 ⟨Nat.le_of_ble_eq_true rfl, Nat.le_of_ble_eq_true rfl⟩) ?_
  refine W.eq (g2 := F0 m 27 ls [.int (lw_w L xs 0), .ref r2, .ref r2]) rfl ?_
  refine lv_aload_n hx hb d_L_law_27 rfl (lv_at hl 1 rfl) ?_
  refine lv_iconst (v := nI 1) hx hb d_L_law_28 (by decide +kernel) ?_
  refine ob_callR (v := some (.int (lw_w L xs 1))) (ob_runS (n := 2) (As := [.ref sb, .int (nI 1)]) (rest := [.int (lw_w L xs 0), .ref r2, .ref r2]) (c_L_cell l sb L xs 1 (by omega) (by omega)) (hT.ok ob_cd_c (by decide +kernel) rfl rfl (Nat.le_of_ble_eq_true rfl) (Nat.le_of_ble_eq_true rfl) kn_L kc_L_cell) hx hb hml hown (hT.w k_L_42) (hT.w ks_L_cell) pC.blind (pC.at (hXo hS)) rfl rfl hl.1 rfl (lv_room (Nat.le_of_ble_eq_true rfl)) d_L_law_29 ⟨Nat.le_of_ble_eq_true rfl, Nat.le_of_ble_eq_true rfl⟩) ?_
  refine W.eq (g2 := F0 m 32 ls [.int (lw_w L xs 1), .int (lw_w L xs 0), .ref r2, .ref r2]) rfl ?_
  refine ob_callE (X := xW b (cF (lw_w L xs 0)) (cS (lw_w L xs 1)) tI tZ tA ks_0) (M := [(r2, .inr (2, [.int 0, .int 0, .int 0, .null, .int 0, .null, .null, .null, .null, .int 0, .int 0, .int 0]))]) (ob_runI (n := 2) (As := [.int (lw_w L xs 0), .int (lw_w L xs 1)]) (rest := [.ref r2]) (c_T_init l D tI tZ tA tJ r2 H.size (lw_w L xs 0) (lw_w L xs 1)) (hT.ok ob_cd_c (by decide +kernel) rfl rfl (Nat.le_of_ble_eq_true rfl) (Nat.le_of_ble_eq_true rfl) kn_T kc_T_init) rfl hx hb hml hown rfl (hT.w k_L_53) (hT.w ki_T_init) pW.blind (pW.at hT trivial (ob_Pr hP) (ob_Dr hD)) rfl rfl hl.1 rfl (lv_room (Nat.le_of_ble_eq_true rfl)) d_L_law_32 ⟨Nat.le_of_ble_eq_true rfl, Nat.le_of_ble_eq_true rfl⟩) hP hD hS hA (fun z H locs hP hD hS => ?_)
  obtain ⟨bt, hbt0⟩ := z
  subst hbt0
  have hP : va_P D vcl (xW b (cF (lw_w L xs 0)) (cS (lw_w L xs 1)) tI tZ tA ks_0 ++ tW bt (cF (lw_w L xs 0)) (cS (lw_w L xs 1)) tI tZ 0 sg_0) H := hP
  have hD : va_D (lA s) (xW b (cF (lw_w L xs 0)) (cS (lw_w L xs 1)) tI tZ tA ks_0 ++ tW bt (cF (lw_w L xs 0)) (cS (lw_w L xs 1)) tI tZ 0 sg_0) := hD
  refine W.eq (g2 := F0 m 35 ls [.ref (bt 0)]) rfl ?_
  refine lv_astore_n (lv' := [(2, .ref (bt 0)), (1, .ref (b 0)), (0, .ref sb)]) hx hb d_L_law_35 rfl hl (by decide) rfl (fun ls hl => ?_)
  refine lv_iconst (v := 1) hx hb d_L_law_36 (by decide) ?_
  refine ob_newa (N := 1) (ty := .long) (a0 := (1, .inr (.inl (fun _ => 0)))) hx hb (hT.w ka_long) rfl hT.1 3 rfl (fun _ h => h) hP hD hS hA (fun _ => rfl) rfl (by omega) (by show _ * 8 ≤ _; omega) (Nat.le_of_ble_eq_true rfl) (Nat.le_of_ble_eq_true rfl) d_L_law_37 (fun j H hP hD hS => ?_)
  have hP : va_P D vcl ((xW b (cF (lw_w L xs 0)) (cS (lw_w L xs 1)) tI tZ tA ks_0 ++ tW bt (cF (lw_w L xs 0)) (cS (lw_w L xs 1)) tI tZ 0 sg_0) ++ lJ tJ j (fun _ => 0)) H := hP
  have hD : va_D (lA s) ((xW b (cF (lw_w L xs 0)) (cS (lw_w L xs 1)) tI tZ tA ks_0 ++ tW bt (cF (lw_w L xs 0)) (cS (lw_w L xs 1)) tI tZ 0 sg_0) ++ lJ tJ j (fun _ => 0)) := hD
  have hP : va_P D vcl (LW tI tZ tA tJ b bt (cF (lw_w L xs 0)) (cS (lw_w L xs 1)) j (fun _ => 0) 0 ks_0) H := by
    have h := lw_sP (X := xW b (cF (lw_w L xs 0)) (cS (lw_w L xs 1)) tI tZ tA ks_0) (Y := tW bt (cF (lw_w L xs 0)) (cS (lw_w L xs 1)) tI tZ 0 sg_0 ++ lJ tJ j (fun _ => 0)) (by rw [← List.append_assoc]; exact hP)
    rw [List.append_assoc] at h
    exact h
  have hD : va_D (lA s) (LW tI tZ tA tJ b bt (cF (lw_w L xs 0)) (cS (lw_w L xs 1)) j (fun _ => 0) 0 ks_0) := by
    have h := lw_sD (X := xW b (cF (lw_w L xs 0)) (cS (lw_w L xs 1)) tI tZ tA ks_0) (Y := tW bt (cF (lw_w L xs 0)) (cS (lw_w L xs 1)) tI tZ 0 sg_0 ++ lJ tJ j (fun _ => 0)) (by rw [← List.append_assoc]; exact hD)
    rw [List.append_assoc] at h
    exact h
  refine lv_astore_n (lv' := [(3, .ref j), (2, .ref (bt 0)), (1, .ref (b 0)), (0, .ref sb)]) hx hb d_L_law_39 rfl hl (by decide) rfl (fun ls hl => ?_)
  refine lv_iconst (v := nI 2) hx hb d_L_law_40 (by decide +kernel) ?_
  refine lv_istore (lv' := [(4, .int (nI 2)), (3, .ref j), (2, .ref (bt 0)), (1, .ref (b 0)), (0, .ref sb)]) hx hb d_L_law_41 hl (by decide) rfl (fun ls hl => ?_)
  refine W.widen (k := 43 + 0) (n := 417 + 6 * 0) (Nat.le_of_ble_eq_true rfl) (Nat.le_of_ble_eq_true rfl) ?_
  exact lw_loop C0 513 0 rfl H _ ls (fun _ => 0) 0 ks_0 (lv_sub hl [4, 3, 2, 1, 0] rfl) (sim_0 (cF_le _).1 (cF_le _).2 (cS_le _)) hP hD hS
