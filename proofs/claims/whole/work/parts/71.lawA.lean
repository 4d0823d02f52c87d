/-! The law: the five calls that answer, and may throw. -/
theorem lw_cmp0 (x : Int64) : lg_cmp x x = 0 := by simp [lg_cmp]

set_option maxHeartbeats 4000000 in
set_option maxRecDepth 100000 in
/-- the law's branch: spawn -/
theorem lb_spawn {p : Program} {l : Launch} {e : Env} {s : State} {m : MethodId} {below : List Frame} {meth : Method} {c : Code} {sb L : Nat} {xs : Nat → Int32} {D : va_G} {tI tZ tA tJ : ClassId} (C : LC p l s m meth c sb L xs D tI tZ tA tJ) {Q : State → Prop} {b bt : Nat → Nat} {F S j i cells slots : Nat} {q : KS} {tw : Int32} {v : Nat → Int64} {H : Heap} {locs : List Loc} {ls : Array Slot} (hi : i + 5 ≤ L) (hcl : cells + 1 ≤ 668459) (hsl : slots + 6 ≤ 7090694) (hl : lv_has ls 7 (lwl sb b bt j i)) (hI : Inv F S q)
    (hP : va_P D vcl (LW tI tZ tA tJ b bt F S j v tw q) H) (hD : va_D (lA s) (LW tI tZ tA tJ b bt F S j v tw q)) (hS : va_S (lA s) s.heap H locs)
    (kk : ∀ (H : Heap) (locs : List Loc) (ls : Array Slot) (v : Nat → Int64) (tw : Int32) (q : KS), lv_has ls 7 (lwl sb b bt j i) → Inv F S q → va_P D vcl (LW tI tZ tA tJ b bt F S j v tw q) H → va_D (lA s) (LW tI tZ tA tJ b bt F S j v tw q) → va_S (lA s) s.heap H locs → W p l e room_1 s m #[Value.ref sb] below meth c H locs (cells + 1) (slots + 6) Q (F0 m 773 ls [])) :
    W p l e room_1 s m #[Value.ref sb] below meth c H locs cells slots Q (F0 m 140 ls []) := by
  obtain ⟨hx, hb, hr, hml, hown, hX, hbl, hlocks, hT, hz, ho, htr, hL⟩ := C
  have hA : ∀ a : Nat, s.heap.size ≤ a → lA s a := fun _ h => h
  have hpl := lA_plain (s := s)
  obtain ⟨hm, hI1⟩ := sim_spawn hI
  have c1 := c_L_spawn l D tI tZ tA tJ htr b F S H.size q j v
  have c2 := fun sz => c_T_spawn l D tI tZ tA tJ bt F S sz tw (cv q)
  simp only [hm] at c2
  obtain ⟨⟨ra, rt, rq⟩, hr0⟩ : ∃ r, kk_spawn q = r := ⟨_, rfl⟩
  simp only [hr0] at c1 c2 hI1
  refine lv_aload_n hx hb d_L_law_140 rfl (lv_at hl 1 rfl) ?_
  refine lv_aload_n hx hb d_L_law_141 rfl (lv_at hl 3 rfl) ?_
  refine ob_callW (v := some (.int rt)) (X := tW bt F S tI tZ tw (cv q)) (M := lJ tJ j v ++ xW b F S tI tZ tA q) (M' := lJ tJ j (k_ans rt v ra.toInt64) ++ xW b F S tI tZ tA rq) (ob_runS (n := 2) (As := [.ref (b 0), .ref j]) (rest := []) c1 (hT.ok ob_cd_h (by decide +kernel) rfl rfl (Nat.le_of_ble_eq_true rfl) (Nat.le_of_ble_eq_true rfl) kn_L kc_L_spawn) hx hb hml hown (hT.w k_L_54) (hT.w ks_L_spawn) pT.blind (pT.at hT (hz.on hS hpl) trivial (ob_Pr hP) (ob_Dr hD)) rfl rfl hl.1 rfl (lv_room (Nat.le_of_ble_eq_true rfl)) d_L_law_142 ⟨hcl, hsl⟩) hP hD hS hA (fun H locs hP hD hS => ?_)
  refine W.eq (g2 := F0 m 145 ls [.int rt]) rfl ?_
  refine lv_istore (lv' := (5, .int rt) :: lwl sb b bt j i) hx hb d_L_law_145 hl (by decide) rfl (fun ls hl => ?_)
  have hP := lw_sP hP
  have hD := lw_sD hD
  refine lv_aload_n hx hb d_L_law_147 rfl (lv_at hl 3 rfl) ?_
  refine ob_callW (v := some (.int ra)) (X := lJ tJ j (k_ans rt v ra.toInt64) ++ xW b F S tI tZ tA rq) (M := tW bt F S tI tZ tw (cv q)) (M' := tW bt F S tI tZ rt (cv rq)) (ob_runV (n := 0) (As := []) (rest := []) (c2 H.size) (hT.ok ob_cd_c (by decide +kernel) rfl rfl (Nat.le_of_ble_eq_true rfl) (Nat.le_of_ble_eq_true rfl) kn_T kc_T_spawn) hx hb hml hown (hT.w k_L_57) (hT.w ki_T_spawn) (hT.w kv_T_spawn) (va_recv (q0 := 0) (ci := 2) hT.1 (ob_Pr hP) rfl rfl) pW.blind (pW.at hT trivial (ob_Pr hP) (ob_Dr hD)) rfl rfl hl.1 rfl (lv_room (Nat.le_of_ble_eq_true rfl)) d_L_law_148 ⟨hcl, hsl⟩) hP hD hS hA (fun H locs hP hD hS => ?_)
  refine W.eq (g2 := F0 m 151 ls [.int ra]) rfl ?_
  refine lv_istore (lv' := (6, .int ra) :: (5, .int rt) :: lwl sb b bt j i) hx hb d_L_law_151 hl (by decide) rfl (fun ls hl => ?_)
  refine lv_aload_n hx hb d_L_law_153 rfl (lv_at hl 4 rfl) ?_
  refine ob_callR (v := some (.int rt)) (ob_runV (n := 0) (As := []) (rest := []) (c_T_thrown l D tI tZ tA tJ bt F S rt (cv rq)) (hT.ok ob_cd_c (by decide +kernel) rfl rfl (Nat.le_of_ble_eq_true rfl) (Nat.le_of_ble_eq_true rfl) kn_T kc_T_thrown) hx hb hml hown (hT.w k_L_58) (hT.w ki_T_thrown) (hT.w kv_T_thrown) (va_recv (q0 := 0) (ci := 2) hT.1 (ob_Pr hP) rfl rfl) pR.blind (pR.at hT trivial (ob_Pr hP)) rfl rfl hl.1 rfl (lv_room (Nat.le_of_ble_eq_true rfl)) d_L_law_154 ⟨hcl, hsl⟩) ?_
  refine W.eq (g2 := F0 m 157 ls [.int rt]) rfl ?_
  refine lv_iload hx hb d_L_law_157 (lv_at hl 1 rfl) ?_
  refine lv_icmp_eq (tgt := 164) hx hb d_L_law_159 (by decide) (fun _ => ?_) (fun h => absurd rfl h)
  refine lv_iload hx hb d_L_law_164 (lv_at hl 1 rfl) ?_
  have hP2 := lw_sP hP
  have hD2 := lw_sD hD
  refine lv_if_ne (tgt := 181) hx hb d_L_law_166 (by decide) (fun hc => ?_) (fun hc => ?_)
  · refine lv_goto (tgt := 773) hx hb d_L_law_181 (by decide) ?_
    exact kk H locs ls _ _ rq (lv_sub hl [2, 3, 4, 5, 6] rfl) hI1 hP2 hD2 hS
  · subst hc
    refine lv_aload_n hx hb d_L_law_169 rfl (lv_at hl 5 rfl) ?_
    refine lv_iconst (v := 0) hx hb d_L_law_170 (by decide) ?_
    refine va_lald hx hb hT.1 hP 0 3 rfl rfl (vp_in_nI (n := 0) (N := 1) (by omega) (by omega)) d_L_law_171 ?_
    have ev : k_ans 0 v ra.toInt64 (Int32.toNatClampNeg 0) = ra.toInt64 := rfl
    rw [ev]
    refine lv_iload hx hb d_L_law_172 (lv_at hl 0 rfl) ?_
    refine lv_i2l hx hb d_L_law_174 rfl ?_
    refine W.lcmp hx hb d_L_law_175 ?_
    refine lv_if_eq (tgt := 181) hx hb d_L_law_176 (by decide) (fun _ => ?_) (fun h => absurd (lw_cmp0 _) h)
    refine lv_goto (tgt := 773) hx hb d_L_law_181 (by decide) ?_
    exact kk H locs ls _ _ rq (lv_sub hl [2, 3, 4, 5, 6] rfl) hI1 hP2 hD2 hS

set_option maxHeartbeats 4000000 in
set_option maxRecDepth 100000 in
/-- the law's branch: fork -/
theorem lb_fork {p : Program} {l : Launch} {e : Env} {s : State} {m : MethodId} {below : List Frame} {meth : Method} {c : Code} {sb L : Nat} {xs : Nat → Int32} {D : va_G} {tI tZ tA tJ : ClassId} (C : LC p l s m meth c sb L xs D tI tZ tA tJ) {Q : State → Prop} {b bt : Nat → Nat} {F S j i cells slots : Nat} {q : KS} {tw : Int32} {v : Nat → Int64} {H : Heap} {locs : List Loc} {ls : Array Slot} (hi : i + 5 ≤ L) (hcl : cells + 1 ≤ 668459) (hsl : slots + 6 ≤ 7090694) (hl : lv_has ls 7 (lwl sb b bt j i)) (hI : Inv F S q)
    (hP : va_P D vcl (LW tI tZ tA tJ b bt F S j v tw q) H) (hD : va_D (lA s) (LW tI tZ tA tJ b bt F S j v tw q)) (hS : va_S (lA s) s.heap H locs)
    (kk : ∀ (H : Heap) (locs : List Loc) (ls : Array Slot) (v : Nat → Int64) (tw : Int32) (q : KS), lv_has ls 7 (lwl sb b bt j i) → Inv F S q → va_P D vcl (LW tI tZ tA tJ b bt F S j v tw q) H → va_D (lA s) (LW tI tZ tA tJ b bt F S j v tw q) → va_S (lA s) s.heap H locs → W p l e room_1 s m #[Value.ref sb] below meth c H locs (cells + 1) (slots + 6) Q (F0 m 773 ls [])) :
    W p l e room_1 s m #[Value.ref sb] below meth c H locs cells slots Q (F0 m 184 ls []) := by
  obtain ⟨hx, hb, hr, hml, hown, hX, hbl, hlocks, hT, hz, ho, htr, hL⟩ := C
  have hA : ∀ a : Nat, s.heap.size ≤ a → lA s a := fun _ h => h
  have hpl := lA_plain (s := s)
  obtain ⟨g1, hm, hI1⟩ := sim_fork hI (xs (i + 1))
  have c1 := c_L_fork l D tI tZ tA tJ htr b F S H.size q j v (xs (i + 1))
  have c2 := fun sz => c_T_fork l D tI tZ tA tJ bt F S sz tw (cv q) (xs (i + 1))
  simp only [hm] at c2
  obtain ⟨⟨ra, rt, rq⟩, hr0⟩ : ∃ r, kk_fork q (xs (i + 1)) = r := ⟨_, rfl⟩
  simp only [hr0] at c1 c2 hI1
  refine lv_aload_n hx hb d_L_law_184 rfl (lv_at hl 1 rfl) ?_
  refine lw_rd (K := 1) hx hb hX hbl hL hS hi (by omega) (by decide +kernel) (lv_at hl 0 rfl) (lv_at hl 4 rfl) d_L_law_185 d_L_law_186 d_L_law_188 d_L_law_189 d_L_law_190 ?_
  refine lv_aload_n hx hb d_L_law_191 rfl (lv_at hl 3 rfl) ?_
  refine ob_callW (v := some (.int rt)) (X := tW bt F S tI tZ tw (cv q)) (M := lJ tJ j v ++ xW b F S tI tZ tA q) (M' := lJ tJ j (k_ans rt v ra.toInt64) ++ xW b F S tI tZ tA rq) (ob_runS (n := 3) (As := [.ref (b 0), .int (xs (i + 1)), .ref j]) (rest := []) c1 (hT.ok ob_cd_h (by decide +kernel) rfl rfl (Nat.le_of_ble_eq_true rfl) (Nat.le_of_ble_eq_true rfl) kn_L kc_L_fork) hx hb hml hown (hT.w k_L_61) (hT.w ks_L_fork) pT.blind (pT.at hT (hz.on hS hpl) g1 (ob_Pr hP) (ob_Dr hD)) rfl rfl hl.1 rfl (lv_room (Nat.le_of_ble_eq_true rfl)) d_L_law_192 ⟨hcl, hsl⟩) hP hD hS hA (fun H locs hP hD hS => ?_)
  refine W.eq (g2 := F0 m 195 ls [.int rt]) rfl ?_
  refine lv_istore (lv' := (5, .int rt) :: lwl sb b bt j i) hx hb d_L_law_195 hl (by decide) rfl (fun ls hl => ?_)
  have hP := lw_sP hP
  have hD := lw_sD hD
  refine lv_aload_n hx hb d_L_law_197 rfl (lv_at hl 3 rfl) ?_
  refine lw_rd (K := 1) hx hb hX hbl hL hS hi (by omega) (by decide +kernel) (lv_at hl 1 rfl) (lv_at hl 5 rfl) d_L_law_198 d_L_law_199 d_L_law_201 d_L_law_202 d_L_law_203 ?_
  refine ob_callW (v := some (.int ra)) (X := lJ tJ j (k_ans rt v ra.toInt64) ++ xW b F S tI tZ tA rq) (M := tW bt F S tI tZ tw (cv q)) (M' := tW bt F S tI tZ rt (cv rq)) (ob_runV (n := 1) (As := [.int (xs (i + 1))]) (rest := []) (c2 H.size) (hT.ok ob_cd_c (by decide +kernel) rfl rfl (Nat.le_of_ble_eq_true rfl) (Nat.le_of_ble_eq_true rfl) kn_T kc_T_fork) hx hb hml hown (hT.w k_L_64) (hT.w ki_T_fork) (hT.w kv_T_fork) (va_recv (q0 := 0) (ci := 2) hT.1 (ob_Pr hP) rfl rfl) pW.blind (pW.at hT trivial (ob_Pr hP) (ob_Dr hD)) rfl rfl hl.1 rfl (lv_room (Nat.le_of_ble_eq_true rfl)) d_L_law_204 ⟨hcl, hsl⟩) hP hD hS hA (fun H locs hP hD hS => ?_)
  refine W.eq (g2 := F0 m 207 ls [.int ra]) rfl ?_
  refine lv_istore (lv' := (6, .int ra) :: (5, .int rt) :: lwl sb b bt j i) hx hb d_L_law_207 hl (by decide) rfl (fun ls hl => ?_)
  refine lv_aload_n hx hb d_L_law_209 rfl (lv_at hl 4 rfl) ?_
  refine ob_callR (v := some (.int rt)) (ob_runV (n := 0) (As := []) (rest := []) (c_T_thrown l D tI tZ tA tJ bt F S rt (cv rq)) (hT.ok ob_cd_c (by decide +kernel) rfl rfl (Nat.le_of_ble_eq_true rfl) (Nat.le_of_ble_eq_true rfl) kn_T kc_T_thrown) hx hb hml hown (hT.w k_L_58) (hT.w ki_T_thrown) (hT.w kv_T_thrown) (va_recv (q0 := 0) (ci := 2) hT.1 (ob_Pr hP) rfl rfl) pR.blind (pR.at hT trivial (ob_Pr hP)) rfl rfl hl.1 rfl (lv_room (Nat.le_of_ble_eq_true rfl)) d_L_law_210 ⟨hcl, hsl⟩) ?_
  refine W.eq (g2 := F0 m 213 ls [.int rt]) rfl ?_
  refine lv_iload hx hb d_L_law_213 (lv_at hl 1 rfl) ?_
  refine lv_icmp_eq (tgt := 220) hx hb d_L_law_215 (by decide) (fun _ => ?_) (fun h => absurd rfl h)
  refine lv_iload hx hb d_L_law_220 (lv_at hl 1 rfl) ?_
  have hP2 := lw_sP hP
  have hD2 := lw_sD hD
  refine lv_if_ne (tgt := 237) hx hb d_L_law_222 (by decide) (fun hc => ?_) (fun hc => ?_)
  · refine lv_goto (tgt := 773) hx hb d_L_law_237 (by decide) ?_
    exact kk H locs ls _ _ rq (lv_sub hl [2, 3, 4, 5, 6] rfl) hI1 hP2 hD2 hS
  · subst hc
    refine lv_aload_n hx hb d_L_law_225 rfl (lv_at hl 5 rfl) ?_
    refine lv_iconst (v := 0) hx hb d_L_law_226 (by decide) ?_
    refine va_lald hx hb hT.1 hP 0 3 rfl rfl (vp_in_nI (n := 0) (N := 1) (by omega) (by omega)) d_L_law_227 ?_
    have ev : k_ans 0 v ra.toInt64 (Int32.toNatClampNeg 0) = ra.toInt64 := rfl
    rw [ev]
    refine lv_iload hx hb d_L_law_228 (lv_at hl 0 rfl) ?_
    refine lv_i2l hx hb d_L_law_230 rfl ?_
    refine W.lcmp hx hb d_L_law_231 ?_
    refine lv_if_eq (tgt := 237) hx hb d_L_law_232 (by decide) (fun _ => ?_) (fun h => absurd (lw_cmp0 _) h)
    refine lv_goto (tgt := 773) hx hb d_L_law_237 (by decide) ?_
    exact kk H locs ls _ _ rq (lv_sub hl [2, 3, 4, 5, 6] rfl) hI1 hP2 hD2 hS

set_option maxHeartbeats 4000000 in
set_option maxRecDepth 100000 in
/-- the law's branch: exit -/
theorem lb_exit {p : Program} {l : Launch} {e : Env} {s : State} {m : MethodId} {below : List Frame} {meth : Method} {c : Code} {sb L : Nat} {xs : Nat → Int32} {D : va_G} {tI tZ tA tJ : ClassId} (C : LC p l s m meth c sb L xs D tI tZ tA tJ) {Q : State → Prop} {b bt : Nat → Nat} {F S j i cells slots : Nat} {q : KS} {tw : Int32} {v : Nat → Int64} {H : Heap} {locs : List Loc} {ls : Array Slot} (hi : i + 5 ≤ L) (hcl : cells + 1 ≤ 668459) (hsl : slots + 6 ≤ 7090694) (hl : lv_has ls 7 (lwl sb b bt j i)) (hI : Inv F S q)
    (hP : va_P D vcl (LW tI tZ tA tJ b bt F S j v tw q) H) (hD : va_D (lA s) (LW tI tZ tA tJ b bt F S j v tw q)) (hS : va_S (lA s) s.heap H locs)
    (kk : ∀ (H : Heap) (locs : List Loc) (ls : Array Slot) (v : Nat → Int64) (tw : Int32) (q : KS), lv_has ls 7 (lwl sb b bt j i) → Inv F S q → va_P D vcl (LW tI tZ tA tJ b bt F S j v tw q) H → va_D (lA s) (LW tI tZ tA tJ b bt F S j v tw q) → va_S (lA s) s.heap H locs → W p l e room_1 s m #[Value.ref sb] below meth c H locs (cells + 1) (slots + 6) Q (F0 m 773 ls [])) :
    W p l e room_1 s m #[Value.ref sb] below meth c H locs cells slots Q (F0 m 240 ls []) := by
  obtain ⟨hx, hb, hr, hml, hown, hX, hbl, hlocks, hT, hz, ho, htr, hL⟩ := C
  have hA : ∀ a : Nat, s.heap.size ≤ a → lA s a := fun _ h => h
  have hpl := lA_plain (s := s)
  obtain ⟨g1, g2, hm, hI1⟩ := sim_exit hI (xs (i + 1))
  have c1 := c_L_exit l D tI tZ tA tJ htr b F S H.size q j v (xs (i + 1))
  have c2 := fun sz => c_T_exit l D tI tZ tA tJ bt F S sz tw (cv q) (xs (i + 1))
  simp only [hm] at c2
  obtain ⟨⟨ra, rt, rq⟩, hr0⟩ : ∃ r, kk_exit q (xs (i + 1)) = r := ⟨_, rfl⟩
  simp only [hr0] at c1 c2 hI1
  refine lv_aload_n hx hb d_L_law_240 rfl (lv_at hl 1 rfl) ?_
  refine lw_rd (K := 1) hx hb hX hbl hL hS hi (by omega) (by decide +kernel) (lv_at hl 0 rfl) (lv_at hl 4 rfl) d_L_law_241 d_L_law_242 d_L_law_244 d_L_law_245 d_L_law_246 ?_
  refine lv_aload_n hx hb d_L_law_247 rfl (lv_at hl 3 rfl) ?_
  refine ob_callW (v := some (.int rt)) (X := tW bt F S tI tZ tw (cv q)) (M := lJ tJ j v ++ xW b F S tI tZ tA q) (M' := lJ tJ j (k_ans rt v ra.toInt64) ++ xW b F S tI tZ tA rq) (ob_runS (n := 3) (As := [.ref (b 0), .int (xs (i + 1)), .ref j]) (rest := []) c1 (hT.ok ob_cd_h (by decide +kernel) rfl rfl (Nat.le_of_ble_eq_true rfl) (Nat.le_of_ble_eq_true rfl) kn_L kc_L_exit) hx hb hml hown (hT.w k_L_65) (hT.w ks_L_exit) pT.blind (pT.at hT (hz.on hS hpl) g1 (ob_Pr hP) (ob_Dr hD)) rfl rfl hl.1 rfl (lv_room (Nat.le_of_ble_eq_true rfl)) d_L_law_248 ⟨hcl, hsl⟩) hP hD hS hA (fun H locs hP hD hS => ?_)
  refine W.eq (g2 := F0 m 251 ls [.int rt]) rfl ?_
  refine lv_istore (lv' := (5, .int rt) :: lwl sb b bt j i) hx hb d_L_law_251 hl (by decide) rfl (fun ls hl => ?_)
  have hP := lw_sP hP
  have hD := lw_sD hD
  refine lv_aload_n hx hb d_L_law_253 rfl (lv_at hl 3 rfl) ?_
  refine lw_rd (K := 1) hx hb hX hbl hL hS hi (by omega) (by decide +kernel) (lv_at hl 1 rfl) (lv_at hl 5 rfl) d_L_law_254 d_L_law_255 d_L_law_257 d_L_law_258 d_L_law_259 ?_
  refine ob_callW (v := some (.int ra)) (X := lJ tJ j (k_ans rt v ra.toInt64) ++ xW b F S tI tZ tA rq) (M := tW bt F S tI tZ tw (cv q)) (M' := tW bt F S tI tZ rt (cv rq)) (ob_runV (n := 1) (As := [.int (xs (i + 1))]) (rest := []) (c2 H.size) (hT.ok ob_cd_c (by decide +kernel) rfl rfl (Nat.le_of_ble_eq_true rfl) (Nat.le_of_ble_eq_true rfl) kn_T kc_T_exit) hx hb hml hown (hT.w k_L_67) (hT.w ki_T_exit) (hT.w kv_T_exit) (va_recv (q0 := 0) (ci := 2) hT.1 (ob_Pr hP) rfl rfl) pW.blind (pW.at hT g2 (ob_Pr hP) (ob_Dr hD)) rfl rfl hl.1 rfl (lv_room (Nat.le_of_ble_eq_true rfl)) d_L_law_260 ⟨hcl, hsl⟩) hP hD hS hA (fun H locs hP hD hS => ?_)
  refine W.eq (g2 := F0 m 263 ls [.int ra]) rfl ?_
  refine lv_istore (lv' := (6, .int ra) :: (5, .int rt) :: lwl sb b bt j i) hx hb d_L_law_263 hl (by decide) rfl (fun ls hl => ?_)
  refine lv_aload_n hx hb d_L_law_265 rfl (lv_at hl 4 rfl) ?_
  refine ob_callR (v := some (.int rt)) (ob_runV (n := 0) (As := []) (rest := []) (c_T_thrown l D tI tZ tA tJ bt F S rt (cv rq)) (hT.ok ob_cd_c (by decide +kernel) rfl rfl (Nat.le_of_ble_eq_true rfl) (Nat.le_of_ble_eq_true rfl) kn_T kc_T_thrown) hx hb hml hown (hT.w k_L_58) (hT.w ki_T_thrown) (hT.w kv_T_thrown) (va_recv (q0 := 0) (ci := 2) hT.1 (ob_Pr hP) rfl rfl) pR.blind (pR.at hT trivial (ob_Pr hP)) rfl rfl hl.1 rfl (lv_room (Nat.le_of_ble_eq_true rfl)) d_L_law_266 ⟨hcl, hsl⟩) ?_
  refine W.eq (g2 := F0 m 269 ls [.int rt]) rfl ?_
  refine lv_iload hx hb d_L_law_269 (lv_at hl 1 rfl) ?_
  refine lv_icmp_eq (tgt := 276) hx hb d_L_law_271 (by decide) (fun _ => ?_) (fun h => absurd rfl h)
  refine lv_iload hx hb d_L_law_276 (lv_at hl 1 rfl) ?_
  have hP2 := lw_sP hP
  have hD2 := lw_sD hD
  refine lv_if_ne (tgt := 293) hx hb d_L_law_278 (by decide) (fun hc => ?_) (fun hc => ?_)
  · refine lv_goto (tgt := 773) hx hb d_L_law_293 (by decide) ?_
    exact kk H locs ls _ _ rq (lv_sub hl [2, 3, 4, 5, 6] rfl) hI1 hP2 hD2 hS
  · subst hc
    refine lv_aload_n hx hb d_L_law_281 rfl (lv_at hl 5 rfl) ?_
    refine lv_iconst (v := 0) hx hb d_L_law_282 (by decide) ?_
    refine va_lald hx hb hT.1 hP 0 3 rfl rfl (vp_in_nI (n := 0) (N := 1) (by omega) (by omega)) d_L_law_283 ?_
    have ev : k_ans 0 v ra.toInt64 (Int32.toNatClampNeg 0) = ra.toInt64 := rfl
    rw [ev]
    refine lv_iload hx hb d_L_law_284 (lv_at hl 0 rfl) ?_
    refine lv_i2l hx hb d_L_law_286 rfl ?_
    refine W.lcmp hx hb d_L_law_287 ?_
    refine lv_if_eq (tgt := 293) hx hb d_L_law_288 (by decide) (fun _ => ?_) (fun h => absurd (lw_cmp0 _) h)
    refine lv_goto (tgt := 773) hx hb d_L_law_293 (by decide) ?_
    exact kk H locs ls _ _ rq (lv_sub hl [2, 3, 4, 5, 6] rfl) hI1 hP2 hD2 hS

set_option maxHeartbeats 4000000 in
set_option maxRecDepth 100000 in
/-- the law's branch: drop -/
theorem lb_drop {p : Program} {l : Launch} {e : Env} {s : State} {m : MethodId} {below : List Frame} {meth : Method} {c : Code} {sb L : Nat} {xs : Nat → Int32} {D : va_G} {tI tZ tA tJ : ClassId} (C : LC p l s m meth c sb L xs D tI tZ tA tJ) {Q : State → Prop} {b bt : Nat → Nat} {F S j i cells slots : Nat} {q : KS} {tw : Int32} {v : Nat → Int64} {H : Heap} {locs : List Loc} {ls : Array Slot} (hi : i + 5 ≤ L) (hcl : cells + 1 ≤ 668459) (hsl : slots + 6 ≤ 7090694) (hl : lv_has ls 7 (lwl sb b bt j i)) (hI : Inv F S q)
    (hP : va_P D vcl (LW tI tZ tA tJ b bt F S j v tw q) H) (hD : va_D (lA s) (LW tI tZ tA tJ b bt F S j v tw q)) (hS : va_S (lA s) s.heap H locs)
    (kk : ∀ (H : Heap) (locs : List Loc) (ls : Array Slot) (v : Nat → Int64) (tw : Int32) (q : KS), lv_has ls 7 (lwl sb b bt j i) → Inv F S q → va_P D vcl (LW tI tZ tA tJ b bt F S j v tw q) H → va_D (lA s) (LW tI tZ tA tJ b bt F S j v tw q) → va_S (lA s) s.heap H locs → W p l e room_1 s m #[Value.ref sb] below meth c H locs (cells + 1) (slots + 6) Q (F0 m 773 ls [])) :
    W p l e room_1 s m #[Value.ref sb] below meth c H locs cells slots Q (F0 m 296 ls []) := by
  obtain ⟨hx, hb, hr, hml, hown, hX, hbl, hlocks, hT, hz, ho, htr, hL⟩ := C
  have hA : ∀ a : Nat, s.heap.size ≤ a → lA s a := fun _ h => h
  have hpl := lA_plain (s := s)
  obtain ⟨g1, g2, hm, hI1⟩ := sim_drop hI (xs (i + 1)) (xs (i + 2))
  have c1 := c_L_drop l D tI tZ tA tJ htr b F S H.size q j v (xs (i + 1)) (xs (i + 2))
  have c2 := fun sz => c_T_drop l D tI tZ tA tJ bt F S sz tw (cv q) (xs (i + 1)) (xs (i + 2))
  simp only [hm] at c2
  obtain ⟨⟨ra, rt, rq⟩, hr0⟩ : ∃ r, kk_drop q (xs (i + 1)) (xs (i + 2)) = r := ⟨_, rfl⟩
  simp only [hr0] at c1 c2 hI1
  refine lv_aload_n hx hb d_L_law_296 rfl (lv_at hl 1 rfl) ?_
  refine lw_rd (K := 1) hx hb hX hbl hL hS hi (by omega) (by decide +kernel) (lv_at hl 0 rfl) (lv_at hl 4 rfl) d_L_law_297 d_L_law_298 d_L_law_300 d_L_law_301 d_L_law_302 ?_
  refine lw_rd (K := 2) hx hb hX hbl hL hS hi (by omega) (by decide +kernel) (lv_at hl 0 rfl) (lv_at hl 4 rfl) d_L_law_303 d_L_law_304 d_L_law_306 d_L_law_307 d_L_law_308 ?_
  refine lv_aload_n hx hb d_L_law_309 rfl (lv_at hl 3 rfl) ?_
  refine ob_callW (v := some (.int rt)) (X := tW bt F S tI tZ tw (cv q)) (M := lJ tJ j v ++ xW b F S tI tZ tA q) (M' := lJ tJ j (k_ans rt v (if ra = 0 then 0 else 1)) ++ xW b F S tI tZ tA rq) (ob_runS (n := 4) (As := [.ref (b 0), .int (xs (i + 1)), .int (xs (i + 2)), .ref j]) (rest := []) c1 (hT.ok ob_cd_h (by decide +kernel) rfl rfl (Nat.le_of_ble_eq_true rfl) (Nat.le_of_ble_eq_true rfl) kn_L kc_L_drop) hx hb hml hown (hT.w k_L_68) (hT.w ks_L_drop) pT.blind (pT.at hT (hz.on hS hpl) g1 (ob_Pr hP) (ob_Dr hD)) rfl rfl hl.1 rfl (lv_room (Nat.le_of_ble_eq_true rfl)) d_L_law_310 ⟨hcl, hsl⟩) hP hD hS hA (fun H locs hP hD hS => ?_)
  refine W.eq (g2 := F0 m 313 ls [.int rt]) rfl ?_
  refine lv_istore (lv' := (5, .int rt) :: lwl sb b bt j i) hx hb d_L_law_313 hl (by decide) rfl (fun ls hl => ?_)
  have hP := lw_sP hP
  have hD := lw_sD hD
  refine lv_aload_n hx hb d_L_law_315 rfl (lv_at hl 3 rfl) ?_
  refine lw_rd (K := 1) hx hb hX hbl hL hS hi (by omega) (by decide +kernel) (lv_at hl 1 rfl) (lv_at hl 5 rfl) d_L_law_316 d_L_law_317 d_L_law_319 d_L_law_320 d_L_law_321 ?_
  refine lw_rd (K := 2) hx hb hX hbl hL hS hi (by omega) (by decide +kernel) (lv_at hl 1 rfl) (lv_at hl 5 rfl) d_L_law_322 d_L_law_323 d_L_law_325 d_L_law_326 d_L_law_327 ?_
  refine ob_callW (v := some (.int ra)) (X := lJ tJ j (k_ans rt v (if ra = 0 then 0 else 1)) ++ xW b F S tI tZ tA rq) (M := tW bt F S tI tZ tw (cv q)) (M' := tW bt F S tI tZ rt (cv rq)) (ob_runV (n := 2) (As := [.int (xs (i + 1)), .int (xs (i + 2))]) (rest := []) (c2 H.size) (hT.ok ob_cd_c (by decide +kernel) rfl rfl (Nat.le_of_ble_eq_true rfl) (Nat.le_of_ble_eq_true rfl) kn_T kc_T_drop) hx hb hml hown (hT.w k_L_71) (hT.w ki_T_drop) (hT.w kv_T_drop) (va_recv (q0 := 0) (ci := 2) hT.1 (ob_Pr hP) rfl rfl) pW.blind (pW.at hT g2 (ob_Pr hP) (ob_Dr hD)) rfl rfl hl.1 rfl (lv_room (Nat.le_of_ble_eq_true rfl)) d_L_law_328 ⟨hcl, hsl⟩) hP hD hS hA (fun H locs hP hD hS => ?_)
  refine W.eq (g2 := F0 m 331 ls [.int ra]) rfl ?_
  refine lv_istore (lv' := (6, .int ra) :: (5, .int rt) :: lwl sb b bt j i) hx hb d_L_law_331 hl (by decide) rfl (fun ls hl => ?_)
  refine lv_aload_n hx hb d_L_law_333 rfl (lv_at hl 4 rfl) ?_
  refine ob_callR (v := some (.int rt)) (ob_runV (n := 0) (As := []) (rest := []) (c_T_thrown l D tI tZ tA tJ bt F S rt (cv rq)) (hT.ok ob_cd_c (by decide +kernel) rfl rfl (Nat.le_of_ble_eq_true rfl) (Nat.le_of_ble_eq_true rfl) kn_T kc_T_thrown) hx hb hml hown (hT.w k_L_58) (hT.w ki_T_thrown) (hT.w kv_T_thrown) (va_recv (q0 := 0) (ci := 2) hT.1 (ob_Pr hP) rfl rfl) pR.blind (pR.at hT trivial (ob_Pr hP)) rfl rfl hl.1 rfl (lv_room (Nat.le_of_ble_eq_true rfl)) d_L_law_334 ⟨hcl, hsl⟩) ?_
  refine W.eq (g2 := F0 m 337 ls [.int rt]) rfl ?_
  refine lv_iload hx hb d_L_law_337 (lv_at hl 1 rfl) ?_
  refine lv_icmp_eq (tgt := 344) hx hb d_L_law_339 (by decide) (fun _ => ?_) (fun h => absurd rfl h)
  refine lv_iload hx hb d_L_law_344 (lv_at hl 1 rfl) ?_
  have hP2 := lw_sP hP
  have hD2 := lw_sD hD
  refine lv_if_ne (tgt := 368) hx hb d_L_law_346 (by decide) (fun hc => ?_) (fun hc => ?_)
  · refine lv_goto (tgt := 773) hx hb d_L_law_368 (by decide) ?_
    exact kk H locs ls _ _ rq (lv_sub hl [2, 3, 4, 5, 6] rfl) hI1 hP2 hD2 hS
  · subst hc
    refine lv_aload_n hx hb d_L_law_349 rfl (lv_at hl 5 rfl) ?_
    refine lv_iconst (v := 0) hx hb d_L_law_350 (by decide) ?_
    refine va_lald hx hb hT.1 hP 0 3 rfl rfl (vp_in_nI (n := 0) (N := 1) (by omega) (by omega)) d_L_law_351 ?_
    have ev : k_ans 0 v (if ra = 0 then 0 else 1) (Int32.toNatClampNeg 0) = (if ra = 0 then 0 else 1) := rfl
    rw [ev]
    refine lv_iload hx hb d_L_law_352 (lv_at hl 0 rfl) ?_
    refine lv_if_eq (tgt := 361) hx hb d_L_law_354 (by decide) (fun hc => ?_) (fun hc => ?_)
    · rw [if_pos hc]
      refine lv_lconst (v := 0) hx hb d_L_law_361 (by decide) ?_
      refine W.lcmp hx hb d_L_law_362 ?_
      refine lv_if_eq (tgt := 368) hx hb d_L_law_363 (by decide) (fun _ => ?_) (fun h => absurd (by decide) h)
      refine lv_goto (tgt := 773) hx hb d_L_law_368 (by decide) ?_
      exact kk H locs ls _ _ rq (lv_sub hl [2, 3, 4, 5, 6] rfl) hI1 hP2 hD2 hS
    · rw [if_neg hc]
      refine lv_lconst (v := 1) hx hb d_L_law_357 (by decide) ?_
      refine lv_goto (tgt := 362) hx hb d_L_law_358 (by decide) ?_
      refine W.lcmp hx hb d_L_law_362 ?_
      refine lv_if_eq (tgt := 368) hx hb d_L_law_363 (by decide) (fun _ => ?_) (fun h => absurd (by decide) h)
      refine lv_goto (tgt := 773) hx hb d_L_law_368 (by decide) ?_
      exact kk H locs ls _ _ rq (lv_sub hl [2, 3, 4, 5, 6] rfl) hI1 hP2 hD2 hS

set_option maxHeartbeats 4000000 in
set_option maxRecDepth 100000 in
/-- the law's branch: load -/
theorem lb_load {p : Program} {l : Launch} {e : Env} {s : State} {m : MethodId} {below : List Frame} {meth : Method} {c : Code} {sb L : Nat} {xs : Nat → Int32} {D : va_G} {tI tZ tA tJ : ClassId} (C : LC p l s m meth c sb L xs D tI tZ tA tJ) {Q : State → Prop} {b bt : Nat → Nat} {F S j i cells slots : Nat} {q : KS} {tw : Int32} {v : Nat → Int64} {H : Heap} {locs : List Loc} {ls : Array Slot} (hi : i + 5 ≤ L) (hcl : cells + 1 ≤ 668459) (hsl : slots + 6 ≤ 7090694) (hl : lv_has ls 7 (lwl sb b bt j i)) (hI : Inv F S q)
    (hP : va_P D vcl (LW tI tZ tA tJ b bt F S j v tw q) H) (hD : va_D (lA s) (LW tI tZ tA tJ b bt F S j v tw q)) (hS : va_S (lA s) s.heap H locs)
    (kk : ∀ (H : Heap) (locs : List Loc) (ls : Array Slot) (v : Nat → Int64) (tw : Int32) (q : KS), lv_has ls 7 (lwl sb b bt j i) → Inv F S q → va_P D vcl (LW tI tZ tA tJ b bt F S j v tw q) H → va_D (lA s) (LW tI tZ tA tJ b bt F S j v tw q) → va_S (lA s) s.heap H locs → W p l e room_1 s m #[Value.ref sb] below meth c H locs (cells + 1) (slots + 6) Q (F0 m 773 ls [])) :
    W p l e room_1 s m #[Value.ref sb] below meth c H locs cells slots Q (F0 m 371 ls []) := by
  obtain ⟨hx, hb, hr, hml, hown, hX, hbl, hlocks, hT, hz, ho, htr, hL⟩ := C
  have hA : ∀ a : Nat, s.heap.size ≤ a → lA s a := fun _ h => h
  have hpl := lA_plain (s := s)
  obtain ⟨g1, g2, hm, hI1⟩ := sim_load hI (xs (i + 1)) (xs (i + 2))
  have c1 := c_L_load l D tI tZ tA tJ htr b F S H.size q j v (xs (i + 1)) (xs (i + 2))
  have c2 := fun sz => c_T_load l D tI tZ tA tJ bt F S sz tw (cv q) (xs (i + 1)) (xs (i + 2))
  simp only [hm] at c2
  obtain ⟨⟨ra, rt, rq⟩, hr0⟩ : ∃ r, kk_load F S q (xs (i + 1)) (xs (i + 2)) = r := ⟨_, rfl⟩
  simp only [hr0] at c1 c2 hI1
  refine lv_aload_n hx hb d_L_law_371 rfl (lv_at hl 1 rfl) ?_
  refine lw_rd (K := 1) hx hb hX hbl hL hS hi (by omega) (by decide +kernel) (lv_at hl 0 rfl) (lv_at hl 4 rfl) d_L_law_372 d_L_law_373 d_L_law_375 d_L_law_376 d_L_law_377 ?_
  refine lw_rd (K := 2) hx hb hX hbl hL hS hi (by omega) (by decide +kernel) (lv_at hl 0 rfl) (lv_at hl 4 rfl) d_L_law_378 d_L_law_379 d_L_law_381 d_L_law_382 d_L_law_383 ?_
  refine lv_aload_n hx hb d_L_law_384 rfl (lv_at hl 3 rfl) ?_
  refine ob_callW (v := some (.int rt)) (X := tW bt F S tI tZ tw (cv q)) (M := lJ tJ j v ++ xW b F S tI tZ tA q) (M' := lJ tJ j (k_ans rt v ra.toInt64) ++ xW b F S tI tZ tA rq) (ob_runS (n := 4) (As := [.ref (b 0), .int (xs (i + 1)), .int (xs (i + 2)), .ref j]) (rest := []) c1 (hT.ok ob_cd_h (by decide +kernel) rfl rfl (Nat.le_of_ble_eq_true rfl) (Nat.le_of_ble_eq_true rfl) kn_L kc_L_load) hx hb hml hown (hT.w k_L_72) (hT.w ks_L_load) pT.blind (pT.at hT (hz.on hS hpl) g1 (ob_Pr hP) (ob_Dr hD)) rfl rfl hl.1 rfl (lv_room (Nat.le_of_ble_eq_true rfl)) d_L_law_385 ⟨hcl, hsl⟩) hP hD hS hA (fun H locs hP hD hS => ?_)
  refine W.eq (g2 := F0 m 388 ls [.int rt]) rfl ?_
  refine lv_istore (lv' := (5, .int rt) :: lwl sb b bt j i) hx hb d_L_law_388 hl (by decide) rfl (fun ls hl => ?_)
  have hP := lw_sP hP
  have hD := lw_sD hD
  refine lv_aload_n hx hb d_L_law_390 rfl (lv_at hl 3 rfl) ?_
  refine lw_rd (K := 1) hx hb hX hbl hL hS hi (by omega) (by decide +kernel) (lv_at hl 1 rfl) (lv_at hl 5 rfl) d_L_law_391 d_L_law_392 d_L_law_394 d_L_law_395 d_L_law_396 ?_
  refine lw_rd (K := 2) hx hb hX hbl hL hS hi (by omega) (by decide +kernel) (lv_at hl 1 rfl) (lv_at hl 5 rfl) d_L_law_397 d_L_law_398 d_L_law_400 d_L_law_401 d_L_law_402 ?_
  refine ob_callW (v := some (.int ra)) (X := lJ tJ j (k_ans rt v ra.toInt64) ++ xW b F S tI tZ tA rq) (M := tW bt F S tI tZ tw (cv q)) (M' := tW bt F S tI tZ rt (cv rq)) (ob_runV (n := 2) (As := [.int (xs (i + 1)), .int (xs (i + 2))]) (rest := []) (c2 H.size) (hT.ok ob_cd_c (by decide +kernel) rfl rfl (Nat.le_of_ble_eq_true rfl) (Nat.le_of_ble_eq_true rfl) kn_T kc_T_load) hx hb hml hown (hT.w k_L_74) (hT.w ki_T_load) (hT.w kv_T_load) (va_recv (q0 := 0) (ci := 2) hT.1 (ob_Pr hP) rfl rfl) pW.blind (pW.at hT g2 (ob_Pr hP) (ob_Dr hD)) rfl rfl hl.1 rfl (lv_room (Nat.le_of_ble_eq_true rfl)) d_L_law_403 ⟨hcl, hsl⟩) hP hD hS hA (fun H locs hP hD hS => ?_)
  refine W.eq (g2 := F0 m 406 ls [.int ra]) rfl ?_
  refine lv_istore (lv' := (6, .int ra) :: (5, .int rt) :: lwl sb b bt j i) hx hb d_L_law_406 hl (by decide) rfl (fun ls hl => ?_)
  refine lv_aload_n hx hb d_L_law_408 rfl (lv_at hl 4 rfl) ?_
  refine ob_callR (v := some (.int rt)) (ob_runV (n := 0) (As := []) (rest := []) (c_T_thrown l D tI tZ tA tJ bt F S rt (cv rq)) (hT.ok ob_cd_c (by decide +kernel) rfl rfl (Nat.le_of_ble_eq_true rfl) (Nat.le_of_ble_eq_true rfl) kn_T kc_T_thrown) hx hb hml hown (hT.w k_L_58) (hT.w ki_T_thrown) (hT.w kv_T_thrown) (va_recv (q0 := 0) (ci := 2) hT.1 (ob_Pr hP) rfl rfl) pR.blind (pR.at hT trivial (ob_Pr hP)) rfl rfl hl.1 rfl (lv_room (Nat.le_of_ble_eq_true rfl)) d_L_law_409 ⟨hcl, hsl⟩) ?_
  refine W.eq (g2 := F0 m 412 ls [.int rt]) rfl ?_
  refine lv_iload hx hb d_L_law_412 (lv_at hl 1 rfl) ?_
  refine lv_icmp_eq (tgt := 419) hx hb d_L_law_414 (by decide) (fun _ => ?_) (fun h => absurd rfl h)
  refine lv_iload hx hb d_L_law_419 (lv_at hl 1 rfl) ?_
  have hP2 := lw_sP hP
  have hD2 := lw_sD hD
  refine lv_if_ne (tgt := 436) hx hb d_L_law_421 (by decide) (fun hc => ?_) (fun hc => ?_)
  · refine lv_goto (tgt := 773) hx hb d_L_law_436 (by decide) ?_
    exact kk H locs ls _ _ rq (lv_sub hl [2, 3, 4, 5, 6] rfl) hI1 hP2 hD2 hS
  · subst hc
    refine lv_aload_n hx hb d_L_law_424 rfl (lv_at hl 5 rfl) ?_
    refine lv_iconst (v := 0) hx hb d_L_law_425 (by decide) ?_
    refine va_lald hx hb hT.1 hP 0 3 rfl rfl (vp_in_nI (n := 0) (N := 1) (by omega) (by omega)) d_L_law_426 ?_
    have ev : k_ans 0 v ra.toInt64 (Int32.toNatClampNeg 0) = ra.toInt64 := rfl
    rw [ev]
    refine lv_iload hx hb d_L_law_427 (lv_at hl 0 rfl) ?_
    refine lv_i2l hx hb d_L_law_429 rfl ?_
    refine W.lcmp hx hb d_L_law_430 ?_
    refine lv_if_eq (tgt := 436) hx hb d_L_law_431 (by decide) (fun _ => ?_) (fun h => absurd (lw_cmp0 _) h)
    refine lv_goto (tgt := 773) hx hb d_L_law_436 (by decide) ?_
    exact kk H locs ls _ _ rq (lv_sub hl [2, 3, 4, 5, 6] rfl) hI1 hP2 hD2 hS
