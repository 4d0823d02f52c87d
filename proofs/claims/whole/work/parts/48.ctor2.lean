theorem cl_mid {x : Int32} {n : Nat} (h0 : ¬ x < 0) (hn : n < 1000) (h : ¬ nI n < x) : x = nI (ix x) ∧ ix x ≤ n := by
  have h2 : ¬ nI (n + 1) ≤ x := fun hc => h (Int32.lt_of_lt_of_le (nI_lt (Nat.lt_succ_self n) (by omega)) hc)
  obtain ⟨j, hj, e, -⟩ := pk_mu h0 h2 (by omega)
  rw [e, show ix (nI j) = j from nI_clamp (by omega)]
  exact ⟨rfl, by omega⟩
def cF (x : Int32) : Nat := if x < 2 then 2 else if 8 < x then 8 else ix x
def cS (x : Int32) : Nat := if x < 0 then 0 else if 10 < x then 10 else ix x
theorem cF_le (x : Int32) : 2 ≤ cF x ∧ cF x ≤ 8 := by
  unfold cF
  by_cases h : x < 2
  · rw [if_pos h]; omega
  · rw [if_neg h]
    by_cases h2 : 8 < x
    · rw [if_pos h2]; omega
    · rw [if_neg h2]
      have h0 : ¬ x < 0 := fun hc => h (Int32.lt_trans hc (by decide))
      obtain ⟨e, hl⟩ := cl_mid (n := 8) h0 (by omega) h2
      refine ⟨?_, hl⟩
      refine Nat.le_of_not_lt fun hc => h ?_
      rw [e]
      exact nI_lt (b := 2) hc (by omega)
theorem cS_le (x : Int32) : cS x ≤ 10 := by
  unfold cS
  by_cases h : x < 0
  · rw [if_pos h]; omega
  · rw [if_neg h]
    by_cases h2 : 10 < x
    · rw [if_pos h2]; omega
    · rw [if_neg h2]
      exact (cl_mid (n := 10) h (by omega) h2).2
theorem cF_X (x : Int32) : (if (8 : Int32) < (if x < 2 then 2 else x) then 8 else if x < 2 then 2 else x) = nI (cF x) := by
  unfold cF
  by_cases h : x < 2
  · rw [if_pos h, if_pos h, if_neg (by decide)]; rfl
  · rw [if_neg h, if_neg h]
    by_cases h2 : 8 < x
    · rw [if_pos h2, if_pos h2]; rfl
    · rw [if_neg h2, if_neg h2]
      exact (cl_mid (n := 8) (fun hc => h (Int32.lt_trans hc (by decide))) (by omega) h2).1
theorem cS_X (x : Int32) : (if (10 : Int32) < (if x < 0 then 0 else x) then 10 else if x < 0 then 0 else x) = nI (cS x) := by
  unfold cS
  by_cases h : x < 0
  · rw [if_pos h, if_pos h, if_neg (by decide)]; rfl
  · rw [if_neg h, if_neg h]
    by_cases h2 : 10 < x
    · rw [if_pos h2, if_pos h2]; rfl
    · rw [if_neg h2, if_neg h2]
      exact (cl_mid (n := 10) h (by omega) h2).1
theorem cF_1 {x : Int32} (h : ¬ 2 ≤ x) : (2 : Int32) = nI (cF x) := by unfold cF; rw [if_pos (Int32.not_le.mp h)]; rfl
theorem cF_2 {x : Int32} (h : 2 ≤ x) (h2 : x ≤ 8) : x = nI (cF x) := by
  have a := cF_X x
  rw [if_neg (Int32.not_lt.mpr h), if_neg (Int32.not_lt.mpr h2)] at a
  exact a
theorem cF_3 {x : Int32} (h : 2 ≤ x) (h2 : ¬ x ≤ 8) : (8 : Int32) = nI (cF x) := by
  have a := cF_X x
  rw [if_neg (Int32.not_lt.mpr h), if_pos (Int32.not_le.mp h2)] at a
  exact a
theorem cS_1 {x : Int32} (h : ¬ 0 ≤ x) : (0 : Int32) = nI (cS x) := by unfold cS; rw [if_pos (Int32.not_le.mp h)]; rfl
theorem cS_2 {x : Int32} (h : 0 ≤ x) (h2 : x ≤ 10) : x = nI (cS x) := by
  have a := cS_X x
  rw [if_neg (Int32.not_lt.mpr h), if_neg (Int32.not_lt.mpr h2)] at a
  exact a
theorem cS_3 {x : Int32} (h : 0 ≤ x) (h2 : ¬ x ≤ 10) : (10 : Int32) = nI (cS x) := by
  have a := cS_X x
  rw [if_neg (Int32.not_lt.mpr h), if_pos (Int32.not_le.mp h2)] at a
  exact a
/-- the addresses of the class's cells -/
def bf_X (r a1 a2 : Nat) (f : Nat → Nat) : Nat → Nat := fun i => if i = 0 then r else if i = 1 then a1 else if i = 2 then a2 else if i < 9 then a2 + 1 + (i - 3) else f i
theorem pl_eq {b b' : Nat → Nat} {o o' n k : Nat} {cI : ClassId} {r r' : Nat → Nat → Int32} (h : ∀ i, i < n → b (o + i) = b' (o' + i)) (hr : ∀ i, i < n → r i = r' i) : pl_rows b o n k cI r = pl_rows b' o' n k cI r' := by
  unfold pl_rows
  refine List.map_congr_left fun i hi => ?_
  have hi' : i < n := List.mem_range.mp hi
  rw [h i hi', hr i hi']
theorem bf_X_hi (r a1 a2 : Nat) (f : Nat → Nat) (i : Nat) : bf_X r a1 a2 f (9 + i) = f (9 + i) := by
  unfold bf_X
  rw [if_neg (by omega), if_neg (by omega), if_neg (by omega), if_neg (by omega)]
theorem va_D_same {A : Nat → Prop} {ws ws' : va_W} (h : ws.map Prod.fst = ws'.map Prod.fst) (hD : va_D A ws) : va_D A ws' := by
  have key : ∀ (k : Nat) (q : Nat × va_E), ws'[k]? = some q → ∃ q', ws[k]? = some q' ∧ q'.1 = q.1 := by
    intro k q hq
    have h1 : (ws'.map Prod.fst)[k]? = some q.1 := by rw [List.getElem?_map, hq]; rfl
    rw [← h, List.getElem?_map] at h1
    cases hw : ws[k]? with
    | none => rw [hw] at h1; cases h1
    | some q' => rw [hw] at h1; exact ⟨q', rfl, Option.some.inj h1⟩
  refine ⟨fun i j p q hi hj hpq => ?_, fun k q hq => ?_⟩
  · obtain ⟨p', g1, g2⟩ := key i p hi
    obtain ⟨q', g3, g4⟩ := key j q hj
    exact hD.1 i j p' q' g1 g3 (by rw [g2, g4, hpq])
  · obtain ⟨q', g1, g2⟩ := key k q hq
    rw [← g2]
    exact hD.2 k q' g1
theorem va_P_same {D : va_G} {cl : List vw_C} {X Y : va_W} {a : Nat} {e e' : va_E} {H : Heap} (h : va_at D cl (a, e) H → va_at D cl (a, e') H) (hP : va_P D cl (X ++ ((a, e) :: Y)) H) : va_P D cl (X ++ ((a, e') :: Y)) H := by
  intro k q hk
  by_cases h1 : k < X.length
  · rw [List.getElem?_append_left h1] at hk
    exact hP k q (by rw [List.getElem?_append_left h1]; exact hk)
  · rw [List.getElem?_append_right (by omega)] at hk
    by_cases h2 : k - X.length = 0
    · have hq : (a, e') = q := by rw [h2] at hk; exact Option.some.inj hk
      subst hq
      exact h (hP k (a, e) (by rw [List.getElem?_append_right (by omega), h2]; rfl))
    · obtain ⟨j, hj⟩ : ∃ j, k - X.length = j + 1 := ⟨k - X.length - 1, by omega⟩
      rw [hj, List.getElem?_cons_succ] at hk
      exact hP k q (by rw [List.getElem?_append_right (by omega), hj, List.getElem?_cons_succ]; exact hk)
theorem ra_at {D : va_G} {cl : List vw_C} {a L : Nat} {cI : ClassId} {f g : Nat → Nat} {H : Heap} (h : ∀ i, i < L → f i = g i) (hP : va_at D cl (a, .inl (cI, L, ra f)) H) : va_at D cl (a, .inl (cI, L, ra g)) H := by
  have e : vp_cell cI (L, ra f) = vp_cell cI (L, ra g) := by
    show arrV cI L (fun j => va_rf (some (f j))) = arrV cI L (fun j => va_rf (some (g j)))
    unfold arrV
    congr 1
    apply Array.ext
    · simp
    · intro i h1 h2
      have hi : i < L := by simpa using h1
      simp [h i hi]
  show H[a]? = some (vp_cell cI (L, ra g))
  rw [← e]
  exact hP
theorem bf_X_3 (r a1 a2 : Nat) (f : Nat → Nat) {i : Nat} (hi : i < 6) : bf_X r a1 a2 f (3 + i) = a2 + 1 + i := by
  unfold bf_X
  rw [if_neg (by omega), if_neg (by omega), if_neg (by omega), if_pos (by omega)]
  omega
theorem bf_X_world {F S : Nat} {tI tZ tA : ClassId} {k : KM} {th : Nat → Int32} {pg : Nat → Nat → Int32} {cp : Int32} (r a1 a2 : Nat) (f : Nat → Nat) : xW (bf_X r a1 a2 f) F S tI tZ tA (th, pg, cp, k) =
  [(r, .inr (0, [.ref a1, .ref a2, .ref (f 9), .int cp])), (a1, .inl (tZ, 6, .inl th))] ++ ((a2, .inl (tA, 6, ra (fun i => bf_X r a1 a2 f (3 + i)))) :: (pl_rows (fun i => a2 + 1 + i) 0 6 6 tI pg ++ mW f F S tI tZ tA k)) := by
  have e2 : (fun i => bf_X r a1 a2 f (16 + i)) = fun i => f (16 + i) := by
    funext i
    rw [show 16 + i = 9 + (7 + i) by omega]
    exact bf_X_hi r a1 a2 f _
  have e3 : pl_rows (bf_X r a1 a2 f) 16 (F + S) 4 tI (km_wd k) = pl_rows f 16 (F + S) 4 tI (km_wd k) := pl_same e2
  have e4 : pl_rows (bf_X r a1 a2 f) 3 6 6 tI pg = pl_rows (fun i => a2 + 1 + i) 0 6 6 tI pg := pl_eq (fun i hi => by rw [bf_X_3 r a1 a2 f hi]; omega) (fun _ _ => rfl)
  unfold xW mW
  rw [e3, e2]
  show _ ++ (pl_rows (bf_X r a1 a2 f) 3 6 6 tI pg ++ _) = _
  rw [e4]
  rfl
theorem bf_X_P {D : va_G} {cl : List vw_C} {H : Heap} {F S : Nat} {tI tZ tA : ClassId} {k : KM} {th : Nat → Int32} {pg : Nat → Nat → Int32} {cp : Int32} {r a1 a2 r9 : Nat} {f : Nat → Nat} (h9 : f 9 = r9) (hP : va_P D cl (([(r, .inr (0, [.ref a1, .ref a2, .ref r9, .int cp])), (a1, .inl (tZ, 6, .inl th))] ++ ((a2, .inl (tA, 6, ra (fun i => a2 + 1 + i))) :: pl_rows (fun i => a2 + 1 + i) 0 6 6 tI pg)) ++ mW f F S tI tZ tA k) H) : va_P D cl (xW (bf_X r a1 a2 f) F S tI tZ tA (th, pg, cp, k)) H := by
  subst h9
  rw [bf_X_world]
  refine va_P_same (ra_at (fun i hi => (bf_X_3 r a1 a2 f hi).symm)) ?_
  exact hP
theorem bf_X_D {A : Nat → Prop} {F S : Nat} {tI tZ tA : ClassId} {k : KM} {th : Nat → Int32} {pg : Nat → Nat → Int32} {cp : Int32} {r a1 a2 r9 : Nat} {f : Nat → Nat} (hD : va_D A (([(r, .inr (0, [.ref a1, .ref a2, .ref r9, .int cp])), (a1, .inl (tZ, 6, .inl th))] ++ ((a2, .inl (tA, 6, ra (fun i => a2 + 1 + i))) :: pl_rows (fun i => a2 + 1 + i) 0 6 6 tI pg)) ++ mW f F S tI tZ tA k)) : va_D A (xW (bf_X r a1 a2 f) F S tI tZ tA (th, pg, cp, k)) := by
  rw [bf_X_world]
  exact va_D_same (by simp) hD
/-- the rows of the class that are filled so far -/
def pg_up (i : Nat) : Nat → Nat → Int32 := fun j _ => if j < i then -1 else 0
theorem pg_step (i : Nat) : up2 (pg_up i) i (fun _ => -1) = pg_up (i + 1) := by
  funext j k
  unfold up2 pg_up
  by_cases h : j = i
  · subst h; simp
  · rw [if_neg h]
    show (if j < i then (-1 : Int32) else 0) = _
    by_cases h2 : j < i
    · rw [if_pos h2, if_pos (by omega)]
    · rw [if_neg h2, if_neg (by omega)]
theorem pg_end {b : Nat → Nat} {F S : Nat} {tI tZ tA : ClassId} {th : Nat → Int32} {cp : Int32} {k : KM} : xW b F S tI tZ tA (th, pg_up 6, cp, k) = xW b F S tI tZ tA (th, fun _ _ => -1, cp, k) := by
  have e : pl_rows b 3 6 6 tI (pg_up 6) = pl_rows b 3 6 6 tI (fun _ _ => -1) := pl_eq (fun _ _ => rfl) (fun i hi => by funext j; exact if_pos hi)
  show x3 b tZ tA (th, pg_up 6, cp, k) ++ (pl_rows b 3 6 6 tI (pg_up 6) ++ _) = _
  rw [e]
theorem pg_0 : pg_up 0 = fun _ _ => 0 := by
  funext j k
  simp [pg_up]
def bf_T (r a1 a2 a3 a4 a5 : Nat) : Nat → Nat := fun i => if i = 0 then r else if i = 1 then a1 else if i = 2 then a2 else if i = 3 then a3 else if i = 4 then a4 else a5
theorem fl_end {f : Nat → Int32} {x : Int32} {L : Nat} : ∀ i, i < L → fl_up f x L i = (fun _ => x) i := fun _ h => if_pos h

theorem kc_J_max : Cond.code Lib.Math.max.name Lib.Math.max.code 2 (some .int) ∈ lw_tbl := by decide +kernel
theorem kc_J_min : Cond.code Lib.Math.min.name Lib.Math.min.code 2 (some .int) ∈ lw_tbl := by decide +kernel

set_option maxHeartbeats 4000000 in
set_option maxRecDepth 100000 in
/-- the class's constructor -/
theorem c_X_init (l : Launch) (D : va_G) (tI tZ tA tJ : ClassId) (r sz : Nat) (x y : Int32) : ob_M l y_X_init w_X_init ({ frames := 3, cells := 34, slots := 240, locals := 66 }) (pN D tI tZ tA tJ [.ref r, .int x, .int y] [(r, .inr (0, [.null, .null, .null, .int 0]))] sz True) (ob_qE D vcl (fun _ : { f : Nat → Nat // f 0 = r } => none) (fun z => xW z.1 (cF x) (cS y) tI tZ tA ks_0) (va_A [(r, .inr (0, [.null, .null, .null, .int 0]))] sz)) 34 240 (va_A [(r, .inr (0, [.null, .null, .null, .int 0]))] sz) := by
  refine ob_ofW (by decide +kernel) ?_
  intro p e s m args below meth c s₁ B hml htab hv
  obtain ⟨rfl, hT, ho, -, hsz, hP, hD0⟩ := hv
  have hx := B.exec
  have hb := B.bytes
  have hr := B.returns
  have hlocks := B.notSynchronized
  have hown : s.vm.findClass R_X = some m.cls := findClass_of_methodNamed B.named
  have hl := lv_entry ([.ref r, .int x, .int y]) (n := 4) (Nat.le_of_ble_eq_true rfl)
  rw [lg_entry_eq]
  generalize (lg_sl ([.ref r, .int x, .int y]) ++ List.replicate (4 - (lg_sl ([.ref r, .int x, .int y])).length) Slot.unset).toArray = ls at hl ⊢
  have hl : lv_has ls 4 [(0, .ref r), (1, .int x), (2, .int y)] := hl
  subst hsz
  have hD := hD0.self (sz := s.heap.size)
  generalize hAe : va_A ([(r, .inr (0, [.null, .null, .null, .int 0]))]) s.heap.size = A at hD ⊢
  have hA : ∀ q : Nat, s.heap.size ≤ q → A q := fun q h => by rw [← hAe]; exact Or.inr h
  have hS : va_S A s.heap s.heap [] := va_S.rf
  have hin : meth.name = "<init>" := (name_of_methodNamed B.named B.method).1
  obtain ⟨hF2, hF⟩ := cF_le x
  have hS10 := cS_le y
  refine lv_aload_n hx hb d_X_init_0 rfl (lv_at hl 0 rfl) ?_
  refine W.objInit hx hb hown (hT.w k_X_3) (hT.w ki_Ob_init) (hT.w kc_Ob_init) rfl (by rw [hml]; exact hl.1) rfl d_X_init_1 (Nat.le_of_ble_eq_true rfl) (Nat.le_of_ble_eq_true rfl) ?_
  refine W.eq (g2 := F0 m 4 ls []) rfl ?_
  refine lv_aload_n hx hb d_X_init_4 rfl (lv_at hl 0 rfl) ?_
  refine lv_bipush (v := 6) hx hb d_X_init_5 (by decide) ?_
  refine ob_newa (ty := .boolean) (a0 := (6, .inl (fun _ => 0))) hx hb (hT.w ka_boolean) rfl hT.1 1 rfl (fun _ h => h) hP hD hS hA (fun _ => rfl) (rfl) (by omega) (by show _ * 1 ≤ _; omega) (by show _ + 1 ≤ 34; omega) (by show _ + _ ≤ 240; omega) d_X_init_7 (fun a1 H hP hD hS => ?_)
  have hP : va_P D vcl ([(r, .inr (0, [.null, .null, .null, .int 0])), (a1, .inl (tZ, 6, .inl (fun _ => 0)))]) H := hP
  have hD : va_D A ([(r, .inr (0, [.null, .null, .null, .int 0])), (a1, .inl (tZ, 6, .inl (fun _ => 0)))]) := hD
  refine va_putF (D := D) (ci := 0) (v := .ref a1) (ty := .array .boolean) hx hb hT.lays ly_X ty_X ty_X_ok n_X hown hT.1 hP hD hS 0 rfl rfl 0 (by decide) (hT.w k_X_9) (fun _ h => h) rfl hin rfl (by decide +kernel) rfl rfl (Nat.le_of_ble_eq_true rfl) d_X_init_9 (fun H locs hP hD hS => ?_)
  have hP : va_P D vcl ([(r, .inr (0, [.ref a1, .null, .null, .int 0])), (a1, .inl (tZ, 6, .inl (fun _ => 0)))]) H := hP
  have hD : va_D A ([(r, .inr (0, [.ref a1, .null, .null, .int 0])), (a1, .inl (tZ, 6, .inl (fun _ => 0)))]) := hD
  refine lv_aload_n hx hb d_X_init_12 rfl (lv_at hl 0 rfl) ?_
  refine lv_bipush (v := 6) hx hb d_X_init_13 (by decide) ?_
  refine lv_bipush (v := 6) hx hb d_X_init_15 (by decide) ?_
  refine ob_grid (N := 6) (K := 6) hx hb hown (hT.w k_X_13) ho (hT.w ka_int) hT.1 hP hD hS hA d_X_init_17 rfl (by omega) rfl (by omega) (by show _ + (1 + 6) ≤ 34; omega) (by show _ + (6 + 6 * 6) ≤ 240; omega) (fun a2 H hP hD hS => ?_)
  have hP : va_P D vcl ([(r, .inr (0, [.ref a1, .null, .null, .int 0])), (a1, .inl (tZ, 6, .inl (fun _ => 0)))] ++ ((a2, .inl (tA, 6, ra (fun i => a2 + 1 + i))) :: pl_rows (fun i => a2 + 1 + i) 0 6 6 tI (fun _ _ => 0))) H := hP
  have hD : va_D A ([(r, .inr (0, [.ref a1, .null, .null, .int 0])), (a1, .inl (tZ, 6, .inl (fun _ => 0)))] ++ ((a2, .inl (tA, 6, ra (fun i => a2 + 1 + i))) :: pl_rows (fun i => a2 + 1 + i) 0 6 6 tI (fun _ _ => 0))) := hD
  refine va_putF (D := D) (ci := 0) (v := .ref a2) (ty := .array (.array .int)) hx hb hT.lays ly_X ty_X ty_X_ok n_X hown hT.1 hP hD hS 0 rfl rfl 1 (by decide) (hT.w k_X_15) (fun _ h => h) rfl hin rfl (by decide +kernel) rfl rfl (Nat.le_of_ble_eq_true rfl) d_X_init_21 (fun H locs hP hD hS => ?_)
  have hP : va_P D vcl ([(r, .inr (0, [.ref a1, .ref a2, .null, .int 0])), (a1, .inl (tZ, 6, .inl (fun _ => 0)))] ++ ((a2, .inl (tA, 6, ra (fun i => a2 + 1 + i))) :: pl_rows (fun i => a2 + 1 + i) 0 6 6 tI (fun _ _ => 0))) H := hP
  have hD : va_D A ([(r, .inr (0, [.ref a1, .ref a2, .null, .int 0])), (a1, .inl (tZ, 6, .inl (fun _ => 0)))] ++ ((a2, .inl (tA, 6, ra (fun i => a2 + 1 + i))) :: pl_rows (fun i => a2 + 1 + i) 0 6 6 tI (fun _ _ => 0))) := hD
  refine lv_aload_n hx hb d_X_init_24 rfl (lv_at hl 0 rfl) ?_
  refine va_new (fs := [.null, .null, .null, .null, .null, .null, .int 0, .int 0, .int 0]) (ci := 1) hx hb hT.lays ly_M ty_M ty_M_ok hown (hT.w k_X_18) (hT.w kt_M) (hT.w kn_M) hT.1 hP hD hS hA rfl (by decide) (by show _ + 1 ≤ 34; omega) (by show _ + 9 ≤ 240; omega) d_X_init_25 (fun r9 H hP hD hS => ?_)
  refine lv_dup hx hb d_X_init_28 rfl ?_
  refine lv_iload_n hx hb d_X_init_29 rfl (lv_at hl 1 rfl) ?_
  refine lv_iconst (v := 2) hx hb d_X_init_30 (by decide) ?_
  refine va_mmax hx hb (hml.trans hl.1.symm) hown (hT.w k_X_20) (hT.w ks_J_max) (hT.w kn_J) (hT.w kc_J_max) (Nat.le_of_ble_eq_true rfl) (Nat.le_of_ble_eq_true rfl) (by show _ ≤ 34; omega) (by show _ ≤ 240; omega) d_X_init_31 ?_
  refine lv_bipush (v := 8) hx hb d_X_init_34 (by decide) ?_
  refine va_mmin hx hb (hml.trans hl.1.symm) hown (hT.w k_X_26) (hT.w ks_J_min) (hT.w kn_J) (hT.w kc_J_min) (Nat.le_of_ble_eq_true rfl) (Nat.le_of_ble_eq_true rfl) (by show _ ≤ 34; omega) (by show _ ≤ 240; omega) d_X_init_36 ?_
  rw [cF_X x]
  refine lv_iload_n hx hb d_X_init_39 rfl (lv_at hl 2 rfl) ?_
  refine lv_iconst (v := 0) hx hb d_X_init_40 (by decide) ?_
  refine va_mmax hx hb (hml.trans hl.1.symm) hown (hT.w k_X_20) (hT.w ks_J_max) (hT.w kn_J) (hT.w kc_J_max) (Nat.le_of_ble_eq_true rfl) (Nat.le_of_ble_eq_true rfl) (by show _ ≤ 34; omega) (by show _ ≤ 240; omega) d_X_init_41 ?_
  refine lv_bipush (v := 10) hx hb d_X_init_44 (by decide) ?_
  refine va_mmin hx hb (hml.trans hl.1.symm) hown (hT.w k_X_26) (hT.w ks_J_min) (hT.w kn_J) (hT.w kc_J_min) (Nat.le_of_ble_eq_true rfl) (Nat.le_of_ble_eq_true rfl) (by show _ ≤ 34; omega) (by show _ ≤ 240; omega) d_X_init_46 ?_
  rw [cS_X y]
  refine ob_callE (X := [(r, .inr (0, [.ref a1, .ref a2, .null, .int 0])), (a1, .inl (tZ, 6, .inl (fun _ => 0)))] ++ ((a2, .inl (tA, 6, ra (fun i => a2 + 1 + i))) :: pl_rows (fun i => a2 + 1 + i) 0 6 6 tI (fun _ _ => 0))) (M := [(r9, .inr (1, [.null, .null, .null, .null, .null, .null, .int 0, .int 0, .int 0]))]) (ob_runI (n := 2) (As := [.int (nI (cF x)), .int (nI (cS y))]) (rest := [.ref r9, .ref r]) (c_M_init l D tI tZ tA tJ r9 (cF x) (cS y) H.size) (hT.ok ob_cd_c (by decide +kernel) rfl rfl (Nat.le_of_ble_eq_true rfl) (Nat.le_of_ble_eq_true rfl) kn_M kc_M_init) rfl hx hb hml hown rfl (hT.w k_X_29) (hT.w ki_M_init) pN.blind (pN.at hT ho ⟨hF, hS10⟩ (ob_Pr hP) (ob_Dr hD)) rfl rfl hl.1 rfl (lv_room (Nat.le_of_ble_eq_true rfl)) d_X_init_49 ⟨by show _ + 24 ≤ 34; omega, by show _ + 170 ≤ 240; omega⟩) hP hD hS hA (fun z H locs hP hD hS => ?_)
  obtain ⟨f, hf9⟩ := z
  have hP : va_P D vcl (([(r, .inr (0, [.ref a1, .ref a2, .null, .int 0])), (a1, .inl (tZ, 6, .inl (fun _ => 0)))] ++ ((a2, .inl (tA, 6, ra (fun i => a2 + 1 + i))) :: pl_rows (fun i => a2 + 1 + i) 0 6 6 tI (fun _ _ => 0))) ++ mW f (cF x) (cS y) tI tZ tA km_0) H := hP
  have hD : va_D A (([(r, .inr (0, [.ref a1, .ref a2, .null, .int 0])), (a1, .inl (tZ, 6, .inl (fun _ => 0)))] ++ ((a2, .inl (tA, 6, ra (fun i => a2 + 1 + i))) :: pl_rows (fun i => a2 + 1 + i) 0 6 6 tI (fun _ _ => 0))) ++ mW f (cF x) (cS y) tI tZ tA km_0) := hD
  refine W.eq (g2 := F0 m 52 ls [.ref r9, .ref r]) rfl ?_
  refine va_putF (D := D) (ci := 0) (v := .ref r9) (ty := .object "ForkedSheets$Memory") hx hb hT.lays ly_X ty_X ty_X_ok n_X hown hT.1 hP hD hS 0 rfl rfl 2 (by decide) (hT.w k_X_32) (fun _ h => h) rfl hin rfl (by decide +kernel) rfl rfl (Nat.le_of_ble_eq_true rfl) d_X_init_52 (fun H locs hP hD hS => ?_)
  have hP : va_P D vcl (([(r, .inr (0, [.ref a1, .ref a2, .ref r9, .int 0])), (a1, .inl (tZ, 6, .inl (fun _ => 0)))] ++ ((a2, .inl (tA, 6, ra (fun i => a2 + 1 + i))) :: pl_rows (fun i => a2 + 1 + i) 0 6 6 tI (fun _ _ => 0))) ++ mW f (cF x) (cS y) tI tZ tA km_0) H := hP
  have hD : va_D A (([(r, .inr (0, [.ref a1, .ref a2, .ref r9, .int 0])), (a1, .inl (tZ, 6, .inl (fun _ => 0)))] ++ ((a2, .inl (tA, 6, ra (fun i => a2 + 1 + i))) :: pl_rows (fun i => a2 + 1 + i) 0 6 6 tI (fun _ _ => 0))) ++ mW f (cF x) (cS y) tI tZ tA km_0) := hD
  have hPx := bf_X_P hf9 hP
  have hDx := bf_X_D hD
  obtain ⟨b, hb0⟩ : ∃ b, b = bf_X r a1 a2 f := ⟨_, rfl⟩
  rw [← hb0] at hPx hDx
  have hr0 : b 0 = r := by rw [hb0]; rfl
  refine W.widen (k := 34) (n := 240) (by show _ ≤ 34; omega) (by show _ ≤ 240; omega) ?_
  refine lv_iconst (v := 0) hx hb d_X_init_55 (by decide) ?_
  refine lv_istore_n (lv' := [(3, .int 0), (0, .ref r), (1, .int x), (2, .int y)]) hx hb d_X_init_56 rfl hl (by decide) rfl (fun ls hl => ?_)
  subst hr0
  have loop : ∀ (n i : Nat) (ls : Array Slot) (H : Heap) (locs : List Loc), i + n = 6 → lv_has ls 4 [(3, .int (nI i)), (0, .ref (b 0)), (1, .int x), (2, .int y)] → va_P D vcl (xW b (cF x) (cS y) tI tZ tA ((fun _ => 0), pg_up i, 0, km_0)) H → va_D A (xW b (cF x) (cS y) tI tZ tA ((fun _ => 0), pg_up i, 0, km_0)) → va_S A s.heap H locs → W p l e ({ frames := 3, cells := 34, slots := 240, locals := 66 } : Room) s m ([.ref (b 0), .int x, .int y] : List Value).toArray below meth c H locs 34 240 (ob_Q below (ob_qE D vcl (fun _ : { f : Nat → Nat // f 0 = b 0 } => none) (fun z => xW z.1 (cF x) (cS y) tI tZ tA ks_0) A) ([.ref (b 0), .int x, .int y] : List Value).toArray s 34 240 A) (F0 m 57 ls []) := by
    intro n
    induction n with
    | zero =>
      intro i ls H locs hi hl hP hD hS
      have hi6 : i = 6 := by omega
      subst hi6
      rw [pg_end] at hP hD
      refine lv_iload_n hx hb d_X_init_57 rfl (lv_at hl 0 rfl) ?_
      refine lv_bipush (v := 6) hx hb d_X_init_58 (by decide) ?_
      refine lv_icmp_ge (tgt := 79) hx hb d_X_init_60 (by decide) (fun hc => ?_) (fun hc => absurd (nI_le (a := 6) (by omega) (by omega)) hc)
      refine ob_vret hlocks hx hb hr d_X_init_79 hS.2.2 (fun t ht hW => ?_)
      exact ⟨⟨b, rfl⟩, rfl, by rw [ht]; exact hP, hD, hS.F ht⟩
    | succ n ih =>
      intro i ls H locs hi hl hP hD hS
      have hi6 : vp_in (nI i) 6 := vp_in_nI (by omega) (by omega)
      have hix : ix (nI i) = i := nI_clamp (by omega)
      refine lv_iload_n hx hb d_X_init_57 rfl (lv_at hl 0 rfl) ?_
      refine lv_bipush (v := 6) hx hb d_X_init_58 (by decide) ?_
      refine lv_icmp_ge (tgt := 79) hx hb d_X_init_60 (by decide) (fun hc => absurd hc (nI_ge (b := 6) (by omega) (by omega))) (fun hc => ?_)
      refine lv_aload_n hx hb d_X_init_63 rfl (lv_at hl 1 rfl) ?_
      refine va_get (D := D) (ci := 0) (v := .ref (b 2)) hx hb hT.lays ly_X hown hT.1 hP 0 rfl rfl 1 (by decide) (hT.w k_X_15) (fun _ h => h) rfl d_X_init_64 ?_
      refine lv_iload_n hx hb d_X_init_67 rfl (lv_at hl 0 rfl) ?_
      refine ob_aald hx hb hT.1 hP 2 2 rfl rfl (hi6) d_X_init_68 ?_
      refine lv_iconst (v := -1) hx hb d_X_init_69 (by decide) ?_
      refine ob_callC (v := none) (q0 := 3 + ix (nI i)) (ob_runS (n := 2) (As := [.ref (b (3 + ix (nI i))), .int (-1)]) (rest := []) (c_A_fill l D tI tZ tA tJ (b (3 + ix (nI i))) 6 H.size (pg_up i (ix (nI i))) (-1)) (hT.ok ob_cd_c (by decide +kernel) rfl rfl (Nat.le_of_ble_eq_true rfl) (Nat.le_of_ble_eq_true rfl) kn_A kc_A_fill) hx hb hml hown (hT.w k_X_36) (hT.w ks_A_fill) pW.blind (pW.at hT (by omega) (ob_P1 hP (pl_get (vp_ix hi6) rfl)) (ob_D1 hD (pl_get (vp_ix hi6) rfl))) rfl rfl hl.1 rfl (lv_room (Nat.le_of_ble_eq_true rfl)) d_X_init_70 ⟨Nat.le_refl _, Nat.le_refl _⟩) (pl_get (vp_ix hi6) rfl) hP hD hS hA (fun H locs hP hD hS => ?_)
      rw [xW_row (vp_ix hi6), hix] at hP hD
      have hP : va_P D vcl (xW b (cF x) (cS y) tI tZ tA ((fun _ => 0), pg_up (i + 1), 0, km_0)) H := by rw [← pg_step]; exact hP
      have hD : va_D A (xW b (cF x) (cS y) tI tZ tA ((fun _ => 0), pg_up (i + 1), 0, km_0)) := by rw [← pg_step]; exact hD
      refine W.eq (g2 := F0 m 73 ls []) rfl ?_
      refine lv_iinc (k := 0) (v := nI (i + 1)) (lv' := [(3, .int (nI (i + 1))), (0, .ref (b 0)), (1, .int x), (2, .int y)]) hx hb d_X_init_73 hl rfl (nI_1 i) (by decide) rfl (fun ls hl => ?_)
      refine lv_goto (tgt := 57) hx hb d_X_init_76 (by decide) ?_
      exact ih (i + 1) ls H locs (by omega) hl hP hD hS
  have h0 : (fun _ _ => 0 : Nat → Nat → Int32) = pg_up 0 := pg_0.symm
  rw [h0] at hPx hDx
  exact loop 6 0 ls H locs rfl (lv_sub hl [0, 1, 2, 3] rfl) hPx hDx hS

set_option maxHeartbeats 4000000 in
set_option maxRecDepth 100000 in
/-- the reference's constructor -/
theorem c_T_init (l : Launch) (D : va_G) (tI tZ tA tJ : ClassId) (r sz : Nat) (x y : Int32) : ob_M l y_T_init w_T_init ({ frames := 2, cells := 6, slots := 160, locals := 60 }) (pW D tI tZ tA tJ [.ref r, .int x, .int y] [(r, .inr (2, [.int 0, .int 0, .int 0, .null, .int 0, .null, .null, .null, .null, .int 0, .int 0, .int 0]))] sz True) (ob_qE D vcl (fun _ : { f : Nat → Nat // f 0 = r } => none) (fun z => tW z.1 (cF x) (cS y) tI tZ 0 sg_0) (va_A [(r, .inr (2, [.int 0, .int 0, .int 0, .null, .int 0, .null, .null, .null, .null, .int 0, .int 0, .int 0]))] sz)) 6 160 (va_A [(r, .inr (2, [.int 0, .int 0, .int 0, .null, .int 0, .null, .null, .null, .null, .int 0, .int 0, .int 0]))] sz) := by
  refine ob_ofW (by decide +kernel) ?_
  intro p e s m args below meth c s₁ B hml htab hv
  obtain ⟨rfl, hT, -, hsz, hP, hD0⟩ := hv
  have hx := B.exec
  have hb := B.bytes
  have hr := B.returns
  have hlocks := B.notSynchronized
  have hown : s.vm.findClass R_T = some m.cls := findClass_of_methodNamed B.named
  have hl := lv_entry ([.ref r, .int x, .int y]) (n := 4) (Nat.le_of_ble_eq_true rfl)
  rw [lg_entry_eq]
  generalize (lg_sl ([.ref r, .int x, .int y]) ++ List.replicate (4 - (lg_sl ([.ref r, .int x, .int y])).length) Slot.unset).toArray = ls at hl ⊢
  have hl : lv_has ls 4 [(0, .ref r), (1, .int x), (2, .int y)] := hl
  subst hsz
  have hD := hD0.self (sz := s.heap.size)
  generalize hAe : va_A ([(r, .inr (2, [.int 0, .int 0, .int 0, .null, .int 0, .null, .null, .null, .null, .int 0, .int 0, .int 0]))]) s.heap.size = A at hD ⊢
  have hA : ∀ q : Nat, s.heap.size ≤ q → A q := fun q h => by rw [← hAe]; exact Or.inr h
  have hS : va_S A s.heap s.heap [] := va_S.rf
  have hin : meth.name = "<init>" := (name_of_methodNamed B.named B.method).1
  refine lv_aload_n hx hb d_T_init_0 rfl (lv_at hl 0 rfl) ?_
  refine W.objInit hx hb hown (hT.w k_T_1) (hT.w ki_Ob_init) (hT.w kc_Ob_init) rfl (by rw [hml]; exact hl.1) rfl d_T_init_1 (Nat.le_of_ble_eq_true rfl) (Nat.le_of_ble_eq_true rfl) ?_
  refine W.eq (g2 := F0 m 4 ls []) rfl ?_
  refine lv_aload_n hx hb d_T_init_4 rfl (lv_at hl 0 rfl) ?_
  refine lv_bipush (v := 8) hx hb d_T_init_5 (by decide) ?_
  refine ob_newa (ty := .boolean) (a0 := (8, .inl (fun _ => 0))) hx hb (hT.w ka_boolean) rfl hT.1 1 rfl (fun _ h => h) hP hD hS hA (fun _ => rfl) (rfl) (by omega) (by show _ * 1 ≤ _; omega) (by show _ + 1 ≤ 6; omega) (by show _ + _ ≤ 160; omega) d_T_init_7 (fun a1 H hP hD hS => ?_)
  have hP : va_P D vcl ([(r, .inr (2, [.int 0, .int 0, .int 0, .null, .int 0, .null, .null, .null, .null, .int 0, .int 0, .int 0])), (a1, .inl (tZ, 8, .inl (fun _ => 0)))]) H := hP
  have hD : va_D A ([(r, .inr (2, [.int 0, .int 0, .int 0, .null, .int 0, .null, .null, .null, .null, .int 0, .int 0, .int 0])), (a1, .inl (tZ, 8, .inl (fun _ => 0)))]) := hD
  refine va_putF (D := D) (ci := 2) (v := .ref a1) (ty := .array .boolean) hx hb hT.lays ly_T ty_T ty_T_ok n_T hown hT.1 hP hD hS 0 rfl rfl 3 (by decide) (hT.w k_T_7) (fun _ h => h) rfl hin rfl (by decide +kernel) rfl rfl (Nat.le_of_ble_eq_true rfl) d_T_init_9 (fun H locs hP hD hS => ?_)
  have hP : va_P D vcl ([(r, .inr (2, [.int 0, .int 0, .int 0, .ref a1, .int 0, .null, .null, .null, .null, .int 0, .int 0, .int 0])), (a1, .inl (tZ, 8, .inl (fun _ => 0)))]) H := hP
  have hD : va_D A ([(r, .inr (2, [.int 0, .int 0, .int 0, .ref a1, .int 0, .null, .null, .null, .null, .int 0, .int 0, .int 0])), (a1, .inl (tZ, 8, .inl (fun _ => 0)))]) := hD
  refine lv_aload_n hx hb d_T_init_12 rfl (lv_at hl 0 rfl) ?_
  refine lv_bipush (v := 18) hx hb d_T_init_13 (by decide) ?_
  refine ob_newa (ty := .int) (a0 := (18, .inl (fun _ => 0))) hx hb (hT.w ka_int) rfl hT.1 0 rfl (fun _ h => h) hP hD hS hA (fun _ => rfl) (rfl) (by omega) (by show _ * 4 ≤ _; omega) (by show _ + 1 ≤ 6; omega) (by show _ + _ ≤ 160; omega) d_T_init_15 (fun a2 H hP hD hS => ?_)
  have hP : va_P D vcl ([(r, .inr (2, [.int 0, .int 0, .int 0, .ref a1, .int 0, .null, .null, .null, .null, .int 0, .int 0, .int 0])), (a1, .inl (tZ, 8, .inl (fun _ => 0))), (a2, .inl (tI, 18, .inl (fun _ => 0)))]) H := hP
  have hD : va_D A ([(r, .inr (2, [.int 0, .int 0, .int 0, .ref a1, .int 0, .null, .null, .null, .null, .int 0, .int 0, .int 0])), (a1, .inl (tZ, 8, .inl (fun _ => 0))), (a2, .inl (tI, 18, .inl (fun _ => 0)))]) := hD
  refine va_putF (D := D) (ci := 2) (v := .ref a2) (ty := .array .int) hx hb hT.lays ly_T ty_T ty_T_ok n_T hown hT.1 hP hD hS 0 rfl rfl 5 (by decide) (hT.w k_T_13) (fun _ h => h) rfl hin rfl (by decide +kernel) rfl rfl (Nat.le_of_ble_eq_true rfl) d_T_init_17 (fun H locs hP hD hS => ?_)
  have hP : va_P D vcl ([(r, .inr (2, [.int 0, .int 0, .int 0, .ref a1, .int 0, .ref a2, .null, .null, .null, .int 0, .int 0, .int 0])), (a1, .inl (tZ, 8, .inl (fun _ => 0))), (a2, .inl (tI, 18, .inl (fun _ => 0)))]) H := hP
  have hD : va_D A ([(r, .inr (2, [.int 0, .int 0, .int 0, .ref a1, .int 0, .ref a2, .null, .null, .null, .int 0, .int 0, .int 0])), (a1, .inl (tZ, 8, .inl (fun _ => 0))), (a2, .inl (tI, 18, .inl (fun _ => 0)))]) := hD
  refine lv_aload_n hx hb d_T_init_20 rfl (lv_at hl 0 rfl) ?_
  refine lv_bipush (v := 72) hx hb d_T_init_21 (by decide) ?_
  refine ob_newa (ty := .int) (a0 := (72, .inl (fun _ => 0))) hx hb (hT.w ka_int) rfl hT.1 0 rfl (fun _ h => h) hP hD hS hA (fun _ => rfl) (rfl) (by omega) (by show _ * 4 ≤ _; omega) (by show _ + 1 ≤ 6; omega) (by show _ + _ ≤ 160; omega) d_T_init_23 (fun a3 H hP hD hS => ?_)
  have hP : va_P D vcl ([(r, .inr (2, [.int 0, .int 0, .int 0, .ref a1, .int 0, .ref a2, .null, .null, .null, .int 0, .int 0, .int 0])), (a1, .inl (tZ, 8, .inl (fun _ => 0))), (a2, .inl (tI, 18, .inl (fun _ => 0))), (a3, .inl (tI, 72, .inl (fun _ => 0)))]) H := hP
  have hD : va_D A ([(r, .inr (2, [.int 0, .int 0, .int 0, .ref a1, .int 0, .ref a2, .null, .null, .null, .int 0, .int 0, .int 0])), (a1, .inl (tZ, 8, .inl (fun _ => 0))), (a2, .inl (tI, 18, .inl (fun _ => 0))), (a3, .inl (tI, 72, .inl (fun _ => 0)))]) := hD
  refine va_putF (D := D) (ci := 2) (v := .ref a3) (ty := .array .int) hx hb hT.lays ly_T ty_T ty_T_ok n_T hown hT.1 hP hD hS 0 rfl rfl 6 (by decide) (hT.w k_T_17) (fun _ h => h) rfl hin rfl (by decide +kernel) rfl rfl (Nat.le_of_ble_eq_true rfl) d_T_init_25 (fun H locs hP hD hS => ?_)
  have hP : va_P D vcl ([(r, .inr (2, [.int 0, .int 0, .int 0, .ref a1, .int 0, .ref a2, .ref a3, .null, .null, .int 0, .int 0, .int 0])), (a1, .inl (tZ, 8, .inl (fun _ => 0))), (a2, .inl (tI, 18, .inl (fun _ => 0))), (a3, .inl (tI, 72, .inl (fun _ => 0)))]) H := hP
  have hD : va_D A ([(r, .inr (2, [.int 0, .int 0, .int 0, .ref a1, .int 0, .ref a2, .ref a3, .null, .null, .int 0, .int 0, .int 0])), (a1, .inl (tZ, 8, .inl (fun _ => 0))), (a2, .inl (tI, 18, .inl (fun _ => 0))), (a3, .inl (tI, 72, .inl (fun _ => 0)))]) := hD
  refine lv_aload_n hx hb d_T_init_28 rfl (lv_at hl 0 rfl) ?_
  refine lv_bipush (v := 6) hx hb d_T_init_29 (by decide) ?_
  refine ob_newa (ty := .boolean) (a0 := (6, .inl (fun _ => 0))) hx hb (hT.w ka_boolean) rfl hT.1 1 rfl (fun _ h => h) hP hD hS hA (fun _ => rfl) (rfl) (by omega) (by show _ * 1 ≤ _; omega) (by show _ + 1 ≤ 6; omega) (by show _ + _ ≤ 160; omega) d_T_init_31 (fun a4 H hP hD hS => ?_)
  have hP : va_P D vcl ([(r, .inr (2, [.int 0, .int 0, .int 0, .ref a1, .int 0, .ref a2, .ref a3, .null, .null, .int 0, .int 0, .int 0])), (a1, .inl (tZ, 8, .inl (fun _ => 0))), (a2, .inl (tI, 18, .inl (fun _ => 0))), (a3, .inl (tI, 72, .inl (fun _ => 0))), (a4, .inl (tZ, 6, .inl (fun _ => 0)))]) H := hP
  have hD : va_D A ([(r, .inr (2, [.int 0, .int 0, .int 0, .ref a1, .int 0, .ref a2, .ref a3, .null, .null, .int 0, .int 0, .int 0])), (a1, .inl (tZ, 8, .inl (fun _ => 0))), (a2, .inl (tI, 18, .inl (fun _ => 0))), (a3, .inl (tI, 72, .inl (fun _ => 0))), (a4, .inl (tZ, 6, .inl (fun _ => 0)))]) := hD
  refine va_putF (D := D) (ci := 2) (v := .ref a4) (ty := .array .boolean) hx hb hT.lays ly_T ty_T ty_T_ok n_T hown hT.1 hP hD hS 0 rfl rfl 7 (by decide) (hT.w k_T_20) (fun _ h => h) rfl hin rfl (by decide +kernel) rfl rfl (Nat.le_of_ble_eq_true rfl) d_T_init_33 (fun H locs hP hD hS => ?_)
  have hP : va_P D vcl ([(r, .inr (2, [.int 0, .int 0, .int 0, .ref a1, .int 0, .ref a2, .ref a3, .ref a4, .null, .int 0, .int 0, .int 0])), (a1, .inl (tZ, 8, .inl (fun _ => 0))), (a2, .inl (tI, 18, .inl (fun _ => 0))), (a3, .inl (tI, 72, .inl (fun _ => 0))), (a4, .inl (tZ, 6, .inl (fun _ => 0)))]) H := hP
  have hD : va_D A ([(r, .inr (2, [.int 0, .int 0, .int 0, .ref a1, .int 0, .ref a2, .ref a3, .ref a4, .null, .int 0, .int 0, .int 0])), (a1, .inl (tZ, 8, .inl (fun _ => 0))), (a2, .inl (tI, 18, .inl (fun _ => 0))), (a3, .inl (tI, 72, .inl (fun _ => 0))), (a4, .inl (tZ, 6, .inl (fun _ => 0)))]) := hD
  refine lv_aload_n hx hb d_T_init_36 rfl (lv_at hl 0 rfl) ?_
  refine lv_bipush (v := 36) hx hb d_T_init_37 (by decide) ?_
  refine ob_newa (ty := .int) (a0 := (36, .inl (fun _ => 0))) hx hb (hT.w ka_int) rfl hT.1 0 rfl (fun _ h => h) hP hD hS hA (fun _ => rfl) (rfl) (by omega) (by show _ * 4 ≤ _; omega) (by show _ + 1 ≤ 6; omega) (by show _ + _ ≤ 160; omega) d_T_init_39 (fun a5 H hP hD hS => ?_)
  have hP : va_P D vcl ([(r, .inr (2, [.int 0, .int 0, .int 0, .ref a1, .int 0, .ref a2, .ref a3, .ref a4, .null, .int 0, .int 0, .int 0])), (a1, .inl (tZ, 8, .inl (fun _ => 0))), (a2, .inl (tI, 18, .inl (fun _ => 0))), (a3, .inl (tI, 72, .inl (fun _ => 0))), (a4, .inl (tZ, 6, .inl (fun _ => 0))), (a5, .inl (tI, 36, .inl (fun _ => 0)))]) H := hP
  have hD : va_D A ([(r, .inr (2, [.int 0, .int 0, .int 0, .ref a1, .int 0, .ref a2, .ref a3, .ref a4, .null, .int 0, .int 0, .int 0])), (a1, .inl (tZ, 8, .inl (fun _ => 0))), (a2, .inl (tI, 18, .inl (fun _ => 0))), (a3, .inl (tI, 72, .inl (fun _ => 0))), (a4, .inl (tZ, 6, .inl (fun _ => 0))), (a5, .inl (tI, 36, .inl (fun _ => 0)))]) := hD
  refine va_putF (D := D) (ci := 2) (v := .ref a5) (ty := .array .int) hx hb hT.lays ly_T ty_T ty_T_ok n_T hown hT.1 hP hD hS 0 rfl rfl 8 (by decide) (hT.w k_T_23) (fun _ h => h) rfl hin rfl (by decide +kernel) rfl rfl (Nat.le_of_ble_eq_true rfl) d_T_init_41 (fun H locs hP hD hS => ?_)
  have hP : va_P D vcl ([(r, .inr (2, [.int 0, .int 0, .int 0, .ref a1, .int 0, .ref a2, .ref a3, .ref a4, .ref a5, .int 0, .int 0, .int 0])), (a1, .inl (tZ, 8, .inl (fun _ => 0))), (a2, .inl (tI, 18, .inl (fun _ => 0))), (a3, .inl (tI, 72, .inl (fun _ => 0))), (a4, .inl (tZ, 6, .inl (fun _ => 0))), (a5, .inl (tI, 36, .inl (fun _ => 0)))]) H := hP
  have hD : va_D A ([(r, .inr (2, [.int 0, .int 0, .int 0, .ref a1, .int 0, .ref a2, .ref a3, .ref a4, .ref a5, .int 0, .int 0, .int 0])), (a1, .inl (tZ, 8, .inl (fun _ => 0))), (a2, .inl (tI, 18, .inl (fun _ => 0))), (a3, .inl (tI, 72, .inl (fun _ => 0))), (a4, .inl (tZ, 6, .inl (fun _ => 0))), (a5, .inl (tI, 36, .inl (fun _ => 0)))]) := hD
  refine W.widen (k := 6) (n := 160) (by show _ ≤ 6; omega) (by show _ ≤ 160; omega) ?_
  have loop2 : ∀ (n i : Nat) (ls : Array Slot) (H : Heap) (locs : List Loc), i + n = 36 → lv_has ls 4 [(3, .int (nI i)), (0, .ref r), (1, .int x), (2, .int y)] → va_P D vcl [(r, .inr (2, [.int 0, .int (nI (cF x)), .int (nI (cS y)), .ref a1, .int 0, .ref a2, .ref a3, .ref a4, .ref a5, .int 0, .int 0, .int 0])), (a1, .inl (tZ, 8, .inl (fun _ => 0))), (a2, .inl (tI, 18, .inl (fun _ => -1))), (a3, .inl (tI, 72, .inl (fun _ => 0))), (a4, .inl (tZ, 6, .inl (fun _ => 0))), (a5, .inl (tI, 36, .inl (fl_up (fun _ => 0) (-1) i)))] H → va_D A [(r, .inr (2, [.int 0, .int (nI (cF x)), .int (nI (cS y)), .ref a1, .int 0, .ref a2, .ref a3, .ref a4, .ref a5, .int 0, .int 0, .int 0])), (a1, .inl (tZ, 8, .inl (fun _ => 0))), (a2, .inl (tI, 18, .inl (fun _ => -1))), (a3, .inl (tI, 72, .inl (fun _ => 0))), (a4, .inl (tZ, 6, .inl (fun _ => 0))), (a5, .inl (tI, 36, .inl (fl_up (fun _ => 0) (-1) i)))] → va_S A s.heap H locs → W p l e ({ frames := 2, cells := 6, slots := 160, locals := 60 } : Room) s m ([.ref r, .int x, .int y] : List Value).toArray below meth c H locs 6 160 (ob_Q below (ob_qE D vcl (fun _ : { f : Nat → Nat // f 0 = r } => none) (fun z => tW z.1 (cF x) (cS y) tI tZ 0 sg_0) A) ([.ref r, .int x, .int y] : List Value).toArray s 6 160 A) (F0 m 116 ls []) := by
    intro n
    induction n with
    | zero =>
      intro i ls H locs hi hl hP hD hS
      have hi6 : i = 36 := by omega
      subst hi6
      refine lv_iload_n hx hb d_T_init_116 rfl (lv_at hl 0 rfl) ?_
      refine lv_bipush (v := 36) hx hb d_T_init_117 (by decide) ?_
      refine lv_icmp_ge (tgt := 135) hx hb d_T_init_119 (by decide) (fun hc => ?_) (fun hc => absurd (nI_le (a := 36) (by omega) (by omega)) hc)
      refine ob_vret hlocks hx hb hr d_T_init_135 hS.2.2 (fun t ht hW => ?_)
      have hP2 := arr_congr (X := [_, _, _, _, _]) (g := fun _ => -1) fl_end hP
      have hP3 : va_P D vcl (tW (bf_T r a1 a2 a3 a4 a5) (cF x) (cS y) tI tZ 0 sg_0) H := hP2
      have hD3 : va_D A (tW (bf_T r a1 a2 a3 a4 a5) (cF x) (cS y) tI tZ 0 sg_0) := va_D_same (by rfl) hD
      exact ⟨⟨bf_T r a1 a2 a3 a4 a5, rfl⟩, rfl, by rw [ht]; exact hP3, hD3, hS.F ht⟩
    | succ n ih =>
      intro i ls H locs hi hl hP hD hS
      refine lv_iload_n hx hb d_T_init_116 rfl (lv_at hl 0 rfl) ?_
      refine lv_bipush (v := 36) hx hb d_T_init_117 (by decide) ?_
      refine lv_icmp_ge (tgt := 135) hx hb d_T_init_119 (by decide) (fun hc => absurd hc (nI_ge (b := 36) (by omega) (by omega))) (fun hc => ?_)
      refine lv_aload_n hx hb d_T_init_122 rfl (lv_at hl 1 rfl) ?_
      refine va_get (D := D) (ci := 2) (v := .ref a5) hx hb hT.lays ly_T hown hT.1 hP 0 rfl rfl 8 (by decide) (hT.w k_T_23) (fun _ h => h) rfl d_T_init_123 ?_
      refine lv_iload_n hx hb d_T_init_126 rfl (lv_at hl 0 rfl) ?_
      refine lv_iconst (v := -1) hx hb d_T_init_127 (by decide) ?_
      refine va_iast hx hb hT.1 hP hD hS 5 0 rfl rfl (vp_in_nI (by omega) (by omega)) d_T_init_128 (fun H locs hP hD hS => ?_)
      rw [nI_clamp (by omega)] at hP hD
      have hP : va_P D vcl [(r, .inr (2, [.int 0, .int (nI (cF x)), .int (nI (cS y)), .ref a1, .int 0, .ref a2, .ref a3, .ref a4, .ref a5, .int 0, .int 0, .int 0])), (a1, .inl (tZ, 8, .inl (fun _ => 0))), (a2, .inl (tI, 18, .inl (fun _ => -1))), (a3, .inl (tI, 72, .inl (fun _ => 0))), (a4, .inl (tZ, 6, .inl (fun _ => 0))), (a5, .inl (tI, 36, .inl (fl_up (fun _ => 0) (-1) (i + 1))))] H := by rw [← fl_step]; exact hP
      have hD : va_D A [(r, .inr (2, [.int 0, .int (nI (cF x)), .int (nI (cS y)), .ref a1, .int 0, .ref a2, .ref a3, .ref a4, .ref a5, .int 0, .int 0, .int 0])), (a1, .inl (tZ, 8, .inl (fun _ => 0))), (a2, .inl (tI, 18, .inl (fun _ => -1))), (a3, .inl (tI, 72, .inl (fun _ => 0))), (a4, .inl (tZ, 6, .inl (fun _ => 0))), (a5, .inl (tI, 36, .inl (fl_up (fun _ => 0) (-1) (i + 1))))] := by rw [← fl_step]; exact hD
      refine lv_iinc (k := 0) (v := nI (i + 1)) (lv' := [(3, .int (nI (i + 1))), (0, .ref r), (1, .int x), (2, .int y)]) hx hb d_T_init_129 hl rfl (nI_1 i) (by decide) rfl (fun ls hl => ?_)
      refine lv_goto (tgt := 116) hx hb d_T_init_132 (by decide) ?_
      exact ih (i + 1) ls H locs (by omega) hl hP hD hS
  have loop1 : ∀ (n i : Nat) (ls : Array Slot) (H : Heap) (locs : List Loc), i + n = 18 → lv_has ls 4 [(3, .int (nI i)), (0, .ref r), (1, .int x), (2, .int y)] → va_P D vcl [(r, .inr (2, [.int 0, .int (nI (cF x)), .int (nI (cS y)), .ref a1, .int 0, .ref a2, .ref a3, .ref a4, .ref a5, .int 0, .int 0, .int 0])), (a1, .inl (tZ, 8, .inl (fun _ => 0))), (a2, .inl (tI, 18, .inl (fl_up (fun _ => 0) (-1) i))), (a3, .inl (tI, 72, .inl (fun _ => 0))), (a4, .inl (tZ, 6, .inl (fun _ => 0))), (a5, .inl (tI, 36, .inl (fun _ => 0)))] H → va_D A [(r, .inr (2, [.int 0, .int (nI (cF x)), .int (nI (cS y)), .ref a1, .int 0, .ref a2, .ref a3, .ref a4, .ref a5, .int 0, .int 0, .int 0])), (a1, .inl (tZ, 8, .inl (fun _ => 0))), (a2, .inl (tI, 18, .inl (fl_up (fun _ => 0) (-1) i))), (a3, .inl (tI, 72, .inl (fun _ => 0))), (a4, .inl (tZ, 6, .inl (fun _ => 0))), (a5, .inl (tI, 36, .inl (fun _ => 0)))] → va_S A s.heap H locs → W p l e ({ frames := 2, cells := 6, slots := 160, locals := 60 } : Room) s m ([.ref r, .int x, .int y] : List Value).toArray below meth c H locs 6 160 (ob_Q below (ob_qE D vcl (fun _ : { f : Nat → Nat // f 0 = r } => none) (fun z => tW z.1 (cF x) (cS y) tI tZ 0 sg_0) A) ([.ref r, .int x, .int y] : List Value).toArray s 6 160 A) (F0 m 95 ls []) := by
    intro n
    induction n with
    | zero =>
      intro i ls H locs hi hl hP hD hS
      have hi6 : i = 18 := by omega
      subst hi6
      refine lv_iload_n hx hb d_T_init_95 rfl (lv_at hl 0 rfl) ?_
      refine lv_bipush (v := 18) hx hb d_T_init_96 (by decide) ?_
      refine lv_icmp_ge (tgt := 114) hx hb d_T_init_98 (by decide) (fun hc => ?_) (fun hc => absurd (nI_le (a := 18) (by omega) (by omega)) hc)
      have hP2 := arr_congr (X := [_, _]) (g := fun _ => -1) fl_end hP
      have hP : va_P D vcl [(r, .inr (2, [.int 0, .int (nI (cF x)), .int (nI (cS y)), .ref a1, .int 0, .ref a2, .ref a3, .ref a4, .ref a5, .int 0, .int 0, .int 0])), (a1, .inl (tZ, 8, .inl (fun _ => 0))), (a2, .inl (tI, 18, .inl (fun _ => -1))), (a3, .inl (tI, 72, .inl (fun _ => 0))), (a4, .inl (tZ, 6, .inl (fun _ => 0))), (a5, .inl (tI, 36, .inl (fl_up (fun _ => 0) (-1) 0)))] H := by rw [fl_zero]; exact hP2
      have hD : va_D A [(r, .inr (2, [.int 0, .int (nI (cF x)), .int (nI (cS y)), .ref a1, .int 0, .ref a2, .ref a3, .ref a4, .ref a5, .int 0, .int 0, .int 0])), (a1, .inl (tZ, 8, .inl (fun _ => 0))), (a2, .inl (tI, 18, .inl (fun _ => -1))), (a3, .inl (tI, 72, .inl (fun _ => 0))), (a4, .inl (tZ, 6, .inl (fun _ => 0))), (a5, .inl (tI, 36, .inl (fl_up (fun _ => 0) (-1) 0)))] := by rw [fl_zero]; exact va_D_same (by rfl) hD
      refine lv_iconst (v := 0) hx hb d_T_init_114 (by decide) ?_
      refine lv_istore_n (lv' := [(3, .int 0), (0, .ref r), (1, .int x), (2, .int y)]) hx hb d_T_init_115 rfl hl (by decide) rfl (fun ls hl => ?_)
      exact loop2 36 0 ls H locs (by omega) (lv_sub hl [0, 1, 2, 3] rfl) hP hD hS
    | succ n ih =>
      intro i ls H locs hi hl hP hD hS
      refine lv_iload_n hx hb d_T_init_95 rfl (lv_at hl 0 rfl) ?_
      refine lv_bipush (v := 18) hx hb d_T_init_96 (by decide) ?_
      refine lv_icmp_ge (tgt := 114) hx hb d_T_init_98 (by decide) (fun hc => absurd hc (nI_ge (b := 18) (by omega) (by omega))) (fun hc => ?_)
      refine lv_aload_n hx hb d_T_init_101 rfl (lv_at hl 1 rfl) ?_
      refine va_get (D := D) (ci := 2) (v := .ref a2) hx hb hT.lays ly_T hown hT.1 hP 0 rfl rfl 5 (by decide) (hT.w k_T_13) (fun _ h => h) rfl d_T_init_102 ?_
      refine lv_iload_n hx hb d_T_init_105 rfl (lv_at hl 0 rfl) ?_
      refine lv_iconst (v := -1) hx hb d_T_init_106 (by decide) ?_
      refine va_iast hx hb hT.1 hP hD hS 2 0 rfl rfl (vp_in_nI (by omega) (by omega)) d_T_init_107 (fun H locs hP hD hS => ?_)
      rw [nI_clamp (by omega)] at hP hD
      have hP : va_P D vcl [(r, .inr (2, [.int 0, .int (nI (cF x)), .int (nI (cS y)), .ref a1, .int 0, .ref a2, .ref a3, .ref a4, .ref a5, .int 0, .int 0, .int 0])), (a1, .inl (tZ, 8, .inl (fun _ => 0))), (a2, .inl (tI, 18, .inl (fl_up (fun _ => 0) (-1) (i + 1)))), (a3, .inl (tI, 72, .inl (fun _ => 0))), (a4, .inl (tZ, 6, .inl (fun _ => 0))), (a5, .inl (tI, 36, .inl (fun _ => 0)))] H := by rw [← fl_step]; exact hP
      have hD : va_D A [(r, .inr (2, [.int 0, .int (nI (cF x)), .int (nI (cS y)), .ref a1, .int 0, .ref a2, .ref a3, .ref a4, .ref a5, .int 0, .int 0, .int 0])), (a1, .inl (tZ, 8, .inl (fun _ => 0))), (a2, .inl (tI, 18, .inl (fl_up (fun _ => 0) (-1) (i + 1)))), (a3, .inl (tI, 72, .inl (fun _ => 0))), (a4, .inl (tZ, 6, .inl (fun _ => 0))), (a5, .inl (tI, 36, .inl (fun _ => 0)))] := by rw [← fl_step]; exact hD
      refine lv_iinc (k := 0) (v := nI (i + 1)) (lv' := [(3, .int (nI (i + 1))), (0, .ref r), (1, .int x), (2, .int y)]) hx hb d_T_init_108 hl rfl (nI_1 i) (by decide) rfl (fun ls hl => ?_)
      refine lv_goto (tgt := 95) hx hb d_T_init_111 (by decide) ?_
      exact ih (i + 1) ls H locs (by omega) hl hP hD hS
  have hend : ∀ (H : Heap) (locs : List Loc), va_P D vcl [(r, .inr (2, [.int 0, .int (nI (cF x)), .int (nI (cS y)), .ref a1, .int 0, .ref a2, .ref a3, .ref a4, .ref a5, .int 0, .int 0, .int 0])), (a1, .inl (tZ, 8, .inl (fun _ => 0))), (a2, .inl (tI, 18, .inl (fun _ => 0))), (a3, .inl (tI, 72, .inl (fun _ => 0))), (a4, .inl (tZ, 6, .inl (fun _ => 0))), (a5, .inl (tI, 36, .inl (fun _ => 0)))] H → va_D A [(r, .inr (2, [.int 0, .int (nI (cF x)), .int (nI (cS y)), .ref a1, .int 0, .ref a2, .ref a3, .ref a4, .ref a5, .int 0, .int 0, .int 0])), (a1, .inl (tZ, 8, .inl (fun _ => 0))), (a2, .inl (tI, 18, .inl (fun _ => 0))), (a3, .inl (tI, 72, .inl (fun _ => 0))), (a4, .inl (tZ, 6, .inl (fun _ => 0))), (a5, .inl (tI, 36, .inl (fun _ => 0)))] → va_S A s.heap H locs → W p l e ({ frames := 2, cells := 6, slots := 160, locals := 60 } : Room) s m ([.ref r, .int x, .int y] : List Value).toArray below meth c H locs 6 160 (ob_Q below (ob_qE D vcl (fun _ : { f : Nat → Nat // f 0 = r } => none) (fun z => tW z.1 (cF x) (cS y) tI tZ 0 sg_0) A) ([.ref r, .int x, .int y] : List Value).toArray s 6 160 A) (F0 m 93 ls []) := by
    intro H locs hP hD hS
    refine lv_iconst (v := 0) hx hb d_T_init_93 (by decide) ?_
    refine lv_istore_n (lv' := [(3, .int 0), (0, .ref r), (1, .int x), (2, .int y)]) hx hb d_T_init_94 rfl hl (by decide) rfl (fun ls hl => ?_)
    exact loop1 18 0 ls H locs (by omega) (lv_sub hl [0, 1, 2, 3] rfl) (by rw [fl_zero]; exact hP) (by rw [fl_zero]; exact hD) hS
  have hmid : ∀ (H : Heap) (locs : List Loc), va_P D vcl [(r, .inr (2, [.int 0, .int (nI (cF x)), .int 0, .ref a1, .int 0, .ref a2, .ref a3, .ref a4, .ref a5, .int 0, .int 0, .int 0])), (a1, .inl (tZ, 8, .inl (fun _ => 0))), (a2, .inl (tI, 18, .inl (fun _ => 0))), (a3, .inl (tI, 72, .inl (fun _ => 0))), (a4, .inl (tZ, 6, .inl (fun _ => 0))), (a5, .inl (tI, 36, .inl (fun _ => 0)))] H → va_D A [(r, .inr (2, [.int 0, .int (nI (cF x)), .int 0, .ref a1, .int 0, .ref a2, .ref a3, .ref a4, .ref a5, .int 0, .int 0, .int 0])), (a1, .inl (tZ, 8, .inl (fun _ => 0))), (a2, .inl (tI, 18, .inl (fun _ => 0))), (a3, .inl (tI, 72, .inl (fun _ => 0))), (a4, .inl (tZ, 6, .inl (fun _ => 0))), (a5, .inl (tI, 36, .inl (fun _ => 0)))] → va_S A s.heap H locs → W p l e ({ frames := 2, cells := 6, slots := 160, locals := 60 } : Room) s m ([.ref r, .int x, .int y] : List Value).toArray below meth c H locs 6 160 (ob_Q below (ob_qE D vcl (fun _ : { f : Nat → Nat // f 0 = r } => none) (fun z => tW z.1 (cF x) (cS y) tI tZ 0 sg_0) A) ([.ref r, .int x, .int y] : List Value).toArray s 6 160 A) (F0 m 69 ls []) := by
    intro H locs hP hD hS
    refine lv_aload_n hx hb d_T_init_69 rfl (lv_at hl 0 rfl) ?_
    refine lv_iload_n hx hb d_T_init_70 rfl (lv_at hl 2 rfl) ?_
    refine lv_if_ge (tgt := 78) hx hb d_T_init_71 (by decide) (fun hc => ?_) (fun hc => ?_)
    · have hc0 := hc
      refine lv_iload_n hx hb d_T_init_78 rfl (lv_at hl 2 rfl) ?_
      refine lv_bipush (v := 10) hx hb d_T_init_79 (by decide) ?_
      refine lv_icmp_le (tgt := 89) hx hb d_T_init_81 (by decide) (fun hc => ?_) (fun hc => ?_)
      · refine lv_iload_n hx hb d_T_init_89 rfl (lv_at hl 2 rfl) ?_
        refine W.eq (g2 := F0 m 90 ls [.int (nI (cS y)), .ref r]) (by rw [← cS_2 hc0 hc]) ?_
        refine va_putF (D := D) (ci := 2) (v := .int (nI (cS y))) (ty := .int) hx hb hT.lays ly_T ty_T ty_T_ok n_T hown hT.1 hP hD hS 0 rfl rfl 2 (by decide) (hT.w k_T_30) (fun _ h => h) rfl hin rfl (by decide +kernel) rfl rfl (Nat.le_of_ble_eq_true rfl) d_T_init_90 (fun H locs hP hD hS => ?_)
        have hP : va_P D vcl ([(r, .inr (2, [.int 0, .int (nI (cF x)), .int (nI (cS y)), .ref a1, .int 0, .ref a2, .ref a3, .ref a4, .ref a5, .int 0, .int 0, .int 0])), (a1, .inl (tZ, 8, .inl (fun _ => 0))), (a2, .inl (tI, 18, .inl (fun _ => 0))), (a3, .inl (tI, 72, .inl (fun _ => 0))), (a4, .inl (tZ, 6, .inl (fun _ => 0))), (a5, .inl (tI, 36, .inl (fun _ => 0)))]) H := hP
        have hD : va_D A ([(r, .inr (2, [.int 0, .int (nI (cF x)), .int (nI (cS y)), .ref a1, .int 0, .ref a2, .ref a3, .ref a4, .ref a5, .int 0, .int 0, .int 0])), (a1, .inl (tZ, 8, .inl (fun _ => 0))), (a2, .inl (tI, 18, .inl (fun _ => 0))), (a3, .inl (tI, 72, .inl (fun _ => 0))), (a4, .inl (tZ, 6, .inl (fun _ => 0))), (a5, .inl (tI, 36, .inl (fun _ => 0)))]) := hD
        exact hend H locs hP hD hS
      · refine lv_bipush (v := 10) hx hb d_T_init_84 (by decide) ?_
        refine lv_goto (tgt := 90) hx hb d_T_init_86 (by decide) ?_
        refine W.eq (g2 := F0 m 90 ls [.int (nI (cS y)), .ref r]) (by rw [← cS_3 hc0 hc]) ?_
        refine va_putF (D := D) (ci := 2) (v := .int (nI (cS y))) (ty := .int) hx hb hT.lays ly_T ty_T ty_T_ok n_T hown hT.1 hP hD hS 0 rfl rfl 2 (by decide) (hT.w k_T_30) (fun _ h => h) rfl hin rfl (by decide +kernel) rfl rfl (Nat.le_of_ble_eq_true rfl) d_T_init_90 (fun H locs hP hD hS => ?_)
        have hP : va_P D vcl ([(r, .inr (2, [.int 0, .int (nI (cF x)), .int (nI (cS y)), .ref a1, .int 0, .ref a2, .ref a3, .ref a4, .ref a5, .int 0, .int 0, .int 0])), (a1, .inl (tZ, 8, .inl (fun _ => 0))), (a2, .inl (tI, 18, .inl (fun _ => 0))), (a3, .inl (tI, 72, .inl (fun _ => 0))), (a4, .inl (tZ, 6, .inl (fun _ => 0))), (a5, .inl (tI, 36, .inl (fun _ => 0)))]) H := hP
        have hD : va_D A ([(r, .inr (2, [.int 0, .int (nI (cF x)), .int (nI (cS y)), .ref a1, .int 0, .ref a2, .ref a3, .ref a4, .ref a5, .int 0, .int 0, .int 0])), (a1, .inl (tZ, 8, .inl (fun _ => 0))), (a2, .inl (tI, 18, .inl (fun _ => 0))), (a3, .inl (tI, 72, .inl (fun _ => 0))), (a4, .inl (tZ, 6, .inl (fun _ => 0))), (a5, .inl (tI, 36, .inl (fun _ => 0)))]) := hD
        exact hend H locs hP hD hS
    · refine lv_iconst (v := 0) hx hb d_T_init_74 (by decide) ?_
      refine lv_goto (tgt := 90) hx hb d_T_init_75 (by decide) ?_
      refine W.eq (g2 := F0 m 90 ls [.int (nI (cS y)), .ref r]) (by rw [← cS_1 hc]) ?_
      refine va_putF (D := D) (ci := 2) (v := .int (nI (cS y))) (ty := .int) hx hb hT.lays ly_T ty_T ty_T_ok n_T hown hT.1 hP hD hS 0 rfl rfl 2 (by decide) (hT.w k_T_30) (fun _ h => h) rfl hin rfl (by decide +kernel) rfl rfl (Nat.le_of_ble_eq_true rfl) d_T_init_90 (fun H locs hP hD hS => ?_)
      have hP : va_P D vcl ([(r, .inr (2, [.int 0, .int (nI (cF x)), .int (nI (cS y)), .ref a1, .int 0, .ref a2, .ref a3, .ref a4, .ref a5, .int 0, .int 0, .int 0])), (a1, .inl (tZ, 8, .inl (fun _ => 0))), (a2, .inl (tI, 18, .inl (fun _ => 0))), (a3, .inl (tI, 72, .inl (fun _ => 0))), (a4, .inl (tZ, 6, .inl (fun _ => 0))), (a5, .inl (tI, 36, .inl (fun _ => 0)))]) H := hP
      have hD : va_D A ([(r, .inr (2, [.int 0, .int (nI (cF x)), .int (nI (cS y)), .ref a1, .int 0, .ref a2, .ref a3, .ref a4, .ref a5, .int 0, .int 0, .int 0])), (a1, .inl (tZ, 8, .inl (fun _ => 0))), (a2, .inl (tI, 18, .inl (fun _ => 0))), (a3, .inl (tI, 72, .inl (fun _ => 0))), (a4, .inl (tZ, 6, .inl (fun _ => 0))), (a5, .inl (tI, 36, .inl (fun _ => 0)))]) := hD
      exact hend H locs hP hD hS
  refine lv_aload_n hx hb d_T_init_44 rfl (lv_at hl 0 rfl) ?_
  refine lv_iload_n hx hb d_T_init_45 rfl (lv_at hl 1 rfl) ?_
  refine lv_iconst (v := 2) hx hb d_T_init_46 (by decide) ?_
  refine lv_icmp_ge (tgt := 54) hx hb d_T_init_47 (by decide) (fun hc => ?_) (fun hc => ?_)
  · have hc0 := hc
    refine lv_iload_n hx hb d_T_init_54 rfl (lv_at hl 1 rfl) ?_
    refine lv_bipush (v := 8) hx hb d_T_init_55 (by decide) ?_
    refine lv_icmp_le (tgt := 65) hx hb d_T_init_57 (by decide) (fun hc => ?_) (fun hc => ?_)
    · refine lv_iload_n hx hb d_T_init_65 rfl (lv_at hl 1 rfl) ?_
      refine W.eq (g2 := F0 m 66 ls [.int (nI (cF x)), .ref r]) (by rw [← cF_2 hc0 hc]) ?_
      refine va_putF (D := D) (ci := 2) (v := .int (nI (cF x))) (ty := .int) hx hb hT.lays ly_T ty_T ty_T_ok n_T hown hT.1 hP hD hS 0 rfl rfl 1 (by decide) (hT.w k_T_26) (fun _ h => h) rfl hin rfl (by decide +kernel) rfl rfl (Nat.le_of_ble_eq_true rfl) d_T_init_66 (fun H locs hP hD hS => ?_)
      have hP : va_P D vcl ([(r, .inr (2, [.int 0, .int (nI (cF x)), .int 0, .ref a1, .int 0, .ref a2, .ref a3, .ref a4, .ref a5, .int 0, .int 0, .int 0])), (a1, .inl (tZ, 8, .inl (fun _ => 0))), (a2, .inl (tI, 18, .inl (fun _ => 0))), (a3, .inl (tI, 72, .inl (fun _ => 0))), (a4, .inl (tZ, 6, .inl (fun _ => 0))), (a5, .inl (tI, 36, .inl (fun _ => 0)))]) H := hP
      have hD : va_D A ([(r, .inr (2, [.int 0, .int (nI (cF x)), .int 0, .ref a1, .int 0, .ref a2, .ref a3, .ref a4, .ref a5, .int 0, .int 0, .int 0])), (a1, .inl (tZ, 8, .inl (fun _ => 0))), (a2, .inl (tI, 18, .inl (fun _ => 0))), (a3, .inl (tI, 72, .inl (fun _ => 0))), (a4, .inl (tZ, 6, .inl (fun _ => 0))), (a5, .inl (tI, 36, .inl (fun _ => 0)))]) := hD
      exact hmid H locs hP hD hS
    · refine lv_bipush (v := 8) hx hb d_T_init_60 (by decide) ?_
      refine lv_goto (tgt := 66) hx hb d_T_init_62 (by decide) ?_
      refine W.eq (g2 := F0 m 66 ls [.int (nI (cF x)), .ref r]) (by rw [← cF_3 hc0 hc]) ?_
      refine va_putF (D := D) (ci := 2) (v := .int (nI (cF x))) (ty := .int) hx hb hT.lays ly_T ty_T ty_T_ok n_T hown hT.1 hP hD hS 0 rfl rfl 1 (by decide) (hT.w k_T_26) (fun _ h => h) rfl hin rfl (by decide +kernel) rfl rfl (Nat.le_of_ble_eq_true rfl) d_T_init_66 (fun H locs hP hD hS => ?_)
      have hP : va_P D vcl ([(r, .inr (2, [.int 0, .int (nI (cF x)), .int 0, .ref a1, .int 0, .ref a2, .ref a3, .ref a4, .ref a5, .int 0, .int 0, .int 0])), (a1, .inl (tZ, 8, .inl (fun _ => 0))), (a2, .inl (tI, 18, .inl (fun _ => 0))), (a3, .inl (tI, 72, .inl (fun _ => 0))), (a4, .inl (tZ, 6, .inl (fun _ => 0))), (a5, .inl (tI, 36, .inl (fun _ => 0)))]) H := hP
      have hD : va_D A ([(r, .inr (2, [.int 0, .int (nI (cF x)), .int 0, .ref a1, .int 0, .ref a2, .ref a3, .ref a4, .ref a5, .int 0, .int 0, .int 0])), (a1, .inl (tZ, 8, .inl (fun _ => 0))), (a2, .inl (tI, 18, .inl (fun _ => 0))), (a3, .inl (tI, 72, .inl (fun _ => 0))), (a4, .inl (tZ, 6, .inl (fun _ => 0))), (a5, .inl (tI, 36, .inl (fun _ => 0)))]) := hD
      exact hmid H locs hP hD hS
  · refine lv_iconst (v := 2) hx hb d_T_init_50 (by decide) ?_
    refine lv_goto (tgt := 66) hx hb d_T_init_51 (by decide) ?_
    refine W.eq (g2 := F0 m 66 ls [.int (nI (cF x)), .ref r]) (by rw [← cF_1 hc]) ?_
    refine va_putF (D := D) (ci := 2) (v := .int (nI (cF x))) (ty := .int) hx hb hT.lays ly_T ty_T ty_T_ok n_T hown hT.1 hP hD hS 0 rfl rfl 1 (by decide) (hT.w k_T_26) (fun _ h => h) rfl hin rfl (by decide +kernel) rfl rfl (Nat.le_of_ble_eq_true rfl) d_T_init_66 (fun H locs hP hD hS => ?_)
    have hP : va_P D vcl ([(r, .inr (2, [.int 0, .int (nI (cF x)), .int 0, .ref a1, .int 0, .ref a2, .ref a3, .ref a4, .ref a5, .int 0, .int 0, .int 0])), (a1, .inl (tZ, 8, .inl (fun _ => 0))), (a2, .inl (tI, 18, .inl (fun _ => 0))), (a3, .inl (tI, 72, .inl (fun _ => 0))), (a4, .inl (tZ, 6, .inl (fun _ => 0))), (a5, .inl (tI, 36, .inl (fun _ => 0)))]) H := hP
    have hD : va_D A ([(r, .inr (2, [.int 0, .int (nI (cF x)), .int 0, .ref a1, .int 0, .ref a2, .ref a3, .ref a4, .ref a5, .int 0, .int 0, .int 0])), (a1, .inl (tZ, 8, .inl (fun _ => 0))), (a2, .inl (tI, 18, .inl (fun _ => 0))), (a3, .inl (tI, 72, .inl (fun _ => 0))), (a4, .inl (tZ, 6, .inl (fun _ => 0))), (a5, .inl (tI, 36, .inl (fun _ => 0)))]) := hD
    exact hmid H locs hP hD hS
