/-- an array's cell hangs on its own places alone -/
theorem arr_congr {D : va_G} {cl : List vw_C} {X Y : va_W} {a L : Nat} {cI : ClassId} {f g : Nat → Int32} {H : Heap} (h : ∀ i, i < L → f i = g i) (hP : va_P D cl (X ++ ((a, .inl (cI, L, .inl f)) :: Y)) H) : va_P D cl (X ++ ((a, .inl (cI, L, .inl g)) :: Y)) H := by
  have e : vp_cell cI (L, .inl f) = vp_cell cI (L, .inl g) := by
    rw [vp_cell_i, vp_cell_i]
    unfold arrV
    congr 1
    apply Array.ext
    · simp
    · intro i h1 h2
      have hi : i < L := by simpa using h1
      simp [h i hi]
  intro k q hk
  by_cases h1 : k < X.length
  · rw [List.getElem?_append_left h1] at hk
    exact hP k q (by rw [List.getElem?_append_left h1]; exact hk)
  · rw [List.getElem?_append_right (by omega)] at hk
    by_cases h2 : k - X.length = 0
    · have hq : (a, .inl (cI, L, .inl g)) = q := by rw [h2] at hk; exact Option.some.inj hk
      subst hq
      have := hP k (a, .inl (cI, L, .inl f)) (by rw [List.getElem?_append_right (by omega), h2]; rfl)
      show H[a]? = some (vp_cell cI (L, .inl g))
      rw [← e]
      exact this
    · obtain ⟨j, hj⟩ : ∃ j, k - X.length = j + 1 := ⟨k - X.length - 1, by omega⟩
      rw [hj, List.getElem?_cons_succ] at hk
      exact hP k q (by rw [List.getElem?_append_right (by omega), hj, List.getElem?_cons_succ]; exact hk)
def fl_up (f : Nat → Int32) (x : Int32) (i : Nat) : Nat → Int32 := fun j => if j < i then x else f j
theorem fl_step (f : Nat → Int32) (x : Int32) (i : Nat) : upd (fl_up f x i) i x = fl_up f x (i + 1) := by
  funext j
  unfold upd fl_up
  by_cases h : j = i
  · subst h; simp
  · rw [if_neg h]
    by_cases h2 : j < i
    · rw [if_pos h2, if_pos (by omega)]
    · rw [if_neg h2, if_neg (by omega)]
theorem fl_zero (f : Nat → Int32) (x : Int32) : fl_up f x 0 = f := by
  funext j
  simp [fl_up]

set_option maxHeartbeats 4000000 in
set_option maxRecDepth 100000 in
/-- an array of ints is filled -/
theorem c_A_fill (l : Launch) (D : va_G) (tI tZ tA tJ : ClassId) (a L sz : Nat) (f : Nat → Int32) (x : Int32) : ob_M l y_A_fill w_A_fill ({ frames := 0, cells := 0, slots := 0, locals := 0 }) (pW D tI tZ tA tJ [.ref a, .int x] [(a, .inl (tI, L, .inl f))] sz (L < 2 ^ 31)) (ob_qW D vcl none [(a, .inl (tI, L, .inl (fun _ => x)))] (va_A [(a, .inl (tI, L, .inl f))] sz)) 0 0 (va_A [(a, .inl (tI, L, .inl f))] sz) := by
  refine ob_ofW (by decide +kernel) ?_
  intro p e s m args below meth c s₁ B hml htab hv
  obtain ⟨rfl, hT, hL, hsz, hP, hD0⟩ := hv
  have hx := B.exec
  have hb := B.bytes
  have hr := B.returns
  have hlocks := B.notSynchronized
  have hown : s.vm.findClass R_A = some m.cls := findClass_of_methodNamed B.named
  have hl := lv_entry ([.ref a, .int x]) (n := 4) (Nat.le_of_ble_eq_true rfl)
  rw [lg_entry_eq]
  generalize (lg_sl ([.ref a, .int x]) ++ List.replicate (4 - (lg_sl ([.ref a, .int x])).length) Slot.unset).toArray = ls at hl ⊢
  have hl : lv_has ls 4 [(0, .ref a), (1, .int x)] := hl
  subst hsz
  have hD := hD0.self (sz := s.heap.size)
  generalize hAe : va_A ([(a, .inl (tI, L, .inl f))]) s.heap.size = A at hD ⊢
  have hA : ∀ q : Nat, s.heap.size ≤ q → A q := fun q h => by rw [← hAe]; exact Or.inr h
  have hS : va_S A s.heap s.heap [] := va_S.rf
  have loop : ∀ (n i : Nat) (ls : Array Slot) (H : Heap) (locs : List Loc), i + n = L → lv_has ls 4 [(2, .int (nI i)), (3, .int (nI L)), (0, .ref a), (1, .int x)] → va_P D vcl [(a, .inl (tI, L, .inl (fl_up f x i)))] H → va_D A [(a, .inl (tI, L, .inl (fl_up f x i)))] → va_S A s.heap H locs → W p l e ({ frames := 0, cells := 0, slots := 0, locals := 0 } : Room) s m ([.ref a, .int x] : List Value).toArray below meth c H locs 0 0 (ob_Q below (ob_qW D vcl none [(a, .inl (tI, L, .inl (fun _ => x)))] A) ([.ref a, .int x] : List Value).toArray s 0 0 A) (F0 m 5 ls []) := by
    intro n
    induction n with
    | zero =>
      intro i ls H locs hi hl hP hD hS
      refine lv_iload_n hx hb d_A_fill_5 rfl (lv_at hl 0 rfl) ?_
      refine lv_iload_n hx hb d_A_fill_6 rfl (lv_at hl 1 rfl) ?_
      refine lv_icmp_ge (tgt := 20) hx hb d_A_fill_7 (by decide) (fun hc => ?_) (fun hc => absurd (nI_le (by omega) (by omega)) hc)
      refine ob_vret hlocks hx hb hr d_A_fill_20 hS.2.2 (fun t ht hW => ?_)
      have hP2 := arr_congr (X := []) (g := fun _ => x) (fun j hj => if_pos (show j < i by omega)) hP
      exact ⟨rfl, by rw [ht]; exact hP2, hD.set (p := 0) (e := .inl (tI, L, .inl (fun _ => x))) rfl, hS.F ht⟩
    | succ n ih =>
      intro i ls H locs hi hl hP hD hS
      refine lv_iload_n hx hb d_A_fill_5 rfl (lv_at hl 0 rfl) ?_
      refine lv_iload_n hx hb d_A_fill_6 rfl (lv_at hl 1 rfl) ?_
      refine lv_icmp_ge (tgt := 20) hx hb d_A_fill_7 (by decide) (fun hc => absurd hc (nI_ge (by omega) (by omega))) (fun hc => ?_)
      refine lv_aload_n hx hb d_A_fill_10 rfl (lv_at hl 2 rfl) ?_
      refine lv_iload_n hx hb d_A_fill_11 rfl (lv_at hl 0 rfl) ?_
      refine lv_iload_n hx hb d_A_fill_12 rfl (lv_at hl 3 rfl) ?_
      refine va_iast hx hb hT.1 hP hD hS 0 0 rfl rfl (vp_in_nI (by omega) (by omega)) d_A_fill_13 (fun H locs hP hD hS => ?_)
      rw [nI_clamp (by omega)] at hP hD
      have hP : va_P D vcl [(a, .inl (tI, L, .inl (fl_up f x (i + 1))))] H := by rw [← fl_step]; exact hP
      have hD : va_D A [(a, .inl (tI, L, .inl (fl_up f x (i + 1))))] := by rw [← fl_step]; exact hD
      refine lv_iinc (k := 0) (v := nI (i + 1)) (lv' := [(2, .int (nI (i + 1))), (3, .int (nI L)), (0, .ref a), (1, .int x)]) hx hb d_A_fill_14 hl rfl (nI_1 i) (by decide) rfl (fun ls hl => ?_)
      refine lv_goto (tgt := 5) hx hb d_A_fill_17 (by decide) ?_
      exact ih (i + 1) ls H locs (by omega) hl hP hD hS
  refine lv_iconst (v := 0) hx hb d_A_fill_0 (by decide) ?_
  refine lv_istore_n (lv' := [(2, .int 0), (0, .ref a), (1, .int x)]) hx hb d_A_fill_1 rfl hl (by decide) rfl (fun ls hl => ?_)
  refine lv_aload_n hx hb d_A_fill_2 rfl (lv_at hl 1 rfl) ?_
  refine va_alen (v := nI L) hx hb hT.1 hP 0 0 rfl rfl rfl d_A_fill_3 ?_
  refine lv_istore_n (lv' := [(3, .int (nI L)), (2, .int 0), (0, .ref a), (1, .int x)]) hx hb d_A_fill_4 rfl hl (by decide) rfl (fun ls hl => ?_)
  have hl : lv_has ls 4 [(2, .int (nI 0)), (3, .int (nI L)), (0, .ref a), (1, .int x)] := lv_sub hl [1, 0, 2, 3] rfl
  exact loop L 0 ls s.heap [] (by omega) hl (by rw [fl_zero]; exact hP) (by rw [fl_zero]; exact hD) hS

set_option maxHeartbeats 4000000 in
set_option maxRecDepth 100000 in
/-- M_evictInto -/
theorem c_M_evictInto (l : Launch) (D : va_G) (tI tZ tA tJ : ClassId) (b : Nat → Nat) (F S sz : Nat) (k : KM) (q : Int32) : ob_M l y_M_evictInto w_M_evictInto ({ frames := 1, cells := 0, slots := 0, locals := 20 }) (pW D tI tZ tA tJ [.ref (b 9), .int q] (mW b F S tI tZ tA k) sz (ev_ok F S k q)) (ob_qW D vcl (some (.int ((k_evict F k q).1))) (mW b F S tI tZ tA ((k_evict F k q).2)) (va_A (mW b F S tI tZ tA k) sz)) 0 0 (va_A (mW b F S tI tZ tA k) sz) := by
  refine ob_ofW (by decide +kernel) ?_
  intro p e s m args below meth c s₁ B hml htab hv
  obtain ⟨rfl, hT, hq, hsz, hP, hD0⟩ := hv
  have hx := B.exec
  have hb := B.bytes
  have hr := B.returns
  have hlocks := B.notSynchronized
  have hown : s.vm.findClass R_M = some m.cls := findClass_of_methodNamed B.named
  have hl := lv_entry ([.ref (b 9), .int q]) (n := 4) (Nat.le_of_ble_eq_true rfl)
  rw [lg_entry_eq]
  generalize (lg_sl ([.ref (b 9), .int q]) ++ List.replicate (4 - (lg_sl ([.ref (b 9), .int q])).length) Slot.unset).toArray = ls at hl ⊢
  have hl : lv_has ls 4 [(0, .ref (b 9)), (1, .int q)] := hl
  subst hsz
  have hD := hD0.self (sz := s.heap.size)
  generalize hAe : va_A (mW b F S tI tZ tA k) s.heap.size = A at hD ⊢
  have hA : ∀ q : Nat, s.heap.size ≤ q → A q := fun q h => by rw [← hAe]; exact Or.inr h
  have hS : va_S A s.heap s.heap [] := va_S.rf
  obtain ⟨hF, hqs, hhd, hr2, hrf⟩ := hq
  obtain ⟨R, hR⟩ : ∃ R, k_sweep F F (km_mk k) (km_hd k) = R := ⟨_, rfl⟩
  rw [hR] at hr2 hrf
  have e0 : k_evict F k q = (R.2, (upd (km_iF k) (ix R.2) (-1), upd (km_iS k) (ix q) (km_iF k (ix R.2)), R.1, upd (km_pl k) (ix (km_iF k (ix R.2))) (100 + q), km_ct k, km_wd k, k_next F R.2, km_fl k, km_ev k + 1)) := by unfold k_evict; rw [hR]
  rw [e0]
  have hend : ∀ (x : Int32) (ls : Array Slot) (H : Heap) (locs : List Loc), lv_has ls 4 [(2, .int x), (0, .ref (b 9)), (1, .int q)] → va_P D vcl (mW b F S tI tZ tA (ku_hd (ku_mk k R.1) R.2)) H → va_D A (mW b F S tI tZ tA (ku_hd (ku_mk k R.1) R.2)) → va_S A s.heap H locs → W p l e ({ frames := 1, cells := 0, slots := 0, locals := 20 } : Room) s m ([.ref (b 9), .int q] : List Value).toArray below meth c H locs 0 0 (ob_Q below (ob_qW D vcl (some (.int R.2)) (mW b F S tI tZ tA (upd (km_iF k) (ix R.2) (-1), upd (km_iS k) (ix q) (km_iF k (ix R.2)), R.1, upd (km_pl k) (ix (km_iF k (ix R.2))) (100 + q), km_ct k, km_wd k, k_next F R.2, km_fl k, km_ev k + 1)) A) ([.ref (b 9), .int q] : List Value).toArray s 0 0 A) (F0 m 43 ls []) := by
    intro x ls H locs hl hP hD hS
    refine lv_aload_n hx hb d_M_evictInto_43 rfl (lv_at hl 1 rfl) ?_
    refine va_get (D := D) (ci := 1) (v := .int R.2) hx hb hT.lays ly_M hown hT.1 hP 0 rfl rfl 6 (by decide) (hT.w k_M_79) (fun _ h => h) rfl d_M_evictInto_44 ?_
    refine lv_istore_n (lv' := [(2, .int R.2), (0, .ref (b 9)), (1, .int q)]) hx hb d_M_evictInto_47 rfl hl (by decide) rfl (fun ls hl => ?_)
    refine lv_aload_n hx hb d_M_evictInto_48 rfl (lv_at hl 1 rfl) ?_
    refine va_get (D := D) (ci := 1) (v := .ref (b 10)) hx hb hT.lays ly_M hown hT.1 hP 0 rfl rfl 0 (by decide) (hT.w k_M_13) (fun _ h => h) rfl d_M_evictInto_49 ?_
    refine lv_iload_n hx hb d_M_evictInto_52 rfl (lv_at hl 0 rfl) ?_
    refine va_iald hx hb hT.1 hP 1 0 rfl rfl (hr2) d_M_evictInto_53 ?_
    refine lv_istore_n (lv' := [(3, .int (km_iF k (ix R.2))), (2, .int R.2), (0, .ref (b 9)), (1, .int q)]) hx hb d_M_evictInto_54 rfl hl (by decide) rfl (fun ls hl => ?_)
    refine lv_aload_n hx hb d_M_evictInto_55 rfl (lv_at hl 2 rfl) ?_
    refine va_get (D := D) (ci := 1) (v := .ref (b 11)) hx hb hT.lays ly_M hown hT.1 hP 0 rfl rfl 1 (by decide) (hT.w k_M_19) (fun _ h => h) rfl d_M_evictInto_56 ?_
    refine lv_iload_n hx hb d_M_evictInto_59 rfl (lv_at hl 3 rfl) ?_
    refine lv_iload_n hx hb d_M_evictInto_60 rfl (lv_at hl 0 rfl) ?_
    refine va_iast hx hb hT.1 hP hD hS 2 0 rfl rfl (hqs) d_M_evictInto_61 (fun H locs hP hD hS => ?_)
    have hP : va_P D vcl (mW b F S tI tZ tA (ku_iS (ku_hd (ku_mk k R.1) R.2) (upd (km_iS (ku_hd (ku_mk k R.1) R.2)) (ix q) (km_iF k (ix R.2))))) H := hP
    have hD : va_D A (mW b F S tI tZ tA (ku_iS (ku_hd (ku_mk k R.1) R.2) (upd (km_iS (ku_hd (ku_mk k R.1) R.2)) (ix q) (km_iF k (ix R.2))))) := hD
    refine lv_aload_n hx hb d_M_evictInto_62 rfl (lv_at hl 2 rfl) ?_
    refine va_get (D := D) (ci := 1) (v := .ref (b 13)) hx hb hT.lays ly_M hown hT.1 hP 0 rfl rfl 3 (by decide) (hT.w k_M_26) (fun _ h => h) rfl d_M_evictInto_63 ?_
    refine lv_iload_n hx hb d_M_evictInto_66 rfl (lv_at hl 0 rfl) ?_
    refine lv_bipush (v := 100) hx hb d_M_evictInto_67 (by decide) ?_
    refine lv_iload_n hx hb d_M_evictInto_69 rfl (lv_at hl 3 rfl) ?_
    refine lv_iadd hx hb d_M_evictInto_70 ?_
    refine va_iast hx hb hT.1 hP hD hS 4 0 rfl rfl (hrf) d_M_evictInto_71 (fun H locs hP hD hS => ?_)
    have hP : va_P D vcl (mW b F S tI tZ tA (ku_pl (ku_iS (ku_hd (ku_mk k R.1) R.2) (upd (km_iS (ku_hd (ku_mk k R.1) R.2)) (ix q) (km_iF k (ix R.2)))) (upd (km_pl (ku_iS (ku_hd (ku_mk k R.1) R.2) (upd (km_iS (ku_hd (ku_mk k R.1) R.2)) (ix q) (km_iF k (ix R.2))))) (ix (km_iF k (ix R.2))) (100 + q)))) H := hP
    have hD : va_D A (mW b F S tI tZ tA (ku_pl (ku_iS (ku_hd (ku_mk k R.1) R.2) (upd (km_iS (ku_hd (ku_mk k R.1) R.2)) (ix q) (km_iF k (ix R.2)))) (upd (km_pl (ku_iS (ku_hd (ku_mk k R.1) R.2) (upd (km_iS (ku_hd (ku_mk k R.1) R.2)) (ix q) (km_iF k (ix R.2))))) (ix (km_iF k (ix R.2))) (100 + q)))) := hD
    refine lv_aload_n hx hb d_M_evictInto_72 rfl (lv_at hl 2 rfl) ?_
    refine va_get (D := D) (ci := 1) (v := .ref (b 10)) hx hb hT.lays ly_M hown hT.1 hP 0 rfl rfl 0 (by decide) (hT.w k_M_13) (fun _ h => h) rfl d_M_evictInto_73 ?_
    refine lv_iload_n hx hb d_M_evictInto_76 rfl (lv_at hl 1 rfl) ?_
    refine lv_iconst (v := -1) hx hb d_M_evictInto_77 (by decide) ?_
    refine va_iast hx hb hT.1 hP hD hS 1 0 rfl rfl (hr2) d_M_evictInto_78 (fun H locs hP hD hS => ?_)
    have hP : va_P D vcl (mW b F S tI tZ tA (ku_iF (ku_pl (ku_iS (ku_hd (ku_mk k R.1) R.2) (upd (km_iS (ku_hd (ku_mk k R.1) R.2)) (ix q) (km_iF k (ix R.2)))) (upd (km_pl (ku_iS (ku_hd (ku_mk k R.1) R.2) (upd (km_iS (ku_hd (ku_mk k R.1) R.2)) (ix q) (km_iF k (ix R.2))))) (ix (km_iF k (ix R.2))) (100 + q))) (upd (km_iF (ku_pl (ku_iS (ku_hd (ku_mk k R.1) R.2) (upd (km_iS (ku_hd (ku_mk k R.1) R.2)) (ix q) (km_iF k (ix R.2)))) (upd (km_pl (ku_iS (ku_hd (ku_mk k R.1) R.2) (upd (km_iS (ku_hd (ku_mk k R.1) R.2)) (ix q) (km_iF k (ix R.2))))) (ix (km_iF k (ix R.2))) (100 + q)))) (ix R.2) (-1)))) H := hP
    have hD : va_D A (mW b F S tI tZ tA (ku_iF (ku_pl (ku_iS (ku_hd (ku_mk k R.1) R.2) (upd (km_iS (ku_hd (ku_mk k R.1) R.2)) (ix q) (km_iF k (ix R.2)))) (upd (km_pl (ku_iS (ku_hd (ku_mk k R.1) R.2) (upd (km_iS (ku_hd (ku_mk k R.1) R.2)) (ix q) (km_iF k (ix R.2))))) (ix (km_iF k (ix R.2))) (100 + q))) (upd (km_iF (ku_pl (ku_iS (ku_hd (ku_mk k R.1) R.2) (upd (km_iS (ku_hd (ku_mk k R.1) R.2)) (ix q) (km_iF k (ix R.2)))) (upd (km_pl (ku_iS (ku_hd (ku_mk k R.1) R.2) (upd (km_iS (ku_hd (ku_mk k R.1) R.2)) (ix q) (km_iF k (ix R.2))))) (ix (km_iF k (ix R.2))) (100 + q)))) (ix R.2) (-1)))) := hD
    refine lv_aload_n hx hb d_M_evictInto_79 rfl (lv_at hl 2 rfl) ?_
    refine lv_dup hx hb d_M_evictInto_80 rfl ?_
    refine va_get (D := D) (ci := 1) (v := .int (km_ev (ku_iF (ku_pl (ku_iS (ku_hd (ku_mk k R.1) R.2) (upd (km_iS (ku_hd (ku_mk k R.1) R.2)) (ix q) (km_iF k (ix R.2)))) (upd (km_pl (ku_iS (ku_hd (ku_mk k R.1) R.2) (upd (km_iS (ku_hd (ku_mk k R.1) R.2)) (ix q) (km_iF k (ix R.2))))) (ix (km_iF k (ix R.2))) (100 + q))) (upd (km_iF (ku_pl (ku_iS (ku_hd (ku_mk k R.1) R.2) (upd (km_iS (ku_hd (ku_mk k R.1) R.2)) (ix q) (km_iF k (ix R.2)))) (upd (km_pl (ku_iS (ku_hd (ku_mk k R.1) R.2) (upd (km_iS (ku_hd (ku_mk k R.1) R.2)) (ix q) (km_iF k (ix R.2))))) (ix (km_iF k (ix R.2))) (100 + q)))) (ix R.2) (-1))))) hx hb hT.lays ly_M hown hT.1 hP 0 rfl rfl 8 (by decide) (hT.w k_M_85) (fun _ h => h) rfl d_M_evictInto_81 ?_
    refine lv_iconst (v := 1) hx hb d_M_evictInto_84 (by decide) ?_
    refine lv_iadd hx hb d_M_evictInto_85 ?_
    refine va_put (D := D) (ci := 1) (v := .int ((km_ev k) + 1)) (ty := .int) hx hb hT.lays ly_M ty_M ty_M_ok n_M hown hT.1 hP hD hS 0 rfl rfl 8 (by decide) (hT.w k_M_85) (fun _ h => h) rfl (by decide +kernel) rfl rfl (Nat.le_of_ble_eq_true rfl) d_M_evictInto_86 (fun H locs hP hD hS => ?_)
    have hP : va_P D vcl (mW b F S tI tZ tA (ku_ev (ku_iF (ku_pl (ku_iS (ku_hd (ku_mk k R.1) R.2) (upd (km_iS (ku_hd (ku_mk k R.1) R.2)) (ix q) (km_iF k (ix R.2)))) (upd (km_pl (ku_iS (ku_hd (ku_mk k R.1) R.2) (upd (km_iS (ku_hd (ku_mk k R.1) R.2)) (ix q) (km_iF k (ix R.2))))) (ix (km_iF k (ix R.2))) (100 + q))) (upd (km_iF (ku_pl (ku_iS (ku_hd (ku_mk k R.1) R.2) (upd (km_iS (ku_hd (ku_mk k R.1) R.2)) (ix q) (km_iF k (ix R.2)))) (upd (km_pl (ku_iS (ku_hd (ku_mk k R.1) R.2) (upd (km_iS (ku_hd (ku_mk k R.1) R.2)) (ix q) (km_iF k (ix R.2))))) (ix (km_iF k (ix R.2))) (100 + q)))) (ix R.2) (-1))) (km_ev k + 1))) H := hP
    have hD : va_D A (mW b F S tI tZ tA (ku_ev (ku_iF (ku_pl (ku_iS (ku_hd (ku_mk k R.1) R.2) (upd (km_iS (ku_hd (ku_mk k R.1) R.2)) (ix q) (km_iF k (ix R.2)))) (upd (km_pl (ku_iS (ku_hd (ku_mk k R.1) R.2) (upd (km_iS (ku_hd (ku_mk k R.1) R.2)) (ix q) (km_iF k (ix R.2))))) (ix (km_iF k (ix R.2))) (100 + q))) (upd (km_iF (ku_pl (ku_iS (ku_hd (ku_mk k R.1) R.2) (upd (km_iS (ku_hd (ku_mk k R.1) R.2)) (ix q) (km_iF k (ix R.2)))) (upd (km_pl (ku_iS (ku_hd (ku_mk k R.1) R.2) (upd (km_iS (ku_hd (ku_mk k R.1) R.2)) (ix q) (km_iF k (ix R.2))))) (ix (km_iF k (ix R.2))) (100 + q)))) (ix R.2) (-1))) (km_ev k + 1))) := hD
    refine lv_aload_n hx hb d_M_evictInto_89 rfl (lv_at hl 2 rfl) ?_
    refine ob_callW (v := none) (X := []) (M := mW b F S tI tZ tA (ku_ev (ku_iF (ku_pl (ku_iS (ku_hd (ku_mk k R.1) R.2) (upd (km_iS (ku_hd (ku_mk k R.1) R.2)) (ix q) (km_iF k (ix R.2)))) (upd (km_pl (ku_iS (ku_hd (ku_mk k R.1) R.2) (upd (km_iS (ku_hd (ku_mk k R.1) R.2)) (ix q) (km_iF k (ix R.2))))) (ix (km_iF k (ix R.2))) (100 + q))) (upd (km_iF (ku_pl (ku_iS (ku_hd (ku_mk k R.1) R.2) (upd (km_iS (ku_hd (ku_mk k R.1) R.2)) (ix q) (km_iF k (ix R.2)))) (upd (km_pl (ku_iS (ku_hd (ku_mk k R.1) R.2) (upd (km_iS (ku_hd (ku_mk k R.1) R.2)) (ix q) (km_iF k (ix R.2))))) (ix (km_iF k (ix R.2))) (100 + q)))) (ix R.2) (-1))) (km_ev k + 1))) (M' := mW b F S tI tZ tA (ku_hd (ku_ev (ku_iF (ku_pl (ku_iS (ku_hd (ku_mk k R.1) R.2) (upd (km_iS (ku_hd (ku_mk k R.1) R.2)) (ix q) (km_iF k (ix R.2)))) (upd (km_pl (ku_iS (ku_hd (ku_mk k R.1) R.2) (upd (km_iS (ku_hd (ku_mk k R.1) R.2)) (ix q) (km_iF k (ix R.2))))) (ix (km_iF k (ix R.2))) (100 + q))) (upd (km_iF (ku_pl (ku_iS (ku_hd (ku_mk k R.1) R.2) (upd (km_iS (ku_hd (ku_mk k R.1) R.2)) (ix q) (km_iF k (ix R.2)))) (upd (km_pl (ku_iS (ku_hd (ku_mk k R.1) R.2) (upd (km_iS (ku_hd (ku_mk k R.1) R.2)) (ix q) (km_iF k (ix R.2))))) (ix (km_iF k (ix R.2))) (100 + q)))) (ix R.2) (-1))) (km_ev k + 1)) (k_next F (km_hd (ku_ev (ku_iF (ku_pl (ku_iS (ku_hd (ku_mk k R.1) R.2) (upd (km_iS (ku_hd (ku_mk k R.1) R.2)) (ix q) (km_iF k (ix R.2)))) (upd (km_pl (ku_iS (ku_hd (ku_mk k R.1) R.2) (upd (km_iS (ku_hd (ku_mk k R.1) R.2)) (ix q) (km_iF k (ix R.2))))) (ix (km_iF k (ix R.2))) (100 + q))) (upd (km_iF (ku_pl (ku_iS (ku_hd (ku_mk k R.1) R.2) (upd (km_iS (ku_hd (ku_mk k R.1) R.2)) (ix q) (km_iF k (ix R.2)))) (upd (km_pl (ku_iS (ku_hd (ku_mk k R.1) R.2) (upd (km_iS (ku_hd (ku_mk k R.1) R.2)) (ix q) (km_iF k (ix R.2))))) (ix (km_iF k (ix R.2))) (100 + q)))) (ix R.2) (-1))) (km_ev k + 1)))))) (ob_runV (As := []) (rest := []) (c_M_moveHand l D tI tZ tA tJ b F S H.size (ku_ev (ku_iF (ku_pl (ku_iS (ku_hd (ku_mk k R.1) R.2) (upd (km_iS (ku_hd (ku_mk k R.1) R.2)) (ix q) (km_iF k (ix R.2)))) (upd (km_pl (ku_iS (ku_hd (ku_mk k R.1) R.2) (upd (km_iS (ku_hd (ku_mk k R.1) R.2)) (ix q) (km_iF k (ix R.2))))) (ix (km_iF k (ix R.2))) (100 + q))) (upd (km_iF (ku_pl (ku_iS (ku_hd (ku_mk k R.1) R.2) (upd (km_iS (ku_hd (ku_mk k R.1) R.2)) (ix q) (km_iF k (ix R.2)))) (upd (km_pl (ku_iS (ku_hd (ku_mk k R.1) R.2) (upd (km_iS (ku_hd (ku_mk k R.1) R.2)) (ix q) (km_iF k (ix R.2))))) (ix (km_iF k (ix R.2))) (100 + q)))) (ix R.2) (-1))) (km_ev k + 1))) (hT.ok ob_cd_c (by decide +kernel) rfl rfl (Nat.le_of_ble_eq_true rfl) (Nat.le_of_ble_eq_true rfl) kn_M kc_M_moveHand) hx hb hml hown (hT.w k_M_82) (hT.w ki_M_moveHand) (hT.w kv_M_moveHand) (va_recv (q0 := 0) (ci := 1) hT.1 hP rfl rfl) pW.blind (pW.at hT (trivial) hP hD) rfl rfl hl.1 rfl (lv_room (Nat.le_of_ble_eq_true rfl)) d_M_evictInto_90 ⟨Nat.le_of_ble_eq_true rfl, Nat.le_of_ble_eq_true rfl⟩) hP hD hS hA (fun H locs hP hD hS => ?_)
    have hP : va_P D vcl (mW b F S tI tZ tA (upd (km_iF k) (ix R.2) (-1), upd (km_iS k) (ix q) (km_iF k (ix R.2)), R.1, upd (km_pl k) (ix (km_iF k (ix R.2))) (100 + q), km_ct k, km_wd k, k_next F R.2, km_fl k, km_ev k + 1)) H := hP
    have hD : va_D A (mW b F S tI tZ tA (upd (km_iF k) (ix R.2) (-1), upd (km_iS k) (ix q) (km_iF k (ix R.2)), R.1, upd (km_pl k) (ix (km_iF k (ix R.2))) (100 + q), km_ct k, km_wd k, k_next F R.2, km_fl k, km_ev k + 1)) := hD
    refine W.eq (g2 := F0 m 93 ls []) rfl ?_
    refine lv_iload_n hx hb d_M_evictInto_93 rfl (lv_at hl 1 rfl) ?_
    refine ob_iret hlocks hx hb hr d_M_evictInto_94 hS.2.2 (fun t ht hW => ?_)
    exact ⟨rfl, by rw [ht]; exact hP, hD, hS.F ht⟩
  have loop : ∀ (n i : Nat) (mq : Nat → Int32) (h : Int32) (ls : Array Slot) (H : Heap) (locs : List Loc), i + n = F → k_sweep F n mq h = R → vp_in h F → lv_has ls 4 [(2, .int (nI i)), (0, .ref (b 9)), (1, .int q)] → va_P D vcl (mW b F S tI tZ tA (ku_hd (ku_mk k mq) h)) H → va_D A (mW b F S tI tZ tA (ku_hd (ku_mk k mq) h)) → va_S A s.heap H locs → W p l e ({ frames := 1, cells := 0, slots := 0, locals := 20 } : Room) s m ([.ref (b 9), .int q] : List Value).toArray below meth c H locs 0 0 (ob_Q below (ob_qW D vcl (some (.int R.2)) (mW b F S tI tZ tA (upd (km_iF k) (ix R.2) (-1), upd (km_iS k) (ix q) (km_iF k (ix R.2)), R.1, upd (km_pl k) (ix (km_iF k (ix R.2))) (100 + q), km_ct k, km_wd k, k_next F R.2, km_fl k, km_ev k + 1)) A) ([.ref (b 9), .int q] : List Value).toArray s 0 0 A) (F0 m 2 ls []) := by
    intro n
    induction n with
    | zero =>
      intro i mq h ls H locs hi hs hh hl hP hD hS
      subst hs
      refine lv_iload_n hx hb d_M_evictInto_2 rfl (lv_at hl 0 rfl) ?_
      refine lv_aload_n hx hb d_M_evictInto_3 rfl (lv_at hl 1 rfl) ?_
      refine va_get (D := D) (ci := 1) (v := .ref (b 12)) hx hb hT.lays ly_M hown hT.1 hP 0 rfl rfl 2 (by decide) (hT.w k_M_22) (fun _ h => h) rfl d_M_evictInto_4 ?_
      refine va_alen (v := nI F) hx hb hT.1 hP 3 1 rfl rfl rfl d_M_evictInto_7 ?_
      refine lv_icmp_ge (tgt := 43) hx hb d_M_evictInto_8 (by decide) (fun hc => ?_) (fun hc => absurd (nI_le (by omega) (by omega)) hc)
      exact hend _ ls H locs hl hP hD hS
    | succ n ih =>
      intro i mq h ls H locs hi hs hh hl hP hD hS
      refine lv_iload_n hx hb d_M_evictInto_2 rfl (lv_at hl 0 rfl) ?_
      refine lv_aload_n hx hb d_M_evictInto_3 rfl (lv_at hl 1 rfl) ?_
      refine va_get (D := D) (ci := 1) (v := .ref (b 12)) hx hb hT.lays ly_M hown hT.1 hP 0 rfl rfl 2 (by decide) (hT.w k_M_22) (fun _ h => h) rfl d_M_evictInto_4 ?_
      refine va_alen (v := nI F) hx hb hT.1 hP 3 1 rfl rfl rfl d_M_evictInto_7 ?_
      refine lv_icmp_ge (tgt := 43) hx hb d_M_evictInto_8 (by decide) (fun hc => absurd hc (nI_ge (by omega) (by omega))) (fun hc => ?_)
      refine lv_aload_n hx hb d_M_evictInto_11 rfl (lv_at hl 1 rfl) ?_
      refine va_get (D := D) (ci := 1) (v := .ref (b 12)) hx hb hT.lays ly_M hown hT.1 hP 0 rfl rfl 2 (by decide) (hT.w k_M_22) (fun _ h => h) rfl d_M_evictInto_12 ?_
      refine lv_aload_n hx hb d_M_evictInto_15 rfl (lv_at hl 1 rfl) ?_
      refine va_get (D := D) (ci := 1) (v := .int h) hx hb hT.lays ly_M hown hT.1 hP 0 rfl rfl 6 (by decide) (hT.w k_M_79) (fun _ h => h) rfl d_M_evictInto_16 ?_
      refine va_zald hx hb hT.1 hP 3 1 rfl rfl (hh) d_M_evictInto_19 ?_
      refine lv_if_eq (tgt := 43) hx hb d_M_evictInto_20 (by decide) (fun hc => ?_) (fun hc => ?_)
      · have e1 : k_sweep F (n + 1) mq h = (mq, h) := if_pos hc
        rw [e1] at hs
        subst hs
        exact hend _ ls H locs hl hP hD hS
      · have e1 : k_sweep F (n + 1) mq h = k_sweep F n (upd mq (ix h) 0) (k_next F h) := if_neg hc
        rw [e1] at hs
        refine lv_aload_n hx hb d_M_evictInto_23 rfl (lv_at hl 1 rfl) ?_
        refine va_get (D := D) (ci := 1) (v := .ref (b 12)) hx hb hT.lays ly_M hown hT.1 hP 0 rfl rfl 2 (by decide) (hT.w k_M_22) (fun _ h => h) rfl d_M_evictInto_24 ?_
        refine lv_aload_n hx hb d_M_evictInto_27 rfl (lv_at hl 1 rfl) ?_
        refine va_get (D := D) (ci := 1) (v := .int h) hx hb hT.lays ly_M hown hT.1 hP 0 rfl rfl 6 (by decide) (hT.w k_M_79) (fun _ h => h) rfl d_M_evictInto_28 ?_
        refine lv_iconst (v := 0) hx hb d_M_evictInto_31 (by decide) ?_
        refine va_zast hx hb hT.1 hP hD hS 3 1 rfl rfl (hh) d_M_evictInto_32 (fun H locs hP hD hS => ?_)
        rw [nar0] at hP hD
        have hP : va_P D vcl (mW b F S tI tZ tA (ku_hd (ku_mk k (upd mq (ix h) 0)) h)) H := hP
        have hD : va_D A (mW b F S tI tZ tA (ku_hd (ku_mk k (upd mq (ix h) 0)) h)) := hD
        refine lv_aload_n hx hb d_M_evictInto_33 rfl (lv_at hl 1 rfl) ?_
        refine ob_callW (v := none) (X := []) (M := mW b F S tI tZ tA (ku_hd (ku_mk k (upd mq (ix h) 0)) h)) (M' := mW b F S tI tZ tA (ku_hd (ku_hd (ku_mk k (upd mq (ix h) 0)) h) (k_next F (km_hd (ku_hd (ku_mk k (upd mq (ix h) 0)) h))))) (ob_runV (As := []) (rest := []) (c_M_moveHand l D tI tZ tA tJ b F S H.size (ku_hd (ku_mk k (upd mq (ix h) 0)) h)) (hT.ok ob_cd_c (by decide +kernel) rfl rfl (Nat.le_of_ble_eq_true rfl) (Nat.le_of_ble_eq_true rfl) kn_M kc_M_moveHand) hx hb hml hown (hT.w k_M_82) (hT.w ki_M_moveHand) (hT.w kv_M_moveHand) (va_recv (q0 := 0) (ci := 1) hT.1 hP rfl rfl) pW.blind (pW.at hT (trivial) hP hD) rfl rfl hl.1 rfl (lv_room (Nat.le_of_ble_eq_true rfl)) d_M_evictInto_34 ⟨Nat.le_of_ble_eq_true rfl, Nat.le_of_ble_eq_true rfl⟩) hP hD hS hA (fun H locs hP hD hS => ?_)
        have hP : va_P D vcl (mW b F S tI tZ tA (ku_hd (ku_mk k (upd mq (ix h) 0)) (k_next F h))) H := hP
        have hD : va_D A (mW b F S tI tZ tA (ku_hd (ku_mk k (upd mq (ix h) 0)) (k_next F h))) := hD
        refine W.eq (g2 := F0 m 37 ls []) rfl ?_
        refine lv_iinc (k := 0) (v := nI (i + 1)) (lv' := [(2, .int (nI (i + 1))), (0, .ref (b 9)), (1, .int q)]) hx hb d_M_evictInto_37 hl rfl (nI_1 i) (by decide) rfl (fun ls hl => ?_)
        refine lv_goto (tgt := 2) hx hb d_M_evictInto_40 (by decide) ?_
        exact ih (i + 1) _ _ ls H locs (by omega) hs (k_next_in hF hh) hl hP hD hS
  refine lv_iconst (v := 0) hx hb d_M_evictInto_0 (by decide) ?_
  refine lv_istore_n (lv' := [(2, .int 0), (0, .ref (b 9)), (1, .int q)]) hx hb d_M_evictInto_1 rfl hl (by decide) rfl (fun ls hl => ?_)
  exact loop F 0 (km_mk k) (km_hd k) ls s.heap [] (by omega) hR hhd hl hP hD hS
