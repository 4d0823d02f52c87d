theorem n24 {x : Nat} (hx : x ≤ 24) : (24 : Int32) - nI x = nI (24 - x) := by
  have h : nI (24 - x) + nI x = 24 := by rw [nI_add, show 24 - x + x = 24 by omega]; rfl
  rw [← h, Int32.add_sub_cancel]
theorem le0_nI {n : Int32} (h0 : ¬ n < 0) (h1 : n ≤ 0) : n = nI 0 := by
  obtain ⟨e, hl⟩ := cl_mid (n := 0) h0 (by omega) (Int32.not_lt.mpr h1)
  rw [e, show ix n = 0 by omega]
theorem rng_of {a n : Int32} (h : ¬ k_rng a n = 0) : ∃ m, m ≤ 24 ∧ n = nI m ∧ (m = 0 ∨ ∃ x, a = nI x ∧ x + m ≤ 24) := by
  unfold k_rng at h
  by_cases h0 : 0 ≤ n
  · rw [if_pos h0] at h
    have hn0 : ¬ n < 0 := Int32.not_lt.mpr h0
    by_cases h1 : n ≤ 0
    · exact ⟨0, by omega, le0_nI hn0 h1, Or.inl rfl⟩
    · rw [if_neg h1] at h
      by_cases h2 : a < 0
      · rw [if_pos h2] at h; exact absurd rfl h
      · rw [if_neg h2] at h
        by_cases h3 : 24 ≤ a
        · rw [if_pos h3] at h; exact absurd rfl h
        · rw [if_neg h3] at h
          by_cases h4 : n ≤ 24 - a
          · obtain ⟨x, hx, e, -⟩ := pk_mu (L := 24) h2 h3 (by omega)
            rw [e, n24 (by omega)] at h4
            obtain ⟨e2, hl⟩ := cl_mid (n := 24 - x) hn0 (by omega) (Int32.not_lt.mpr h4)
            exact ⟨ix n, by omega, e2, Or.inr ⟨x, e, by omega⟩⟩
          · rw [if_neg h4] at h; exact absurd rfl h
  · rw [if_neg h0] at h; exact absurd rfl h
theorem rng_ok {a n : Int32} {m : Nat} (hm : m ≤ 24) (hn : n = nI m) (h : m = 0 ∨ ∃ x, a = nI x ∧ x + m ≤ 24) : ¬ k_rng a n = 0 := by
  subst hn
  unfold k_rng
  rw [if_pos (nI_ge0 (by omega))]
  rcases h with h | ⟨x, rfl, hx⟩
  · subst h
    rw [if_pos (by decide)]; decide
  · by_cases hz : nI m ≤ 0
    · rw [if_pos hz]; decide
    · have hmp : 0 < m := Nat.pos_of_ne_zero fun z => hz (by rw [z]; decide)
      rw [if_neg hz, if_neg (nI_nlt0 (by omega)), if_neg (fun z => by have := (nI_leI (a := 24) (by omega) (by omega)).mp z; omega), n24 (by omega), if_pos ((nI_leI (by omega) (by omega)).mpr (by omega))]
      decide
theorem bad_of {a d n : Int32} (h : m_bad a d n = 0) : ∃ m, m ≤ 24 ∧ n = nI m ∧ (m = 0 ∨ ∃ x y, a = nI x ∧ x + m ≤ 24 ∧ d = nI y ∧ y + m ≤ 24) := by
  unfold m_bad at h
  by_cases h0 : n < 0
  · rw [if_pos h0] at h; exact absurd h (by decide)
  · rw [if_neg h0] at h
    by_cases h1 : 24 < n
    · rw [if_pos h1] at h; exact absurd h (by decide)
    · rw [if_neg h1] at h
      obtain ⟨e, hl⟩ := cl_mid (n := 24) h0 (by omega) h1
      by_cases h2 : n ≤ 0
      · exact ⟨0, by omega, le0_nI h0 h2, Or.inl rfl⟩
      · rw [if_neg h2] at h
        by_cases h3 : m_isA a = 0
        · rw [if_pos h3] at h; exact absurd h (by decide)
        · rw [if_neg h3] at h
          by_cases h4 : m_isA d = 0
          · rw [if_pos h4] at h; exact absurd h (by decide)
          · rw [if_neg h4] at h
            obtain ⟨x, hx, rfl⟩ := isA_of h3
            obtain ⟨y, hy, rfl⟩ := isA_of h4
            rw [e, nI_add, nI_add] at h
            by_cases h5 : 24 < nI (x + ix n)
            · rw [if_pos h5] at h; exact absurd h (by decide)
            · rw [if_neg h5] at h
              by_cases h6 : nI (y + ix n) ≤ 24
              · refine ⟨ix n, hl, e, Or.inr ⟨x, y, rfl, ?_, rfl, (nI_leI (b := 24) (by omega) (by omega)).mp h6⟩⟩
                exact (nI_leI (b := 24) (by omega) (by omega)).mp (Int32.not_lt.mp h5)
              · rw [if_neg h6] at h; exact absurd h (by decide)
theorem isA_nI {x : Nat} (hx : x < 24) : ¬ m_isA (nI x) = 0 := by
  unfold m_isA
  rw [if_neg (nI_nlt0 (by omega)), if_neg (fun z => by have := (nI_leI (a := 24) (by omega) (by omega)).mp z; omega)]
  decide
theorem bad_ok {a d n : Int32} {m : Nat} (hm : m ≤ 24) (hn : n = nI m) (h : m = 0 ∨ ∃ x y, a = nI x ∧ x + m ≤ 24 ∧ d = nI y ∧ y + m ≤ 24) : m_bad a d n = 0 := by
  subst hn
  unfold m_bad
  rw [if_neg (nI_nlt0 (by omega)), if_neg (show ¬ (24 : Int32) < nI m from Int32.not_lt.mpr ((nI_leI (b := 24) (by omega) (by omega)).mpr hm))]
  rcases h with h | ⟨x, y, rfl, hx, rfl, hy⟩
  · subst h
    rw [if_pos (by decide)]
  · by_cases hz : nI m ≤ 0
    · rw [if_pos hz]
    · have hmp : 0 < m := Nat.pos_of_ne_zero fun z => hz (by rw [z]; decide)
      rw [if_neg hz, if_neg (isA_nI (by omega)), if_neg (isA_nI (by omega)), nI_add, nI_add, if_neg (show ¬ (24 : Int32) < nI (x + m) from Int32.not_lt.mpr ((nI_leI (b := 24) (by omega) (by omega)).mpr hx)), if_pos (show nI (y + m) ≤ (24 : Int32) from (nI_leI (b := 24) (by omega) (by omega)).mpr hy)]
theorem bad_rng {a d n : Int32} : m_bad a d n = 0 ↔ (¬ k_rng a n = 0 ∧ ¬ k_rng d n = 0) := by
  constructor
  · intro h
    obtain ⟨m, hm, hn, h2⟩ := bad_of h
    rcases h2 with h2 | ⟨x, y, e1, hx, e2, hy⟩
    · exact ⟨rng_ok hm hn (Or.inl h2), rng_ok hm hn (Or.inl h2)⟩
    · exact ⟨rng_ok hm hn (Or.inr ⟨x, e1, hx⟩), rng_ok hm hn (Or.inr ⟨y, e2, hy⟩)⟩
  · rintro ⟨h1, h2⟩
    obtain ⟨m, hm, hn, g1⟩ := rng_of h1
    obtain ⟨m', hm', hn', g2⟩ := rng_of h2
    have : m' = m := nI_inj (by omega) (by omega) (hn'.symm.trans hn)
    subst this
    refine bad_ok hm hn ?_
    rcases g1 with g1 | ⟨x, e1, hx⟩
    · exact Or.inl g1
    · rcases g2 with g2 | ⟨y, e2, hy⟩
      · exact Or.inl g2
      · exact Or.inr ⟨x, y, e1, hx, e2, hy⟩
section SIM2
variable {F S : Nat} {q : KS}
theorem sim_load (h : Inv F S q) (p0 a : Int32) : (¬ m_isP (ks_th q) p0 = 0 → ¬ m_isA a = 0 → xl_ok F S q p0 a) ∧ (¬ m_isP (ks_th q) p0 = 0 → ¬ m_isA a = 0 → ml_ok F S (cv q) p0 a) ∧ m_load F S (cv q) p0 a = ((kk_load F S q p0 a).1, (kk_load F S q p0 a).2.1, cv (kk_load F S q p0 a).2.2) ∧ Inv F S (kk_load F S q p0 a).2.2 := by
  by_cases hp0 : m_isP (ks_th q) p0 = 0
  · have e1 : kk_load F S q p0 a = (0, 1, q) := if_pos hp0
    have e2 : m_load F S (cv q) p0 a = (0, 1, cv q) := if_pos hp0
    rw [e1, e2]
    exact ⟨fun z => absurd hp0 z, fun z => absurd hp0 z, rfl, h⟩
  · by_cases ha0 : m_isA a = 0
    · have e1 : kk_load F S q p0 a = (0, 2, q) := by unfold kk_load; rw [if_neg hp0, if_pos ha0]
      have e2 : m_load F S (cv q) p0 a = (0, 2, cv q) := by unfold m_load; rw [if_neg hp0, if_pos ha0]
      rw [e1, e2]
      exact ⟨fun _ z => absurd ha0 z, fun _ z => absurd ha0 z, rfl, h⟩
    · obtain ⟨p, hp, rfl, hth⟩ := isP_of hp0
      obtain ⟨x, hx, rfl⟩ := isA_of ha0
      obtain ⟨g1, g2, g3, g4, -⟩ := h.load hp hx
      have e1 : kk_load F S q (nI p) (nI x) = ((k_loadW F S q (nI p) (nI x)).1, 0, (k_loadW F S q (nI p) (nI x)).2) := by unfold kk_load; rw [if_neg hp0, if_neg ha0]
      have e2 : m_load F S (cv q) (nI p) (nI x) = ((m_loaded F S (cv q) (nI p) (nI x)).1, 0, (m_loaded F S (cv q) (nI p) (nI x)).2) := by unfold m_load; rw [if_neg hp0, if_neg ha0]
      rw [e1, e2, g4]
      exact ⟨fun _ _ => g1, fun _ _ => g2 (ks_th q), rfl, g3⟩
theorem sim_store (h : Inv F S q) (p0 a v : Int32) : (¬ m_isP (ks_th q) p0 = 0 → ¬ m_isA a = 0 → (k_no F S q p0 (a / 4) = 0 → xs_ok F S q p0 a) ∧ (¬ k_no F S q p0 (a / 4) = 0 → xt_ok F S q p0 a)) ∧
    (F ≤ 8 ∧ S ≤ 10 ∧ (¬ m_isP (ks_th q) p0 = 0 → ¬ m_isA a = 0 → vp_in (6 * p0 + a / 4) 36 ∧ (m_needs (cvp (ks_pg q)) p0 a = 0 ∨ ¬ m_canMake F S (km_pl (ks_m q)) = 0 → ms_ok F S (cv q) p0 a))) ∧
    m_store F S (cv q) p0 a v = ((kk_store F S q p0 a v).1, cv (kk_store F S q p0 a v).2) ∧ Inv F S (kk_store F S q p0 a v).2 := by
  have hFS := h.1.1
  by_cases hp0 : m_isP (ks_th q) p0 = 0
  · have e1 : kk_store F S q p0 a v = (1, q) := if_pos hp0
    have e2 : m_store F S (cv q) p0 a v = (1, cv q) := if_pos hp0
    rw [e1, e2]
    exact ⟨fun z => absurd hp0 z, ⟨by omega, by omega, fun z => absurd hp0 z⟩, rfl, h⟩
  · by_cases ha0 : m_isA a = 0
    · have e1 : kk_store F S q p0 a v = (2, q) := by unfold kk_store; rw [if_neg hp0, if_pos ha0]
      have e2 : m_store F S (cv q) p0 a v = (2, cv q) := by unfold m_store; rw [if_neg hp0, if_pos ha0]
      rw [e1, e2]
      exact ⟨fun _ z => absurd ha0 z, ⟨by omega, by omega, fun _ z => absurd ha0 z⟩, rfl, h⟩
    · obtain ⟨p, hp, rfl, hth⟩ := isP_of hp0
      obtain ⟨x, hx, rfl⟩ := isA_of ha0
      obtain ⟨hiff, href⟩ := h.no hp hx
      have h36 : vp_in (6 * nI p + nI x / 4) 36 := by
        rw [dv4 x hx]
        exact ix6 (vp_in_nI hp (by omega)) (by omega)
      have em : m_store F S (cv q) (nI p) (nI x) v = if m_needs (cvp (ks_pg q)) (nI p) (nI x) = 0 then (0, m_stored F S (cv q) (nI p) (nI x) v) else if m_canMake F S (km_pl (ks_m q)) = 0 then (3, cv q) else (0, m_stored F S (cv q) (nI p) (nI x) v) := by
        unfold m_store
        show (if m_isP (ks_th q) (nI p) = 0 then _ else _) = _
        rw [if_neg hp0, if_neg ha0]
      by_cases hno : k_no F S q (nI p) (nI x / 4) = 0
      · obtain ⟨g1, g2, g3, g4, -⟩ := h.store hp hx hth hno v
        have e1 : kk_store F S q (nI p) (nI x) v = (0, k_storeW F S q (nI p) (nI x) v) := by unfold kk_store; rw [if_neg hp0, if_neg ha0, if_pos hno]
        have hor := hiff.mp hno
        have e2 : m_store F S (cv q) (nI p) (nI x) v = (0, cv (k_storeW F S q (nI p) (nI x) v)) := by
          rw [em, ← g4]
          by_cases hz : m_needs (cvp (ks_pg q)) (nI p) (nI x) = 0
          · rw [if_pos hz]
          · rw [if_neg hz, if_neg (hor.elim (fun z => absurd z hz) id)]
        rw [e1, e2]
        exact ⟨fun _ _ => ⟨fun _ => g1, fun z => absurd hno z⟩, ⟨by omega, by omega, fun _ _ => ⟨h36, fun _ => g2⟩⟩, rfl, g3⟩
      · obtain ⟨hsame, hxt, hn1, hc1⟩ := href hno
        have e1 : kk_store F S q (nI p) (nI x) v = (3, q) := by unfold kk_store; rw [if_neg hp0, if_neg ha0, if_neg hno, hsame]
        have e2 : m_store F S (cv q) (nI p) (nI x) v = (3, cv q) := by rw [em, if_neg hn1, if_pos hc1]
        rw [e1, e2]
        exact ⟨fun _ _ => ⟨fun z => absurd z hno, fun _ => hxt⟩, ⟨by omega, by omega, fun _ _ => ⟨h36, fun z => z.elim (fun z => absurd z hn1) (fun z => absurd hc1 z)⟩⟩, rfl, h⟩
theorem sim_copy (h : Inv F S q) (p0 a d n : Int32) : (¬ m_isP (ks_th q) p0 = 0 → ¬ k_rng a n = 0 → ¬ k_rng d n = 0 → vp_in n 25 ∧ kc_ok F S p0 a d (ix n) 0 (kv_cp q 0)) ∧
    (F ≤ 8 ∧ S ≤ 10 ∧ (¬ m_isP (ks_th q) p0 = 0 → m_bad a d n = 0 → vp_in n 25 ∧ mc_ok F S p0 a d (ix n) (su_cp (cv q) 0))) ∧
    m_copy F S (cv q) p0 a d n = ((kk_copy F S q p0 a d n).1, cv (kk_copy F S q p0 a d n).2) ∧ Inv F S (kk_copy F S q p0 a d n).2 := by
  have hFS := h.1.1
  by_cases hp0 : m_isP (ks_th q) p0 = 0
  · have e1 : kk_copy F S q p0 a d n = (1, q) := if_pos hp0
    have e2 : m_copy F S (cv q) p0 a d n = (1, cv q) := if_pos hp0
    rw [e1, e2]
    exact ⟨fun z => absurd hp0 z, ⟨by omega, by omega, fun z => absurd hp0 z⟩, rfl, h⟩
  · by_cases hb : m_bad a d n = 0
    · obtain ⟨p, hp, rfl, hth⟩ := isP_of hp0
      obtain ⟨r1, r2⟩ := bad_rng.mp hb
      obtain ⟨m, hm, rfl, hxy⟩ := bad_of hb
      have hixm : ix (nI m) = m := ix_nI (by omega)
      have h0 : Inv F S (kv_cp q 0) := h
      -- both ways of it: no word, or a range
      have key : kc_ok F S (nI p) a d m 0 (kv_cp q 0) ∧ mc_ok F S (nI p) a d m (cv (kv_cp q 0)) ∧ Inv F S (k_copyL F S (nI p) a d m 0 (kv_cp q 0)).2 ∧ m_copyL F S (nI p) a d m (cv (kv_cp q 0)) = ((if (k_copyL F S (nI p) a d m 0 (kv_cp q 0)).1 = 0 then 0 else 3), cv (k_copyL F S (nI p) a d m 0 (kv_cp q 0)).2) := by
        rcases hxy with hm0 | ⟨x, y, rfl, hx, rfl, hy⟩
        · subst hm0
          exact ⟨trivial, trivial, h0, rfl⟩
        · exact Inv.copy hp m 0 (kv_cp q 0) h0 hth rfl (by omega) (by omega)
      obtain ⟨k1, k2, k3, k4⟩ := key
      obtain ⟨r, hr⟩ : ∃ r, r = k_copyL F S (nI p) a d m 0 (kv_cp q 0) := ⟨_, rfl⟩
      rw [← hr] at k3 k4
      have e1 : kk_copy F S q (nI p) a d (nI m) = if r.1 = 0 then (0, r.2) else (3, r.2) := by
        unfold kk_copy
        rw [if_neg hp0, if_neg r1, if_neg r2, hixm, ← hr]
      have e2 : m_copy F S (cv q) (nI p) a d (nI m) = ((if r.1 = 0 then 0 else 3), cv r.2) := by
        rw [← k4]
        unfold m_copy
        show (if m_isP (ks_th q) (nI p) = 0 then _ else if m_bad a d (nI m) = 0 then m_copyL F S (nI p) a d (ix (nI m)) (su_cp (cv q) 0) else _) = _
        rw [if_neg hp0, if_pos hb, hixm]
      rw [e1, e2, hixm]
      refine ⟨fun _ _ _ => ⟨vp_in_nI (by omega) (by omega), k1⟩, ⟨by omega, by omega, fun _ _ => ⟨vp_in_nI (by omega) (by omega), k2⟩⟩, ?_, ?_⟩
      · by_cases hz : r.1 = 0
        · rw [if_pos hz, if_pos hz]
        · rw [if_neg hz, if_neg hz]
      · by_cases hz : r.1 = 0
        · rw [if_pos hz]; exact k3
        · rw [if_neg hz]; exact k3
    · have e2 : m_copy F S (cv q) p0 a d n = (2, cv q) := by unfold m_copy; rw [if_neg hp0, if_neg hb]
      have e1 : kk_copy F S q p0 a d n = (2, q) := by
        unfold kk_copy
        rw [if_neg hp0]
        by_cases z1 : k_rng a n = 0
        · rw [if_pos z1]
        · rw [if_neg z1]
          by_cases z2 : k_rng d n = 0
          · rw [if_pos z2]
          · exact absurd (bad_rng.mpr ⟨z1, z2⟩) hb
      rw [e1, e2]
      exact ⟨fun _ z1 z2 => absurd (bad_rng.mpr ⟨z1, z2⟩) hb, ⟨by omega, by omega, fun _ z => absurd z hb⟩, rfl, h⟩
theorem sim_sheet (h : Inv F S q) (p0 x : Int32) : m_sheetOf (cv q) p0 x = k_sheetOf q p0 x ∧ (¬ m_isP (ks_th q) p0 = 0 → ¬ x < 0 → ¬ 6 ≤ x → vp_in (6 * p0 + x) 36) ∧ (k_sheetOf q p0 x = -1 ∨ ∃ a, a < F + S ∧ k_sheetOf q p0 x = nI a ∧ ¬ km_pl (ks_m q) a = -1) := by
  unfold m_sheetOf k_sheetOf
  show (if m_isP (ks_th q) p0 = 0 then -1 else if x < 0 then -1 else if 6 ≤ x then -1 else cvp (ks_pg q) (ix (6 * p0 + x))) = _ ∧ _
  by_cases hp0 : m_isP (ks_th q) p0 = 0
  · rw [if_pos hp0, if_pos hp0]
    exact ⟨rfl, fun z => absurd hp0 z, Or.inl rfl⟩
  · rw [if_neg hp0, if_neg hp0]
    by_cases h1 : x < 0
    · rw [if_pos h1, if_pos h1]
      exact ⟨rfl, fun _ z => absurd h1 z, Or.inl rfl⟩
    · rw [if_neg h1, if_neg h1]
      by_cases h2 : 6 ≤ x
      · rw [if_pos h2, if_pos h2]
        exact ⟨rfl, fun _ _ z => absurd h2 z, Or.inl rfl⟩
      · rw [if_neg h2, if_neg h2]
        obtain ⟨p, hp, rfl, -⟩ := isP_of hp0
        obtain ⟨g, hg, rfl, -⟩ := pk_mu (L := 6) h1 h2 (by omega)
        rw [i6 (by omega) hg, cvp_at hg, ix_nI (by omega), ix_nI (by omega)]
        exact ⟨rfl, fun _ _ _ => ix6 (vp_in_nI hp (by omega)) hg, h.2.1 p g hp hg⟩
theorem sim_where (h : Inv F S q) (p0 x : Int32) : (¬ k_sheetOf q p0 x = -1 → vp_in (k_sheetOf q p0 x) (F + S)) ∧ ((¬ m_isP (ks_th q) p0 = 0 → ¬ x < 0 → ¬ 6 ≤ x → vp_in (6 * p0 + x) 36) ∧ (0 ≤ m_sheetOf (cv q) p0 x → vp_in (m_sheetOf (cv q) p0 x) 18)) ∧ m_where (cv q) p0 x = k_where q p0 x ∧ m_sharers (cv q) p0 x = k_sharers q p0 x := by
  have hFS := h.1.1
  obtain ⟨e, h1, h2⟩ := sim_sheet h p0 x
  unfold m_where k_where m_sharers k_sharers
  rw [e]
  rcases h2 with h2 | ⟨a, ha, h2, hl⟩
  · rw [h2, if_neg m1_lt, if_pos rfl, if_neg m1_lt, if_pos rfl]
    exact ⟨fun z => absurd rfl z, ⟨h1, fun z => absurd z m1_lt⟩, rfl, rfl⟩
  · rw [h2, if_pos (nI_ge0 (by omega)), if_neg (nI_ne (by omega)), if_pos (nI_ge0 (by omega)), if_neg (nI_ne (by omega)), ix_nI (by omega)]
    refine ⟨fun _ => vp_in_nI ha (by omega), ⟨h1, fun _ => vp_in_nI (by omega) (by omega)⟩, rfl, ?_⟩
    rw [(h.2.2.1 a ha hl).1]
    exact m_owners_ow _ _
theorem sim_cntF (h : MI F S (ks_m q)) : ∀ (n i : Nat) (x : Int32), i + n = F → m_cntG (km_pl (ks_m q)) n i x = k_cnt (km_iF (ks_m q)) n i x
  | 0, _, _, _ => rfl
  | n + 1, i, x, hi => by
    unfold m_cntG k_cnt
    have hv := h.frv (show i < F by omega)
    rw [h.fr (show i < F by omega)]
    by_cases e : km_iF (ks_m q) i = -1
    · rw [if_pos e, if_neg (fun z => hv.mp z e)]
      exact sim_cntF h n (i + 1) _ (by omega)
    · rw [if_neg e, if_pos (hv.mpr e)]
      exact sim_cntF h n (i + 1) _ (by omega)
theorem sim_cntS (h : MI F S (ks_m q)) : ∀ (n i : Nat) (x : Int32), i + n = S → m_cntF (km_pl (ks_m q)) 100 n i x = k_cnt (km_iS (ks_m q)) n i x
  | 0, _, _, _ => rfl
  | n + 1, i, x, hi => by
    unfold m_cntF k_cnt
    have hv := h.slv (show i < S by omega)
    rw [h.sl (show i < S by omega)]
    by_cases e : km_iS (ks_m q) i = -1
    · rw [if_pos e, if_neg (fun z => hv.mp z e)]
      exact sim_cntS h n (i + 1) _ (by omega)
    · rw [if_neg e, if_pos (hv.mpr e)]
      exact sim_cntS h n (i + 1) _ (by omega)
end SIM2
theorem ow_const (v : Int32) : ∀ n, ow (fun _ => v) v n = n
  | 0 => rfl
  | n + 1 => by
    unfold ow
    rw [ow_const v n, if_pos rfl]
theorem sim_0 {F S : Nat} (h2 : 2 ≤ F) (h8 : F ≤ 8) (h10 : S ≤ 10) : Inv F S ks_0 := by
  refine ⟨⟨⟨h2, h8, h10⟩, vp_in_nI (n := 0) (by omega) (by omega), fun a _ => Or.inl rfl, fun f _ => Or.inl rfl, fun t _ => Or.inl rfl, ?_⟩, fun p x _ _ => Or.inl rfl, fun a _ z => absurd rfl z, fun p _ _ x _ => rfl⟩
  show ow (fun _ => -1) (-1) (F + S) = ow (fun _ => -1) (-1) F + ow (fun _ => -1) (-1) S
  rw [ow_const, ow_const, ow_const]
theorem cv_0 : cv ks_0 = sg_0 := rfl
