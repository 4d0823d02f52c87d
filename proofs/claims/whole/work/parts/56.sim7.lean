theorem nI_sub1 {n : Nat} (h : 1 ≤ n) : nI n - 1 = nI (n - 1) := by
  obtain ⟨m, rfl⟩ : ∃ m, n = m + 1 := ⟨n - 1, by omega⟩
  rw [← nI_1, Int32.add_sub_cancel, Nat.add_sub_cancel]
theorem up2_up2 {w : Nat → Nat → Int32} {a : Nat} {f g : Nat → Int32} : up2 (up2 w a f) a g = up2 w a g := by
  funext i
  unfold up2
  by_cases e : i = a
  · rw [if_pos e, if_pos e]
  · rw [if_neg e, if_neg e, if_neg e]
theorem up2_s {w : Nat → Nat → Int32} {a : Nat} {f : Nat → Int32} : up2 w a f a = f := if_pos rfl
theorem up2_n {w : Nat → Nat → Int32} {a i : Nat} {f : Nat → Int32} (h : ¬ i = a) : up2 w a f i = w i := if_neg h
/-- a page gets a sheet of its own -/
theorem PI.own {N : Nat} {th : Nat → Int32} {pg : Nat → Nat → Int32} {pl pl' ct ct' : Nat → Int32} (h : PI N th pg pl ct) (hN : N ≤ 18) {p g a : Nat} (hp : p < 6) (hg : g < 6) (hth : ¬ th p = 0) (ha : a < N) (hd : pl a = -1) (hl : ¬ pl' a = -1) (hlive : ∀ a', a' < 18 → ¬ a' = a → (pl' a' = -1 ↔ pl a' = -1))
    (hc : ct' a = 1) (hc' : ∀ a', a' < N → ¬ a' = a → ¬ pl a' = -1 → (pg p g = nI a' → 2 ≤ ow (cvp pg) (nI a') 36 ∧ ct' a' = nI (ow (cvp pg) (nI a') 36 - 1)) ∧ (¬ pg p g = nI a' → ct' a' = ct a')) : PI N th (up2 pg p (upd (pg p) g (nI a))) pl' ct' := by
  have hz := h.dead hN (a := a) (by omega) hd
  obtain ⟨h1, h2, h3⟩ := h
  have eo : cvp pg (6 * p + g) = pg p g := cvp_at hg
  refine ⟨fun p' x' hp' hx' => ?_, fun a' ha' hn => ?_, fun p' hp' ht x' hx' => ?_⟩
  · by_cases e : p' = p ∧ x' = g
    · obtain ⟨rfl, rfl⟩ := e
      exact Or.inr ⟨a, ha, by rw [up2_s, upd_s], hl⟩
    · have e1 : up2 pg p (upd (pg p) g (nI a)) p' x' = pg p' x' := by
        by_cases e2 : p' = p
        · subst e2; rw [up2_s, upd_n (fun z => e ⟨rfl, z⟩)]
        · rw [up2_n e2]
      rw [e1]
      rcases h1 p' x' hp' hx' with q | ⟨a', ha', q, z⟩
      · exact Or.inl q
      · have hne : ¬ a' = a := fun y => z (by rw [y]; exact hd)
        exact Or.inr ⟨a', ha', q, fun y => z ((hlive a' (by omega) hne).mp y)⟩
  · rw [cvp_upd hg]
    have c := ow_upd (cvp pg) (nI a') (nI a) (6 * p + g) 36 (by omega)
    rw [eo] at c
    by_cases e : a' = a
    · subst e
      rw [if_pos rfl, hz] at c
      have hno : ¬ pg p g = nI a' := fun z => by
        have := ow_get (f := cvp pg) (v := nI a') (n := 36) (show 6 * p + g < 36 by omega) (by rw [eo]; exact z)
        omega
      rw [if_neg hno] at c
      rw [show ow (upd (cvp pg) (6 * p + g) (nI a')) (nI a') 36 = 1 by omega]
      exact ⟨hc, Nat.le_refl _⟩
    · have hn' : ¬ pl a' = -1 := fun z => hn ((hlive a' (by omega) e).mpr z)
      obtain ⟨q1, q2⟩ := hc' a' ha' e hn'
      rw [if_neg (show ¬ nI a = nI a' from fun z => e (nI_inj (by omega) (by omega) z.symm))] at c
      by_cases z : pg p g = nI a'
      · rw [if_pos z] at c
        obtain ⟨y1, y2⟩ := q1 z
        rw [show ow (upd (cvp pg) (6 * p + g) (nI a)) (nI a') 36 = ow (cvp pg) (nI a') 36 - 1 by omega]
        exact ⟨y2, by omega⟩
      · rw [if_neg z] at c
        rw [show ow (upd (cvp pg) (6 * p + g) (nI a)) (nI a') 36 = ow (cvp pg) (nI a') 36 by omega, q2 z]
        exact h2 a' ha' hn'
  · have hne : ¬ p' = p := fun z => hth (by rw [← z]; exact ht)
    rw [up2_n hne]
    exact h3 p' hp' ht x' hx'
section OPS2
variable {F S : Nat} {q : KS}
theorem Inv.need (h : Inv F S q) {p g x : Nat} (hp : p < 6) (hg : g = x / 4) (hx : x < 24) : k_need q (nI p) (nI g) = m_needs (cvp (ks_pg q)) (nI p) (nI x) ∧ (k_need q (nI p) (nI g) = 0 → ∃ a, a < F + S ∧ ks_pg q p g = nI a ∧ ¬ km_pl (ks_m q) a = -1) ∧
    (¬ k_need q (nI p) (nI g) = 0 → ks_pg q p g = -1 ∨ ∃ a, a < F + S ∧ ks_pg q p g = nI a ∧ ¬ km_pl (ks_m q) a = -1 ∧ 2 ≤ ow (cvp (ks_pg q)) (nI a) 36) := by
  obtain ⟨hM, hP⟩ := h
  obtain ⟨hF2, hF, hS⟩ := hM.1
  have eat : k_at q (nI p) (nI g) = ks_pg q p g := by
    unfold k_at
    rw [ix_nI (by omega), ix_nI (by omega)]
  have eix : cvp (ks_pg q) (ix (6 * nI p + nI x / 4)) = ks_pg q p g := by
    rw [dv4 x hx, i6 (by omega) (by omega), ← hg]
    exact cvp_at (by omega)
  unfold k_need m_needs
  rw [eat, eix]
  rcases hP.1 p g hp (by omega) with h0 | ⟨a, ha, h0, hl⟩
  · rw [h0, if_pos rfl, if_pos (by decide)]
    exact ⟨rfl, fun z => absurd z (by decide), fun _ => Or.inl rfl⟩
  · obtain ⟨c1, c2⟩ := hP.2.1 a ha hl
    rw [h0, if_neg (nI_ne (by omega)), if_neg (nI_nlt0 (by omega)), ix_nI (by omega), c1, m_owners_ow]
    refine ⟨rfl, fun _ => ⟨a, ha, rfl, hl⟩, fun z => Or.inr ⟨a, ha, rfl, hl, ?_⟩⟩
    refine Nat.le_of_not_lt fun hc => z (if_pos ?_)
    have hle := ow_le (cvp (ks_pg q)) (nI a) 36
    exact (nI_leI (b := 1) (by omega) (by omega)).mpr (by omega)
theorem Inv.own (h : Inv F S q) {p g : Nat} (hp : p < 6) (hg : g < 6) (hth : ¬ ks_th q p = 0) (hn : ks_pg q p g = -1 ∨ ∃ a, a < F + S ∧ ks_pg q p g = nI a ∧ ¬ km_pl (ks_m q) a = -1 ∧ 2 ≤ ow (cvp (ks_pg q)) (nI a) 36) (hc : ¬ m_canMake F S (km_pl (ks_m q)) = 0) :
    xo_ok F S q (nI p) (nI g) ∧ mm_ok F S (cv q) (6 * nI p + nI g) (ks_pg q p g) ∧ ∃ (a : Nat) (q1 : KS), k_own F S q (nI p) (nI g) = (nI a, q1) ∧ a < F + S ∧ Inv F S q1 ∧ ¬ km_pl (ks_m q1) a = -1 ∧ (∃ f, f < F ∧ km_pl (ks_m q1) a = nI f) ∧ ks_pg q1 p g = nI a ∧ ks_th q1 = ks_th q ∧ ks_cp q1 = ks_cp q ∧ m_make F S (cv q) (6 * nI p + nI g) (ks_pg q p g) = cv q1 := by
  obtain ⟨hM, hP⟩ := h
  obtain ⟨hF2, hF, hS⟩ := hM.1
  have eat : k_at q (nI p) (nI g) = ks_pg q p g := by
    unfold k_at
    rw [ix_nI (by omega), ix_nI (by omega)]
  have e6 : (6 : Int32) * nI p + nI g = nI (6 * p + g) := by rw [show (6 : Int32) = nI 6 from rfl, pk_mul, nI_add]
  obtain ⟨hmk, a, k2, hmake, ha, hpa, hMI2, hl2, hfr, hlive, hct2, hwd2, href⟩ := hM.make1 hc
  obtain ⟨hmm, hmm2⟩ := href (ks_th q) (cvp (ks_pg q)) (ks_cp q) (6 * p + g) (ks_pg q p g) (by omega) (fun z => by
    rcases hn with h0 | ⟨o, ho, h0, -⟩
    · rw [h0] at z; exact absurd z m1_lt
    · rw [h0]; exact vp_in_nI (by omega) (by omega))
  have eset : ∀ (k : KM), k_setp (kv_m q k) (nI p) (nI g) (nI a) = (ks_th q, up2 (ks_pg q) p (upd (ks_pg q p) g (nI a)), ks_cp q, k) := by
    intro k
    unfold k_setp
    rw [ix_nI (show p < 2 ^ 31 by omega), ix_nI (show g < 2 ^ 31 by omega)]
  have eown : k_own F S q (nI p) (nI g) = (nI a, (ks_th q, up2 (ks_pg q) p (upd (ks_pg q p) g (nI a)), ks_cp q, k_ownM k2 (ks_pg q p g) (nI a))) := by
    unfold k_own
    rw [hmake, eat, eset]
  rw [e6]
  rcases hn with h0 | ⟨o, ho, h0, hlo, h2⟩
  · have eM : k_ownM k2 (ks_pg q p g) (nI a) = k2 := if_pos h0
    rw [eM] at eown
    refine ⟨⟨vp_in_nI hp (by omega), vp_in_nI hg (by omega), hmk, by rw [hmake]; exact nI_ne (by omega), fun z => absurd (by rw [eat]; exact h0) z⟩, hmm, a, _, eown, ha, ⟨hMI2, ?_⟩, hl2, hfr, ?_, rfl, rfl, ?_⟩
    · refine hP.own (by omega) hp hg hth ha hpa hl2 hlive (by rw [hct2, upd_s]) fun a' ha' hne hla => ⟨fun z => ?_, fun _ => by rw [hct2, upd_n hne]⟩
      rw [h0] at z
      exact absurd z.symm (nI_ne (by omega))
    · show up2 (ks_pg q) p (upd (ks_pg q p) g (nI a)) p g = nI a
      rw [up2_s, upd_s]
    · rw [hmm2, h0, cpw_none (by omega), ← hwd2]
      show (_, upd (cvp (ks_pg q)) (6 * p + g) (nI a), _) = (_, cvp (up2 (ks_pg q) p (upd (ks_pg q p) g (nI a))), _)
      rw [cvp_upd hg]
  · have hne : ¬ o = a := fun z => hlo (by rw [z]; exact hpa)
    have hle := ow_le (cvp (ks_pg q)) (nI o) 36
    have hcto : km_ct k2 o = nI (ow (cvp (ks_pg q)) (nI o) 36) := by
      rw [hct2, upd_n hne]
      exact (hP.2.1 o ho hlo).1
    have hixo : ix (nI o) = o := ix_nI (by omega)
    have hixa : ix (nI a) = a := ix_nI (by omega)
    have hpos : ¬ km_ct k2 o - 1 ≤ 0 := by
      rw [hcto, nI_sub1 (by omega)]
      intro z
      have := (nI_leI (b := 0) (by omega) (by omega)).mp z
      omega
    have ecp : k_cpw k2 (nI o) (nI a) = ku_wd k2 (up2 (ks_m q |> km_wd) a (va_cpy (km_wd (ks_m q) o) (km_wd k2 a) 0 0 4)) := by
      unfold k_cpw
      rw [hixo, hixa]
      have : km_wd k2 o = km_wd (ks_m q) o := by rw [hwd2, up2_n hne]
      rw [this]
      show ku_wd k2 (up2 (km_wd k2) a _) = ku_wd k2 (up2 (km_wd (ks_m q)) a _)
      rw [show up2 (km_wd k2) a (va_cpy (km_wd (ks_m q) o) (km_wd k2 a) 0 0 4) = up2 (km_wd (ks_m q)) a (va_cpy (km_wd (ks_m q) o) (km_wd k2 a) 0 0 4) by
        conv => lhs; arg 1; rw [hwd2]
        exact up2_up2]
    have eM : k_ownM k2 (ks_pg q p g) (nI a) = ku_ct (ku_wd k2 (up2 (km_wd (ks_m q)) a (va_cpy (km_wd (ks_m q) o) (km_wd k2 a) 0 0 4))) (upd (km_ct k2) o (nI (ow (cvp (ks_pg q)) (nI o) 36 - 1))) := by
      unfold k_ownM
      rw [h0, if_neg (nI_ne (by omega)), ecp]
      unfold k_leave
      show (if km_ct k2 (ix (nI o)) - 1 ≤ 0 then _ else _ : Int32 × KM).2 = _
      rw [hixo, if_neg hpos]
      show ku_ct _ (upd (km_ct k2) o (km_ct k2 o - 1)) = _
      rw [hcto, nI_sub1 (by omega)]
    rw [eM] at eown
    refine ⟨⟨vp_in_nI hp (by omega), vp_in_nI hg (by omega), hmk, by rw [hmake]; exact nI_ne (by omega), fun _ => ?_⟩, hmm, a, _, eown, ha, ⟨hMI2, ?_⟩, hl2, hfr, ?_, rfl, rfl, ?_⟩
    · rw [eat, h0, hmake]
      refine ⟨vp_in_nI ho (by omega), vp_in_nI ha (by omega), vp_in_nI ho (by omega), fun z => ?_⟩
      have z' : km_ct k2 (ix (nI o)) - 1 ≤ 0 := z
      rw [hixo] at z'
      exact absurd z' hpos
    · refine hP.own (by omega) hp hg hth ha hpa hl2 hlive ?_ fun a' ha' hna hla => ⟨fun z => ?_, fun z => ?_⟩
      · show upd (km_ct k2) o _ a = 1
        rw [upd_n (Ne.symm hne), hct2, upd_s]
      · rw [h0] at z
        have := nI_inj (by omega) (by omega) z
        subst this
        exact ⟨h2, upd_s⟩
      · show upd (km_ct k2) o _ a' = _
        have : ¬ a' = o := fun y => z (by rw [y]; exact h0)
        rw [upd_n this, hct2, upd_n hna]
    · show up2 (ks_pg q) p (upd (ks_pg q p) g (nI a)) p g = nI a
      rw [up2_s, upd_s]
    · rw [hmm2, h0, cpw_like (by omega) (by omega) hne (km_wd (ks_m q)) (km_wd k2 a)]
      show (_, upd (cvp (ks_pg q)) (6 * p + g) (nI a), _) = (_, cvp (up2 (ks_pg q) p (upd (ks_pg q p) g (nI a))), _)
      rw [cvp_upd hg]
end OPS2
