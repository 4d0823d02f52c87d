/-- the memory holds together -/
def MI (F S : Nat) (k : KM) : Prop :=
  (2 ≤ F ∧ F ≤ 8 ∧ S ≤ 10) ∧ vp_in (km_hd k) F ∧
  (∀ a, a < 18 → km_pl k a = -1 ∨ (a < F + S ∧ ((∃ f, f < F ∧ km_pl k a = nI f ∧ km_iF k f = nI a) ∨ (∃ t, t < S ∧ km_pl k a = nI (100 + t) ∧ km_iS k t = nI a)))) ∧
  (∀ f, f < F → km_iF k f = -1 ∨ ∃ a, a < F + S ∧ km_iF k f = nI a ∧ km_pl k a = nI f) ∧
  (∀ t, t < S → km_iS k t = -1 ∨ ∃ a, a < F + S ∧ km_iS k t = nI a ∧ km_pl k a = nI (100 + t)) ∧
  ow (km_pl k) (-1) (F + S) = ow (km_iF k) (-1) F + ow (km_iS k) (-1) S
section MI1
variable {F S : Nat} {k : KM}
theorem MI.fr (h : MI F S k) {f : Nat} (hf : f < F) : m_sheetAt (km_pl k) (nI f) = km_iF k f := by
  obtain ⟨⟨hF2, hF, hS⟩, hhd, hpl, hiF, hiS, hct⟩ := h
  have only : ∀ a, a < 18 → km_pl k a = nI f → km_iF k f = nI a := by
    intro a ha e
    rcases hpl a ha with h1 | ⟨h1, ⟨f', hf', h2, h3⟩ | ⟨t, ht, h2, h3⟩⟩
    · rw [h1] at e; exact absurd e.symm (nI_ne (by omega))
    · have := nI_inj (by omega) (by omega) (h2.symm.trans e)
      subst this; exact h3
    · have := nI_inj (by omega) (by omega) (h2.symm.trans e)
      omega
  rcases hiF f hf with h1 | ⟨a, ha, h1, h2⟩
  · rw [h1]
    refine m_at_no fun j hj e => ?_
    rw [only j hj e] at h1
    exact nI_ne (by omega) h1
  · rw [h1]
    refine m_at_is (by omega) h2 fun j' hj' e => ?_
    have := only j' hj' e
    rw [h1] at this
    exact (nI_inj (by omega) (by omega) this).symm
theorem MI.sl (h : MI F S k) {t : Nat} (ht : t < S) : m_sheetAt (km_pl k) (100 + nI t) = km_iS k t := by
  rw [h100]
  obtain ⟨⟨hF2, hF, hS⟩, hhd, hpl, hiF, hiS, hct⟩ := h
  have only : ∀ a, a < 18 → km_pl k a = nI (100 + t) → km_iS k t = nI a := by
    intro a ha e
    rcases hpl a ha with h1 | ⟨h1, ⟨f', hf', h2, h3⟩ | ⟨t', ht', h2, h3⟩⟩
    · rw [h1] at e; exact absurd e.symm (nI_ne (by omega))
    · have := nI_inj (by omega) (by omega) (h2.symm.trans e)
      omega
    · have := nI_inj (by omega) (by omega) (h2.symm.trans e)
      have : t' = t := by omega
      subst this; exact h3
  rcases hiS t ht with h1 | ⟨a, ha, h1, h2⟩
  · rw [h1]
    refine m_at_no fun j hj e => ?_
    rw [only j hj e] at h1
    exact nI_ne (by omega) h1
  · rw [h1]
    refine m_at_is (by omega) h2 fun j' hj' e => ?_
    have := only j' hj' e
    rw [h1] at this
    exact (nI_inj (by omega) (by omega) this).symm
theorem MI.frv (h : MI F S k) {f : Nat} (hf : f < F) : 0 ≤ km_iF k f ↔ ¬ km_iF k f = -1 := by
  obtain ⟨⟨hF2, hF, hS⟩, hhd, hpl, hiF, hiS, hct⟩ := h
  rcases hiF f hf with h1 | ⟨a, ha, h1, -⟩
  · rw [h1]; decide
  · rw [h1]; exact ⟨fun _ => nI_ne (by omega), fun _ => nI_ge0 (by omega)⟩
theorem MI.slv (h : MI F S k) {t : Nat} (ht : t < S) : 0 ≤ km_iS k t ↔ ¬ km_iS k t = -1 := by
  obtain ⟨⟨hF2, hF, hS⟩, hhd, hpl, hiF, hiS, hct⟩ := h
  rcases hiS t ht with h1 | ⟨a, ha, h1, -⟩
  · rw [h1]; decide
  · rw [h1]; exact ⟨fun _ => nI_ne (by omega), fun _ => nI_ge0 (by omega)⟩
theorem MI.lowF (h : MI F S k) : ∀ n i, i + n = F → m_lowF (km_pl k) n i = k_low (km_iF k) n i
  | 0, _, _ => rfl
  | n + 1, i, hi => by
    unfold m_lowF k_low
    rw [h.fr (show i < F by omega), h.lowF n (i + 1) (by omega)]
    have hv := h.frv (show i < F by omega)
    by_cases e : km_iF k i = -1
    · rw [if_pos e, if_neg (fun z => hv.mp z e)]
    · rw [if_neg e, if_pos (hv.mpr e)]
theorem MI.lowS (h : MI F S k) : ∀ n i, i + n = S → m_lowS (km_pl k) n i = if k_low (km_iS k) n i = -1 then -1 else 100 + k_low (km_iS k) n i
  | 0, _, _ => rfl
  | n + 1, i, hi => by
    unfold m_lowS k_low
    have hS10 := h.1.2.2
    rw [h.sl (show i < S by omega), h.lowS n (i + 1) (by omega)]
    have hv := h.slv (show i < S by omega)
    by_cases e : km_iS k i = -1
    · rw [if_pos e, if_neg (fun z => hv.mp z e), if_neg (nI_ne (by omega))]
    · rw [if_neg e, if_pos (hv.mpr e)]
/-- where a place is free, a sheet's number is -/
theorem MI.pigeon (h : MI F S k) (hfree : ¬ k_low (km_iF k) F 0 = -1 ∨ ¬ k_low (km_iS k) S 0 = -1) : ∃ a, a < F + S ∧ km_pl k a = -1 ∧ k_low (km_pl k) (F + S) 0 = nI a ∧ m_sheetAt (km_pl k) (-1) = nI a := by
  obtain ⟨⟨hF2, hF, hS⟩, hhd, hpl, hiF, hiS, hct⟩ := h
  have hpos : 0 < ow (km_pl k) (-1) (F + S) := by
    rw [hct]
    rcases hfree with h1 | h1
    · rcases k_low_or (km_iF k) F with ⟨h2, -⟩ | ⟨j, hj, h2, -⟩
      · exact absurd h2 h1
      · have := ow_get hj h2; omega
    · rcases k_low_or (km_iS k) S with ⟨h2, -⟩ | ⟨j, hj, h2, -⟩
      · exact absurd h2 h1
      · have := ow_get hj h2; omega
  obtain ⟨a0, ha0, he0⟩ := ow_pos hpos
  rcases k_low_or (km_pl k) (F + S) with ⟨h2, h3⟩ | ⟨a, ha, h2, h3, h4⟩
  · exact absurd he0 (h3 a0 ha0)
  · refine ⟨a, ha, h2, h3, ?_⟩
    rcases m_at_or (km_pl k) (-1) 18 0 with ⟨q1, q2⟩ | ⟨j, q1, q2, q3, q4, q5⟩
    · exact absurd h2 (q2 a (Nat.zero_le _) (by omega))
    · have : j = a := by
        rcases Nat.lt_trichotomy j a with z | z | z
        · exact absurd q3 (h4 j z)
        · exact z
        · exact absurd h2 (q5 a (Nat.zero_le _) z)
      subst this; exact q4
theorem MI.can (h : MI F S k) : m_canMake F S (km_pl k) = 0 ↔ (k_low (km_iF k) F 0 = -1 ∧ k_low (km_iS k) S 0 = -1) := by
  have hF := h.1.2.1
  have hS := h.1.2.2
  unfold m_canMake
  rw [h.lowF F 0 (by omega), h.lowS S 0 (by omega)]
  rcases k_low_or (km_iF k) F with ⟨h1, -⟩ | ⟨j, hj, -, h1, -⟩
  · rw [h1, if_neg m1_lt]
    rcases k_low_or (km_iS k) S with ⟨h2, -⟩ | ⟨j, hj, -, h2, -⟩
    · rw [h2, if_pos rfl, if_pos (by decide)]; simp
    · rw [h2, if_neg (nI_ne (by omega)), h100, if_neg (nI_nlt0 (by omega))]
      exact ⟨fun z => absurd z (by decide), fun z => absurd z.2 (nI_ne (by omega))⟩
  · rw [h1, if_pos (nI_ge0 (by omega))]
    exact ⟨fun z => absurd z (by decide), fun z => absurd z.1 (nI_ne (by omega))⟩
end MI1
/-! the sweep -/
theorem turn_next {F : Nat} {h : Int32} (hF : F ≤ 8) (hh : vp_in h F) : m_turn F h = k_next F h := by
  obtain ⟨j, hj, rfl⟩ := vp_in_of hh (by omega)
  unfold m_turn k_next
  rw [nI_1]
  by_cases e : j + 1 = F
  · rw [if_pos (by rw [e]), if_pos ((nI_leI (by omega) (by omega)).mpr (by omega))]
  · rw [if_neg (fun z => e (nI_inj (by omega) (by omega) z)), if_neg (fun z => e (by have := (nI_leI (by omega) (by omega)).mp z; omega))]
theorem sweep_same {F : Nat} (hF : F ≤ 8) : ∀ (n : Nat) (mq : Nat → Int32) (h : Int32), vp_in h F → m_sweep F n mq h = k_sweep F n mq h
  | 0, _, _, _ => rfl
  | n + 1, mq, h, hh => by
    unfold m_sweep k_sweep
    rw [turn_next hF hh, sweep_same hF n _ _ (k_next_in hF hh)]
theorem sweep_in {F : Nat} (hF : F ≤ 8) : ∀ (n : Nat) (mq : Nat → Int32) (h : Int32), vp_in h F → vp_in (k_sweep F n mq h).2 F
  | 0, _, _, hh => hh
  | n + 1, mq, h, hh => by
    unfold k_sweep
    by_cases e : mq (ix h) = 0
    · rw [if_pos e]; exact hh
    · rw [if_neg e]; exact sweep_in hF n _ _ (k_next_in hF hh)
/-- with as much fuel as there are marks, the hand stands at an unmarked frame; more fuel changes nothing -/
theorem sweep_end {F : Nat} (hF : F ≤ 8) : ∀ (n n' : Nat) (mq : Nat → Int32) (h : Int32), vp_in h F → F ≤ ow mq 0 F + n → n ≤ n' → k_sweep F n' mq h = k_sweep F n mq h ∧ (k_sweep F n mq h).1 (ix (k_sweep F n mq h).2) = 0
  | 0, n', mq, h, hh, hc, _ => by
    have hz : mq (ix h) = 0 := by
      have hle := ow_le mq 0 F
      have hfull : ow mq 0 F = F := by omega
      refine Classical.byContradiction fun hne => ?_
      have h1 := ow_upd mq 0 0 (ix h) F (vp_ix hh)
      rw [if_neg hne, if_pos rfl] at h1
      have := ow_le (upd mq (ix h) 0) 0 F
      omega
    refine ⟨?_, hz⟩
    cases n' with
    | zero => rfl
    | succ m => unfold k_sweep; rw [if_pos hz]
  | n + 1, n', mq, h, hh, hc, hn => by
    obtain ⟨m, rfl⟩ : ∃ m, n' = m + 1 := ⟨n' - 1, by omega⟩
    by_cases e : mq (ix h) = 0
    · have e1 : k_sweep F (n + 1) mq h = (mq, h) := if_pos e
      have e2 : k_sweep F (m + 1) mq h = (mq, h) := if_pos e
      rw [e1, e2]
      exact ⟨rfl, e⟩
    · have e1 : k_sweep F (n + 1) mq h = k_sweep F n (upd mq (ix h) 0) (k_next F h) := if_neg e
      have e2 : k_sweep F (m + 1) mq h = k_sweep F m (upd mq (ix h) 0) (k_next F h) := if_neg e
      rw [e1, e2]
      have h1 := ow_upd mq 0 0 (ix h) F (vp_ix hh)
      rw [if_neg e, if_pos rfl] at h1
      exact sweep_end hF n m _ _ (k_next_in hF hh) (by omega) (by omega)
