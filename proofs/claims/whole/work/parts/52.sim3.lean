/-- the reference's state, out of the class's memory -/
abbrev cvm (th pg : Nat → Int32) (cp : Int32) (k : KM) : Sg := (th, pg, km_mk k, km_pl k, cvw (km_wd k), km_hd k, km_fl k, km_ev k, cp)
theorem ix_nI {n : Nat} (h : n < 2 ^ 31) : ix (nI n) = n := nI_clamp h
section GF1
variable {F S : Nat} {k : KM}
theorem MI.evict (h : MI F S k) (hno : k_low (km_iF k) F 0 = -1) {t : Nat} (ht : t < S) (hfr : km_iS k t = -1) (hlow : k_low (km_iS k) S 0 = nI t) :
    ev_ok F S k (nI t) ∧ ∃ f a, f < F ∧ a < F + S ∧ (k_sweep F F (km_mk k) (km_hd k)).2 = nI f ∧ km_iF k f = nI a ∧ km_pl k a = nI f ∧ (m_sweep F 8 (km_mk k) (km_hd k)) = k_sweep F F (km_mk k) (km_hd k) ∧ (k_sweep F F (km_mk k) (km_hd k)).1 (ix (k_sweep F F (km_mk k) (km_hd k)).2) = 0 ∧
    k_evict F k (nI t) = (nI f, (upd (km_iF k) f (-1), upd (km_iS k) t (nI a), (k_sweep F F (km_mk k) (km_hd k)).1, upd (km_pl k) a (nI (100 + t)), km_ct k, km_wd k, k_next F (nI f), km_fl k, km_ev k + 1)) ∧
    MI F S (upd (km_iF k) f (-1), upd (km_iS k) t (nI a), (k_sweep F F (km_mk k) (km_hd k)).1, upd (km_pl k) a (nI (100 + t)), km_ct k, km_wd k, k_next F (nI f), km_fl k, km_ev k + 1) := by
  obtain ⟨⟨hF2, hF, hS⟩, hhd, hpl, hiF, hiS, hct⟩ := h
  obtain ⟨hs1, hs2⟩ := sweep_end hF F 8 (km_mk k) (km_hd k) hhd (by omega) hF
  have hin := sweep_in hF F (km_mk k) (km_hd k) hhd
  have hsame : m_sweep F 8 (km_mk k) (km_hd k) = k_sweep F F (km_mk k) (km_hd k) := (sweep_same hF 8 _ _ hhd).trans hs1
  obtain ⟨f, hf, hq⟩ := vp_in_of hin (by omega)
  have hfull : ¬ km_iF k f = -1 := by
    rcases k_low_or (km_iF k) F with ⟨-, h2⟩ | ⟨j, hj, -, h1, -⟩
    · exact h2 f hf
    · rw [h1] at hno; exact absurd hno (nI_ne (by omega))
  obtain ⟨a, ha, hfa, hpa⟩ : ∃ a, a < F + S ∧ km_iF k f = nI a ∧ km_pl k a = nI f := by
    rcases hiF f hf with h1 | h1
    · exact absurd h1 hfull
    · exact h1
  have hixf : ix (k_sweep F F (km_mk k) (km_hd k)).2 = f := by rw [hq]; exact ix_nI (by omega)
  refine ⟨⟨hF, vp_in_nI ht (by omega), hhd, hin, by rw [hixf, hfa]; exact vp_in_nI ha (by omega)⟩, f, a, hf, ha, hq, hfa, hpa, hsame, hs2, ?_, ?_⟩
  · unfold k_evict
    show ((k_sweep F F (km_mk k) (km_hd k)).2, (upd (km_iF k) (ix (k_sweep F F (km_mk k) (km_hd k)).2) (-1), upd (km_iS k) (ix (nI t)) (km_iF k (ix (k_sweep F F (km_mk k) (km_hd k)).2)), (k_sweep F F (km_mk k) (km_hd k)).1, upd (km_pl k) (ix (km_iF k (ix (k_sweep F F (km_mk k) (km_hd k)).2))) (100 + nI t), km_ct k, km_wd k, k_next F (k_sweep F F (km_mk k) (km_hd k)).2, km_fl k, km_ev k + 1)) = _
    rw [hixf, hfa, ix_nI (show t < 2 ^ 31 by omega), ix_nI (show a < 2 ^ 31 by omega), h100, hq]
  · refine ⟨⟨hF2, hF, hS⟩, k_next_in hF (vp_in_nI hf (by omega)), fun a' ha' => ?_, fun f' hf' => ?_, fun t' ht' => ?_, ?_⟩
    · show upd (km_pl k) a (nI (100 + t)) a' = -1 ∨ _
      by_cases e : a' = a
      · subst e
        refine Or.inr ⟨ha, Or.inr ⟨t, ht, upd_s, upd_s⟩⟩
      · rcases hpl a' ha' with h1 | ⟨h1, ⟨f', hf', h2, h3⟩ | ⟨t', ht', h2, h3⟩⟩
        · exact Or.inl ((upd_n e).trans h1)
        · have hne : ¬ f' = f := fun z => e (nI_inj (by omega) (by omega) (h3.symm.trans (by rw [z]; exact hfa)))
          exact Or.inr ⟨h1, Or.inl ⟨f', hf', (upd_n e).trans h2, (upd_n hne).trans h3⟩⟩
        · have hne : ¬ t' = t := fun z => nI_ne (a := a') (by omega) (h3.symm.trans (by rw [z]; exact hfr))
          exact Or.inr ⟨h1, Or.inr ⟨t', ht', (upd_n e).trans h2, (upd_n hne).trans h3⟩⟩
    · show upd (km_iF k) f (-1) f' = -1 ∨ _
      by_cases e : f' = f
      · subst e; exact Or.inl upd_s
      · rcases hiF f' hf' with h1 | ⟨a', ha', h1, h2⟩
        · exact Or.inl ((upd_n e).trans h1)
        · have hne : ¬ a' = a := fun z => e (nI_inj (by omega) (by omega) (h2.symm.trans (by rw [z]; exact hpa)))
          exact Or.inr ⟨a', ha', (upd_n e).trans h1, (upd_n hne).trans h2⟩
    · show upd (km_iS k) t (nI a) t' = -1 ∨ _
      by_cases e : t' = t
      · subst e; exact Or.inr ⟨a, ha, upd_s, upd_s⟩
      · rcases hiS t' ht' with h1 | ⟨a', ha', h1, h2⟩
        · exact Or.inl ((upd_n e).trans h1)
        · have hne : ¬ a' = a := fun z => by
            have := nI_inj (a := 100 + t') (b := f) (by omega) (by omega) (h2.symm.trans (by rw [z]; exact hpa))
            omega
          exact Or.inr ⟨a', ha', (upd_n e).trans h1, (upd_n hne).trans h2⟩
    · show ow (upd (km_pl k) a (nI (100 + t))) (-1) (F + S) = ow (upd (km_iF k) f (-1)) (-1) F + ow (upd (km_iS k) t (nI a)) (-1) S
      have c1 := ow_upd (km_pl k) (-1) (nI (100 + t)) a (F + S) ha
      have c2 := ow_upd (km_iF k) (-1) (-1) f F hf
      have c3 := ow_upd (km_iS k) (-1) (nI a) t S ht
      rw [if_neg (by rw [hpa]; exact nI_ne (by omega)), if_neg (nI_ne (by omega))] at c1
      rw [if_neg hfull, if_pos rfl] at c2
      rw [if_pos hfr, if_neg (nI_ne (by omega))] at c3
      omega
theorem MI.no (h : MI F S k) (h1 : k_low (km_iF k) F 0 = -1) (h2 : k_low (km_iS k) S 0 = -1) : k_getFrame F S k = (-1, k) ∧ gf_ok F S k := by
  refine ⟨?_, h.1.2.1, h.1.2.2, fun _ z => absurd h2 z⟩
  unfold k_getFrame
  rw [if_pos h1, if_pos h2]
/-- a frame is got -/
theorem MI.got (h : MI F S k) (hcan : ¬ k_low (km_iF k) F 0 = -1 ∨ ¬ k_low (km_iS k) S 0 = -1) :
    gf_ok F S k ∧ (∀ th pg cp, mg_ok F S (cvm th pg cp k)) ∧ ∃ (f : Nat) (k' : KM), k_getFrame F S k = (nI f, k') ∧ f < F ∧ km_iF k' f = -1 ∧ MI F S k' ∧ km_ct k' = km_ct k ∧ km_wd k' = km_wd k ∧ km_fl k' = km_fl k ∧ (∀ a, a < 18 → (km_pl k' a = -1 ↔ km_pl k a = -1)) ∧
      (∀ th pg cp, m_getFrame F S (cvm th pg cp k) = (nI f, cvm th pg cp k')) ∧ (∀ (a : Nat) (v : Int32), km_pl k a = -1 → a < 18 → k_getFrame F S (ku_pl k (upd (km_pl k) a v)) = (nI f, ku_pl k' (upd (km_pl k') a v)) ∧ gf_ok F S (ku_pl k (upd (km_pl k) a v))) := by
  have hh := h
  obtain ⟨⟨hF2, hF, hS⟩, hhd, hpl, hiF, hiS, hct⟩ := h
  rcases k_low_or (km_iF k) F with ⟨h1, h1'⟩ | ⟨f, hf, h1, h2, h3⟩
  · rcases k_low_or (km_iS k) S with ⟨h2, -⟩ | ⟨t, ht, h2, h3, -⟩
    · exact absurd hcan (by rintro (z | z) <;> contradiction)
    · obtain ⟨hev, f, a, hf, ha, hq, hfa, hpa, hsw, hz, heq, hMI⟩ := hh.evict h1 ht h2 h3
      have hgf : k_getFrame F S k = k_evict F k (nI t) := by
        unfold k_getFrame
        rw [if_pos h1, h3, if_neg (nI_ne (by omega))]
      refine ⟨⟨hF, hS, fun _ _ => by rw [h3]; exact hev⟩, fun th pg cp => ⟨hF, hS, fun _ => ⟨hhd, ?_, ?_⟩⟩, f, _, hgf.trans heq, hf, upd_s, hMI, rfl, rfl, rfl, fun a' ha' => ?_, fun th pg cp => ?_, fun a' v hv ha' => ?_⟩
      · show (m_sweep F 8 (km_mk k) (km_hd k)).1 (ix (m_sweep F 8 (km_mk k) (km_hd k)).2) = 0
        rw [hsw]; exact hz
      · show vp_in (m_sheetAt (km_pl k) (m_sweep F 8 (km_mk k) (km_hd k)).2) 18
        rw [hsw, hq, hh.fr hf, hfa]
        exact vp_in_nI (by omega) (by omega)
      · show upd (km_pl k) a (nI (100 + t)) a' = -1 ↔ _
        by_cases e : a' = a
        · subst e
          rw [upd_s, hpa]
          exact ⟨fun z => absurd z (nI_ne (by omega)), fun z => absurd z (nI_ne (by omega))⟩
        · rw [upd_n e]
      · unfold m_getFrame
        show (if m_lowF (km_pl k) F 0 < 0 then _ else _) = _
        rw [hh.lowF F 0 (by omega), h1, if_pos (by decide)]
        unfold m_evict
        show ((m_sweep F 8 (km_mk k) (km_hd k)).2, (th, pg, (m_sweep F 8 (km_mk k) (km_hd k)).1, upd (km_pl k) (ix (m_sheetAt (km_pl k) (m_sweep F 8 (km_mk k) (km_hd k)).2)) (m_lowS (km_pl k) S 0), cvw (km_wd k), m_turn F (m_sweep F 8 (km_mk k) (km_hd k)).2, km_fl k, km_ev k + 1, cp)) = _
        rw [hsw, hq, hh.fr hf, hfa, ix_nI (by omega), hh.lowS S 0 (by omega), h3, if_neg (nI_ne (by omega)), h100, turn_next hF (vp_in_nI hf (by omega))]
      · have hne : ¬ a' = a := fun z => nI_ne (a := f) (by omega) (by rw [← hpa, ← z]; exact hv)
        have hgf2 : k_getFrame F S (ku_pl k (upd (km_pl k) a' v)) = k_evict F (ku_pl k (upd (km_pl k) a' v)) (nI t) := by
          unfold k_getFrame
          show (if k_low (km_iF k) F 0 = -1 then (if k_low (km_iS k) S 0 = -1 then _ else k_evict F _ (k_low (km_iS k) S 0)) else _) = _
          rw [if_pos h1, h3, if_neg (nI_ne (by omega))]
        refine ⟨?_, hF, hS, fun _ _ => ?_⟩
        · rw [hgf2]
          have hsw2 : upd (upd (km_pl k) a' v) a (nI (100 + t)) = upd (upd (km_pl k) a (nI (100 + t))) a' v := by
            funext j
            by_cases e1 : j = a
            · subst e1; rw [upd_s, upd_n (Ne.symm hne), upd_s]
            · rw [upd_n e1]
              by_cases e2 : j = a'
              · subst e2; rw [upd_s, upd_s]
              · rw [upd_n e2, upd_n e2, upd_n e1]
          have hixf : ix (k_sweep F F (km_mk k) (km_hd k)).2 = f := by rw [hq]; exact ix_nI (by omega)
          unfold k_evict
          show ((k_sweep F F (km_mk k) (km_hd k)).2, (upd (km_iF k) (ix (k_sweep F F (km_mk k) (km_hd k)).2) (-1), upd (km_iS k) (ix (nI t)) (km_iF k (ix (k_sweep F F (km_mk k) (km_hd k)).2)), (k_sweep F F (km_mk k) (km_hd k)).1, upd (upd (km_pl k) a' v) (ix (km_iF k (ix (k_sweep F F (km_mk k) (km_hd k)).2))) (100 + nI t), km_ct k, km_wd k, k_next F (k_sweep F F (km_mk k) (km_hd k)).2, km_fl k, km_ev k + 1)) = _
          rw [hixf, hfa, ix_nI (show t < 2 ^ 31 by omega), ix_nI (show a < 2 ^ 31 by omega), h100, hq, hsw2]
        · show ev_ok F S _ (k_low (km_iS k) S 0)
          rw [h3]
          exact hev
  · have hgf : k_getFrame F S k = (nI f, k) := by
      unfold k_getFrame
      rw [h2, if_neg (nI_ne (by omega))]
    have hne : ¬ k_low (km_iF k) F 0 = -1 := by rw [h2]; exact nI_ne (by omega)
    refine ⟨⟨hF, hS, fun z => absurd z hne⟩, fun th pg cp => ⟨hF, hS, fun z => ?_⟩, f, k, hgf, hf, h1, hh, rfl, rfl, rfl, fun _ _ => Iff.rfl, fun th pg cp => ?_, fun a' v hv ha' => ⟨?_, hF, hS, fun z => absurd z hne⟩⟩
    · have z' : m_lowF (km_pl k) F 0 < 0 := z
      rw [hh.lowF F 0 (by omega), h2] at z'
      exact absurd z' (nI_nlt0 (by omega))
    · unfold m_getFrame
      show (if m_lowF (km_pl k) F 0 < 0 then _ else (m_lowF (km_pl k) F 0, _)) = _
      rw [hh.lowF F 0 (by omega), h2, if_neg (nI_nlt0 (by omega))]
    · unfold k_getFrame
      show (if k_low (km_iF k) F 0 = -1 then _ else (k_low (km_iF k) F 0, _)) = _
      rw [h2, if_neg (nI_ne (by omega))]
end GF1
