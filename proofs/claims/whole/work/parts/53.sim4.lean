theorem upd_upd {f : Nat → Int32} {i : Nat} {x y : Int32} : upd (upd f i x) i y = upd f i y := by
  funext j
  by_cases e : j = i
  · subst e; rw [upd_s, upd_s]
  · rw [upd_n e, upd_n e, upd_n e]
theorem upd_id {f : Nat → Int32} {i : Nat} {x : Int32} (h : f i = x) : upd f i x = f := by
  funext j
  by_cases e : j = i
  · subst e; rw [upd_s]; exact h.symm
  · rw [upd_n e]
theorem lt100 {f : Nat} (hf : f < 100) : nI f < 100 := nI_lt (b := 100) hf (by omega)
theorem nlt100 {t : Nat} (ht : t < 1000) : ¬ nI (100 + t) < 100 := fun h => by
  have := (nI_ltI (a := 100 + t) (b := 100) (by omega) (by omega)).mp h
  omega
section GF2
variable {F S : Nat} {k : KM}
theorem MI.lay (h : MI F S k) {a f : Nat} (ha : a < F + S) (hf : f < F) (hpa : km_pl k a = -1) (hif : km_iF k f = -1) : MI F S (k_lay k (nI a) (nI f)) := by
  obtain ⟨⟨hF2, hF, hS⟩, hhd, hpl, hiF, hiS, hct⟩ := h
  have e1 : k_lay k (nI a) (nI f) = ku_fl (ku_pl (ku_iF k (upd (km_iF k) f (nI a))) (upd (km_pl k) a (nI f))) (km_fl k + 1) := by
    unfold k_lay
    rw [ix_nI (by omega), ix_nI (by omega)]
  rw [e1]
  refine ⟨⟨hF2, hF, hS⟩, hhd, fun a' ha' => ?_, fun f' hf' => ?_, fun t' ht' => ?_, ?_⟩
  · show upd (km_pl k) a (nI f) a' = -1 ∨ _
    by_cases e : a' = a
    · subst e; exact Or.inr ⟨ha, Or.inl ⟨f, hf, upd_s, upd_s⟩⟩
    · rcases hpl a' ha' with h1 | ⟨h1, ⟨f', hf', h2, h3⟩ | ⟨t', ht', h2, h3⟩⟩
      · exact Or.inl ((upd_n e).trans h1)
      · have hne : ¬ f' = f := fun z => nI_ne (a := a') (by omega) (h3.symm.trans (by rw [z]; exact hif))
        exact Or.inr ⟨h1, Or.inl ⟨f', hf', (upd_n e).trans h2, (upd_n hne).trans h3⟩⟩
      · exact Or.inr ⟨h1, Or.inr ⟨t', ht', (upd_n e).trans h2, h3⟩⟩
  · show upd (km_iF k) f (nI a) f' = -1 ∨ _
    by_cases e : f' = f
    · subst e; exact Or.inr ⟨a, ha, upd_s, upd_s⟩
    · rcases hiF f' hf' with h1 | ⟨a', ha', h1, h2⟩
      · exact Or.inl ((upd_n e).trans h1)
      · have hne : ¬ a' = a := fun z => nI_ne (a := f') (by omega) (h2.symm.trans (by rw [z]; exact hpa))
        exact Or.inr ⟨a', ha', (upd_n e).trans h1, (upd_n hne).trans h2⟩
  · rcases hiS t' ht' with h1 | ⟨a', ha', h1, h2⟩
    · exact Or.inl h1
    · have hne : ¬ a' = a := fun z => nI_ne (a := 100 + t') (by omega) (h2.symm.trans (by rw [z]; exact hpa))
      exact Or.inr ⟨a', ha', h1, (upd_n hne).trans h2⟩
  · show ow (upd (km_pl k) a (nI f)) (-1) (F + S) = ow (upd (km_iF k) f (nI a)) (-1) F + ow (km_iS k) (-1) S
    have c1 := ow_upd (km_pl k) (-1) (nI f) a (F + S) ha
    have c2 := ow_upd (km_iF k) (-1) (nI a) f F hf
    rw [if_pos hpa, if_neg (nI_ne (by omega))] at c1
    rw [if_pos hif, if_neg (nI_ne (by omega))] at c2
    omega
/-- a sheet's place goes free -/
theorem MI.free (h : MI F S k) {a : Nat} (ha : a < F + S) (hl : ¬ km_pl k a = -1) : fp_ok F S (km_pl k a) ∧ MI F S (ku_pl (k_freePlace k (km_pl k a)) (upd (km_pl k) a (-1))) ∧
    ((∃ f, f < F ∧ km_pl k a = nI f ∧ k_freePlace k (km_pl k a) = ku_mk (ku_iF k (upd (km_iF k) f (-1))) (upd (km_mk k) f 0)) ∨ (∃ t, t < S ∧ km_pl k a = nI (100 + t) ∧ k_freePlace k (km_pl k a) = ku_iS k (upd (km_iS k) t (-1)))) := by
  obtain ⟨⟨hF2, hF, hS⟩, hhd, hpl, hiF, hiS, hct⟩ := h
  rcases hpl a (by omega) with h0 | ⟨-, ⟨f, hf, h2, h3⟩ | ⟨t, ht, h2, h3⟩⟩
  · exact absurd h0 hl
  · have e1 : k_freePlace k (km_pl k a) = ku_mk (ku_iF k (upd (km_iF k) f (-1))) (upd (km_mk k) f 0) := by
      unfold k_freePlace
      rw [h2, if_pos (lt100 (by omega)), ix_nI (by omega)]
    refine ⟨⟨fun _ => by rw [h2]; exact vp_in_nI hf (by omega), fun z => absurd (by rw [h2]; exact lt100 (by omega)) z⟩, ?_, Or.inl ⟨f, hf, h2, e1⟩⟩
    rw [e1]
    refine ⟨⟨hF2, hF, hS⟩, hhd, fun a' ha' => ?_, fun f' hf' => ?_, fun t' ht' => ?_, ?_⟩
    · show upd (km_pl k) a (-1) a' = -1 ∨ _
      by_cases e : a' = a
      · subst e; exact Or.inl upd_s
      · rcases hpl a' ha' with q1 | ⟨q1, ⟨f', hf', q2, q3⟩ | ⟨t', ht', q2, q3⟩⟩
        · exact Or.inl ((upd_n e).trans q1)
        · have hne : ¬ f' = f := fun z => e (nI_inj (by omega) (by omega) (q3.symm.trans (by rw [z]; exact h3)))
          exact Or.inr ⟨q1, Or.inl ⟨f', hf', (upd_n e).trans q2, (upd_n hne).trans q3⟩⟩
        · exact Or.inr ⟨q1, Or.inr ⟨t', ht', (upd_n e).trans q2, q3⟩⟩
    · show upd (km_iF k) f (-1) f' = -1 ∨ _
      by_cases e : f' = f
      · subst e; exact Or.inl upd_s
      · rcases hiF f' hf' with q1 | ⟨a', ha', q1, q2⟩
        · exact Or.inl ((upd_n e).trans q1)
        · have hne : ¬ a' = a := fun z => e (nI_inj (by omega) (by omega) (q2.symm.trans (by rw [z]; exact h2)))
          exact Or.inr ⟨a', ha', (upd_n e).trans q1, (upd_n hne).trans q2⟩
    · rcases hiS t' ht' with q1 | ⟨a', ha', q1, q2⟩
      · exact Or.inl q1
      · have hne : ¬ a' = a := fun z => by
          have := nI_inj (a := 100 + t') (b := f) (by omega) (by omega) (q2.symm.trans (by rw [z]; exact h2))
          omega
        exact Or.inr ⟨a', ha', q1, (upd_n hne).trans q2⟩
    · show ow (upd (km_pl k) a (-1)) (-1) (F + S) = ow (upd (km_iF k) f (-1)) (-1) F + ow (km_iS k) (-1) S
      have c1 := ow_upd (km_pl k) (-1) (-1) a (F + S) ha
      have c2 := ow_upd (km_iF k) (-1) (-1) f F hf
      rw [if_neg hl, if_pos rfl] at c1
      rw [if_neg (by rw [h3]; exact nI_ne (by omega)), if_pos rfl] at c2
      omega
  · have hn : ¬ km_pl k a < 100 := by rw [h2]; exact nlt100 (by omega)
    have e0 : nI (100 + t) - 100 = nI t := by
      rw [← h100, Int32.add_comm, Int32.add_sub_cancel]
    have e1 : k_freePlace k (km_pl k a) = ku_iS k (upd (km_iS k) t (-1)) := by
      unfold k_freePlace
      rw [if_neg hn, h2, e0, ix_nI (by omega)]
    refine ⟨⟨fun z => absurd z hn, fun _ => by rw [h2, e0]; exact vp_in_nI ht (by omega)⟩, ?_, Or.inr ⟨t, ht, h2, e1⟩⟩
    rw [e1]
    refine ⟨⟨hF2, hF, hS⟩, hhd, fun a' ha' => ?_, fun f' hf' => ?_, fun t' ht' => ?_, ?_⟩
    · show upd (km_pl k) a (-1) a' = -1 ∨ _
      by_cases e : a' = a
      · subst e; exact Or.inl upd_s
      · rcases hpl a' ha' with q1 | ⟨q1, ⟨f', hf', q2, q3⟩ | ⟨t', ht', q2, q3⟩⟩
        · exact Or.inl ((upd_n e).trans q1)
        · exact Or.inr ⟨q1, Or.inl ⟨f', hf', (upd_n e).trans q2, q3⟩⟩
        · have hne : ¬ t' = t := fun z => e (nI_inj (by omega) (by omega) (q3.symm.trans (by rw [z]; exact h3)))
          exact Or.inr ⟨q1, Or.inr ⟨t', ht', (upd_n e).trans q2, (upd_n hne).trans q3⟩⟩
    · rcases hiF f' hf' with q1 | ⟨a', ha', q1, q2⟩
      · exact Or.inl q1
      · have hne : ¬ a' = a := fun z => by
          have := nI_inj (a := f') (b := 100 + t) (by omega) (by omega) (q2.symm.trans (by rw [z]; exact h2))
          omega
        exact Or.inr ⟨a', ha', q1, (upd_n hne).trans q2⟩
    · show upd (km_iS k) t (-1) t' = -1 ∨ _
      by_cases e : t' = t
      · subst e; exact Or.inl upd_s
      · rcases hiS t' ht' with q1 | ⟨a', ha', q1, q2⟩
        · exact Or.inl ((upd_n e).trans q1)
        · have hne : ¬ a' = a := fun z => e (by
            have := nI_inj (a := 100 + t') (b := 100 + t) (by omega) (by omega) (q2.symm.trans (by rw [z]; exact h2))
            omega)
          exact Or.inr ⟨a', ha', (upd_n e).trans q1, (upd_n hne).trans q2⟩
    · show ow (upd (km_pl k) a (-1)) (-1) (F + S) = ow (km_iF k) (-1) F + ow (upd (km_iS k) t (-1)) (-1) S
      have c1 := ow_upd (km_pl k) (-1) (-1) a (F + S) ha
      have c2 := ow_upd (km_iS k) (-1) (-1) t S ht
      rw [if_neg hl, if_pos rfl] at c1
      rw [if_neg (by rw [h3]; exact nI_ne (by omega)), if_pos rfl] at c2
      omega
/-- a live sheet, brought in if it lies in a slot -/
theorem MI.touch (h : MI F S k) {a : Nat} (ha : a < F + S) (hl : ¬ km_pl k a = -1) : to_ok F S k (nI a) ∧ (∀ th pg cp, mb_ok F S (cvm th pg cp k) (nI a)) ∧
    ∃ (f : Nat) (k' : KM), k_tch F S k (nI a) = k' ∧ f < F ∧ km_pl k' a = nI f ∧ MI F S k' ∧ km_ct k' = km_ct k ∧ km_wd k' = km_wd k ∧ (∀ a, a < 18 → (km_pl k' a = -1 ↔ km_pl k a = -1)) ∧ ∀ th pg cp, m_bringIn F S (cvm th pg cp k) (nI a) = cvm th pg cp k' := by
  have hh := h
  obtain ⟨⟨hF2, hF, hS⟩, hhd, hpl, hiF, hiS, hct⟩ := h
  have hixa : ix (nI a) = a := ix_nI (by omega)
  obtain ⟨hfp, hMI0, hcase⟩ := hh.free ha hl
  rcases hcase with ⟨f, hf, h2, e1⟩ | ⟨t, ht, h2, e1⟩
  · have hlt : km_pl k (ix (nI a)) < 100 := by rw [hixa, h2]; exact lt100 (by omega)
    have e2 : k_tch F S k (nI a) = k := if_pos hlt
    refine ⟨⟨vp_in_nI ha (by omega), fun z => absurd hlt z, by rw [e2, hixa, h2]; exact vp_in_nI hf (by omega)⟩, fun th pg cp => ⟨vp_in_nI (by omega) (by omega), fun z => absurd hlt z⟩, f, k, e2, hf, h2, hh, rfl, rfl, fun _ _ => Iff.rfl, fun th pg cp => if_pos hlt⟩
  · have hnlt : ¬ km_pl k (ix (nI a)) < 100 := by rw [hixa, h2]; exact nlt100 (by omega)
    obtain ⟨k0, hk0⟩ : ∃ k0, k0 = ku_pl (k_freePlace k (km_pl k a)) (upd (km_pl k) a (-1)) := ⟨_, rfl⟩
    rw [← hk0] at hMI0
    have hp0 : km_pl k0 = upd (km_pl k) a (-1) := by rw [hk0]
    have hm0 : km_mk k0 = km_mk k := by rw [hk0, e1]
    have hw0 : km_wd k0 = km_wd k := by rw [hk0, e1]
    have hh0 : km_hd k0 = km_hd k := by rw [hk0, e1]
    have hf0 : km_fl k0 = km_fl k := by rw [hk0, e1]
    have hv0 : km_ev k0 = km_ev k := by rw [hk0, e1]
    have hc0 : km_ct k0 = km_ct k := by rw [hk0, e1]
    have hs0 : km_iS k0 = upd (km_iS k) t (-1) := by rw [hk0, e1]
    have hcan : ¬ k_low (km_iF k0) F 0 = -1 ∨ ¬ k_low (km_iS k0) S 0 = -1 := by
      right
      rcases k_low_or (km_iS k0) S with ⟨-, q⟩ | ⟨j, hj, -, q, -⟩
      · exact absurd (by rw [hs0]; exact upd_s) (q t ht)
      · rw [q]; exact nI_ne (by omega)
    obtain ⟨-, hmg, f, k', hgf, hf, hif, hMI', hct', hwd', hfl', hlive, href, hstale⟩ := hMI0.got hcan
    have hpa0 : km_pl k0 a = -1 := by rw [hp0]; exact upd_s
    obtain ⟨hg2, hok2⟩ := hstale a (km_pl k a) hpa0 (by omega)
    have hback : ku_pl k0 (upd (km_pl k0) a (km_pl k a)) = k_freePlace k (km_pl k a) := by
      rw [hp0, upd_upd, upd_id rfl, hk0, e1]
    rw [hback] at hg2 hok2
    have hpa' : km_pl k' a = -1 := (hlive a (by omega)).mpr hpa0
    have hbi : k_bringIn F S k (nI a) = k_lay k' (nI a) (nI f) := by
      unfold k_bringIn
      show k_lay (k_getFrame F S (k_freePlace k (km_pl k (ix (nI a))))).2 (nI a) (k_getFrame F S (k_freePlace k (km_pl k (ix (nI a))))).1 = _
      rw [hixa, hg2]
      unfold k_lay
      rw [hixa]
      show _ = _
      rw [show upd (km_pl (ku_pl k' (upd (km_pl k') a (km_pl k a)))) a (nI f) = upd (km_pl k') a (nI f) from upd_upd]
    have e2 : k_tch F S k (nI a) = k_lay k' (nI a) (nI f) := (if_neg hnlt).trans hbi
    have hlayp : km_pl (k_lay k' (nI a) (nI f)) = upd (km_pl k') a (nI f) := by
      unfold k_lay
      rw [hixa]
    refine ⟨⟨vp_in_nI ha (by omega), fun _ => ⟨vp_in_nI ha (by omega), by rw [hixa]; exact hfp, by rw [hixa]; exact hok2, by rw [hixa, hg2]; exact vp_in_nI hf (by omega)⟩, ?_⟩, fun th pg cp => ⟨vp_in_nI (by omega) (by omega), fun _ => ?_⟩, f, _, e2, hf, ?_, hMI'.lay ha hf hpa' hif, hct'.trans hc0, hwd'.trans hw0, fun a' ha' => ?_, fun th pg cp => ?_⟩
    · rw [e2, hixa, hlayp, upd_s]
      exact vp_in_nI hf (by omega)
    · have := hmg th pg cp
      show mg_ok F S (th, pg, km_mk k, upd (km_pl k) (ix (nI a)) (-1), cvw (km_wd k), km_hd k, km_fl k, km_ev k, cp)
      rw [hixa, ← hp0, ← hm0, ← hw0, ← hh0, ← hf0, ← hv0]
      exact this
    · rw [hlayp, upd_s]
    · rw [hlayp]
      by_cases e : a' = a
      · subst e
        rw [upd_s]
        exact ⟨fun z => absurd z (nI_ne (by omega)), fun z => absurd z hl⟩
      · rw [upd_n e, hlive a' ha', hp0, upd_n e]
    · unfold m_bringIn
      show (if km_pl k (ix (nI a)) < 100 then _ else _) = _
      rw [if_neg hnlt]
      have hr := href th pg cp
      have e3 : (su_li (cvm th pg cp k) (upd (sg_li (cvm th pg cp k)) (ix (nI a)) (-1))) = cvm th pg cp k0 := by
        show (th, pg, km_mk k, upd (km_pl k) (ix (nI a)) (-1), cvw (km_wd k), km_hd k, km_fl k, km_ev k, cp) = _
        rw [hixa, ← hp0, ← hm0, ← hw0, ← hh0, ← hf0, ← hv0]
      rw [e3, hr]
      show (th, pg, km_mk k', upd (km_pl k') (ix (nI a)) (nI f), cvw (km_wd k'), km_hd k', km_fl k' + 1, km_ev k', cp) = _
      unfold k_lay
      rw [hixa]
end GF2
