theorem i4 {a i : Nat} (ha : a < 1000) (hi : i < 4) : ix (4 * nI a + nI i) = 4 * a + i := by
  rw [show (4 : Int32) = nI 4 from rfl, pk_mul, nI_add]
  exact ix_nI (by omega)
theorem i6 {a i : Nat} (ha : a < 1000) (hi : i < 6) : ix (6 * nI a + nI i) = 6 * a + i := by
  rw [show (6 : Int32) = nI 6 from rfl, pk_mul, nI_add]
  exact ix_nI (by omega)
theorem cpw_none {a : Nat} (ha : a < 1000) (w : Nat → Nat → Int32) : m_cpw (-1) (nI a) 4 0 (cvw w) = cvw (up2 w a (fun _ => 0)) := by
  unfold m_cpw m_cpw m_cpw m_cpw m_cpw
  simp only [m1_lt, if_false, i4 ha (show 0 < 4 by omega), i4 ha (show 0 + 1 < 4 by omega), i4 ha (show 0 + 1 + 1 < 4 by omega), i4 ha (show 0 + 1 + 1 + 1 < 4 by omega)]
  funext k
  by_cases h : k / 4 = a
  · have h1 : cvw (up2 w a (fun _ => 0)) k = 0 := by unfold cvw up2; rw [if_pos h]
    rw [h1]
    by_cases e3 : k = 4 * a + (0 + 1 + 1 + 1)
    · rw [e3, upd_s]
    · rw [upd_n e3]
      by_cases e2 : k = 4 * a + (0 + 1 + 1)
      · rw [e2, upd_s]
      · rw [upd_n e2]
        by_cases e1 : k = 4 * a + (0 + 1)
        · rw [e1, upd_s]
        · rw [upd_n e1, show k = 4 * a + 0 by omega, upd_s]
  · rw [upd_n (by omega), upd_n (by omega), upd_n (by omega), upd_n (by omega)]
    unfold cvw up2
    rw [if_neg h]
theorem cpw_like {a o : Nat} (ha : a < 1000) (ho : o < 1000) (hne : ¬ o = a) (w : Nat → Nat → Int32) (g : Nat → Int32) : m_cpw (nI o) (nI a) 4 0 (cvw w) = cvw (up2 w a (va_cpy (w o) g 0 0 4)) := by
  unfold m_cpw m_cpw m_cpw m_cpw m_cpw
  simp only [nI_ge0 (show o < 2 ^ 31 by omega), if_true, i4 ha (show 0 < 4 by omega), i4 ha (show 0 + 1 < 4 by omega), i4 ha (show 0 + 1 + 1 < 4 by omega), i4 ha (show 0 + 1 + 1 + 1 < 4 by omega), i4 ho (show 0 < 4 by omega), i4 ho (show 0 + 1 < 4 by omega), i4 ho (show 0 + 1 + 1 < 4 by omega), i4 ho (show 0 + 1 + 1 + 1 < 4 by omega)]
  have n1 : ∀ i j, i < 4 → j < 4 → ¬ 4 * o + i = 4 * a + j := fun i j hi hj => by omega
  rw [upd_n (n1 _ _ (by omega) (by omega)), upd_n (n1 _ _ (by omega) (by omega)), upd_n (n1 _ _ (by omega) (by omega)), upd_n (n1 _ _ (by omega) (by omega)), upd_n (n1 _ _ (by omega) (by omega)), upd_n (n1 _ _ (by omega) (by omega)),
    cvw_at (by omega), cvw_at (by omega), cvw_at (by omega), cvw_at (by omega)]
  funext k
  by_cases h : k / 4 = a
  · have h1 : cvw (up2 w a (va_cpy (w o) g 0 0 4)) k = w o (k % 4) := by
      unfold cvw up2 va_cpy
      rw [if_pos h]
      simp [Nat.mod_lt]
    rw [h1]
    by_cases e3 : k = 4 * a + (0 + 1 + 1 + 1)
    · rw [e3, upd_s]; congr 1; omega
    · rw [upd_n e3]
      by_cases e2 : k = 4 * a + (0 + 1 + 1)
      · rw [e2, upd_s]; congr 1; omega
      · rw [upd_n e2]
        by_cases e1 : k = 4 * a + (0 + 1)
        · rw [e1, upd_s]; congr 1; omega
        · rw [upd_n e1, show k = 4 * a + 0 by omega, upd_s]; congr 1; omega
  · rw [upd_n (by omega), upd_n (by omega), upd_n (by omega), upd_n (by omega)]
    unfold cvw up2
    rw [if_neg h]
section GF3
variable {F S : Nat} {k : KM}
theorem MI.make0 (h : MI F S k) (hc : m_canMake F S (km_pl k) = 0) : mk_ok F S k ∧ k_make F S k = (-1, k) := by
  obtain ⟨h1, h2⟩ := h.can.mp hc
  obtain ⟨e1, e2⟩ := h.no h1 h2
  refine ⟨⟨h.1.2.1, h.1.2.2, fun hn => ⟨e2, ?_, fun z => absurd (by rw [e1]) z⟩⟩, ?_⟩
  · rcases k_low_or (km_pl k) (F + S) with ⟨q, -⟩ | ⟨j, hj, -, q, -⟩
    · exact absurd q hn
    · rw [q]; have := h.1; exact vp_in_nI hj (by omega)
  · unfold k_make
    by_cases q : k_low (km_pl k) (F + S) 0 = -1
    · rw [if_pos q]
    · rw [if_neg q, e1, if_pos rfl]
theorem MI.make1 (h : MI F S k) (hc : ¬ m_canMake F S (km_pl k) = 0) : mk_ok F S k ∧ ∃ (a : Nat) (k2 : KM), k_make F S k = (nI a, k2) ∧ a < F + S ∧ km_pl k a = -1 ∧ MI F S k2 ∧ ¬ km_pl k2 a = -1 ∧ (∃ f, f < F ∧ km_pl k2 a = nI f) ∧ (∀ a', a' < 18 → ¬ a' = a → (km_pl k2 a' = -1 ↔ km_pl k a' = -1)) ∧
    km_ct k2 = upd (km_ct k) a 1 ∧ km_wd k2 = up2 (km_wd k) a (fun _ => 0) ∧
    ∀ (th pg : Nat → Int32) (cp : Int32) (kx : Nat) (like : Int32), kx < 36 → (0 ≤ like → vp_in like 18) → mm_ok F S (cvm th pg cp k) (nI kx) like ∧
      m_make F S (cvm th pg cp k) (nI kx) like = su_wd (cvm th (upd pg kx (nI a)) cp k2) (m_cpw like (nI a) 4 0 (cvw (km_wd k))) := by
  have hcan : ¬ k_low (km_iF k) F 0 = -1 ∨ ¬ k_low (km_iS k) S 0 = -1 := by
    refine Classical.byContradiction fun z => hc (h.can.mpr ⟨?_, ?_⟩)
    · exact Classical.byContradiction fun q => z (Or.inl q)
    · exact Classical.byContradiction fun q => z (Or.inr q)
  obtain ⟨a, ha, hpa, hlow, hat⟩ := h.pigeon hcan
  obtain ⟨hgf, hmg, f, k', hg, hf, hif, hMI', hct', hwd', hfl', hlive, href, -⟩ := h.got hcan
  obtain ⟨⟨hF2, hF, hS⟩, -⟩ := h
  have hne : ¬ k_low (km_pl k) (F + S) 0 = -1 := by rw [hlow]; exact nI_ne (by omega)
  have hixa : ix (nI a) = a := ix_nI (by omega)
  have hpa' : km_pl k' a = -1 := (hlive a (by omega)).mpr hpa
  have e1 : k_make F S k = (nI a, k_lay (ku_ct (ku_wd k' (up2 (km_wd k') a (fun _ => 0))) (upd (km_ct k') a 1)) (nI a) (nI f)) := by
    unfold k_make
    rw [if_neg hne, hg, if_neg (nI_ne (by omega)), hlow]
    show (nI a, k_lay (ku_ct (ku_wd k' (up2 (km_wd k') (ix (nI a)) (fun _ => 0))) (upd (km_ct k') (ix (nI a)) 1)) (nI a) (nI f)) = _
    rw [hixa]
  have hMI2 : MI F S (ku_ct (ku_wd k' (up2 (km_wd k') a (fun _ => 0))) (upd (km_ct k') a 1)) := hMI'
  have hlp : km_pl (k_lay (ku_ct (ku_wd k' (up2 (km_wd k') a (fun _ => 0))) (upd (km_ct k') a 1)) (nI a) (nI f)) = upd (km_pl k') a (nI f) := by
    unfold k_lay
    rw [hixa]
  refine ⟨⟨hF, hS, fun _ => ⟨hgf, by rw [hlow]; exact vp_in_nI ha (by omega), fun _ => by rw [hg]; exact vp_in_nI hf (by omega)⟩⟩, a, _, e1, ha, hpa, hMI2.lay ha hf hpa' hif, ?_, ⟨f, hf, by rw [hlp, upd_s]⟩, fun a' ha' hn => ?_, ?_, ?_, fun th pg cp kx like hkx hlk => ⟨⟨hmg th pg cp, ?_, vp_in_nI hkx (by omega), hlk⟩, ?_⟩⟩
  · rw [hlp, upd_s]; exact nI_ne (by omega)
  · rw [hlp, upd_n hn]; exact hlive a' ha'
  · show upd (km_ct k') a 1 = _
    rw [hct']
  · show up2 (km_wd k') a (fun _ => 0) = _
    rw [hwd']
  · show vp_in (m_sheetAt (km_pl k) (-1)) 18
    rw [hat]
    exact vp_in_nI (by omega) (by omega)
  · unfold m_make
    show (let q := m_getFrame F S (cvm th pg cp k); su_fl (su_pg (su_wd (su_li q.2 (upd (sg_li q.2) (ix (m_sheetAt (km_pl k) (-1))) q.1)) (m_cpw like (m_sheetAt (km_pl k) (-1)) 4 0 (sg_wd q.2))) (upd (sg_pg q.2) (ix (nI kx)) (m_sheetAt (km_pl k) (-1)))) (sg_fl q.2 + 1)) = _
    rw [href th pg cp, hat, hixa, ix_nI (show kx < 2 ^ 31 by omega)]
    show (th, upd pg kx (nI a), km_mk k', upd (km_pl k') a (nI f), m_cpw like (nI a) 4 0 (cvw (km_wd k')), km_hd k', km_fl k' + 1, km_ev k', cp) = _
    unfold k_lay
    rw [hixa, hwd']
end GF3
