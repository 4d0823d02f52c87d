theorem dv4 : ∀ x, x < 24 → nI x / 4 = nI (x / 4) := by decide
theorem md4 : ∀ x, x < 24 → nI x - nI x / 4 * 4 = nI (x % 4) := by decide
/-- the pages hold together with the sheets -/
def PI (N : Nat) (th : Nat → Int32) (pg : Nat → Nat → Int32) (pl ct : Nat → Int32) : Prop :=
  (∀ p x, p < 6 → x < 6 → pg p x = -1 ∨ ∃ a, a < N ∧ pg p x = nI a ∧ ¬ pl a = -1) ∧
  (∀ a, a < N → ¬ pl a = -1 → ct a = nI (ow (cvp pg) (nI a) 36) ∧ 1 ≤ ow (cvp pg) (nI a) 36) ∧
  (∀ p, p < 6 → th p = 0 → ∀ x, x < 6 → pg p x = -1)
def Inv (F S : Nat) (q : KS) : Prop := MI F S (ks_m q) ∧ PI (F + S) (ks_th q) (ks_pg q) (km_pl (ks_m q)) (km_ct (ks_m q))
abbrev cv (q : KS) : Sg := cvm (ks_th q) (cvp (ks_pg q)) (ks_cp q) (ks_m q)
theorem cvp_all {pg : Nat → Nat → Int32} {P : Int32 → Prop} (h : ∀ p x, p < 6 → x < 6 → P (pg p x)) : ∀ k, k < 36 → P (cvp pg k) := fun k hk => h (k / 6) (k % 6) (by omega) (by omega)
/-- no page has a sheet that isn't there -/
theorem PI.dead {N : Nat} {th : Nat → Int32} {pg : Nat → Nat → Int32} {pl ct : Nat → Int32} (h : PI N th pg pl ct) (hN : N ≤ 18) {a : Nat} (ha : a < 1000) (hd : pl a = -1) : ow (cvp pg) (nI a) 36 = 0 := by
  refine Nat.eq_zero_of_not_pos fun hp => ?_
  obtain ⟨k, hk, e⟩ := ow_pos hp
  have h1 := h.1 (k / 6) (k % 6) (by omega) (by omega)
  rw [show pg (k / 6) (k % 6) = nI a from e] at h1
  rcases h1 with h1 | ⟨a', ha', h1, h2⟩
  · exact nI_ne (by omega) h1
  · have := nI_inj (by omega) (by omega) h1
    subst this
    exact h2 hd
theorem PI.live {N : Nat} {th : Nat → Int32} {pg : Nat → Nat → Int32} {pl pl' ct : Nat → Int32} (h : PI N th pg pl ct) (hl : ∀ a, a < 18 → (pl' a = -1 ↔ pl a = -1)) (hN : N ≤ 18) : PI N th pg pl' ct := by
  obtain ⟨h1, h2, h3⟩ := h
  refine ⟨fun p x hp hx => ?_, fun a ha hn => h2 a ha (fun z => hn ((hl a (by omega)).mpr z)), h3⟩
  rcases h1 p x hp hx with q | ⟨a, ha, q, z⟩
  · exact Or.inl q
  · exact Or.inr ⟨a, ha, q, fun z' => z ((hl a (by omega)).mp z')⟩
section OPS
variable {F S : Nat} {q : KS}
/-- a word is loaded -/
theorem Inv.load (h : Inv F S q) {p x : Nat} (hp : p < 6) (hx : x < 24) : xl_ok F S q (nI p) (nI x) ∧ (∀ th', ml_ok F S (su_th (cv q) th') (nI p) (nI x)) ∧ Inv F S (k_loadW F S q (nI p) (nI x)).2 ∧ m_loaded F S (cv q) (nI p) (nI x) = ((k_loadW F S q (nI p) (nI x)).1, cv (k_loadW F S q (nI p) (nI x)).2) ∧
    ks_th (k_loadW F S q (nI p) (nI x)).2 = ks_th q ∧ ks_pg (k_loadW F S q (nI p) (nI x)).2 = ks_pg q ∧ ks_cp (k_loadW F S q (nI p) (nI x)).2 = ks_cp q := by
  obtain ⟨hM, hP⟩ := h
  obtain ⟨hF2, hF, hS⟩ := hM.1
  have e4 : nI x / 4 = nI (x / 4) := dv4 x hx
  have ew : wr (nI x) = nI (x % 4) := md4 x hx
  have eat : k_at q (nI p) (nI x / 4) = ks_pg q p (x / 4) := by
    unfold k_at
    rw [e4, ix_nI (by omega), ix_nI (by omega)]
  have eix : ix (6 * nI p + nI x / 4) = 6 * p + x / 4 := by rw [e4]; exact i6 (by omega) (by omega)
  have epg : cvp (ks_pg q) (6 * p + x / 4) = ks_pg q p (x / 4) := cvp_at (by omega)
  have hin36 : vp_in (6 * nI p + nI x / 4) 36 := by
    rw [e4]
    exact ix6 (vp_in_nI hp (by omega)) (by omega)
  rcases hP.1 p (x / 4) hp (by omega) with h0 | ⟨a, ha, h0, hl⟩
  · have e1 : k_loadW F S q (nI p) (nI x) = (0, q) := by
      unfold k_loadW
      rw [eat, if_pos h0]
    rw [e1]
    refine ⟨⟨vp_in_nI hp (by omega), by rw [e4]; exact vp_in_nI (by omega) (by omega), by rw [ew]; exact vp_in_nI (by omega) (by omega), fun z => absurd (by rw [eat]; exact h0) z⟩, fun th' => ⟨hin36, fun z => ?_⟩, ⟨hM, hP⟩, ?_, rfl, rfl, rfl⟩
    · have z' : 0 ≤ cvp (ks_pg q) (ix (6 * nI p + nI x / 4)) := z
      rw [eix, epg, h0] at z'
      exact absurd z' m1_lt
    · unfold m_loaded
      show (if 0 ≤ cvp (ks_pg q) (ix (6 * nI p + nI x / 4)) then _ else _) = _
      rw [eix, epg, h0, if_neg m1_lt]
  · obtain ⟨hto, hmb, f, k', hk', hf, hpa, hMI', hct', hwd', hlive, href⟩ := hM.touch ha hl
    have hixa : ix (nI a) = a := ix_nI (by omega)
    have et : k_touch F S (ks_m q) (nI a) = ku_mk k' (upd (km_mk k') f 1) := by
      unfold k_touch
      rw [hk', hixa, hpa, ix_nI (by omega)]
    have e1 : k_loadW F S q (nI p) (nI x) = (km_wd k' a (x % 4), kv_m q (ku_mk k' (upd (km_mk k') f 1))) := by
      unfold k_loadW
      rw [eat, h0, if_neg (nI_ne (by omega)), et, ew, hixa, ix_nI (by omega)]
    rw [e1]
    have hbr : ∀ th', m_bringIn F S (su_th (cv q) th') (nI a) = cvm th' (cvp (ks_pg q)) (ks_cp q) k' := fun th' => href th' _ _
    refine ⟨⟨vp_in_nI hp (by omega), by rw [e4]; exact vp_in_nI (by omega) (by omega), by rw [ew]; exact vp_in_nI (by omega) (by omega), fun _ => by rw [eat, h0]; exact hto⟩, fun th' => ⟨hin36, fun _ => ?_⟩, ⟨hMI', ?_⟩, ?_, rfl, rfl, rfl⟩
    · show mb_ok F S _ (cvp (ks_pg q) (ix (6 * nI p + nI x / 4))) ∧ vp_in (cvp (ks_pg q) (ix (6 * nI p + nI x / 4))) 18 ∧ vp_in (sg_li (m_bringIn F S (su_th (cv q) th') (cvp (ks_pg q) (ix (6 * nI p + nI x / 4)))) (ix (cvp (ks_pg q) (ix (6 * nI p + nI x / 4))))) 8 ∧ vp_in (4 * cvp (ks_pg q) (ix (6 * nI p + nI x / 4)) + (nI x - nI x / 4 * 4)) 72
      rw [eix, epg, h0, hbr th', hixa, md4 x hx]
      refine ⟨hmb th' _ _, vp_in_nI (by omega) (by omega), ?_, ix4 (vp_in_nI (by omega) (by omega)) (by omega)⟩
      show vp_in (km_pl k' a) 8
      rw [hpa]
      exact vp_in_nI (by omega) (by omega)
    · show PI (F + S) (ks_th q) (ks_pg q) (km_pl k') (km_ct k')
      rw [hct']
      exact hP.live hlive (by omega)
    · unfold m_loaded
      show (if 0 ≤ cvp (ks_pg q) (ix (6 * nI p + nI x / 4)) then (sg_wd (m_bringIn F S (cv q) (cvp (ks_pg q) (ix (6 * nI p + nI x / 4)))) (ix (4 * cvp (ks_pg q) (ix (6 * nI p + nI x / 4)) + (nI x - nI x / 4 * 4))), su_mk (m_bringIn F S (cv q) (cvp (ks_pg q) (ix (6 * nI p + nI x / 4)))) (upd (sg_mk (m_bringIn F S (cv q) (cvp (ks_pg q) (ix (6 * nI p + nI x / 4))))) (ix (sg_li (m_bringIn F S (cv q) (cvp (ks_pg q) (ix (6 * nI p + nI x / 4)))) (ix (cvp (ks_pg q) (ix (6 * nI p + nI x / 4)))))) 1)) else _) = _
      rw [eix, epg, h0, if_pos (nI_ge0 (by omega)), show m_bringIn F S (cv q) (nI a) = cvm (ks_th q) (cvp (ks_pg q)) (ks_cp q) k' from href _ _ _, hixa, md4 x hx, i4 (by omega) (by omega)]
      show (cvw (km_wd k') (4 * a + x % 4), (_, _, upd (km_mk k') (ix (km_pl k' a)) 1, _)) = _
      rw [cvw_at (by omega), hpa, ix_nI (by omega)]
end OPS
