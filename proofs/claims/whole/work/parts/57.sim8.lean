section OPS3
variable {F S : Nat} {q : KS}
theorem Inv.write (h : Inv F S q) {a i : Nat} (ha : a < F + S) (hl : ¬ km_pl (ks_m q) a = -1) (hi : i < 4) (v : Int32) : to_ok F S (ks_m q) (nI a) ∧ Inv F S (kv_m q (k_write F S (ks_m q) (nI a) (nI i) v)) ∧ mb_ok F S (cv q) (nI a) ∧ vp_in (sg_li (m_bringIn F S (cv q) (nI a)) a) 8 ∧ sg_pg (m_bringIn F S (cv q) (nI a)) = cvp (ks_pg q) ∧
    cv (kv_m q (k_write F S (ks_m q) (nI a) (nI i) v)) = su_wd (su_mk (m_bringIn F S (cv q) (nI a)) (upd (sg_mk (m_bringIn F S (cv q) (nI a))) (ix (sg_li (m_bringIn F S (cv q) (nI a)) a)) 1)) (upd (sg_wd (m_bringIn F S (cv q) (nI a))) (4 * a + i) v) := by
  obtain ⟨hM, hP⟩ := h
  obtain ⟨hF2, hF, hS⟩ := hM.1
  obtain ⟨hto, hmb, f, k', hk', hf, hpa, hMI', hct', hwd', hlive, href⟩ := hM.touch ha hl
  have hixa : ix (nI a) = a := ix_nI (by omega)
  have et : k_touch F S (ks_m q) (nI a) = ku_mk k' (upd (km_mk k') f 1) := by
    unfold k_touch
    rw [hk', hixa, hpa, ix_nI (by omega)]
  have ew : k_write F S (ks_m q) (nI a) (nI i) v = ku_wd (ku_mk k' (upd (km_mk k') f 1)) (up2 (km_wd k') a (upd (km_wd k' a) i v)) := by
    unfold k_write
    rw [et, hixa, ix_nI (by omega)]
  have hb : m_bringIn F S (cv q) (nI a) = cvm (ks_th q) (cvp (ks_pg q)) (ks_cp q) k' := href _ _ _
  rw [ew, hb]
  refine ⟨hto, ⟨hMI', ?_⟩, hmb _ _ _, ?_, rfl, ?_⟩
  · show PI (F + S) (ks_th q) (ks_pg q) (km_pl k') (km_ct k')
    rw [hct']
    exact hP.live hlive (by omega)
  · show vp_in (km_pl k' a) 8
    rw [hpa]
    exact vp_in_nI (by omega) (by omega)
  · show (ks_th q, cvp (ks_pg q), upd (km_mk k') f 1, km_pl k', cvw (up2 (km_wd k') a (upd (km_wd k' a) i v)), km_hd k', km_fl k', km_ev k', ks_cp q) = (ks_th q, cvp (ks_pg q), upd (km_mk k') (ix (km_pl k' a)) 1, km_pl k', upd (cvw (km_wd k')) (4 * a + i) v, km_hd k', km_fl k', km_ev k', ks_cp q)
    rw [hpa, ix_nI (by omega), cvw_upd hi]
theorem Inv.no (h : Inv F S q) {p x : Nat} (hp : p < 6) (hx : x < 24) : (k_no F S q (nI p) (nI x / 4) = 0 ↔ (m_needs (cvp (ks_pg q)) (nI p) (nI x) = 0 ∨ ¬ m_canMake F S (km_pl (ks_m q)) = 0)) ∧
    (¬ k_no F S q (nI p) (nI x / 4) = 0 → kv_m q (k_make F S (ks_m q)).2 = q ∧ xt_ok F S q (nI p) (nI x) ∧ ¬ m_needs (cvp (ks_pg q)) (nI p) (nI x) = 0 ∧ m_canMake F S (km_pl (ks_m q)) = 0) := by
  have hh := h
  obtain ⟨hM, hP⟩ := h
  obtain ⟨hF2, hF, hS⟩ := hM.1
  obtain ⟨e1, -, -⟩ := hh.need hp (g := x / 4) rfl hx
  rw [dv4 x hx]
  unfold k_no
  rw [e1]
  by_cases hn : m_needs (cvp (ks_pg q)) (nI p) (nI x) = 0
  · rw [if_pos hn]
    exact ⟨⟨fun _ => Or.inl hn, fun _ => rfl⟩, fun z => absurd rfl z⟩
  · rw [if_neg hn]
    by_cases hc : m_canMake F S (km_pl (ks_m q)) = 0
    · obtain ⟨hmk, hmake⟩ := hM.make0 hc
      rw [hmake, if_pos rfl]
      refine ⟨⟨fun z => absurd z (by decide), fun z => absurd hc (z.elim (fun y => absurd y hn) id)⟩, fun _ => ⟨rfl, ⟨vp_in_nI hp (by omega), by rw [dv4 x hx]; exact vp_in_nI (by omega) (by omega), fun z => ?_, hmk⟩, hn, hc⟩⟩
      have eat : k_at q (nI p) (nI x / 4) = ks_pg q p (x / 4) := by
        unfold k_at
        rw [dv4 x hx, ix_nI (by omega), ix_nI (by omega)]
      rw [eat] at z ⊢
      rcases hP.1 p (x / 4) hp (by omega) with h0 | ⟨a, ha, h0, -⟩
      · exact absurd h0 z
      · rw [h0]; exact vp_in_nI ha (by omega)
    · obtain ⟨hmk, a, k2, hmake, ha, -⟩ := hM.make1 hc
      rw [hmake, if_neg (nI_ne (by omega))]
      exact ⟨⟨fun _ => Or.inr hc, fun _ => rfl⟩, fun z => absurd rfl z⟩
theorem Inv.store (h : Inv F S q) {p x : Nat} (hp : p < 6) (hx : x < 24) (hth : ¬ ks_th q p = 0) (hno : k_no F S q (nI p) (nI x / 4) = 0) (v : Int32) : xs_ok F S q (nI p) (nI x) ∧ ms_ok F S (cv q) (nI p) (nI x) ∧ Inv F S (k_storeW F S q (nI p) (nI x) v) ∧ m_stored F S (cv q) (nI p) (nI x) v = cv (k_storeW F S q (nI p) (nI x) v) ∧
    ks_th (k_storeW F S q (nI p) (nI x) v) = ks_th q ∧ ks_cp (k_storeW F S q (nI p) (nI x) v) = ks_cp q := by
  have hh := h
  obtain ⟨hM, hP⟩ := h
  obtain ⟨hF2, hF, hS⟩ := hM.1
  obtain ⟨en, hn0, hn1⟩ := hh.need hp (g := x / 4) rfl hx
  have hor := ((hh.no hp hx).1).mp hno
  have e4 : nI x / 4 = nI (x / 4) := dv4 x hx
  have ew : wr (nI x) = nI (x % 4) := md4 x hx
  have eat : k_at q (nI p) (nI x / 4) = ks_pg q p (x / 4) := by
    unfold k_at
    rw [e4, ix_nI (by omega), ix_nI (by omega)]
  have eix : ix (6 * nI p + nI x / 4) = 6 * p + x / 4 := by rw [e4]; exact i6 (by omega) (by omega)
  have epg : cvp (ks_pg q) (6 * p + x / 4) = ks_pg q p (x / 4) := cvp_at (by omega)
  have hin36 : vp_in (6 * nI p + nI x / 4) 36 := by
    rw [e4]
    exact ix6 (vp_in_nI hp (by omega)) (by omega)
  have hpv : ¬ k_at q (nI p) (nI x / 4) = -1 → vp_in (k_at q (nI p) (nI x / 4)) (F + S) := by
    intro z
    rw [eat] at z ⊢
    rcases hP.1 p (x / 4) hp (by omega) with h0 | ⟨a, ha, h0, -⟩
    · exact absurd h0 z
    · rw [h0]; exact vp_in_nI ha (by omega)
  -- what is asked and done once the sheet to write is there
  have fin : ∀ (q1 : KS) (a : Nat) (s1 : Sg), a < F + S → Inv F S q1 → ¬ km_pl (ks_m q1) a = -1 → ks_pg q1 p (x / 4) = nI a → ks_th q1 = ks_th q → ks_cp q1 = ks_cp q → k_sto F S q (nI p) (nI x / 4) = (nI a, q1) → m_sto1 F S (cv q) (nI p) (nI x) = m_bringIn F S (cv q1) (nI a) →
      (m_needs (cvp (ks_pg q)) (nI p) (nI x) = 0 → mb_ok F S (cv q) (ks_pg q p (x / 4))) → (¬ m_needs (cvp (ks_pg q)) (nI p) (nI x) = 0 → mm_ok F S (cv q) (6 * nI p + nI x / 4) (ks_pg q p (x / 4))) → (¬ k_need q (nI p) (nI x / 4) = 0 → xo_ok F S q (nI p) (nI x / 4)) →
      xs_ok F S q (nI p) (nI x) ∧ ms_ok F S (cv q) (nI p) (nI x) ∧ Inv F S (k_storeW F S q (nI p) (nI x) v) ∧ m_stored F S (cv q) (nI p) (nI x) v = cv (k_storeW F S q (nI p) (nI x) v) ∧ ks_th (k_storeW F S q (nI p) (nI x) v) = ks_th q ∧ ks_cp (k_storeW F S q (nI p) (nI x) v) = ks_cp q := by
    intro q1 a _ ha hI hla hpg ht hcp hsto hm1 hmb hmm hxo
    obtain ⟨hto, hI2, -, hli, hsp, hcv⟩ := hI.write ha hla (i := x % 4) (by omega) v
    have est : k_storeW F S q (nI p) (nI x) v = kv_m q1 (k_write F S (ks_m q1) (nI a) (nI (x % 4)) v) := by
      unfold k_storeW
      rw [hsto, ew]
    have eh : sg_pg (m_sto1 F S (cv q) (nI p) (nI x)) (ix (6 * nI p + nI x / 4)) = nI a := by
      rw [hm1, hsp, eix, cvp_at (by omega)]
      exact hpg
    have hixa : ix (nI a) = a := ix_nI (by omega)
    rw [est]
    refine ⟨⟨vp_in_nI hp (by omega), by rw [e4]; exact vp_in_nI (by omega) (by omega), by rw [ew]; exact vp_in_nI (by omega) (by omega), hpv, hxo, by rw [hsto]; exact hto⟩, ⟨hin36, fun z => ?_, fun z => ?_, ?_, ?_, ?_⟩, hI2, ?_, ht, hcp⟩
    · show mb_ok F S (cv q) (cvp (ks_pg q) (ix (6 * nI p + nI x / 4)))
      rw [eix, epg]; exact hmb z
    · show mm_ok F S (cv q) (6 * nI p + nI x / 4) (cvp (ks_pg q) (ix (6 * nI p + nI x / 4)))
      rw [eix, epg]; exact hmm z
    · rw [eh]; exact vp_in_nI (by omega) (by omega)
    · rw [eh, hixa, hm1]; exact hli
    · rw [eh, md4 x hx]; exact ix4 (vp_in_nI (by omega) (by omega)) (by omega)
    · rw [hcv]
      unfold m_stored
      show su_wd (su_mk (m_sto1 F S (cv q) (nI p) (nI x)) (upd (sg_mk (m_sto1 F S (cv q) (nI p) (nI x))) (ix (sg_li (m_sto1 F S (cv q) (nI p) (nI x)) (ix (sg_pg (m_sto1 F S (cv q) (nI p) (nI x)) (ix (6 * nI p + nI x / 4)))))) 1)) (upd (sg_wd (m_sto1 F S (cv q) (nI p) (nI x))) (ix (4 * sg_pg (m_sto1 F S (cv q) (nI p) (nI x)) (ix (6 * nI p + nI x / 4)) + (nI x - nI x / 4 * 4))) v) = _
      rw [eh, hixa, md4 x hx, i4 (by omega) (by omega), hm1]
  by_cases hz : m_needs (cvp (ks_pg q)) (nI p) (nI x) = 0
  · have hkz : k_need q (nI p) (nI x / 4) = 0 := by rw [e4, en]; exact hz
    obtain ⟨a, ha, h0, hla⟩ := hn0 (by rw [en]; exact hz)
    refine fin q a (cv q) ha hh hla h0 rfl rfl (by unfold k_sto; rw [if_pos hkz, eat, h0]) ?_ (fun _ => by rw [h0]; exact ((hM.touch ha hla).2.1 _ _ _)) (fun z => absurd hz z) (fun z => absurd hkz z)
    unfold m_sto1
    show (if m_needs (cvp (ks_pg q)) (nI p) (nI x) = 0 then m_bringIn F S (cv q) (cvp (ks_pg q) (ix (6 * nI p + nI x / 4))) else _) = _
    rw [if_pos hz, eix, epg, h0]
  · have hc : ¬ m_canMake F S (km_pl (ks_m q)) = 0 := hor.elim (fun z => absurd z hz) id
    have hkz : ¬ k_need q (nI p) (nI x / 4) = 0 := by rw [e4, en]; exact hz
    obtain ⟨hxo, hmm, a, q1, hown, ha, hI1, hla, ⟨f, hf, hpf⟩, hpg1, ht1, hcp1, hmk⟩ := hh.own hp (g := x / 4) (by omega) hth (hn1 (by rw [en]; exact hz)) hc
    have hsk : m_bringIn F S (cv q1) (nI a) = cv q1 := by
      unfold m_bringIn
      refine if_pos ?_
      show km_pl (ks_m q1) (ix (nI a)) < 100
      rw [ix_nI (by omega), hpf]
      exact lt100 (by omega)
    refine fin q1 a (cv q) ha hI1 hla hpg1 ht1 hcp1 (by unfold k_sto; rw [if_neg hkz, e4, hown]) ?_ (fun z => absurd z hz) (fun _ => by rw [e4]; exact hmm) (fun _ => by rw [e4]; exact hxo)
    unfold m_sto1
    show (if m_needs (cvp (ks_pg q)) (nI p) (nI x) = 0 then _ else m_make F S (cv q) (6 * nI p + nI x / 4) (cvp (ks_pg q) (ix (6 * nI p + nI x / 4)))) = _
    rw [if_neg hz, eix, epg, e4, hmk, hsk]
end OPS3
