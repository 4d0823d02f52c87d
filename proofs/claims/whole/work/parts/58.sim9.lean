section OPS4
variable {F S : Nat}
theorem Inv.copy {p x y : Nat} (hp : p < 6) : ∀ (n i : Nat) (q : KS), Inv F S q → ¬ ks_th q p = 0 → ks_cp q = nI i → x + i + n ≤ 24 → y + i + n ≤ 24 →
    kc_ok F S (nI p) (nI x) (nI y) n i q ∧ mc_ok F S (nI p) (nI x) (nI y) n (cv q) ∧ Inv F S (k_copyL F S (nI p) (nI x) (nI y) n i q).2 ∧ m_copyL F S (nI p) (nI x) (nI y) n (cv q) = ((if (k_copyL F S (nI p) (nI x) (nI y) n i q).1 = 0 then 0 else 3), cv (k_copyL F S (nI p) (nI x) (nI y) n i q).2)
  | 0, i, q, h, _, _, _, _ => ⟨trivial, trivial, h, rfl⟩
  | n + 1, i, q, h, hth, hcp, hx, hy => by
    have ea : nI x + nI i = nI (x + i) := nI_add _ _
    have ed : nI y + nI i = nI (y + i) := nI_add _ _
    obtain ⟨hxl, hml, hI1, hml2, ht1, hpg1, hcp1⟩ := h.load hp (x := x + i) (by omega)
    obtain ⟨r, hr⟩ : ∃ r, r = k_loadW F S q (nI p) (nI (x + i)) := ⟨_, rfl⟩
    rw [← hr] at hI1 hml2 ht1 hpg1 hcp1
    have hscp : sg_cp (cv q) = nI i := hcp
    have hth1 : ¬ ks_th r.2 p = 0 := by rw [ht1]; exact hth
    have hr2 : m_loaded F S (cv q) (nI p) (nI x + sg_cp (cv q)) = (r.1, cv r.2) := by rw [hscp, ea]; exact hml2
    have hcr : sg_cp (cv r.2) = nI i := hcp1.trans hcp
    obtain ⟨hiff, hrefused⟩ := hI1.no hp (x := y + i) (by omega)
    have eL : k_loadW F S q (nI p) (nI x + nI i) = r := by rw [ea, hr]
    have hd4 : vp_in (6 * nI p + nI (y + i) / 4) 36 := by
      rw [dv4 (y + i) (by omega)]
      exact ix6 (vp_in_nI hp (by omega)) (by omega)
    by_cases hno : k_no F S r.2 (nI p) (nI (y + i) / 4) = 0
    · obtain ⟨hxs, hms, hI2, hst, ht2, hcp2⟩ := hI1.store hp (x := y + i) (by omega) hth1 hno r.1
      obtain ⟨w, hw⟩ : ∃ w, w = k_storeW F S r.2 (nI p) (nI (y + i)) r.1 := ⟨_, rfl⟩
      rw [← hw] at hI2 hst ht2 hcp2
      have hcpw : ks_cp w = nI i := by rw [hcp2, hcp1, hcp]
      have hInx : Inv F S (kv_cp w (ks_cp w + 1)) := hI2
      obtain ⟨hk3, hm3, hI3, he3⟩ := Inv.copy (x := x) (y := y) hp n (i + 1) (kv_cp w (ks_cp w + 1)) hInx (by show ¬ ks_th w p = 0; rw [ht2]; exact hth1) (by show ks_cp w + 1 = nI (i + 1); rw [hcpw, nI_1]) (by omega) (by omega)
      have e1 : k_copyL F S (nI p) (nI x) (nI y) (n + 1) i q = k_copyL F S (nI p) (nI x) (nI y) n (i + 1) (kv_cp w (ks_cp w + 1)) := by
        rw [k_copyL, eL, ed, if_pos hno, ← hw]
      have enx : su_cp (m_stored F S (cv r.2) (nI p) (nI (y + i)) r.1) (sg_cp (m_stored F S (cv r.2) (nI p) (nI (y + i)) r.1) + 1) = cv (kv_cp w (ks_cp w + 1)) := by rw [hst]
      rw [e1]
      refine ⟨⟨by rw [ea]; exact hxl, fun _ => ?_, fun z => absurd (by rw [eL, ed]; exact hno) z⟩, ⟨by rw [hscp, ea]; exact hml (ks_th q), ?_, fun _ => ?_⟩, hI3, ?_⟩
      · rw [eL, ed, ← hw]; exact ⟨hxs, hk3⟩
      · show vp_in (6 * nI p + (nI y + sg_cp (m_loaded F S (cv q) (nI p) (nI x + sg_cp (cv q))).2) / 4) 36
        rw [hr2, hcr, ed]; exact hd4
      · rw [show mc_q F S (cv q) (nI p) (nI x) = (r.1, cv r.2) from hr2]
        show ms_ok F S (cv r.2) (nI p) (nI y + sg_cp (cv r.2)) ∧ mc_ok F S (nI p) (nI x) (nI y) n (su_cp (m_stored F S (cv r.2) (nI p) (nI y + sg_cp (cv r.2)) r.1) (sg_cp (m_stored F S (cv r.2) (nI p) (nI y + sg_cp (cv r.2)) r.1) + 1))
        rw [hcr, ed, enx]
        exact ⟨hms, hm3⟩
      · rw [← he3]
        have hor := hiff.mp hno
        rw [m_copyL, hr2]
        show (if m_needs (cvp (ks_pg r.2)) (nI p) (nI y + sg_cp (cv r.2)) = 0 then m_copyL F S (nI p) (nI x) (nI y) n (su_cp (m_stored F S (cv r.2) (nI p) (nI y + sg_cp (cv r.2)) r.1) (sg_cp (m_stored F S (cv r.2) (nI p) (nI y + sg_cp (cv r.2)) r.1) + 1)) else if m_canMake F S (km_pl (ks_m r.2)) = 0 then (3, cv r.2) else m_copyL F S (nI p) (nI x) (nI y) n (su_cp (m_stored F S (cv r.2) (nI p) (nI y + sg_cp (cv r.2)) r.1) (sg_cp (m_stored F S (cv r.2) (nI p) (nI y + sg_cp (cv r.2)) r.1) + 1))) = _
        rw [hcr, ed, enx]
        by_cases hz : m_needs (cvp (ks_pg r.2)) (nI p) (nI (y + i)) = 0
        · rw [if_pos hz]
        · rw [if_neg hz, if_neg (hor.elim (fun z => absurd z hz) id)]
    · obtain ⟨hsame, hxt, hn1, hc1⟩ := hrefused hno
      have e1 : k_copyL F S (nI p) (nI x) (nI y) (n + 1) i q = (1, r.2) := by
        rw [k_copyL, eL, ed, if_neg hno, hsame]
      rw [e1]
      refine ⟨⟨by rw [ea]; exact hxl, fun z => absurd (by rw [eL, ed] at z; exact z) hno, fun _ => by rw [eL, ed]; exact hxt⟩, ⟨by rw [hscp, ea]; exact hml (ks_th q), ?_, fun z => ?_⟩, hI1, ?_⟩
      · show vp_in (6 * nI p + (nI y + sg_cp (m_loaded F S (cv q) (nI p) (nI x + sg_cp (cv q))).2) / 4) 36
        rw [hr2, hcr, ed]; exact hd4
      · have z' : m_needs (sg_pg (m_loaded F S (cv q) (nI p) (nI x + sg_cp (cv q))).2) (nI p) (nI y + sg_cp (m_loaded F S (cv q) (nI p) (nI x + sg_cp (cv q))).2) = 0 ∨ ¬ m_canMake F S (sg_li (m_loaded F S (cv q) (nI p) (nI x + sg_cp (cv q))).2) = 0 := z
        rw [hr2] at z'
        have z2 : m_needs (cvp (ks_pg r.2)) (nI p) (nI y + sg_cp (cv r.2)) = 0 ∨ ¬ m_canMake F S (km_pl (ks_m r.2)) = 0 := z'
        rw [hcr, ed] at z2
        exact z2.elim (fun z => absurd z hn1) (fun z => absurd hc1 z)
      · rw [m_copyL, hr2]
        show (if m_needs (cvp (ks_pg r.2)) (nI p) (nI y + sg_cp (cv r.2)) = 0 then _ else if m_canMake F S (km_pl (ks_m r.2)) = 0 then (3, cv r.2) else _) = _
        rw [hcr, ed, if_neg hn1, if_pos hc1]
        rfl
end OPS4
section OPS5
variable {F S : Nat} {q : KS}
/-- a page goes empty -/
theorem PI.empty {N : Nat} {th : Nat → Int32} {pg : Nat → Nat → Int32} {pl pl' ct ct' : Nat → Int32} (h : PI N th pg pl ct) (hN : N ≤ 18) {p g a : Nat} (hp : p < 6) (hg : g < 6) (ha : a < N) (hpa : pg p g = nI a)
    (hlive : ∀ a', a' < 18 → ¬ a' = a → (pl' a' = -1 ↔ pl a' = -1)) (hla : pl' a = -1 ↔ ow (cvp pg) (nI a) 36 = 1)
    (hc : 2 ≤ ow (cvp pg) (nI a) 36 → ct' a = nI (ow (cvp pg) (nI a) 36 - 1)) (hc' : ∀ a', a' < N → ¬ a' = a → ct' a' = ct a') : PI N th (up2 pg p (upd (pg p) g (-1))) pl' ct' := by
  have hl : ¬ pl a = -1 := by
    rcases h.1 p g hp hg with q | ⟨a', ha', q, z⟩
    · rw [hpa] at q; exact absurd q (nI_ne (by omega))
    · have := nI_inj (by omega) (by omega) (hpa.symm.trans q)
      subst this; exact z
  have h1a := (h.2.1 a ha hl).2
  obtain ⟨h1, h2, h3⟩ := h
  have eo : cvp pg (6 * p + g) = nI a := (cvp_at hg).trans hpa
  have cnt : ∀ a', a' < 1000 → ow (upd (cvp pg) (6 * p + g) (-1)) (nI a') 36 + (if nI a = nI a' then 1 else 0) = ow (cvp pg) (nI a') 36 := by
    intro a' ha'
    have c := ow_upd (cvp pg) (nI a') (-1) (6 * p + g) 36 (by omega)
    rw [eo, if_neg (show ¬ (-1 : Int32) = nI a' from fun z => nI_ne (by omega) z.symm)] at c
    exact c
  refine ⟨fun p' x' hp' hx' => ?_, fun a' ha' hn => ?_, fun p' hp' ht x' hx' => ?_⟩
  · by_cases e : p' = p ∧ x' = g
    · obtain ⟨rfl, rfl⟩ := e
      exact Or.inl (by rw [up2_s, upd_s])
    · have e1 : up2 pg p (upd (pg p) g (-1)) p' x' = pg p' x' := by
        by_cases e2 : p' = p
        · subst e2; rw [up2_s, upd_n (fun z => e ⟨rfl, z⟩)]
        · rw [up2_n e2]
      rw [e1]
      rcases h1 p' x' hp' hx' with q | ⟨a', ha', q, z⟩
      · exact Or.inl q
      · refine Or.inr ⟨a', ha', q, fun y => ?_⟩
        by_cases hne : a' = a
        · subst hne
          have hone := hla.mp y
          have c := cnt a' (by omega)
          rw [if_pos rfl] at c
          have hpos := ow_get (f := upd (cvp pg) (6 * p + g) (-1)) (v := nI a') (n := 36) (i := 6 * p' + x') (by omega) (by
            rw [upd_n (fun w => e ⟨by omega, by omega⟩), cvp_at hx']
            exact q)
          omega
        · exact z ((hlive a' (by omega) hne).mp y)
  · rw [cvp_upd hg]
    have c := cnt a' (by omega)
    by_cases e : a' = a
    · subst e
      rw [if_pos rfl] at c
      have hno : ¬ ow (cvp pg) (nI a') 36 = 1 := fun z => hn (hla.mpr z)
      rw [show ow (upd (cvp pg) (6 * p + g) (-1)) (nI a') 36 = ow (cvp pg) (nI a') 36 - 1 by omega]
      exact ⟨hc (by omega), by omega⟩
    · rw [if_neg (show ¬ nI a = nI a' from fun z => e (nI_inj (by omega) (by omega) z.symm))] at c
      rw [show ow (upd (cvp pg) (6 * p + g) (-1)) (nI a') 36 = ow (cvp pg) (nI a') 36 by omega, hc' a' ha' e]
      exact h2 a' ha' (fun z => hn ((hlive a' (by omega) e).mpr z))
  · by_cases e2 : p' = p
    · subst e2
      rw [up2_s]
      by_cases e3 : x' = g
      · subst e3; rw [upd_s]
      · rw [upd_n e3]; exact h3 p' hp' ht x' hx'
    · rw [up2_n e2]; exact h3 p' hp' ht x' hx'
theorem Inv.empty (h : Inv F S q) {p g : Nat} (hp : p < 6) (hg : g < 6) : xe_ok F S q (nI p) (nI g) ∧ (∀ th', me_ok (su_th (cv q) th') (6 * nI p + nI g)) ∧ Inv F S (k_empty q (nI p) (nI g)).2 ∧ (∀ th', m_empty (su_th (cv q) th') (6 * nI p + nI g) = ((k_empty q (nI p) (nI g)).1, su_th (cv (k_empty q (nI p) (nI g)).2) th')) ∧
    ks_th (k_empty q (nI p) (nI g)).2 = ks_th q ∧ (ks_pg (k_empty q (nI p) (nI g)).2 = up2 (ks_pg q) p (upd (ks_pg q p) g (-1))) ∧ ((k_empty q (nI p) (nI g)).1 = 0 ∨ (k_empty q (nI p) (nI g)).1 = 1) := by
  obtain ⟨hM, hP⟩ := h
  obtain ⟨hF2, hF, hS⟩ := hM.1
  have eat : k_at q (nI p) (nI g) = ks_pg q p g := by
    unfold k_at
    rw [ix_nI (by omega), ix_nI (by omega)]
  have eix : ix (6 * nI p + nI g) = 6 * p + g := i6 (by omega) hg
  have eset : k_setp q (nI p) (nI g) (-1) = kv_pg q (up2 (ks_pg q) p (upd (ks_pg q p) g (-1))) := by
    unfold k_setp
    rw [ix_nI (show p < 2 ^ 31 by omega), ix_nI (show g < 2 ^ 31 by omega)]
  have h36 : vp_in (6 * nI p + nI g) 36 := ix6 (vp_in_nI hp (by omega)) hg
  have epg : cvp (ks_pg q) (6 * p + g) = ks_pg q p g := cvp_at hg
  rcases hP.1 p g hp hg with h0 | ⟨a, ha, h0, hl⟩
  · have e1 : k_empty q (nI p) (nI g) = (0, kv_pg q (up2 (ks_pg q) p (upd (ks_pg q p) g (-1)))) := by
      unfold k_empty
      rw [eat, if_pos h0, eset]
    have hid : up2 (ks_pg q) p (upd (ks_pg q p) g (-1)) = ks_pg q := by
      rw [upd_id h0]
      funext i
      by_cases e : i = p
      · subst e; rw [up2_s]
      · rw [up2_n e]
    rw [e1]
    refine ⟨⟨vp_in_nI hp (by omega), vp_in_nI hg (by omega), fun z => absurd (by rw [eat]; exact h0) z⟩, fun th' => ⟨h36, fun z => ?_⟩, ⟨hM, ?_⟩, fun th' => ?_, rfl, rfl, Or.inl rfl⟩
    · have z' : ¬ cvp (ks_pg q) (ix (6 * nI p + nI g)) < 0 := z
      rw [eix, epg, h0] at z'
      exact absurd (by decide) z'
    · show PI (F + S) (ks_th q) (up2 (ks_pg q) p (upd (ks_pg q p) g (-1))) _ _
      rw [hid]; exact hP
    · unfold m_empty
      show (if cvp (ks_pg q) (ix (6 * nI p + nI g)) < 0 then (0, su_pg (su_th (cv q) th') (upd (cvp (ks_pg q)) (ix (6 * nI p + nI g)) (-1))) else _) = _
      rw [eix, epg, h0, if_pos (by decide), ← cvp_upd hg]
  · obtain ⟨c1, c2⟩ := hP.2.1 a ha hl
    have hle := ow_le (cvp (ks_pg q)) (nI a) 36
    have hixa : ix (nI a) = a := ix_nI (by omega)
    obtain ⟨hfp, hMI0, hcase⟩ := hM.free ha hl
    have hown : m_owners (upd (cvp (ks_pg q)) (6 * p + g) (-1)) (nI a) = nI (ow (cvp (ks_pg q)) (nI a) 36 - 1) := by
      rw [m_owners_ow]
      have c := ow_upd (cvp (ks_pg q)) (nI a) (-1) (6 * p + g) 36 (by omega)
      rw [epg, h0, if_pos rfl, if_neg (show ¬ (-1 : Int32) = nI a from fun z => nI_ne (by omega) z.symm)] at c
      rw [show ow (upd (cvp (ks_pg q)) (6 * p + g) (-1)) (nI a) 36 = ow (cvp (ks_pg q)) (nI a) 36 - 1 by omega]
    have hsub : km_ct (ks_m q) a - 1 = nI (ow (cvp (ks_pg q)) (nI a) 36 - 1) := by rw [c1, nI_sub1 c2]
    have hxe : xe_ok F S q (nI p) (nI g) := ⟨vp_in_nI hp (by omega), vp_in_nI hg (by omega), fun _ => by rw [eat, h0]; exact ⟨vp_in_nI ha (by omega), fun _ => by rw [hixa]; exact hfp⟩⟩
    have hm0 : ∀ th', m_empty (su_th (cv q) th') (6 * nI p + nI g) = if nI (ow (cvp (ks_pg q)) (nI a) 36 - 1) ≤ 0 then (1, m_emp (su_th (cv q) th') (6 * nI p + nI g) (nI a)) else (0, su_pg (su_th (cv q) th') (upd (cvp (ks_pg q)) (6 * p + g) (-1))) := by
      intro th'
      unfold m_empty
      show (if cvp (ks_pg q) (ix (6 * nI p + nI g)) < 0 then _ else if m_owners (upd (cvp (ks_pg q)) (ix (6 * nI p + nI g)) (-1)) (cvp (ks_pg q) (ix (6 * nI p + nI g))) ≤ 0 then (1, m_emp (su_th (cv q) th') (6 * nI p + nI g) (cvp (ks_pg q) (ix (6 * nI p + nI g)))) else (0, su_pg (su_th (cv q) th') (upd (cvp (ks_pg q)) (ix (6 * nI p + nI g)) (-1)))) = _
      rw [eix, epg, h0, if_neg (nI_nlt0 (by omega)), hown]
    have hme : ∀ th', me_ok (su_th (cv q) th') (6 * nI p + nI g) := by
      intro th'
      refine ⟨h36, fun _ _ => ?_⟩
      show vp_in (cvp (ks_pg q) (ix (6 * nI p + nI g))) 18 ∧ (¬ 100 ≤ km_pl (ks_m q) (ix (cvp (ks_pg q) (ix (6 * nI p + nI g)))) → vp_in (km_pl (ks_m q) (ix (cvp (ks_pg q) (ix (6 * nI p + nI g))))) 8)
      rw [eix, epg, h0, hixa]
      exact ⟨vp_in_nI (by omega) (by omega), fun z => vp_in_mono (hfp.1 (Int32.not_le.mp z)) hF⟩
    by_cases hone : ow (cvp (ks_pg q)) (nI a) 36 = 1
    · have hle0 : nI (ow (cvp (ks_pg q)) (nI a) 36 - 1) ≤ 0 := by rw [hone]; decide
      obtain ⟨k1, hk1⟩ : ∃ k1, k1 = ku_pl (k_freePlace (ks_m q) (km_pl (ks_m q) a)) (upd (km_pl (ks_m q)) a (-1)) := ⟨_, rfl⟩
      rw [← hk1] at hMI0
      have hlv : k_leave (ks_m q) (nI a) = (1, ku_ct k1 (upd (km_ct (ks_m q)) a (nI 0))) := by
        unfold k_leave
        show (if km_ct (ks_m q) (ix (nI a)) - 1 ≤ 0 then (1, ku_pl (k_freePlace (ku_ct (ks_m q) (upd (km_ct (ks_m q)) (ix (nI a)) (km_ct (ks_m q) (ix (nI a)) - 1))) (km_pl (ks_m q) (ix (nI a)))) (upd (km_pl (k_freePlace (ku_ct (ks_m q) (upd (km_ct (ks_m q)) (ix (nI a)) (km_ct (ks_m q) (ix (nI a)) - 1))) (km_pl (ks_m q) (ix (nI a))))) (ix (nI a)) (-1))) else _) = _
        rw [hixa, hsub, if_pos hle0, hone, hk1]
        unfold k_freePlace
        by_cases z : km_pl (ks_m q) a < 100
        · rw [if_pos z, if_pos z]
        · rw [if_neg z, if_neg z]
      have e1 : k_empty q (nI p) (nI g) = (1, (ks_th q, up2 (ks_pg q) p (upd (ks_pg q p) g (-1)), ks_cp q, ku_ct k1 (upd (km_ct (ks_m q)) a (nI 0)))) := by
        unfold k_empty
        rw [eat, h0, if_neg (nI_ne (by omega)), hlv, if_neg (show ¬ ((1 : Int32) = 0) by decide), eset]
      rw [e1]
      have hpl1 : km_pl k1 = upd (km_pl (ks_m q)) a (-1) := by rw [hk1]
      refine ⟨hxe, hme, ⟨hMI0, ?_⟩, fun th' => ?_, rfl, rfl, Or.inr rfl⟩
      · show PI (F + S) (ks_th q) (up2 (ks_pg q) p (upd (ks_pg q p) g (-1))) (km_pl k1) (upd (km_ct (ks_m q)) a (nI 0))
        refine hP.empty (by omega) hp hg ha h0 (fun a' ha' hne => by rw [hpl1, upd_n hne]) (by rw [hpl1, upd_s]; exact ⟨fun _ => hone, fun _ => rfl⟩) (fun z => by omega) (fun a' ha' hne => by rw [upd_n hne])
      · rw [hm0 th', if_pos hle0]
        show (1, m_emp (su_th (cv q) th') (6 * nI p + nI g) (nI a)) = (1, (th', cvp (up2 (ks_pg q) p (upd (ks_pg q p) g (-1))), km_mk k1, km_pl k1, cvw (km_wd k1), km_hd k1, km_fl k1, km_ev k1, ks_cp q))
        unfold m_emp
        show (1, (th', upd (cvp (ks_pg q)) (ix (6 * nI p + nI g)) (-1), (if 100 ≤ km_pl (ks_m q) (ix (nI a)) then km_mk (ks_m q) else upd (km_mk (ks_m q)) (ix (km_pl (ks_m q) (ix (nI a)))) 0), upd (km_pl (ks_m q)) (ix (nI a)) (-1), cvw (km_wd (ks_m q)), km_hd (ks_m q), km_fl (ks_m q), km_ev (ks_m q), ks_cp q)) = _
        rw [eix, hixa, cvp_upd hg, hpl1]
        rcases hcase with ⟨f, hf, hpf, ef⟩ | ⟨t, ht, hpt, ef⟩
        · rw [hpf, if_neg (Int32.not_le.mpr (lt100 (by omega))), ix_nI (by omega), hk1, ef]
        · rw [hpt, if_pos (Int32.not_lt.mp (nlt100 (by omega))), hk1, ef]
    · have hnle : ¬ nI (ow (cvp (ks_pg q)) (nI a) 36 - 1) ≤ 0 := fun z => by
        have := (nI_leI (b := 0) (by omega) (by omega)).mp z
        omega
      have hlv : k_leave (ks_m q) (nI a) = (0, ku_ct (ks_m q) (upd (km_ct (ks_m q)) a (nI (ow (cvp (ks_pg q)) (nI a) 36 - 1)))) := by
        unfold k_leave
        show (if km_ct (ks_m q) (ix (nI a)) - 1 ≤ 0 then _ else (0, ku_ct (ks_m q) (upd (km_ct (ks_m q)) (ix (nI a)) (km_ct (ks_m q) (ix (nI a)) - 1)))) = _
        rw [hixa, hsub, if_neg hnle]
      have e1 : k_empty q (nI p) (nI g) = (0, (ks_th q, up2 (ks_pg q) p (upd (ks_pg q p) g (-1)), ks_cp q, ku_ct (ks_m q) (upd (km_ct (ks_m q)) a (nI (ow (cvp (ks_pg q)) (nI a) 36 - 1))))) := by
        unfold k_empty
        rw [eat, h0, if_neg (nI_ne (by omega)), hlv, if_pos rfl, eset]
      rw [e1]
      refine ⟨hxe, hme, ⟨hM, ?_⟩, fun th' => ?_, rfl, rfl, Or.inl rfl⟩
      · show PI (F + S) (ks_th q) (up2 (ks_pg q) p (upd (ks_pg q p) g (-1))) (km_pl (ks_m q)) (upd (km_ct (ks_m q)) a _)
        exact hP.empty (by omega) hp hg ha h0 (fun a' ha' hne => Iff.rfl) ⟨fun z => absurd z hl, fun z => absurd z hone⟩ (fun _ => upd_s) (fun a' ha' hne => by rw [upd_n hne])
      · rw [hm0 th', if_neg hnle, ← cvp_upd hg]
end OPS5
