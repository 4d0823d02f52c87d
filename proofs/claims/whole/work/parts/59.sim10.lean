/-- one page more has a sheet -/
theorem PI.join {N : Nat} {th : Nat → Int32} {pg : Nat → Nat → Int32} {pl ct : Nat → Int32} (h : PI N th pg pl ct) (hN : N ≤ 18) {c g a : Nat} (hc : c < 6) (hg : g < 6) (hth : ¬ th c = 0) (he : pg c g = -1) (ha : a < N) (hl : ¬ pl a = -1) : PI N th (up2 pg c (upd (pg c) g (nI a))) pl (upd ct a (ct a + 1)) := by
  obtain ⟨h1, h2, h3⟩ := h
  have eo : cvp pg (6 * c + g) = -1 := (cvp_at hg).trans he
  refine ⟨fun p' x' hp' hx' => ?_, fun a' ha' hn => ?_, fun p' hp' ht x' hx' => ?_⟩
  · by_cases e : p' = c ∧ x' = g
    · obtain ⟨rfl, rfl⟩ := e
      exact Or.inr ⟨a, ha, by rw [up2_s, upd_s], hl⟩
    · have e1 : up2 pg c (upd (pg c) g (nI a)) p' x' = pg p' x' := by
        by_cases e2 : p' = c
        · subst e2; rw [up2_s, upd_n (fun z => e ⟨rfl, z⟩)]
        · rw [up2_n e2]
      rw [e1]
      exact h1 p' x' hp' hx'
  · rw [cvp_upd hg]
    have k := ow_upd (cvp pg) (nI a') (nI a) (6 * c + g) 36 (by omega)
    rw [eo, if_neg (show ¬ (-1 : Int32) = nI a' from fun z => nI_ne (by omega) z.symm)] at k
    obtain ⟨q1, q2⟩ := h2 a' ha' hn
    by_cases e : a' = a
    · subst e
      rw [if_pos rfl] at k
      rw [show ow (upd (cvp pg) (6 * c + g) (nI a')) (nI a') 36 = ow (cvp pg) (nI a') 36 + 1 by omega, upd_s, q1, nI_1]
      exact ⟨rfl, by omega⟩
    · rw [if_neg (show ¬ nI a = nI a' from fun z => e (nI_inj (by omega) (by omega) z.symm))] at k
      rw [show ow (upd (cvp pg) (6 * c + g) (nI a)) (nI a') 36 = ow (cvp pg) (nI a') 36 by omega, upd_n e]
      exact ⟨q1, q2⟩
  · have hne : ¬ p' = c := fun z => hth (by rw [← z]; exact ht)
    rw [up2_n hne]
    exact h3 p' hp' ht x' hx'
section OPS6
variable {F S : Nat}
theorem Inv.forkL {p c : Nat} (hp : p < 6) (hc : c < 6) (hpc : ¬ p = c) : ∀ (n i : Nat) (q : KS), i + n = 6 → Inv F S q → ¬ ks_th q c = 0 → (∀ x, i ≤ x → x < 6 → ks_pg q c x = -1) →
    kf_ok F S (nI p) (nI c) n i q ∧ Inv F S (k_forkL (nI p) (nI c) n i q) ∧ cv (k_forkL (nI p) (nI c) n i q) = su_pg (cv q) (m_forkL (nI p) (nI c) n i (cvp (ks_pg q)))
  | 0, i, q, _, h, _, _ => ⟨trivial, h, rfl⟩
  | n + 1, i, q, hi, h, hth, hem => by
    have hh := h
    obtain ⟨hM, hP⟩ := h
    obtain ⟨hF2, hF, hS⟩ := hM.1
    have eat : k_at q (nI p) (nI i) = ks_pg q p i := by
      unfold k_at
      rw [ix_nI (by omega), ix_nI (by omega)]
    have eset : ∀ v, k_setp q (nI c) (nI i) v = kv_pg q (up2 (ks_pg q) c (upd (ks_pg q c) i v)) := by
      intro v
      unfold k_setp
      rw [ix_nI (show c < 2 ^ 31 by omega), ix_nI (show i < 2 ^ 31 by omega)]
    have hci := hem i (Nat.le_refl _) (by omega)
    -- one page
    have one : ∃ q1, k_fork1 q (nI p) (nI c) (nI i) = q1 ∧ (¬ ks_pg q p i = -1 → vp_in (ks_pg q p i) (F + S)) ∧ Inv F S q1 ∧ ks_th q1 = ks_th q ∧ ks_pg q1 = up2 (ks_pg q) c (upd (ks_pg q c) i (ks_pg q p i)) ∧ cv q1 = su_pg (cv q) (cvp (ks_pg q1)) := by
      rcases hP.1 p i hp (by omega) with h0 | ⟨a, ha, h0, hl⟩
      · refine ⟨kv_pg q (up2 (ks_pg q) c (upd (ks_pg q c) i (ks_pg q p i))), ?_, fun z => absurd h0 z, ⟨hM, ?_⟩, rfl, rfl, rfl⟩
        · unfold k_fork1
          rw [eat, if_pos h0, eset]
        · show PI (F + S) (ks_th q) (up2 (ks_pg q) c (upd (ks_pg q c) i (ks_pg q p i))) _ _
          have hid : up2 (ks_pg q) c (upd (ks_pg q c) i (ks_pg q p i)) = ks_pg q := by
            rw [h0, upd_id hci]
            funext j
            by_cases e : j = c
            · subst e; rw [up2_s]
            · rw [up2_n e]
          rw [hid]; exact hP
      · refine ⟨(ks_th q, up2 (ks_pg q) c (upd (ks_pg q c) i (ks_pg q p i)), ks_cp q, ku_ct (ks_m q) (upd (km_ct (ks_m q)) a (km_ct (ks_m q) a + 1))), ?_, fun _ => by rw [h0]; exact vp_in_nI ha (by omega), ⟨hM, ?_⟩, rfl, rfl, rfl⟩
        · unfold k_fork1
          rw [eat, h0, if_neg (nI_ne (by omega)), eset]
          unfold k_join
          rw [ix_nI (show a < 2 ^ 31 by omega)]
        · show PI (F + S) (ks_th q) (up2 (ks_pg q) c (upd (ks_pg q c) i (ks_pg q p i))) (km_pl (ks_m q)) (upd (km_ct (ks_m q)) a (km_ct (ks_m q) a + 1))
          rw [h0]
          exact hP.join (by omega) hc (by omega) hth hci ha hl
    obtain ⟨q1, e1, hv, hI1, ht1, hpg1, hcv1⟩ := one
    obtain ⟨g1, g2, g3⟩ := Inv.forkL hp hc hpc n (i + 1) q1 (by omega) hI1 (by rw [ht1]; exact hth) (fun x hx1 hx2 => by rw [hpg1, up2_s, upd_n (by omega)]; exact hem x (by omega) hx2)
    have e2 : k_forkL (nI p) (nI c) (n + 1) i q = k_forkL (nI p) (nI c) n (i + 1) q1 := by rw [k_forkL, e1]
    rw [e2]
    refine ⟨⟨by rw [eat]; exact hv, by rw [e1]; exact g1⟩, g2, ?_⟩
    rw [g3, hcv1]
    have e3 : m_forkL (nI p) (nI c) (n + 1) i (cvp (ks_pg q)) = m_forkL (nI p) (nI c) n (i + 1) (cvp (ks_pg q1)) := by
      rw [m_forkL, i6 (by omega) (by omega), i6 (by omega) (by omega), cvp_at (by omega), hpg1, cvp_upd (by omega)]
    rw [e3]
theorem Inv.exitL {p : Nat} (hp : p < 6) : ∀ (n i : Nat) (x : Int32) (q : KS), i + n = 6 → Inv F S q → (∀ y, y < i → ks_pg q p y = -1) →
    kx_ok F S (nI p) n i q ∧ (∀ th', mx_ok (nI p) n i (su_th (cv q) th')) ∧ Inv F S (k_exitL (nI p) n i x q).2 ∧ (∀ th', m_exitL (nI p) n i x (su_th (cv q) th') = ((k_exitL (nI p) n i x q).1, su_th (cv (k_exitL (nI p) n i x q).2) th')) ∧ ks_th (k_exitL (nI p) n i x q).2 = ks_th q ∧ ∀ y, y < 6 → ks_pg (k_exitL (nI p) n i x q).2 p y = -1
  | 0, i, x, q, hi, h, he => ⟨trivial, fun _ => trivial, h, fun _ => rfl, rfl, fun y hy => he y (by omega)⟩
  | n + 1, i, x, q, hi, h, he => by
    obtain ⟨hxe, hme, hI1, hm1, ht1, hpg1, -⟩ := h.empty hp (g := i) (by omega)
    obtain ⟨r, hr⟩ : ∃ r, r = k_empty q (nI p) (nI i) := ⟨_, rfl⟩
    rw [← hr] at hI1 ht1 hpg1
    have hm1' : ∀ th', m_empty (su_th (cv q) th') (6 * nI p + nI i) = (r.1, su_th (cv r.2) th') := fun th' => by rw [hm1 th', hr]
    obtain ⟨g1, g2, g3, g4, g5, g6⟩ := Inv.exitL hp n (i + 1) (if r.1 = 0 then x else x + 1) r.2 (by omega) hI1 (fun y hy => by
      rw [hpg1, up2_s]
      by_cases e : y = i
      · subst e; rw [upd_s]
      · rw [upd_n e]; exact he y (by omega))
    have e1 : k_exitL (nI p) (n + 1) i x q = k_exitL (nI p) n (i + 1) (if r.1 = 0 then x else x + 1) r.2 := by rw [k_exitL, ← hr]
    rw [e1]
    refine ⟨⟨hxe, by rw [← hr]; exact g1⟩, fun th' => ⟨hme th', by rw [hm1' th']; exact g2 th'⟩, g3, fun th' => ?_, g5.trans ht1, g6⟩
    rw [m_exitL, hm1' th']
    exact g4 th'
theorem Inv.th1 {q : KS} (h : Inv F S q) {c : Nat} : Inv F S (kv_th q (upd (ks_th q) c 1)) := by
  obtain ⟨hM, h1, h2, h3⟩ := h
  refine ⟨hM, h1, h2, fun p hp ht => h3 p hp ?_⟩
  have ht' : upd (ks_th q) c 1 p = 0 := ht
  by_cases e : p = c
  · subst e; rw [upd_s] at ht'; exact absurd ht' (by decide)
  · rw [upd_n e] at ht'; exact ht'
end OPS6
theorem lowP_sign (th : Nat → Int32) : (m_lowP th 6 0 = -1 ∧ ¬ 0 ≤ m_lowP th 6 0) ∨ ∃ c, c < 6 ∧ m_lowP th 6 0 = nI c ∧ th c = 0 ∧ 0 ≤ m_lowP th 6 0 ∧ ¬ m_lowP th 6 0 = -1 := by
  rcases m_lowP_or th 6 0 with h | ⟨j, -, hj, h, ht⟩
  · exact Or.inl ⟨h, by rw [h]; decide⟩
  · exact Or.inr ⟨j, by omega, h, ht, by rw [h]; exact nI_ge0 (by omega), by rw [h]; exact nI_ne (by omega)⟩
theorem isP_of {th : Nat → Int32} {p0 : Int32} (h : ¬ m_isP th p0 = 0) : ∃ p, p < 6 ∧ p0 = nI p ∧ ¬ th p = 0 := by
  obtain ⟨p, hp, e⟩ := vp_in_of (m_isP_in h) (by omega)
  subst e
  refine ⟨p, hp, rfl, fun z => h ?_⟩
  unfold m_isP
  rw [if_neg (nI_nlt0 (by omega)), if_neg (fun y => by have := (nI_leI (a := 6) (by omega) (by omega)).mp y; omega), ix_nI (by omega), if_pos z]
theorem isA_of {x : Int32} (h : ¬ m_isA x = 0) : ∃ j, j < 24 ∧ x = nI j := by
  unfold m_isA at h
  by_cases h1 : x < 0
  · rw [if_pos h1] at h; exact absurd rfl h
  · rw [if_neg h1] at h
    by_cases h2 : 24 ≤ x
    · rw [if_pos h2] at h; exact absurd rfl h
    · obtain ⟨j, hj, e, -⟩ := pk_mu (L := 24) h1 h2 (by omega)
      exact ⟨j, hj, e⟩
section SIM
variable {F S : Nat} {q : KS}
theorem sim_spawn (h : Inv F S q) : m_spawn (cv q) = ((kk_spawn q).1, (kk_spawn q).2.1, cv (kk_spawn q).2.2) ∧ Inv F S (kk_spawn q).2.2 := by
  rcases lowP_sign (ks_th q) with ⟨h1, h2⟩ | ⟨c, hc, h1, h2, h3, h4⟩
  · have e1 : kk_spawn q = (0, 1, q) := if_pos h1
    have e2 : m_spawn (cv q) = (0, 1, cv q) := if_neg h2
    rw [e1, e2]
    exact ⟨rfl, h⟩
  · have e1 : kk_spawn q = (m_lowP (ks_th q) 6 0, 0, k_spawn q) := if_neg h4
    have e2 : m_spawn (cv q) = (m_lowP (ks_th q) 6 0, 0, su_th (cv q) (upd (ks_th q) (ix (m_lowP (ks_th q) 6 0)) 1)) := if_pos h3
    rw [e1, e2]
    exact ⟨rfl, h.th1⟩
theorem sim_fork (h : Inv F S q) (p0 : Int32) : (¬ m_isP (ks_th q) p0 = 0 → ¬ m_lowP (ks_th q) 6 0 = -1 → kf_ok F S p0 (m_lowP (ks_th q) 6 0) 6 0 (k_spawn q)) ∧ m_fork (cv q) p0 = ((kk_fork q p0).1, (kk_fork q p0).2.1, cv (kk_fork q p0).2.2) ∧ Inv F S (kk_fork q p0).2.2 := by
  by_cases hp0 : m_isP (ks_th q) p0 = 0
  · have e1 : kk_fork q p0 = (0, 1, q) := if_pos hp0
    have e2 : m_fork (cv q) p0 = (0, 1, cv q) := if_pos hp0
    rw [e1, e2]
    exact ⟨fun z => absurd hp0 z, rfl, h⟩
  · rcases lowP_sign (ks_th q) with ⟨h1, h2⟩ | ⟨c, hc, h1, h2, h3, h4⟩
    · have e1 : kk_fork q p0 = (0, 2, q) := by unfold kk_fork; rw [if_neg hp0, if_pos h1]
      have e2 : m_fork (cv q) p0 = (0, 2, cv q) := by
        unfold m_fork
        show (if m_isP (ks_th q) p0 = 0 then _ else if 0 ≤ m_lowP (ks_th q) 6 0 then _ else _) = _
        rw [if_neg hp0, if_neg h2]
      rw [e1, e2]
      exact ⟨fun _ z => absurd h1 z, rfl, h⟩
    · obtain ⟨p, hp, rfl, hth⟩ := isP_of hp0
      have hpc : ¬ p = c := fun z => hth (by rw [z]; exact h2)
      have esp : k_spawn q = kv_th q (upd (ks_th q) c 1) := by
        unfold k_spawn
        rw [h1, ix_nI (by omega)]
      obtain ⟨g1, g2, g3⟩ := Inv.forkL (F := F) (S := S) hp hc hpc 6 0 (kv_th q (upd (ks_th q) c 1)) rfl h.th1 (by show ¬ upd (ks_th q) c 1 c = 0; rw [upd_s]; decide) (fun x _ hx => h.2.2.2 c hc h2 x hx)
      obtain ⟨r, hr⟩ : ∃ r, r = k_forkL (nI p) (nI c) 6 0 (kv_th q (upd (ks_th q) c 1)) := ⟨_, rfl⟩
      rw [← hr] at g2 g3
      have e1 : kk_fork q (nI p) = (nI c, 0, r) := by
        unfold kk_fork
        rw [if_neg hp0, if_neg h4, esp, h1, ← hr]
      have e2 : m_fork (cv q) (nI p) = (nI c, 0, su_pg (su_th (cv q) (upd (ks_th q) c 1)) (m_forkL (nI p) (nI c) 6 0 (cvp (ks_pg q)))) := by
        unfold m_fork
        show (if m_isP (ks_th q) (nI p) = 0 then _ else if 0 ≤ m_lowP (ks_th q) 6 0 then (m_lowP (ks_th q) 6 0, 0, su_pg (su_th (cv q) (upd (ks_th q) (ix (m_lowP (ks_th q) 6 0)) 1)) (m_forkL (nI p) (m_lowP (ks_th q) 6 0) 6 0 (cvp (ks_pg q)))) else _) = _
        rw [if_neg hp0, if_pos h3, h1, ix_nI (by omega)]
      rw [e1, e2]
      have gk : ∀ (L : Int32) (Q : KS), L = nI c → Q = kv_th q (upd (ks_th q) c 1) → kf_ok F S (nI p) L 6 0 Q := fun L Q a b => by subst a; subst b; exact g1
      exact ⟨fun _ _ => gk _ _ h1 esp, congrArg (fun z => (nI c, (0 : Int32), z)) g3.symm, g2⟩
theorem sim_exit (h : Inv F S q) (p0 : Int32) : (¬ m_isP (ks_th q) p0 = 0 → kx_ok F S p0 6 0 q) ∧ (¬ m_isP (ks_th q) p0 = 0 → mx_ok p0 6 0 (su_th (cv q) (upd (ks_th q) (ix p0) 0))) ∧ m_exit (cv q) p0 = ((kk_exit q p0).1, (kk_exit q p0).2.1, cv (kk_exit q p0).2.2) ∧ Inv F S (kk_exit q p0).2.2 := by
  by_cases hp0 : m_isP (ks_th q) p0 = 0
  · have e1 : kk_exit q p0 = (0, 1, q) := if_pos hp0
    have e2 : m_exit (cv q) p0 = (0, 1, cv q) := if_pos hp0
    rw [e1, e2]
    exact ⟨fun z => absurd hp0 z, fun z => absurd hp0 z, rfl, h⟩
  · obtain ⟨p, hp, rfl, hth⟩ := isP_of hp0
    obtain ⟨g1, g2, g3, g4, g5, g6⟩ := Inv.exitL (F := F) (S := S) hp 6 0 0 q rfl h (fun y hy => by omega)
    have hix : ix (nI p) = p := ix_nI (by omega)
    obtain ⟨r, hr⟩ : ∃ r, r = k_exitL (nI p) 6 0 0 q := ⟨_, rfl⟩
    rw [← hr] at g3 g5 g6
    have g4' : ∀ th', m_exitL (nI p) 6 0 0 (su_th (cv q) th') = (r.1, su_th (cv r.2) th') := fun th' => by rw [g4 th', hr]
    have e1 : kk_exit q (nI p) = (r.1, 0, kv_th r.2 (upd (ks_th r.2) p 0)) := by
      unfold kk_exit
      rw [if_neg hp0, ← hr, hix]
    have e2 : m_exit (cv q) (nI p) = (r.1, 0, su_th (cv r.2) (upd (ks_th q) p 0)) := by
      unfold m_exit
      show (if m_isP (ks_th q) (nI p) = 0 then _ else ((m_exitL (nI p) 6 0 0 (su_th (cv q) (upd (ks_th q) (ix (nI p)) 0))).1, 0, (m_exitL (nI p) 6 0 0 (su_th (cv q) (upd (ks_th q) (ix (nI p)) 0))).2)) = _
      rw [if_neg hp0, hix, g4']
    rw [e1, e2]
    refine ⟨fun _ => g1, fun _ => by rw [hix]; exact g2 _, by rw [← g5], ?_⟩
    obtain ⟨hM, h1, h2, h3⟩ := g3
    refine ⟨hM, h1, h2, fun p' hp' ht x' hx' => ?_⟩
    by_cases e : p' = p
    · subst e; exact g6 x' hx'
    · have ht' : upd (ks_th r.2) p 0 p' = 0 := ht
      rw [upd_n e] at ht'
      exact h3 p' hp' ht' x' hx'
theorem sim_drop (h : Inv F S q) (p0 x : Int32) : (¬ m_isP (ks_th q) p0 = 0 → ¬ x < 0 → x < 6 → xe_ok F S q p0 x) ∧ (¬ m_isP (ks_th q) p0 = 0 → ¬ x < 0 → x ≤ 5 → me_ok (cv q) (6 * p0 + x)) ∧ m_drop (cv q) p0 x = ((kk_drop q p0 x).1, (kk_drop q p0 x).2.1, cv (kk_drop q p0 x).2.2) ∧ Inv F S (kk_drop q p0 x).2.2 := by
  by_cases hp0 : m_isP (ks_th q) p0 = 0
  · have e1 : kk_drop q p0 x = (0, 1, q) := if_pos hp0
    have e2 : m_drop (cv q) p0 x = (0, 1, cv q) := if_pos hp0
    rw [e1, e2]
    exact ⟨fun z => absurd hp0 z, fun z => absurd hp0 z, rfl, h⟩
  · obtain ⟨p, hp, rfl, hth⟩ := isP_of hp0
    have em : m_drop (cv q) (nI p) x = if x < 0 then (0, 2, cv q) else if x ≤ 5 then ((m_empty (cv q) (6 * nI p + x)).1, 0, (m_empty (cv q) (6 * nI p + x)).2) else (0, 2, cv q) := if_neg hp0
    have ek : kk_drop q (nI p) x = if x < 0 then (0, 2, q) else if x < 6 then ((k_empty q (nI p) x).1, 0, (k_empty q (nI p) x).2) else (0, 2, q) := if_neg hp0
    rw [em, ek]
    by_cases h1 : x < 0
    · rw [if_pos h1, if_pos h1]
      exact ⟨fun _ z => absurd h1 z, fun _ z => absurd h1 z, rfl, h⟩
    · rw [if_neg h1, if_neg h1]
      by_cases h2 : x < 6
      · obtain ⟨g, hg, eg, -⟩ := pk_mu (L := 6) h1 (Int32.not_le.mpr h2) (by omega)
        subst eg
        have h5 : nI g ≤ 5 := (nI_leI (b := 5) (by omega) (by omega)).mpr (by omega)
        obtain ⟨hxe, hme, hI, hm, hthe, -, -⟩ := h.empty hp hg
        rw [if_pos h2, if_pos h5]
        have hm' := hm (ks_th q)
        refine ⟨fun _ _ _ => hxe, fun _ _ _ => hme (ks_th q), ?_, hI⟩
        have hm2 : m_empty (cv q) (6 * nI p + nI g) = ((k_empty q (nI p) (nI g)).1, su_th (cv (k_empty q (nI p) (nI g)).2) (ks_th q)) := hm'
        rw [hm2]
        show ((k_empty q (nI p) (nI g)).1, 0, su_th (cv (k_empty q (nI p) (nI g)).2) (ks_th q)) = ((k_empty q (nI p) (nI g)).1, 0, cv (k_empty q (nI p) (nI g)).2)
        rw [← hthe]
      · have h5 : ¬ x ≤ 5 := fun z => h2 (Int32.lt_of_le_of_lt z (by decide))
        rw [if_neg h2, if_neg h5]
        exact ⟨fun _ _ z => absurd z h2, fun _ _ z => absurd z h5, rfl, h⟩
end SIM
