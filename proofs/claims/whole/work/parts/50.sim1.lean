/-! The two programs side by side: numbers, counting, the lowest place. -/
theorem nI_inj {a b : Nat} (ha : a < 2 ^ 31) (hb : b < 2 ^ 31) (h : nI a = nI b) : a = b := by
  have h1 := nI_clamp ha
  rw [h, nI_clamp hb] at h1
  exact h1.symm
theorem nI_ne {a : Nat} (ha : a < 2 ^ 31) : ¬ nI a = -1 := by
  intro h
  have h1 : (0 : Int32) ≤ nI a := (nI_leI (a := 0) (by omega) ha).mpr (Nat.zero_le a)
  rw [h] at h1
  exact absurd h1 (by decide)
theorem nI_ge0 {a : Nat} (ha : a < 2 ^ 31) : (0 : Int32) ≤ nI a := (nI_leI (a := 0) (by omega) ha).mpr (Nat.zero_le a)
theorem nI_nlt0 {a : Nat} (ha : a < 2 ^ 31) : ¬ nI a < 0 := Int32.not_lt.mpr (nI_ge0 ha)
theorem h100 (t : Nat) : (100 : Int32) + nI t = nI (100 + t) := by rw [show (100 : Int32) = nI 100 from rfl, nI_add]
theorem m1_lt : ¬ (0 : Int32) ≤ -1 := by decide
theorem upd_s {f : Nat → Int32} {k : Nat} {x : Int32} : upd f k x k = x := pk_us
theorem upd_n {f : Nat → Int32} {k j : Nat} {x : Int32} (h : ¬ j = k) : upd f k x j = f j := if_neg h
/-- how many of the first n hold v -/
def ow (f : Nat → Int32) (v : Int32) : Nat → Nat
  | 0 => 0
  | n + 1 => ow f v n + (if f n = v then 1 else 0)
theorem ow_le (f : Nat → Int32) (v : Int32) : ∀ n, ow f v n ≤ n
  | 0 => Nat.le_refl _
  | n + 1 => by
    have := ow_le f v n
    unfold ow
    split <;> omega
theorem ow_mono (f : Nat → Int32) (v : Int32) : ∀ (n i : Nat), ow f v i ≤ ow f v (i + n)
  | 0, _ => Nat.le_refl _
  | n + 1, i => by
    have := ow_mono f v n i
    show _ ≤ ow f v (i + n) + _
    omega
theorem ow_congr {f g : Nat → Int32} {v : Int32} : ∀ {n : Nat}, (∀ i, i < n → f i = g i) → ow f v n = ow g v n
  | 0, _ => rfl
  | n + 1, h => by
    unfold ow
    rw [ow_congr (fun i hi => h i (by omega)), h n (by omega)]
theorem ow_upd (f : Nat → Int32) (v w : Int32) (i : Nat) : ∀ n, i < n → ow (upd f i w) v n + (if f i = v then 1 else 0) = ow f v n + (if w = v then 1 else 0)
  | 0, h => absurd h (Nat.not_lt_zero _)
  | n + 1, h => by
    unfold ow
    by_cases e : i = n
    · subst e
      have h1 : ow (upd f i w) v i = ow f v i := ow_congr fun j hj => upd_n (by omega)
      rw [h1, upd_s]
      omega
    · have ih := ow_upd f v w i n (by omega)
      rw [upd_n (show ¬ n = i by omega)]
      omega
theorem ow_pos {f : Nat → Int32} {v : Int32} : ∀ {n : Nat}, 0 < ow f v n → ∃ i, i < n ∧ f i = v
  | 0, h => absurd h (by simp [ow])
  | n + 1, h => by
    by_cases e : f n = v
    · exact ⟨n, by omega, e⟩
    · have : 0 < ow f v n := by
        unfold ow at h
        rw [if_neg e] at h
        exact h
      obtain ⟨i, hi, he⟩ := ow_pos this
      exact ⟨i, by omega, he⟩
theorem ow_get {f : Nat → Int32} {v : Int32} : ∀ {n i : Nat}, i < n → f i = v → 0 < ow f v n
  | 0, _, h, _ => absurd h (Nat.not_lt_zero _)
  | n + 1, i, h, e => by
    unfold ow
    by_cases h2 : i = n
    · subst h2; rw [if_pos e]; omega
    · have := ow_get (show i < n by omega) e
      omega
theorem nI_acc (x : Int32) (n : Nat) : x + 1 + nI n = x + nI (n + 1) := by
  rw [← nI_1, Int32.add_comm (nI n) 1, ← Int32.add_assoc]
theorem m_own_ow (f : Nat → Int32) (a : Int32) : ∀ (n i : Nat) (x : Int32), m_own f a n i x = x + nI (ow f a (i + n) - ow f a i)
  | 0, i, x => by
    show x = _
    rw [Nat.add_zero, Nat.sub_self]
    exact (Int32.add_zero x).symm
  | n + 1, i, x => by
    show m_own f a n (i + 1) (if f i = a then x + 1 else x) = _
    rw [m_own_ow f a n (i + 1)]
    have h1 : ow f a (i + 1) = ow f a i + (if f i = a then 1 else 0) := rfl
    have h2 := ow_mono f a n (i + 1)
    rw [show i + 1 + n = i + (n + 1) by omega] at h2 ⊢
    by_cases e : f i = a
    · rw [if_pos e] at h1 ⊢
      rw [nI_acc]
      congr 2
      omega
    · rw [if_neg e] at h1 ⊢
      congr 2
      omega
theorem m_owners_ow (f : Nat → Int32) (a : Int32) : m_owners f a = nI (ow f a 36) := by
  rw [m_owners, m_own_ow]
  show (0 : Int32) + nI (ow f a (0 + 36) - 0) = _
  rw [Int32.zero_add, Nat.sub_zero, Nat.zero_add]
theorem k_cnt_ow (f : Nat → Int32) : ∀ (n i : Nat) (x : Int32), k_cnt f n i x = x + nI (ow f (-1) (i + n) - ow f (-1) i)
  | 0, i, x => by
    show x = _
    rw [Nat.add_zero, Nat.sub_self]
    exact (Int32.add_zero x).symm
  | n + 1, i, x => by
    show k_cnt f n (i + 1) (if f i = -1 then x + 1 else x) = _
    rw [k_cnt_ow f n (i + 1)]
    have h1 : ow f (-1) (i + 1) = ow f (-1) i + (if f i = -1 then 1 else 0) := rfl
    have h2 := ow_mono f (-1) n (i + 1)
    rw [show i + 1 + n = i + (n + 1) by omega] at h2 ⊢
    by_cases e : f i = -1
    · rw [if_pos e] at h1 ⊢
      rw [nI_acc]
      congr 2
      omega
    · rw [if_neg e] at h1 ⊢
      congr 2
      omega
/-- the lowest place that holds v -/
theorem m_at_or (f : Nat → Int32) (v : Int32) : ∀ (n i : Nat), (m_at f v n i = -1 ∧ ∀ j, i ≤ j → j < i + n → ¬ f j = v) ∨ ∃ j, i ≤ j ∧ j < i + n ∧ f j = v ∧ m_at f v n i = nI j ∧ ∀ j', i ≤ j' → j' < j → ¬ f j' = v
  | 0, i => Or.inl ⟨rfl, fun j h1 h2 => by omega⟩
  | n + 1, i => by
    by_cases h : f i = v
    · exact Or.inr ⟨i, Nat.le_refl _, by omega, h, if_pos h, fun j' h1 h2 => by omega⟩
    · have e : m_at f v (n + 1) i = m_at f v n (i + 1) := if_neg h
      rw [e]
      rcases m_at_or f v n (i + 1) with ⟨h1, h2⟩ | ⟨j, h1, h2, h3, h4, h5⟩
      · refine Or.inl ⟨h1, fun j q1 q2 => ?_⟩
        by_cases hj : j = i
        · subst hj; exact h
        · exact h2 j (by omega) (by omega)
      · refine Or.inr ⟨j, by omega, by omega, h3, h4, fun j' q1 q2 => ?_⟩
        by_cases hj : j' = i
        · subst hj; exact h
        · exact h5 j' (by omega) q2
theorem k_low_at (f : Nat → Int32) : ∀ (n i : Nat), k_low f n i = m_at f (-1) n i
  | 0, _ => rfl
  | n + 1, i => by
    unfold k_low m_at
    rw [k_low_at f n (i + 1)]
theorem k_low_or (f : Nat → Int32) (n : Nat) : (k_low f n 0 = -1 ∧ ∀ j, j < n → ¬ f j = -1) ∨ ∃ j, j < n ∧ f j = -1 ∧ k_low f n 0 = nI j ∧ ∀ j', j' < j → ¬ f j' = -1 := by
  rw [k_low_at]
  rcases m_at_or f (-1) n 0 with ⟨h1, h2⟩ | ⟨j, h1, h2, h3, h4, h5⟩
  · exact Or.inl ⟨h1, fun j hj => h2 j (Nat.zero_le _) (by omega)⟩
  · exact Or.inr ⟨j, by omega, h3, h4, fun j' hj => h5 j' (Nat.zero_le _) hj⟩
theorem m_at_is {f : Nat → Int32} {v : Int32} {n j : Nat} (hj : j < n) (hv : f j = v) (hu : ∀ j', j' < n → f j' = v → j' = j) : m_at f v n 0 = nI j := by
  rcases m_at_or f v n 0 with ⟨h1, h2⟩ | ⟨j', h1, h2, h3, h4, h5⟩
  · exact absurd hv (h2 j (Nat.zero_le _) (by omega))
  · rw [h4, hu j' (by omega) h3]
theorem m_at_no {f : Nat → Int32} {v : Int32} {n : Nat} (h : ∀ j, j < n → ¬ f j = v) : m_at f v n 0 = -1 := by
  rcases m_at_or f v n 0 with ⟨h1, h2⟩ | ⟨j', h1, h2, h3, h4, h5⟩
  · exact h1
  · exact absurd h3 (h j' (by omega))
/-- rows beside each other in one row -/
def cvp (p : Nat → Nat → Int32) : Nat → Int32 := fun k => p (k / 6) (k % 6)
def cvw (w : Nat → Nat → Int32) : Nat → Int32 := fun k => w (k / 4) (k % 4)
theorem cvp_at {p : Nat → Nat → Int32} {i j : Nat} (hj : j < 6) : cvp p (6 * i + j) = p i j := by
  unfold cvp
  rw [show (6 * i + j) / 6 = i by omega, show (6 * i + j) % 6 = j by omega]
theorem cvw_at {p : Nat → Nat → Int32} {i j : Nat} (hj : j < 4) : cvw p (4 * i + j) = p i j := by
  unfold cvw
  rw [show (4 * i + j) / 4 = i by omega, show (4 * i + j) % 4 = j by omega]
theorem cvp_upd {p : Nat → Nat → Int32} {i j : Nat} {v : Int32} (hj : j < 6) : cvp (up2 p i (upd (p i) j v)) = upd (cvp p) (6 * i + j) v := by
  funext k
  unfold cvp up2
  by_cases h1 : k / 6 = i
  · rw [if_pos h1]
    by_cases h2 : k % 6 = j
    · rw [h2, upd_s, show k = 6 * i + j by omega, upd_s]
    · rw [upd_n h2, upd_n (by omega), h1]
  · rw [if_neg h1, upd_n (by omega)]
theorem cvw_upd {p : Nat → Nat → Int32} {i j : Nat} {v : Int32} (hj : j < 4) : cvw (up2 p i (upd (p i) j v)) = upd (cvw p) (4 * i + j) v := by
  funext k
  unfold cvw up2
  by_cases h1 : k / 4 = i
  · rw [if_pos h1]
    by_cases h2 : k % 4 = j
    · rw [h2, upd_s, show k = 4 * i + j by omega, upd_s]
    · rw [upd_n h2, upd_n (by omega), h1]
  · rw [if_neg h1, upd_n (by omega)]
