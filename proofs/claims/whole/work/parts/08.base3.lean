/-! a call that has one cell of the world -/
section OB6
variable {p : Program} {l : Launch} {e : Env} {R : Room} {s : State} {m : MethodId} {args : Array Value} {below : List Frame} {meth : Method} {c : Code} {H : Heap} {locs : List Loc} {cells slots : Nat} {Q : State → Prop}
variable {pc : Nat} {ls : Array Slot} {rest st0 : List Value} {a : Array Value} {mc ms : Nat} {D : va_G} {cl : List vw_C} {A : Nat → Prop} {H0 : Heap}
theorem ob_callC {v : Option Value} {ws : va_W} {q0 x : Nat} {e0 e1 : va_E} (hr : ob_Run p l e R s m args below meth c H locs cells slots mc ms (F0 m pc ls st0) rest (ob_qW D cl v [(x, e1)] (va_A [(x, e0)] H.size) a) (va_A [(x, e0)] H.size)) (ha : ws[q0]? = some (x, e0)) (hP : va_P D cl ws H) (hD : va_D A ws) (hS : va_S A H0 H locs) (hA : ∀ q, H0.size ≤ q → A q)
    (kk : ∀ (H1 : Heap) (locs1 : List Loc), va_P D cl (ws.set q0 (x, e1)) H1 → va_D A (ws.set q0 (x, e1)) → va_S A H0 H1 locs1 → W p l e R s m args below meth c H1 locs1 (cells + mc) (slots + ms) Q (F0 m (pc + 3) ls (v.toList ++ rest))) : W p l e R s m args below meth c H locs cells slots Q (F0 m pc ls st0) := by
  intro T hT Xs
  obtain ⟨o, st₀, t, T', L, h0, hal, X', hL, g1, g2, ⟨ho, hP1, hD1, hz, hk⟩, hret, -⟩ := hr T hT Xs
  rw [h0] at hz hk
  have one : ∀ (k : Nat) (q : Nat × va_E), ([(x, e0)] : va_W)[k]? = some q → q = (x, e0) := fun k q hq => by
    have := List.mem_of_getElem? hq
    exact List.mem_singleton.mp this
  have hF : ∀ q, va_A [(x, e0)] H.size q → A q := by
    intro q h
    rcases h with ⟨k, e9, h⟩ | h
    · have := one k _ h
      rw [show q = x from congrArg Prod.fst this]
      exact hD.2 q0 _ ha
    · exact hA q (Nat.le_trans hS.1 h)
  have hlt := (List.getElem?_eq_some_iff.mp ha).1
  have hP2 : va_P D cl (ws.set q0 (x, e1)) t.heap := by
    intro k q hq
    by_cases hkq : k = q0
    · subst hkq
      rw [List.getElem?_set_self hlt] at hq
      cases hq
      exact hP1 0 _ rfl
    · rw [List.getElem?_set_ne (Ne.symm hkq)] at hq
      refine (hP k q hq).kept (hk q.1 (hP k q hq).lt fun h => ?_)
      rcases h with ⟨k2, e9, h⟩ | h
      · have h5 : q.1 = x := congrArg Prod.fst (one k2 _ h)
        exact hkq (hD.1 k q0 q (x, e0) hq ha h5)
      · have := (hP k q hq).lt
        omega
  obtain ⟨t2, a1, b1⟩ := kk t.heap (locs ++ L) hP2 (hD.set ha) ⟨Nat.le_trans hS.1 hz, fun q h1 h2 => by rw [hk q (Nat.lt_of_lt_of_le h1 hS.1) (fun z => h2 (hF q z))]; exact hS.2.1 q h1 h2, fun q hq => by
      rcases List.mem_append.mp hq with h | h
      · exact hS.2.2 q h
      · exact hF _ (hL q h)⟩ T' g1 X'
  exact ⟨t2, hret v ho t2 a1, b1⟩
end OB6
theorem ob_P1 {D : va_G} {cl : List vw_C} {ws : va_W} {H : Heap} {q x : Nat} {e0 : va_E} (hP : va_P D cl ws H) (ha : ws[q]? = some (x, e0)) : va_P D cl [(x, e0)] H := by
  intro k z hz
  have := List.mem_singleton.mp (List.mem_of_getElem? hz)
  rw [this]
  exact hP q _ ha
theorem ob_D1 {A : Nat → Prop} {ws : va_W} {q x : Nat} {e0 : va_E} (hD : va_D A ws) (ha : ws[q]? = some (x, e0)) : va_D A [(x, e0)] := by
  refine ⟨fun i j y z hi hj _ => ?_, fun k z hz => ?_⟩
  · have h1 := (List.getElem?_eq_some_iff.mp hi).1
    have h2 := (List.getElem?_eq_some_iff.mp hj).1
    simp only [List.length_singleton] at h1 h2
    omega
  · have := List.mem_singleton.mp (List.mem_of_getElem? hz)
    rw [this]
    exact hD.2 q _ ha
