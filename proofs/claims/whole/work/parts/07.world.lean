/-! The cells of the two programs. -/
/-- the class: there, sheets (rows), wordsCopied, the memory -/
abbrev KS : Type := (Nat → Int32) × (Nat → Nat → Int32) × Int32 × KM
abbrev ks_th (q : KS) : Nat → Int32 := q.1
abbrev ks_pg (q : KS) : Nat → Nat → Int32 := q.2.1
abbrev ks_cp (q : KS) : Int32 := q.2.2.1
abbrev ks_m (q : KS) : KM := q.2.2.2
abbrev kv_th (q : KS) (f : Nat → Int32) : KS := (f, q.2)
abbrev kv_pg (q : KS) (f : Nat → Nat → Int32) : KS := (q.1, f, q.2.2)
abbrev kv_cp (q : KS) (x : Int32) : KS := (q.1, q.2.1, x, q.2.2.2)
abbrev kv_m (q : KS) (k : KM) : KS := (q.1, q.2.1, q.2.2.1, k)
abbrev ra (f : Nat → Nat) : (Nat → Int32) ⊕ (Nat → Int64) ⊕ (Nat → UInt32) ⊕ (Nat → UInt64) ⊕ (Nat → Option Nat) := .inr (.inr (.inr (.inr (fun i => some (f i)))))
abbrev mW (b : Nat → Nat) (F S : Nat) (tI tZ tA : ClassId) (k : KM) : va_W :=
  [(b 9, .inr (1, [.ref (b 10), .ref (b 11), .ref (b 12), .ref (b 13), .ref (b 14), .ref (b 15), .int (km_hd k), .int (km_fl k), .int (km_ev k)])), (b 10, .inl (tI, F, .inl (km_iF k))), (b 11, .inl (tI, S, .inl (km_iS k))), (b 12, .inl (tZ, F, .inl (km_mk k))), (b 13, .inl (tI, F + S, .inl (km_pl k))), (b 14, .inl (tI, F + S, .inl (km_ct k))), (b 15, .inl (tA, F + S, ra (fun i => b (16 + i))))] ++ (pl_rows b 16 (F + S) 4 tI (km_wd k) ++ [])
abbrev x3 (b : Nat → Nat) (tZ tA : ClassId) (q : KS) : va_W :=
  [(b 0, .inr (0, [.ref (b 1), .ref (b 2), .ref (b 9), .int (ks_cp q)])), (b 1, .inl (tZ, 6, .inl (ks_th q))), (b 2, .inl (tA, 6, ra (fun i => b (3 + i))))]
abbrev xW (b : Nat → Nat) (F S : Nat) (tI tZ tA : ClassId) (q : KS) : va_W := x3 b tZ tA q ++ (pl_rows b 3 6 6 tI (ks_pg q) ++ mW b F S tI tZ tA (ks_m q))
/-- the reference; tw: what it keeps in 'thrown' -/
abbrev tW (b : Nat → Nat) (F S : Nat) (tI tZ : ClassId) (tw : Int32) (s : Sg) : va_W :=
  [(b 0, .inr (2, [.int tw, .int (nI F), .int (nI S), .ref (b 1), .int (sg_hd s), .ref (b 2), .ref (b 3), .ref (b 4), .ref (b 5), .int (sg_fl s), .int (sg_ev s), .int (sg_cp s)])), (b 1, .inl (tZ, 8, .inl (sg_mk s))), (b 2, .inl (tI, 18, .inl (sg_li s))), (b 3, .inl (tI, 72, .inl (sg_wd s))), (b 4, .inl (tZ, 6, .inl (sg_th s))), (b 5, .inl (tI, 36, .inl (sg_pg s)))]
theorem nar0 : vp_nar .boolean 0 = 0 := by decide
theorem nar1 : vp_nar .boolean 1 = 1 := by decide
/-- what a method that reads alone is given -/
abbrev pR (D : va_G) (tI tZ tA tJ : ClassId) (av : List Value) (ws : va_W) (B : Prop) : Array Value → State → Prop := va_Pc av (fun U => TB D tI tZ tA tJ U ∧ B ∧ va_P D vcl ws U.heap)
/-- .. and one that writes -/
abbrev pW (D : va_G) (tI tZ tA tJ : ClassId) (av : List Value) (ws : va_W) (sz : Nat) (B : Prop) : Array Value → State → Prop := va_Pc av (fun U => TB D tI tZ tA tJ U ∧ B ∧ U.heap.size = sz ∧ va_P D vcl ws U.heap ∧ va_D (fun _ => True) ws)
theorem pR.blind {D : va_G} {tI tZ tA tJ : ClassId} {av : List Value} {ws : va_W} {B : Prop} : FrameBlind (pR D tI tZ tA tJ av ws B) := fun _ U g mk h => ⟨h.1, h.2.1.same (U := U.calling g mk _) rfl, h.2.2.1, h.2.2.2⟩
theorem pW.blind {D : va_G} {tI tZ tA tJ : ClassId} {av : List Value} {ws : va_W} {sz : Nat} {B : Prop} : FrameBlind (pW D tI tZ tA tJ av ws sz B) := fun _ U g mk h => ⟨h.1, h.2.1.same (U := U.calling g mk _) rfl, h.2.2.1, h.2.2.2.1, h.2.2.2.2⟩
theorem pR.at {D : va_G} {tI tZ tA tJ : ClassId} {av : List Value} {ws : va_W} {B : Prop} {s : State} {H : Heap} (hT : TB D tI tZ tA tJ s) (hB : B) (hP : va_P D vcl ws H) : ∀ U : State, U.heap = H → s.WarmedH U.vm → pR D tI tZ tA tJ av ws B av.toArray U := fun U hU hW => ⟨rfl, hT.warm hW, hB, by rw [hU]; exact hP⟩
theorem pW.at {D : va_G} {tI tZ tA tJ : ClassId} {av : List Value} {ws : va_W} {B : Prop} {s : State} {H : Heap} {A : Nat → Prop} (hT : TB D tI tZ tA tJ s) (hB : B) (hP : va_P D vcl ws H) (hD : va_D A ws) : ∀ U : State, U.heap = H → s.WarmedH U.vm → pW D tI tZ tA tJ av ws H.size B av.toArray U := fun U hU hW => ⟨rfl, hT.warm hW, hB, by rw [hU], by rw [hU]; exact hP, hD.weaken (fun _ _ _ _ => trivial)⟩
