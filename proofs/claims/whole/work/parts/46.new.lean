/-! new things: arrays and grids in the world; calls whose answer is a new one -/
section CN
variable {p : Program} {l : Launch} {e : Env} {R : Room} {s : State} {m : MethodId} {args : Array Value} {below : List Frame} {meth : Method} {c : Code} {H : Heap} {locs : List Loc} {cells slots : Nat} {Q : State → Prop}
variable {pc : Nat} {ls : Array Slot} {rest st0 : List Value} {a : Array Value} {mc ms : Nat} {D : va_G} {cl : List vw_C} {A : Nat → Prop} {H0 : Heap} {X M : va_W} {cc : ByteArray} {tys : List (ClassId × FieldType)} {ws : va_W}
theorem ob_newa (hexec : p.tables.exec = Jvm.exec) (hb : c.code = cc) {atype : ArrayType} {ty : FieldType} (harr : (Cond.arrayClass ty).before args s = true) (hty : newarray.typeOf atype = ty) (hK : va_K D cl tys s) (t0 : Nat) {tX : ClassId} (ht : tys[t0]? = some (tX, ty)) (hRA : ∀ z, va_RA s z ty → s.vm.findClass ("[" ++ ty.toString) = some z) (hP : va_P D cl ws H) (hD : va_D A ws) (hS : va_S A H0 H locs) (hA : ∀ q, H0.size ≤ q → A q)
    {n : Int32} {N : Nat} {a0 : vp_A} (ha : ∀ cA : ClassId, vp_cell cA a0 = arrV cA N (fun _ => defaultValue ty)) (hN : n = nI N) (hN1 : N ≤ 1000) (hbytes : N * componentBytes ty ≤ 536870912) (hcells : cells + 1 ≤ R.cells) (hslots : slots + N ≤ R.slots) (hdg : decode cc pc = .ok (.newarray atype, 2))
    (kk : ∀ (q : Nat) (H1 : Heap), va_P D cl (ws ++ [(q, .inl (tX, a0))]) H1 → va_D A (ws ++ [(q, .inl (tX, a0))]) → va_S A H0 H1 locs →
      W p l e R s m args below meth c H1 locs (cells + 1) (slots + N) Q (F0 m (pc + 2) ls (.ref q :: rest))) : W p l e R s m args below meth c H locs cells slots Q (F0 m pc ls (.int n :: rest)) := by
  obtain ⟨h1, h2⟩ := gm_pos hN (by omega)
  refine va_newa hexec hb (by rw [hty]; exact harr) hty hK hP hD hS hA ha h1 h2 hbytes hcells hslots hdg (fun q cA H1 hK1 hP1 hD1 hS1 => ?_)
  have g1 := hRA _ (hK1.2 tys.length (cA, ty) (by simp)).2
  have g2 := hRA _ (hK.2 t0 _ ht).2
  cases g1.symm.trans g2
  exact kk q H1 hP1 hD1 hS1
theorem ob_grid (hexec : p.tables.exec = Jvm.exec) (hb : c.code = cc) {own : String} {index : Nat} {tI tZ tA tJ : ClassId} (hown : s.vm.findClass own = some m.cls) (hlink : (Cond.classLink own index "[[I").before args s = true) (hover : gm_OV s) (harr : (Cond.arrayClass .int).before args s = true)
    (hK : va_K D cl (tyl tI tZ tA tJ) s) (hP : va_P D cl ws H) (hD : va_D A ws) (hS : va_S A H0 H locs) (hA : ∀ q, H0.size ≤ q → A q)
    (hdg : decode cc pc = .ok (.multianewarray index 2, 4)) {n k : Int32} {N K : Nat} (hN : n = nI N) (hN1 : N ≤ 1000) (hKk : k = nI K) (hK1 : K ≤ 1000) (hcells : cells + (1 + N) ≤ R.cells) (hslots : slots + (N + N * K) ≤ R.slots)
    (kk : ∀ (q : Nat) (H1 : Heap), va_P D cl (ws ++ ((q, .inl (tA, N, ra (fun i => q + 1 + i))) :: pl_rows (fun i => q + 1 + i) 0 N K tI (fun _ _ => 0))) H1 → va_D A (ws ++ ((q, .inl (tA, N, ra (fun i => q + 1 + i))) :: pl_rows (fun i => q + 1 + i) 0 N K tI (fun _ _ => 0))) → va_S A H0 H1 locs →
      W p l e R s m args below meth c H1 locs (cells + 1 + N) (slots + N + N * K) Q (F0 m (pc + 4) ls (.ref q :: rest))) : W p l e R s m args below meth c H locs cells slots Q (F0 m pc ls (.int k :: .int n :: rest)) := by
  refine gm_row2 hexec hb hown hlink hover harr hdg hN hN1 hKk hK1 hcells hslots (fun H1 cA cI g1 g2 hz hold hout hrow => ?_)
  have q1 : s.vm.findClass "[[I" = some tA := (hK.2 2 _ rfl).2
  have q2 : s.vm.findClass "[I" = some tI := (hK.2 0 _ rfl).2
  cases g1.symm.trans q1
  cases g2.symm.trans q2
  have key : ∀ (k0 : Nat) (x : Nat × va_E), ((H.size, .inl (tA, N, ra (fun i => H.size + 1 + i))) :: pl_rows (fun i => H.size + 1 + i) 0 N K tI (fun _ _ => 0) : va_W)[k0]? = some x → x.1 = H.size + k0 ∧ va_at D cl x H1 := by
    intro k0 x hx
    cases k0 with
    | zero =>
      cases Option.some.inj hx
      exact ⟨rfl, hout⟩
    | succ j =>
      rw [List.getElem?_cons_succ] at hx
      have hj : j < N := by
        have := (List.getElem?_eq_some_iff.mp hx).1
        rw [pl_len] at this
        exact this
      rw [show (pl_rows (fun i => H.size + 1 + i) 0 N K tI (fun _ _ => 0))[j]? = some (H.size + 1 + (0 + j), .inl (tI, K, .inl (fun _ => 0))) by simp [pl_rows, hj]] at hx
      cases Option.some.inj hx
      refine ⟨by show H.size + 1 + (0 + j) = H.size + (j + 1); omega, ?_⟩
      show H1[H.size + 1 + (0 + j)]? = some _
      rw [show H.size + 1 + (0 + j) = H.size + 1 + j by omega]
      exact hrow j hj
  refine kk H.size H1 ((hP.kept (fun k0 x hx => hold x.1 ((hP k0 x hx).lt))).app (fun k0 x hx => (key k0 x hx).2)) (hD.app ⟨fun i j x y hi hj h => ?_, fun k0 x hx => ?_⟩ (fun i j x y hx hy hxy => ?_)) ⟨Nat.le_trans hS.1 (by omega), fun x h1 h2 => (hold x (Nat.lt_of_lt_of_le h1 hS.1)).trans (hS.2.1 x h1 h2), hS.2.2⟩
  · have := (key i x hi).1
    have := (key j y hj).1
    omega
  · rw [(key k0 x hx).1]
    exact hA _ (Nat.le_trans hS.1 (by omega))
  · have h1 := (hP i x hx).lt
    have h2 := (key j y hy).1
    omega
/-- a method that leaves a new world: which one, a z says -/
def ob_qE {ι : Type} (D : va_G) (cl : List vw_C) (v : ι → Option Value) (M' : ι → va_W) (A : Nat → Prop) : Array Value → State → Outcome → State → Prop := fun a st o t => ∃ z, ob_qW D cl (v z) (M' z) A a st o t
theorem ob_callE {ι : Type} {v : ι → Option Value} {M' : ι → va_W} (hr : ob_Run p l e R s m args below meth c H locs cells slots mc ms (F0 m pc ls st0) rest (ob_qE D cl v M' (va_A M H.size) a) (va_A M H.size)) (hP : va_P D cl (X ++ M) H) (hD : va_D A (X ++ M)) (hS : va_S A H0 H locs) (hA : ∀ q, H0.size ≤ q → A q)
    (kk : ∀ (z : ι) (H1 : Heap) (locs1 : List Loc), va_P D cl (X ++ M' z) H1 → va_D A (X ++ M' z) → va_S A H0 H1 locs1 → W p l e R s m args below meth c H1 locs1 (cells + mc) (slots + ms) Q (F0 m (pc + 3) ls ((v z).toList ++ rest))) : W p l e R s m args below meth c H locs cells slots Q (F0 m pc ls st0) := by
  intro T hT Xs
  obtain ⟨o, st₀, t, T', L, h0, hal, X', hL, e1, e2, ⟨z, ho, hP1, hD1, hz, hk⟩, hret, -⟩ := hr T hT Xs
  rw [h0] at hz hk
  have hF := ob_Fr_in hD hS hA
  obtain ⟨hP2, hD2⟩ := ob_join hP hD (H1 := t.heap) hk hF hP1 hD1
  obtain ⟨t2, a1, b1⟩ := kk z t.heap (locs ++ L) hP2 hD2 ⟨Nat.le_trans hS.1 hz, fun q h1 h2 => by rw [hk q (Nat.lt_of_lt_of_le h1 hS.1) (fun z => h2 (hF q z))]; exact hS.2.1 q h1 h2, fun q hq => by
      rcases List.mem_append.mp hq with h | h
      · exact hS.2.2 q h
      · exact hF _ (hL q h)⟩ T' e1 X'
  exact ⟨t2, hret _ ho t2 a1, b1⟩
theorem ob_aret {Qc : Array Value → State → Outcome → State → Prop} {free : Addr → Prop} {q : Nat} {ty : FieldType} (hlocks : meth.locks = false) (hexec : p.tables.exec = Jvm.exec) (hb : c.code = cc) (hr : meth.sig.returnType = some (.array ty))
    (hdg : decode cc pc = .ok (.areturn, 1)) (hf : ∀ q ∈ locs, free q.base) (hq : ∀ t : State, t.heap = H → s.WarmedH t.vm → Qc args s (.returned (some (.ref q))) t) : W p l e R s m args below meth c H locs cells slots (ob_Q below Qc args s cells slots free) (F0 m pc ls [.ref q]) :=
  ob_mono ob_of_MQ (W.aret hexec hb hr (Or.inr ⟨_, rfl⟩) (Or.inr ⟨_, rfl⟩) hq hf hdg hlocks)
end CN
/-- the addresses of the memory's cells -/
def bf_M (r a0 a1 a2 a3 a4 a5 : Nat) : Nat → Nat := fun i => if i = 9 then r else if i = 10 then a0 else if i = 11 then a1 else if i = 12 then a2 else if i = 13 then a3 else if i = 14 then a4 else if i = 15 then a5 else a5 + 1 + (i - 16)
theorem bf_M_row (r a0 a1 a2 a3 a4 a5 : Nat) : (fun i => bf_M r a0 a1 a2 a3 a4 a5 (16 + i)) = fun i => a5 + 1 + i := by
  funext i
  unfold bf_M
  rw [if_neg (by omega), if_neg (by omega), if_neg (by omega), if_neg (by omega), if_neg (by omega), if_neg (by omega), if_neg (by omega)]
  omega
theorem pl_same {b b' : Nat → Nat} {o o' n k : Nat} {cI : ClassId} {r : Nat → Nat → Int32} (h : (fun i => b (o + i)) = fun i => b' (o' + i)) : pl_rows b o n k cI r = pl_rows b' o' n k cI r := by
  unfold pl_rows
  refine List.map_congr_left fun i _ => ?_
  rw [show b (o + i) = b' (o' + i) from congrFun h i]
abbrev km_0 : KM := (fun _ => -1, fun _ => -1, fun _ => 0, fun _ => -1, fun _ => 0, fun _ _ => 0, 0, 0, 0)
abbrev ks_0 : KS := (fun _ => 0, fun _ _ => -1, 0, km_0)
abbrev sg_0 : Sg := (fun _ => 0, fun _ => -1, fun _ => 0, fun _ => -1, fun _ => 0, 0, 0, 0, 0)
theorem bf_M_world {F S : Nat} {tI tZ tA : ClassId} (r a0 a1 a2 a3 a4 a5 : Nat) : mW (bf_M r a0 a1 a2 a3 a4 a5) F S tI tZ tA km_0 =
  [(r, .inr (1, [.ref a0, .ref a1, .ref a2, .ref a3, .ref a4, .ref a5, .int 0, .int 0, .int 0])), (a0, .inl (tI, F, .inl (fun _ => -1))), (a1, .inl (tI, S, .inl (fun _ => -1))), (a2, .inl (tZ, F, .inl (fun _ => 0))), (a3, .inl (tI, F + S, .inl (fun _ => -1))), (a4, .inl (tI, F + S, .inl (fun _ => 0)))] ++
  ((a5, .inl (tA, F + S, ra (fun i => a5 + 1 + i))) :: pl_rows (fun i => a5 + 1 + i) 0 (F + S) 4 tI (fun _ _ => 0)) := by
  unfold mW
  rw [bf_M_row, pl_same (b := bf_M r a0 a1 a2 a3 a4 a5) (o := 16) (b' := fun i => a5 + 1 + i) (o' := 0) (by rw [bf_M_row]; funext i; simp), List.append_nil]
  rfl
theorem kc_Ob_init : Cond.code Lib.objectInit ⟨#[0xb1]⟩ 1 none ∈ lw_tbl := by decide +kernel
/-- what a constructor is given -/
abbrev pN (D : va_G) (tI tZ tA tJ : ClassId) (av : List Value) (ws : va_W) (sz : Nat) (B : Prop) : Array Value → State → Prop := va_Pc av (fun U => TB D tI tZ tA tJ U ∧ gm_OV U ∧ B ∧ U.heap.size = sz ∧ va_P D vcl ws U.heap ∧ va_D (fun _ => True) ws)
theorem pN.blind {D : va_G} {tI tZ tA tJ : ClassId} {av : List Value} {ws : va_W} {sz : Nat} {B : Prop} : FrameBlind (pN D tI tZ tA tJ av ws sz B) := fun _ U g mk h => ⟨h.1, h.2.1.same (U := U.calling g mk _) rfl, h.2.2.1.moved (U := U.calling g mk _) (State.WarmedH.refl U).alike, h.2.2.2.1, h.2.2.2.2.1, h.2.2.2.2.2⟩
theorem pN.at {D : va_G} {tI tZ tA tJ : ClassId} {av : List Value} {ws : va_W} {B : Prop} {s : State} {H : Heap} {A : Nat → Prop} (hT : TB D tI tZ tA tJ s) (ho : gm_OV s) (hB : B) (hP : va_P D vcl ws H) (hD : va_D A ws) : ∀ U : State, U.heap = H → s.WarmedH U.vm → pN D tI tZ tA tJ av ws H.size B av.toArray U := fun U hU hW => ⟨rfl, hT.warm hW, ho.moved hW.alike, hB, by rw [hU], by rw [hU]; exact hP, hD.weaken (fun _ _ _ _ => trivial)⟩
