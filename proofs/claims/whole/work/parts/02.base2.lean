/-! The base, second half: what comes behind a call; leaving by an exception; a catch; throw new E(text); worlds side by side; pools of rows. -/
def ob_T (p : Program) (l : Launch) (e : Env) (R : Room) (s : State) (m : MethodId) (args : Array Value) (below : List Frame) (meth : Method) (c : Code) (H : Heap) (locs : List Loc) (cells slots : Nat) (Q : State → Prop) (g : JFrame) (x : Addr) : Prop :=
  ∀ T : State, T.heap = H → Stand p l e R s m args below meth c T locs cells slots → ∃ t, Steps p.tables e below ((T.setTop g).pushFrame (.throwing x)) t ∧ Q t
/-- a method that reads alone -/
def ob_qR (v : Option Value) : Array Value → State → Outcome → State → Prop := fun _ st o t => o = .returned v ∧ t.heap = st.heap
/-- a method that leaves the world ws -/
def ob_qW (D : va_G) (cl : List vw_C) (v : Option Value) (ws : va_W) (A : Nat → Prop) : Array Value → State → Outcome → State → Prop := fun _ st o t => o = .returned v ∧ va_P D cl ws t.heap ∧ va_D A ws ∧ va_F A st t
/-- the object at x is a new one of the class E -/
def ob_ex (E : String) (x : Addr) (U : State) (H : Heap) : Prop := ∃ cell : Cell, H[x]? = some cell ∧ cell.vm = .none ∧ U.vm.findClass E = some cell.cls
/-- a method that throws a new E, and leaves the world ws -/
def ob_qT (D : va_G) (cl : List vw_C) (E : String) (ws : va_W) (A : Nat → Prop) : Array Value → State → Outcome → State → Prop := fun _ st o t => ∃ x, o = .threw x ∧ ob_ex E x st t.heap ∧ va_P D cl ws t.heap ∧ va_D A ws ∧ va_F A st t
theorem ob_ex.moved {E : String} {x : Addr} {u U : State} {H : Heap} (h : ob_ex E x u H) (hv : u.vm.Alike U.vm) : ob_ex E x U H := by
  obtain ⟨cell, h1, h2, h3⟩ := h
  exact ⟨cell, h1, h2, by rw [hv.findClass]; exact h3⟩
/-- worlds side by side, behind a call that had the second -/
theorem ob_join {A : Nat → Prop} {D : va_G} {cl : List vw_C} {X M M' : va_W} {H H1 : Heap} (hP : va_P D cl (X ++ M) H) (hD : va_D A (X ++ M)) (hk : ∀ q : Nat, q < H.size → ¬ va_A M H.size q → H1[q]? = H[q]?) (hF : ∀ q, va_A M H.size q → A q) (hP1 : va_P D cl M' H1) (hD1 : va_D (va_A M H.size) M') : va_P D cl (X ++ M') H1 ∧ va_D A (X ++ M') := by
  have left : ∀ (k : Nat) (q : Nat × va_E), X[k]? = some q → (X ++ M)[k]? = some q := fun k q hq => by
    rw [List.getElem?_append_left (List.getElem?_eq_some_iff.mp hq).1]; exact hq
  have right : ∀ (k : Nat) (q : Nat × va_E), M[k]? = some q → (X ++ M)[X.length + k]? = some q := fun k q hq => by
    rw [List.getElem?_append_right (Nat.le_add_right _ _), Nat.add_sub_cancel_left]; exact hq
  have apart : ∀ (k : Nat) (q : Nat × va_E), X[k]? = some q → q.1 < H.size ∧ ¬ va_A M H.size q.1 := by
    intro k q hq
    have hl := (hP k q (left k q hq)).lt
    refine ⟨hl, fun h => ?_⟩
    rcases h with ⟨k2, e, h⟩ | h
    · have := hD.1 k (X.length + k2) q (q.1, e) (left k q hq) (right k2 _ h) rfl
      have := (List.getElem?_eq_some_iff.mp hq).1
      omega
    · omega
  have hDX : va_D A X := ⟨fun i j x y hi hj h => hD.1 i j x y (left i x hi) (left j y hj) h, fun k q hq => hD.2 k q (left k q hq)⟩
  refine ⟨va_P.app (fun k q hq => ?_) hP1, va_D.app hDX (hD1.weaken (fun k q _ h => hF q.1 h)) (fun i j x y hx hy hxy => ?_)⟩
  · obtain ⟨g1, g2⟩ := apart k q hq
    exact (hP k q (left k q hq)).kept (hk q.1 g1 g2)
  · exact (apart i x hx).2 (by rw [hxy]; exact hD1.2 j y hy)
theorem ob_Pr {D : va_G} {cl : List vw_C} {X M : va_W} {H : Heap} (hP : va_P D cl (X ++ M) H) : va_P D cl M H := fun k q hq => hP (X.length + k) q (by rw [List.getElem?_append_right (Nat.le_add_right _ _), Nat.add_sub_cancel_left]; exact hq)
theorem ob_Pl {D : va_G} {cl : List vw_C} {X M : va_W} {H : Heap} (hP : va_P D cl (X ++ M) H) : va_P D cl X H := fun k q hq => hP k q (by rw [List.getElem?_append_left (List.getElem?_eq_some_iff.mp hq).1]; exact hq)
theorem ob_Dr {A : Nat → Prop} {X M : va_W} (hD : va_D A (X ++ M)) : va_D A M :=
  ⟨fun i j x y hi hj h => by
    have := hD.1 (X.length + i) (X.length + j) x y (by rw [List.getElem?_append_right (Nat.le_add_right _ _), Nat.add_sub_cancel_left]; exact hi) (by rw [List.getElem?_append_right (Nat.le_add_right _ _), Nat.add_sub_cancel_left]; exact hj) h
    omega, fun k q hq => hD.2 (X.length + k) q (by rw [List.getElem?_append_right (Nat.le_add_right _ _), Nat.add_sub_cancel_left]; exact hq)⟩
theorem ob_Fr_in {A : Nat → Prop} {X M : va_W} {H0 H : Heap} {locs : List Loc} (hD : va_D A (X ++ M)) (hS : va_S A H0 H locs) (hA : ∀ q, H0.size ≤ q → A q) : ∀ q, va_A M H.size q → A q := by
  intro q h
  rcases h with ⟨k, e, h⟩ | h
  · exact (ob_Dr hD).2 k (q, e) h
  · exact hA q (Nat.le_trans hS.1 h)
section OB5
variable {p : Program} {l : Launch} {e : Env} {R : Room} {s : State} {m : MethodId} {args : Array Value} {below : List Frame} {meth : Method} {c : Code} {H : Heap} {locs : List Loc} {cells slots : Nat} {Q : State → Prop}
variable {pc : Nat} {ls : Array Slot} {rest st0 : List Value} {a : Array Value} {mc ms : Nat} {free : Addr → Prop} {D : va_G} {cl : List vw_C} {A : Nat → Prop} {H0 : Heap} {X M M' : va_W}
theorem ob_callR {v : Option Value} (hr : ob_Run p l e R s m args below meth c H locs cells slots 0 0 (F0 m pc ls st0) rest (ob_qR v a) (fun _ => False))
    (kk : W p l e R s m args below meth c H locs cells slots Q (F0 m (pc + 3) ls (v.toList ++ rest))) : W p l e R s m args below meth c H locs cells slots Q (F0 m pc ls st0) := by
  intro T hT X
  obtain ⟨o, st₀, t, T', L, h0, hal, X', hL, e1, e2, ⟨ho, hh⟩, hret, -⟩ := hr T hT X
  have hLn : L = [] := by
    cases L with
    | nil => rfl
    | cons q r => exact absurd (hL q List.mem_cons_self) id
  subst hLn
  rw [List.append_nil] at X'
  obtain ⟨t2, a1, b1⟩ := kk T' (e1.trans (hh.trans h0)) X'
  exact ⟨t2, hret v ho t2 a1, b1⟩
theorem ob_callW {v : Option Value} (hr : ob_Run p l e R s m args below meth c H locs cells slots mc ms (F0 m pc ls st0) rest (ob_qW D cl v M' (va_A M H.size) a) (va_A M H.size)) (hP : va_P D cl (X ++ M) H) (hD : va_D A (X ++ M)) (hS : va_S A H0 H locs) (hA : ∀ q, H0.size ≤ q → A q)
    (kk : ∀ (H1 : Heap) (locs1 : List Loc), va_P D cl (X ++ M') H1 → va_D A (X ++ M') → va_S A H0 H1 locs1 → W p l e R s m args below meth c H1 locs1 (cells + mc) (slots + ms) Q (F0 m (pc + 3) ls (v.toList ++ rest))) : W p l e R s m args below meth c H locs cells slots Q (F0 m pc ls st0) := by
  intro T hT Xs
  obtain ⟨o, st₀, t, T', L, h0, hal, X', hL, e1, e2, ⟨ho, hP1, hD1, hz, hk⟩, hret, -⟩ := hr T hT Xs
  rw [h0] at hz hk
  have hF := ob_Fr_in hD hS hA
  obtain ⟨hP2, hD2⟩ := ob_join hP hD (H1 := t.heap) hk hF hP1 hD1
  obtain ⟨t2, a1, b1⟩ := kk t.heap (locs ++ L) hP2 hD2 ⟨Nat.le_trans hS.1 hz, fun q h1 h2 => by rw [hk q (Nat.lt_of_lt_of_le h1 hS.1) (fun z => h2 (hF q z))]; exact hS.2.1 q h1 h2, fun q hq => by
      rcases List.mem_append.mp hq with h | h
      · exact hS.2.2 q h
      · exact hF _ (hL q h)⟩ T' e1 X'
  exact ⟨t2, hret v ho t2 a1, b1⟩
theorem ob_callT {E : String} (hr : ob_Run p l e R s m args below meth c H locs cells slots mc ms (F0 m pc ls st0) rest (ob_qT D cl E M' (va_A M H.size) a) (va_A M H.size)) (hP : va_P D cl (X ++ M) H) (hD : va_D A (X ++ M)) (hS : va_S A H0 H locs) (hA : ∀ q, H0.size ≤ q → A q)
    (kk : ∀ (x : Addr) (H1 : Heap) (locs1 : List Loc), ob_ex E x s H1 → va_P D cl (X ++ M') H1 → va_D A (X ++ M') → va_S A H0 H1 locs1 → ob_T p l e R s m args below meth c H1 locs1 (cells + mc) (slots + ms) Q (F0 m pc ls rest) x) : W p l e R s m args below meth c H locs cells slots Q (F0 m pc ls st0) := by
  intro T hT Xs
  obtain ⟨o, st₀, t, T', L, h0, hal, X', hL, e1, e2, ⟨x, ho, ⟨cell, hx1, hx2, hx3⟩, hP1, hD1, hz, hk⟩, -, hthr⟩ := hr T hT Xs
  rw [h0] at hz hk
  have hF := ob_Fr_in hD hS hA
  obtain ⟨hP2, hD2⟩ := ob_join hP hD (H1 := t.heap) hk hF hP1 hD1
  obtain ⟨t2, a1, b1⟩ := kk x t.heap (locs ++ L) ⟨cell, hx1, hx2, by rw [← hal.findClass]; exact hx3⟩ hP2 hD2 ⟨Nat.le_trans hS.1 hz, fun q h1 h2 => by rw [hk q (Nat.lt_of_lt_of_le h1 hS.1) (fun z => h2 (hF q z))]; exact hS.2.1 q h1 h2, fun q hq => by
      rcases List.mem_append.mp hq with h | h
      · exact hS.2.2 q h
      · exact hF _ (hL q h)⟩ T' e1 X'
  exact ⟨t2, hthr x ho t2 a1, b1⟩
/-- out of the method by the exception -/
theorem ob_leave {Qc : Array Value → State → Outcome → State → Prop} {x : Addr} (hlocks : meth.locks = false) (hout : ∀ y ∈ c.exceptionTable.toList, covers y pc = false) (hq : ∀ t : State, t.heap = H → s.WarmedH t.vm → Qc args s (.threw x) t) (hf : ∀ q ∈ locs, free q.base) :
    ob_T p l e R s m args below meth c H locs cells slots (ob_Q below Qc args s cells slots free) (F0 m pc ls rest) x := by
  intro T hT X
  obtain ⟨h1, h2, h3, h4, h5⟩ := X.leaveThrown x (g := F0 m pc ls rest) rfl rfl rfl hout hlocks
  exact ⟨_, h1, .threw x, h2, h3, hq _ hT h4, locs, ⟨h4, h5⟩, hf⟩
/-- into a handler of the method's own -/
theorem ob_caught {x : Addr} {tgt : Nat} (hfind : ∀ T : State, T.heap = H → Stand p l e R s m args below meth c T locs cells slots → Finds e ((T.setTop (F0 m pc ls rest)).pushFrame (.throwing x)) (F0 m pc ls rest) x (.found tgt))
    (kk : W p l e R s m args below meth c H locs cells slots Q (F0 m tgt ls [.ref x])) : ob_T p l e R s m args below meth c H locs cells slots Q (F0 m pc ls rest) x := by
  intro T hT X
  obtain ⟨t, a1, b1⟩ := kk T hT X
  exact ⟨t, X.catchAt x rfl (hfind T hT X) a1, b1⟩
theorem ob_iret {cc : ByteArray} {Qc : Array Value → State → Outcome → State → Prop} {v : Int32} (hlocks : meth.locks = false) (hexec : p.tables.exec = Jvm.exec) (hb : c.code = cc) (hr : meth.sig.returnType = some .int)
    (hdg : decode cc pc = .ok (.ireturn, 1)) (hf : ∀ q ∈ locs, free q.base) (hq : ∀ t : State, t.heap = H → s.WarmedH t.vm → Qc args s (.returned (some (.int v))) t) : W p l e R s m args below meth c H locs cells slots (ob_Q below Qc args s cells slots free) (F0 m pc ls [.int v]) :=
  ob_mono ob_of_MQ (W.iret hexec hb hr hq hf hdg hlocks)
theorem ob_zret {cc : ByteArray} {Qc : Array Value → State → Outcome → State → Prop} {v : Int32} (hlocks : meth.locks = false) (hexec : p.tables.exec = Jvm.exec) (hb : c.code = cc) (hr : meth.sig.returnType = some .boolean)
    (hdg : decode cc pc = .ok (.ireturn, 1)) (hn : narrow .boolean (.int v) = .int v) (hf : ∀ q ∈ locs, free q.base) (hq : ∀ t : State, t.heap = H → s.WarmedH t.vm → Qc args s (.returned (some (.int v))) t) : W p l e R s m args below meth c H locs cells slots (ob_Q below Qc args s cells slots free) (F0 m pc ls [.int v]) :=
  ob_mono ob_of_MQ (W.zret hexec hb hr hn hq hf hdg hlocks)
theorem ob_vret {cc : ByteArray} {Qc : Array Value → State → Outcome → State → Prop} (hlocks : meth.locks = false) (hexec : p.tables.exec = Jvm.exec) (hb : c.code = cc) (hr : meth.sig.returnType = none)
    (hdg : decode cc pc = .ok (.return_, 1)) (hf : ∀ q ∈ locs, free q.base) (hq : ∀ t : State, t.heap = H → s.WarmedH t.vm → Qc args s (.returned none) t) : W p l e R s m args below meth c H locs cells slots (ob_Q below Qc args s cells slots free) (F0 m pc ls []) :=
  ob_mono ob_of_MQ (W.vret hexec hb hr hq hf hdg hlocks)
/-- nothing that was there has changed, where no slot is named -/
theorem ob_old {st t : State} {k n : Nat} (h : st.sameButNew ({ t with vm := st.vm } : State) [] k n) : st.heap.size ≤ t.heap.size ∧ ∀ q : Nat, q < st.heap.size → t.heap[q]? = st.heap[q]? := by
  obtain ⟨-, h1, -, -, -, h2⟩ := h
  refine ⟨h1, fun q hq => ?_⟩
  have h3 : st.heap[q]? = some st.heap[q] := Array.getElem?_eq_getElem hq
  obtain ⟨c', g1, g2, -, g3⟩ := h2 q _ h3
  have g4 : c'.slots = (st.heap[q]).slots := Array.ext_getElem? fun i => g3 i (by simp)
  rw [g4] at g2
  have g5 : t.heap[q]? = some c' := g1
  rw [g5, h3, g2]
/-- throw new E(text), whole: new, dup, ldc, invokespecial, athrow; nothing was written before -/
theorem ob_throwNew {cc : ByteArray} {Qc : Array Value → State → Outcome → State → Prop} {own E tx : String} {names : List String} {ic ie it q : Nat} (hlocks : meth.locks = false) (hexec : p.tables.exec = Jvm.exec) (hb : c.code = cc) (hml : c.maxLocals = ls.size) (htr : e.platform.stackTraces = false) (hown : s.vm.findClass own = some m.cls)
    (hcls : Bundle.fit E = true) (hnames : ∀ n ∈ names, Bundle.fit n = true) (h : ∀ w ∈ Bundle.ownAtoms own ic E names, w.before args s = true) (hcl : (Cond.classLink own ie E).before args s = true) (hins : (Cond.instantiable E 6).before args s = true) (hini : (Cond.initialized E).before args s = true) (hZ : vk_R own it tx q s)
    (hd0 : decode cc pc = .ok (.new ie, 3)) (hd3 : decode cc (pc + 3) = .ok (.dup, 1)) (hd4 : decode cc (pc + 4) = .ok (.ldc it, 2)) (hd6 : decode cc (pc + 6) = .ok (.invokespecial ic, 3)) (hd9 : decode cc (pc + 9) = .ok (.athrow, 1)) (hout : ∀ y ∈ c.exceptionTable.toList, covers y (pc + 9) = false)
    (hRc : cells + 1 ≤ R.cells) (hRs : slots + 6 ≤ R.slots) (hRf : names.length + 3 < R.frames) (hRl : (rest.map fun v => v.category).sum + (13 * (names.length + 1) + 43) ≤ R.locals)
    (hq : ∀ (x : Addr) (t : State), ob_ex E x s t.heap → s.heap.size ≤ t.heap.size → (∀ q : Nat, q < s.heap.size → t.heap[q]? = s.heap[q]?) → s.WarmedH t.vm → Qc args s (.threw x) t) :
    W p l e R s m args below meth c s.heap [] cells slots (ob_Q below Qc args s (cells + 1) (slots + 6) free) (F0 m pc ls rest) := by
  refine W.newc hexec hb hown hcl hins hini rfl hd0 hRc hRs fun cC kC h1 h2 h3 h4 => ?_
  refine lv_dup hexec hb hd3 rfl ?_
  refine va_ldcS hexec hb hown hZ hd4 ?_
  intro T hT X
  subst hb
  have hx : T.heap[s.heap.size]? = some (freshCell cC kC) := by rw [hT]; simp
  obtain ⟨U, g1, g2, g3, g4, g5, ce, g6, g7⟩ := X.ctorThrowS hexec htr hown hcls hnames h (fun x hx => by cases hx) h1 h2 (a := s.heap.size) hx (Nat.le_refl _) (msg := .ref q) rfl (g := F0 m (pc + 6) ls (.ref q :: .ref s.heap.size :: .ref s.heap.size :: rest)) rfl hml.symm rfl rfl (rest := rest) rfl hd6 hd9 hout hRf (by
    show 2 * 0 + ((Value.ref s.heap.size :: rest).map fun v => v.category).sum + _ ≤ _
    have hcat : (Value.ref s.heap.size).category = 1 := rfl
    simp only [List.map_cons, List.sum_cons, hcat]
    omega) hlocks
  obtain ⟨o1, o2⟩ := ob_old g5
  exact ⟨U, g1, .threw s.heap.size, g2, g3, hq _ U ⟨ce, g6, g7.vm, g7.cls⟩ o1 o2 g4, [], ⟨g4, g5⟩, fun x hx => by cases hx⟩
/-- a row of an array of arrays -/
theorem ob_aald {cc : ByteArray} {tys : List (ClassId × FieldType)} {ws : va_W} {b : Nat} (hexec : p.tables.exec = Jvm.exec) (hb : c.code = cc) (hK : va_K D cl tys s) (hP : va_P D cl ws H) (q0 t0 : Nat) {cA : ClassId} {n : Nat} {f : Nat → Option Nat} {ty : FieldType} (ha : ws[q0]? = some (b, .inl (cA, n, .inr (.inr (.inr (.inr f)))))) (ht : tys[t0]? = some (cA, .array ty)) {i : Int32} (hin : vp_in i n) (hdg : decode cc pc = .ok (.aaload, 1))
    (kk : W p l e R s m args below meth c H locs cells slots Q (F0 m (pc + 1) ls (va_rf (f i.toNatClampNeg) :: rest))) : W p l e R s m args below meth c H locs cells slots Q (F0 m pc ls (.int i :: .ref b :: rest)) := by
  have hlt : i.toNatClampNeg < n := Nat.not_le.mp fun q => hin (Or.inr q)
  exact W.aald (v := va_rf (f i.toNatClampNeg)) (ty := .array ty) hexec hb (hP q0 _ ha) ((hK.2 t0 _ ht).1 n (fun j => va_rf (f j))) rfl (fun q => by cases q) (by show ¬ (i < 0 ∨ (arrV _ _ _).slots.size ≤ _); rw [arrV_size]; exact hin) (by show (arrV _ _ _).slots[_]? = _; rw [arrV_read _ _ hlt]) rfl rfl hdg kk
end OB5
/-! pools: rows at the addresses b (o + i), i < n -/
def pl_rows (b : Nat → Nat) (o n k : Nat) (cI : ClassId) (r : Nat → Nat → Int32) : va_W := (List.range n).map fun i => (b (o + i), .inl (cI, k, .inl (r i)))
theorem pl_len {b : Nat → Nat} {o n k : Nat} {cI : ClassId} {r : Nat → Nat → Int32} : (pl_rows b o n k cI r).length = n := by simp [pl_rows]
theorem pl_get {b : Nat → Nat} {o n k : Nat} {cI : ClassId} {r : Nat → Nat → Int32} {X Y : va_W} {i j : Nat} (hi : i < n) (hj : j = X.length + i) : (X ++ (pl_rows b o n k cI r ++ Y))[j]? = some (b (o + i), .inl (cI, k, .inl (r i))) := by
  subst hj
  rw [List.getElem?_append_right (Nat.le_add_right _ _), Nat.add_sub_cancel_left, List.getElem?_append_left (by rw [pl_len]; exact hi)]
  simp [pl_rows, hi]
def up2 (r : Nat → Nat → Int32) (i : Nat) (f : Nat → Int32) : Nat → Nat → Int32 := fun j => if j = i then f else r j
theorem pl_set {b : Nat → Nat} {o n k : Nat} {cI : ClassId} {r : Nat → Nat → Int32} {X Y : va_W} {i j : Nat} {f : Nat → Int32} (hi : i < n) (hj : j = X.length + i) : (X ++ (pl_rows b o n k cI r ++ Y)).set j (b (o + i), .inl (cI, k, .inl f)) = X ++ (pl_rows b o n k cI (up2 r i f) ++ Y) := by
  subst hj
  rw [List.set_append_right _ _ (Nat.le_add_right _ _), Nat.add_sub_cancel_left, List.set_append_left _ _ (by rw [pl_len]; exact hi)]
  congr 2
  apply List.ext_getElem?
  intro z
  rw [List.getElem?_set]
  by_cases hz : i = z
  · subst hz
    simp [pl_rows, up2, hi]
  · rw [if_neg hz]
    by_cases hzn : z < n
    · simp [pl_rows, up2, hzn, Ne.symm hz]
    · simp [pl_rows, hzn]
