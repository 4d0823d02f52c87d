/-! throw new E(text): the constructor's chain, whatever the entry of its first link; and how the two statics of Throwable are carried. -/
/-- what a throw asks of the tables of the class thrown -/
def th_own (own : String) (ic : Nat) (X : String) (bytes : ByteArray) : List Cond :=
  [.methodLink own ic (Bundle.initS X), .instanceMethod (Bundle.initS X), .code (Bundle.initS X) bytes 2 none, .instantiable X 6, .selects X Bundle.tFill0 Bundle.tFill0, .selects X Bundle.tFill Bundle.tFill,
   .lays X Bundle.tN "cause" "Ljava/lang/Throwable;", .lays X Bundle.tN "stackTrace" Bundle.steD, .lays X Bundle.tN "suppressedExceptions" Bundle.listD, .lays X Bundle.tN "detailMessage" "Ljava/lang/String;",
   .fieldLink Bundle.tN 198 Bundle.tN "backtrace" "Ljava/lang/Object;", .lays Bundle.tN Bundle.tN "backtrace" "Ljava/lang/Object;", .lays X Bundle.tN "backtrace" "Ljava/lang/Object;"]
def th_st : List Cond := [.isRef (.static Bundle.tN "UNASSIGNED_STACK" Bundle.steD), .isRef (.static Bundle.tN "SUPPRESSED_SENTINEL" Bundle.listD)]
def th_ch (e : Env) (s : State) (X : String) (k : Nat) : Prop := ∀ top, s.methodNamed? (Bundle.initS Bundle.tN) = some top → ∃ (P1 : PassC) (Ps : List PassC), Ps.length = k ∧ P1.LinksS e.platform s ∧ (∀ P, P ∈ Ps → P.LinksS e.platform s) ∧ s.methodNamed? (Bundle.initS X) = some P1.m ∧
        P1.sup = firstOf top (Ps.map (·.toPassT)) ∧ PassesOn top (Ps.map (·.toPassT))
section TH
variable {p : Program} {l : Launch} {e : Env} {R : Room} {s : State} {m : MethodId} {args : Array Value} {below : List Frame} {meth : Method} {c : Code} {V : State} {locs : List Loc} {cells slots : Nat}
set_option maxHeartbeats 2000000 in
theorem th_ctor (X : Stand p l e R s m args below meth c V locs cells slots) (hexec : p.tables.exec = Jvm.exec) (htr : e.platform.stackTraces = false) {own cls : String} {k ic : Nat} {bytes : ByteArray}
    (hown : s.vm.findClass own = some m.cls) (hcls : Bundle.fit cls = true) (h1 : ∀ w ∈ Bundle.throwableAtoms, w.before args s = true) (h2 : ∀ w ∈ Bundle.throwableSAtoms, w.before args s = true) (h3 : ∀ w ∈ th_own own ic cls bytes, w.before args s = true) (h4 : ∀ w ∈ th_st, w.before args s = true) (hch : th_ch e s cls k)
    (hlocs : ∀ x ∈ locs, ∀ cell, s.heap[x.base]? = some cell → cell.vm.isStatics = false)
    {a : Addr} {cX : ClassId} {kX : Class} (hfoundX : s.vm.findClass cls = some cX) (hkX : s.vm.classes[cX]? = some kX) (hcell : V.heap[a]? = some (freshCell cX kX)) (hnew : s.heap.size ≤ a)
    {msg : Value} (hmsg : msg.isRef = true)
    {g : JFrame} (hg : g.method = m) (hsize : g.locals.size = c.maxLocals) (hlocked : g.locked = none) (hentered : g.entered = []) {rest : List Value} (hstack : g.stack = msg :: .ref a :: .ref a :: rest)
    (hd6 : decode c.code g.pc = .ok (.invokespecial ic, 3)) (hd9 : decode c.code (g.pc + 3) = .ok (.athrow, 1)) (hout : ∀ x ∈ c.exceptionTable.toList, covers x (g.pc + 3) = false)
    (hRf : k + 3 < R.frames) (hRl : 2 * g.monitorRoom + ((Value.ref a :: rest).map fun v => v.category).sum + (13 * (k + 1) + 42) ≤ R.locals) (hlocks : meth.locks = false) :
    ∃ U : State, Steps p.tables e below (V.setTop g) U ∧ U.status = .running ∧ Ended U below (.threw a) ∧ s.WarmedH U.vm ∧ s.sameButNew ({ U with vm := s.vm } : State) locs cells slots ∧
      (∀ q : Nat, q ≠ a → U.heap[q]? = V.heap[q]?) ∧ U.heap.size = V.heap.size ∧ ∃ ce, U.heap[a]? = some ce ∧ ce.vm = .none ∧ s.vm.findClass cls = some ce.cls := by
  have howns : e.platform.frameOwnsMonitors = true := by rw [X.admits.platform]
  have hfin : e.platform.finalization = false := by rw [X.admits.platform]
  have hpl : e.platform.magicAccessors = ({} : Platform).magicAccessors := by rw [X.admits.platform]
  have hw : ∀ w, w ∈ th_own own ic cls bytes → w.holds args s none s [] = true := fun w hq => h3 w hq
  have hz : ∀ w, w ∈ th_st → w.holds args s none s [] = true := fun w hq => h4 w hq
  obtain ⟨T, Z0, L, -, Y⟩ := ThrowableC.of_atoms (args := args) howns hfin hpl h1
  obtain ⟨Z, M, LZ, LM, hnZ⟩ := Init0T.ofS_atoms (args := args) hpl L Y h2
  obtain ⟨P1, Ps, hlen, L1, hL, hP1m, hlink1, hlink⟩ := hch _ hnZ
  have hfound : s.vm.findClass cls = some P1.m.cls := findClass_of_methodNamed hP1m
  cases hfoundX.symm.trans hfound
  obtain ⟨c1, kX', hc1, hk, hord, -, -, -⟩ := Cond.instantiable_spec (hw (.instantiable cls 6) (by simp [th_own]))
  cases hc1.symm.trans hfound
  cases hkX.symm.trans hk
  have sel : ∀ (y : MethodName) (f : MethodId), s.methodNamed? y = some f → (y.cls ≠ "java/lang/invoke/MethodHandle" ∧ y.cls ≠ "java/lang/invoke/VarHandle") → (Cond.selects cls y y).holds args s none s [] = true → selectMethod e.platform s.vm P1.m.cls f = .method f := by
    intro y f hf hy hs
    obtain ⟨c2, r2, m2, q1, q2, q3, q4, -⟩ := Cond.selects_spec hs
    cases q1.symm.trans hfound
    cases q2.symm.trans (State.methodFound?_of_named hf hy)
    cases q3.symm.trans hf
    rw [Launch.admits_selectMethod X.admits]; exact q4
  have hsel0 := sel Bundle.tFill0 T.fill0 Y.fill0 (by decide) (hw _ (by simp [th_own]))
  have hselF := sel Bundle.tFill T.fill Y.fill (by decide) (hw _ (by simp [th_own]))
  obtain ⟨cellS0, hcS0, hiss⟩ := Y.statics
  obtain ⟨u0, hu0⟩ := Cond.staticRefV Y.unassigned L.unassignedStatic L.statics hcS0 hiss (hz (.isRef (.static Bundle.tN "UNASSIGNED_STACK" Bundle.steD)) (by simp [th_st]))
  obtain ⟨sen, hsen⟩ := Cond.staticRefV Y.sentinel L.sentinelStatic L.statics hcS0 hiss (hz (.isRef (.static Bundle.tN "SUPPRESSED_SENTINEL" Bundle.listD)) (by simp [th_st]))
  obtain ⟨ci198, i198, fB, hk198, hg198, ha198, hsB, -, hnB, htB, hffB⟩ := Cond.ownField (t := .object "java/lang/Object") Y.found L.cls (by decide +kernel) (hw (.fieldLink Bundle.tN 198 Bundle.tN "backtrace" "Ljava/lang/Object;") (by simp [th_own])) (hw (.lays Bundle.tN Bundle.tN "backtrace" "Ljava/lang/Object;") (by simp [th_own])) e.platform hpl
  obtain ⟨cellS, hcellS, heS, -, hkeep⟩ := X.same.2.2.2.2.2 T.aS cellS0 hcS0
  have hcellS : V.heap[T.aS]? = some cellS := hcellS
  have hout' : ∀ i, (⟨T.aS, i⟩ : Loc) ∉ locs := fun i hmem => by
    have := hlocs _ hmem cellS0 hcS0
    rw [hiss] at this; cases this
  have hknownS : cellS.vm ≠ .unknown := by
    rw [heS]; intro hu
    rw [show cellS0.vm = .unknown from hu] at hiss
    cases hiss
  have hneS : T.aS ≠ a := Nat.ne_of_lt (Nat.lt_of_lt_of_le (Array.getElem?_eq_some_iff.mp hcS0).1 hnew)
  obtain ⟨iM, hffM⟩ := Y.msg
  obtain ⟨tyC, dC, hdC, hdnC⟩ := Cond.laysAt hfound hk Y.cause (hw (.lays cls Bundle.tN "cause" "Ljava/lang/Throwable;") (by simp [th_own]))
  obtain ⟨tyS, dS, hdS, hdnS⟩ := Cond.laysAt hfound hk Y.stack (hw (.lays cls Bundle.tN "stackTrace" Bundle.steD) (by simp [th_own]))
  obtain ⟨tyP, dP, hdP, hdnP⟩ := Cond.laysAt hfound hk Y.supp (hw (.lays cls Bundle.tN "suppressedExceptions" Bundle.listD) (by simp [th_own]))
  obtain ⟨tyM, dM, hdM, hdnM⟩ := Cond.laysAt hfound hk hffM (hw (.lays cls Bundle.tN "detailMessage" "Ljava/lang/String;") (by simp [th_own]))
  obtain ⟨tyB, dB, hdB, hdnB⟩ := Cond.laysAt hfound hk hffB (hw (.lays cls Bundle.tN "backtrace" "Ljava/lang/Object;") (by simp [th_own]))
  have bC := Cond.laysApart hdB hdC hdnB hdnC (by rw [hnB, Y.causeName]; decide)
  have bS := Cond.laysApart hdB hdS hdnB hdnS (by rw [hnB, Y.stackName]; decide)
  have bP := Cond.laysApart hdB hdP hdnB hdnP (by rw [hnB, Y.suppName]; decide)
  have hskip : SkipFacts T e.platform s (fun u => u) u0 ((preparedCellV T.toThrowableT (freshCell P1.m.cls kX) a u0 sen).withEntry V.cur) :=
    ⟨{ ci198 := ci198, i198 := i198, fBack := fB }, ⟨hk198, hg198, ha198, hsB⟩, by
      have := fresh_default (c := P1.m.cls) tyB
      rw [htB] at this
      simpa [preparedCellV, Cell.setSlot, Cell.withEntry, Array.getElem?_setIfInBounds, bC, bS, bP, bC.symm, bS.symm, bP.symm, defaultValue] using this, fun _ _ => rfl⟩
  obtain ⟨tm, methC, cdC, kC, vm₁, hnC, -, -, -, -, -, -, -, hW₁, st1⟩ := Steps.initColdS (tb := p.tables) (e := e) (below := below) (s := s) (U := V) X.here hexec X.warmed hpl hown (t := Bundle.initS cls) rfl rfl (Bundle.fit_spec hcls).2
    (hw (.methodLink own ic (Bundle.initS cls)) (by simp [th_own])) (h3 (.instanceMethod (Bundle.initS cls)) (by simp [th_own])) (bytes := bytes) (maxL := 2) (h3 (.code (Bundle.initS cls) bytes 2 none) (by simp [th_own]))
    (f := g) hg (a := a) (msg := msg) (rest := .ref a :: rest) hstack hd6
  cases hnC.symm.trans hP1m
  have X₁ := X.noted hW₁
  obtain ⟨vm₂, X₂, st2⟩ := X₁.ctorMessageOffV hexec (g := { g with stack := .ref a :: rest }) hg hsize T L Z LZ M LM (P1 :: Ps)
    (fun P hP => by rcases List.mem_cons.mp hP with rfl | hP; exact L1; exact hL P hP) ⟨hlink1, hlink⟩ (u0 := u0) (sen := sen) (self := a) hmsg (cell := freshCell P1.m.cls kX) (cellS := cellS)
    hcell (fun _ => by simp) (by simp) rfl rfl hsel0 hselF hcellS hneS hknownS (by rw [hkeep _ (hout' _)]; exact hu0) (by rw [hkeep _ (hout' _)]; exact hsen)
    (Takes.of_laid hk hord tyC (by rw [Y.causeType]; rfl)) (Takes.of_laid hk hord tyS (by rw [Y.stackType]; exact fits_refV_array _ u0)) (Takes.of_laid hk hord tyP (by rw [Y.suppType]; exact fits_refV_object _ sen))
    (Takes.of_laid hk hord tyM (by rw [Y.msgType]; exact fits_refV_object _ ⟨msg, hmsg⟩)) Y.objLocals hskip htr [] hd6
    (by simp only [List.length_cons, hlen]; omega) (by simp only [List.length_cons, hlen]; exact hRl)
  obtain ⟨hwalk, hrun, hended, hWU, hsame⟩ := X₂.athrowLeaves hexec (g := { g with stack := .ref a :: rest, pc := g.pc + 3 }) hg hlocked hentered hout (a := a) (rest := rest) rfl hd9
  have hlt : a < ((V.setVm vm₁).setVm vm₂).heap.size := (Array.getElem?_eq_some_iff.mp hcell).1
  have hU := heapAt_setCell_self (s := (V.setVm vm₁).setVm vm₂) (plainBareV T.toThrowableT (freshCell P1.m.cls kX) a u0 sen msg) hlt
  refine ⟨_, st1 _ (fun acts => ?_), hrun, hended, hWU, hsame.weaken (fun y hy hlt' => ?_) (Nat.le_refl _) (Nat.le_refl _), (fun q hq => ?_), ?_, _, hU, rfl, hfound⟩
  · rw [doInvoke_state]
    exact st2 _ hwalk
  · rcases List.mem_append.mp hy with q1 | q1
    · exact q1
    · exfalso
      have hb : y.base = a := by
        simp only [List.mem_cons, List.not_mem_nil, or_false] at q1
        rcases q1 with rfl | rfl | rfl | rfl | rfl <;> rfl
      rw [hb] at hlt'
      exact Nat.not_lt.mpr hnew hlt'
  · show (V.heap.setIfInBounds a _)[q]? = V.heap[q]?
    rw [Array.getElem?_setIfInBounds_ne (Ne.symm hq)]
  · show (V.heap.setIfInBounds a _).size = V.heap.size
    simp
end TH

/-- a static of Throwable's: where it lies, and that it holds a reference or null -/
def zs_1 (n d : String) (U : State) (H : Heap) : Prop := ∃ (c : ClassId) (k : Class) (i : Nat) (f : Field) (a : Nat) (cell : Cell) (v : Value), U.vm.findClass Bundle.tN = some c ∧ U.fieldFound? Bundle.tN n d = some (c, k, i, f) ∧ f.isStatic = true ∧ k.statics = some a ∧ H[a]? = some cell ∧ cell.vm.isStatics = true ∧ cell.cls = c ∧ f.slot < cell.slots.size ∧ k.staticTypes[f.slot]? = some f.type ∧ cell.slots[f.slot]? = some v ∧ v.isRef = true
theorem zs_1.moved {n d : String} {u U : State} {H : Heap} (hvm : u.vm.Alike U.vm) (h : zs_1 n d u H) : zs_1 n d U H := by
  obtain ⟨c, k, i, f, a, cell, v, h1, h2, h3, h4, h5, h6, h7, h8, h9, h10⟩ := h
  obtain ⟨k', hi', he⟩ := State.fieldFound?_setVm hvm h2
  exact ⟨c, k', i, f, a, cell, v, by rw [hvm.findClass]; exact h1, hi', h3, by rw [he]; exact h4, h5, h6, h7, h8, by rw [he]; exact h9, h10⟩
theorem zs_1.kept {n d : String} {U : State} {H H1 : Heap} (h : zs_1 n d U H) (hq : ∀ (a : Nat) (cell : Cell), H[a]? = some cell → cell.vm.isStatics = true → H1[a]? = some cell) : zs_1 n d U H1 := by
  obtain ⟨c, k, i, f, a, cell, v, h1, h2, h3, h4, h5, h6, h7⟩ := h
  exact ⟨c, k, i, f, a, cell, v, h1, h2, h3, h4, hq a cell h5 h6, h6, h7⟩
theorem zs_1.lay {n d : String} {s : State} {args : Array Value} (h : zs_1 n d s s.heap) : (Cond.laysStatic Bundle.tN n d).before args s = true := by
  obtain ⟨c, k, i, f, a, cell, v, h1, h2, h3, h4, h5, h6, h7, h8, h9, -⟩ := h
  show (Cond.laysStatic Bundle.tN n d).holds args s none s [] = true
  exact Cond.laysStatic_of h1 h2 h3 h4 h5 h6 h7 h8 h9
theorem zs_1.ref {n d : String} {s : State} {args : Array Value} (h : zs_1 n d s s.heap) : (Cond.isRef (.static Bundle.tN n d)).before args s = true := by
  obtain ⟨c, k, i, f, a, cell, v, h1, h2, h3, h4, h5, h6, h7, h8, h9, h10, h11⟩ := h
  have he : (Term.static Bundle.tN n d).eval args s none [] s = some v := by
    simp [Term.eval, State.fieldNamed?, h2, h3, h4, h5, h6, h10]
  simp only [Cond.before, Cond.holds, Cond.value, he]
  cases v <;> simp_all [Value.isRef]
theorem zs_1.of {n d : String} {s : State} {args : Array Value} (hl : (Cond.laysStatic Bundle.tN n d).before args s = true) (hr : (Cond.isRef (.static Bundle.tN n d)).before args s = true) : zs_1 n d s s.heap := by
  obtain ⟨c, k, i, f, a, cell, h1, h2, h3, h4, h5, h6, h7, h8, h9⟩ := Cond.laysStatic_spec hl
  have h10 : cell.slots[f.slot]? = some cell.slots[f.slot] := Array.getElem?_eq_getElem h8
  refine ⟨c, k, i, f, a, cell, _, h1, h2, h3, h4, h5, h6, h7, h8, h9, h10, ?_⟩
  have he : (Term.static Bundle.tN n d).eval args s none [] s = some cell.slots[f.slot] := by
    simp [Term.eval, State.fieldNamed?, h2, h3, h4, h5, h6, h10]
  simp only [Cond.before, Cond.holds, Cond.value, he] at hr
  generalize cell.slots[f.slot] = v at hr
  cases v <;> simp_all [Value.isRef]
def ZS (U : State) (H : Heap) : Prop := zs_1 "UNASSIGNED_STACK" Bundle.steD U H ∧ zs_1 "SUPPRESSED_SENTINEL" Bundle.listD U H
theorem ZS.moved {u U : State} {H : Heap} (hvm : u.vm.Alike U.vm) (h : ZS u H) : ZS U H := ⟨h.1.moved hvm, h.2.moved hvm⟩
theorem ZS.kept {U : State} {H H1 : Heap} (h : ZS U H) (hq : ∀ (a : Nat) (cell : Cell), H[a]? = some cell → cell.vm.isStatics = true → H1[a]? = some cell) : ZS U H1 := ⟨h.1.kept hq, h.2.kept hq⟩
/-- no cell of a world is a class's statics -/
theorem va_P.plain {D : va_G} {cl : List vw_C} {ws : va_W} {H : Heap} (hP : va_P D cl ws H) {k : Nat} {q : Nat × va_E} (hk : ws[k]? = some q) {cell : Cell} (hc : H[q.1]? = some cell) : cell.vm.isStatics = false := by
  have h := hP k q hk
  obtain ⟨a, e⟩ := q
  cases e with
  | inl x =>
    have h1 : H[a]? = some (vp_cell x.1 x.2) := h
    cases hc.symm.trans h1
    obtain ⟨cA, n, v⟩ := x
    rcases v with f | f | f | f | f <;> rfl
  | inr o =>
    obtain ⟨r, h1, cell', g1, g2, g3, -⟩ := h
    cases hc.symm.trans g1
    rw [g3]; rfl
theorem va_A.plain {D : va_G} {cl : List vw_C} {ws : va_W} {H : Heap} (hP : va_P D cl ws H) (a : Nat) (ha : va_A ws H.size a) (cell : Cell) (hc : H[a]? = some cell) : cell.vm.isStatics = false := by
  rcases ha with ⟨k, e, h⟩ | h
  · exact hP.plain h hc
  · exact absurd (Array.getElem?_eq_some_iff.mp hc).1 (by omega)
/-- .. so the statics stay behind what writes into the world alone -/
theorem ZS.past {D : va_G} {cl : List vw_C} {ws : va_W} {U : State} {H H1 : Heap} (h : ZS U H) (hP : va_P D cl ws H) (hk : ∀ q : Nat, q < H.size → ¬ va_A ws H.size q → H1[q]? = H[q]?) : ZS U H1 := by
  refine h.kept fun a cell hc hs => ?_
  rw [hk a (Array.getElem?_eq_some_iff.mp hc).1 (fun z => by rw [va_A.plain hP a z cell hc] at hs; cases hs)]
  exact hc
section TH2
variable {p : Program} {l : Launch} {e : Env} {R : Room} {s : State} {m : MethodId} {args : Array Value} {below : List Frame} {meth : Method} {c : Code} {H : Heap} {locs : List Loc} {cells slots : Nat} {free : Addr → Prop} {ls : Array Slot} {rest : List Value} {pc : Nat}
theorem th_throw {cc : ByteArray} {Qc : Array Value → State → Outcome → State → Prop} {own E tx : String} {k ic ie it q : Nat} {bytes : ByteArray} {A : Nat → Prop} (hlocks : meth.locks = false) (hexec : p.tables.exec = Jvm.exec) (hb : c.code = cc) (hml : c.maxLocals = ls.size) (htr : l.stackTraces = false) (hown : s.vm.findClass own = some m.cls)
    (hcls : Bundle.fit E = true) (h1 : ∀ w ∈ Bundle.throwableAtoms, w.before args s = true) (h2 : ∀ w ∈ Bundle.throwableSAtoms, w.before args s = true) (h3 : ∀ w ∈ th_own own ic E bytes, w.before args s = true) (h4 : ∀ w ∈ th_st, w.before args s = true) (hch : e.platform.magicAccessors = ({} : Platform).magicAccessors → th_ch e s E k)
    (hcl : (Cond.classLink own ie E).before args s = true) (hini : (Cond.initialized E).before args s = true) (hZ : vk_R own it tx q s)
    (hS : va_S A s.heap H locs) (hpl : ∀ a, A a → ∀ cell, s.heap[a]? = some cell → cell.vm.isStatics = false)
    (hd0 : decode cc pc = .ok (.new ie, 3)) (hd3 : decode cc (pc + 3) = .ok (.dup, 1)) (hd4 : decode cc (pc + 4) = .ok (.ldc it, 2)) (hd6 : decode cc (pc + 6) = .ok (.invokespecial ic, 3)) (hd9 : decode cc (pc + 9) = .ok (.athrow, 1)) (hout : ∀ y ∈ c.exceptionTable.toList, covers y (pc + 9) = false)
    (hRc : cells + 1 ≤ R.cells) (hRs : slots + 6 ≤ R.slots) (hRf : k + 3 < R.frames) (hRl : (rest.map fun v => v.category).sum + (13 * (k + 1) + 43) ≤ R.locals) (hf : ∀ x ∈ locs, free x.base)
    (hq : ∀ (x : Addr) (t : State), ob_ex E x s t.heap → H.size ≤ t.heap.size → (∀ q : Nat, q < H.size → t.heap[q]? = H[q]?) → s.WarmedH t.vm → Qc args s (.threw x) t) :
    W p l e R s m args below meth c H locs cells slots (ob_Q below Qc args s (cells + 1) (slots + 6) free) (F0 m pc ls rest) := by
  refine W.newc hexec hb hown hcl (h3 (.instantiable E 6) (by simp [th_own])) hini rfl hd0 hRc hRs fun cC kC g1 g2 g3 g4 => ?_
  refine lv_dup hexec hb hd3 rfl ?_
  refine va_ldcS hexec hb hown hZ hd4 ?_
  intro T hT X
  subst hb
  have htr' : e.platform.stackTraces = false := (show e.platform.stackTraces = l.stackTraces by rw [X.admits.platform]).trans htr
  have hx : T.heap[H.size]? = some (freshCell cC kC) := by rw [hT]; simp
  obtain ⟨U, u1, u2, u3, u4, u5, u6, u7, ce, u8, u9, u10⟩ := th_ctor X hexec htr' hown hcls h1 h2 h3 h4 (hch (by rw [X.admits.platform])) (fun x hx cell hc => hpl _ (hS.2.2 x hx) cell hc) g1 g2 (a := H.size) hx hS.1 (msg := .ref q) rfl (g := F0 m (pc + 6) ls (.ref q :: .ref H.size :: .ref H.size :: rest)) rfl hml.symm rfl rfl (rest := rest) rfl hd6 hd9 hout hRf (by
    show 2 * 0 + ((Value.ref H.size :: rest).map fun v => v.category).sum + _ ≤ _
    have hcat : (Value.ref H.size).category = 1 := rfl
    simp only [List.map_cons, List.sum_cons, hcat]
    omega) hlocks
  have hTs : T.heap.size = H.size + 1 := by rw [hT]; simp
  refine ⟨U, u1, .threw H.size, u2, u3, hq _ U ⟨ce, u8, u9, u10⟩ (by rw [u7, hTs]; omega) (fun z hz => ?_) u4, locs, ⟨u4, u5⟩, hf⟩
  rw [u6 z (by omega), hT, Array.getElem?_push_lt hz, Array.getElem?_eq_getElem hz]
end TH2
theorem th_ok1 : ∀ w ∈ Bundle.throwableAtoms, w ∈ lw_tbl ∧ (tb_ok w = true ∨ w = .laysStatic Bundle.tN "UNASSIGNED_STACK" Bundle.steD ∨ w = .laysStatic Bundle.tN "SUPPRESSED_SENTINEL" Bundle.listD) := by decide +kernel
theorem th_ok2 : ∀ w ∈ Bundle.throwableSAtoms, w ∈ lw_tbl ∧ tb_ok w = true := by decide +kernel
def th_b13 : ByteArray := ⟨#[0x2a, 0x2b, 0xb7, 0x00, 0x0d, 0xb1]⟩
theorem th_okEs : ∀ w ∈ th_own R_X 50 R_Es Bundle.six ++ Bundle.chainSAtoms R_Es ["java/lang/RuntimeException", "java/lang/Exception"], w ∈ lw_tbl ∧ tb_ok w = true := by decide +kernel
theorem th_okEi : ∀ w ∈ th_own R_X 68 R_Ei Bundle.six ++ Bundle.chainSAtoms R_Ei ["java/lang/RuntimeException", "java/lang/Exception"], w ∈ lw_tbl ∧ tb_ok w = true := by decide +kernel
theorem th_okEn : ∀ w ∈ th_own R_X 127 R_En th_b13 ++ (Bundle.passSAtoms R_En "java/lang/RuntimeException" 13 th_b13 ++ Bundle.chainSAtoms "java/lang/RuntimeException" ["java/lang/Exception"]), w ∈ lw_tbl ∧ tb_ok w = true := by decide +kernel
section TH3
variable {D : va_G} {tI tZ tA tJ : ClassId} {s : State} {a : Array Value}
theorem TB.h1 (h : TB D tI tZ tA tJ s) (hz : ZS s s.heap) : ∀ w ∈ Bundle.throwableAtoms, w.before a s = true := by
  intro w hw
  obtain ⟨q1, q2 | q2 | q2⟩ := th_ok1 w hw
  · exact h.2.1 w q1 q2 a
  · rw [q2]; exact hz.1.lay
  · rw [q2]; exact hz.2.lay
theorem TB.h2 (h : TB D tI tZ tA tJ s) : ∀ w ∈ Bundle.throwableSAtoms, w.before a s = true := fun w hw => h.2.1 w (th_ok2 w hw).1 (th_ok2 w hw).2 a
theorem ZS.h4 (hz : ZS s s.heap) : ∀ w ∈ th_st, w.before a s = true := by
  intro w hw
  rcases List.mem_cons.mp hw with q | q
  · rw [q]; exact hz.1.ref
  · rw [List.mem_singleton.mp q]; exact hz.2.ref
theorem TB.chS (h : TB D tI tZ tA tJ s) {e : Env} {X : String} {names : List String} (hX : Bundle.fit X = true) (hn : ∀ n ∈ names, Bundle.fit n = true) (hok : ∀ w ∈ Bundle.chainSAtoms X names, w ∈ lw_tbl ∧ tb_ok w = true) (hpl : e.platform.magicAccessors = ({} : Platform).magicAccessors) : th_ch e s X names.length := by
  intro top htop
  exact Bundle.chainS (args := #[]) hpl htop names X hX hn (fun w hw => h.2.1 w (hok w hw).1 (hok w hw).2 _)
theorem TB.chEn (h : TB D tI tZ tA tJ s) {e : Env} (hpl : e.platform.magicAccessors = ({} : Platform).magicAccessors) : th_ch e s R_En 2 := by
  intro top htop
  obtain ⟨P', Ps, hlen, L', hL, hm', hsup, hpass⟩ := h.chS (X := "java/lang/RuntimeException") (names := ["java/lang/Exception"]) (by decide +kernel) (by decide +kernel) (fun w hw => th_okEn w (List.mem_append_right _ (List.mem_append_right _ hw))) hpl top htop
  obtain ⟨P, L, hm, hs⟩ := PassC.ofS_atoms (args := #[]) (s := s) hpl (X := R_En) (Y := "java/lang/RuntimeException") (index := 13) (bytes := th_b13) (by decide +kernel) (by decide +kernel) (by decide +kernel) (by decide +kernel) (by decide +kernel) (by decide +kernel)
    (fun w hw => h.2.1 w (th_okEn w (List.mem_append_right _ (List.mem_append_left _ hw))).1 (th_okEn w (List.mem_append_right _ (List.mem_append_left _ hw))).2 _)
  refine ⟨P, P' :: Ps, by rw [List.length_cons, hlen]; rfl, L, ?_, hm, Option.some.inj (hs.symm.trans hm'), hsup, hpass⟩
  intro Q hQ
  rcases List.mem_cons.mp hQ with rfl | hQ
  · exact L'
  · exact hL Q hQ
end TH3
/-- what a method is given that throws -/
abbrev pT (D : va_G) (tI tZ tA tJ : ClassId) (av : List Value) (ws : va_W) (sz : Nat) (B : Prop) : Array Value → State → Prop := va_Pc av (fun U => TB D tI tZ tA tJ U ∧ ZS U U.heap ∧ B ∧ U.heap.size = sz ∧ va_P D vcl ws U.heap ∧ va_D (fun _ => True) ws)
theorem pT.blind {D : va_G} {tI tZ tA tJ : ClassId} {av : List Value} {ws : va_W} {sz : Nat} {B : Prop} : FrameBlind (pT D tI tZ tA tJ av ws sz B) := fun _ U g mk h => ⟨h.1, h.2.1.same (U := U.calling g mk _) rfl, h.2.2.1.moved (U := U.calling g mk _) (State.WarmedH.refl U).alike, h.2.2.2.1, h.2.2.2.2.1, h.2.2.2.2.2⟩
theorem pT.at {D : va_G} {tI tZ tA tJ : ClassId} {av : List Value} {ws : va_W} {B : Prop} {s : State} {H : Heap} {A : Nat → Prop} (hT : TB D tI tZ tA tJ s) (hz : ZS s H) (hB : B) (hP : va_P D vcl ws H) (hD : va_D A ws) : ∀ U : State, U.heap = H → s.WarmedH U.vm → pT D tI tZ tA tJ av ws H.size B av.toArray U := fun U hU hW => ⟨rfl, hT.warm hW, by rw [hU]; exact hz.moved hW.alike, hB, by rw [hU], by rw [hU]; exact hP, hD.weaken (fun _ _ _ _ => trivial)⟩
/-- the statics at this point of the body -/
theorem ZS.on {s : State} {A : Nat → Prop} {H : Heap} {locs : List Loc} (hz : ZS s s.heap) (hS : va_S A s.heap H locs) (hpl : ∀ a, A a → ∀ cell, s.heap[a]? = some cell → cell.vm.isStatics = false) : ZS s H := hz.kept fun a cell hc hs => by
  rw [hS.2.1 a (Array.getElem?_eq_some_iff.mp hc).1 (fun z => by rw [hpl a z cell hc] at hs; cases hs)]
  exact hc
theorem th_end {D : va_G} {cl : List vw_C} {E : String} {ws : va_W} {A : Nat → Prop} {H : Heap} {locs : List Loc} {s : State} {args : Array Value} (hP : va_P D cl ws H) (hD : va_D A ws) (hS : va_S A s.heap H locs) (x : Addr) (t : State) (hx : ob_ex E x s t.heap) (hz : H.size ≤ t.heap.size) (hk : ∀ q : Nat, q < H.size → t.heap[q]? = H[q]?) (_hW : s.WarmedH t.vm) : ob_qT D cl E ws A args s (.threw x) t :=
  ⟨x, rfl, hx, fun k q hq => (hP k q hq).kept (hk q.1 (hP k q hq).lt), hD, Nat.le_trans hS.1 hz, fun q h1 h2 => by rw [hk q (Nat.lt_of_lt_of_le h1 hS.1)]; exact hS.2.1 q h1 h2⟩
theorem th_out {c : Code} {pc : Nat} (h : c.exceptionTable.toList = []) : ∀ y ∈ c.exceptionTable.toList, covers y pc = false := by
  rw [h]
  intro y hy
  cases hy
theorem xN_to {D : va_G} {cl : List vw_C} {ws : va_W} {H : Heap} (h : va_P D cl ws H) : va_P D cl (ws ++ []) H := by rw [List.append_nil]; exact h
theorem xN_of {D : va_G} {cl : List vw_C} {ws : va_W} {H : Heap} (h : va_P D cl (ws ++ []) H) : va_P D cl ws H := by rw [List.append_nil] at h; exact h
theorem xM_to {A : Nat → Prop} {ws : va_W} (h : va_D A ws) : va_D A (ws ++ []) := by rw [List.append_nil]; exact h
theorem xM_of {A : Nat → Prop} {ws : va_W} (h : va_D A (ws ++ [])) : va_D A ws := by rw [List.append_nil] at h; exact h
