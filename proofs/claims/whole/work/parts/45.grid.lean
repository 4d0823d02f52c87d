/-! 'multianewarray' of two dimensions of ints, as a row: the outer array, and its rows behind it. -/
def gm_o (cA : ClassId) (n h i : Nat) : Cell := arrV cA n (fun j => if j < i then .ref (h + 1 + j) else .null)
def gm_r (cI : ClassId) (k : Nat) : Cell := { cls := cI, slots := Array.replicate k (.int 0), vm := .none }
def gm_s (s : State) (cA cI : ClassId) (n k : Nat) : Nat → State
  | 0 => s.pushCell (gm_o cA n s.heap.size 0)
  | i + 1 => ((gm_s s cA cI n k i).pushCell (gm_r cI k)).setCell s.heap.size (gm_o cA n s.heap.size (i + 1))
theorem gm_o_put (cA : ClassId) (n h i : Nat) : (gm_o cA n h i).setSlot i (.ref (h + 1 + i)) = gm_o cA n h (i + 1) := by
  unfold gm_o
  rw [arrV_store]
  congr 1
  funext j
  unfold updV
  by_cases e : j = i
  · subst e; simp
  · rw [if_neg e]
    show (if j < i then Value.ref (h + 1 + j) else Value.null) = _
    by_cases hj : j < i
    · rw [if_pos hj, if_pos (by omega)]
    · rw [if_neg hj, if_neg (by omega)]
theorem gm_f (s : State) (cA cI : ClassId) (n k : Nat) : ∀ i, (gm_s s cA cI n k i).heap.size = s.heap.size + 1 + i ∧ (gm_s s cA cI n k i).heap[s.heap.size]? = some (gm_o cA n s.heap.size i) ∧ (gm_s s cA cI n k i).vm = s.vm ∧ (gm_s s cA cI n k i).slotsUsed = s.slotsUsed + n + i * k
  | 0 => ⟨by simp [gm_s], by simp [gm_s], rfl, by simp [gm_s, gm_o, arrV_size]⟩
  | i + 1 => by
    obtain ⟨a, b, d, u⟩ := gm_f s cA cI n k i
    have hlt : s.heap.size < (gm_s s cA cI n k i).heap.size := by omega
    have hb' : ((gm_s s cA cI n k i).pushCell (gm_r cI k)).heap[s.heap.size]? = some (gm_o cA n s.heap.size i) := by rw [State.heap_pushCell_of_lt (h := hlt)]; exact b
    refine ⟨?_, State.heap_setCell_self hb', by simp [gm_s, d], ?_⟩
    · simp [gm_s, State.setCell, a]; omega
    · simp [gm_s, u, gm_r, Nat.succ_mul]; omega
theorem gm_top (s : State) (f : JFrame) (cA cI : ClassId) (n k : Nat) : ∀ i, gm_s (s.setTop f) cA cI n k i = (gm_s s cA cI n k i).setTop f
  | 0 => rfl
  | i + 1 => by simp only [gm_s, gm_top s f cA cI n k i, State.heap_setTop, State.pushCell_setTop, State.setCell_setTop]
theorem gm_old (s : State) (cA cI : ClassId) (n k : Nat) {a : Addr} (ha : a < s.heap.size) : ∀ i, (gm_s s cA cI n k i).heap[a]? = s.heap[a]?
  | 0 => State.heap_pushCell_of_lt _ _ ha
  | i + 1 => by
    have f1 := (gm_f s cA cI n k i).1
    have hlt : a < (gm_s s cA cI n k i).heap.size := Nat.lt_of_lt_of_le ha (by rw [f1]; omega)
    show (((gm_s s cA cI n k i).pushCell (gm_r cI k)).setCell s.heap.size _).heap[a]? = _
    rw [State.heap_setCell_other (Nat.ne_of_gt ha), State.heap_pushCell_of_lt (h := hlt)]
    exact gm_old s cA cI n k ha i
theorem gm_row (s : State) (cA cI : ClassId) (n k : Nat) : ∀ i j, j < i → (gm_s s cA cI n k i).heap[s.heap.size + 1 + j]? = some (gm_r cI k)
  | 0, _, h => absurd h (Nat.not_lt_zero _)
  | i + 1, j, h => by
    have f1 := (gm_f s cA cI n k i).1
    show (((gm_s s cA cI n k i).pushCell (gm_r cI k)).setCell s.heap.size _).heap[s.heap.size + 1 + j]? = _
    rw [State.heap_setCell_other (show s.heap.size ≠ s.heap.size + 1 + j by omega)]
    rcases Nat.lt_or_ge j i with hj | hj
    · have hlt : s.heap.size + 1 + j < (gm_s s cA cI n k i).heap.size := by rw [f1]; omega
      rw [State.heap_pushCell_of_lt (h := hlt)]
      exact gm_row s cA cI n k i j hj
    · have e : j = i := by omega
      subst e
      rw [← f1]
      exact State.heap_pushCell_size _ _
section GM
variable {E : CtlPost} {e : Env} {d : Bool} {acts : List Action} {s : State}
theorem gm_new {c comp : ClassId} {kc : Class} {type : FieldType} {len : Nat} {init : Value} (hk : s.vm.classes[c]? = some kc) (hkind : kc.kind = .array comp type)
    (hlimit : ¬ len > e.platform.arrayLengthLimit) (hheap : ¬ len * componentBytes type > e.platform.maxHeapBytes) (hfit : fits type init = true) (hdef : init.isDefault = true) {Q : Addr → Pre}
    (h1 : s.heap.size < e.platform.maxCells) (h2 : s.slotsUsed + len ≤ e.platform.maxSlots)
    (hq : Q s.heap.size d acts (s.pushCell { cls := c, slots := Array.replicate len init, vm := .none })) : wp (Jvm.newArray c len init) Q E e d acts s := by
  have hfits : ∀ i v, (Array.replicate len init)[i]? = some v → s.fitsSlot c .none i v = true := by
    intro i v hv
    simp only [Array.getElem?_replicate] at hv
    split at hv
    · cases hv; simp [State.fitsSlot, State.slotType?, hk, hkind, hfit]
    · cases hv
  have hda : allocActs (Array.replicate len init) s.heap.size acts = acts := by
    have hall : ((Array.replicate len init).all (·.isDefault)) = true := by
      rw [Array.all_replicate]; split <;> simp [hdef]
    unfold allocActs; rw [if_pos hall]
  simp only [Jvm.newArray, Jvm.arrayFits, wp_bind', W.ask, W.ite, hlimit, if_false, wp_pure', W.theClass, hk, hkind, hheap, W.alloc, W.stop, Option.some.injEq, exists_eq_left', Array.size_replicate, hda]
  rw [if_neg (by omega)]
  exact ⟨h1, h2, hfits, hq⟩
end GM
section GM2
variable {E : CtlPost} {e : Env} {d : Bool} {acts : List Action} {s : State}
theorem gm_pos {n : Int32} {N : Nat} (h : n = nI N) (hN : N + 1 < 2 ^ 31) : ¬ n < 0 ∧ n.toNatClampNeg = N := by
  subst h
  refine ⟨fun hc => ?_, nI_clamp (by omega)⟩
  have := (vp_in_nI (n := N) (N := N + 1) (by omega) hN)
  exact this (Or.inl hc)
/-- a row -/
theorem gm_m1 {comp cc : ClassId} {kc : Class} {k : Int32} {K : Nat} (hkc : s.vm.classes[comp]? = some kc) (hkind : kc.kind = .array cc .int) (hK : k = nI K) (hK1 : K ≤ 1000) (hl : 1000 ≤ e.platform.arrayLengthLimit) (hh : 4000 ≤ e.platform.maxHeapBytes)
    (h1 : s.heap.size < e.platform.maxCells) (h2 : s.slotsUsed + K ≤ e.platform.maxSlots) {Q : Addr → Pre} (hq : Q s.heap.size d acts (s.pushCell (gm_r comp K))) : wp (multianewarray.make comp [k]) Q E e d acts s := by
  obtain ⟨hk0, hkN⟩ := gm_pos hK (by omega)
  rw [multianewarray.make]
  simp only [wp_bind', W.ite, hk0, if_false, wp_pure', W.theClass, hkc, hkind, Option.some.injEq, exists_eq_left', hkN]
  have hcb : componentBytes .int = 4 := rfl
  exact gm_new (c := comp) (comp := cc) (kc := kc) (type := .int) (init := .int 0) hkc hkind (by omega) (by rw [hcb]; omega) rfl rfl h1 h2 hq
/-- the whole -/
theorem gm_m2 {cA cI cc : ClassId} {kA kI : Class} {n k : Int32} {N K : Nat} (hkA : s.vm.classes[cA]? = some kA) (hA : kA.kind = .array cI (.array .int)) (hkI : s.vm.classes[cI]? = some kI) (hI : kI.kind = .array cc .int) (hN : n = nI N) (hN1 : N ≤ 1000) (hK : k = nI K) (hK1 : K ≤ 1000)
    (hl : 1000 ≤ e.platform.arrayLengthLimit) (hh : 4000 ≤ e.platform.maxHeapBytes) (h1 : s.heap.size + 1 + N ≤ e.platform.maxCells) (h2 : s.slotsUsed + N + N * K ≤ e.platform.maxSlots) {Q : Addr → Pre} (hq : ∀ d' acts', Q s.heap.size d' acts' (gm_s s cA cI N K N)) : wp (multianewarray.make cA [n, k]) Q E e d acts s := by
  obtain ⟨hn0, hnN⟩ := gm_pos hN (by omega)
  obtain ⟨hk0, hkN⟩ := gm_pos hK (by omega)
  have hnone : ([k].find? (· < 0)) = none := by simp [hk0]
  have hcb : componentBytes (.array .int) = 4 := rfl
  have e0 : ({ cls := cA, slots := Array.replicate N .null, vm := .none } : Cell) = gm_o cA N s.heap.size 0 := by
    unfold gm_o
    rw [show (fun j => if j < 0 then Value.ref (s.heap.size + 1 + j) else Value.null) = (fun _ => Value.null) by funext j; simp]
    exact arrV_new _ _ _
  rw [multianewarray.make]
  simp only [wp_bind', W.ite, hn0, if_false, wp_pure', W.theClass, hkA, hA, Option.some.injEq, exists_eq_left', hnN]
  refine gm_new (c := cA) (comp := cI) (kc := kA) (type := .array .int) (init := .null) hkA hA (by omega) (by rw [hcb]; omega) rfl rfl (by omega) (by have := Nat.zero_le (N * K); omega) ?_
  rw [e0]
  simp only [hnone]
  rw [ite_self, wp_bind', Std.Legacy.Range.forIn_eq_forIn_range']
  have hsz : ([:N] : Std.Legacy.Range).size = N := by simp [Std.Legacy.Range.size]
  rw [hsz]
  refine wp_forIn_inv (fun todo t => ∃ i, i ≤ N ∧ todo = List.range' i (N - i) ∧ t = gm_s s cA cI N K i) _ _ ⟨0, Nat.zero_le _, rfl, rfl⟩ ?_ ?_
  · rintro x todo t d' acts' Q' ⟨i, hi, htodo, rfl⟩ hnext
    have hlt : i < N := by
      rcases Nat.lt_or_ge i N with h | h
      · exact h
      · rw [show N - i = 0 by omega] at htodo; simp at htodo
    rw [show N - i = (N - (i + 1)) + 1 by omega, List.range'_succ] at htodo
    obtain ⟨rfl, htodo⟩ := List.cons.inj htodo
    obtain ⟨f1, f2, f3, f4⟩ := gm_f s cA cI N K x
    have hmul : x * K + K ≤ N * K := by
      have := Nat.mul_le_mul_right K (show x + 1 ≤ N from hlt)
      rw [Nat.succ_mul] at this
      exact this
    simp only [wp_bind']
    refine gm_m1 (kc := kI) (cc := cc) (by rw [f3]; exact hkI) hI hK hK1 hl hh (by rw [f1]; omega) (by rw [f4]; omega) ?_
    have hlt0 : s.heap.size < (gm_s s cA cI N K x).heap.size := by rw [f1]; omega
    simp only [wp_bind', W.writeLoc, wp_pure']
    refine ⟨gm_o cA N s.heap.size x, by rw [State.heap_pushCell_of_lt (h := hlt0)]; exact f2, (fun h => by cases h), by show x < (arrV _ _ _).slots.size; rw [arrV_size]; exact hlt, ?_, hnext _ _ _ ⟨x + 1, hlt, htodo, ?_⟩⟩
    · show State.fitsSlot _ cA .none x _ = true
      simp [State.fitsSlot, State.slotType?, f3, hkA, hA]
      rfl
    · rw [f1, gm_o_put]; rfl
  · rintro t d' acts' ⟨i, hi, htodo, rfl⟩
    have hiN : i = N := by
      rcases Nat.lt_or_ge i N with h | h
      · rw [show N - i = (N - (i + 1)) + 1 by omega, List.range'_succ] at htodo; cases htodo
      · omega
    subst hiN
    simp only [wp_pure']
    exact hq _ _
end GM2
/-- the class of the arrays of arrays, and of their rows -/
def gm_OV (s : State) : Prop := ∃ (cI cA : ClassId) (k : Class), s.vm.findClass (FieldType.array .int).toString = some cI ∧ s.vm.classes[cA]? = some k ∧ k.kind = .array cI (.array .int) ∧ s.vm.findClass ("[" ++ (FieldType.array .int).toString) = some cA
theorem gm_OV.moved {u U : State} (h : gm_OV u) (hvm : u.vm.Alike U.vm) : gm_OV U := by
  obtain ⟨cI, cA, k, h1, h2, h3, h4⟩ := h
  obtain ⟨k', hk', he⟩ := hvm.2.2 _ _ h2
  exact ⟨cI, cA, k', by rw [hvm.findClass]; exact h1, hk', by rw [he]; exact h3, by rw [hvm.findClass]; exact h4⟩
theorem gm_over {args : Array Value} {s : State} (h : (Cond.arrayOver (.array .int)).before args s = true) : gm_OV s := by
  show ∃ (cI cA : ClassId) (k : Class), _
  simp only [Cond.before, Cond.holds, Cond.value, beq_iff_eq] at h
  cases hc : s.vm.findClass (FieldType.array .int).toString with
  | none => simp [hc] at h
  | some cI =>
    simp only [hc, Option.bind_some, Option.bind_eq_some_iff, Option.map_eq_some_iff] at h
    obtain ⟨c, hi, k, hk, hb⟩ := h
    obtain ⟨hlt, hp, -⟩ := Array.findIdx?_eq_some_iff_getElem.mp hi
    have hkk : s.vm.classes[c] = k := (Array.getElem?_eq_some_iff.mp hk).2
    rw [hkk] at hp
    cases hkind : k.kind with
    | array component ty =>
      rw [hkind] at hb hp
      simp at hb hp
      exact ⟨cI, c, k, rfl, hk, by rw [hkind, hp, hb.1], hb.2⟩
    | _ => rw [hkind] at hb; simp at hb
section GM3
variable {p : Program} {l : Launch} {e : Env} {R : Room} {s : State} {m : MethodId} {args : Array Value} {below : List Frame} {meth : Method} {c : Code} {T : State} {H : Heap} {locs : List Loc} {cells slots : Nat} {Q : State → Prop}
theorem gm_stand (X : Stand p l e R s m args below meth c T locs cells slots) (cA cI : ClassId) (N K : Nat) :
    ∀ i, Stand p l e R s m args below meth c (gm_s T cA cI N K i) (locs ++ (List.range i).map fun j => ⟨T.heap.size, j⟩) (cells + 1 + i) (slots + N + i * K)
  | 0 => by
    have h := X.pushed (gm_o cA N T.heap.size 0)
    rw [show (gm_o cA N T.heap.size 0).slots.size = N from arrV_size _ _ _] at h
    simpa [gm_s] using h
  | i + 1 => by
    have Xi := gm_stand X cA cI N K i
    obtain ⟨f1, f2, f3, f4⟩ := gm_f T cA cI N K i
    have hlt0 : T.heap.size < (gm_s T cA cI N K i).heap.size := by rw [f1]; omega
    have hcell : ((gm_s T cA cI N K i).pushCell (gm_r cI K)).heap[T.heap.size]? = some (gm_o cA N T.heap.size i) := by rw [State.heap_pushCell_of_lt (h := hlt0)]; exact f2
    have h := (Xi.pushed (gm_r cI K)).stored hcell i (.ref (T.heap.size + 1 + i))
    rw [show (gm_r cI K).slots.size = K by simp [gm_r], gm_o_put] at h
    have e2 : (locs ++ (List.range (i + 1)).map fun j => (⟨T.heap.size, j⟩ : Loc)) = (locs ++ (List.range i).map fun j => (⟨T.heap.size, j⟩ : Loc)) ++ [⟨T.heap.size, i⟩] := by simp [List.range_succ, List.append_assoc]
    have e3 : slots + N + (i + 1) * K = slots + N + i * K + K := by rw [Nat.succ_mul]; omega
    rw [e2, e3]
    exact h
theorem gm_row2 {cc : ByteArray} (hexec : p.tables.exec = Jvm.exec) (hb : c.code = cc) {own : String} {index pc : Nat} {ls : Array Slot} {rest : List Value} (hown : s.vm.findClass own = some m.cls) (hlink : (Cond.classLink own index "[[I").before args s = true) (hover : gm_OV s) (harr : (Cond.arrayClass .int).before args s = true)
    (hdg : decode cc pc = .ok (.multianewarray index 2, 4)) {n k : Int32} {N K : Nat} (hN : n = nI N) (hN1 : N ≤ 1000) (hK : k = nI K) (hK1 : K ≤ 1000) (hcells : cells + (1 + N) ≤ R.cells) (hslots : slots + (N + N * K) ≤ R.slots)
    (kk : ∀ (H1 : Heap) (cA cI : ClassId), s.vm.findClass "[[I" = some cA → s.vm.findClass "[I" = some cI → H1.size = H.size + 1 + N → (∀ q, q < H.size → H1[q]? = H[q]?) → H1[H.size]? = some (arrV cA N (fun j => .ref (H.size + 1 + j))) → (∀ j, j < N → H1[H.size + 1 + j]? = some (arrV cI K (fun _ => .int 0))) →
      W p l e R s m args below meth c H1 locs (cells + 1 + N) (slots + N + N * K) Q (F0 m (pc + 4) ls (.ref H.size :: rest))) : W p l e R s m args below meth c H locs cells slots Q (F0 m pc ls (.int k :: .int n :: rest)) := by
  intro T hT X
  subst hb
  have hpl : e.platform.magicAccessors = ({} : Platform).magicAccessors := by rw [X.admits.platform]
  obtain ⟨cI, cA, kA, hfI, hkA, hkindA, hfA⟩ := hover
  obtain ⟨cI', kI, cc', hfI', hkI, hkindI⟩ := Cond.arrayClass_spec harr
  cases hfI.symm.trans hfI'
  obtain ⟨c0, hfc0, hcl⟩ := Cond.classLink_spec hown hlink e.platform hpl
  cases (show s.vm.findClass "[[I" = some cA from hfA).symm.trans hfc0
  obtain ⟨hg₁, hwarm₁, hready₁⟩ := State.classEntry (e := e) X.warmed hcl
  generalize T.vm.noted m.cls index (.cls cA) = vm₁ at hg₁ hwarm₁ hready₁
  have hal : s.vm.Alike vm₁ := hwarm₁.alike
  obtain ⟨kA₁, hkA₁, heA⟩ := hal.2.2 _ _ hkA
  obtain ⟨kI₁, hkI₁, heI⟩ := hal.2.2 _ _ hkI
  have hkindA₁ : kA₁.kind = .array cI (.array .int) := by rw [heA]; exact hkindA
  have hkindI₁ : kI₁.kind = .array cc' .int := by rw [heI]; exact hkindI
  have X₁ := X.noted hwarm₁
  obtain ⟨hr1, hr2⟩ := X.roomAbove hcells hslots
  have XF := gm_stand X₁ cA cI N K N
  obtain ⟨f1, f2, f3, f4⟩ := gm_f (T.setVm vm₁) cA cI N K N
  have hH : (T.setVm vm₁).heap = H := hT
  have eo : gm_o cA N H.size N = arrV cA N (fun j => .ref (H.size + 1 + j)) := by
    unfold gm_o arrV
    congr 1
    apply Array.ext
    · simp
    · intro i h1 h2
      have hi : i < N := by simpa using h1
      simp [hi]
  have er : gm_r cI K = arrV cI K (fun _ => .int 0) := arrV_new _ _ _
  obtain ⟨t, a1, b1⟩ := kk (gm_s (T.setVm vm₁) cA cI N K N).heap cA cI hfA hfI (by rw [f1, hH]) (fun q hq => by rw [gm_old (T.setVm vm₁) cA cI N K (by rw [hH]; exact hq), hH]) (by rw [← hH, f2, hH, eo]) (fun j hj => by
    have := gm_row (T.setVm vm₁) cA cI N K N j hj
    rw [hH] at this
    rw [this, er]) (gm_s (T.setVm vm₁) cA cI N K N) rfl (by
    have := Stand.forget XF (fun y hy => by
      obtain ⟨j, -, rfl⟩ := List.mem_map.mp hy
      exact X₁.same.2.1)
    exact this)
  refine ⟨t, ?_, b1⟩
  jvm_step X.here [hexec, hdg]
  simp only [multianewarray.sem, wp_bind', W.resolveClassAt_links (State.method?_setTop (F0 m pc ls (.int k :: .int n :: rest)) X.here.top) hg₁]
  rw [W.popN, if_neg (by decide)]
  refine ⟨F0 m pc ls (.int k :: .int n :: rest), State.topJava?_setTop' (s := T.setVm vm₁) _ X.here.top, [.int n, .int k], rest, rfl, rfl, ?_⟩
  simp only [List.mapM_cons, List.mapM_nil, wp_bind', wp_pure']
  have h1000 : 1000 ≤ e.platform.arrayLengthLimit := by rw [Launch.admits_arrayLengthLimit X.admits]; omega
  have h4000 : 4000 ≤ e.platform.maxHeapBytes := by rw [Launch.admits_maxHeapBytes X.admits]; omega
  refine gm_m2 (kA := kA₁) (kI := kI₁) (cc := cc') hkA₁ hkindA₁ hkI₁ hkindI₁ hN hN1 hK hK1 h1000 h4000 (by show T.heap.size + 1 + _ ≤ _; omega) (by show T.slotsUsed + _ + _ ≤ _; omega) (fun d' acts' => ?_)
  have eS : ((T.setTop (F0 m pc ls (.int k :: .int n :: rest))).setVm vm₁).setTop (F0 m pc ls rest) = (T.setVm vm₁).setTop (F0 m pc ls rest) := by
    show ((T.setVm vm₁).setTop _).setTop _ = _
    rw [State.setTop_setTop]
  show wp _ _ _ _ _ _ (gm_s (((T.setTop (F0 m pc ls (.int k :: .int n :: rest))).setVm vm₁).setTop (F0 m pc ls rest)) cA cI N K N)
  rw [eS, gm_top]
  simp only [wp_bind', W.mark, W.pushRef, State.topJava?_setTop' _ XF.here.top, Option.some.injEq, exists_eq_left', State.setTop_setTop, State.heap_setTop]
  intro acts
  simp [jvm, XF.here.top]
  rw [← hT] at a1
  exact a1
end GM3
