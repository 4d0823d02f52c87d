section
-- ===== PART A: goes FIRST, ahead of the names: the tables' words, and 'selects' of the private methods out of them =====
/-- a private method of a class that the tables say can be made, by its rows of tables_1 -/
def lw_okq (q : MethodName × Nat) : Prop := (q.1.cls ≠ "java/lang/invoke/MethodHandle" ∧ q.1.cls ≠ "java/lang/invoke/VarHandle") ∧ Cond.instantiable q.1.cls q.2 ∈ tables_1 ∧ Cond.privateMethod q.1 ∈ tables_1 ∧ Cond.instanceMethod q.1 ∈ tables_1
theorem lw_p0 : lw_okq (⟨"ForkedSheets", "sheetOf", "(II)I"⟩, 4) := ⟨⟨by decide +kernel, by decide +kernel⟩, List.mem_of_getElem? (i := 14) (by decide +kernel), List.mem_of_getElem? (i := 99) (by decide +kernel), List.mem_of_getElem? (i := 100) (by decide +kernel)⟩
theorem lw_p1 : lw_okq (⟨"ForkedSheets", "lowestNotThere", "()I"⟩, 4) := ⟨⟨by decide +kernel, by decide +kernel⟩, List.mem_of_getElem? (i := 14) (by decide +kernel), List.mem_of_getElem? (i := 162) (by decide +kernel), List.mem_of_getElem? (i := 163) (by decide +kernel)⟩
theorem lw_p2 : lw_okq (⟨"java/lang/Throwable", "fillInStackTrace", "(I)Ljava/lang/Throwable;"⟩, 6) := ⟨⟨by decide +kernel, by decide +kernel⟩, List.mem_of_getElem? (i := 204) (by decide +kernel), List.mem_of_getElem? (i := 202) (by decide +kernel), List.mem_of_getElem? (i := 203) (by decide +kernel)⟩
theorem lw_p3 : lw_okq (⟨"ForkedSheets", "requireProcess", "(I)V"⟩, 4) := ⟨⟨by decide +kernel, by decide +kernel⟩, List.mem_of_getElem? (i := 14) (by decide +kernel), List.mem_of_getElem? (i := 242) (by decide +kernel), List.mem_of_getElem? (i := 243) (by decide +kernel)⟩
theorem lw_p4 : lw_okq (⟨"ForkedSheets", "emptyPage", "(II)Z"⟩, 4) := ⟨⟨by decide +kernel, by decide +kernel⟩, List.mem_of_getElem? (i := 14) (by decide +kernel), List.mem_of_getElem? (i := 273) (by decide +kernel), List.mem_of_getElem? (i := 274) (by decide +kernel)⟩
theorem lw_p5 : lw_okq (⟨"ForkedSheets$Memory", "freePlace", "(I)V"⟩, 9) := ⟨⟨by decide +kernel, by decide +kernel⟩, List.mem_of_getElem? (i := 24) (by decide +kernel), List.mem_of_getElem? (i := 281) (by decide +kernel), List.mem_of_getElem? (i := 282) (by decide +kernel)⟩
theorem lw_p6 : lw_okq (⟨"ForkedSheets", "loadWord", "(II)I"⟩, 4) := ⟨⟨by decide +kernel, by decide +kernel⟩, List.mem_of_getElem? (i := 14) (by decide +kernel), List.mem_of_getElem? (i := 320) (by decide +kernel), List.mem_of_getElem? (i := 321) (by decide +kernel)⟩
theorem lw_p7 : lw_okq (⟨"ForkedSheets$Memory", "touch", "(I)V"⟩, 9) := ⟨⟨by decide +kernel, by decide +kernel⟩, List.mem_of_getElem? (i := 24) (by decide +kernel), List.mem_of_getElem? (i := 328) (by decide +kernel), List.mem_of_getElem? (i := 329) (by decide +kernel)⟩
theorem lw_p8 : lw_okq (⟨"ForkedSheets$Memory", "bringIn", "(I)V"⟩, 9) := ⟨⟨by decide +kernel, by decide +kernel⟩, List.mem_of_getElem? (i := 24) (by decide +kernel), List.mem_of_getElem? (i := 332) (by decide +kernel), List.mem_of_getElem? (i := 333) (by decide +kernel)⟩
theorem lw_p9 : lw_okq (⟨"ForkedSheets$Memory", "getFrame", "()I"⟩, 9) := ⟨⟨by decide +kernel, by decide +kernel⟩, List.mem_of_getElem? (i := 24) (by decide +kernel), List.mem_of_getElem? (i := 336) (by decide +kernel), List.mem_of_getElem? (i := 337) (by decide +kernel)⟩
theorem lw_p10 : lw_okq (⟨"ForkedSheets$Memory", "evictInto", "(I)I"⟩, 9) := ⟨⟨by decide +kernel, by decide +kernel⟩, List.mem_of_getElem? (i := 24) (by decide +kernel), List.mem_of_getElem? (i := 343) (by decide +kernel), List.mem_of_getElem? (i := 344) (by decide +kernel)⟩
theorem lw_p11 : lw_okq (⟨"ForkedSheets$Memory", "moveHand", "()V"⟩, 9) := ⟨⟨by decide +kernel, by decide +kernel⟩, List.mem_of_getElem? (i := 24) (by decide +kernel), List.mem_of_getElem? (i := 347) (by decide +kernel), List.mem_of_getElem? (i := 348) (by decide +kernel)⟩
theorem lw_p12 : lw_okq (⟨"ForkedSheets$Memory", "layIntoFrame", "(II)V"⟩, 9) := ⟨⟨by decide +kernel, by decide +kernel⟩, List.mem_of_getElem? (i := 24) (by decide +kernel), List.mem_of_getElem? (i := 351) (by decide +kernel), List.mem_of_getElem? (i := 352) (by decide +kernel)⟩
theorem lw_p13 : lw_okq (⟨"ForkedSheets", "storeWord", "(III)V"⟩, 4) := ⟨⟨by decide +kernel, by decide +kernel⟩, List.mem_of_getElem? (i := 14) (by decide +kernel), List.mem_of_getElem? (i := 362) (by decide +kernel), List.mem_of_getElem? (i := 363) (by decide +kernel)⟩
theorem lw_p14 : lw_okq (⟨"ForkedSheets", "giveOwnSheet", "(II)I"⟩, 4) := ⟨⟨by decide +kernel, by decide +kernel⟩, List.mem_of_getElem? (i := 14) (by decide +kernel), List.mem_of_getElem? (i := 366) (by decide +kernel), List.mem_of_getElem? (i := 367) (by decide +kernel)⟩
theorem lw_p15 : lw_okq (⟨"ForkedSheetsModel", "lowestProcess", "()I"⟩, 12) := ⟨⟨by decide +kernel, by decide +kernel⟩, List.mem_of_getElem? (i := 398) (by decide +kernel), List.mem_of_getElem? (i := 449) (by decide +kernel), List.mem_of_getElem? (i := 450) (by decide +kernel)⟩
def lw_privs_1 : List (MethodName × Nat) := [(⟨"ForkedSheets", "sheetOf", "(II)I"⟩, 4), (⟨"ForkedSheets", "lowestNotThere", "()I"⟩, 4), (⟨"java/lang/Throwable", "fillInStackTrace", "(I)Ljava/lang/Throwable;"⟩, 6), (⟨"ForkedSheets", "requireProcess", "(I)V"⟩, 4), (⟨"ForkedSheets", "emptyPage", "(II)Z"⟩, 4), (⟨"ForkedSheets$Memory", "freePlace", "(I)V"⟩, 9), (⟨"ForkedSheets", "loadWord", "(II)I"⟩, 4), (⟨"ForkedSheets$Memory", "touch", "(I)V"⟩, 9), (⟨"ForkedSheets$Memory", "bringIn", "(I)V"⟩, 9), (⟨"ForkedSheets$Memory", "getFrame", "()I"⟩, 9), (⟨"ForkedSheets$Memory", "evictInto", "(I)I"⟩, 9), (⟨"ForkedSheets$Memory", "moveHand", "()V"⟩, 9), (⟨"ForkedSheets$Memory", "layIntoFrame", "(II)V"⟩, 9), (⟨"ForkedSheets", "storeWord", "(III)V"⟩, 4), (⟨"ForkedSheets", "giveOwnSheet", "(II)I"⟩, 4), (⟨"ForkedSheetsModel", "lowestProcess", "()I"⟩, 12)]
theorem lw_r1 : ∀ q ∈ lw_privs_1, lw_okq q := List.forall_mem_cons.mpr ⟨lw_p0, List.forall_mem_cons.mpr ⟨lw_p1, List.forall_mem_cons.mpr ⟨lw_p2, List.forall_mem_cons.mpr ⟨lw_p3, List.forall_mem_cons.mpr ⟨lw_p4, List.forall_mem_cons.mpr ⟨lw_p5, List.forall_mem_cons.mpr ⟨lw_p6, List.forall_mem_cons.mpr ⟨lw_p7, List.forall_mem_cons.mpr ⟨lw_p8, List.forall_mem_cons.mpr ⟨lw_p9, List.forall_mem_cons.mpr ⟨lw_p10, List.forall_mem_cons.mpr ⟨lw_p11, List.forall_mem_cons.mpr ⟨lw_p12, List.forall_mem_cons.mpr ⟨lw_p13, List.forall_mem_cons.mpr ⟨lw_p14, List.forall_mem_cons.mpr ⟨lw_p15, fun _ h => absurd h List.not_mem_nil⟩⟩⟩⟩⟩⟩⟩⟩⟩⟩⟩⟩⟩⟩⟩⟩
theorem lw_p16 : lw_okq (⟨"ForkedSheetsModel", "isProcess", "(I)Z"⟩, 12) := ⟨⟨by decide +kernel, by decide +kernel⟩, List.mem_of_getElem? (i := 398) (by decide +kernel), List.mem_of_getElem? (i := 457) (by decide +kernel), List.mem_of_getElem? (i := 458) (by decide +kernel)⟩
theorem lw_p17 : lw_okq (⟨"ForkedSheetsModel", "empty", "(I)Z"⟩, 12) := ⟨⟨by decide +kernel, by decide +kernel⟩, List.mem_of_getElem? (i := 398) (by decide +kernel), List.mem_of_getElem? (i := 465) (by decide +kernel), List.mem_of_getElem? (i := 466) (by decide +kernel)⟩
theorem lw_p18 : lw_okq (⟨"ForkedSheetsModel", "owners", "(I)I"⟩, 12) := ⟨⟨by decide +kernel, by decide +kernel⟩, List.mem_of_getElem? (i := 398) (by decide +kernel), List.mem_of_getElem? (i := 469) (by decide +kernel), List.mem_of_getElem? (i := 470) (by decide +kernel)⟩
theorem lw_p19 : lw_okq (⟨"ForkedSheetsModel", "loaded", "(II)I"⟩, 12) := ⟨⟨by decide +kernel, by decide +kernel⟩, List.mem_of_getElem? (i := 398) (by decide +kernel), List.mem_of_getElem? (i := 484) (by decide +kernel), List.mem_of_getElem? (i := 485) (by decide +kernel)⟩
theorem lw_p20 : lw_okq (⟨"ForkedSheetsModel", "bringIn", "(I)V"⟩, 12) := ⟨⟨by decide +kernel, by decide +kernel⟩, List.mem_of_getElem? (i := 398) (by decide +kernel), List.mem_of_getElem? (i := 488) (by decide +kernel), List.mem_of_getElem? (i := 489) (by decide +kernel)⟩
theorem lw_p21 : lw_okq (⟨"ForkedSheetsModel", "getFrame", "()I"⟩, 12) := ⟨⟨by decide +kernel, by decide +kernel⟩, List.mem_of_getElem? (i := 398) (by decide +kernel), List.mem_of_getElem? (i := 492) (by decide +kernel), List.mem_of_getElem? (i := 493) (by decide +kernel)⟩
theorem lw_p22 : lw_okq (⟨"ForkedSheetsModel", "lowestFrame", "()I"⟩, 12) := ⟨⟨by decide +kernel, by decide +kernel⟩, List.mem_of_getElem? (i := 398) (by decide +kernel), List.mem_of_getElem? (i := 496) (by decide +kernel), List.mem_of_getElem? (i := 497) (by decide +kernel)⟩
theorem lw_p23 : lw_okq (⟨"ForkedSheetsModel", "sheetAt", "(I)I"⟩, 12) := ⟨⟨by decide +kernel, by decide +kernel⟩, List.mem_of_getElem? (i := 398) (by decide +kernel), List.mem_of_getElem? (i := 500) (by decide +kernel), List.mem_of_getElem? (i := 501) (by decide +kernel)⟩
theorem lw_p24 : lw_okq (⟨"ForkedSheetsModel", "turn", "()V"⟩, 12) := ⟨⟨by decide +kernel, by decide +kernel⟩, List.mem_of_getElem? (i := 398) (by decide +kernel), List.mem_of_getElem? (i := 504) (by decide +kernel), List.mem_of_getElem? (i := 505) (by decide +kernel)⟩
theorem lw_p25 : lw_okq (⟨"ForkedSheetsModel", "lowestSlot", "()I"⟩, 12) := ⟨⟨by decide +kernel, by decide +kernel⟩, List.mem_of_getElem? (i := 398) (by decide +kernel), List.mem_of_getElem? (i := 508) (by decide +kernel), List.mem_of_getElem? (i := 509) (by decide +kernel)⟩
theorem lw_p26 : lw_okq (⟨"ForkedSheetsModel", "needs", "(II)Z"⟩, 12) := ⟨⟨by decide +kernel, by decide +kernel⟩, List.mem_of_getElem? (i := 398) (by decide +kernel), List.mem_of_getElem? (i := 516) (by decide +kernel), List.mem_of_getElem? (i := 517) (by decide +kernel)⟩
theorem lw_p27 : lw_okq (⟨"ForkedSheetsModel", "canMake", "()Z"⟩, 12) := ⟨⟨by decide +kernel, by decide +kernel⟩, List.mem_of_getElem? (i := 398) (by decide +kernel), List.mem_of_getElem? (i := 520) (by decide +kernel), List.mem_of_getElem? (i := 521) (by decide +kernel)⟩
theorem lw_p28 : lw_okq (⟨"ForkedSheetsModel", "stored", "(III)V"⟩, 12) := ⟨⟨by decide +kernel, by decide +kernel⟩, List.mem_of_getElem? (i := 398) (by decide +kernel), List.mem_of_getElem? (i := 524) (by decide +kernel), List.mem_of_getElem? (i := 525) (by decide +kernel)⟩
theorem lw_p29 : lw_okq (⟨"ForkedSheetsModel", "make", "(II)V"⟩, 12) := ⟨⟨by decide +kernel, by decide +kernel⟩, List.mem_of_getElem? (i := 398) (by decide +kernel), List.mem_of_getElem? (i := 528) (by decide +kernel), List.mem_of_getElem? (i := 529) (by decide +kernel)⟩
theorem lw_p30 : lw_okq (⟨"ForkedSheetsModel", "sheetOf", "(II)I"⟩, 12) := ⟨⟨by decide +kernel, by decide +kernel⟩, List.mem_of_getElem? (i := 398) (by decide +kernel), List.mem_of_getElem? (i := 544) (by decide +kernel), List.mem_of_getElem? (i := 545) (by decide +kernel)⟩
def lw_privs_2 : List (MethodName × Nat) := [(⟨"ForkedSheetsModel", "isProcess", "(I)Z"⟩, 12), (⟨"ForkedSheetsModel", "empty", "(I)Z"⟩, 12), (⟨"ForkedSheetsModel", "owners", "(I)I"⟩, 12), (⟨"ForkedSheetsModel", "loaded", "(II)I"⟩, 12), (⟨"ForkedSheetsModel", "bringIn", "(I)V"⟩, 12), (⟨"ForkedSheetsModel", "getFrame", "()I"⟩, 12), (⟨"ForkedSheetsModel", "lowestFrame", "()I"⟩, 12), (⟨"ForkedSheetsModel", "sheetAt", "(I)I"⟩, 12), (⟨"ForkedSheetsModel", "turn", "()V"⟩, 12), (⟨"ForkedSheetsModel", "lowestSlot", "()I"⟩, 12), (⟨"ForkedSheetsModel", "needs", "(II)Z"⟩, 12), (⟨"ForkedSheetsModel", "canMake", "()Z"⟩, 12), (⟨"ForkedSheetsModel", "stored", "(III)V"⟩, 12), (⟨"ForkedSheetsModel", "make", "(II)V"⟩, 12), (⟨"ForkedSheetsModel", "sheetOf", "(II)I"⟩, 12)]
theorem lw_r2 : ∀ q ∈ lw_privs_2, lw_okq q := List.forall_mem_cons.mpr ⟨lw_p16, List.forall_mem_cons.mpr ⟨lw_p17, List.forall_mem_cons.mpr ⟨lw_p18, List.forall_mem_cons.mpr ⟨lw_p19, List.forall_mem_cons.mpr ⟨lw_p20, List.forall_mem_cons.mpr ⟨lw_p21, List.forall_mem_cons.mpr ⟨lw_p22, List.forall_mem_cons.mpr ⟨lw_p23, List.forall_mem_cons.mpr ⟨lw_p24, List.forall_mem_cons.mpr ⟨lw_p25, List.forall_mem_cons.mpr ⟨lw_p26, List.forall_mem_cons.mpr ⟨lw_p27, List.forall_mem_cons.mpr ⟨lw_p28, List.forall_mem_cons.mpr ⟨lw_p29, List.forall_mem_cons.mpr ⟨lw_p30, fun _ h => absurd h List.not_mem_nil⟩⟩⟩⟩⟩⟩⟩⟩⟩⟩⟩⟩⟩⟩⟩
def lw_privs : List (MethodName × Nat) := lw_privs_1 ++ (lw_privs_2)
def lw_tbl : List Cond := k2_sels lw_privs ++ tables_1
theorem lw_privs_ok : ∀ q ∈ lw_privs, lw_okq q := by
  show ∀ q ∈ lw_privs_1 ++ (lw_privs_2), lw_okq q
  exact List.forall_mem_append.mpr ⟨lw_r1, lw_r2⟩
end
section
/-! The base: contracts whose outcome may be an exception; calls both ways; a catch; reads of arrays of arrays. -/
section OB1
variable {p : Program} {l : Launch} {e : Env} {R : Room} {s : State} {m : MethodId} {args : Array Value} {below : List Frame} {meth : Method} {c : Code} {H : Heap} {locs : List Loc} {cells slots : Nat}
theorem ob_mono {Q Q' : State → Prop} {g : JFrame} (h : ∀ t, Q t → Q' t) (k : W p l e R s m args below meth c H locs cells slots Q g) : W p l e R s m args below meth c H locs cells slots Q' g := by
  intro T hT X
  obtain ⟨t, a, b⟩ := k T hT X
  exact ⟨t, a, h t b⟩
/-- the end of an invocation, whatever its outcome -/
def ob_Fr (st t : State) (L : List Loc) (k n : Nat) : Prop := st.WarmedH t.vm ∧ st.sameButNew ({ t with vm := st.vm } : State) L k n
def ob_Q (below : List Frame) (Qc : Array Value → State → Outcome → State → Prop) (a : Array Value) (s : State) (mc ms : Nat) (free : Addr → Prop) : State → Prop := fun t =>
  ∃ o, t.status = .running ∧ Ended t below o ∧ Qc a s o t ∧ ∃ L, ob_Fr s t L mc ms ∧ ∀ q ∈ L, free q.base
theorem ob_of_MQ {Qc : Array Value → State → Outcome → State → Prop} {a : Array Value} {mc ms : Nat} {free : Addr → Prop} (t : State) (h : MQ below Qc a s mc ms free t) : ob_Q below Qc a s mc ms free t := by
  obtain ⟨o, h1, h2, h3, L, ⟨-, hW, hS⟩, hL⟩ := h
  exact ⟨o, h1, h2, h3, L, ⟨hW, hS⟩, hL⟩
/-- a method's contract: one word says its code (with or without handlers) -/
def ob_M (l : Launch) (y : MethodName) (w : Cond) (rm : Room) (Pc : Array Value → State → Prop) (Qc : Array Value → State → Outcome → State → Prop) (mc ms : Nat) (free : Addr → Prop) : Prop :=
  MetFree l y (headSpec [w] rm) Pc (fun _ _ _ _ _ => True) (fun a st o t => Qc a st o t ∧ ∃ L, ob_Fr st t L mc ms ∧ ∀ q ∈ L, free q.base)
end OB1
section OB2
variable {l : Launch} {y : MethodName} {cc : ByteArray} {maxL : Nat} {ret : Option FieldType} {rm : Room} {Pc : Array Value → State → Prop} {Qc : Array Value → State → Outcome → State → Prop} {mc ms : Nat} {free : Addr → Prop}
theorem ob_ofW (hy : plainName y.cls = true)
    (body : ∀ p e s m args below meth c s₁, BodyLoose p l y (headSpec [Cond.code y cc maxL ret] rm) cc maxL ret e s m args below meth c s₁ → c.maxLocals = maxL → c.exceptionTable.toList = [] → Pc args s →
      W p l e rm s m args below meth c s.heap [] 0 0 (ob_Q below Qc args s mc ms free) (entryFrame m args maxL)) : ob_M l y (.code y cc maxL ret) rm Pc Qc mc ms free := by
  refine MetFree.of_bodyS (code := cc) (maxLocals := maxL) (ret := ret) hy ?_ ?_
  · intro args s m h hn
    obtain ⟨meth, c, h1, h2, h3, h4, h5, h6, -, -⟩ := Cond.code_spec hn (atoms_spec (ws := [Cond.code y cc maxL ret]) h _ List.mem_cons_self)
    exact ⟨meth, c, h1, h2, h3, h4, h5, h6⟩
  · intro p e s m args below meth c s₁ B hml hP _
    have hh0 : s₁.heap = s.heap := by rw [B.state]; rfl
    have hcd : (Cond.code y cc maxL ret).before args s = true := atoms_spec (ws := [Cond.code y cc maxL ret]) B.pre _ List.mem_cons_self
    have h0 : c.exceptionTable.isEmpty = true := B.noHandlers hcd
    have h1 : c.exceptionTable.toList = [] := List.eq_nil_of_length_eq_zero (by simpa [Array.isEmpty] using h0)
    obtain ⟨t, a1, o, b1, b2, b3⟩ := body p e s m args below meth c s₁ B hml h1 hP s₁ hh0 (Stand.of_body B)
    exact ⟨t, o, a1, b1, b2, ⟨b3.1, b3.2⟩⟩
theorem ob_ofWH {hs : List (Nat × Nat × Nat × Nat)} (hy : plainName y.cls = true)
    (body : ∀ p e s m args below meth c s₁, BodyLoose p l y (headSpec [Cond.codeWith y cc maxL ret hs] rm) cc maxL ret e s m args below meth c s₁ → c.maxLocals = maxL → c.exceptionTable.toList = tableOf hs → Pc args s →
      W p l e rm s m args below meth c s.heap [] 0 0 (ob_Q below Qc args s mc ms free) (entryFrame m args maxL)) : ob_M l y (.codeWith y cc maxL ret hs) rm Pc Qc mc ms free := by
  refine MetFree.of_bodyS (code := cc) (maxLocals := maxL) (ret := ret) hy ?_ ?_
  · intro args s m h hn
    obtain ⟨m', meth, c, h0, h1, h2, h3, h4, -, h5, h6, -⟩ := Cond.codeWith_spec (atoms_spec (ws := [Cond.codeWith y cc maxL ret hs]) h _ List.mem_cons_self)
    cases hn.symm.trans h0
    exact ⟨meth, c, h1, h2, h3, h4, h5, h6⟩
  · intro p e s m args below meth c s₁ B hml hP _
    have hh0 : s₁.heap = s.heap := by rw [B.state]; rfl
    have X0 := Stand.of_body B
    obtain ⟨m', meth', c', h0, h1, h2, h3, h4, h7, h5, h6, -⟩ := Cond.codeWith_spec (atoms_spec (ws := [Cond.codeWith y cc maxL ret hs]) B.pre _ List.mem_cons_self)
    cases B.named.symm.trans h0
    cases B.method.symm.trans h1
    cases X0.code.symm.trans h2
    have ht : c.exceptionTable.toList = tableOf hs := by rw [← h7, table_eq]
    obtain ⟨t, a1, o, b1, b2, b3⟩ := body p e s m args below meth c s₁ B hml ht hP s₁ hh0 X0
    exact ⟨t, o, a1, b1, b2, ⟨b3.1, b3.2⟩⟩
end OB2
section OB3
variable {p : Program} {l : Launch} {e : Env} {R : Room} {s : State} {m : MethodId} {args : Array Value} {below : List Frame} {meth : Method} {c : Code} {U : State} {Ls : List Loc} {c0 s0 len : Nat}
variable {y : MethodName} {w : Cond} {rm : Room} {Pc : Array Value → State → Prop} {Qc : Array Value → State → Outcome → State → Prop} {mc ms : Nat} {free : Addr → Prop}
/-- the call itself, behind the invoking instruction's own step -/
theorem ob_back (hM : ob_M l y w rm Pc Qc mc ms free) (hrc : rm.cells = mc) (hrs : rm.slots = ms) (hframes : rm.frames + 1 ≤ R.frames)
    {g : JFrame} {ig : Instr} {mk : MethodId} {a : Array Value} (X : Stand p l e R s m args below meth c U Ls c0 s0) (hg : g.method = m) (hsize : g.locals.size = c.maxLocals) (hdg : decode c.code g.pc = .ok (ig, len))
    (hn : U.methodNamed? y = some mk) {methY : Method} {cY : Code} (hmY : U.vm.method? mk = some methY) (hcY : methY.code = some cY)
    (hlocals : 2 * g.monitorRoom + (g.stack.map fun v => v.category).sum + (cY.maxLocals + 11) + rm.locals ≤ R.locals)
    (hini : (Cond.initialized y.cls).before a U = true) (hw : w.before a U = true) (hcells : c0 + mc ≤ R.cells) (hslots : s0 + ms ≤ R.slots) (hP : Pc a (U.calling g mk a)) :
    ∃ (o : Outcome) (t T' : State) (L : List Loc), Stand p l e R s m args below meth c T' (Ls ++ L) (c0 + mc) (s0 + ms) ∧ (∀ q ∈ L, free q.base) ∧ T'.heap = t.heap ∧ T'.vm = t.vm ∧ Qc a (U.calling g mk a) o t ∧
      (∀ v, o = .returned v → Steps p.tables e below (doInvoke e (U.setTop g) [] mk a).1 (T'.setTop { g with pc := g.pc + len, stack := v.toList ++ g.stack })) ∧
      (∀ x, o = .threw x → Steps p.tables e below (doInvoke e (U.setTop g) [] mk a).1 ((T'.setTop g).pushFrame (.throwing x))) := by
  obtain ⟨kY, hkY, -⟩ := className_of_methodNamed hn
  have hinitY : kY.init = .initialized := Cond.initialized_spec (findClass_of_methodNamed hn) hkY hini
  have h : At U g.method c below := by rw [hg]; exact X.here
  have happ : (headSpec [w] rm).appliesLoose y e.platform (U.calling g mk a) = true :=
    Spec.appliesLoose_calling (g := g) h hdg hn hkY hinitY
      (X.room_calling (g := g) (R' := rm) hsize hmY hcY hframes hlocals (by rw [hrc]; exact hcells) (by rw [hrs]; exact hslots))
      (atoms_intro (ws := [w]) fun w' hw' => by rw [List.mem_singleton.mp hw']; exact hw)
  obtain ⟨mid, hmid⟩ := h.above
  have hfr : (U.setTop g).frames = (.java g :: mid) ++ below := by rw [State.frames_setTop' g h.top, hmid]; rfl
  obtain ⟨o, s₂, hsteps, -, hend, hq⟩ := Steps.callFree hM p X.admits X.cas X.clock (acts := []) hfr happ hP trivial
  have hq0 : Qc a (U.calling g mk a) o s₂ ∧ ∃ L, ob_Fr (U.calling g mk a) s₂ L mc ms ∧ ∀ q ∈ L, free q.base := hq
  obtain ⟨hq', L, ⟨hW₂, e2, q2, q3, q4, q5, q6⟩, hL⟩ := hq0
  rw [State.frames_setTop' g h.top] at hend
  have hW' : U.WarmedH s₂.vm := hW₂
  have e3 : s₂ = ({ (U.calling g mk a).setFrames s₂.frames with heap := s₂.heap, slotsUsed := s₂.slotsUsed } : State).setVm s₂.vm := by
    have : s₂ = ({ s₂ with vm := (U.calling g mk a).vm } : State).setVm s₂.vm := rfl
    rw [e2] at this
    exact this
  obtain ⟨g₀, hg0⟩ := Option.isSome_iff_exists.mp h.top
  obtain ⟨r, hr⟩ := State.topJava?_eq_some.mp hg0
  have hr' : (({ U with heap := s₂.heap, slotsUsed := s₂.slotsUsed } : State).setVm s₂.vm).frames = .java g₀ :: r := hr
  have hsame : U.sameButNew ({ U with heap := s₂.heap, slotsUsed := s₂.slotsUsed } : State) L mc ms := by
    refine ⟨?_, q2, q3, q4, q5, q6⟩
    obtain ⟨t, ht, -⟩ := State.frames_cons hr
    show ({ U with heap := s₂.heap, slotsUsed := s₂.slotsUsed } : State) = { U.setFrames U.frames with heap := s₂.heap, slotsUsed := s₂.slotsUsed }
    rw [State.setFrames_self ht]
  refine ⟨o, s₂, ({ U with heap := s₂.heap, slotsUsed := s₂.slotsUsed } : State).setVm s₂.vm, L,
    ⟨X.admits, X.cas, X.clock, X.frames, X.room, X.hears, X.method, X.code, (X.here.setHeapUsed s₂.heap s₂.slotsUsed).setVm hW'.alike, X.tail, State.WarmedH.trans X.warmed hW', X.limits, X.bytes, X.same.trans (hsame.setVm s.vm)⟩,
    hL, rfl, rfl, hq', ?_, ?_⟩
  · intro v hv
    subst hv
    obtain ⟨c₂, i₂, len₂, hc₂, hd₂, hf₂⟩ := hend
    have hcc : c₂ = c := by
      have h1 : s₂.code? g.method = U.code? g.method := by
        rw [State.code?_eq, State.code?_eq, hW'.alike.method?]
      exact Option.some.inj (hc₂.symm.trans (h1.trans h.code))
    subst hcc
    have hlen : len₂ = len := by rw [hdg] at hd₂; cases hd₂; rfl
    subst hlen
    have hs₂ : s₂ = (({ U with heap := s₂.heap, slotsUsed := s₂.slotsUsed } : State).setVm s₂.vm).setTop { g with pc := g.pc + len₂, stack := v.toList ++ g.stack } := by
      refine e3.trans ?_
      rw [hf₂, State.calling_eq h.top, State.setFrames_setFrames, State.setTop_of_frames _ hr', hr]
      rfl
    rw [← hs₂]
    exact hsteps
  · intro x hx
    subst hx
    have hf₂ : s₂.frames = .throwing x :: .java g :: U.frames.tail := hend
    have hs₂ : s₂ = ((({ U with heap := s₂.heap, slotsUsed := s₂.slotsUsed } : State).setVm s₂.vm).setTop g).pushFrame (.throwing x) := by
      refine e3.trans ?_
      rw [hf₂, State.calling_eq h.top, State.setFrames_setFrames, State.pushFrame, State.frames_setTop _ hr', State.setTop_of_frames _ hr', State.setFrames_setFrames, hr]
      rfl
    rw [← hs₂]
    exact hsteps
end OB3
/-- a word that says a method's code -/
def ob_cd (w : Cond) (y : MethodName) (maxL : Nat) : Prop := ∀ (a : Array Value) (U : State) (mk : MethodId), U.methodNamed? y = some mk → w.before a U = true → ∃ meth c, U.vm.method? mk = some meth ∧ meth.code = some c ∧ c.maxLocals = maxL ∧ parseMethodDescriptor y.desc = some meth.sig
theorem ob_cd_c {y : MethodName} {cc : ByteArray} {maxL : Nat} {ret : Option FieldType} : ob_cd (.code y cc maxL ret) y maxL := by
  intro a U mk hn hw
  obtain ⟨meth, c, h1, h2, h3, h4, -, -, -, h5⟩ := Cond.code_spec hn hw
  exact ⟨meth, c, h1, h2, h4, h5⟩
theorem ob_cd_h {y : MethodName} {cc : ByteArray} {maxL : Nat} {ret : Option FieldType} {hs : List (Nat × Nat × Nat × Nat)} : ob_cd (.codeWith y cc maxL ret hs) y maxL := by
  intro a U mk hn hw
  obtain ⟨m', meth, c, h0, h1, h2, h3, h4, -, -, -, h5⟩ := Cond.codeWith_spec hw
  cases hn.symm.trans h0
  exact ⟨meth, c, h1, h2, h4, h5⟩
/-- behind a call: both ways -/
def ob_Run (p : Program) (l : Launch) (e : Env) (R : Room) (s : State) (m : MethodId) (args : Array Value) (below : List Frame) (meth : Method) (c : Code) (H : Heap) (locs : List Loc) (cells slots mc ms : Nat) (g : JFrame) (rest : List Value) (Qa : State → Outcome → State → Prop) (free : Addr → Prop) : Prop :=
  ∀ T : State, T.heap = H → Stand p l e R s m args below meth c T locs cells slots → ∃ (o : Outcome) (st₀ t T' : State) (L : List Loc), st₀.heap = H ∧ s.vm.Alike st₀.vm ∧ Stand p l e R s m args below meth c T' (locs ++ L) (cells + mc) (slots + ms) ∧ (∀ q ∈ L, free q.base) ∧ T'.heap = t.heap ∧ T'.vm = t.vm ∧ Qa st₀ o t ∧
    (∀ v, o = .returned v → ∀ tg, Steps p.tables e below (T'.setTop { g with pc := g.pc + 3, stack := v.toList ++ rest }) tg → Steps p.tables e below (T.setTop g) tg) ∧
    (∀ x, o = .threw x → ∀ tg, Steps p.tables e below ((T'.setTop { g with stack := rest }).pushFrame (.throwing x)) tg → Steps p.tables e below (T.setTop g) tg)
section OB4
variable {p : Program} {l : Launch} {e : Env} {R : Room} {s : State} {m : MethodId} {args : Array Value} {below : List Frame} {meth : Method} {c : Code} {H : Heap} {locs : List Loc} {cells slots : Nat}
variable {y : MethodName} {w : Cond} {rm : Room} {Pc : Array Value → State → Prop} {Qc : Array Value → State → Outcome → State → Prop} {mc ms : Nat} {free : Addr → Prop} {cc : ByteArray} {nL maxL n index : Nat} {own C host : String} {b : Addr} {As rest : List Value} {g : JFrame}
/-- what every call asks of its callee's words, of the room, and of the arguments -/
def ob_ok (R : Room) (s : State) (y : MethodName) (w : Cond) (rm : Room) (mc ms maxL n : Nat) : Prop :=
  ob_cd w y maxL ∧ (y.cls ≠ "java/lang/invoke/MethodHandle" ∧ y.cls ≠ "java/lang/invoke/VarHandle" ∧ (parseMethodDescriptor y.desc).map (fun d => d.parameters.length) = some n) ∧ rm.cells = mc ∧ rm.slots = ms ∧ rm.frames + 1 ≤ R.frames ∧ 8 + (maxL + 11) + rm.locals ≤ R.locals ∧
  (∀ (a : Array Value) (U : State), s.WarmedH U.vm → (Cond.initialized y.cls).before a U = true ∧ w.before a U = true)
theorem ob_len {y : MethodName} {n : Nat} (h : (parseMethodDescriptor y.desc).map (fun d => d.parameters.length) = some n) {sig : MethodDescriptor} (hs : parseMethodDescriptor y.desc = some sig) : n = sig.parameters.length := by
  rw [hs] at h
  exact (Option.some.inj h).symm
theorem ob_fin {mk : MethodId} {methM : Method} {cM : Code} {T : State} {vm₁ : Vm} {ig : Instr} {As' : List Value} (hM : ob_M l y w rm Pc Qc mc ms free) (hrc : rm.cells = mc) (hrs : rm.slots = ms) (hfr : rm.frames + 1 ≤ R.frames) (hlo : 8 + (maxL + 11) + rm.locals ≤ R.locals)
    (hws : ∀ (a : Array Value) (U : State), s.WarmedH U.vm → (Cond.initialized y.cls).before a U = true ∧ w.before a U = true) (hnamed : s.methodNamed? y = some mk) (hmethM : s.vm.method? mk = some methM) (hcM : methM.code = some cM) (hlM : cM.maxLocals = maxL)
    (hT : T.heap = H) (X₁ : Stand p l e R s m args below meth c (T.setVm vm₁) locs cells slots) (hg : g.method = m) (hsize : g.locals.size = c.maxLocals) (hW : 2 * g.monitorRoom + (rest.map fun v => v.category).sum ≤ 8) (hdg : decode c.code g.pc = .ok (ig, 3)) (hf : cells + mc ≤ R.cells ∧ slots + ms ≤ R.slots)
    (hbl : FrameBlind Pc) (hPc : ∀ U : State, U.heap = H → s.WarmedH U.vm → Pc As'.toArray U)
    (hstep₁ : ∀ target, (∀ acts, Steps p.tables e below (doInvoke e ((T.setVm vm₁).setTop { g with stack := rest }) acts mk As'.toArray).1 target) → Steps p.tables e below (T.setTop g) target) :
    ∃ (o : Outcome) (st₀ t T' : State) (L : List Loc), st₀.heap = H ∧ s.vm.Alike st₀.vm ∧ Stand p l e R s m args below meth c T' (locs ++ L) (cells + mc) (slots + ms) ∧ (∀ q ∈ L, free q.base) ∧ T'.heap = t.heap ∧ T'.vm = t.vm ∧ Qc As'.toArray st₀ o t ∧
    (∀ v, o = .returned v → ∀ tg, Steps p.tables e below (T'.setTop { g with pc := g.pc + 3, stack := v.toList ++ rest }) tg → Steps p.tables e below (T.setTop g) tg) ∧
    (∀ x, o = .threw x → ∀ tg, Steps p.tables e below ((T'.setTop { g with stack := rest }).pushFrame (.throwing x)) tg → Steps p.tables e below (T.setTop g) tg) := by
  obtain ⟨hini₁, hwd₁⟩ := hws As'.toArray (T.setVm vm₁) X₁.warmed
  obtain ⟨o, t, T', L, X', hL, e1, e2, hq, hret, hthr⟩ := ob_back (g := { g with stack := rest }) (ig := ig) (len := 3) (mk := mk) (a := As'.toArray) hM hrc hrs hfr X₁ hg hsize hdg (X₁.named hnamed) (methY := methM) (cY := cM) (by
      have h1 : (T.setVm vm₁).vm.method? mk = s.vm.method? mk := X₁.warmed.alike.method? mk
      rw [h1]; exact hmethM) hcM (by rw [hlM]; show 2 * g.monitorRoom + (rest.map fun v => v.category).sum + (maxL + 11) + rm.locals ≤ R.locals; omega) hini₁ hwd₁ hf.1 hf.2 (hbl _ _ _ _ (hPc (T.setVm vm₁) hT X₁.warmed))
  refine ⟨o, (T.setVm vm₁).calling { g with stack := rest } mk As'.toArray, t, T', L, hT, X₁.warmed.alike, X', hL, e1, e2, hq, fun v hv tg h => hstep₁ _ fun acts => ?_, fun x hx tg h => hstep₁ _ fun acts => ?_⟩
  · rw [doInvoke_state]
    exact (hret v hv).trans h
  · rw [doInvoke_state]
    exact (hthr x hx).trans h
theorem ob_runS (hM : ob_M l y w rm Pc Qc mc ms free) (ok : ob_ok R s y w rm mc ms maxL n) (hx : p.tables.exec = Jvm.exec) (hb : c.code = cc) (hml : c.maxLocals = nL) (hown : s.vm.findClass own = some m.cls)
    (hlink : (Cond.methodLink own index y).before args s = true) (hstat : (Cond.static y).before args s = true) (hbl : FrameBlind Pc) (hPc : ∀ U : State, U.heap = H → s.WarmedH U.vm → Pc As.toArray U)
    (hg : g.method = m) (hn : As.length = n) (hsize : g.locals.size = nL) (hstack : g.stack = As.reverse ++ rest) (hW : 2 * g.monitorRoom + (rest.map fun v => v.category).sum ≤ 8) (hdg : decode cc g.pc = .ok (.invokestatic index, 3)) (hf : cells + mc ≤ R.cells ∧ slots + ms ≤ R.slots) :
    ob_Run p l e R s m args below meth c H locs cells slots mc ms g rest (Qc As.toArray) free := by
  obtain ⟨hcd, ⟨hy1, hy2, hpar⟩, hrc, hrs, hfr, hlo, hws⟩ := ok
  intro T hT X
  obtain ⟨hini, hwd⟩ := hws args s (State.WarmedH.refl s)
  obtain ⟨mk, methM, hnamed, hmethM, hstatic⟩ : ∃ mk methM, s.methodNamed? y = some mk ∧ s.vm.method? mk = some methM ∧ methM.isStatic = true := by
    cases hn0 : s.methodNamed? y with
    | none => simp [Cond.before, Cond.holds, Cond.value, hn0] at hstat
    | some mk =>
      obtain ⟨methM, cM, h1, -, -, -⟩ := hcd args s mk hn0 hwd
      exact ⟨mk, methM, rfl, h1, Cond.static_spec hn0 h1 hstat⟩
  obtain ⟨methM', cM, hmethM', hcM, hlM, hsig⟩ := hcd args s mk hnamed hwd
  cases hmethM.symm.trans hmethM'
  obtain ⟨kP, hkP, -⟩ := className_of_methodNamed hnamed
  have hinitP : kP.init = .initialized := Cond.initialized_spec (findClass_of_methodNamed hnamed) hkP hini
  subst hb
  obtain ⟨vm₁, X₁, hstep₁⟩ := X.invokestatic hx hown hlink hnamed hmethM hstatic hkP hinitP ⟨hy1, hy2⟩ (g := g) hg (argsL := As) (rest := rest) (by rw [hn]; exact ob_len hpar hsig) hstack hdg
  exact ob_fin hM hrc hrs hfr hlo hws hnamed hmethM hcM hlM hT X₁ hg (hsize.trans hml.symm) hW hdg hf hbl hPc hstep₁
theorem ob_runSN (hM : ob_M l y w rm Pc Qc mc ms free) (ok : ob_ok R s y w rm mc ms maxL n) (hx : p.tables.exec = Jvm.exec) (hb : c.code = cc) (hml : c.maxLocals = nL) (hown : s.vm.findClass own = some m.cls)
    (hlink : (Cond.methodLinkNest own index y host).before args s = true) (hstat : (Cond.static y).before args s = true) (hbl : FrameBlind Pc) (hPc : ∀ U : State, U.heap = H → s.WarmedH U.vm → Pc As.toArray U)
    (hg : g.method = m) (hn : As.length = n) (hsize : g.locals.size = nL) (hstack : g.stack = As.reverse ++ rest) (hW : 2 * g.monitorRoom + (rest.map fun v => v.category).sum ≤ 8) (hdg : decode cc g.pc = .ok (.invokestatic index, 3)) (hf : cells + mc ≤ R.cells ∧ slots + ms ≤ R.slots) :
    ob_Run p l e R s m args below meth c H locs cells slots mc ms g rest (Qc As.toArray) free := by
  obtain ⟨hcd, ⟨hy1, hy2, hpar⟩, hrc, hrs, hfr, hlo, hws⟩ := ok
  intro T hT X
  obtain ⟨hini, hwd⟩ := hws args s (State.WarmedH.refl s)
  obtain ⟨mk, methM, hnamed, hmethM, hstatic⟩ : ∃ mk methM, s.methodNamed? y = some mk ∧ s.vm.method? mk = some methM ∧ methM.isStatic = true := by
    cases hn0 : s.methodNamed? y with
    | none => simp [Cond.before, Cond.holds, Cond.value, hn0] at hstat
    | some mk =>
      obtain ⟨methM, cM, h1, -, -, -⟩ := hcd args s mk hn0 hwd
      exact ⟨mk, methM, rfl, h1, Cond.static_spec hn0 h1 hstat⟩
  obtain ⟨methM', cM, hmethM', hcM, hlM, hsig⟩ := hcd args s mk hnamed hwd
  cases hmethM.symm.trans hmethM'
  obtain ⟨kP, hkP, -⟩ := className_of_methodNamed hnamed
  have hinitP : kP.init = .initialized := Cond.initialized_spec (findClass_of_methodNamed hnamed) hkP hini
  subst hb
  obtain ⟨vm₁, X₁, hstep₁⟩ := X.invokestaticNest hx hown hlink hnamed hmethM hstatic hkP hinitP ⟨hy1, hy2⟩ (g := g) hg (argsL := As) (rest := rest) (by rw [hn]; exact ob_len hpar hsig) hstack hdg
  exact ob_fin hM hrc hrs hfr hlo hws hnamed hmethM hcM hlM hT X₁ hg (hsize.trans hml.symm) hW hdg hf hbl hPc hstep₁
theorem ob_runV (hM : ob_M l y w rm Pc Qc mc ms free) (ok : ob_ok R s y w rm mc ms maxL n) (hx : p.tables.exec = Jvm.exec) (hb : c.code = cc) (hml : c.maxLocals = nL) (hown : s.vm.findClass own = some m.cls)
    (hlink : (Cond.methodLink own index y).before args s = true) (hinst : (Cond.instanceMethod y).before args s = true) (hsel : (Cond.selects C y y).before args s = true) (hrecv : ∃ cellB : Cell, H[b]? = some cellB ∧ cellB.vm.isStatics = false ∧ s.vm.findClass C = some cellB.cls)
    (hbl : FrameBlind Pc) (hPc : ∀ U : State, U.heap = H → s.WarmedH U.vm → Pc (Value.ref b :: As).toArray U)
    (hg : g.method = m) (hn : As.length = n) (hsize : g.locals.size = nL) (hstack : g.stack = As.reverse ++ .ref b :: rest) (hW : 2 * g.monitorRoom + (rest.map fun v => v.category).sum ≤ 8) (hdg : decode cc g.pc = .ok (.invokevirtual index, 3)) (hf : cells + mc ≤ R.cells ∧ slots + ms ≤ R.slots) :
    ob_Run p l e R s m args below meth c H locs cells slots mc ms g rest (Qc (Value.ref b :: As).toArray) free := by
  obtain ⟨hcd, ⟨hy1, hy2, hpar⟩, hrc, hrs, hfr, hlo, hws⟩ := ok
  intro T hT X
  obtain ⟨hini, hwd⟩ := hws args s (State.WarmedH.refl s)
  obtain ⟨cellB, hcB, hoB, hclB⟩ := hrecv
  obtain ⟨mk, methM, hnamed, hmethM, hstM, habM⟩ := Cond.instanceMethod_spec hinst
  obtain ⟨methM', cM, hmethM', hcM, hlM, hsig⟩ := hcd args s mk hnamed hwd
  cases hmethM.symm.trans hmethM'
  obtain ⟨c2, r2, m2, q1, q2, q3, q4, kP, hkP, hkPi⟩ := Cond.selects_spec hsel
  cases hclB.symm.trans q1
  cases (State.methodFound?_of_named hnamed ⟨hy1, hy2⟩).symm.trans q2
  cases hnamed.symm.trans q3
  have hselP : selectMethod e.platform s.vm cellB.cls mk = .method mk := by rw [Launch.admits_selectMethod X.admits]; exact q4
  subst hb
  obtain ⟨vm₁, X₁, hstep₁⟩ := X.invokevirtual hx hown hlink hnamed hmethM hstM hkP hkPi ⟨hy1, hy2⟩ (a := b) (cell := cellB) (by rw [hT]; exact hcB)
    (fun z h => by rw [h] at hoB; cases hoB) hselP hmethM habM hkP hkPi (g := g) hg (argsL := As) (rest := rest) (by rw [hn]; exact ob_len hpar hsig) hstack hdg
  exact ob_fin hM hrc hrs hfr hlo hws hnamed hmethM hcM hlM hT X₁ hg (hsize.trans hml.symm) hW hdg hf hbl hPc hstep₁
theorem ob_runVN (hM : ob_M l y w rm Pc Qc mc ms free) (ok : ob_ok R s y w rm mc ms maxL n) (hx : p.tables.exec = Jvm.exec) (hb : c.code = cc) (hml : c.maxLocals = nL) (hown : s.vm.findClass own = some m.cls)
    (hlink : (Cond.methodLinkNest own index y host).before args s = true) (hinst : (Cond.instanceMethod y).before args s = true) (hsel : (Cond.selects C y y).before args s = true) (hrecv : ∃ cellB : Cell, H[b]? = some cellB ∧ cellB.vm.isStatics = false ∧ s.vm.findClass C = some cellB.cls)
    (hbl : FrameBlind Pc) (hPc : ∀ U : State, U.heap = H → s.WarmedH U.vm → Pc (Value.ref b :: As).toArray U)
    (hg : g.method = m) (hn : As.length = n) (hsize : g.locals.size = nL) (hstack : g.stack = As.reverse ++ .ref b :: rest) (hW : 2 * g.monitorRoom + (rest.map fun v => v.category).sum ≤ 8) (hdg : decode cc g.pc = .ok (.invokevirtual index, 3)) (hf : cells + mc ≤ R.cells ∧ slots + ms ≤ R.slots) :
    ob_Run p l e R s m args below meth c H locs cells slots mc ms g rest (Qc (Value.ref b :: As).toArray) free := by
  obtain ⟨hcd, ⟨hy1, hy2, hpar⟩, hrc, hrs, hfr, hlo, hws⟩ := ok
  intro T hT X
  obtain ⟨hini, hwd⟩ := hws args s (State.WarmedH.refl s)
  obtain ⟨cellB, hcB, hoB, hclB⟩ := hrecv
  obtain ⟨mk, methM, hnamed, hmethM, hstM, habM⟩ := Cond.instanceMethod_spec hinst
  obtain ⟨methM', cM, hmethM', hcM, hlM, hsig⟩ := hcd args s mk hnamed hwd
  cases hmethM.symm.trans hmethM'
  obtain ⟨c2, r2, m2, q1, q2, q3, q4, kP, hkP, hkPi⟩ := Cond.selects_spec hsel
  cases hclB.symm.trans q1
  cases (State.methodFound?_of_named hnamed ⟨hy1, hy2⟩).symm.trans q2
  cases hnamed.symm.trans q3
  have hselP : selectMethod e.platform s.vm cellB.cls mk = .method mk := by rw [Launch.admits_selectMethod X.admits]; exact q4
  subst hb
  obtain ⟨vm₁, X₁, hstep₁⟩ := X.invokevirtualNest hx hown hlink hnamed hmethM hstM hkP hkPi ⟨hy1, hy2⟩ (a := b) (cell := cellB) (by rw [hT]; exact hcB)
    (fun z h => by rw [h] at hoB; cases hoB) hselP hmethM habM hkP hkPi (g := g) hg (argsL := As) (rest := rest) (by rw [hn]; exact ob_len hpar hsig) hstack hdg
  exact ob_fin hM hrc hrs hfr hlo hws hnamed hmethM hcM hlM hT X₁ hg (hsize.trans hml.symm) hW hdg hf hbl hPc hstep₁
theorem ob_runI (hM : ob_M l y w rm Pc Qc mc ms free) (ok : ob_ok R s y w rm mc ms maxL n) {bytes : ByteArray} (hwc : w = Cond.code y bytes maxL none) (hx : p.tables.exec = Jvm.exec) (hb : c.code = cc) (hml : c.maxLocals = nL) (hown : s.vm.findClass own = some m.cls) (hy0 : y.name = "<init>")
    (hlink : (Cond.methodLink own index y).before args s = true) (hinst : (Cond.instanceMethod y).before args s = true)
    (hbl : FrameBlind Pc) (hPc : ∀ U : State, U.heap = H → s.WarmedH U.vm → Pc (Value.ref b :: As).toArray U)
    (hg : g.method = m) (hn : As.length = n) (hsize : g.locals.size = nL) (hstack : g.stack = As.reverse ++ .ref b :: rest) (hW : 2 * g.monitorRoom + (rest.map fun v => v.category).sum ≤ 8) (hdg : decode cc g.pc = .ok (.invokespecial index, 3)) (hf : cells + mc ≤ R.cells ∧ slots + ms ≤ R.slots) :
    ob_Run p l e R s m args below meth c H locs cells slots mc ms g rest (Qc (Value.ref b :: As).toArray) free := by
  obtain ⟨hcd, ⟨hy1, hy2, hpar⟩, hrc, hrs, hfr, hlo, hws⟩ := ok
  intro T hT X
  obtain ⟨hini, hwd⟩ := hws args s (State.WarmedH.refl s)
  subst hb
  subst hg
  have hpl : e.platform.magicAccessors = ({} : Platform).magicAccessors := by rw [X.admits.platform]
  obtain ⟨mk, methM, cM, kP, vm₁, hnamed, hmethM, hcodeM, -, hlocalsM, -, hkP, -, hW₁, hstep₁⟩ := Steps.initColdArgs (e := e) X.here hx X.warmed hpl hown hy0 ⟨hy1, hy2⟩ hlink hinst (hwc ▸ hwd) (f := g) rfl (a := b) (argsL := As) (rest := rest) (fun sig h => by rw [hn]; exact ob_len hpar h) hstack hdg
  have X₁ := X.noted hW₁
  exact ob_fin hM hrc hrs hfr hlo hws hnamed hmethM hcodeM hlocalsM hT X₁ rfl (hsize.trans hml.symm) hW hdg hf hbl hPc hstep₁
end OB4
end
section
/-! The base, second half: what comes behind a call; leaving by an exception; a catch; throw new E(text); worlds side by side; pools of rows. -/
def ob_T (p : Program) (l : Launch) (e : Env) (R : Room) (s : State) (m : MethodId) (args : Array Value) (below : List Frame) (meth : Method) (c : Code) (H : Heap) (locs : List Loc) (cells slots : Nat) (Q : State → Prop) (g : JFrame) (x : Addr) : Prop :=
  ∀ T : State, T.heap = H → Stand p l e R s m args below meth c T locs cells slots → ∃ t, Steps p.tables e below ((T.setTop g).pushFrame (.throwing x)) t ∧ Q t
/-- a method that reads alone -/
def ob_qR (v : Option Value) : Array Value → State → Outcome → State → Prop := fun _ st o t => o = .returned v ∧ t.heap = st.heap
/-- a method that leaves the world ws -/
def ob_qW (D : va_G) (cl : List vw_C) (v : Option Value) (ws : va_W) (A : Nat → Prop) : Array Value → State → Outcome → State → Prop := fun _ st o t => o = .returned v ∧ va_P D cl ws t.heap ∧ va_D A ws ∧ va_F A st t
/-- the object at x is a new one of the class E -/
def ob_ex (E : String) (x : Addr) (U : State) (H : Heap) : Prop := ∃ cell : Cell, H[x]? = some cell ∧ cell.vm = .none ∧ U.vm.findClass E = some cell.cls
/-- a method that throws a new E, and leaves the world ws -/
def ob_qT (D : va_G) (cl : List vw_C) (E : String) (ws : va_W) (A : Nat → Prop) : Array Value → State → Outcome → State → Prop := fun _ st o t => ∃ x, o = .threw x ∧ ob_ex E x st t.heap ∧ va_P D cl ws t.heap ∧ va_D A ws ∧ va_F A st t
theorem ob_ex.moved {E : String} {x : Addr} {u U : State} {H : Heap} (h : ob_ex E x u H) (hv : u.vm.Alike U.vm) : ob_ex E x U H := by
  obtain ⟨cell, h1, h2, h3⟩ := h
  exact ⟨cell, h1, h2, by rw [hv.findClass]; exact h3⟩
/-- worlds side by side, behind a call that had the second -/
theorem ob_join {A : Nat → Prop} {D : va_G} {cl : List vw_C} {X M M' : va_W} {H H1 : Heap} (hP : va_P D cl (X ++ M) H) (hD : va_D A (X ++ M)) (hk : ∀ q : Nat, q < H.size → ¬ va_A M H.size q → H1[q]? = H[q]?) (hF : ∀ q, va_A M H.size q → A q) (hP1 : va_P D cl M' H1) (hD1 : va_D (va_A M H.size) M') : va_P D cl (X ++ M') H1 ∧ va_D A (X ++ M') := by
  have left : ∀ (k : Nat) (q : Nat × va_E), X[k]? = some q → (X ++ M)[k]? = some q := fun k q hq => by
    rw [List.getElem?_append_left (List.getElem?_eq_some_iff.mp hq).1]; exact hq
  have right : ∀ (k : Nat) (q : Nat × va_E), M[k]? = some q → (X ++ M)[X.length + k]? = some q := fun k q hq => by
    rw [List.getElem?_append_right (Nat.le_add_right _ _), Nat.add_sub_cancel_left]; exact hq
  have apart : ∀ (k : Nat) (q : Nat × va_E), X[k]? = some q → q.1 < H.size ∧ ¬ va_A M H.size q.1 := by
    intro k q hq
    have hl := (hP k q (left k q hq)).lt
    refine ⟨hl, fun h => ?_⟩
    rcases h with ⟨k2, e, h⟩ | h
    · have := hD.1 k (X.length + k2) q (q.1, e) (left k q hq) (right k2 _ h) rfl
      have := (List.getElem?_eq_some_iff.mp hq).1
      omega
    · omega
  have hDX : va_D A X := ⟨fun i j x y hi hj h => hD.1 i j x y (left i x hi) (left j y hj) h, fun k q hq => hD.2 k q (left k q hq)⟩
  refine ⟨va_P.app (fun k q hq => ?_) hP1, va_D.app hDX (hD1.weaken (fun k q _ h => hF q.1 h)) (fun i j x y hx hy hxy => ?_)⟩
  · obtain ⟨g1, g2⟩ := apart k q hq
    exact (hP k q (left k q hq)).kept (hk q.1 g1 g2)
  · exact (apart i x hx).2 (by rw [hxy]; exact hD1.2 j y hy)
theorem ob_Pr {D : va_G} {cl : List vw_C} {X M : va_W} {H : Heap} (hP : va_P D cl (X ++ M) H) : va_P D cl M H := fun k q hq => hP (X.length + k) q (by rw [List.getElem?_append_right (Nat.le_add_right _ _), Nat.add_sub_cancel_left]; exact hq)
theorem ob_Pl {D : va_G} {cl : List vw_C} {X M : va_W} {H : Heap} (hP : va_P D cl (X ++ M) H) : va_P D cl X H := fun k q hq => hP k q (by rw [List.getElem?_append_left (List.getElem?_eq_some_iff.mp hq).1]; exact hq)
theorem ob_Dr {A : Nat → Prop} {X M : va_W} (hD : va_D A (X ++ M)) : va_D A M :=
  ⟨fun i j x y hi hj h => by
    have := hD.1 (X.length + i) (X.length + j) x y (by rw [List.getElem?_append_right (Nat.le_add_right _ _), Nat.add_sub_cancel_left]; exact hi) (by rw [List.getElem?_append_right (Nat.le_add_right _ _), Nat.add_sub_cancel_left]; exact hj) h
    omega, fun k q hq => hD.2 (X.length + k) q (by rw [List.getElem?_append_right (Nat.le_add_right _ _), Nat.add_sub_cancel_left]; exact hq)⟩
theorem ob_Fr_in {A : Nat → Prop} {X M : va_W} {H0 H : Heap} {locs : List Loc} (hD : va_D A (X ++ M)) (hS : va_S A H0 H locs) (hA : ∀ q, H0.size ≤ q → A q) : ∀ q, va_A M H.size q → A q := by
  intro q h
  rcases h with ⟨k, e, h⟩ | h
  · exact (ob_Dr hD).2 k (q, e) h
  · exact hA q (Nat.le_trans hS.1 h)
section OB5
variable {p : Program} {l : Launch} {e : Env} {R : Room} {s : State} {m : MethodId} {args : Array Value} {below : List Frame} {meth : Method} {c : Code} {H : Heap} {locs : List Loc} {cells slots : Nat} {Q : State → Prop}
variable {pc : Nat} {ls : Array Slot} {rest st0 : List Value} {a : Array Value} {mc ms : Nat} {free : Addr → Prop} {D : va_G} {cl : List vw_C} {A : Nat → Prop} {H0 : Heap} {X M M' : va_W}
theorem ob_callR {v : Option Value} (hr : ob_Run p l e R s m args below meth c H locs cells slots 0 0 (F0 m pc ls st0) rest (ob_qR v a) (fun _ => False))
    (kk : W p l e R s m args below meth c H locs cells slots Q (F0 m (pc + 3) ls (v.toList ++ rest))) : W p l e R s m args below meth c H locs cells slots Q (F0 m pc ls st0) := by
  intro T hT X
  obtain ⟨o, st₀, t, T', L, h0, hal, X', hL, e1, e2, ⟨ho, hh⟩, hret, -⟩ := hr T hT X
  have hLn : L = [] := by
    cases L with
    | nil => rfl
    | cons q r => exact absurd (hL q List.mem_cons_self) id
  subst hLn
  rw [List.append_nil] at X'
  obtain ⟨t2, a1, b1⟩ := kk T' (e1.trans (hh.trans h0)) X'
  exact ⟨t2, hret v ho t2 a1, b1⟩
theorem ob_callW {v : Option Value} (hr : ob_Run p l e R s m args below meth c H locs cells slots mc ms (F0 m pc ls st0) rest (ob_qW D cl v M' (va_A M H.size) a) (va_A M H.size)) (hP : va_P D cl (X ++ M) H) (hD : va_D A (X ++ M)) (hS : va_S A H0 H locs) (hA : ∀ q, H0.size ≤ q → A q)
    (kk : ∀ (H1 : Heap) (locs1 : List Loc), va_P D cl (X ++ M') H1 → va_D A (X ++ M') → va_S A H0 H1 locs1 → W p l e R s m args below meth c H1 locs1 (cells + mc) (slots + ms) Q (F0 m (pc + 3) ls (v.toList ++ rest))) : W p l e R s m args below meth c H locs cells slots Q (F0 m pc ls st0) := by
  intro T hT Xs
  obtain ⟨o, st₀, t, T', L, h0, hal, X', hL, e1, e2, ⟨ho, hP1, hD1, hz, hk⟩, hret, -⟩ := hr T hT Xs
  rw [h0] at hz hk
  have hF := ob_Fr_in hD hS hA
  obtain ⟨hP2, hD2⟩ := ob_join hP hD (H1 := t.heap) hk hF hP1 hD1
  obtain ⟨t2, a1, b1⟩ := kk t.heap (locs ++ L) hP2 hD2 ⟨Nat.le_trans hS.1 hz, fun q h1 h2 => by rw [hk q (Nat.lt_of_lt_of_le h1 hS.1) (fun z => h2 (hF q z))]; exact hS.2.1 q h1 h2, fun q hq => by
      rcases List.mem_append.mp hq with h | h
      · exact hS.2.2 q h
      · exact hF _ (hL q h)⟩ T' e1 X'
  exact ⟨t2, hret v ho t2 a1, b1⟩
theorem ob_callT {E : String} (hr : ob_Run p l e R s m args below meth c H locs cells slots mc ms (F0 m pc ls st0) rest (ob_qT D cl E M' (va_A M H.size) a) (va_A M H.size)) (hP : va_P D cl (X ++ M) H) (hD : va_D A (X ++ M)) (hS : va_S A H0 H locs) (hA : ∀ q, H0.size ≤ q → A q)
    (kk : ∀ (x : Addr) (H1 : Heap) (locs1 : List Loc), ob_ex E x s H1 → va_P D cl (X ++ M') H1 → va_D A (X ++ M') → va_S A H0 H1 locs1 → ob_T p l e R s m args below meth c H1 locs1 (cells + mc) (slots + ms) Q (F0 m pc ls rest) x) : W p l e R s m args below meth c H locs cells slots Q (F0 m pc ls st0) := by
  intro T hT Xs
  obtain ⟨o, st₀, t, T', L, h0, hal, X', hL, e1, e2, ⟨x, ho, ⟨cell, hx1, hx2, hx3⟩, hP1, hD1, hz, hk⟩, -, hthr⟩ := hr T hT Xs
  rw [h0] at hz hk
  have hF := ob_Fr_in hD hS hA
  obtain ⟨hP2, hD2⟩ := ob_join hP hD (H1 := t.heap) hk hF hP1 hD1
  obtain ⟨t2, a1, b1⟩ := kk x t.heap (locs ++ L) ⟨cell, hx1, hx2, by rw [← hal.findClass]; exact hx3⟩ hP2 hD2 ⟨Nat.le_trans hS.1 hz, fun q h1 h2 => by rw [hk q (Nat.lt_of_lt_of_le h1 hS.1) (fun z => h2 (hF q z))]; exact hS.2.1 q h1 h2, fun q hq => by
      rcases List.mem_append.mp hq with h | h
      · exact hS.2.2 q h
      · exact hF _ (hL q h)⟩ T' e1 X'
  exact ⟨t2, hthr x ho t2 a1, b1⟩
/-- out of the method by the exception -/
theorem ob_leave {Qc : Array Value → State → Outcome → State → Prop} {x : Addr} (hlocks : meth.locks = false) (hout : ∀ y ∈ c.exceptionTable.toList, covers y pc = false) (hq : ∀ t : State, t.heap = H → s.WarmedH t.vm → Qc args s (.threw x) t) (hf : ∀ q ∈ locs, free q.base) :
    ob_T p l e R s m args below meth c H locs cells slots (ob_Q below Qc args s cells slots free) (F0 m pc ls rest) x := by
  intro T hT X
  obtain ⟨h1, h2, h3, h4, h5⟩ := X.leaveThrown x (g := F0 m pc ls rest) rfl rfl rfl hout hlocks
  exact ⟨_, h1, .threw x, h2, h3, hq _ hT h4, locs, ⟨h4, h5⟩, hf⟩
/-- into a handler of the method's own -/
theorem ob_caught {x : Addr} {tgt : Nat} (hfind : ∀ T : State, T.heap = H → Stand p l e R s m args below meth c T locs cells slots → Finds e ((T.setTop (F0 m pc ls rest)).pushFrame (.throwing x)) (F0 m pc ls rest) x (.found tgt))
    (kk : W p l e R s m args below meth c H locs cells slots Q (F0 m tgt ls [.ref x])) : ob_T p l e R s m args below meth c H locs cells slots Q (F0 m pc ls rest) x := by
  intro T hT X
  obtain ⟨t, a1, b1⟩ := kk T hT X
  exact ⟨t, X.catchAt x rfl (hfind T hT X) a1, b1⟩
theorem ob_iret {cc : ByteArray} {Qc : Array Value → State → Outcome → State → Prop} {v : Int32} (hlocks : meth.locks = false) (hexec : p.tables.exec = Jvm.exec) (hb : c.code = cc) (hr : meth.sig.returnType = some .int)
    (hdg : decode cc pc = .ok (.ireturn, 1)) (hf : ∀ q ∈ locs, free q.base) (hq : ∀ t : State, t.heap = H → s.WarmedH t.vm → Qc args s (.returned (some (.int v))) t) : W p l e R s m args below meth c H locs cells slots (ob_Q below Qc args s cells slots free) (F0 m pc ls [.int v]) :=
  ob_mono ob_of_MQ (W.iret hexec hb hr hq hf hdg hlocks)
theorem ob_zret {cc : ByteArray} {Qc : Array Value → State → Outcome → State → Prop} {v : Int32} (hlocks : meth.locks = false) (hexec : p.tables.exec = Jvm.exec) (hb : c.code = cc) (hr : meth.sig.returnType = some .boolean)
    (hdg : decode cc pc = .ok (.ireturn, 1)) (hn : narrow .boolean (.int v) = .int v) (hf : ∀ q ∈ locs, free q.base) (hq : ∀ t : State, t.heap = H → s.WarmedH t.vm → Qc args s (.returned (some (.int v))) t) : W p l e R s m args below meth c H locs cells slots (ob_Q below Qc args s cells slots free) (F0 m pc ls [.int v]) :=
  ob_mono ob_of_MQ (W.zret hexec hb hr hn hq hf hdg hlocks)
theorem ob_vret {cc : ByteArray} {Qc : Array Value → State → Outcome → State → Prop} (hlocks : meth.locks = false) (hexec : p.tables.exec = Jvm.exec) (hb : c.code = cc) (hr : meth.sig.returnType = none)
    (hdg : decode cc pc = .ok (.return_, 1)) (hf : ∀ q ∈ locs, free q.base) (hq : ∀ t : State, t.heap = H → s.WarmedH t.vm → Qc args s (.returned none) t) : W p l e R s m args below meth c H locs cells slots (ob_Q below Qc args s cells slots free) (F0 m pc ls []) :=
  ob_mono ob_of_MQ (W.vret hexec hb hr hq hf hdg hlocks)
/-- nothing that was there has changed, where no slot is named -/
theorem ob_old {st t : State} {k n : Nat} (h : st.sameButNew ({ t with vm := st.vm } : State) [] k n) : st.heap.size ≤ t.heap.size ∧ ∀ q : Nat, q < st.heap.size → t.heap[q]? = st.heap[q]? := by
  obtain ⟨-, h1, -, -, -, h2⟩ := h
  refine ⟨h1, fun q hq => ?_⟩
  have h3 : st.heap[q]? = some st.heap[q] := Array.getElem?_eq_getElem hq
  obtain ⟨c', g1, g2, -, g3⟩ := h2 q _ h3
  have g4 : c'.slots = (st.heap[q]).slots := Array.ext_getElem? fun i => g3 i (by simp)
  rw [g4] at g2
  have g5 : t.heap[q]? = some c' := g1
  rw [g5, h3, g2]
/-- throw new E(text), whole: new, dup, ldc, invokespecial, athrow; nothing was written before -/
theorem ob_throwNew {cc : ByteArray} {Qc : Array Value → State → Outcome → State → Prop} {own E tx : String} {names : List String} {ic ie it q : Nat} (hlocks : meth.locks = false) (hexec : p.tables.exec = Jvm.exec) (hb : c.code = cc) (hml : c.maxLocals = ls.size) (htr : e.platform.stackTraces = false) (hown : s.vm.findClass own = some m.cls)
    (hcls : Bundle.fit E = true) (hnames : ∀ n ∈ names, Bundle.fit n = true) (h : ∀ w ∈ Bundle.ownAtoms own ic E names, w.before args s = true) (hcl : (Cond.classLink own ie E).before args s = true) (hins : (Cond.instantiable E 6).before args s = true) (hini : (Cond.initialized E).before args s = true) (hZ : vk_R own it tx q s)
    (hd0 : decode cc pc = .ok (.new ie, 3)) (hd3 : decode cc (pc + 3) = .ok (.dup, 1)) (hd4 : decode cc (pc + 4) = .ok (.ldc it, 2)) (hd6 : decode cc (pc + 6) = .ok (.invokespecial ic, 3)) (hd9 : decode cc (pc + 9) = .ok (.athrow, 1)) (hout : ∀ y ∈ c.exceptionTable.toList, covers y (pc + 9) = false)
    (hRc : cells + 1 ≤ R.cells) (hRs : slots + 6 ≤ R.slots) (hRf : names.length + 3 < R.frames) (hRl : (rest.map fun v => v.category).sum + (13 * (names.length + 1) + 43) ≤ R.locals)
    (hq : ∀ (x : Addr) (t : State), ob_ex E x s t.heap → s.heap.size ≤ t.heap.size → (∀ q : Nat, q < s.heap.size → t.heap[q]? = s.heap[q]?) → s.WarmedH t.vm → Qc args s (.threw x) t) :
    W p l e R s m args below meth c s.heap [] cells slots (ob_Q below Qc args s (cells + 1) (slots + 6) free) (F0 m pc ls rest) := by
  refine W.newc hexec hb hown hcl hins hini rfl hd0 hRc hRs fun cC kC h1 h2 h3 h4 => ?_
  refine lv_dup hexec hb hd3 rfl ?_
  refine va_ldcS hexec hb hown hZ hd4 ?_
  intro T hT X
  subst hb
  have hx : T.heap[s.heap.size]? = some (freshCell cC kC) := by rw [hT]; simp
  obtain ⟨U, g1, g2, g3, g4, g5, ce, g6, g7⟩ := X.ctorThrowS hexec htr hown hcls hnames h (fun x hx => by cases hx) h1 h2 (a := s.heap.size) hx (Nat.le_refl _) (msg := .ref q) rfl (g := F0 m (pc + 6) ls (.ref q :: .ref s.heap.size :: .ref s.heap.size :: rest)) rfl hml.symm rfl rfl (rest := rest) rfl hd6 hd9 hout hRf (by
    show 2 * 0 + ((Value.ref s.heap.size :: rest).map fun v => v.category).sum + _ ≤ _
    have hcat : (Value.ref s.heap.size).category = 1 := rfl
    simp only [List.map_cons, List.sum_cons, hcat]
    omega) hlocks
  obtain ⟨o1, o2⟩ := ob_old g5
  exact ⟨U, g1, .threw s.heap.size, g2, g3, hq _ U ⟨ce, g6, g7.vm, g7.cls⟩ o1 o2 g4, [], ⟨g4, g5⟩, fun x hx => by cases hx⟩
/-- a row of an array of arrays -/
theorem ob_aald {cc : ByteArray} {tys : List (ClassId × FieldType)} {ws : va_W} {b : Nat} (hexec : p.tables.exec = Jvm.exec) (hb : c.code = cc) (hK : va_K D cl tys s) (hP : va_P D cl ws H) (q0 t0 : Nat) {cA : ClassId} {n : Nat} {f : Nat → Option Nat} {ty : FieldType} (ha : ws[q0]? = some (b, .inl (cA, n, .inr (.inr (.inr (.inr f)))))) (ht : tys[t0]? = some (cA, .array ty)) {i : Int32} (hin : vp_in i n) (hdg : decode cc pc = .ok (.aaload, 1))
    (kk : W p l e R s m args below meth c H locs cells slots Q (F0 m (pc + 1) ls (va_rf (f i.toNatClampNeg) :: rest))) : W p l e R s m args below meth c H locs cells slots Q (F0 m pc ls (.int i :: .ref b :: rest)) := by
  have hlt : i.toNatClampNeg < n := Nat.not_le.mp fun q => hin (Or.inr q)
  exact W.aald (v := va_rf (f i.toNatClampNeg)) (ty := .array ty) hexec hb (hP q0 _ ha) ((hK.2 t0 _ ht).1 n (fun j => va_rf (f j))) rfl (fun q => by cases q) (by show ¬ (i < 0 ∨ (arrV _ _ _).slots.size ≤ _); rw [arrV_size]; exact hin) (by show (arrV _ _ _).slots[_]? = _; rw [arrV_read _ _ hlt]) rfl rfl hdg kk
end OB5
/-! pools: rows at the addresses b (o + i), i < n -/
def pl_rows (b : Nat → Nat) (o n k : Nat) (cI : ClassId) (r : Nat → Nat → Int32) : va_W := (List.range n).map fun i => (b (o + i), .inl (cI, k, .inl (r i)))
theorem pl_len {b : Nat → Nat} {o n k : Nat} {cI : ClassId} {r : Nat → Nat → Int32} : (pl_rows b o n k cI r).length = n := by simp [pl_rows]
theorem pl_get {b : Nat → Nat} {o n k : Nat} {cI : ClassId} {r : Nat → Nat → Int32} {X Y : va_W} {i j : Nat} (hi : i < n) (hj : j = X.length + i) : (X ++ (pl_rows b o n k cI r ++ Y))[j]? = some (b (o + i), .inl (cI, k, .inl (r i))) := by
  subst hj
  rw [List.getElem?_append_right (Nat.le_add_right _ _), Nat.add_sub_cancel_left, List.getElem?_append_left (by rw [pl_len]; exact hi)]
  simp [pl_rows, hi]
def up2 (r : Nat → Nat → Int32) (i : Nat) (f : Nat → Int32) : Nat → Nat → Int32 := fun j => if j = i then f else r j
theorem pl_set {b : Nat → Nat} {o n k : Nat} {cI : ClassId} {r : Nat → Nat → Int32} {X Y : va_W} {i j : Nat} {f : Nat → Int32} (hi : i < n) (hj : j = X.length + i) : (X ++ (pl_rows b o n k cI r ++ Y)).set j (b (o + i), .inl (cI, k, .inl f)) = X ++ (pl_rows b o n k cI (up2 r i f) ++ Y) := by
  subst hj
  rw [List.set_append_right _ _ (Nat.le_add_right _ _), Nat.add_sub_cancel_left, List.set_append_left _ _ (by rw [pl_len]; exact hi)]
  congr 2
  apply List.ext_getElem?
  intro z
  rw [List.getElem?_set]
  by_cases hz : i = z
  · subst hz
    simp [pl_rows, up2, hi]
  · rw [if_neg hz]
    by_cases hzn : z < n
    · simp [pl_rows, up2, hzn, Ne.symm hz]
    · simp [pl_rows, hzn]
end
section
/-! names, by program out of the Statement and the listing -/
def R_X : String := "ForkedSheets"
def R_M : String := "ForkedSheets$Memory"
def R_T : String := "ForkedSheetsModel"
def R_L : String := "ForkedSheetsLaw"
def R_A : String := "java/util/Arrays"
def R_Es : String := "java/lang/IllegalStateException"
def R_Ei : String := "java/lang/IndexOutOfBoundsException"
def R_En : String := "java/util/NoSuchElementException"
def F_X : u_T := fun k => match k with
  | 0 => ("ForkedSheets", "there", "[Z", true)
  | 1 => ("ForkedSheets", "sheets", "[[I", true)
  | 2 => ("ForkedSheets", "memory", "LForkedSheets$Memory;", true)
  | _ => ("ForkedSheets", "wordsCopied", "I", false)
def ty_X : Nat → FieldType := fun k => match k with
  | 0 => .array .boolean
  | 1 => .array (.array .int)
  | 2 => .object "ForkedSheets$Memory"
  | _ => .int
theorem n_X : ∀ a, a < 4 → ∀ b, b < 4 → a ≠ b → (F_X a).2.1 ≠ (F_X b).2.1 := by decide +kernel
theorem ty_X_ok : ∀ k, k < 4 → parseFieldDescriptor (F_X k).2.2.1 = some (ty_X k) := by decide +kernel
theorem in_X : ∀ w ∈ u_ws R_X F_X 4, w ∈ lw_tbl := by decide +kernel
def F_M : u_T := fun k => match k with
  | 0 => ("ForkedSheets$Memory", "inFrame", "[I", true)
  | 1 => ("ForkedSheets$Memory", "inSlot", "[I", true)
  | 2 => ("ForkedSheets$Memory", "marks", "[Z", true)
  | 3 => ("ForkedSheets$Memory", "places", "[I", true)
  | 4 => ("ForkedSheets$Memory", "pageCounts", "[I", true)
  | 5 => ("ForkedSheets$Memory", "words", "[[I", true)
  | 6 => ("ForkedSheets$Memory", "handAt", "I", false)
  | 7 => ("ForkedSheets$Memory", "faultCount", "I", false)
  | _ => ("ForkedSheets$Memory", "evictedCount", "I", false)
def ty_M : Nat → FieldType := fun k => match k with
  | 0 => .array .int
  | 1 => .array .int
  | 2 => .array .boolean
  | 3 => .array .int
  | 4 => .array .int
  | 5 => .array (.array .int)
  | 6 => .int
  | 7 => .int
  | _ => .int
theorem n_M : ∀ a, a < 9 → ∀ b, b < 9 → a ≠ b → (F_M a).2.1 ≠ (F_M b).2.1 := by decide +kernel
theorem ty_M_ok : ∀ k, k < 9 → parseFieldDescriptor (F_M k).2.2.1 = some (ty_M k) := by decide +kernel
theorem in_M : ∀ w ∈ u_ws R_M F_M 9, w ∈ lw_tbl := by decide +kernel
def F_T : u_T := fun k => match k with
  | 0 => ("ForkedSheetsModel", "thrown", "I", false)
  | 1 => ("ForkedSheetsModel", "frames", "I", true)
  | 2 => ("ForkedSheetsModel", "slots", "I", true)
  | 3 => ("ForkedSheetsModel", "marks", "[Z", true)
  | 4 => ("ForkedSheetsModel", "hand", "I", false)
  | 5 => ("ForkedSheetsModel", "lies", "[I", true)
  | 6 => ("ForkedSheetsModel", "words", "[I", true)
  | 7 => ("ForkedSheetsModel", "there", "[Z", true)
  | 8 => ("ForkedSheetsModel", "pages", "[I", true)
  | 9 => ("ForkedSheetsModel", "faults", "I", false)
  | 10 => ("ForkedSheetsModel", "evictions", "I", false)
  | _ => ("ForkedSheetsModel", "copies", "I", false)
def ty_T : Nat → FieldType := fun k => match k with
  | 0 => .int
  | 1 => .int
  | 2 => .int
  | 3 => .array .boolean
  | 4 => .int
  | 5 => .array .int
  | 6 => .array .int
  | 7 => .array .boolean
  | 8 => .array .int
  | 9 => .int
  | 10 => .int
  | _ => .int
theorem n_T : ∀ a, a < 12 → ∀ b, b < 12 → a ≠ b → (F_T a).2.1 ≠ (F_T b).2.1 := by decide +kernel
theorem ty_T_ok : ∀ k, k < 12 → parseFieldDescriptor (F_T k).2.2.1 = some (ty_T k) := by decide +kernel
theorem in_T : ∀ w ∈ u_ws R_T F_T 12, w ∈ lw_tbl := by decide +kernel
abbrev vcl : List vw_C := [(R_X, F_X, 4), (R_M, F_M, 9), (R_T, F_T, 12)]
abbrev b_X_init : ByteArray := prog_1_method_1_code
def y_X_init : MethodName := ⟨R_X, "<init>", "(II)V"⟩
abbrev w_X_init : Cond := Cond.code y_X_init b_X_init 4 none
abbrev b_M_init : ByteArray := prog_2_method_1_code
def y_M_init : MethodName := ⟨R_M, "<init>", "(II)V"⟩
abbrev w_M_init : Cond := Cond.code y_M_init b_M_init 3 none
abbrev b_X_freeRow : ByteArray := prog_1_method_30_code
def y_X_freeRow : MethodName := ⟨R_X, "freeRow", "(I)[I"⟩
abbrev w_X_freeRow : Cond := Cond.code y_X_freeRow b_X_freeRow 2 (some (.array .int))
abbrev b_A_fill : ByteArray := prog_13_method_103_code
def y_A_fill : MethodName := ⟨R_A, "fill", "([II)V"⟩
abbrev w_A_fill : Cond := Cond.code y_A_fill b_A_fill 4 none
abbrev b_X_copied : ByteArray := prog_1_method_9_code
def y_X_copied : MethodName := ⟨R_X, "copied", "()I"⟩
abbrev w_X_copied : Cond := Cond.code y_X_copied b_X_copied 1 (some .int)
abbrev b_X_where : ByteArray := prog_1_method_10_code
def y_X_where : MethodName := ⟨R_X, "where", "(II)I"⟩
abbrev w_X_where : Cond := Cond.code y_X_where b_X_where 4 (some .int)
abbrev b_X_sheetOf : ByteArray := prog_1_method_23_code
def y_X_sheetOf : MethodName := ⟨R_X, "sheetOf", "(II)I"⟩
abbrev w_X_sheetOf : Cond := Cond.code y_X_sheetOf b_X_sheetOf 3 (some .int)
abbrev b_X_isThere : ByteArray := prog_1_method_12_code
def y_X_isThere : MethodName := ⟨R_X, "isThere", "(I)Z"⟩
abbrev w_X_isThere : Cond := Cond.code y_X_isThere b_X_isThere 2 (some .boolean)
abbrev b_M_placeOf : ByteArray := prog_2_method_2_code
def y_M_placeOf : MethodName := ⟨R_M, "placeOf", "(I)I"⟩
abbrev w_M_placeOf : Cond := Cond.code y_M_placeOf b_M_placeOf 2 (some .int)
abbrev b_X_sharers : ByteArray := prog_1_method_11_code
def y_X_sharers : MethodName := ⟨R_X, "sharers", "(II)I"⟩
abbrev w_X_sharers : Cond := Cond.code y_X_sharers b_X_sharers 4 (some .int)
abbrev b_M_pagesOf : ByteArray := prog_2_method_3_code
def y_M_pagesOf : MethodName := ⟨R_M, "pagesOf", "(I)I"⟩
abbrev w_M_pagesOf : Cond := Cond.code y_M_pagesOf b_M_pagesOf 2 (some .int)
abbrev b_X_marked : ByteArray := prog_1_method_13_code
def y_X_marked : MethodName := ⟨R_X, "marked", "(I)Z"⟩
abbrev w_X_marked : Cond := Cond.code y_X_marked b_X_marked 2 (some .boolean)
abbrev b_M_hasMark : ByteArray := prog_2_method_4_code
def y_M_hasMark : MethodName := ⟨R_M, "hasMark", "(I)Z"⟩
abbrev w_M_hasMark : Cond := Cond.code y_M_hasMark b_M_hasMark 2 (some .boolean)
abbrev b_X_hand : ByteArray := prog_1_method_14_code
def y_X_hand : MethodName := ⟨R_X, "hand", "()I"⟩
abbrev w_X_hand : Cond := Cond.code y_X_hand b_X_hand 1 (some .int)
abbrev b_X_freeFrames : ByteArray := prog_1_method_15_code
def y_X_freeFrames : MethodName := ⟨R_X, "freeFrames", "()I"⟩
abbrev w_X_freeFrames : Cond := Cond.code y_X_freeFrames b_X_freeFrames 1 (some .int)
abbrev b_X_countFree : ByteArray := prog_1_method_29_code
def y_X_countFree : MethodName := ⟨R_X, "countFree", "([I)I"⟩
abbrev w_X_countFree : Cond := Cond.code y_X_countFree b_X_countFree 3 (some .int)
abbrev b_X_freeSlots : ByteArray := prog_1_method_16_code
def y_X_freeSlots : MethodName := ⟨R_X, "freeSlots", "()I"⟩
abbrev w_X_freeSlots : Cond := Cond.code y_X_freeSlots b_X_freeSlots 1 (some .int)
abbrev b_X_faults : ByteArray := prog_1_method_17_code
def y_X_faults : MethodName := ⟨R_X, "faults", "()I"⟩
abbrev w_X_faults : Cond := Cond.code y_X_faults b_X_faults 1 (some .int)
abbrev b_X_evicted : ByteArray := prog_1_method_18_code
def y_X_evicted : MethodName := ⟨R_X, "evicted", "()I"⟩
abbrev w_X_evicted : Cond := Cond.code y_X_evicted b_X_evicted 1 (some .int)
abbrev b_L_cell : ByteArray := method_2_code
def y_L_cell : MethodName := ⟨R_L, "cell", "([II)I"⟩
abbrev w_L_cell : Cond := Cond.code y_L_cell b_L_cell 2 (some .int)
abbrev b_L_spawn : ByteArray := method_3_code
def y_L_spawn : MethodName := ⟨R_L, "spawn", "(LForkedSheets;[J)I"⟩
abbrev w_L_spawn : Cond := Cond.codeWith y_L_spawn b_L_spawn 3 (some .int) [(0, 8, 11, 13)]
abbrev b_X_spawn : ByteArray := prog_1_method_2_code
def y_X_spawn : MethodName := ⟨R_X, "spawn", "()I"⟩
abbrev w_X_spawn : Cond := Cond.code y_X_spawn b_X_spawn 2 (some .int)
abbrev b_X_lowestNotThere : ByteArray := prog_1_method_22_code
def y_X_lowestNotThere : MethodName := ⟨R_X, "lowestNotThere", "()I"⟩
abbrev w_X_lowestNotThere : Cond := Cond.code y_X_lowestNotThere b_X_lowestNotThere 2 (some .int)
abbrev b_L_fork : ByteArray := method_4_code
def y_L_fork : MethodName := ⟨R_L, "fork", "(LForkedSheets;I[J)I"⟩
abbrev w_L_fork : Cond := Cond.codeWith y_L_fork b_L_fork 4 (some .int) [(0, 9, 12, 19), (0, 9, 15, 13)]
abbrev b_X_fork : ByteArray := prog_1_method_3_code
def y_X_fork : MethodName := ⟨R_X, "fork", "(I)I"⟩
abbrev w_X_fork : Cond := Cond.code y_X_fork b_X_fork 5 (some .int)
abbrev b_X_requireProcess : ByteArray := prog_1_method_19_code
def y_X_requireProcess : MethodName := ⟨R_X, "requireProcess", "(I)V"⟩
abbrev w_X_requireProcess : Cond := Cond.code y_X_requireProcess b_X_requireProcess 2 none
abbrev b_M_join : ByteArray := prog_2_method_9_code
def y_M_join : MethodName := ⟨R_M, "join", "(I)V"⟩
abbrev w_M_join : Cond := Cond.code y_M_join b_M_join 2 none
abbrev b_L_exit : ByteArray := method_5_code
def y_L_exit : MethodName := ⟨R_L, "exit", "(LForkedSheets;I[J)I"⟩
abbrev w_L_exit : Cond := Cond.codeWith y_L_exit b_L_exit 4 (some .int) [(0, 9, 12, 19)]
abbrev b_X_exit : ByteArray := prog_1_method_4_code
def y_X_exit : MethodName := ⟨R_X, "exit", "(I)I"⟩
abbrev w_X_exit : Cond := Cond.code y_X_exit b_X_exit 4 (some .int)
abbrev b_X_emptyPage : ByteArray := prog_1_method_24_code
def y_X_emptyPage : MethodName := ⟨R_X, "emptyPage", "(II)Z"⟩
abbrev w_X_emptyPage : Cond := Cond.code y_X_emptyPage b_X_emptyPage 4 (some .boolean)
abbrev b_M_leave : ByteArray := prog_2_method_10_code
def y_M_leave : MethodName := ⟨R_M, "leave", "(I)Z"⟩
abbrev w_M_leave : Cond := Cond.code y_M_leave b_M_leave 2 (some .boolean)
abbrev b_M_freePlace : ByteArray := prog_2_method_14_code
def y_M_freePlace : MethodName := ⟨R_M, "freePlace", "(I)V"⟩
abbrev w_M_freePlace : Cond := Cond.code y_M_freePlace b_M_freePlace 2 none
abbrev b_L_drop : ByteArray := method_6_code
def y_L_drop : MethodName := ⟨R_L, "drop", "(LForkedSheets;II[J)I"⟩
abbrev w_L_drop : Cond := Cond.codeWith y_L_drop b_L_drop 5 (some .int) [(0, 17, 20, 19), (0, 17, 24, 28)]
abbrev b_X_drop : ByteArray := prog_1_method_5_code
def y_X_drop : MethodName := ⟨R_X, "drop", "(II)Z"⟩
abbrev w_X_drop : Cond := Cond.code y_X_drop b_X_drop 3 (some .boolean)
abbrev b_L_load : ByteArray := method_7_code
def y_L_load : MethodName := ⟨R_L, "load", "(LForkedSheets;II[J)I"⟩
abbrev w_L_load : Cond := Cond.codeWith y_L_load b_L_load 5 (some .int) [(0, 10, 13, 19), (0, 10, 17, 28)]
abbrev b_X_load : ByteArray := prog_1_method_6_code
def y_X_load : MethodName := ⟨R_X, "load", "(II)I"⟩
abbrev w_X_load : Cond := Cond.code y_X_load b_X_load 3 (some .int)
abbrev b_X_requireAddress : ByteArray := prog_1_method_20_code
def y_X_requireAddress : MethodName := ⟨R_X, "requireAddress", "(I)V"⟩
abbrev w_X_requireAddress : Cond := Cond.code y_X_requireAddress b_X_requireAddress 1 none
abbrev b_X_loadWord : ByteArray := prog_1_method_25_code
def y_X_loadWord : MethodName := ⟨R_X, "loadWord", "(II)I"⟩
abbrev w_X_loadWord : Cond := Cond.code y_X_loadWord b_X_loadWord 4 (some .int)
abbrev b_M_read : ByteArray := prog_2_method_5_code
def y_M_read : MethodName := ⟨R_M, "read", "(II)I"⟩
abbrev w_M_read : Cond := Cond.code y_M_read b_M_read 3 (some .int)
abbrev b_M_touch : ByteArray := prog_2_method_11_code
def y_M_touch : MethodName := ⟨R_M, "touch", "(I)V"⟩
abbrev w_M_touch : Cond := Cond.code y_M_touch b_M_touch 2 none
abbrev b_M_bringIn : ByteArray := prog_2_method_12_code
def y_M_bringIn : MethodName := ⟨R_M, "bringIn", "(I)V"⟩
abbrev w_M_bringIn : Cond := Cond.code y_M_bringIn b_M_bringIn 2 none
abbrev b_M_getFrame : ByteArray := prog_2_method_15_code
def y_M_getFrame : MethodName := ⟨R_M, "getFrame", "()I"⟩
abbrev w_M_getFrame : Cond := Cond.code y_M_getFrame b_M_getFrame 3 (some .int)
abbrev b_X_lowestFree : ByteArray := prog_1_method_28_code
def y_X_lowestFree : MethodName := ⟨R_X, "lowestFree", "([I)I"⟩
abbrev w_X_lowestFree : Cond := Cond.code y_X_lowestFree b_X_lowestFree 2 (some .int)
abbrev b_M_evictInto : ByteArray := prog_2_method_16_code
def y_M_evictInto : MethodName := ⟨R_M, "evictInto", "(I)I"⟩
abbrev w_M_evictInto : Cond := Cond.code y_M_evictInto b_M_evictInto 4 (some .int)
abbrev b_M_moveHand : ByteArray := prog_2_method_17_code
def y_M_moveHand : MethodName := ⟨R_M, "moveHand", "()V"⟩
abbrev w_M_moveHand : Cond := Cond.code y_M_moveHand b_M_moveHand 1 none
abbrev b_M_layIntoFrame : ByteArray := prog_2_method_13_code
def y_M_layIntoFrame : MethodName := ⟨R_M, "layIntoFrame", "(II)V"⟩
abbrev w_M_layIntoFrame : Cond := Cond.code y_M_layIntoFrame b_M_layIntoFrame 3 none
abbrev b_L_store : ByteArray := method_8_code
def y_L_store : MethodName := ⟨R_L, "store", "(LForkedSheets;III)I"⟩
abbrev w_L_store : Cond := Cond.codeWith y_L_store b_L_store 5 (some .int) [(0, 7, 10, 19), (0, 7, 14, 28), (0, 7, 18, 13)]
abbrev b_X_store : ByteArray := prog_1_method_7_code
def y_X_store : MethodName := ⟨R_X, "store", "(III)V"⟩
abbrev w_X_store : Cond := Cond.code y_X_store b_X_store 4 none
abbrev b_X_storeWord : ByteArray := prog_1_method_26_code
def y_X_storeWord : MethodName := ⟨R_X, "storeWord", "(III)V"⟩
abbrev w_X_storeWord : Cond := Cond.code y_X_storeWord b_X_storeWord 6 none
abbrev b_X_giveOwnSheet : ByteArray := prog_1_method_27_code
def y_X_giveOwnSheet : MethodName := ⟨R_X, "giveOwnSheet", "(II)I"⟩
abbrev w_X_giveOwnSheet : Cond := Cond.code y_X_giveOwnSheet b_X_giveOwnSheet 5 (some .int)
abbrev b_M_make : ByteArray := prog_2_method_8_code
def y_M_make : MethodName := ⟨R_M, "make", "()I"⟩
abbrev w_M_make : Cond := Cond.code y_M_make b_M_make 3 (some .int)
abbrev b_M_copyWords : ByteArray := prog_2_method_7_code
def y_M_copyWords : MethodName := ⟨R_M, "copyWords", "(II)V"⟩
abbrev w_M_copyWords : Cond := Cond.code y_M_copyWords b_M_copyWords 3 none
abbrev b_M_write : ByteArray := prog_2_method_6_code
def y_M_write : MethodName := ⟨R_M, "write", "(III)V"⟩
abbrev w_M_write : Cond := Cond.code y_M_write b_M_write 4 none
abbrev b_L_copy : ByteArray := method_9_code
def y_L_copy : MethodName := ⟨R_L, "copy", "(LForkedSheets;IIII)I"⟩
abbrev w_L_copy : Cond := Cond.codeWith y_L_copy b_L_copy 6 (some .int) [(0, 9, 12, 19), (0, 9, 16, 28), (0, 9, 20, 13)]
abbrev b_X_copy : ByteArray := prog_1_method_8_code
def y_X_copy : MethodName := ⟨R_X, "copy", "(IIII)V"⟩
abbrev w_X_copy : Cond := Cond.code y_X_copy b_X_copy 6 none
abbrev b_X_requireRange : ByteArray := prog_1_method_21_code
def y_X_requireRange : MethodName := ⟨R_X, "requireRange", "(II)V"⟩
abbrev w_X_requireRange : Cond := Cond.code y_X_requireRange b_X_requireRange 2 none
abbrev b_T_init : ByteArray := prog_4_method_1_code
def y_T_init : MethodName := ⟨R_T, "<init>", "(II)V"⟩
abbrev w_T_init : Cond := Cond.code y_T_init b_T_init 4 none
abbrev b_T_thrown : ByteArray := prog_4_method_2_code
def y_T_thrown : MethodName := ⟨R_T, "thrown", "()I"⟩
abbrev w_T_thrown : Cond := Cond.code y_T_thrown b_T_thrown 1 (some .int)
abbrev b_T_spawn : ByteArray := prog_4_method_15_code
def y_T_spawn : MethodName := ⟨R_T, "spawn", "()I"⟩
abbrev w_T_spawn : Cond := Cond.code y_T_spawn b_T_spawn 2 (some .int)
abbrev b_T_lowestProcess : ByteArray := prog_4_method_14_code
def y_T_lowestProcess : MethodName := ⟨R_T, "lowestProcess", "()I"⟩
abbrev w_T_lowestProcess : Cond := Cond.code y_T_lowestProcess b_T_lowestProcess 2 (some .int)
abbrev b_T_fork : ByteArray := prog_4_method_16_code
def y_T_fork : MethodName := ⟨R_T, "fork", "(I)I"⟩
abbrev w_T_fork : Cond := Cond.code y_T_fork b_T_fork 4 (some .int)
abbrev b_T_isProcess : ByteArray := prog_4_method_13_code
def y_T_isProcess : MethodName := ⟨R_T, "isProcess", "(I)Z"⟩
abbrev w_T_isProcess : Cond := Cond.code y_T_isProcess b_T_isProcess 2 (some .boolean)
abbrev b_T_exit : ByteArray := prog_4_method_17_code
def y_T_exit : MethodName := ⟨R_T, "exit", "(I)I"⟩
abbrev w_T_exit : Cond := Cond.code y_T_exit b_T_exit 4 (some .int)
abbrev b_T_empty : ByteArray := prog_4_method_12_code
def y_T_empty : MethodName := ⟨R_T, "empty", "(I)Z"⟩
abbrev w_T_empty : Cond := Cond.code y_T_empty b_T_empty 3 (some .boolean)
abbrev b_T_owners : ByteArray := prog_4_method_6_code
def y_T_owners : MethodName := ⟨R_T, "owners", "(I)I"⟩
abbrev w_T_owners : Cond := Cond.code y_T_owners b_T_owners 4 (some .int)
abbrev b_T_drop : ByteArray := prog_4_method_18_code
def y_T_drop : MethodName := ⟨R_T, "drop", "(II)Z"⟩
abbrev w_T_drop : Cond := Cond.code y_T_drop b_T_drop 3 (some .boolean)
abbrev b_T_load : ByteArray := prog_4_method_23_code
def y_T_load : MethodName := ⟨R_T, "load", "(II)I"⟩
abbrev w_T_load : Cond := Cond.code y_T_load b_T_load 3 (some .int)
abbrev b_T_isAddress : ByteArray := prog_4_method_19_code
def y_T_isAddress : MethodName := ⟨R_T, "isAddress", "(I)Z"⟩
abbrev w_T_isAddress : Cond := Cond.code y_T_isAddress b_T_isAddress 1 (some .boolean)
abbrev b_T_loaded : ByteArray := prog_4_method_20_code
def y_T_loaded : MethodName := ⟨R_T, "loaded", "(II)I"⟩
abbrev w_T_loaded : Cond := Cond.code y_T_loaded b_T_loaded 4 (some .int)
abbrev b_T_bringIn : ByteArray := prog_4_method_11_code
def y_T_bringIn : MethodName := ⟨R_T, "bringIn", "(I)V"⟩
abbrev w_T_bringIn : Cond := Cond.code y_T_bringIn b_T_bringIn 3 none
abbrev b_T_getFrame : ByteArray := prog_4_method_8_code
def y_T_getFrame : MethodName := ⟨R_T, "getFrame", "()I"⟩
abbrev w_T_getFrame : Cond := Cond.code y_T_getFrame b_T_getFrame 4 (some .int)
abbrev b_T_lowestFrame : ByteArray := prog_4_method_4_code
def y_T_lowestFrame : MethodName := ⟨R_T, "lowestFrame", "()I"⟩
abbrev w_T_lowestFrame : Cond := Cond.code y_T_lowestFrame b_T_lowestFrame 2 (some .int)
abbrev b_T_sheetAt : ByteArray := prog_4_method_3_code
def y_T_sheetAt : MethodName := ⟨R_T, "sheetAt", "(I)I"⟩
abbrev w_T_sheetAt : Cond := Cond.code y_T_sheetAt b_T_sheetAt 3 (some .int)
abbrev b_T_turn : ByteArray := prog_4_method_7_code
def y_T_turn : MethodName := ⟨R_T, "turn", "()V"⟩
abbrev w_T_turn : Cond := Cond.code y_T_turn b_T_turn 1 none
abbrev b_T_lowestSlot : ByteArray := prog_4_method_5_code
def y_T_lowestSlot : MethodName := ⟨R_T, "lowestSlot", "()I"⟩
abbrev w_T_lowestSlot : Cond := Cond.code y_T_lowestSlot b_T_lowestSlot 2 (some .int)
abbrev b_T_store : ByteArray := prog_4_method_24_code
def y_T_store : MethodName := ⟨R_T, "store", "(III)V"⟩
abbrev w_T_store : Cond := Cond.code y_T_store b_T_store 4 none
abbrev b_T_needs : ByteArray := prog_4_method_21_code
def y_T_needs : MethodName := ⟨R_T, "needs", "(II)Z"⟩
abbrev w_T_needs : Cond := Cond.code y_T_needs b_T_needs 4 (some .boolean)
abbrev b_T_canMake : ByteArray := prog_4_method_9_code
def y_T_canMake : MethodName := ⟨R_T, "canMake", "()Z"⟩
abbrev w_T_canMake : Cond := Cond.code y_T_canMake b_T_canMake 1 (some .boolean)
abbrev b_T_stored : ByteArray := prog_4_method_22_code
def y_T_stored : MethodName := ⟨R_T, "stored", "(III)V"⟩
abbrev w_T_stored : Cond := Cond.code y_T_stored b_T_stored 6 none
abbrev b_T_make : ByteArray := prog_4_method_10_code
def y_T_make : MethodName := ⟨R_T, "make", "(II)V"⟩
abbrev w_T_make : Cond := Cond.code y_T_make b_T_make 6 none
abbrev b_T_copy : ByteArray := prog_4_method_25_code
def y_T_copy : MethodName := ⟨R_T, "copy", "(IIII)V"⟩
abbrev w_T_copy : Cond := Cond.code y_T_copy b_T_copy 7 none
abbrev b_T_copied : ByteArray := prog_4_method_27_code
def y_T_copied : MethodName := ⟨R_T, "copied", "()I"⟩
abbrev w_T_copied : Cond := Cond.code y_T_copied b_T_copied 1 (some .int)
abbrev b_T_where : ByteArray := prog_4_method_28_code
def y_T_where : MethodName := ⟨R_T, "where", "(II)I"⟩
abbrev w_T_where : Cond := Cond.code y_T_where b_T_where 4 (some .int)
abbrev b_T_sheetOf : ByteArray := prog_4_method_26_code
def y_T_sheetOf : MethodName := ⟨R_T, "sheetOf", "(II)I"⟩
abbrev w_T_sheetOf : Cond := Cond.code y_T_sheetOf b_T_sheetOf 3 (some .int)
abbrev b_T_sharers : ByteArray := prog_4_method_29_code
def y_T_sharers : MethodName := ⟨R_T, "sharers", "(II)I"⟩
abbrev w_T_sharers : Cond := Cond.code y_T_sharers b_T_sharers 4 (some .int)
abbrev b_T_isThere : ByteArray := prog_4_method_30_code
def y_T_isThere : MethodName := ⟨R_T, "isThere", "(I)Z"⟩
abbrev w_T_isThere : Cond := Cond.code y_T_isThere b_T_isThere 2 (some .boolean)
abbrev b_T_marked : ByteArray := prog_4_method_31_code
def y_T_marked : MethodName := ⟨R_T, "marked", "(I)Z"⟩
abbrev w_T_marked : Cond := Cond.code y_T_marked b_T_marked 2 (some .boolean)
abbrev b_T_hand : ByteArray := prog_4_method_32_code
def y_T_hand : MethodName := ⟨R_T, "hand", "()I"⟩
abbrev w_T_hand : Cond := Cond.code y_T_hand b_T_hand 1 (some .int)
abbrev b_T_freeFrames : ByteArray := prog_4_method_33_code
def y_T_freeFrames : MethodName := ⟨R_T, "freeFrames", "()I"⟩
abbrev w_T_freeFrames : Cond := Cond.code y_T_freeFrames b_T_freeFrames 3 (some .int)
abbrev b_T_freeSlots : ByteArray := prog_4_method_34_code
def y_T_freeSlots : MethodName := ⟨R_T, "freeSlots", "()I"⟩
abbrev w_T_freeSlots : Cond := Cond.code y_T_freeSlots b_T_freeSlots 3 (some .int)
abbrev b_T_faults : ByteArray := prog_4_method_35_code
def y_T_faults : MethodName := ⟨R_T, "faults", "()I"⟩
abbrev w_T_faults : Cond := Cond.code y_T_faults b_T_faults 1 (some .int)
abbrev b_T_evicted : ByteArray := prog_4_method_36_code
def y_T_evicted : MethodName := ⟨R_T, "evicted", "()I"⟩
abbrev w_T_evicted : Cond := Cond.code y_T_evicted b_T_evicted 1 (some .int)
theorem kn_L : Cond.initialized R_L ∈ lw_tbl := List.mem_append_right _ (List.mem_of_getElem? (i := 0) (by decide +kernel))
theorem kn_X : Cond.initialized R_X ∈ lw_tbl := List.mem_append_right _ (List.mem_of_getElem? (i := 1) (by decide +kernel))
theorem kn_M : Cond.initialized R_M ∈ lw_tbl := List.mem_append_right _ (List.mem_of_getElem? (i := 2) (by decide +kernel))
theorem kn_J : Cond.initialized "java/lang/Math" ∈ lw_tbl := List.mem_append_right _ (List.mem_of_getElem? (i := 3) (by decide +kernel))
theorem kn_A : Cond.initialized R_A ∈ lw_tbl := List.mem_append_right _ (List.mem_of_getElem? (i := 4) (by decide +kernel))
theorem kn_T : Cond.initialized R_T ∈ lw_tbl := List.mem_append_right _ (List.mem_of_getElem? (i := 5) (by decide +kernel))
theorem kn_Th : Cond.initialized "java/lang/Throwable" ∈ lw_tbl := List.mem_append_right _ (List.mem_of_getElem? (i := 6) (by decide +kernel))
theorem kn_Ex : Cond.initialized "java/lang/Exception" ∈ lw_tbl := List.mem_append_right _ (List.mem_of_getElem? (i := 7) (by decide +kernel))
theorem kn_Er : Cond.initialized "java/lang/RuntimeException" ∈ lw_tbl := List.mem_append_right _ (List.mem_of_getElem? (i := 8) (by decide +kernel))
theorem kn_Es : Cond.initialized "java/lang/IllegalStateException" ∈ lw_tbl := List.mem_append_right _ (List.mem_of_getElem? (i := 9) (by decide +kernel))
theorem kn_En : Cond.initialized "java/util/NoSuchElementException" ∈ lw_tbl := List.mem_append_right _ (List.mem_of_getElem? (i := 10) (by decide +kernel))
theorem kn_Ei : Cond.initialized "java/lang/IndexOutOfBoundsException" ∈ lw_tbl := List.mem_append_right _ (List.mem_of_getElem? (i := 11) (by decide +kernel))
theorem kn_S : Cond.initialized "java/lang/System" ∈ lw_tbl := List.mem_append_right _ (List.mem_of_getElem? (i := 12) (by decide +kernel))
theorem k_L_8 : Cond.classLink R_L 8 "ForkedSheets" ∈ lw_tbl := List.mem_append_right _ (List.mem_of_getElem? (i := 13) (by decide +kernel))
theorem kt_X : Cond.instantiable R_X 4 ∈ lw_tbl := List.mem_append_right _ (List.mem_of_getElem? (i := 14) (by decide +kernel))
theorem k_L_48 : Cond.methodLink R_L 48 y_X_init ∈ lw_tbl := List.mem_append_right _ (List.mem_of_getElem? (i := 15) (by decide +kernel))
theorem ki_X_init : Cond.instanceMethod y_X_init ∈ lw_tbl := List.mem_append_right _ (List.mem_of_getElem? (i := 16) (by decide +kernel))
theorem kc_X_init : w_X_init ∈ lw_tbl := List.mem_append_right _ (List.mem_of_getElem? (i := 17) (by decide +kernel))
theorem k_X_3 : Cond.methodLink R_X 3 ⟨"java/lang/Object", "<init>", "()V"⟩ ∈ lw_tbl := List.mem_append_right _ (List.mem_of_getElem? (i := 18) (by decide +kernel))
theorem ki_Ob_init : Cond.instanceMethod ⟨"java/lang/Object", "<init>", "()V"⟩ ∈ lw_tbl := List.mem_append_right _ (List.mem_of_getElem? (i := 19) (by decide +kernel))
theorem k_X_13 : Cond.classLink R_X 13 "[[I" ∈ lw_tbl := List.mem_append_right _ (List.mem_of_getElem? (i := 21) (by decide +kernel))
theorem ka_over : Cond.arrayOver (.array .int) ∈ lw_tbl := List.mem_append_right _ (List.mem_of_getElem? (i := 22) (by decide +kernel))
theorem k_X_18 : Cond.classLink R_X 18 "ForkedSheets$Memory" ∈ lw_tbl := List.mem_append_right _ (List.mem_of_getElem? (i := 23) (by decide +kernel))
theorem kt_M : Cond.instantiable R_M 9 ∈ lw_tbl := List.mem_append_right _ (List.mem_of_getElem? (i := 24) (by decide +kernel))
theorem k_X_20 : Cond.methodLink R_X 20 ⟨"java/lang/Math", "max", "(II)I"⟩ ∈ lw_tbl := List.mem_append_right _ (List.mem_of_getElem? (i := 25) (by decide +kernel))
theorem ks_J_max : Cond.static ⟨"java/lang/Math", "max", "(II)I"⟩ ∈ lw_tbl := List.mem_append_right _ (List.mem_of_getElem? (i := 26) (by decide +kernel))
theorem k_X_26 : Cond.methodLink R_X 26 ⟨"java/lang/Math", "min", "(II)I"⟩ ∈ lw_tbl := List.mem_append_right _ (List.mem_of_getElem? (i := 28) (by decide +kernel))
theorem ks_J_min : Cond.static ⟨"java/lang/Math", "min", "(II)I"⟩ ∈ lw_tbl := List.mem_append_right _ (List.mem_of_getElem? (i := 29) (by decide +kernel))
theorem k_X_29 : Cond.methodLink R_X 29 y_M_init ∈ lw_tbl := List.mem_append_right _ (List.mem_of_getElem? (i := 31) (by decide +kernel))
theorem ki_M_init : Cond.instanceMethod y_M_init ∈ lw_tbl := List.mem_append_right _ (List.mem_of_getElem? (i := 32) (by decide +kernel))
theorem kc_M_init : w_M_init ∈ lw_tbl := List.mem_append_right _ (List.mem_of_getElem? (i := 33) (by decide +kernel))
theorem k_M_3 : Cond.methodLink R_M 3 ⟨"java/lang/Object", "<init>", "()V"⟩ ∈ lw_tbl := List.mem_append_right _ (List.mem_of_getElem? (i := 34) (by decide +kernel))
theorem k_M_9 : Cond.methodLinkNest R_M 9 y_X_freeRow "ForkedSheets" ∈ lw_tbl := List.mem_append_right _ (List.mem_of_getElem? (i := 35) (by decide +kernel))
theorem ks_X_freeRow : Cond.static y_X_freeRow ∈ lw_tbl := List.mem_append_right _ (List.mem_of_getElem? (i := 36) (by decide +kernel))
theorem kc_X_freeRow : w_X_freeRow ∈ lw_tbl := List.mem_append_right _ (List.mem_of_getElem? (i := 37) (by decide +kernel))
theorem k_X_36 : Cond.methodLink R_X 36 y_A_fill ∈ lw_tbl := List.mem_append_right _ (List.mem_of_getElem? (i := 38) (by decide +kernel))
theorem ks_A_fill : Cond.static y_A_fill ∈ lw_tbl := List.mem_append_right _ (List.mem_of_getElem? (i := 39) (by decide +kernel))
theorem kc_A_fill : w_A_fill ∈ lw_tbl := List.mem_append_right _ (List.mem_of_getElem? (i := 40) (by decide +kernel))
theorem k_M_32 : Cond.classLink R_M 32 "[[I" ∈ lw_tbl := List.mem_append_right _ (List.mem_of_getElem? (i := 41) (by decide +kernel))
theorem k_M_13 : Cond.fieldLink R_M 13 "ForkedSheets$Memory" "inFrame" "[I" ∈ lw_tbl := List.mem_append_right _ (List.mem_of_getElem? (i := 42) (by decide +kernel))
theorem k_X_103 : Cond.fieldLinkNest R_X 103 "ForkedSheets$Memory" "inFrame" "[I" "ForkedSheets" ∈ lw_tbl := List.mem_append_right _ (List.mem_of_getElem? (i := 43) (by decide +kernel))
theorem k_M_19 : Cond.fieldLink R_M 19 "ForkedSheets$Memory" "inSlot" "[I" ∈ lw_tbl := List.mem_append_right _ (List.mem_of_getElem? (i := 44) (by decide +kernel))
theorem k_X_111 : Cond.fieldLinkNest R_X 111 "ForkedSheets$Memory" "inSlot" "[I" "ForkedSheets" ∈ lw_tbl := List.mem_append_right _ (List.mem_of_getElem? (i := 45) (by decide +kernel))
theorem k_M_22 : Cond.fieldLink R_M 22 "ForkedSheets$Memory" "marks" "[Z" ∈ lw_tbl := List.mem_append_right _ (List.mem_of_getElem? (i := 46) (by decide +kernel))
theorem k_M_26 : Cond.fieldLink R_M 26 "ForkedSheets$Memory" "places" "[I" ∈ lw_tbl := List.mem_append_right _ (List.mem_of_getElem? (i := 47) (by decide +kernel))
theorem k_M_29 : Cond.fieldLink R_M 29 "ForkedSheets$Memory" "pageCounts" "[I" ∈ lw_tbl := List.mem_append_right _ (List.mem_of_getElem? (i := 48) (by decide +kernel))
theorem k_M_34 : Cond.fieldLink R_M 34 "ForkedSheets$Memory" "words" "[[I" ∈ lw_tbl := List.mem_append_right _ (List.mem_of_getElem? (i := 49) (by decide +kernel))
theorem k_X_100 : Cond.fieldLinkNest R_X 100 "ForkedSheets$Memory" "handAt" "I" "ForkedSheets" ∈ lw_tbl := List.mem_append_right _ (List.mem_of_getElem? (i := 50) (by decide +kernel))
theorem k_M_79 : Cond.fieldLink R_M 79 "ForkedSheets$Memory" "handAt" "I" ∈ lw_tbl := List.mem_append_right _ (List.mem_of_getElem? (i := 51) (by decide +kernel))
theorem k_M_71 : Cond.fieldLink R_M 71 "ForkedSheets$Memory" "faultCount" "I" ∈ lw_tbl := List.mem_append_right _ (List.mem_of_getElem? (i := 52) (by decide +kernel))
theorem k_X_114 : Cond.fieldLinkNest R_X 114 "ForkedSheets$Memory" "faultCount" "I" "ForkedSheets" ∈ lw_tbl := List.mem_append_right _ (List.mem_of_getElem? (i := 53) (by decide +kernel))
theorem k_M_85 : Cond.fieldLink R_M 85 "ForkedSheets$Memory" "evictedCount" "I" ∈ lw_tbl := List.mem_append_right _ (List.mem_of_getElem? (i := 54) (by decide +kernel))
theorem k_X_117 : Cond.fieldLinkNest R_X 117 "ForkedSheets$Memory" "evictedCount" "I" "ForkedSheets" ∈ lw_tbl := List.mem_append_right _ (List.mem_of_getElem? (i := 55) (by decide +kernel))
theorem ka_boolean : Cond.arrayClass .boolean ∈ lw_tbl := List.mem_append_right _ (List.mem_of_getElem? (i := 75) (by decide +kernel))
theorem ka_int : Cond.arrayClass .int ∈ lw_tbl := List.mem_append_right _ (List.mem_of_getElem? (i := 76) (by decide +kernel))
theorem k_X_9 : Cond.fieldLink R_X 9 "ForkedSheets" "there" "[Z" ∈ lw_tbl := List.mem_append_right _ (List.mem_of_getElem? (i := 77) (by decide +kernel))
theorem k_X_15 : Cond.fieldLink R_X 15 "ForkedSheets" "sheets" "[[I" ∈ lw_tbl := List.mem_append_right _ (List.mem_of_getElem? (i := 78) (by decide +kernel))
theorem k_X_32 : Cond.fieldLink R_X 32 "ForkedSheets" "memory" "LForkedSheets$Memory;" ∈ lw_tbl := List.mem_append_right _ (List.mem_of_getElem? (i := 79) (by decide +kernel))
theorem k_X_82 : Cond.fieldLink R_X 82 "ForkedSheets" "wordsCopied" "I" ∈ lw_tbl := List.mem_append_right _ (List.mem_of_getElem? (i := 80) (by decide +kernel))
theorem k_L_83 : Cond.methodLink R_L 83 y_X_copied ∈ lw_tbl := List.mem_append_right _ (List.mem_of_getElem? (i := 90) (by decide +kernel))
theorem ki_X_copied : Cond.instanceMethod y_X_copied ∈ lw_tbl := List.mem_append_right _ (List.mem_of_getElem? (i := 91) (by decide +kernel))
theorem kv_X_copied : Cond.selects R_X y_X_copied y_X_copied ∈ lw_tbl := List.mem_append_right _ (List.mem_of_getElem? (i := 92) (by decide +kernel))
theorem kc_X_copied : w_X_copied ∈ lw_tbl := List.mem_append_right _ (List.mem_of_getElem? (i := 93) (by decide +kernel))
theorem k_L_87 : Cond.methodLink R_L 87 y_X_where ∈ lw_tbl := List.mem_append_right _ (List.mem_of_getElem? (i := 94) (by decide +kernel))
theorem ki_X_where : Cond.instanceMethod y_X_where ∈ lw_tbl := List.mem_append_right _ (List.mem_of_getElem? (i := 95) (by decide +kernel))
theorem kv_X_where : Cond.selects R_X y_X_where y_X_where ∈ lw_tbl := List.mem_append_right _ (List.mem_of_getElem? (i := 96) (by decide +kernel))
theorem kc_X_where : w_X_where ∈ lw_tbl := List.mem_append_right _ (List.mem_of_getElem? (i := 97) (by decide +kernel))
theorem k_X_86 : Cond.methodLink R_X 86 y_X_sheetOf ∈ lw_tbl := List.mem_append_right _ (List.mem_of_getElem? (i := 98) (by decide +kernel))
theorem ki_X_sheetOf : Cond.instanceMethod y_X_sheetOf ∈ lw_tbl := List.mem_append_right _ (List.mem_of_getElem? (i := 100) (by decide +kernel))
theorem kc_X_sheetOf : w_X_sheetOf ∈ lw_tbl := List.mem_append_right _ (List.mem_of_getElem? (i := 101) (by decide +kernel))
theorem k_X_120 : Cond.methodLink R_X 120 y_X_isThere ∈ lw_tbl := List.mem_append_right _ (List.mem_of_getElem? (i := 102) (by decide +kernel))
theorem ki_X_isThere : Cond.instanceMethod y_X_isThere ∈ lw_tbl := List.mem_append_right _ (List.mem_of_getElem? (i := 103) (by decide +kernel))
theorem kv_X_isThere : Cond.selects R_X y_X_isThere y_X_isThere ∈ lw_tbl := List.mem_append_right _ (List.mem_of_getElem? (i := 104) (by decide +kernel))
theorem kc_X_isThere : w_X_isThere ∈ lw_tbl := List.mem_append_right _ (List.mem_of_getElem? (i := 105) (by decide +kernel))
theorem k_X_89 : Cond.methodLink R_X 89 y_M_placeOf ∈ lw_tbl := List.mem_append_right _ (List.mem_of_getElem? (i := 106) (by decide +kernel))
theorem ki_M_placeOf : Cond.instanceMethod y_M_placeOf ∈ lw_tbl := List.mem_append_right _ (List.mem_of_getElem? (i := 107) (by decide +kernel))
theorem kv_M_placeOf : Cond.selects R_M y_M_placeOf y_M_placeOf ∈ lw_tbl := List.mem_append_right _ (List.mem_of_getElem? (i := 108) (by decide +kernel))
theorem kc_M_placeOf : w_M_placeOf ∈ lw_tbl := List.mem_append_right _ (List.mem_of_getElem? (i := 109) (by decide +kernel))
theorem k_L_91 : Cond.methodLink R_L 91 y_X_sharers ∈ lw_tbl := List.mem_append_right _ (List.mem_of_getElem? (i := 110) (by decide +kernel))
theorem ki_X_sharers : Cond.instanceMethod y_X_sharers ∈ lw_tbl := List.mem_append_right _ (List.mem_of_getElem? (i := 111) (by decide +kernel))
theorem kv_X_sharers : Cond.selects R_X y_X_sharers y_X_sharers ∈ lw_tbl := List.mem_append_right _ (List.mem_of_getElem? (i := 112) (by decide +kernel))
theorem kc_X_sharers : w_X_sharers ∈ lw_tbl := List.mem_append_right _ (List.mem_of_getElem? (i := 113) (by decide +kernel))
theorem k_X_93 : Cond.methodLink R_X 93 y_M_pagesOf ∈ lw_tbl := List.mem_append_right _ (List.mem_of_getElem? (i := 114) (by decide +kernel))
theorem ki_M_pagesOf : Cond.instanceMethod y_M_pagesOf ∈ lw_tbl := List.mem_append_right _ (List.mem_of_getElem? (i := 115) (by decide +kernel))
theorem kv_M_pagesOf : Cond.selects R_M y_M_pagesOf y_M_pagesOf ∈ lw_tbl := List.mem_append_right _ (List.mem_of_getElem? (i := 116) (by decide +kernel))
theorem kc_M_pagesOf : w_M_pagesOf ∈ lw_tbl := List.mem_append_right _ (List.mem_of_getElem? (i := 117) (by decide +kernel))
theorem k_L_95 : Cond.methodLink R_L 95 y_X_isThere ∈ lw_tbl := List.mem_append_right _ (List.mem_of_getElem? (i := 118) (by decide +kernel))
theorem k_L_100 : Cond.methodLink R_L 100 y_X_marked ∈ lw_tbl := List.mem_append_right _ (List.mem_of_getElem? (i := 119) (by decide +kernel))
theorem ki_X_marked : Cond.instanceMethod y_X_marked ∈ lw_tbl := List.mem_append_right _ (List.mem_of_getElem? (i := 120) (by decide +kernel))
theorem kv_X_marked : Cond.selects R_X y_X_marked y_X_marked ∈ lw_tbl := List.mem_append_right _ (List.mem_of_getElem? (i := 121) (by decide +kernel))
theorem kc_X_marked : w_X_marked ∈ lw_tbl := List.mem_append_right _ (List.mem_of_getElem? (i := 122) (by decide +kernel))
theorem k_X_96 : Cond.methodLink R_X 96 y_M_hasMark ∈ lw_tbl := List.mem_append_right _ (List.mem_of_getElem? (i := 123) (by decide +kernel))
theorem ki_M_hasMark : Cond.instanceMethod y_M_hasMark ∈ lw_tbl := List.mem_append_right _ (List.mem_of_getElem? (i := 124) (by decide +kernel))
theorem kv_M_hasMark : Cond.selects R_M y_M_hasMark y_M_hasMark ∈ lw_tbl := List.mem_append_right _ (List.mem_of_getElem? (i := 125) (by decide +kernel))
theorem kc_M_hasMark : w_M_hasMark ∈ lw_tbl := List.mem_append_right _ (List.mem_of_getElem? (i := 126) (by decide +kernel))
theorem k_L_104 : Cond.methodLink R_L 104 y_X_hand ∈ lw_tbl := List.mem_append_right _ (List.mem_of_getElem? (i := 127) (by decide +kernel))
theorem ki_X_hand : Cond.instanceMethod y_X_hand ∈ lw_tbl := List.mem_append_right _ (List.mem_of_getElem? (i := 128) (by decide +kernel))
theorem kv_X_hand : Cond.selects R_X y_X_hand y_X_hand ∈ lw_tbl := List.mem_append_right _ (List.mem_of_getElem? (i := 129) (by decide +kernel))
theorem kc_X_hand : w_X_hand ∈ lw_tbl := List.mem_append_right _ (List.mem_of_getElem? (i := 130) (by decide +kernel))
theorem k_L_108 : Cond.methodLink R_L 108 y_X_freeFrames ∈ lw_tbl := List.mem_append_right _ (List.mem_of_getElem? (i := 131) (by decide +kernel))
theorem ki_X_freeFrames : Cond.instanceMethod y_X_freeFrames ∈ lw_tbl := List.mem_append_right _ (List.mem_of_getElem? (i := 132) (by decide +kernel))
theorem kv_X_freeFrames : Cond.selects R_X y_X_freeFrames y_X_freeFrames ∈ lw_tbl := List.mem_append_right _ (List.mem_of_getElem? (i := 133) (by decide +kernel))
theorem kc_X_freeFrames : w_X_freeFrames ∈ lw_tbl := List.mem_append_right _ (List.mem_of_getElem? (i := 134) (by decide +kernel))
theorem k_X_107 : Cond.methodLink R_X 107 y_X_countFree ∈ lw_tbl := List.mem_append_right _ (List.mem_of_getElem? (i := 135) (by decide +kernel))
theorem ks_X_countFree : Cond.static y_X_countFree ∈ lw_tbl := List.mem_append_right _ (List.mem_of_getElem? (i := 136) (by decide +kernel))
theorem kc_X_countFree : w_X_countFree ∈ lw_tbl := List.mem_append_right _ (List.mem_of_getElem? (i := 137) (by decide +kernel))
theorem k_L_112 : Cond.methodLink R_L 112 y_X_freeSlots ∈ lw_tbl := List.mem_append_right _ (List.mem_of_getElem? (i := 138) (by decide +kernel))
theorem ki_X_freeSlots : Cond.instanceMethod y_X_freeSlots ∈ lw_tbl := List.mem_append_right _ (List.mem_of_getElem? (i := 139) (by decide +kernel))
theorem kv_X_freeSlots : Cond.selects R_X y_X_freeSlots y_X_freeSlots ∈ lw_tbl := List.mem_append_right _ (List.mem_of_getElem? (i := 140) (by decide +kernel))
theorem kc_X_freeSlots : w_X_freeSlots ∈ lw_tbl := List.mem_append_right _ (List.mem_of_getElem? (i := 141) (by decide +kernel))
theorem k_L_116 : Cond.methodLink R_L 116 y_X_faults ∈ lw_tbl := List.mem_append_right _ (List.mem_of_getElem? (i := 142) (by decide +kernel))
theorem ki_X_faults : Cond.instanceMethod y_X_faults ∈ lw_tbl := List.mem_append_right _ (List.mem_of_getElem? (i := 143) (by decide +kernel))
theorem kv_X_faults : Cond.selects R_X y_X_faults y_X_faults ∈ lw_tbl := List.mem_append_right _ (List.mem_of_getElem? (i := 144) (by decide +kernel))
theorem kc_X_faults : w_X_faults ∈ lw_tbl := List.mem_append_right _ (List.mem_of_getElem? (i := 145) (by decide +kernel))
theorem k_L_120 : Cond.methodLink R_L 120 y_X_evicted ∈ lw_tbl := List.mem_append_right _ (List.mem_of_getElem? (i := 146) (by decide +kernel))
theorem ki_X_evicted : Cond.instanceMethod y_X_evicted ∈ lw_tbl := List.mem_append_right _ (List.mem_of_getElem? (i := 147) (by decide +kernel))
theorem kv_X_evicted : Cond.selects R_X y_X_evicted y_X_evicted ∈ lw_tbl := List.mem_append_right _ (List.mem_of_getElem? (i := 148) (by decide +kernel))
theorem kc_X_evicted : w_X_evicted ∈ lw_tbl := List.mem_append_right _ (List.mem_of_getElem? (i := 149) (by decide +kernel))
theorem k_L_42 : Cond.methodLink R_L 42 y_L_cell ∈ lw_tbl := List.mem_append_right _ (List.mem_of_getElem? (i := 150) (by decide +kernel))
theorem ks_L_cell : Cond.static y_L_cell ∈ lw_tbl := List.mem_append_right _ (List.mem_of_getElem? (i := 151) (by decide +kernel))
theorem kc_L_cell : w_L_cell ∈ lw_tbl := List.mem_append_right _ (List.mem_of_getElem? (i := 152) (by decide +kernel))
theorem k_L_54 : Cond.methodLink R_L 54 y_L_spawn ∈ lw_tbl := List.mem_append_right _ (List.mem_of_getElem? (i := 153) (by decide +kernel))
theorem ks_L_spawn : Cond.static y_L_spawn ∈ lw_tbl := List.mem_append_right _ (List.mem_of_getElem? (i := 154) (by decide +kernel))
theorem kc_L_spawn : w_L_spawn ∈ lw_tbl := List.mem_append_right _ (List.mem_of_getElem? (i := 155) (by decide +kernel))
theorem k_L_13 : Cond.classLink R_L 13 "java/lang/IllegalStateException" ∈ lw_tbl := List.mem_append_right _ (List.mem_of_getElem? (i := 156) (by decide +kernel))
theorem k_L_7 : Cond.methodLink R_L 7 y_X_spawn ∈ lw_tbl := List.mem_append_right _ (List.mem_of_getElem? (i := 157) (by decide +kernel))
theorem ki_X_spawn : Cond.instanceMethod y_X_spawn ∈ lw_tbl := List.mem_append_right _ (List.mem_of_getElem? (i := 158) (by decide +kernel))
theorem kv_X_spawn : Cond.selects R_X y_X_spawn y_X_spawn ∈ lw_tbl := List.mem_append_right _ (List.mem_of_getElem? (i := 159) (by decide +kernel))
theorem kc_X_spawn : w_X_spawn ∈ lw_tbl := List.mem_append_right _ (List.mem_of_getElem? (i := 160) (by decide +kernel))
theorem k_X_42 : Cond.methodLink R_X 42 y_X_lowestNotThere ∈ lw_tbl := List.mem_append_right _ (List.mem_of_getElem? (i := 161) (by decide +kernel))
theorem ki_X_lowestNotThere : Cond.instanceMethod y_X_lowestNotThere ∈ lw_tbl := List.mem_append_right _ (List.mem_of_getElem? (i := 163) (by decide +kernel))
theorem kc_X_lowestNotThere : w_X_lowestNotThere ∈ lw_tbl := List.mem_append_right _ (List.mem_of_getElem? (i := 164) (by decide +kernel))
theorem k_X_46 : Cond.classLink R_X 46 "java/lang/IllegalStateException" ∈ lw_tbl := List.mem_append_right _ (List.mem_of_getElem? (i := 165) (by decide +kernel))
theorem kt_Es : Cond.instantiable "java/lang/IllegalStateException" 6 ∈ lw_tbl := List.mem_append_right _ (List.mem_of_getElem? (i := 166) (by decide +kernel))
theorem ki_Th_init : Cond.instanceMethod ⟨"java/lang/Throwable", "<init>", "()V"⟩ ∈ lw_tbl := List.mem_append_right _ (List.mem_of_getElem? (i := 188) (by decide +kernel))
theorem kt_Th : Cond.instantiable "java/lang/Throwable" 6 ∈ lw_tbl := List.mem_append_right _ (List.mem_of_getElem? (i := 204) (by decide +kernel))
theorem kz_X_48 : Cond.stringRef R_X 48 "all processes are there" ∈ lw_tbl := List.mem_append_right _ (List.mem_of_getElem? (i := 206) (by decide +kernel))
theorem k_X_50 : Cond.methodLink R_X 50 ⟨"java/lang/IllegalStateException", "<init>", "(Ljava/lang/String;)V"⟩ ∈ lw_tbl := List.mem_append_right _ (List.mem_of_getElem? (i := 207) (by decide +kernel))
theorem ki_Es_init : Cond.instanceMethod ⟨"java/lang/IllegalStateException", "<init>", "(Ljava/lang/String;)V"⟩ ∈ lw_tbl := List.mem_append_right _ (List.mem_of_getElem? (i := 208) (by decide +kernel))
theorem ki_Er_init : Cond.instanceMethod ⟨"java/lang/RuntimeException", "<init>", "(Ljava/lang/String;)V"⟩ ∈ lw_tbl := List.mem_append_right _ (List.mem_of_getElem? (i := 211) (by decide +kernel))
theorem ki_Ex_init : Cond.instanceMethod ⟨"java/lang/Exception", "<init>", "(Ljava/lang/String;)V"⟩ ∈ lw_tbl := List.mem_append_right _ (List.mem_of_getElem? (i := 214) (by decide +kernel))
theorem ki_Th_initS : Cond.instanceMethod ⟨"java/lang/Throwable", "<init>", "(Ljava/lang/String;)V"⟩ ∈ lw_tbl := List.mem_append_right _ (List.mem_of_getElem? (i := 217) (by decide +kernel))
theorem ka_byte : Cond.arrayClass .byte ∈ lw_tbl := List.mem_append_right _ (List.mem_of_getElem? (i := 232) (by decide +kernel))
theorem k_L_61 : Cond.methodLink R_L 61 y_L_fork ∈ lw_tbl := List.mem_append_right _ (List.mem_of_getElem? (i := 233) (by decide +kernel))
theorem ks_L_fork : Cond.static y_L_fork ∈ lw_tbl := List.mem_append_right _ (List.mem_of_getElem? (i := 234) (by decide +kernel))
theorem kc_L_fork : w_L_fork ∈ lw_tbl := List.mem_append_right _ (List.mem_of_getElem? (i := 235) (by decide +kernel))
theorem k_L_19 : Cond.classLink R_L 19 "java/util/NoSuchElementException" ∈ lw_tbl := List.mem_append_right _ (List.mem_of_getElem? (i := 236) (by decide +kernel))
theorem k_L_15 : Cond.methodLink R_L 15 y_X_fork ∈ lw_tbl := List.mem_append_right _ (List.mem_of_getElem? (i := 237) (by decide +kernel))
theorem ki_X_fork : Cond.instanceMethod y_X_fork ∈ lw_tbl := List.mem_append_right _ (List.mem_of_getElem? (i := 238) (by decide +kernel))
theorem kv_X_fork : Cond.selects R_X y_X_fork y_X_fork ∈ lw_tbl := List.mem_append_right _ (List.mem_of_getElem? (i := 239) (by decide +kernel))
theorem kc_X_fork : w_X_fork ∈ lw_tbl := List.mem_append_right _ (List.mem_of_getElem? (i := 240) (by decide +kernel))
theorem k_X_53 : Cond.methodLink R_X 53 y_X_requireProcess ∈ lw_tbl := List.mem_append_right _ (List.mem_of_getElem? (i := 241) (by decide +kernel))
theorem ki_X_requireProcess : Cond.instanceMethod y_X_requireProcess ∈ lw_tbl := List.mem_append_right _ (List.mem_of_getElem? (i := 243) (by decide +kernel))
theorem kc_X_requireProcess : w_X_requireProcess ∈ lw_tbl := List.mem_append_right _ (List.mem_of_getElem? (i := 244) (by decide +kernel))
theorem k_X_123 : Cond.classLink R_X 123 "java/util/NoSuchElementException" ∈ lw_tbl := List.mem_append_right _ (List.mem_of_getElem? (i := 245) (by decide +kernel))
theorem kt_En : Cond.instantiable "java/util/NoSuchElementException" 6 ∈ lw_tbl := List.mem_append_right _ (List.mem_of_getElem? (i := 246) (by decide +kernel))
theorem kz_X_125 : Cond.stringRef R_X 125 "no such process" ∈ lw_tbl := List.mem_append_right _ (List.mem_of_getElem? (i := 254) (by decide +kernel))
theorem k_X_127 : Cond.methodLink R_X 127 ⟨"java/util/NoSuchElementException", "<init>", "(Ljava/lang/String;)V"⟩ ∈ lw_tbl := List.mem_append_right _ (List.mem_of_getElem? (i := 255) (by decide +kernel))
theorem ki_En_init : Cond.instanceMethod ⟨"java/util/NoSuchElementException", "<init>", "(Ljava/lang/String;)V"⟩ ∈ lw_tbl := List.mem_append_right _ (List.mem_of_getElem? (i := 256) (by decide +kernel))
theorem k_X_57 : Cond.methodLink R_X 57 y_M_join ∈ lw_tbl := List.mem_append_right _ (List.mem_of_getElem? (i := 261) (by decide +kernel))
theorem ki_M_join : Cond.instanceMethod y_M_join ∈ lw_tbl := List.mem_append_right _ (List.mem_of_getElem? (i := 262) (by decide +kernel))
theorem kv_M_join : Cond.selects R_M y_M_join y_M_join ∈ lw_tbl := List.mem_append_right _ (List.mem_of_getElem? (i := 263) (by decide +kernel))
theorem kc_M_join : w_M_join ∈ lw_tbl := List.mem_append_right _ (List.mem_of_getElem? (i := 264) (by decide +kernel))
theorem k_L_65 : Cond.methodLink R_L 65 y_L_exit ∈ lw_tbl := List.mem_append_right _ (List.mem_of_getElem? (i := 265) (by decide +kernel))
theorem ks_L_exit : Cond.static y_L_exit ∈ lw_tbl := List.mem_append_right _ (List.mem_of_getElem? (i := 266) (by decide +kernel))
theorem kc_L_exit : w_L_exit ∈ lw_tbl := List.mem_append_right _ (List.mem_of_getElem? (i := 267) (by decide +kernel))
theorem k_L_21 : Cond.methodLink R_L 21 y_X_exit ∈ lw_tbl := List.mem_append_right _ (List.mem_of_getElem? (i := 268) (by decide +kernel))
theorem ki_X_exit : Cond.instanceMethod y_X_exit ∈ lw_tbl := List.mem_append_right _ (List.mem_of_getElem? (i := 269) (by decide +kernel))
theorem kv_X_exit : Cond.selects R_X y_X_exit y_X_exit ∈ lw_tbl := List.mem_append_right _ (List.mem_of_getElem? (i := 270) (by decide +kernel))
theorem kc_X_exit : w_X_exit ∈ lw_tbl := List.mem_append_right _ (List.mem_of_getElem? (i := 271) (by decide +kernel))
theorem k_X_60 : Cond.methodLink R_X 60 y_X_emptyPage ∈ lw_tbl := List.mem_append_right _ (List.mem_of_getElem? (i := 272) (by decide +kernel))
theorem ki_X_emptyPage : Cond.instanceMethod y_X_emptyPage ∈ lw_tbl := List.mem_append_right _ (List.mem_of_getElem? (i := 274) (by decide +kernel))
theorem kc_X_emptyPage : w_X_emptyPage ∈ lw_tbl := List.mem_append_right _ (List.mem_of_getElem? (i := 275) (by decide +kernel))
theorem k_X_132 : Cond.methodLink R_X 132 y_M_leave ∈ lw_tbl := List.mem_append_right _ (List.mem_of_getElem? (i := 276) (by decide +kernel))
theorem ki_M_leave : Cond.instanceMethod y_M_leave ∈ lw_tbl := List.mem_append_right _ (List.mem_of_getElem? (i := 277) (by decide +kernel))
theorem kv_M_leave : Cond.selects R_M y_M_leave y_M_leave ∈ lw_tbl := List.mem_append_right _ (List.mem_of_getElem? (i := 278) (by decide +kernel))
theorem kc_M_leave : w_M_leave ∈ lw_tbl := List.mem_append_right _ (List.mem_of_getElem? (i := 279) (by decide +kernel))
theorem k_M_65 : Cond.methodLink R_M 65 y_M_freePlace ∈ lw_tbl := List.mem_append_right _ (List.mem_of_getElem? (i := 280) (by decide +kernel))
theorem ki_M_freePlace : Cond.instanceMethod y_M_freePlace ∈ lw_tbl := List.mem_append_right _ (List.mem_of_getElem? (i := 282) (by decide +kernel))
theorem kc_M_freePlace : w_M_freePlace ∈ lw_tbl := List.mem_append_right _ (List.mem_of_getElem? (i := 283) (by decide +kernel))
theorem k_L_68 : Cond.methodLink R_L 68 y_L_drop ∈ lw_tbl := List.mem_append_right _ (List.mem_of_getElem? (i := 284) (by decide +kernel))
theorem ks_L_drop : Cond.static y_L_drop ∈ lw_tbl := List.mem_append_right _ (List.mem_of_getElem? (i := 285) (by decide +kernel))
theorem kc_L_drop : w_L_drop ∈ lw_tbl := List.mem_append_right _ (List.mem_of_getElem? (i := 286) (by decide +kernel))
theorem k_L_28 : Cond.classLink R_L 28 "java/lang/IndexOutOfBoundsException" ∈ lw_tbl := List.mem_append_right _ (List.mem_of_getElem? (i := 287) (by decide +kernel))
theorem k_L_24 : Cond.methodLink R_L 24 y_X_drop ∈ lw_tbl := List.mem_append_right _ (List.mem_of_getElem? (i := 288) (by decide +kernel))
theorem ki_X_drop : Cond.instanceMethod y_X_drop ∈ lw_tbl := List.mem_append_right _ (List.mem_of_getElem? (i := 289) (by decide +kernel))
theorem kv_X_drop : Cond.selects R_X y_X_drop y_X_drop ∈ lw_tbl := List.mem_append_right _ (List.mem_of_getElem? (i := 290) (by decide +kernel))
theorem kc_X_drop : w_X_drop ∈ lw_tbl := List.mem_append_right _ (List.mem_of_getElem? (i := 291) (by decide +kernel))
theorem k_X_64 : Cond.classLink R_X 64 "java/lang/IndexOutOfBoundsException" ∈ lw_tbl := List.mem_append_right _ (List.mem_of_getElem? (i := 292) (by decide +kernel))
theorem kt_Ei : Cond.instantiable "java/lang/IndexOutOfBoundsException" 6 ∈ lw_tbl := List.mem_append_right _ (List.mem_of_getElem? (i := 293) (by decide +kernel))
theorem kz_X_66 : Cond.stringRef R_X 66 "no such page" ∈ lw_tbl := List.mem_append_right _ (List.mem_of_getElem? (i := 301) (by decide +kernel))
theorem k_X_68 : Cond.methodLink R_X 68 ⟨"java/lang/IndexOutOfBoundsException", "<init>", "(Ljava/lang/String;)V"⟩ ∈ lw_tbl := List.mem_append_right _ (List.mem_of_getElem? (i := 302) (by decide +kernel))
theorem ki_Ei_init : Cond.instanceMethod ⟨"java/lang/IndexOutOfBoundsException", "<init>", "(Ljava/lang/String;)V"⟩ ∈ lw_tbl := List.mem_append_right _ (List.mem_of_getElem? (i := 303) (by decide +kernel))
theorem k_L_72 : Cond.methodLink R_L 72 y_L_load ∈ lw_tbl := List.mem_append_right _ (List.mem_of_getElem? (i := 308) (by decide +kernel))
theorem ks_L_load : Cond.static y_L_load ∈ lw_tbl := List.mem_append_right _ (List.mem_of_getElem? (i := 309) (by decide +kernel))
theorem kc_L_load : w_L_load ∈ lw_tbl := List.mem_append_right _ (List.mem_of_getElem? (i := 310) (by decide +kernel))
theorem k_L_30 : Cond.methodLink R_L 30 y_X_load ∈ lw_tbl := List.mem_append_right _ (List.mem_of_getElem? (i := 311) (by decide +kernel))
theorem ki_X_load : Cond.instanceMethod y_X_load ∈ lw_tbl := List.mem_append_right _ (List.mem_of_getElem? (i := 312) (by decide +kernel))
theorem kv_X_load : Cond.selects R_X y_X_load y_X_load ∈ lw_tbl := List.mem_append_right _ (List.mem_of_getElem? (i := 313) (by decide +kernel))
theorem kc_X_load : w_X_load ∈ lw_tbl := List.mem_append_right _ (List.mem_of_getElem? (i := 314) (by decide +kernel))
theorem k_X_69 : Cond.methodLink R_X 69 y_X_requireAddress ∈ lw_tbl := List.mem_append_right _ (List.mem_of_getElem? (i := 315) (by decide +kernel))
theorem ks_X_requireAddress : Cond.static y_X_requireAddress ∈ lw_tbl := List.mem_append_right _ (List.mem_of_getElem? (i := 316) (by decide +kernel))
theorem kc_X_requireAddress : w_X_requireAddress ∈ lw_tbl := List.mem_append_right _ (List.mem_of_getElem? (i := 317) (by decide +kernel))
theorem kz_X_128 : Cond.stringRef R_X 128 "no such address" ∈ lw_tbl := List.mem_append_right _ (List.mem_of_getElem? (i := 318) (by decide +kernel))
theorem k_X_72 : Cond.methodLink R_X 72 y_X_loadWord ∈ lw_tbl := List.mem_append_right _ (List.mem_of_getElem? (i := 319) (by decide +kernel))
theorem ki_X_loadWord : Cond.instanceMethod y_X_loadWord ∈ lw_tbl := List.mem_append_right _ (List.mem_of_getElem? (i := 321) (by decide +kernel))
theorem kc_X_loadWord : w_X_loadWord ∈ lw_tbl := List.mem_append_right _ (List.mem_of_getElem? (i := 322) (by decide +kernel))
theorem k_X_135 : Cond.methodLink R_X 135 y_M_read ∈ lw_tbl := List.mem_append_right _ (List.mem_of_getElem? (i := 323) (by decide +kernel))
theorem ki_M_read : Cond.instanceMethod y_M_read ∈ lw_tbl := List.mem_append_right _ (List.mem_of_getElem? (i := 324) (by decide +kernel))
theorem kv_M_read : Cond.selects R_M y_M_read y_M_read ∈ lw_tbl := List.mem_append_right _ (List.mem_of_getElem? (i := 325) (by decide +kernel))
theorem kc_M_read : w_M_read ∈ lw_tbl := List.mem_append_right _ (List.mem_of_getElem? (i := 326) (by decide +kernel))
theorem k_M_37 : Cond.methodLink R_M 37 y_M_touch ∈ lw_tbl := List.mem_append_right _ (List.mem_of_getElem? (i := 327) (by decide +kernel))
theorem ki_M_touch : Cond.instanceMethod y_M_touch ∈ lw_tbl := List.mem_append_right _ (List.mem_of_getElem? (i := 329) (by decide +kernel))
theorem kc_M_touch : w_M_touch ∈ lw_tbl := List.mem_append_right _ (List.mem_of_getElem? (i := 330) (by decide +kernel))
theorem k_M_68 : Cond.methodLink R_M 68 y_M_bringIn ∈ lw_tbl := List.mem_append_right _ (List.mem_of_getElem? (i := 331) (by decide +kernel))
theorem ki_M_bringIn : Cond.instanceMethod y_M_bringIn ∈ lw_tbl := List.mem_append_right _ (List.mem_of_getElem? (i := 333) (by decide +kernel))
theorem kc_M_bringIn : w_M_bringIn ∈ lw_tbl := List.mem_append_right _ (List.mem_of_getElem? (i := 334) (by decide +kernel))
theorem k_M_51 : Cond.methodLink R_M 51 y_M_getFrame ∈ lw_tbl := List.mem_append_right _ (List.mem_of_getElem? (i := 335) (by decide +kernel))
theorem ki_M_getFrame : Cond.instanceMethod y_M_getFrame ∈ lw_tbl := List.mem_append_right _ (List.mem_of_getElem? (i := 337) (by decide +kernel))
theorem kc_M_getFrame : w_M_getFrame ∈ lw_tbl := List.mem_append_right _ (List.mem_of_getElem? (i := 338) (by decide +kernel))
theorem k_M_47 : Cond.methodLinkNest R_M 47 y_X_lowestFree "ForkedSheets" ∈ lw_tbl := List.mem_append_right _ (List.mem_of_getElem? (i := 339) (by decide +kernel))
theorem ks_X_lowestFree : Cond.static y_X_lowestFree ∈ lw_tbl := List.mem_append_right _ (List.mem_of_getElem? (i := 340) (by decide +kernel))
theorem kc_X_lowestFree : w_X_lowestFree ∈ lw_tbl := List.mem_append_right _ (List.mem_of_getElem? (i := 341) (by decide +kernel))
theorem k_M_75 : Cond.methodLink R_M 75 y_M_evictInto ∈ lw_tbl := List.mem_append_right _ (List.mem_of_getElem? (i := 342) (by decide +kernel))
theorem ki_M_evictInto : Cond.instanceMethod y_M_evictInto ∈ lw_tbl := List.mem_append_right _ (List.mem_of_getElem? (i := 344) (by decide +kernel))
theorem kc_M_evictInto : w_M_evictInto ∈ lw_tbl := List.mem_append_right _ (List.mem_of_getElem? (i := 345) (by decide +kernel))
theorem k_M_82 : Cond.methodLink R_M 82 y_M_moveHand ∈ lw_tbl := List.mem_append_right _ (List.mem_of_getElem? (i := 346) (by decide +kernel))
theorem ki_M_moveHand : Cond.instanceMethod y_M_moveHand ∈ lw_tbl := List.mem_append_right _ (List.mem_of_getElem? (i := 348) (by decide +kernel))
theorem kc_M_moveHand : w_M_moveHand ∈ lw_tbl := List.mem_append_right _ (List.mem_of_getElem? (i := 349) (by decide +kernel))
theorem k_M_61 : Cond.methodLink R_M 61 y_M_layIntoFrame ∈ lw_tbl := List.mem_append_right _ (List.mem_of_getElem? (i := 350) (by decide +kernel))
theorem ki_M_layIntoFrame : Cond.instanceMethod y_M_layIntoFrame ∈ lw_tbl := List.mem_append_right _ (List.mem_of_getElem? (i := 352) (by decide +kernel))
theorem kc_M_layIntoFrame : w_M_layIntoFrame ∈ lw_tbl := List.mem_append_right _ (List.mem_of_getElem? (i := 353) (by decide +kernel))
theorem k_L_75 : Cond.methodLink R_L 75 y_L_store ∈ lw_tbl := List.mem_append_right _ (List.mem_of_getElem? (i := 354) (by decide +kernel))
theorem ks_L_store : Cond.static y_L_store ∈ lw_tbl := List.mem_append_right _ (List.mem_of_getElem? (i := 355) (by decide +kernel))
theorem kc_L_store : w_L_store ∈ lw_tbl := List.mem_append_right _ (List.mem_of_getElem? (i := 356) (by decide +kernel))
theorem k_L_34 : Cond.methodLink R_L 34 y_X_store ∈ lw_tbl := List.mem_append_right _ (List.mem_of_getElem? (i := 357) (by decide +kernel))
theorem ki_X_store : Cond.instanceMethod y_X_store ∈ lw_tbl := List.mem_append_right _ (List.mem_of_getElem? (i := 358) (by decide +kernel))
theorem kv_X_store : Cond.selects R_X y_X_store y_X_store ∈ lw_tbl := List.mem_append_right _ (List.mem_of_getElem? (i := 359) (by decide +kernel))
theorem kc_X_store : w_X_store ∈ lw_tbl := List.mem_append_right _ (List.mem_of_getElem? (i := 360) (by decide +kernel))
theorem k_X_75 : Cond.methodLink R_X 75 y_X_storeWord ∈ lw_tbl := List.mem_append_right _ (List.mem_of_getElem? (i := 361) (by decide +kernel))
theorem ki_X_storeWord : Cond.instanceMethod y_X_storeWord ∈ lw_tbl := List.mem_append_right _ (List.mem_of_getElem? (i := 363) (by decide +kernel))
theorem kc_X_storeWord : w_X_storeWord ∈ lw_tbl := List.mem_append_right _ (List.mem_of_getElem? (i := 364) (by decide +kernel))
theorem k_X_138 : Cond.methodLink R_X 138 y_X_giveOwnSheet ∈ lw_tbl := List.mem_append_right _ (List.mem_of_getElem? (i := 365) (by decide +kernel))
theorem ki_X_giveOwnSheet : Cond.instanceMethod y_X_giveOwnSheet ∈ lw_tbl := List.mem_append_right _ (List.mem_of_getElem? (i := 367) (by decide +kernel))
theorem kc_X_giveOwnSheet : w_X_giveOwnSheet ∈ lw_tbl := List.mem_append_right _ (List.mem_of_getElem? (i := 368) (by decide +kernel))
theorem k_X_144 : Cond.methodLink R_X 144 y_M_make ∈ lw_tbl := List.mem_append_right _ (List.mem_of_getElem? (i := 369) (by decide +kernel))
theorem ki_M_make : Cond.instanceMethod y_M_make ∈ lw_tbl := List.mem_append_right _ (List.mem_of_getElem? (i := 370) (by decide +kernel))
theorem kv_M_make : Cond.selects R_M y_M_make y_M_make ∈ lw_tbl := List.mem_append_right _ (List.mem_of_getElem? (i := 371) (by decide +kernel))
theorem kc_M_make : w_M_make ∈ lw_tbl := List.mem_append_right _ (List.mem_of_getElem? (i := 372) (by decide +kernel))
theorem k_M_55 : Cond.methodLink R_M 55 y_A_fill ∈ lw_tbl := List.mem_append_right _ (List.mem_of_getElem? (i := 373) (by decide +kernel))
theorem kz_X_147 : Cond.stringRef R_X 147 "no frame and no slot is free" ∈ lw_tbl := List.mem_append_right _ (List.mem_of_getElem? (i := 374) (by decide +kernel))
theorem k_X_149 : Cond.methodLink R_X 149 y_M_copyWords ∈ lw_tbl := List.mem_append_right _ (List.mem_of_getElem? (i := 375) (by decide +kernel))
theorem ki_M_copyWords : Cond.instanceMethod y_M_copyWords ∈ lw_tbl := List.mem_append_right _ (List.mem_of_getElem? (i := 376) (by decide +kernel))
theorem kv_M_copyWords : Cond.selects R_M y_M_copyWords y_M_copyWords ∈ lw_tbl := List.mem_append_right _ (List.mem_of_getElem? (i := 377) (by decide +kernel))
theorem kc_M_copyWords : w_M_copyWords ∈ lw_tbl := List.mem_append_right _ (List.mem_of_getElem? (i := 378) (by decide +kernel))
theorem k_M_41 : Cond.methodLink R_M 41 ⟨"java/lang/System", "arraycopy", "(Ljava/lang/Object;ILjava/lang/Object;II)V"⟩ ∈ lw_tbl := List.mem_append_right _ (List.mem_of_getElem? (i := 379) (by decide +kernel))
theorem ks_S_arraycopy : Cond.static ⟨"java/lang/System", "arraycopy", "(Ljava/lang/Object;ILjava/lang/Object;II)V"⟩ ∈ lw_tbl := List.mem_append_right _ (List.mem_of_getElem? (i := 380) (by decide +kernel))
theorem kN_S_arraycopy : Cond.native ⟨"java/lang/System", "arraycopy", "(Ljava/lang/Object;ILjava/lang/Object;II)V"⟩ ∈ lw_tbl := List.mem_append_right _ (List.mem_of_getElem? (i := 381) (by decide +kernel))
theorem k_X_141 : Cond.methodLink R_X 141 y_M_write ∈ lw_tbl := List.mem_append_right _ (List.mem_of_getElem? (i := 382) (by decide +kernel))
theorem ki_M_write : Cond.instanceMethod y_M_write ∈ lw_tbl := List.mem_append_right _ (List.mem_of_getElem? (i := 383) (by decide +kernel))
theorem kv_M_write : Cond.selects R_M y_M_write y_M_write ∈ lw_tbl := List.mem_append_right _ (List.mem_of_getElem? (i := 384) (by decide +kernel))
theorem kc_M_write : w_M_write ∈ lw_tbl := List.mem_append_right _ (List.mem_of_getElem? (i := 385) (by decide +kernel))
theorem k_L_79 : Cond.methodLink R_L 79 y_L_copy ∈ lw_tbl := List.mem_append_right _ (List.mem_of_getElem? (i := 386) (by decide +kernel))
theorem ks_L_copy : Cond.static y_L_copy ∈ lw_tbl := List.mem_append_right _ (List.mem_of_getElem? (i := 387) (by decide +kernel))
theorem kc_L_copy : w_L_copy ∈ lw_tbl := List.mem_append_right _ (List.mem_of_getElem? (i := 388) (by decide +kernel))
theorem k_L_38 : Cond.methodLink R_L 38 y_X_copy ∈ lw_tbl := List.mem_append_right _ (List.mem_of_getElem? (i := 389) (by decide +kernel))
theorem ki_X_copy : Cond.instanceMethod y_X_copy ∈ lw_tbl := List.mem_append_right _ (List.mem_of_getElem? (i := 390) (by decide +kernel))
theorem kv_X_copy : Cond.selects R_X y_X_copy y_X_copy ∈ lw_tbl := List.mem_append_right _ (List.mem_of_getElem? (i := 391) (by decide +kernel))
theorem kc_X_copy : w_X_copy ∈ lw_tbl := List.mem_append_right _ (List.mem_of_getElem? (i := 392) (by decide +kernel))
theorem k_X_79 : Cond.methodLink R_X 79 y_X_requireRange ∈ lw_tbl := List.mem_append_right _ (List.mem_of_getElem? (i := 393) (by decide +kernel))
theorem ks_X_requireRange : Cond.static y_X_requireRange ∈ lw_tbl := List.mem_append_right _ (List.mem_of_getElem? (i := 394) (by decide +kernel))
theorem kc_X_requireRange : w_X_requireRange ∈ lw_tbl := List.mem_append_right _ (List.mem_of_getElem? (i := 395) (by decide +kernel))
theorem kz_X_130 : Cond.stringRef R_X 130 "fewer words than none" ∈ lw_tbl := List.mem_append_right _ (List.mem_of_getElem? (i := 396) (by decide +kernel))
theorem k_L_51 : Cond.classLink R_L 51 "ForkedSheetsModel" ∈ lw_tbl := List.mem_append_right _ (List.mem_of_getElem? (i := 397) (by decide +kernel))
theorem kt_T : Cond.instantiable R_T 12 ∈ lw_tbl := List.mem_append_right _ (List.mem_of_getElem? (i := 398) (by decide +kernel))
theorem k_L_53 : Cond.methodLink R_L 53 y_T_init ∈ lw_tbl := List.mem_append_right _ (List.mem_of_getElem? (i := 399) (by decide +kernel))
theorem ki_T_init : Cond.instanceMethod y_T_init ∈ lw_tbl := List.mem_append_right _ (List.mem_of_getElem? (i := 400) (by decide +kernel))
theorem kc_T_init : w_T_init ∈ lw_tbl := List.mem_append_right _ (List.mem_of_getElem? (i := 401) (by decide +kernel))
theorem k_T_1 : Cond.methodLink R_T 1 ⟨"java/lang/Object", "<init>", "()V"⟩ ∈ lw_tbl := List.mem_append_right _ (List.mem_of_getElem? (i := 402) (by decide +kernel))
theorem k_T_33 : Cond.fieldLink R_T 33 "ForkedSheetsModel" "thrown" "I" ∈ lw_tbl := List.mem_append_right _ (List.mem_of_getElem? (i := 403) (by decide +kernel))
theorem k_T_26 : Cond.fieldLink R_T 26 "ForkedSheetsModel" "frames" "I" ∈ lw_tbl := List.mem_append_right _ (List.mem_of_getElem? (i := 404) (by decide +kernel))
theorem k_T_30 : Cond.fieldLink R_T 30 "ForkedSheetsModel" "slots" "I" ∈ lw_tbl := List.mem_append_right _ (List.mem_of_getElem? (i := 405) (by decide +kernel))
theorem k_T_7 : Cond.fieldLink R_T 7 "ForkedSheetsModel" "marks" "[Z" ∈ lw_tbl := List.mem_append_right _ (List.mem_of_getElem? (i := 406) (by decide +kernel))
theorem k_T_40 : Cond.fieldLink R_T 40 "ForkedSheetsModel" "hand" "I" ∈ lw_tbl := List.mem_append_right _ (List.mem_of_getElem? (i := 407) (by decide +kernel))
theorem k_T_13 : Cond.fieldLink R_T 13 "ForkedSheetsModel" "lies" "[I" ∈ lw_tbl := List.mem_append_right _ (List.mem_of_getElem? (i := 408) (by decide +kernel))
theorem k_T_17 : Cond.fieldLink R_T 17 "ForkedSheetsModel" "words" "[I" ∈ lw_tbl := List.mem_append_right _ (List.mem_of_getElem? (i := 409) (by decide +kernel))
theorem k_T_20 : Cond.fieldLink R_T 20 "ForkedSheetsModel" "there" "[Z" ∈ lw_tbl := List.mem_append_right _ (List.mem_of_getElem? (i := 410) (by decide +kernel))
theorem k_T_23 : Cond.fieldLink R_T 23 "ForkedSheetsModel" "pages" "[I" ∈ lw_tbl := List.mem_append_right _ (List.mem_of_getElem? (i := 411) (by decide +kernel))
theorem k_T_59 : Cond.fieldLink R_T 59 "ForkedSheetsModel" "faults" "I" ∈ lw_tbl := List.mem_append_right _ (List.mem_of_getElem? (i := 412) (by decide +kernel))
theorem k_T_53 : Cond.fieldLink R_T 53 "ForkedSheetsModel" "evictions" "I" ∈ lw_tbl := List.mem_append_right _ (List.mem_of_getElem? (i := 413) (by decide +kernel))
theorem k_T_102 : Cond.fieldLink R_T 102 "ForkedSheetsModel" "copies" "I" ∈ lw_tbl := List.mem_append_right _ (List.mem_of_getElem? (i := 414) (by decide +kernel))
theorem k_L_58 : Cond.methodLink R_L 58 y_T_thrown ∈ lw_tbl := List.mem_append_right _ (List.mem_of_getElem? (i := 440) (by decide +kernel))
theorem ki_T_thrown : Cond.instanceMethod y_T_thrown ∈ lw_tbl := List.mem_append_right _ (List.mem_of_getElem? (i := 441) (by decide +kernel))
theorem kv_T_thrown : Cond.selects R_T y_T_thrown y_T_thrown ∈ lw_tbl := List.mem_append_right _ (List.mem_of_getElem? (i := 442) (by decide +kernel))
theorem kc_T_thrown : w_T_thrown ∈ lw_tbl := List.mem_append_right _ (List.mem_of_getElem? (i := 443) (by decide +kernel))
theorem k_L_57 : Cond.methodLink R_L 57 y_T_spawn ∈ lw_tbl := List.mem_append_right _ (List.mem_of_getElem? (i := 444) (by decide +kernel))
theorem ki_T_spawn : Cond.instanceMethod y_T_spawn ∈ lw_tbl := List.mem_append_right _ (List.mem_of_getElem? (i := 445) (by decide +kernel))
theorem kv_T_spawn : Cond.selects R_T y_T_spawn y_T_spawn ∈ lw_tbl := List.mem_append_right _ (List.mem_of_getElem? (i := 446) (by decide +kernel))
theorem kc_T_spawn : w_T_spawn ∈ lw_tbl := List.mem_append_right _ (List.mem_of_getElem? (i := 447) (by decide +kernel))
theorem k_T_65 : Cond.methodLink R_T 65 y_T_lowestProcess ∈ lw_tbl := List.mem_append_right _ (List.mem_of_getElem? (i := 448) (by decide +kernel))
theorem ki_T_lowestProcess : Cond.instanceMethod y_T_lowestProcess ∈ lw_tbl := List.mem_append_right _ (List.mem_of_getElem? (i := 450) (by decide +kernel))
theorem kc_T_lowestProcess : w_T_lowestProcess ∈ lw_tbl := List.mem_append_right _ (List.mem_of_getElem? (i := 451) (by decide +kernel))
theorem k_L_64 : Cond.methodLink R_L 64 y_T_fork ∈ lw_tbl := List.mem_append_right _ (List.mem_of_getElem? (i := 452) (by decide +kernel))
theorem ki_T_fork : Cond.instanceMethod y_T_fork ∈ lw_tbl := List.mem_append_right _ (List.mem_of_getElem? (i := 453) (by decide +kernel))
theorem kv_T_fork : Cond.selects R_T y_T_fork y_T_fork ∈ lw_tbl := List.mem_append_right _ (List.mem_of_getElem? (i := 454) (by decide +kernel))
theorem kc_T_fork : w_T_fork ∈ lw_tbl := List.mem_append_right _ (List.mem_of_getElem? (i := 455) (by decide +kernel))
theorem k_T_68 : Cond.methodLink R_T 68 y_T_isProcess ∈ lw_tbl := List.mem_append_right _ (List.mem_of_getElem? (i := 456) (by decide +kernel))
theorem ki_T_isProcess : Cond.instanceMethod y_T_isProcess ∈ lw_tbl := List.mem_append_right _ (List.mem_of_getElem? (i := 458) (by decide +kernel))
theorem kc_T_isProcess : w_T_isProcess ∈ lw_tbl := List.mem_append_right _ (List.mem_of_getElem? (i := 459) (by decide +kernel))
theorem k_L_67 : Cond.methodLink R_L 67 y_T_exit ∈ lw_tbl := List.mem_append_right _ (List.mem_of_getElem? (i := 460) (by decide +kernel))
theorem ki_T_exit : Cond.instanceMethod y_T_exit ∈ lw_tbl := List.mem_append_right _ (List.mem_of_getElem? (i := 461) (by decide +kernel))
theorem kv_T_exit : Cond.selects R_T y_T_exit y_T_exit ∈ lw_tbl := List.mem_append_right _ (List.mem_of_getElem? (i := 462) (by decide +kernel))
theorem kc_T_exit : w_T_exit ∈ lw_tbl := List.mem_append_right _ (List.mem_of_getElem? (i := 463) (by decide +kernel))
theorem k_T_72 : Cond.methodLink R_T 72 y_T_empty ∈ lw_tbl := List.mem_append_right _ (List.mem_of_getElem? (i := 464) (by decide +kernel))
theorem ki_T_empty : Cond.instanceMethod y_T_empty ∈ lw_tbl := List.mem_append_right _ (List.mem_of_getElem? (i := 466) (by decide +kernel))
theorem kc_T_empty : w_T_empty ∈ lw_tbl := List.mem_append_right _ (List.mem_of_getElem? (i := 467) (by decide +kernel))
theorem k_T_62 : Cond.methodLink R_T 62 y_T_owners ∈ lw_tbl := List.mem_append_right _ (List.mem_of_getElem? (i := 468) (by decide +kernel))
theorem ki_T_owners : Cond.instanceMethod y_T_owners ∈ lw_tbl := List.mem_append_right _ (List.mem_of_getElem? (i := 470) (by decide +kernel))
theorem kc_T_owners : w_T_owners ∈ lw_tbl := List.mem_append_right _ (List.mem_of_getElem? (i := 471) (by decide +kernel))
theorem k_L_71 : Cond.methodLink R_L 71 y_T_drop ∈ lw_tbl := List.mem_append_right _ (List.mem_of_getElem? (i := 472) (by decide +kernel))
theorem ki_T_drop : Cond.instanceMethod y_T_drop ∈ lw_tbl := List.mem_append_right _ (List.mem_of_getElem? (i := 473) (by decide +kernel))
theorem kv_T_drop : Cond.selects R_T y_T_drop y_T_drop ∈ lw_tbl := List.mem_append_right _ (List.mem_of_getElem? (i := 474) (by decide +kernel))
theorem kc_T_drop : w_T_drop ∈ lw_tbl := List.mem_append_right _ (List.mem_of_getElem? (i := 475) (by decide +kernel))
theorem k_L_74 : Cond.methodLink R_L 74 y_T_load ∈ lw_tbl := List.mem_append_right _ (List.mem_of_getElem? (i := 476) (by decide +kernel))
theorem ki_T_load : Cond.instanceMethod y_T_load ∈ lw_tbl := List.mem_append_right _ (List.mem_of_getElem? (i := 477) (by decide +kernel))
theorem kv_T_load : Cond.selects R_T y_T_load y_T_load ∈ lw_tbl := List.mem_append_right _ (List.mem_of_getElem? (i := 478) (by decide +kernel))
theorem kc_T_load : w_T_load ∈ lw_tbl := List.mem_append_right _ (List.mem_of_getElem? (i := 479) (by decide +kernel))
theorem k_T_87 : Cond.methodLink R_T 87 y_T_isAddress ∈ lw_tbl := List.mem_append_right _ (List.mem_of_getElem? (i := 480) (by decide +kernel))
theorem ks_T_isAddress : Cond.static y_T_isAddress ∈ lw_tbl := List.mem_append_right _ (List.mem_of_getElem? (i := 481) (by decide +kernel))
theorem kc_T_isAddress : w_T_isAddress ∈ lw_tbl := List.mem_append_right _ (List.mem_of_getElem? (i := 482) (by decide +kernel))
theorem k_T_90 : Cond.methodLink R_T 90 y_T_loaded ∈ lw_tbl := List.mem_append_right _ (List.mem_of_getElem? (i := 483) (by decide +kernel))
theorem ki_T_loaded : Cond.instanceMethod y_T_loaded ∈ lw_tbl := List.mem_append_right _ (List.mem_of_getElem? (i := 485) (by decide +kernel))
theorem kc_T_loaded : w_T_loaded ∈ lw_tbl := List.mem_append_right _ (List.mem_of_getElem? (i := 486) (by decide +kernel))
theorem k_T_75 : Cond.methodLink R_T 75 y_T_bringIn ∈ lw_tbl := List.mem_append_right _ (List.mem_of_getElem? (i := 487) (by decide +kernel))
theorem ki_T_bringIn : Cond.instanceMethod y_T_bringIn ∈ lw_tbl := List.mem_append_right _ (List.mem_of_getElem? (i := 489) (by decide +kernel))
theorem kc_T_bringIn : w_T_bringIn ∈ lw_tbl := List.mem_append_right _ (List.mem_of_getElem? (i := 490) (by decide +kernel))
theorem k_T_56 : Cond.methodLink R_T 56 y_T_getFrame ∈ lw_tbl := List.mem_append_right _ (List.mem_of_getElem? (i := 491) (by decide +kernel))
theorem ki_T_getFrame : Cond.instanceMethod y_T_getFrame ∈ lw_tbl := List.mem_append_right _ (List.mem_of_getElem? (i := 493) (by decide +kernel))
theorem kc_T_getFrame : w_T_getFrame ∈ lw_tbl := List.mem_append_right _ (List.mem_of_getElem? (i := 494) (by decide +kernel))
theorem k_T_43 : Cond.methodLink R_T 43 y_T_lowestFrame ∈ lw_tbl := List.mem_append_right _ (List.mem_of_getElem? (i := 495) (by decide +kernel))
theorem ki_T_lowestFrame : Cond.instanceMethod y_T_lowestFrame ∈ lw_tbl := List.mem_append_right _ (List.mem_of_getElem? (i := 497) (by decide +kernel))
theorem kc_T_lowestFrame : w_T_lowestFrame ∈ lw_tbl := List.mem_append_right _ (List.mem_of_getElem? (i := 498) (by decide +kernel))
theorem k_T_36 : Cond.methodLink R_T 36 y_T_sheetAt ∈ lw_tbl := List.mem_append_right _ (List.mem_of_getElem? (i := 499) (by decide +kernel))
theorem ki_T_sheetAt : Cond.instanceMethod y_T_sheetAt ∈ lw_tbl := List.mem_append_right _ (List.mem_of_getElem? (i := 501) (by decide +kernel))
theorem kc_T_sheetAt : w_T_sheetAt ∈ lw_tbl := List.mem_append_right _ (List.mem_of_getElem? (i := 502) (by decide +kernel))
theorem k_T_47 : Cond.methodLink R_T 47 y_T_turn ∈ lw_tbl := List.mem_append_right _ (List.mem_of_getElem? (i := 503) (by decide +kernel))
theorem ki_T_turn : Cond.instanceMethod y_T_turn ∈ lw_tbl := List.mem_append_right _ (List.mem_of_getElem? (i := 505) (by decide +kernel))
theorem kc_T_turn : w_T_turn ∈ lw_tbl := List.mem_append_right _ (List.mem_of_getElem? (i := 506) (by decide +kernel))
theorem k_T_50 : Cond.methodLink R_T 50 y_T_lowestSlot ∈ lw_tbl := List.mem_append_right _ (List.mem_of_getElem? (i := 507) (by decide +kernel))
theorem ki_T_lowestSlot : Cond.instanceMethod y_T_lowestSlot ∈ lw_tbl := List.mem_append_right _ (List.mem_of_getElem? (i := 509) (by decide +kernel))
theorem kc_T_lowestSlot : w_T_lowestSlot ∈ lw_tbl := List.mem_append_right _ (List.mem_of_getElem? (i := 510) (by decide +kernel))
theorem k_L_78 : Cond.methodLink R_L 78 y_T_store ∈ lw_tbl := List.mem_append_right _ (List.mem_of_getElem? (i := 511) (by decide +kernel))
theorem ki_T_store : Cond.instanceMethod y_T_store ∈ lw_tbl := List.mem_append_right _ (List.mem_of_getElem? (i := 512) (by decide +kernel))
theorem kv_T_store : Cond.selects R_T y_T_store y_T_store ∈ lw_tbl := List.mem_append_right _ (List.mem_of_getElem? (i := 513) (by decide +kernel))
theorem kc_T_store : w_T_store ∈ lw_tbl := List.mem_append_right _ (List.mem_of_getElem? (i := 514) (by decide +kernel))
theorem k_T_79 : Cond.methodLink R_T 79 y_T_needs ∈ lw_tbl := List.mem_append_right _ (List.mem_of_getElem? (i := 515) (by decide +kernel))
theorem ki_T_needs : Cond.instanceMethod y_T_needs ∈ lw_tbl := List.mem_append_right _ (List.mem_of_getElem? (i := 517) (by decide +kernel))
theorem kc_T_needs : w_T_needs ∈ lw_tbl := List.mem_append_right _ (List.mem_of_getElem? (i := 518) (by decide +kernel))
theorem k_T_94 : Cond.methodLink R_T 94 y_T_canMake ∈ lw_tbl := List.mem_append_right _ (List.mem_of_getElem? (i := 519) (by decide +kernel))
theorem ki_T_canMake : Cond.instanceMethod y_T_canMake ∈ lw_tbl := List.mem_append_right _ (List.mem_of_getElem? (i := 521) (by decide +kernel))
theorem kc_T_canMake : w_T_canMake ∈ lw_tbl := List.mem_append_right _ (List.mem_of_getElem? (i := 522) (by decide +kernel))
theorem k_T_98 : Cond.methodLink R_T 98 y_T_stored ∈ lw_tbl := List.mem_append_right _ (List.mem_of_getElem? (i := 523) (by decide +kernel))
theorem ki_T_stored : Cond.instanceMethod y_T_stored ∈ lw_tbl := List.mem_append_right _ (List.mem_of_getElem? (i := 525) (by decide +kernel))
theorem kc_T_stored : w_T_stored ∈ lw_tbl := List.mem_append_right _ (List.mem_of_getElem? (i := 526) (by decide +kernel))
theorem k_T_83 : Cond.methodLink R_T 83 y_T_make ∈ lw_tbl := List.mem_append_right _ (List.mem_of_getElem? (i := 527) (by decide +kernel))
theorem ki_T_make : Cond.instanceMethod y_T_make ∈ lw_tbl := List.mem_append_right _ (List.mem_of_getElem? (i := 529) (by decide +kernel))
theorem kc_T_make : w_T_make ∈ lw_tbl := List.mem_append_right _ (List.mem_of_getElem? (i := 530) (by decide +kernel))
theorem k_L_82 : Cond.methodLink R_L 82 y_T_copy ∈ lw_tbl := List.mem_append_right _ (List.mem_of_getElem? (i := 531) (by decide +kernel))
theorem ki_T_copy : Cond.instanceMethod y_T_copy ∈ lw_tbl := List.mem_append_right _ (List.mem_of_getElem? (i := 532) (by decide +kernel))
theorem kv_T_copy : Cond.selects R_T y_T_copy y_T_copy ∈ lw_tbl := List.mem_append_right _ (List.mem_of_getElem? (i := 533) (by decide +kernel))
theorem kc_T_copy : w_T_copy ∈ lw_tbl := List.mem_append_right _ (List.mem_of_getElem? (i := 534) (by decide +kernel))
theorem k_L_86 : Cond.methodLink R_L 86 y_T_copied ∈ lw_tbl := List.mem_append_right _ (List.mem_of_getElem? (i := 535) (by decide +kernel))
theorem ki_T_copied : Cond.instanceMethod y_T_copied ∈ lw_tbl := List.mem_append_right _ (List.mem_of_getElem? (i := 536) (by decide +kernel))
theorem kv_T_copied : Cond.selects R_T y_T_copied y_T_copied ∈ lw_tbl := List.mem_append_right _ (List.mem_of_getElem? (i := 537) (by decide +kernel))
theorem kc_T_copied : w_T_copied ∈ lw_tbl := List.mem_append_right _ (List.mem_of_getElem? (i := 538) (by decide +kernel))
theorem k_L_90 : Cond.methodLink R_L 90 y_T_where ∈ lw_tbl := List.mem_append_right _ (List.mem_of_getElem? (i := 539) (by decide +kernel))
theorem ki_T_where : Cond.instanceMethod y_T_where ∈ lw_tbl := List.mem_append_right _ (List.mem_of_getElem? (i := 540) (by decide +kernel))
theorem kv_T_where : Cond.selects R_T y_T_where y_T_where ∈ lw_tbl := List.mem_append_right _ (List.mem_of_getElem? (i := 541) (by decide +kernel))
theorem kc_T_where : w_T_where ∈ lw_tbl := List.mem_append_right _ (List.mem_of_getElem? (i := 542) (by decide +kernel))
theorem k_T_105 : Cond.methodLink R_T 105 y_T_sheetOf ∈ lw_tbl := List.mem_append_right _ (List.mem_of_getElem? (i := 543) (by decide +kernel))
theorem ki_T_sheetOf : Cond.instanceMethod y_T_sheetOf ∈ lw_tbl := List.mem_append_right _ (List.mem_of_getElem? (i := 545) (by decide +kernel))
theorem kc_T_sheetOf : w_T_sheetOf ∈ lw_tbl := List.mem_append_right _ (List.mem_of_getElem? (i := 546) (by decide +kernel))
theorem k_L_94 : Cond.methodLink R_L 94 y_T_sharers ∈ lw_tbl := List.mem_append_right _ (List.mem_of_getElem? (i := 547) (by decide +kernel))
theorem ki_T_sharers : Cond.instanceMethod y_T_sharers ∈ lw_tbl := List.mem_append_right _ (List.mem_of_getElem? (i := 548) (by decide +kernel))
theorem kv_T_sharers : Cond.selects R_T y_T_sharers y_T_sharers ∈ lw_tbl := List.mem_append_right _ (List.mem_of_getElem? (i := 549) (by decide +kernel))
theorem kc_T_sharers : w_T_sharers ∈ lw_tbl := List.mem_append_right _ (List.mem_of_getElem? (i := 550) (by decide +kernel))
theorem k_L_99 : Cond.methodLink R_L 99 y_T_isThere ∈ lw_tbl := List.mem_append_right _ (List.mem_of_getElem? (i := 551) (by decide +kernel))
theorem ki_T_isThere : Cond.instanceMethod y_T_isThere ∈ lw_tbl := List.mem_append_right _ (List.mem_of_getElem? (i := 552) (by decide +kernel))
theorem kv_T_isThere : Cond.selects R_T y_T_isThere y_T_isThere ∈ lw_tbl := List.mem_append_right _ (List.mem_of_getElem? (i := 553) (by decide +kernel))
theorem kc_T_isThere : w_T_isThere ∈ lw_tbl := List.mem_append_right _ (List.mem_of_getElem? (i := 554) (by decide +kernel))
theorem k_L_103 : Cond.methodLink R_L 103 y_T_marked ∈ lw_tbl := List.mem_append_right _ (List.mem_of_getElem? (i := 555) (by decide +kernel))
theorem ki_T_marked : Cond.instanceMethod y_T_marked ∈ lw_tbl := List.mem_append_right _ (List.mem_of_getElem? (i := 556) (by decide +kernel))
theorem kv_T_marked : Cond.selects R_T y_T_marked y_T_marked ∈ lw_tbl := List.mem_append_right _ (List.mem_of_getElem? (i := 557) (by decide +kernel))
theorem kc_T_marked : w_T_marked ∈ lw_tbl := List.mem_append_right _ (List.mem_of_getElem? (i := 558) (by decide +kernel))
theorem k_L_107 : Cond.methodLink R_L 107 y_T_hand ∈ lw_tbl := List.mem_append_right _ (List.mem_of_getElem? (i := 559) (by decide +kernel))
theorem ki_T_hand : Cond.instanceMethod y_T_hand ∈ lw_tbl := List.mem_append_right _ (List.mem_of_getElem? (i := 560) (by decide +kernel))
theorem kv_T_hand : Cond.selects R_T y_T_hand y_T_hand ∈ lw_tbl := List.mem_append_right _ (List.mem_of_getElem? (i := 561) (by decide +kernel))
theorem kc_T_hand : w_T_hand ∈ lw_tbl := List.mem_append_right _ (List.mem_of_getElem? (i := 562) (by decide +kernel))
theorem k_L_111 : Cond.methodLink R_L 111 y_T_freeFrames ∈ lw_tbl := List.mem_append_right _ (List.mem_of_getElem? (i := 563) (by decide +kernel))
theorem ki_T_freeFrames : Cond.instanceMethod y_T_freeFrames ∈ lw_tbl := List.mem_append_right _ (List.mem_of_getElem? (i := 564) (by decide +kernel))
theorem kv_T_freeFrames : Cond.selects R_T y_T_freeFrames y_T_freeFrames ∈ lw_tbl := List.mem_append_right _ (List.mem_of_getElem? (i := 565) (by decide +kernel))
theorem kc_T_freeFrames : w_T_freeFrames ∈ lw_tbl := List.mem_append_right _ (List.mem_of_getElem? (i := 566) (by decide +kernel))
theorem k_L_115 : Cond.methodLink R_L 115 y_T_freeSlots ∈ lw_tbl := List.mem_append_right _ (List.mem_of_getElem? (i := 567) (by decide +kernel))
theorem ki_T_freeSlots : Cond.instanceMethod y_T_freeSlots ∈ lw_tbl := List.mem_append_right _ (List.mem_of_getElem? (i := 568) (by decide +kernel))
theorem kv_T_freeSlots : Cond.selects R_T y_T_freeSlots y_T_freeSlots ∈ lw_tbl := List.mem_append_right _ (List.mem_of_getElem? (i := 569) (by decide +kernel))
theorem kc_T_freeSlots : w_T_freeSlots ∈ lw_tbl := List.mem_append_right _ (List.mem_of_getElem? (i := 570) (by decide +kernel))
theorem k_L_119 : Cond.methodLink R_L 119 y_T_faults ∈ lw_tbl := List.mem_append_right _ (List.mem_of_getElem? (i := 571) (by decide +kernel))
theorem ki_T_faults : Cond.instanceMethod y_T_faults ∈ lw_tbl := List.mem_append_right _ (List.mem_of_getElem? (i := 572) (by decide +kernel))
theorem kv_T_faults : Cond.selects R_T y_T_faults y_T_faults ∈ lw_tbl := List.mem_append_right _ (List.mem_of_getElem? (i := 573) (by decide +kernel))
theorem kc_T_faults : w_T_faults ∈ lw_tbl := List.mem_append_right _ (List.mem_of_getElem? (i := 574) (by decide +kernel))
theorem k_L_123 : Cond.methodLink R_L 123 y_T_evicted ∈ lw_tbl := List.mem_append_right _ (List.mem_of_getElem? (i := 575) (by decide +kernel))
theorem ki_T_evicted : Cond.instanceMethod y_T_evicted ∈ lw_tbl := List.mem_append_right _ (List.mem_of_getElem? (i := 576) (by decide +kernel))
theorem kv_T_evicted : Cond.selects R_T y_T_evicted y_T_evicted ∈ lw_tbl := List.mem_append_right _ (List.mem_of_getElem? (i := 577) (by decide +kernel))
theorem kc_T_evicted : w_T_evicted ∈ lw_tbl := List.mem_append_right _ (List.mem_of_getElem? (i := 578) (by decide +kernel))
theorem ka_long : Cond.arrayClass .long ∈ lw_tbl := List.mem_append_right _ (List.mem_of_getElem? (i := 579) (by decide +kernel))
theorem kv_X_sheetOf : Cond.selects R_X y_X_sheetOf y_X_sheetOf ∈ lw_tbl := List.mem_append_left _ (List.mem_of_getElem? (i := 0) (by decide +kernel))
theorem kv_X_lowestNotThere : Cond.selects R_X y_X_lowestNotThere y_X_lowestNotThere ∈ lw_tbl := List.mem_append_left _ (List.mem_of_getElem? (i := 1) (by decide +kernel))
theorem kv_X_requireProcess : Cond.selects R_X y_X_requireProcess y_X_requireProcess ∈ lw_tbl := List.mem_append_left _ (List.mem_of_getElem? (i := 3) (by decide +kernel))
theorem kv_X_emptyPage : Cond.selects R_X y_X_emptyPage y_X_emptyPage ∈ lw_tbl := List.mem_append_left _ (List.mem_of_getElem? (i := 4) (by decide +kernel))
theorem kv_M_freePlace : Cond.selects R_M y_M_freePlace y_M_freePlace ∈ lw_tbl := List.mem_append_left _ (List.mem_of_getElem? (i := 5) (by decide +kernel))
theorem kv_X_loadWord : Cond.selects R_X y_X_loadWord y_X_loadWord ∈ lw_tbl := List.mem_append_left _ (List.mem_of_getElem? (i := 6) (by decide +kernel))
theorem kv_M_touch : Cond.selects R_M y_M_touch y_M_touch ∈ lw_tbl := List.mem_append_left _ (List.mem_of_getElem? (i := 7) (by decide +kernel))
theorem kv_M_bringIn : Cond.selects R_M y_M_bringIn y_M_bringIn ∈ lw_tbl := List.mem_append_left _ (List.mem_of_getElem? (i := 8) (by decide +kernel))
theorem kv_M_getFrame : Cond.selects R_M y_M_getFrame y_M_getFrame ∈ lw_tbl := List.mem_append_left _ (List.mem_of_getElem? (i := 9) (by decide +kernel))
theorem kv_M_evictInto : Cond.selects R_M y_M_evictInto y_M_evictInto ∈ lw_tbl := List.mem_append_left _ (List.mem_of_getElem? (i := 10) (by decide +kernel))
theorem kv_M_moveHand : Cond.selects R_M y_M_moveHand y_M_moveHand ∈ lw_tbl := List.mem_append_left _ (List.mem_of_getElem? (i := 11) (by decide +kernel))
theorem kv_M_layIntoFrame : Cond.selects R_M y_M_layIntoFrame y_M_layIntoFrame ∈ lw_tbl := List.mem_append_left _ (List.mem_of_getElem? (i := 12) (by decide +kernel))
theorem kv_X_storeWord : Cond.selects R_X y_X_storeWord y_X_storeWord ∈ lw_tbl := List.mem_append_left _ (List.mem_of_getElem? (i := 13) (by decide +kernel))
theorem kv_X_giveOwnSheet : Cond.selects R_X y_X_giveOwnSheet y_X_giveOwnSheet ∈ lw_tbl := List.mem_append_left _ (List.mem_of_getElem? (i := 14) (by decide +kernel))
theorem kv_T_lowestProcess : Cond.selects R_T y_T_lowestProcess y_T_lowestProcess ∈ lw_tbl := List.mem_append_left _ (List.mem_of_getElem? (i := 15) (by decide +kernel))
theorem kv_T_isProcess : Cond.selects R_T y_T_isProcess y_T_isProcess ∈ lw_tbl := List.mem_append_left _ (List.mem_of_getElem? (i := 16) (by decide +kernel))
theorem kv_T_empty : Cond.selects R_T y_T_empty y_T_empty ∈ lw_tbl := List.mem_append_left _ (List.mem_of_getElem? (i := 17) (by decide +kernel))
theorem kv_T_owners : Cond.selects R_T y_T_owners y_T_owners ∈ lw_tbl := List.mem_append_left _ (List.mem_of_getElem? (i := 18) (by decide +kernel))
theorem kv_T_loaded : Cond.selects R_T y_T_loaded y_T_loaded ∈ lw_tbl := List.mem_append_left _ (List.mem_of_getElem? (i := 19) (by decide +kernel))
theorem kv_T_bringIn : Cond.selects R_T y_T_bringIn y_T_bringIn ∈ lw_tbl := List.mem_append_left _ (List.mem_of_getElem? (i := 20) (by decide +kernel))
theorem kv_T_getFrame : Cond.selects R_T y_T_getFrame y_T_getFrame ∈ lw_tbl := List.mem_append_left _ (List.mem_of_getElem? (i := 21) (by decide +kernel))
theorem kv_T_lowestFrame : Cond.selects R_T y_T_lowestFrame y_T_lowestFrame ∈ lw_tbl := List.mem_append_left _ (List.mem_of_getElem? (i := 22) (by decide +kernel))
theorem kv_T_sheetAt : Cond.selects R_T y_T_sheetAt y_T_sheetAt ∈ lw_tbl := List.mem_append_left _ (List.mem_of_getElem? (i := 23) (by decide +kernel))
theorem kv_T_turn : Cond.selects R_T y_T_turn y_T_turn ∈ lw_tbl := List.mem_append_left _ (List.mem_of_getElem? (i := 24) (by decide +kernel))
theorem kv_T_lowestSlot : Cond.selects R_T y_T_lowestSlot y_T_lowestSlot ∈ lw_tbl := List.mem_append_left _ (List.mem_of_getElem? (i := 25) (by decide +kernel))
theorem kv_T_needs : Cond.selects R_T y_T_needs y_T_needs ∈ lw_tbl := List.mem_append_left _ (List.mem_of_getElem? (i := 26) (by decide +kernel))
theorem kv_T_canMake : Cond.selects R_T y_T_canMake y_T_canMake ∈ lw_tbl := List.mem_append_left _ (List.mem_of_getElem? (i := 27) (by decide +kernel))
theorem kv_T_stored : Cond.selects R_T y_T_stored y_T_stored ∈ lw_tbl := List.mem_append_left _ (List.mem_of_getElem? (i := 28) (by decide +kernel))
theorem kv_T_make : Cond.selects R_T y_T_make y_T_make ∈ lw_tbl := List.mem_append_left _ (List.mem_of_getElem? (i := 29) (by decide +kernel))
theorem kv_T_sheetOf : Cond.selects R_T y_T_sheetOf y_T_sheetOf ∈ lw_tbl := List.mem_append_left _ (List.mem_of_getElem? (i := 30) (by decide +kernel))
end
section
/-! what stands at each place of the code, by program -/
theorem d_L_cell_0 : decode b_L_cell 0 = .ok (.iload_n 1, 1) := by decide +kernel
theorem d_L_cell_1 : decode b_L_cell 1 = .ok (.aload_n 0, 1) := by decide +kernel
theorem d_L_cell_2 : decode b_L_cell 2 = .ok (.arraylength, 1) := by decide +kernel
theorem d_L_cell_3 : decode b_L_cell 3 = .ok (.if_icmp .ge 9, 3) := by decide +kernel
theorem d_L_cell_6 : decode b_L_cell 6 = .ok (.aload_n 0, 1) := by decide +kernel
theorem d_L_cell_7 : decode b_L_cell 7 = .ok (.iload_n 1, 1) := by decide +kernel
theorem d_L_cell_8 : decode b_L_cell 8 = .ok (.iaload, 1) := by decide +kernel
theorem d_L_cell_9 : decode b_L_cell 9 = .ok (.goto 4, 3) := by decide +kernel
theorem d_L_cell_12 : decode b_L_cell 12 = .ok (.iconst 0, 1) := by decide +kernel
theorem d_L_cell_13 : decode b_L_cell 13 = .ok (.ireturn, 1) := by decide +kernel
theorem d_L_spawn_0 : decode b_L_spawn 0 = .ok (.aload_n 1, 1) := by decide +kernel
theorem d_L_spawn_1 : decode b_L_spawn 1 = .ok (.iconst 0, 1) := by decide +kernel
theorem d_L_spawn_2 : decode b_L_spawn 2 = .ok (.aload_n 0, 1) := by decide +kernel
theorem d_L_spawn_3 : decode b_L_spawn 3 = .ok (.invokevirtual 7, 3) := by decide +kernel
theorem d_L_spawn_6 : decode b_L_spawn 6 = .ok (.i2l, 1) := by decide +kernel
theorem d_L_spawn_7 : decode b_L_spawn 7 = .ok (.lastore, 1) := by decide +kernel
theorem d_L_spawn_8 : decode b_L_spawn 8 = .ok (.goto 6, 3) := by decide +kernel
theorem d_L_spawn_11 : decode b_L_spawn 11 = .ok (.astore_n 2, 1) := by decide +kernel
theorem d_L_spawn_12 : decode b_L_spawn 12 = .ok (.iconst 1, 1) := by decide +kernel
theorem d_L_spawn_13 : decode b_L_spawn 13 = .ok (.ireturn, 1) := by decide +kernel
theorem d_L_spawn_14 : decode b_L_spawn 14 = .ok (.iconst 0, 1) := by decide +kernel
theorem d_L_spawn_15 : decode b_L_spawn 15 = .ok (.ireturn, 1) := by decide +kernel
theorem d_L_fork_0 : decode b_L_fork 0 = .ok (.aload_n 2, 1) := by decide +kernel
theorem d_L_fork_1 : decode b_L_fork 1 = .ok (.iconst 0, 1) := by decide +kernel
theorem d_L_fork_2 : decode b_L_fork 2 = .ok (.aload_n 0, 1) := by decide +kernel
theorem d_L_fork_3 : decode b_L_fork 3 = .ok (.iload_n 1, 1) := by decide +kernel
theorem d_L_fork_4 : decode b_L_fork 4 = .ok (.invokevirtual 15, 3) := by decide +kernel
theorem d_L_fork_7 : decode b_L_fork 7 = .ok (.i2l, 1) := by decide +kernel
theorem d_L_fork_8 : decode b_L_fork 8 = .ok (.lastore, 1) := by decide +kernel
theorem d_L_fork_9 : decode b_L_fork 9 = .ok (.goto 9, 3) := by decide +kernel
theorem d_L_fork_12 : decode b_L_fork 12 = .ok (.astore_n 3, 1) := by decide +kernel
theorem d_L_fork_13 : decode b_L_fork 13 = .ok (.iconst 1, 1) := by decide +kernel
theorem d_L_fork_14 : decode b_L_fork 14 = .ok (.ireturn, 1) := by decide +kernel
theorem d_L_fork_15 : decode b_L_fork 15 = .ok (.astore_n 3, 1) := by decide +kernel
theorem d_L_fork_16 : decode b_L_fork 16 = .ok (.iconst 2, 1) := by decide +kernel
theorem d_L_fork_17 : decode b_L_fork 17 = .ok (.ireturn, 1) := by decide +kernel
theorem d_L_fork_18 : decode b_L_fork 18 = .ok (.iconst 0, 1) := by decide +kernel
theorem d_L_fork_19 : decode b_L_fork 19 = .ok (.ireturn, 1) := by decide +kernel
theorem d_L_exit_0 : decode b_L_exit 0 = .ok (.aload_n 2, 1) := by decide +kernel
theorem d_L_exit_1 : decode b_L_exit 1 = .ok (.iconst 0, 1) := by decide +kernel
theorem d_L_exit_2 : decode b_L_exit 2 = .ok (.aload_n 0, 1) := by decide +kernel
theorem d_L_exit_3 : decode b_L_exit 3 = .ok (.iload_n 1, 1) := by decide +kernel
theorem d_L_exit_4 : decode b_L_exit 4 = .ok (.invokevirtual 21, 3) := by decide +kernel
theorem d_L_exit_7 : decode b_L_exit 7 = .ok (.i2l, 1) := by decide +kernel
theorem d_L_exit_8 : decode b_L_exit 8 = .ok (.lastore, 1) := by decide +kernel
theorem d_L_exit_9 : decode b_L_exit 9 = .ok (.goto 6, 3) := by decide +kernel
theorem d_L_exit_12 : decode b_L_exit 12 = .ok (.astore_n 3, 1) := by decide +kernel
theorem d_L_exit_13 : decode b_L_exit 13 = .ok (.iconst 1, 1) := by decide +kernel
theorem d_L_exit_14 : decode b_L_exit 14 = .ok (.ireturn, 1) := by decide +kernel
theorem d_L_exit_15 : decode b_L_exit 15 = .ok (.iconst 0, 1) := by decide +kernel
theorem d_L_exit_16 : decode b_L_exit 16 = .ok (.ireturn, 1) := by decide +kernel
theorem d_L_drop_0 : decode b_L_drop 0 = .ok (.aload_n 3, 1) := by decide +kernel
theorem d_L_drop_1 : decode b_L_drop 1 = .ok (.iconst 0, 1) := by decide +kernel
theorem d_L_drop_2 : decode b_L_drop 2 = .ok (.aload_n 0, 1) := by decide +kernel
theorem d_L_drop_3 : decode b_L_drop 3 = .ok (.iload_n 1, 1) := by decide +kernel
theorem d_L_drop_4 : decode b_L_drop 4 = .ok (.iload_n 2, 1) := by decide +kernel
theorem d_L_drop_5 : decode b_L_drop 5 = .ok (.invokevirtual 24, 3) := by decide +kernel
theorem d_L_drop_8 : decode b_L_drop 8 = .ok (.ifCond .eq 7, 3) := by decide +kernel
theorem d_L_drop_11 : decode b_L_drop 11 = .ok (.lconst 1, 1) := by decide +kernel
theorem d_L_drop_12 : decode b_L_drop 12 = .ok (.goto 4, 3) := by decide +kernel
theorem d_L_drop_15 : decode b_L_drop 15 = .ok (.lconst 0, 1) := by decide +kernel
theorem d_L_drop_16 : decode b_L_drop 16 = .ok (.lastore, 1) := by decide +kernel
theorem d_L_drop_17 : decode b_L_drop 17 = .ok (.goto 11, 3) := by decide +kernel
theorem d_L_drop_20 : decode b_L_drop 20 = .ok (.astore 4, 2) := by decide +kernel
theorem d_L_drop_22 : decode b_L_drop 22 = .ok (.iconst 1, 1) := by decide +kernel
theorem d_L_drop_23 : decode b_L_drop 23 = .ok (.ireturn, 1) := by decide +kernel
theorem d_L_drop_24 : decode b_L_drop 24 = .ok (.astore 4, 2) := by decide +kernel
theorem d_L_drop_26 : decode b_L_drop 26 = .ok (.iconst 2, 1) := by decide +kernel
theorem d_L_drop_27 : decode b_L_drop 27 = .ok (.ireturn, 1) := by decide +kernel
theorem d_L_drop_28 : decode b_L_drop 28 = .ok (.iconst 0, 1) := by decide +kernel
theorem d_L_drop_29 : decode b_L_drop 29 = .ok (.ireturn, 1) := by decide +kernel
theorem d_L_load_0 : decode b_L_load 0 = .ok (.aload_n 3, 1) := by decide +kernel
theorem d_L_load_1 : decode b_L_load 1 = .ok (.iconst 0, 1) := by decide +kernel
theorem d_L_load_2 : decode b_L_load 2 = .ok (.aload_n 0, 1) := by decide +kernel
theorem d_L_load_3 : decode b_L_load 3 = .ok (.iload_n 1, 1) := by decide +kernel
theorem d_L_load_4 : decode b_L_load 4 = .ok (.iload_n 2, 1) := by decide +kernel
theorem d_L_load_5 : decode b_L_load 5 = .ok (.invokevirtual 30, 3) := by decide +kernel
theorem d_L_load_8 : decode b_L_load 8 = .ok (.i2l, 1) := by decide +kernel
theorem d_L_load_9 : decode b_L_load 9 = .ok (.lastore, 1) := by decide +kernel
theorem d_L_load_10 : decode b_L_load 10 = .ok (.goto 11, 3) := by decide +kernel
theorem d_L_load_13 : decode b_L_load 13 = .ok (.astore 4, 2) := by decide +kernel
theorem d_L_load_15 : decode b_L_load 15 = .ok (.iconst 1, 1) := by decide +kernel
theorem d_L_load_16 : decode b_L_load 16 = .ok (.ireturn, 1) := by decide +kernel
theorem d_L_load_17 : decode b_L_load 17 = .ok (.astore 4, 2) := by decide +kernel
theorem d_L_load_19 : decode b_L_load 19 = .ok (.iconst 2, 1) := by decide +kernel
theorem d_L_load_20 : decode b_L_load 20 = .ok (.ireturn, 1) := by decide +kernel
theorem d_L_load_21 : decode b_L_load 21 = .ok (.iconst 0, 1) := by decide +kernel
theorem d_L_load_22 : decode b_L_load 22 = .ok (.ireturn, 1) := by decide +kernel
theorem d_L_store_0 : decode b_L_store 0 = .ok (.aload_n 0, 1) := by decide +kernel
theorem d_L_store_1 : decode b_L_store 1 = .ok (.iload_n 1, 1) := by decide +kernel
theorem d_L_store_2 : decode b_L_store 2 = .ok (.iload_n 2, 1) := by decide +kernel
theorem d_L_store_3 : decode b_L_store 3 = .ok (.iload_n 3, 1) := by decide +kernel
theorem d_L_store_4 : decode b_L_store 4 = .ok (.invokevirtual 34, 3) := by decide +kernel
theorem d_L_store_7 : decode b_L_store 7 = .ok (.goto 15, 3) := by decide +kernel
theorem d_L_store_10 : decode b_L_store 10 = .ok (.astore 4, 2) := by decide +kernel
theorem d_L_store_12 : decode b_L_store 12 = .ok (.iconst 1, 1) := by decide +kernel
theorem d_L_store_13 : decode b_L_store 13 = .ok (.ireturn, 1) := by decide +kernel
theorem d_L_store_14 : decode b_L_store 14 = .ok (.astore 4, 2) := by decide +kernel
theorem d_L_store_16 : decode b_L_store 16 = .ok (.iconst 2, 1) := by decide +kernel
theorem d_L_store_17 : decode b_L_store 17 = .ok (.ireturn, 1) := by decide +kernel
theorem d_L_store_18 : decode b_L_store 18 = .ok (.astore 4, 2) := by decide +kernel
theorem d_L_store_20 : decode b_L_store 20 = .ok (.iconst 3, 1) := by decide +kernel
theorem d_L_store_21 : decode b_L_store 21 = .ok (.ireturn, 1) := by decide +kernel
theorem d_L_store_22 : decode b_L_store 22 = .ok (.iconst 0, 1) := by decide +kernel
theorem d_L_store_23 : decode b_L_store 23 = .ok (.ireturn, 1) := by decide +kernel
theorem d_L_copy_0 : decode b_L_copy 0 = .ok (.aload_n 0, 1) := by decide +kernel
theorem d_L_copy_1 : decode b_L_copy 1 = .ok (.iload_n 1, 1) := by decide +kernel
theorem d_L_copy_2 : decode b_L_copy 2 = .ok (.iload_n 2, 1) := by decide +kernel
theorem d_L_copy_3 : decode b_L_copy 3 = .ok (.iload_n 3, 1) := by decide +kernel
theorem d_L_copy_4 : decode b_L_copy 4 = .ok (.iload 4, 2) := by decide +kernel
theorem d_L_copy_6 : decode b_L_copy 6 = .ok (.invokevirtual 38, 3) := by decide +kernel
theorem d_L_copy_9 : decode b_L_copy 9 = .ok (.goto 15, 3) := by decide +kernel
theorem d_L_copy_12 : decode b_L_copy 12 = .ok (.astore 5, 2) := by decide +kernel
theorem d_L_copy_14 : decode b_L_copy 14 = .ok (.iconst 1, 1) := by decide +kernel
theorem d_L_copy_15 : decode b_L_copy 15 = .ok (.ireturn, 1) := by decide +kernel
theorem d_L_copy_16 : decode b_L_copy 16 = .ok (.astore 5, 2) := by decide +kernel
theorem d_L_copy_18 : decode b_L_copy 18 = .ok (.iconst 2, 1) := by decide +kernel
theorem d_L_copy_19 : decode b_L_copy 19 = .ok (.ireturn, 1) := by decide +kernel
theorem d_L_copy_20 : decode b_L_copy 20 = .ok (.astore 5, 2) := by decide +kernel
theorem d_L_copy_22 : decode b_L_copy 22 = .ok (.iconst 3, 1) := by decide +kernel
theorem d_L_copy_23 : decode b_L_copy 23 = .ok (.ireturn, 1) := by decide +kernel
theorem d_L_copy_24 : decode b_L_copy 24 = .ok (.iconst 0, 1) := by decide +kernel
theorem d_L_copy_25 : decode b_L_copy 25 = .ok (.ireturn, 1) := by decide +kernel
end
section
/-! what stands at each place of the code, by program -/
theorem d_L_law_0 : decode code 0 = .ok (.new 8, 3) := by decide +kernel
theorem d_L_law_3 : decode code 3 = .ok (.dup, 1) := by decide +kernel
theorem d_L_law_4 : decode code 4 = .ok (.aload_n 0, 1) := by decide +kernel
theorem d_L_law_5 : decode code 5 = .ok (.iconst 0, 1) := by decide +kernel
theorem d_L_law_6 : decode code 6 = .ok (.invokestatic 42, 3) := by decide +kernel
theorem d_L_law_9 : decode code 9 = .ok (.aload_n 0, 1) := by decide +kernel
theorem d_L_law_10 : decode code 10 = .ok (.iconst 1, 1) := by decide +kernel
theorem d_L_law_11 : decode code 11 = .ok (.invokestatic 42, 3) := by decide +kernel
theorem d_L_law_14 : decode code 14 = .ok (.invokespecial 48, 3) := by decide +kernel
theorem d_L_law_17 : decode code 17 = .ok (.astore_n 1, 1) := by decide +kernel
theorem d_L_law_18 : decode code 18 = .ok (.new 51, 3) := by decide +kernel
theorem d_L_law_21 : decode code 21 = .ok (.dup, 1) := by decide +kernel
theorem d_L_law_22 : decode code 22 = .ok (.aload_n 0, 1) := by decide +kernel
theorem d_L_law_23 : decode code 23 = .ok (.iconst 0, 1) := by decide +kernel
theorem d_L_law_24 : decode code 24 = .ok (.invokestatic 42, 3) := by decide +kernel
theorem d_L_law_27 : decode code 27 = .ok (.aload_n 0, 1) := by decide +kernel
theorem d_L_law_28 : decode code 28 = .ok (.iconst 1, 1) := by decide +kernel
theorem d_L_law_29 : decode code 29 = .ok (.invokestatic 42, 3) := by decide +kernel
theorem d_L_law_32 : decode code 32 = .ok (.invokespecial 53, 3) := by decide +kernel
theorem d_L_law_35 : decode code 35 = .ok (.astore_n 2, 1) := by decide +kernel
theorem d_L_law_36 : decode code 36 = .ok (.iconst 1, 1) := by decide +kernel
theorem d_L_law_37 : decode code 37 = .ok (.newarray .long, 2) := by decide +kernel
theorem d_L_law_39 : decode code 39 = .ok (.astore_n 3, 1) := by decide +kernel
theorem d_L_law_40 : decode code 40 = .ok (.iconst 2, 1) := by decide +kernel
theorem d_L_law_41 : decode code 41 = .ok (.istore 4, 2) := by decide +kernel
theorem d_L_law_43 : decode code 43 = .ok (.iload 4, 2) := by decide +kernel
theorem d_L_law_45 : decode code 45 = .ok (.aload_n 0, 1) := by decide +kernel
theorem d_L_law_46 : decode code 46 = .ok (.arraylength, 1) := by decide +kernel
theorem d_L_law_47 : decode code 47 = .ok (.iconst 5, 1) := by decide +kernel
theorem d_L_law_48 : decode code 48 = .ok (.isub, 1) := by decide +kernel
theorem d_L_law_49 : decode code 49 = .ok (.if_icmp .gt 730, 3) := by decide +kernel
theorem d_L_law_52 : decode code 52 = .ok (.aload_n 0, 1) := by decide +kernel
theorem d_L_law_53 : decode code 53 = .ok (.iload 4, 2) := by decide +kernel
theorem d_L_law_55 : decode code 55 = .ok (.iaload, 1) := by decide +kernel
theorem d_L_law_56 : decode code 56 = .ok (.bipush 31, 2) := by decide +kernel
theorem d_L_law_58 : decode code 58 = .ok (.iand, 1) := by decide +kernel
theorem d_L_law_59 : decode code 59 = .ok (.tableswitch 714 0 16 #[81, 125, 181, 237, 312, 380, 440, 512, 525, 562, 599, 624, 649, 662, 675, 688, 701], 81) := by decide +kernel
theorem d_L_law_140 : decode code 140 = .ok (.aload_n 1, 1) := by decide +kernel
theorem d_L_law_141 : decode code 141 = .ok (.aload_n 3, 1) := by decide +kernel
theorem d_L_law_142 : decode code 142 = .ok (.invokestatic 54, 3) := by decide +kernel
theorem d_L_law_145 : decode code 145 = .ok (.istore 5, 2) := by decide +kernel
theorem d_L_law_147 : decode code 147 = .ok (.aload_n 2, 1) := by decide +kernel
theorem d_L_law_148 : decode code 148 = .ok (.invokevirtual 57, 3) := by decide +kernel
theorem d_L_law_151 : decode code 151 = .ok (.istore 6, 2) := by decide +kernel
theorem d_L_law_153 : decode code 153 = .ok (.aload_n 2, 1) := by decide +kernel
theorem d_L_law_154 : decode code 154 = .ok (.invokevirtual 58, 3) := by decide +kernel
theorem d_L_law_157 : decode code 157 = .ok (.iload 5, 2) := by decide +kernel
theorem d_L_law_159 : decode code 159 = .ok (.if_icmp .eq 5, 3) := by decide +kernel
theorem d_L_law_162 : decode code 162 = .ok (.iconst 0, 1) := by decide +kernel
theorem d_L_law_163 : decode code 163 = .ok (.ireturn, 1) := by decide +kernel
theorem d_L_law_164 : decode code 164 = .ok (.iload 5, 2) := by decide +kernel
theorem d_L_law_166 : decode code 166 = .ok (.ifCond .ne 15, 3) := by decide +kernel
theorem d_L_law_169 : decode code 169 = .ok (.aload_n 3, 1) := by decide +kernel
theorem d_L_law_170 : decode code 170 = .ok (.iconst 0, 1) := by decide +kernel
theorem d_L_law_171 : decode code 171 = .ok (.laload, 1) := by decide +kernel
theorem d_L_law_172 : decode code 172 = .ok (.iload 6, 2) := by decide +kernel
theorem d_L_law_174 : decode code 174 = .ok (.i2l, 1) := by decide +kernel
theorem d_L_law_175 : decode code 175 = .ok (.lcmp, 1) := by decide +kernel
theorem d_L_law_176 : decode code 176 = .ok (.ifCond .eq 5, 3) := by decide +kernel
theorem d_L_law_179 : decode code 179 = .ok (.iconst 0, 1) := by decide +kernel
theorem d_L_law_180 : decode code 180 = .ok (.ireturn, 1) := by decide +kernel
theorem d_L_law_181 : decode code 181 = .ok (.goto 592, 3) := by decide +kernel
theorem d_L_law_184 : decode code 184 = .ok (.aload_n 1, 1) := by decide +kernel
theorem d_L_law_185 : decode code 185 = .ok (.aload_n 0, 1) := by decide +kernel
theorem d_L_law_186 : decode code 186 = .ok (.iload 4, 2) := by decide +kernel
theorem d_L_law_188 : decode code 188 = .ok (.iconst 1, 1) := by decide +kernel
theorem d_L_law_189 : decode code 189 = .ok (.iadd, 1) := by decide +kernel
theorem d_L_law_190 : decode code 190 = .ok (.iaload, 1) := by decide +kernel
theorem d_L_law_191 : decode code 191 = .ok (.aload_n 3, 1) := by decide +kernel
theorem d_L_law_192 : decode code 192 = .ok (.invokestatic 61, 3) := by decide +kernel
theorem d_L_law_195 : decode code 195 = .ok (.istore 5, 2) := by decide +kernel
theorem d_L_law_197 : decode code 197 = .ok (.aload_n 2, 1) := by decide +kernel
theorem d_L_law_198 : decode code 198 = .ok (.aload_n 0, 1) := by decide +kernel
theorem d_L_law_199 : decode code 199 = .ok (.iload 4, 2) := by decide +kernel
theorem d_L_law_201 : decode code 201 = .ok (.iconst 1, 1) := by decide +kernel
theorem d_L_law_202 : decode code 202 = .ok (.iadd, 1) := by decide +kernel
theorem d_L_law_203 : decode code 203 = .ok (.iaload, 1) := by decide +kernel
theorem d_L_law_204 : decode code 204 = .ok (.invokevirtual 64, 3) := by decide +kernel
theorem d_L_law_207 : decode code 207 = .ok (.istore 6, 2) := by decide +kernel
theorem d_L_law_209 : decode code 209 = .ok (.aload_n 2, 1) := by decide +kernel
theorem d_L_law_210 : decode code 210 = .ok (.invokevirtual 58, 3) := by decide +kernel
theorem d_L_law_213 : decode code 213 = .ok (.iload 5, 2) := by decide +kernel
theorem d_L_law_215 : decode code 215 = .ok (.if_icmp .eq 5, 3) := by decide +kernel
theorem d_L_law_218 : decode code 218 = .ok (.iconst 0, 1) := by decide +kernel
theorem d_L_law_219 : decode code 219 = .ok (.ireturn, 1) := by decide +kernel
theorem d_L_law_220 : decode code 220 = .ok (.iload 5, 2) := by decide +kernel
theorem d_L_law_222 : decode code 222 = .ok (.ifCond .ne 15, 3) := by decide +kernel
theorem d_L_law_225 : decode code 225 = .ok (.aload_n 3, 1) := by decide +kernel
theorem d_L_law_226 : decode code 226 = .ok (.iconst 0, 1) := by decide +kernel
theorem d_L_law_227 : decode code 227 = .ok (.laload, 1) := by decide +kernel
theorem d_L_law_228 : decode code 228 = .ok (.iload 6, 2) := by decide +kernel
theorem d_L_law_230 : decode code 230 = .ok (.i2l, 1) := by decide +kernel
theorem d_L_law_231 : decode code 231 = .ok (.lcmp, 1) := by decide +kernel
theorem d_L_law_232 : decode code 232 = .ok (.ifCond .eq 5, 3) := by decide +kernel
theorem d_L_law_235 : decode code 235 = .ok (.iconst 0, 1) := by decide +kernel
theorem d_L_law_236 : decode code 236 = .ok (.ireturn, 1) := by decide +kernel
theorem d_L_law_237 : decode code 237 = .ok (.goto 536, 3) := by decide +kernel
theorem d_L_law_240 : decode code 240 = .ok (.aload_n 1, 1) := by decide +kernel
theorem d_L_law_241 : decode code 241 = .ok (.aload_n 0, 1) := by decide +kernel
theorem d_L_law_242 : decode code 242 = .ok (.iload 4, 2) := by decide +kernel
theorem d_L_law_244 : decode code 244 = .ok (.iconst 1, 1) := by decide +kernel
theorem d_L_law_245 : decode code 245 = .ok (.iadd, 1) := by decide +kernel
theorem d_L_law_246 : decode code 246 = .ok (.iaload, 1) := by decide +kernel
theorem d_L_law_247 : decode code 247 = .ok (.aload_n 3, 1) := by decide +kernel
theorem d_L_law_248 : decode code 248 = .ok (.invokestatic 65, 3) := by decide +kernel
theorem d_L_law_251 : decode code 251 = .ok (.istore 5, 2) := by decide +kernel
theorem d_L_law_253 : decode code 253 = .ok (.aload_n 2, 1) := by decide +kernel
theorem d_L_law_254 : decode code 254 = .ok (.aload_n 0, 1) := by decide +kernel
theorem d_L_law_255 : decode code 255 = .ok (.iload 4, 2) := by decide +kernel
theorem d_L_law_257 : decode code 257 = .ok (.iconst 1, 1) := by decide +kernel
theorem d_L_law_258 : decode code 258 = .ok (.iadd, 1) := by decide +kernel
theorem d_L_law_259 : decode code 259 = .ok (.iaload, 1) := by decide +kernel
theorem d_L_law_260 : decode code 260 = .ok (.invokevirtual 67, 3) := by decide +kernel
theorem d_L_law_263 : decode code 263 = .ok (.istore 6, 2) := by decide +kernel
theorem d_L_law_265 : decode code 265 = .ok (.aload_n 2, 1) := by decide +kernel
end
section
/-! what stands at each place of the code, by program -/
theorem d_L_law_266 : decode code 266 = .ok (.invokevirtual 58, 3) := by decide +kernel
theorem d_L_law_269 : decode code 269 = .ok (.iload 5, 2) := by decide +kernel
theorem d_L_law_271 : decode code 271 = .ok (.if_icmp .eq 5, 3) := by decide +kernel
theorem d_L_law_274 : decode code 274 = .ok (.iconst 0, 1) := by decide +kernel
theorem d_L_law_275 : decode code 275 = .ok (.ireturn, 1) := by decide +kernel
theorem d_L_law_276 : decode code 276 = .ok (.iload 5, 2) := by decide +kernel
theorem d_L_law_278 : decode code 278 = .ok (.ifCond .ne 15, 3) := by decide +kernel
theorem d_L_law_281 : decode code 281 = .ok (.aload_n 3, 1) := by decide +kernel
theorem d_L_law_282 : decode code 282 = .ok (.iconst 0, 1) := by decide +kernel
theorem d_L_law_283 : decode code 283 = .ok (.laload, 1) := by decide +kernel
theorem d_L_law_284 : decode code 284 = .ok (.iload 6, 2) := by decide +kernel
theorem d_L_law_286 : decode code 286 = .ok (.i2l, 1) := by decide +kernel
theorem d_L_law_287 : decode code 287 = .ok (.lcmp, 1) := by decide +kernel
theorem d_L_law_288 : decode code 288 = .ok (.ifCond .eq 5, 3) := by decide +kernel
theorem d_L_law_291 : decode code 291 = .ok (.iconst 0, 1) := by decide +kernel
theorem d_L_law_292 : decode code 292 = .ok (.ireturn, 1) := by decide +kernel
theorem d_L_law_293 : decode code 293 = .ok (.goto 480, 3) := by decide +kernel
theorem d_L_law_296 : decode code 296 = .ok (.aload_n 1, 1) := by decide +kernel
theorem d_L_law_297 : decode code 297 = .ok (.aload_n 0, 1) := by decide +kernel
theorem d_L_law_298 : decode code 298 = .ok (.iload 4, 2) := by decide +kernel
theorem d_L_law_300 : decode code 300 = .ok (.iconst 1, 1) := by decide +kernel
theorem d_L_law_301 : decode code 301 = .ok (.iadd, 1) := by decide +kernel
theorem d_L_law_302 : decode code 302 = .ok (.iaload, 1) := by decide +kernel
theorem d_L_law_303 : decode code 303 = .ok (.aload_n 0, 1) := by decide +kernel
theorem d_L_law_304 : decode code 304 = .ok (.iload 4, 2) := by decide +kernel
theorem d_L_law_306 : decode code 306 = .ok (.iconst 2, 1) := by decide +kernel
theorem d_L_law_307 : decode code 307 = .ok (.iadd, 1) := by decide +kernel
theorem d_L_law_308 : decode code 308 = .ok (.iaload, 1) := by decide +kernel
theorem d_L_law_309 : decode code 309 = .ok (.aload_n 3, 1) := by decide +kernel
theorem d_L_law_310 : decode code 310 = .ok (.invokestatic 68, 3) := by decide +kernel
theorem d_L_law_313 : decode code 313 = .ok (.istore 5, 2) := by decide +kernel
theorem d_L_law_315 : decode code 315 = .ok (.aload_n 2, 1) := by decide +kernel
theorem d_L_law_316 : decode code 316 = .ok (.aload_n 0, 1) := by decide +kernel
theorem d_L_law_317 : decode code 317 = .ok (.iload 4, 2) := by decide +kernel
theorem d_L_law_319 : decode code 319 = .ok (.iconst 1, 1) := by decide +kernel
theorem d_L_law_320 : decode code 320 = .ok (.iadd, 1) := by decide +kernel
theorem d_L_law_321 : decode code 321 = .ok (.iaload, 1) := by decide +kernel
theorem d_L_law_322 : decode code 322 = .ok (.aload_n 0, 1) := by decide +kernel
theorem d_L_law_323 : decode code 323 = .ok (.iload 4, 2) := by decide +kernel
theorem d_L_law_325 : decode code 325 = .ok (.iconst 2, 1) := by decide +kernel
theorem d_L_law_326 : decode code 326 = .ok (.iadd, 1) := by decide +kernel
theorem d_L_law_327 : decode code 327 = .ok (.iaload, 1) := by decide +kernel
theorem d_L_law_328 : decode code 328 = .ok (.invokevirtual 71, 3) := by decide +kernel
theorem d_L_law_331 : decode code 331 = .ok (.istore 6, 2) := by decide +kernel
theorem d_L_law_333 : decode code 333 = .ok (.aload_n 2, 1) := by decide +kernel
theorem d_L_law_334 : decode code 334 = .ok (.invokevirtual 58, 3) := by decide +kernel
theorem d_L_law_337 : decode code 337 = .ok (.iload 5, 2) := by decide +kernel
theorem d_L_law_339 : decode code 339 = .ok (.if_icmp .eq 5, 3) := by decide +kernel
theorem d_L_law_342 : decode code 342 = .ok (.iconst 0, 1) := by decide +kernel
theorem d_L_law_343 : decode code 343 = .ok (.ireturn, 1) := by decide +kernel
theorem d_L_law_344 : decode code 344 = .ok (.iload 5, 2) := by decide +kernel
theorem d_L_law_346 : decode code 346 = .ok (.ifCond .ne 22, 3) := by decide +kernel
theorem d_L_law_349 : decode code 349 = .ok (.aload_n 3, 1) := by decide +kernel
theorem d_L_law_350 : decode code 350 = .ok (.iconst 0, 1) := by decide +kernel
theorem d_L_law_351 : decode code 351 = .ok (.laload, 1) := by decide +kernel
theorem d_L_law_352 : decode code 352 = .ok (.iload 6, 2) := by decide +kernel
theorem d_L_law_354 : decode code 354 = .ok (.ifCond .eq 7, 3) := by decide +kernel
theorem d_L_law_357 : decode code 357 = .ok (.lconst 1, 1) := by decide +kernel
theorem d_L_law_358 : decode code 358 = .ok (.goto 4, 3) := by decide +kernel
theorem d_L_law_361 : decode code 361 = .ok (.lconst 0, 1) := by decide +kernel
theorem d_L_law_362 : decode code 362 = .ok (.lcmp, 1) := by decide +kernel
theorem d_L_law_363 : decode code 363 = .ok (.ifCond .eq 5, 3) := by decide +kernel
theorem d_L_law_366 : decode code 366 = .ok (.iconst 0, 1) := by decide +kernel
theorem d_L_law_367 : decode code 367 = .ok (.ireturn, 1) := by decide +kernel
theorem d_L_law_368 : decode code 368 = .ok (.goto 405, 3) := by decide +kernel
theorem d_L_law_371 : decode code 371 = .ok (.aload_n 1, 1) := by decide +kernel
theorem d_L_law_372 : decode code 372 = .ok (.aload_n 0, 1) := by decide +kernel
theorem d_L_law_373 : decode code 373 = .ok (.iload 4, 2) := by decide +kernel
theorem d_L_law_375 : decode code 375 = .ok (.iconst 1, 1) := by decide +kernel
theorem d_L_law_376 : decode code 376 = .ok (.iadd, 1) := by decide +kernel
theorem d_L_law_377 : decode code 377 = .ok (.iaload, 1) := by decide +kernel
theorem d_L_law_378 : decode code 378 = .ok (.aload_n 0, 1) := by decide +kernel
theorem d_L_law_379 : decode code 379 = .ok (.iload 4, 2) := by decide +kernel
theorem d_L_law_381 : decode code 381 = .ok (.iconst 2, 1) := by decide +kernel
theorem d_L_law_382 : decode code 382 = .ok (.iadd, 1) := by decide +kernel
theorem d_L_law_383 : decode code 383 = .ok (.iaload, 1) := by decide +kernel
theorem d_L_law_384 : decode code 384 = .ok (.aload_n 3, 1) := by decide +kernel
theorem d_L_law_385 : decode code 385 = .ok (.invokestatic 72, 3) := by decide +kernel
theorem d_L_law_388 : decode code 388 = .ok (.istore 5, 2) := by decide +kernel
theorem d_L_law_390 : decode code 390 = .ok (.aload_n 2, 1) := by decide +kernel
theorem d_L_law_391 : decode code 391 = .ok (.aload_n 0, 1) := by decide +kernel
theorem d_L_law_392 : decode code 392 = .ok (.iload 4, 2) := by decide +kernel
theorem d_L_law_394 : decode code 394 = .ok (.iconst 1, 1) := by decide +kernel
theorem d_L_law_395 : decode code 395 = .ok (.iadd, 1) := by decide +kernel
theorem d_L_law_396 : decode code 396 = .ok (.iaload, 1) := by decide +kernel
theorem d_L_law_397 : decode code 397 = .ok (.aload_n 0, 1) := by decide +kernel
theorem d_L_law_398 : decode code 398 = .ok (.iload 4, 2) := by decide +kernel
theorem d_L_law_400 : decode code 400 = .ok (.iconst 2, 1) := by decide +kernel
theorem d_L_law_401 : decode code 401 = .ok (.iadd, 1) := by decide +kernel
theorem d_L_law_402 : decode code 402 = .ok (.iaload, 1) := by decide +kernel
theorem d_L_law_403 : decode code 403 = .ok (.invokevirtual 74, 3) := by decide +kernel
theorem d_L_law_406 : decode code 406 = .ok (.istore 6, 2) := by decide +kernel
theorem d_L_law_408 : decode code 408 = .ok (.aload_n 2, 1) := by decide +kernel
theorem d_L_law_409 : decode code 409 = .ok (.invokevirtual 58, 3) := by decide +kernel
theorem d_L_law_412 : decode code 412 = .ok (.iload 5, 2) := by decide +kernel
theorem d_L_law_414 : decode code 414 = .ok (.if_icmp .eq 5, 3) := by decide +kernel
theorem d_L_law_417 : decode code 417 = .ok (.iconst 0, 1) := by decide +kernel
theorem d_L_law_418 : decode code 418 = .ok (.ireturn, 1) := by decide +kernel
theorem d_L_law_419 : decode code 419 = .ok (.iload 5, 2) := by decide +kernel
theorem d_L_law_421 : decode code 421 = .ok (.ifCond .ne 15, 3) := by decide +kernel
theorem d_L_law_424 : decode code 424 = .ok (.aload_n 3, 1) := by decide +kernel
theorem d_L_law_425 : decode code 425 = .ok (.iconst 0, 1) := by decide +kernel
theorem d_L_law_426 : decode code 426 = .ok (.laload, 1) := by decide +kernel
theorem d_L_law_427 : decode code 427 = .ok (.iload 6, 2) := by decide +kernel
theorem d_L_law_429 : decode code 429 = .ok (.i2l, 1) := by decide +kernel
theorem d_L_law_430 : decode code 430 = .ok (.lcmp, 1) := by decide +kernel
theorem d_L_law_431 : decode code 431 = .ok (.ifCond .eq 5, 3) := by decide +kernel
theorem d_L_law_434 : decode code 434 = .ok (.iconst 0, 1) := by decide +kernel
theorem d_L_law_435 : decode code 435 = .ok (.ireturn, 1) := by decide +kernel
theorem d_L_law_436 : decode code 436 = .ok (.goto 337, 3) := by decide +kernel
theorem d_L_law_439 : decode code 439 = .ok (.aload_n 1, 1) := by decide +kernel
theorem d_L_law_440 : decode code 440 = .ok (.aload_n 0, 1) := by decide +kernel
theorem d_L_law_441 : decode code 441 = .ok (.iload 4, 2) := by decide +kernel
theorem d_L_law_443 : decode code 443 = .ok (.iconst 1, 1) := by decide +kernel
theorem d_L_law_444 : decode code 444 = .ok (.iadd, 1) := by decide +kernel
end
section
/-! what stands at each place of the code, by program -/
theorem d_L_law_445 : decode code 445 = .ok (.iaload, 1) := by decide +kernel
theorem d_L_law_446 : decode code 446 = .ok (.aload_n 0, 1) := by decide +kernel
theorem d_L_law_447 : decode code 447 = .ok (.iload 4, 2) := by decide +kernel
theorem d_L_law_449 : decode code 449 = .ok (.iconst 2, 1) := by decide +kernel
theorem d_L_law_450 : decode code 450 = .ok (.iadd, 1) := by decide +kernel
theorem d_L_law_451 : decode code 451 = .ok (.iaload, 1) := by decide +kernel
theorem d_L_law_452 : decode code 452 = .ok (.aload_n 0, 1) := by decide +kernel
theorem d_L_law_453 : decode code 453 = .ok (.iload 4, 2) := by decide +kernel
theorem d_L_law_455 : decode code 455 = .ok (.iconst 3, 1) := by decide +kernel
theorem d_L_law_456 : decode code 456 = .ok (.iadd, 1) := by decide +kernel
theorem d_L_law_457 : decode code 457 = .ok (.iaload, 1) := by decide +kernel
theorem d_L_law_458 : decode code 458 = .ok (.invokestatic 75, 3) := by decide +kernel
theorem d_L_law_461 : decode code 461 = .ok (.istore 5, 2) := by decide +kernel
theorem d_L_law_463 : decode code 463 = .ok (.aload_n 2, 1) := by decide +kernel
theorem d_L_law_464 : decode code 464 = .ok (.aload_n 0, 1) := by decide +kernel
theorem d_L_law_465 : decode code 465 = .ok (.iload 4, 2) := by decide +kernel
theorem d_L_law_467 : decode code 467 = .ok (.iconst 1, 1) := by decide +kernel
theorem d_L_law_468 : decode code 468 = .ok (.iadd, 1) := by decide +kernel
theorem d_L_law_469 : decode code 469 = .ok (.iaload, 1) := by decide +kernel
theorem d_L_law_470 : decode code 470 = .ok (.aload_n 0, 1) := by decide +kernel
theorem d_L_law_471 : decode code 471 = .ok (.iload 4, 2) := by decide +kernel
theorem d_L_law_473 : decode code 473 = .ok (.iconst 2, 1) := by decide +kernel
theorem d_L_law_474 : decode code 474 = .ok (.iadd, 1) := by decide +kernel
theorem d_L_law_475 : decode code 475 = .ok (.iaload, 1) := by decide +kernel
theorem d_L_law_476 : decode code 476 = .ok (.aload_n 0, 1) := by decide +kernel
theorem d_L_law_477 : decode code 477 = .ok (.iload 4, 2) := by decide +kernel
theorem d_L_law_479 : decode code 479 = .ok (.iconst 3, 1) := by decide +kernel
theorem d_L_law_480 : decode code 480 = .ok (.iadd, 1) := by decide +kernel
theorem d_L_law_481 : decode code 481 = .ok (.iaload, 1) := by decide +kernel
theorem d_L_law_482 : decode code 482 = .ok (.invokevirtual 78, 3) := by decide +kernel
theorem d_L_law_485 : decode code 485 = .ok (.aload_n 2, 1) := by decide +kernel
theorem d_L_law_486 : decode code 486 = .ok (.invokevirtual 58, 3) := by decide +kernel
theorem d_L_law_489 : decode code 489 = .ok (.iload 5, 2) := by decide +kernel
theorem d_L_law_491 : decode code 491 = .ok (.if_icmp .eq 5, 3) := by decide +kernel
theorem d_L_law_494 : decode code 494 = .ok (.iconst 0, 1) := by decide +kernel
theorem d_L_law_495 : decode code 495 = .ok (.ireturn, 1) := by decide +kernel
theorem d_L_law_496 : decode code 496 = .ok (.goto 277, 3) := by decide +kernel
theorem d_L_law_499 : decode code 499 = .ok (.aload_n 1, 1) := by decide +kernel
theorem d_L_law_500 : decode code 500 = .ok (.aload_n 0, 1) := by decide +kernel
theorem d_L_law_501 : decode code 501 = .ok (.iload 4, 2) := by decide +kernel
theorem d_L_law_503 : decode code 503 = .ok (.iconst 1, 1) := by decide +kernel
theorem d_L_law_504 : decode code 504 = .ok (.iadd, 1) := by decide +kernel
theorem d_L_law_505 : decode code 505 = .ok (.iaload, 1) := by decide +kernel
theorem d_L_law_506 : decode code 506 = .ok (.aload_n 0, 1) := by decide +kernel
theorem d_L_law_507 : decode code 507 = .ok (.iload 4, 2) := by decide +kernel
theorem d_L_law_509 : decode code 509 = .ok (.iconst 2, 1) := by decide +kernel
theorem d_L_law_510 : decode code 510 = .ok (.iadd, 1) := by decide +kernel
theorem d_L_law_511 : decode code 511 = .ok (.iaload, 1) := by decide +kernel
theorem d_L_law_512 : decode code 512 = .ok (.aload_n 0, 1) := by decide +kernel
theorem d_L_law_513 : decode code 513 = .ok (.iload 4, 2) := by decide +kernel
theorem d_L_law_515 : decode code 515 = .ok (.iconst 3, 1) := by decide +kernel
theorem d_L_law_516 : decode code 516 = .ok (.iadd, 1) := by decide +kernel
theorem d_L_law_517 : decode code 517 = .ok (.iaload, 1) := by decide +kernel
theorem d_L_law_518 : decode code 518 = .ok (.aload_n 0, 1) := by decide +kernel
theorem d_L_law_519 : decode code 519 = .ok (.iload 4, 2) := by decide +kernel
theorem d_L_law_521 : decode code 521 = .ok (.iconst 4, 1) := by decide +kernel
theorem d_L_law_522 : decode code 522 = .ok (.iadd, 1) := by decide +kernel
theorem d_L_law_523 : decode code 523 = .ok (.iaload, 1) := by decide +kernel
theorem d_L_law_524 : decode code 524 = .ok (.invokestatic 79, 3) := by decide +kernel
theorem d_L_law_527 : decode code 527 = .ok (.istore 5, 2) := by decide +kernel
theorem d_L_law_529 : decode code 529 = .ok (.aload_n 2, 1) := by decide +kernel
theorem d_L_law_530 : decode code 530 = .ok (.aload_n 0, 1) := by decide +kernel
theorem d_L_law_531 : decode code 531 = .ok (.iload 4, 2) := by decide +kernel
theorem d_L_law_533 : decode code 533 = .ok (.iconst 1, 1) := by decide +kernel
theorem d_L_law_534 : decode code 534 = .ok (.iadd, 1) := by decide +kernel
theorem d_L_law_535 : decode code 535 = .ok (.iaload, 1) := by decide +kernel
theorem d_L_law_536 : decode code 536 = .ok (.aload_n 0, 1) := by decide +kernel
theorem d_L_law_537 : decode code 537 = .ok (.iload 4, 2) := by decide +kernel
theorem d_L_law_539 : decode code 539 = .ok (.iconst 2, 1) := by decide +kernel
theorem d_L_law_540 : decode code 540 = .ok (.iadd, 1) := by decide +kernel
theorem d_L_law_541 : decode code 541 = .ok (.iaload, 1) := by decide +kernel
theorem d_L_law_542 : decode code 542 = .ok (.aload_n 0, 1) := by decide +kernel
theorem d_L_law_543 : decode code 543 = .ok (.iload 4, 2) := by decide +kernel
theorem d_L_law_545 : decode code 545 = .ok (.iconst 3, 1) := by decide +kernel
theorem d_L_law_546 : decode code 546 = .ok (.iadd, 1) := by decide +kernel
theorem d_L_law_547 : decode code 547 = .ok (.iaload, 1) := by decide +kernel
theorem d_L_law_548 : decode code 548 = .ok (.aload_n 0, 1) := by decide +kernel
theorem d_L_law_549 : decode code 549 = .ok (.iload 4, 2) := by decide +kernel
theorem d_L_law_551 : decode code 551 = .ok (.iconst 4, 1) := by decide +kernel
theorem d_L_law_552 : decode code 552 = .ok (.iadd, 1) := by decide +kernel
theorem d_L_law_553 : decode code 553 = .ok (.iaload, 1) := by decide +kernel
theorem d_L_law_554 : decode code 554 = .ok (.invokevirtual 82, 3) := by decide +kernel
theorem d_L_law_557 : decode code 557 = .ok (.aload_n 2, 1) := by decide +kernel
theorem d_L_law_558 : decode code 558 = .ok (.invokevirtual 58, 3) := by decide +kernel
theorem d_L_law_561 : decode code 561 = .ok (.iload 5, 2) := by decide +kernel
theorem d_L_law_563 : decode code 563 = .ok (.if_icmp .eq 5, 3) := by decide +kernel
theorem d_L_law_566 : decode code 566 = .ok (.iconst 0, 1) := by decide +kernel
theorem d_L_law_567 : decode code 567 = .ok (.ireturn, 1) := by decide +kernel
theorem d_L_law_568 : decode code 568 = .ok (.goto 205, 3) := by decide +kernel
theorem d_L_law_571 : decode code 571 = .ok (.aload_n 1, 1) := by decide +kernel
theorem d_L_law_572 : decode code 572 = .ok (.invokevirtual 83, 3) := by decide +kernel
theorem d_L_law_575 : decode code 575 = .ok (.aload_n 2, 1) := by decide +kernel
theorem d_L_law_576 : decode code 576 = .ok (.invokevirtual 86, 3) := by decide +kernel
theorem d_L_law_579 : decode code 579 = .ok (.if_icmp .eq 194, 3) := by decide +kernel
theorem d_L_law_582 : decode code 582 = .ok (.iconst 0, 1) := by decide +kernel
theorem d_L_law_583 : decode code 583 = .ok (.ireturn, 1) := by decide +kernel
theorem d_L_law_584 : decode code 584 = .ok (.aload_n 1, 1) := by decide +kernel
theorem d_L_law_585 : decode code 585 = .ok (.aload_n 0, 1) := by decide +kernel
theorem d_L_law_586 : decode code 586 = .ok (.iload 4, 2) := by decide +kernel
theorem d_L_law_588 : decode code 588 = .ok (.iconst 1, 1) := by decide +kernel
theorem d_L_law_589 : decode code 589 = .ok (.iadd, 1) := by decide +kernel
theorem d_L_law_590 : decode code 590 = .ok (.iaload, 1) := by decide +kernel
theorem d_L_law_591 : decode code 591 = .ok (.aload_n 0, 1) := by decide +kernel
theorem d_L_law_592 : decode code 592 = .ok (.iload 4, 2) := by decide +kernel
theorem d_L_law_594 : decode code 594 = .ok (.iconst 2, 1) := by decide +kernel
theorem d_L_law_595 : decode code 595 = .ok (.iadd, 1) := by decide +kernel
theorem d_L_law_596 : decode code 596 = .ok (.iaload, 1) := by decide +kernel
theorem d_L_law_597 : decode code 597 = .ok (.invokevirtual 87, 3) := by decide +kernel
theorem d_L_law_600 : decode code 600 = .ok (.aload_n 2, 1) := by decide +kernel
theorem d_L_law_601 : decode code 601 = .ok (.aload_n 0, 1) := by decide +kernel
theorem d_L_law_602 : decode code 602 = .ok (.iload 4, 2) := by decide +kernel
theorem d_L_law_604 : decode code 604 = .ok (.iconst 1, 1) := by decide +kernel
theorem d_L_law_605 : decode code 605 = .ok (.iadd, 1) := by decide +kernel
theorem d_L_law_606 : decode code 606 = .ok (.iaload, 1) := by decide +kernel
theorem d_L_law_607 : decode code 607 = .ok (.aload_n 0, 1) := by decide +kernel
end
section
/-! what stands at each place of the code, by program -/
theorem d_L_law_608 : decode code 608 = .ok (.iload 4, 2) := by decide +kernel
theorem d_L_law_610 : decode code 610 = .ok (.iconst 2, 1) := by decide +kernel
theorem d_L_law_611 : decode code 611 = .ok (.iadd, 1) := by decide +kernel
theorem d_L_law_612 : decode code 612 = .ok (.iaload, 1) := by decide +kernel
theorem d_L_law_613 : decode code 613 = .ok (.invokevirtual 90, 3) := by decide +kernel
theorem d_L_law_616 : decode code 616 = .ok (.if_icmp .eq 157, 3) := by decide +kernel
theorem d_L_law_619 : decode code 619 = .ok (.iconst 0, 1) := by decide +kernel
theorem d_L_law_620 : decode code 620 = .ok (.ireturn, 1) := by decide +kernel
theorem d_L_law_621 : decode code 621 = .ok (.aload_n 1, 1) := by decide +kernel
theorem d_L_law_622 : decode code 622 = .ok (.aload_n 0, 1) := by decide +kernel
theorem d_L_law_623 : decode code 623 = .ok (.iload 4, 2) := by decide +kernel
theorem d_L_law_625 : decode code 625 = .ok (.iconst 1, 1) := by decide +kernel
theorem d_L_law_626 : decode code 626 = .ok (.iadd, 1) := by decide +kernel
theorem d_L_law_627 : decode code 627 = .ok (.iaload, 1) := by decide +kernel
theorem d_L_law_628 : decode code 628 = .ok (.aload_n 0, 1) := by decide +kernel
theorem d_L_law_629 : decode code 629 = .ok (.iload 4, 2) := by decide +kernel
theorem d_L_law_631 : decode code 631 = .ok (.iconst 2, 1) := by decide +kernel
theorem d_L_law_632 : decode code 632 = .ok (.iadd, 1) := by decide +kernel
theorem d_L_law_633 : decode code 633 = .ok (.iaload, 1) := by decide +kernel
theorem d_L_law_634 : decode code 634 = .ok (.invokevirtual 91, 3) := by decide +kernel
theorem d_L_law_637 : decode code 637 = .ok (.aload_n 2, 1) := by decide +kernel
theorem d_L_law_638 : decode code 638 = .ok (.aload_n 0, 1) := by decide +kernel
theorem d_L_law_639 : decode code 639 = .ok (.iload 4, 2) := by decide +kernel
theorem d_L_law_641 : decode code 641 = .ok (.iconst 1, 1) := by decide +kernel
theorem d_L_law_642 : decode code 642 = .ok (.iadd, 1) := by decide +kernel
theorem d_L_law_643 : decode code 643 = .ok (.iaload, 1) := by decide +kernel
theorem d_L_law_644 : decode code 644 = .ok (.aload_n 0, 1) := by decide +kernel
theorem d_L_law_645 : decode code 645 = .ok (.iload 4, 2) := by decide +kernel
theorem d_L_law_647 : decode code 647 = .ok (.iconst 2, 1) := by decide +kernel
theorem d_L_law_648 : decode code 648 = .ok (.iadd, 1) := by decide +kernel
theorem d_L_law_649 : decode code 649 = .ok (.iaload, 1) := by decide +kernel
theorem d_L_law_650 : decode code 650 = .ok (.invokevirtual 94, 3) := by decide +kernel
theorem d_L_law_653 : decode code 653 = .ok (.if_icmp .eq 120, 3) := by decide +kernel
theorem d_L_law_656 : decode code 656 = .ok (.iconst 0, 1) := by decide +kernel
theorem d_L_law_657 : decode code 657 = .ok (.ireturn, 1) := by decide +kernel
theorem d_L_law_658 : decode code 658 = .ok (.aload_n 1, 1) := by decide +kernel
theorem d_L_law_659 : decode code 659 = .ok (.aload_n 0, 1) := by decide +kernel
theorem d_L_law_660 : decode code 660 = .ok (.iload 4, 2) := by decide +kernel
theorem d_L_law_662 : decode code 662 = .ok (.iconst 1, 1) := by decide +kernel
theorem d_L_law_663 : decode code 663 = .ok (.iadd, 1) := by decide +kernel
theorem d_L_law_664 : decode code 664 = .ok (.iaload, 1) := by decide +kernel
theorem d_L_law_665 : decode code 665 = .ok (.invokevirtual 95, 3) := by decide +kernel
theorem d_L_law_668 : decode code 668 = .ok (.aload_n 2, 1) := by decide +kernel
theorem d_L_law_669 : decode code 669 = .ok (.aload_n 0, 1) := by decide +kernel
theorem d_L_law_670 : decode code 670 = .ok (.iload 4, 2) := by decide +kernel
theorem d_L_law_672 : decode code 672 = .ok (.iconst 1, 1) := by decide +kernel
theorem d_L_law_673 : decode code 673 = .ok (.iadd, 1) := by decide +kernel
theorem d_L_law_674 : decode code 674 = .ok (.iaload, 1) := by decide +kernel
theorem d_L_law_675 : decode code 675 = .ok (.invokevirtual 99, 3) := by decide +kernel
theorem d_L_law_678 : decode code 678 = .ok (.if_icmp .eq 95, 3) := by decide +kernel
theorem d_L_law_681 : decode code 681 = .ok (.iconst 0, 1) := by decide +kernel
theorem d_L_law_682 : decode code 682 = .ok (.ireturn, 1) := by decide +kernel
theorem d_L_law_683 : decode code 683 = .ok (.aload_n 1, 1) := by decide +kernel
theorem d_L_law_684 : decode code 684 = .ok (.aload_n 0, 1) := by decide +kernel
theorem d_L_law_685 : decode code 685 = .ok (.iload 4, 2) := by decide +kernel
theorem d_L_law_687 : decode code 687 = .ok (.iconst 1, 1) := by decide +kernel
theorem d_L_law_688 : decode code 688 = .ok (.iadd, 1) := by decide +kernel
theorem d_L_law_689 : decode code 689 = .ok (.iaload, 1) := by decide +kernel
theorem d_L_law_690 : decode code 690 = .ok (.invokevirtual 100, 3) := by decide +kernel
theorem d_L_law_693 : decode code 693 = .ok (.aload_n 2, 1) := by decide +kernel
theorem d_L_law_694 : decode code 694 = .ok (.aload_n 0, 1) := by decide +kernel
theorem d_L_law_695 : decode code 695 = .ok (.iload 4, 2) := by decide +kernel
theorem d_L_law_697 : decode code 697 = .ok (.iconst 1, 1) := by decide +kernel
theorem d_L_law_698 : decode code 698 = .ok (.iadd, 1) := by decide +kernel
theorem d_L_law_699 : decode code 699 = .ok (.iaload, 1) := by decide +kernel
theorem d_L_law_700 : decode code 700 = .ok (.invokevirtual 103, 3) := by decide +kernel
theorem d_L_law_703 : decode code 703 = .ok (.if_icmp .eq 70, 3) := by decide +kernel
theorem d_L_law_706 : decode code 706 = .ok (.iconst 0, 1) := by decide +kernel
theorem d_L_law_707 : decode code 707 = .ok (.ireturn, 1) := by decide +kernel
theorem d_L_law_708 : decode code 708 = .ok (.aload_n 1, 1) := by decide +kernel
theorem d_L_law_709 : decode code 709 = .ok (.invokevirtual 104, 3) := by decide +kernel
theorem d_L_law_712 : decode code 712 = .ok (.aload_n 2, 1) := by decide +kernel
theorem d_L_law_713 : decode code 713 = .ok (.invokevirtual 107, 3) := by decide +kernel
theorem d_L_law_716 : decode code 716 = .ok (.if_icmp .eq 57, 3) := by decide +kernel
theorem d_L_law_719 : decode code 719 = .ok (.iconst 0, 1) := by decide +kernel
theorem d_L_law_720 : decode code 720 = .ok (.ireturn, 1) := by decide +kernel
theorem d_L_law_721 : decode code 721 = .ok (.aload_n 1, 1) := by decide +kernel
theorem d_L_law_722 : decode code 722 = .ok (.invokevirtual 108, 3) := by decide +kernel
theorem d_L_law_725 : decode code 725 = .ok (.aload_n 2, 1) := by decide +kernel
theorem d_L_law_726 : decode code 726 = .ok (.invokevirtual 111, 3) := by decide +kernel
theorem d_L_law_729 : decode code 729 = .ok (.if_icmp .eq 44, 3) := by decide +kernel
theorem d_L_law_732 : decode code 732 = .ok (.iconst 0, 1) := by decide +kernel
theorem d_L_law_733 : decode code 733 = .ok (.ireturn, 1) := by decide +kernel
theorem d_L_law_734 : decode code 734 = .ok (.aload_n 1, 1) := by decide +kernel
theorem d_L_law_735 : decode code 735 = .ok (.invokevirtual 112, 3) := by decide +kernel
theorem d_L_law_738 : decode code 738 = .ok (.aload_n 2, 1) := by decide +kernel
theorem d_L_law_739 : decode code 739 = .ok (.invokevirtual 115, 3) := by decide +kernel
theorem d_L_law_742 : decode code 742 = .ok (.if_icmp .eq 31, 3) := by decide +kernel
theorem d_L_law_745 : decode code 745 = .ok (.iconst 0, 1) := by decide +kernel
theorem d_L_law_746 : decode code 746 = .ok (.ireturn, 1) := by decide +kernel
theorem d_L_law_747 : decode code 747 = .ok (.aload_n 1, 1) := by decide +kernel
theorem d_L_law_748 : decode code 748 = .ok (.invokevirtual 116, 3) := by decide +kernel
theorem d_L_law_751 : decode code 751 = .ok (.aload_n 2, 1) := by decide +kernel
theorem d_L_law_752 : decode code 752 = .ok (.invokevirtual 119, 3) := by decide +kernel
theorem d_L_law_755 : decode code 755 = .ok (.if_icmp .eq 18, 3) := by decide +kernel
theorem d_L_law_758 : decode code 758 = .ok (.iconst 0, 1) := by decide +kernel
theorem d_L_law_759 : decode code 759 = .ok (.ireturn, 1) := by decide +kernel
theorem d_L_law_760 : decode code 760 = .ok (.aload_n 1, 1) := by decide +kernel
theorem d_L_law_761 : decode code 761 = .ok (.invokevirtual 120, 3) := by decide +kernel
theorem d_L_law_764 : decode code 764 = .ok (.aload_n 2, 1) := by decide +kernel
theorem d_L_law_765 : decode code 765 = .ok (.invokevirtual 123, 3) := by decide +kernel
theorem d_L_law_768 : decode code 768 = .ok (.if_icmp .eq 5, 3) := by decide +kernel
theorem d_L_law_771 : decode code 771 = .ok (.iconst 0, 1) := by decide +kernel
theorem d_L_law_772 : decode code 772 = .ok (.ireturn, 1) := by decide +kernel
theorem d_L_law_773 : decode code 773 = .ok (.iinc 4 5, 3) := by decide +kernel
theorem d_L_law_776 : decode code 776 = .ok (.goto (-733), 3) := by decide +kernel
theorem d_L_law_779 : decode code 779 = .ok (.iconst 1, 1) := by decide +kernel
theorem d_L_law_780 : decode code 780 = .ok (.ireturn, 1) := by decide +kernel
end
section
/-! what stands at each place of the code, by program -/
theorem d_M_init_0 : decode b_M_init 0 = .ok (.aload_n 0, 1) := by decide +kernel
theorem d_M_init_1 : decode b_M_init 1 = .ok (.invokespecial 3, 3) := by decide +kernel
theorem d_M_init_4 : decode b_M_init 4 = .ok (.aload_n 0, 1) := by decide +kernel
theorem d_M_init_5 : decode b_M_init 5 = .ok (.iload_n 1, 1) := by decide +kernel
theorem d_M_init_6 : decode b_M_init 6 = .ok (.invokestatic 9, 3) := by decide +kernel
theorem d_M_init_9 : decode b_M_init 9 = .ok (.putfield 13, 3) := by decide +kernel
theorem d_M_init_12 : decode b_M_init 12 = .ok (.aload_n 0, 1) := by decide +kernel
theorem d_M_init_13 : decode b_M_init 13 = .ok (.iload_n 2, 1) := by decide +kernel
theorem d_M_init_14 : decode b_M_init 14 = .ok (.invokestatic 9, 3) := by decide +kernel
theorem d_M_init_17 : decode b_M_init 17 = .ok (.putfield 19, 3) := by decide +kernel
theorem d_M_init_20 : decode b_M_init 20 = .ok (.aload_n 0, 1) := by decide +kernel
theorem d_M_init_21 : decode b_M_init 21 = .ok (.iload_n 1, 1) := by decide +kernel
theorem d_M_init_22 : decode b_M_init 22 = .ok (.newarray .boolean, 2) := by decide +kernel
theorem d_M_init_24 : decode b_M_init 24 = .ok (.putfield 22, 3) := by decide +kernel
theorem d_M_init_27 : decode b_M_init 27 = .ok (.aload_n 0, 1) := by decide +kernel
theorem d_M_init_28 : decode b_M_init 28 = .ok (.iload_n 1, 1) := by decide +kernel
theorem d_M_init_29 : decode b_M_init 29 = .ok (.iload_n 2, 1) := by decide +kernel
theorem d_M_init_30 : decode b_M_init 30 = .ok (.iadd, 1) := by decide +kernel
theorem d_M_init_31 : decode b_M_init 31 = .ok (.invokestatic 9, 3) := by decide +kernel
theorem d_M_init_34 : decode b_M_init 34 = .ok (.putfield 26, 3) := by decide +kernel
theorem d_M_init_37 : decode b_M_init 37 = .ok (.aload_n 0, 1) := by decide +kernel
theorem d_M_init_38 : decode b_M_init 38 = .ok (.iload_n 1, 1) := by decide +kernel
theorem d_M_init_39 : decode b_M_init 39 = .ok (.iload_n 2, 1) := by decide +kernel
theorem d_M_init_40 : decode b_M_init 40 = .ok (.iadd, 1) := by decide +kernel
theorem d_M_init_41 : decode b_M_init 41 = .ok (.newarray .int, 2) := by decide +kernel
theorem d_M_init_43 : decode b_M_init 43 = .ok (.putfield 29, 3) := by decide +kernel
theorem d_M_init_46 : decode b_M_init 46 = .ok (.aload_n 0, 1) := by decide +kernel
theorem d_M_init_47 : decode b_M_init 47 = .ok (.iload_n 1, 1) := by decide +kernel
theorem d_M_init_48 : decode b_M_init 48 = .ok (.iload_n 2, 1) := by decide +kernel
theorem d_M_init_49 : decode b_M_init 49 = .ok (.iadd, 1) := by decide +kernel
theorem d_M_init_50 : decode b_M_init 50 = .ok (.iconst 4, 1) := by decide +kernel
theorem d_M_init_51 : decode b_M_init 51 = .ok (.multianewarray 32 2, 4) := by decide +kernel
theorem d_M_init_55 : decode b_M_init 55 = .ok (.putfield 34, 3) := by decide +kernel
theorem d_M_init_58 : decode b_M_init 58 = .ok (.return_, 1) := by decide +kernel
theorem d_M_placeOf_0 : decode b_M_placeOf 0 = .ok (.aload_n 0, 1) := by decide +kernel
theorem d_M_placeOf_1 : decode b_M_placeOf 1 = .ok (.getfield 26, 3) := by decide +kernel
theorem d_M_placeOf_4 : decode b_M_placeOf 4 = .ok (.iload_n 1, 1) := by decide +kernel
theorem d_M_placeOf_5 : decode b_M_placeOf 5 = .ok (.iaload, 1) := by decide +kernel
theorem d_M_placeOf_6 : decode b_M_placeOf 6 = .ok (.ireturn, 1) := by decide +kernel
theorem d_M_pagesOf_0 : decode b_M_pagesOf 0 = .ok (.aload_n 0, 1) := by decide +kernel
theorem d_M_pagesOf_1 : decode b_M_pagesOf 1 = .ok (.getfield 29, 3) := by decide +kernel
theorem d_M_pagesOf_4 : decode b_M_pagesOf 4 = .ok (.iload_n 1, 1) := by decide +kernel
theorem d_M_pagesOf_5 : decode b_M_pagesOf 5 = .ok (.iaload, 1) := by decide +kernel
theorem d_M_pagesOf_6 : decode b_M_pagesOf 6 = .ok (.ireturn, 1) := by decide +kernel
theorem d_M_hasMark_0 : decode b_M_hasMark 0 = .ok (.iload_n 1, 1) := by decide +kernel
theorem d_M_hasMark_1 : decode b_M_hasMark 1 = .ok (.ifCond .lt 25, 3) := by decide +kernel
theorem d_M_hasMark_4 : decode b_M_hasMark 4 = .ok (.iload_n 1, 1) := by decide +kernel
theorem d_M_hasMark_5 : decode b_M_hasMark 5 = .ok (.aload_n 0, 1) := by decide +kernel
theorem d_M_hasMark_6 : decode b_M_hasMark 6 = .ok (.getfield 22, 3) := by decide +kernel
theorem d_M_hasMark_9 : decode b_M_hasMark 9 = .ok (.arraylength, 1) := by decide +kernel
theorem d_M_hasMark_10 : decode b_M_hasMark 10 = .ok (.if_icmp .ge 16, 3) := by decide +kernel
theorem d_M_hasMark_13 : decode b_M_hasMark 13 = .ok (.aload_n 0, 1) := by decide +kernel
theorem d_M_hasMark_14 : decode b_M_hasMark 14 = .ok (.getfield 22, 3) := by decide +kernel
theorem d_M_hasMark_17 : decode b_M_hasMark 17 = .ok (.iload_n 1, 1) := by decide +kernel
theorem d_M_hasMark_18 : decode b_M_hasMark 18 = .ok (.baload, 1) := by decide +kernel
theorem d_M_hasMark_19 : decode b_M_hasMark 19 = .ok (.ifCond .eq 7, 3) := by decide +kernel
theorem d_M_hasMark_22 : decode b_M_hasMark 22 = .ok (.iconst 1, 1) := by decide +kernel
theorem d_M_hasMark_23 : decode b_M_hasMark 23 = .ok (.goto 4, 3) := by decide +kernel
theorem d_M_hasMark_26 : decode b_M_hasMark 26 = .ok (.iconst 0, 1) := by decide +kernel
theorem d_M_hasMark_27 : decode b_M_hasMark 27 = .ok (.ireturn, 1) := by decide +kernel
theorem d_M_read_0 : decode b_M_read 0 = .ok (.aload_n 0, 1) := by decide +kernel
theorem d_M_read_1 : decode b_M_read 1 = .ok (.iload_n 1, 1) := by decide +kernel
theorem d_M_read_2 : decode b_M_read 2 = .ok (.invokevirtual 37, 3) := by decide +kernel
theorem d_M_read_5 : decode b_M_read 5 = .ok (.aload_n 0, 1) := by decide +kernel
theorem d_M_read_6 : decode b_M_read 6 = .ok (.getfield 34, 3) := by decide +kernel
theorem d_M_read_9 : decode b_M_read 9 = .ok (.iload_n 1, 1) := by decide +kernel
theorem d_M_read_10 : decode b_M_read 10 = .ok (.aaload, 1) := by decide +kernel
theorem d_M_read_11 : decode b_M_read 11 = .ok (.iload_n 2, 1) := by decide +kernel
theorem d_M_read_12 : decode b_M_read 12 = .ok (.iaload, 1) := by decide +kernel
theorem d_M_read_13 : decode b_M_read 13 = .ok (.ireturn, 1) := by decide +kernel
theorem d_M_write_0 : decode b_M_write 0 = .ok (.aload_n 0, 1) := by decide +kernel
theorem d_M_write_1 : decode b_M_write 1 = .ok (.iload_n 1, 1) := by decide +kernel
theorem d_M_write_2 : decode b_M_write 2 = .ok (.invokevirtual 37, 3) := by decide +kernel
theorem d_M_write_5 : decode b_M_write 5 = .ok (.aload_n 0, 1) := by decide +kernel
theorem d_M_write_6 : decode b_M_write 6 = .ok (.getfield 34, 3) := by decide +kernel
theorem d_M_write_9 : decode b_M_write 9 = .ok (.iload_n 1, 1) := by decide +kernel
theorem d_M_write_10 : decode b_M_write 10 = .ok (.aaload, 1) := by decide +kernel
theorem d_M_write_11 : decode b_M_write 11 = .ok (.iload_n 2, 1) := by decide +kernel
theorem d_M_write_12 : decode b_M_write 12 = .ok (.iload_n 3, 1) := by decide +kernel
theorem d_M_write_13 : decode b_M_write 13 = .ok (.iastore, 1) := by decide +kernel
theorem d_M_write_14 : decode b_M_write 14 = .ok (.return_, 1) := by decide +kernel
theorem d_M_copyWords_0 : decode b_M_copyWords 0 = .ok (.aload_n 0, 1) := by decide +kernel
theorem d_M_copyWords_1 : decode b_M_copyWords 1 = .ok (.getfield 34, 3) := by decide +kernel
theorem d_M_copyWords_4 : decode b_M_copyWords 4 = .ok (.iload_n 1, 1) := by decide +kernel
theorem d_M_copyWords_5 : decode b_M_copyWords 5 = .ok (.aaload, 1) := by decide +kernel
theorem d_M_copyWords_6 : decode b_M_copyWords 6 = .ok (.iconst 0, 1) := by decide +kernel
theorem d_M_copyWords_7 : decode b_M_copyWords 7 = .ok (.aload_n 0, 1) := by decide +kernel
theorem d_M_copyWords_8 : decode b_M_copyWords 8 = .ok (.getfield 34, 3) := by decide +kernel
theorem d_M_copyWords_11 : decode b_M_copyWords 11 = .ok (.iload_n 2, 1) := by decide +kernel
theorem d_M_copyWords_12 : decode b_M_copyWords 12 = .ok (.aaload, 1) := by decide +kernel
theorem d_M_copyWords_13 : decode b_M_copyWords 13 = .ok (.iconst 0, 1) := by decide +kernel
theorem d_M_copyWords_14 : decode b_M_copyWords 14 = .ok (.iconst 4, 1) := by decide +kernel
theorem d_M_copyWords_15 : decode b_M_copyWords 15 = .ok (.invokestatic 41, 3) := by decide +kernel
theorem d_M_copyWords_18 : decode b_M_copyWords 18 = .ok (.return_, 1) := by decide +kernel
theorem d_M_make_0 : decode b_M_make 0 = .ok (.aload_n 0, 1) := by decide +kernel
theorem d_M_make_1 : decode b_M_make 1 = .ok (.getfield 26, 3) := by decide +kernel
theorem d_M_make_4 : decode b_M_make 4 = .ok (.invokestatic 47, 3) := by decide +kernel
theorem d_M_make_7 : decode b_M_make 7 = .ok (.istore_n 1, 1) := by decide +kernel
theorem d_M_make_8 : decode b_M_make 8 = .ok (.iload_n 1, 1) := by decide +kernel
theorem d_M_make_9 : decode b_M_make 9 = .ok (.iconst (-1), 1) := by decide +kernel
theorem d_M_make_10 : decode b_M_make 10 = .ok (.if_icmp .ne 7, 3) := by decide +kernel
theorem d_M_make_13 : decode b_M_make 13 = .ok (.iconst (-1), 1) := by decide +kernel
theorem d_M_make_14 : decode b_M_make 14 = .ok (.goto 7, 3) := by decide +kernel
theorem d_M_make_17 : decode b_M_make 17 = .ok (.aload_n 0, 1) := by decide +kernel
theorem d_M_make_18 : decode b_M_make 18 = .ok (.invokevirtual 51, 3) := by decide +kernel
theorem d_M_make_21 : decode b_M_make 21 = .ok (.istore_n 2, 1) := by decide +kernel
theorem d_M_make_22 : decode b_M_make 22 = .ok (.iload_n 2, 1) := by decide +kernel
theorem d_M_make_23 : decode b_M_make 23 = .ok (.iconst (-1), 1) := by decide +kernel
theorem d_M_make_24 : decode b_M_make 24 = .ok (.if_icmp .ne 5, 3) := by decide +kernel
theorem d_M_make_27 : decode b_M_make 27 = .ok (.iconst (-1), 1) := by decide +kernel
theorem d_M_make_28 : decode b_M_make 28 = .ok (.ireturn, 1) := by decide +kernel
theorem d_M_make_29 : decode b_M_make 29 = .ok (.aload_n 0, 1) := by decide +kernel
theorem d_M_make_30 : decode b_M_make 30 = .ok (.getfield 34, 3) := by decide +kernel
theorem d_M_make_33 : decode b_M_make 33 = .ok (.iload_n 1, 1) := by decide +kernel
theorem d_M_make_34 : decode b_M_make 34 = .ok (.aaload, 1) := by decide +kernel
theorem d_M_make_35 : decode b_M_make 35 = .ok (.iconst 0, 1) := by decide +kernel
theorem d_M_make_36 : decode b_M_make 36 = .ok (.invokestatic 55, 3) := by decide +kernel
theorem d_M_make_39 : decode b_M_make 39 = .ok (.aload_n 0, 1) := by decide +kernel
theorem d_M_make_40 : decode b_M_make 40 = .ok (.getfield 29, 3) := by decide +kernel
theorem d_M_make_43 : decode b_M_make 43 = .ok (.iload_n 1, 1) := by decide +kernel
theorem d_M_make_44 : decode b_M_make 44 = .ok (.iconst 1, 1) := by decide +kernel
theorem d_M_make_45 : decode b_M_make 45 = .ok (.iastore, 1) := by decide +kernel
theorem d_M_make_46 : decode b_M_make 46 = .ok (.aload_n 0, 1) := by decide +kernel
theorem d_M_make_47 : decode b_M_make 47 = .ok (.iload_n 1, 1) := by decide +kernel
theorem d_M_make_48 : decode b_M_make 48 = .ok (.iload_n 2, 1) := by decide +kernel
theorem d_M_make_49 : decode b_M_make 49 = .ok (.invokevirtual 61, 3) := by decide +kernel
theorem d_M_make_52 : decode b_M_make 52 = .ok (.iload_n 1, 1) := by decide +kernel
theorem d_M_make_53 : decode b_M_make 53 = .ok (.ireturn, 1) := by decide +kernel
theorem d_M_join_0 : decode b_M_join 0 = .ok (.aload_n 0, 1) := by decide +kernel
theorem d_M_join_1 : decode b_M_join 1 = .ok (.getfield 29, 3) := by decide +kernel
theorem d_M_join_4 : decode b_M_join 4 = .ok (.iload_n 1, 1) := by decide +kernel
theorem d_M_join_5 : decode b_M_join 5 = .ok (.dup2, 1) := by decide +kernel
theorem d_M_join_6 : decode b_M_join 6 = .ok (.iaload, 1) := by decide +kernel
theorem d_M_join_7 : decode b_M_join 7 = .ok (.iconst 1, 1) := by decide +kernel
theorem d_M_join_8 : decode b_M_join 8 = .ok (.iadd, 1) := by decide +kernel
theorem d_M_join_9 : decode b_M_join 9 = .ok (.iastore, 1) := by decide +kernel
theorem d_M_join_10 : decode b_M_join 10 = .ok (.return_, 1) := by decide +kernel
theorem d_M_leave_0 : decode b_M_leave 0 = .ok (.aload_n 0, 1) := by decide +kernel
theorem d_M_leave_1 : decode b_M_leave 1 = .ok (.getfield 29, 3) := by decide +kernel
theorem d_M_leave_4 : decode b_M_leave 4 = .ok (.iload_n 1, 1) := by decide +kernel
theorem d_M_leave_5 : decode b_M_leave 5 = .ok (.dup2, 1) := by decide +kernel
theorem d_M_leave_6 : decode b_M_leave 6 = .ok (.iaload, 1) := by decide +kernel
theorem d_M_leave_7 : decode b_M_leave 7 = .ok (.iconst 1, 1) := by decide +kernel
theorem d_M_leave_8 : decode b_M_leave 8 = .ok (.isub, 1) := by decide +kernel
theorem d_M_leave_9 : decode b_M_leave 9 = .ok (.iastore, 1) := by decide +kernel
theorem d_M_leave_10 : decode b_M_leave 10 = .ok (.aload_n 0, 1) := by decide +kernel
theorem d_M_leave_11 : decode b_M_leave 11 = .ok (.getfield 29, 3) := by decide +kernel
theorem d_M_leave_14 : decode b_M_leave 14 = .ok (.iload_n 1, 1) := by decide +kernel
theorem d_M_leave_15 : decode b_M_leave 15 = .ok (.iaload, 1) := by decide +kernel
theorem d_M_leave_16 : decode b_M_leave 16 = .ok (.ifCond .le 5, 3) := by decide +kernel
theorem d_M_leave_19 : decode b_M_leave 19 = .ok (.iconst 0, 1) := by decide +kernel
theorem d_M_leave_20 : decode b_M_leave 20 = .ok (.ireturn, 1) := by decide +kernel
theorem d_M_leave_21 : decode b_M_leave 21 = .ok (.aload_n 0, 1) := by decide +kernel
theorem d_M_leave_22 : decode b_M_leave 22 = .ok (.aload_n 0, 1) := by decide +kernel
theorem d_M_leave_23 : decode b_M_leave 23 = .ok (.getfield 26, 3) := by decide +kernel
theorem d_M_leave_26 : decode b_M_leave 26 = .ok (.iload_n 1, 1) := by decide +kernel
theorem d_M_leave_27 : decode b_M_leave 27 = .ok (.iaload, 1) := by decide +kernel
theorem d_M_leave_28 : decode b_M_leave 28 = .ok (.invokevirtual 65, 3) := by decide +kernel
theorem d_M_leave_31 : decode b_M_leave 31 = .ok (.aload_n 0, 1) := by decide +kernel
theorem d_M_leave_32 : decode b_M_leave 32 = .ok (.getfield 26, 3) := by decide +kernel
theorem d_M_leave_35 : decode b_M_leave 35 = .ok (.iload_n 1, 1) := by decide +kernel
theorem d_M_leave_36 : decode b_M_leave 36 = .ok (.iconst (-1), 1) := by decide +kernel
theorem d_M_leave_37 : decode b_M_leave 37 = .ok (.iastore, 1) := by decide +kernel
theorem d_M_leave_38 : decode b_M_leave 38 = .ok (.iconst 1, 1) := by decide +kernel
theorem d_M_leave_39 : decode b_M_leave 39 = .ok (.ireturn, 1) := by decide +kernel
theorem d_M_touch_0 : decode b_M_touch 0 = .ok (.aload_n 0, 1) := by decide +kernel
theorem d_M_touch_1 : decode b_M_touch 1 = .ok (.getfield 26, 3) := by decide +kernel
theorem d_M_touch_4 : decode b_M_touch 4 = .ok (.iload_n 1, 1) := by decide +kernel
theorem d_M_touch_5 : decode b_M_touch 5 = .ok (.iaload, 1) := by decide +kernel
theorem d_M_touch_6 : decode b_M_touch 6 = .ok (.bipush 100, 2) := by decide +kernel
theorem d_M_touch_8 : decode b_M_touch 8 = .ok (.if_icmp .lt 8, 3) := by decide +kernel
theorem d_M_touch_11 : decode b_M_touch 11 = .ok (.aload_n 0, 1) := by decide +kernel
theorem d_M_touch_12 : decode b_M_touch 12 = .ok (.iload_n 1, 1) := by decide +kernel
theorem d_M_touch_13 : decode b_M_touch 13 = .ok (.invokevirtual 68, 3) := by decide +kernel
theorem d_M_touch_16 : decode b_M_touch 16 = .ok (.aload_n 0, 1) := by decide +kernel
theorem d_M_touch_17 : decode b_M_touch 17 = .ok (.getfield 22, 3) := by decide +kernel
theorem d_M_touch_20 : decode b_M_touch 20 = .ok (.aload_n 0, 1) := by decide +kernel
theorem d_M_touch_21 : decode b_M_touch 21 = .ok (.getfield 26, 3) := by decide +kernel
theorem d_M_touch_24 : decode b_M_touch 24 = .ok (.iload_n 1, 1) := by decide +kernel
theorem d_M_touch_25 : decode b_M_touch 25 = .ok (.iaload, 1) := by decide +kernel
theorem d_M_touch_26 : decode b_M_touch 26 = .ok (.iconst 1, 1) := by decide +kernel
theorem d_M_touch_27 : decode b_M_touch 27 = .ok (.bastore, 1) := by decide +kernel
theorem d_M_touch_28 : decode b_M_touch 28 = .ok (.return_, 1) := by decide +kernel
theorem d_M_bringIn_0 : decode b_M_bringIn 0 = .ok (.aload_n 0, 1) := by decide +kernel
theorem d_M_bringIn_1 : decode b_M_bringIn 1 = .ok (.aload_n 0, 1) := by decide +kernel
theorem d_M_bringIn_2 : decode b_M_bringIn 2 = .ok (.getfield 26, 3) := by decide +kernel
theorem d_M_bringIn_5 : decode b_M_bringIn 5 = .ok (.iload_n 1, 1) := by decide +kernel
theorem d_M_bringIn_6 : decode b_M_bringIn 6 = .ok (.iaload, 1) := by decide +kernel
theorem d_M_bringIn_7 : decode b_M_bringIn 7 = .ok (.invokevirtual 65, 3) := by decide +kernel
theorem d_M_bringIn_10 : decode b_M_bringIn 10 = .ok (.aload_n 0, 1) := by decide +kernel
theorem d_M_bringIn_11 : decode b_M_bringIn 11 = .ok (.iload_n 1, 1) := by decide +kernel
theorem d_M_bringIn_12 : decode b_M_bringIn 12 = .ok (.aload_n 0, 1) := by decide +kernel
theorem d_M_bringIn_13 : decode b_M_bringIn 13 = .ok (.invokevirtual 51, 3) := by decide +kernel
theorem d_M_bringIn_16 : decode b_M_bringIn 16 = .ok (.invokevirtual 61, 3) := by decide +kernel
theorem d_M_bringIn_19 : decode b_M_bringIn 19 = .ok (.return_, 1) := by decide +kernel
theorem d_M_layIntoFrame_0 : decode b_M_layIntoFrame 0 = .ok (.aload_n 0, 1) := by decide +kernel
theorem d_M_layIntoFrame_1 : decode b_M_layIntoFrame 1 = .ok (.getfield 13, 3) := by decide +kernel
theorem d_M_layIntoFrame_4 : decode b_M_layIntoFrame 4 = .ok (.iload_n 2, 1) := by decide +kernel
theorem d_M_layIntoFrame_5 : decode b_M_layIntoFrame 5 = .ok (.iload_n 1, 1) := by decide +kernel
theorem d_M_layIntoFrame_6 : decode b_M_layIntoFrame 6 = .ok (.iastore, 1) := by decide +kernel
theorem d_M_layIntoFrame_7 : decode b_M_layIntoFrame 7 = .ok (.aload_n 0, 1) := by decide +kernel
theorem d_M_layIntoFrame_8 : decode b_M_layIntoFrame 8 = .ok (.getfield 26, 3) := by decide +kernel
theorem d_M_layIntoFrame_11 : decode b_M_layIntoFrame 11 = .ok (.iload_n 1, 1) := by decide +kernel
theorem d_M_layIntoFrame_12 : decode b_M_layIntoFrame 12 = .ok (.iload_n 2, 1) := by decide +kernel
theorem d_M_layIntoFrame_13 : decode b_M_layIntoFrame 13 = .ok (.iastore, 1) := by decide +kernel
theorem d_M_layIntoFrame_14 : decode b_M_layIntoFrame 14 = .ok (.aload_n 0, 1) := by decide +kernel
theorem d_M_layIntoFrame_15 : decode b_M_layIntoFrame 15 = .ok (.dup, 1) := by decide +kernel
theorem d_M_layIntoFrame_16 : decode b_M_layIntoFrame 16 = .ok (.getfield 71, 3) := by decide +kernel
theorem d_M_layIntoFrame_19 : decode b_M_layIntoFrame 19 = .ok (.iconst 1, 1) := by decide +kernel
theorem d_M_layIntoFrame_20 : decode b_M_layIntoFrame 20 = .ok (.iadd, 1) := by decide +kernel
theorem d_M_layIntoFrame_21 : decode b_M_layIntoFrame 21 = .ok (.putfield 71, 3) := by decide +kernel
theorem d_M_layIntoFrame_24 : decode b_M_layIntoFrame 24 = .ok (.return_, 1) := by decide +kernel
theorem d_M_freePlace_0 : decode b_M_freePlace 0 = .ok (.iload_n 1, 1) := by decide +kernel
theorem d_M_freePlace_1 : decode b_M_freePlace 1 = .ok (.bipush 100, 2) := by decide +kernel
theorem d_M_freePlace_3 : decode b_M_freePlace 3 = .ok (.if_icmp .lt 16, 3) := by decide +kernel
theorem d_M_freePlace_6 : decode b_M_freePlace 6 = .ok (.aload_n 0, 1) := by decide +kernel
theorem d_M_freePlace_7 : decode b_M_freePlace 7 = .ok (.getfield 19, 3) := by decide +kernel
theorem d_M_freePlace_10 : decode b_M_freePlace 10 = .ok (.iload_n 1, 1) := by decide +kernel
theorem d_M_freePlace_11 : decode b_M_freePlace 11 = .ok (.bipush 100, 2) := by decide +kernel
theorem d_M_freePlace_13 : decode b_M_freePlace 13 = .ok (.isub, 1) := by decide +kernel
theorem d_M_freePlace_14 : decode b_M_freePlace 14 = .ok (.iconst (-1), 1) := by decide +kernel
theorem d_M_freePlace_15 : decode b_M_freePlace 15 = .ok (.iastore, 1) := by decide +kernel
theorem d_M_freePlace_16 : decode b_M_freePlace 16 = .ok (.goto 17, 3) := by decide +kernel
theorem d_M_freePlace_19 : decode b_M_freePlace 19 = .ok (.aload_n 0, 1) := by decide +kernel
theorem d_M_freePlace_20 : decode b_M_freePlace 20 = .ok (.getfield 13, 3) := by decide +kernel
theorem d_M_freePlace_23 : decode b_M_freePlace 23 = .ok (.iload_n 1, 1) := by decide +kernel
theorem d_M_freePlace_24 : decode b_M_freePlace 24 = .ok (.iconst (-1), 1) := by decide +kernel
theorem d_M_freePlace_25 : decode b_M_freePlace 25 = .ok (.iastore, 1) := by decide +kernel
theorem d_M_freePlace_26 : decode b_M_freePlace 26 = .ok (.aload_n 0, 1) := by decide +kernel
theorem d_M_freePlace_27 : decode b_M_freePlace 27 = .ok (.getfield 22, 3) := by decide +kernel
theorem d_M_freePlace_30 : decode b_M_freePlace 30 = .ok (.iload_n 1, 1) := by decide +kernel
theorem d_M_freePlace_31 : decode b_M_freePlace 31 = .ok (.iconst 0, 1) := by decide +kernel
theorem d_M_freePlace_32 : decode b_M_freePlace 32 = .ok (.bastore, 1) := by decide +kernel
theorem d_M_freePlace_33 : decode b_M_freePlace 33 = .ok (.return_, 1) := by decide +kernel
theorem d_M_getFrame_0 : decode b_M_getFrame 0 = .ok (.aload_n 0, 1) := by decide +kernel
theorem d_M_getFrame_1 : decode b_M_getFrame 1 = .ok (.getfield 13, 3) := by decide +kernel
theorem d_M_getFrame_4 : decode b_M_getFrame 4 = .ok (.invokestatic 47, 3) := by decide +kernel
theorem d_M_getFrame_7 : decode b_M_getFrame 7 = .ok (.istore_n 1, 1) := by decide +kernel
theorem d_M_getFrame_8 : decode b_M_getFrame 8 = .ok (.iload_n 1, 1) := by decide +kernel
theorem d_M_getFrame_9 : decode b_M_getFrame 9 = .ok (.iconst (-1), 1) := by decide +kernel
theorem d_M_getFrame_10 : decode b_M_getFrame 10 = .ok (.if_icmp .eq 5, 3) := by decide +kernel
theorem d_M_getFrame_13 : decode b_M_getFrame 13 = .ok (.iload_n 1, 1) := by decide +kernel
theorem d_M_getFrame_14 : decode b_M_getFrame 14 = .ok (.ireturn, 1) := by decide +kernel
theorem d_M_getFrame_15 : decode b_M_getFrame 15 = .ok (.aload_n 0, 1) := by decide +kernel
theorem d_M_getFrame_16 : decode b_M_getFrame 16 = .ok (.getfield 19, 3) := by decide +kernel
theorem d_M_getFrame_19 : decode b_M_getFrame 19 = .ok (.invokestatic 47, 3) := by decide +kernel
theorem d_M_getFrame_22 : decode b_M_getFrame 22 = .ok (.istore_n 2, 1) := by decide +kernel
theorem d_M_getFrame_23 : decode b_M_getFrame 23 = .ok (.iload_n 2, 1) := by decide +kernel
theorem d_M_getFrame_24 : decode b_M_getFrame 24 = .ok (.iconst (-1), 1) := by decide +kernel
theorem d_M_getFrame_25 : decode b_M_getFrame 25 = .ok (.if_icmp .ne 7, 3) := by decide +kernel
theorem d_M_getFrame_28 : decode b_M_getFrame 28 = .ok (.iconst (-1), 1) := by decide +kernel
theorem d_M_getFrame_29 : decode b_M_getFrame 29 = .ok (.goto 8, 3) := by decide +kernel
theorem d_M_getFrame_32 : decode b_M_getFrame 32 = .ok (.aload_n 0, 1) := by decide +kernel
theorem d_M_getFrame_33 : decode b_M_getFrame 33 = .ok (.iload_n 2, 1) := by decide +kernel
theorem d_M_getFrame_34 : decode b_M_getFrame 34 = .ok (.invokevirtual 75, 3) := by decide +kernel
theorem d_M_getFrame_37 : decode b_M_getFrame 37 = .ok (.ireturn, 1) := by decide +kernel
theorem d_M_evictInto_0 : decode b_M_evictInto 0 = .ok (.iconst 0, 1) := by decide +kernel
theorem d_M_evictInto_1 : decode b_M_evictInto 1 = .ok (.istore_n 2, 1) := by decide +kernel
theorem d_M_evictInto_2 : decode b_M_evictInto 2 = .ok (.iload_n 2, 1) := by decide +kernel
theorem d_M_evictInto_3 : decode b_M_evictInto 3 = .ok (.aload_n 0, 1) := by decide +kernel
theorem d_M_evictInto_4 : decode b_M_evictInto 4 = .ok (.getfield 22, 3) := by decide +kernel
theorem d_M_evictInto_7 : decode b_M_evictInto 7 = .ok (.arraylength, 1) := by decide +kernel
theorem d_M_evictInto_8 : decode b_M_evictInto 8 = .ok (.if_icmp .ge 35, 3) := by decide +kernel
theorem d_M_evictInto_11 : decode b_M_evictInto 11 = .ok (.aload_n 0, 1) := by decide +kernel
theorem d_M_evictInto_12 : decode b_M_evictInto 12 = .ok (.getfield 22, 3) := by decide +kernel
theorem d_M_evictInto_15 : decode b_M_evictInto 15 = .ok (.aload_n 0, 1) := by decide +kernel
theorem d_M_evictInto_16 : decode b_M_evictInto 16 = .ok (.getfield 79, 3) := by decide +kernel
theorem d_M_evictInto_19 : decode b_M_evictInto 19 = .ok (.baload, 1) := by decide +kernel
theorem d_M_evictInto_20 : decode b_M_evictInto 20 = .ok (.ifCond .eq 23, 3) := by decide +kernel
theorem d_M_evictInto_23 : decode b_M_evictInto 23 = .ok (.aload_n 0, 1) := by decide +kernel
theorem d_M_evictInto_24 : decode b_M_evictInto 24 = .ok (.getfield 22, 3) := by decide +kernel
theorem d_M_evictInto_27 : decode b_M_evictInto 27 = .ok (.aload_n 0, 1) := by decide +kernel
theorem d_M_evictInto_28 : decode b_M_evictInto 28 = .ok (.getfield 79, 3) := by decide +kernel
theorem d_M_evictInto_31 : decode b_M_evictInto 31 = .ok (.iconst 0, 1) := by decide +kernel
theorem d_M_evictInto_32 : decode b_M_evictInto 32 = .ok (.bastore, 1) := by decide +kernel
theorem d_M_evictInto_33 : decode b_M_evictInto 33 = .ok (.aload_n 0, 1) := by decide +kernel
theorem d_M_evictInto_34 : decode b_M_evictInto 34 = .ok (.invokevirtual 82, 3) := by decide +kernel
theorem d_M_evictInto_37 : decode b_M_evictInto 37 = .ok (.iinc 2 1, 3) := by decide +kernel
theorem d_M_evictInto_40 : decode b_M_evictInto 40 = .ok (.goto (-38), 3) := by decide +kernel
theorem d_M_evictInto_43 : decode b_M_evictInto 43 = .ok (.aload_n 0, 1) := by decide +kernel
theorem d_M_evictInto_44 : decode b_M_evictInto 44 = .ok (.getfield 79, 3) := by decide +kernel
theorem d_M_evictInto_47 : decode b_M_evictInto 47 = .ok (.istore_n 2, 1) := by decide +kernel
theorem d_M_evictInto_48 : decode b_M_evictInto 48 = .ok (.aload_n 0, 1) := by decide +kernel
theorem d_M_evictInto_49 : decode b_M_evictInto 49 = .ok (.getfield 13, 3) := by decide +kernel
theorem d_M_evictInto_52 : decode b_M_evictInto 52 = .ok (.iload_n 2, 1) := by decide +kernel
theorem d_M_evictInto_53 : decode b_M_evictInto 53 = .ok (.iaload, 1) := by decide +kernel
theorem d_M_evictInto_54 : decode b_M_evictInto 54 = .ok (.istore_n 3, 1) := by decide +kernel
theorem d_M_evictInto_55 : decode b_M_evictInto 55 = .ok (.aload_n 0, 1) := by decide +kernel
theorem d_M_evictInto_56 : decode b_M_evictInto 56 = .ok (.getfield 19, 3) := by decide +kernel
theorem d_M_evictInto_59 : decode b_M_evictInto 59 = .ok (.iload_n 1, 1) := by decide +kernel
theorem d_M_evictInto_60 : decode b_M_evictInto 60 = .ok (.iload_n 3, 1) := by decide +kernel
theorem d_M_evictInto_61 : decode b_M_evictInto 61 = .ok (.iastore, 1) := by decide +kernel
theorem d_M_evictInto_62 : decode b_M_evictInto 62 = .ok (.aload_n 0, 1) := by decide +kernel
theorem d_M_evictInto_63 : decode b_M_evictInto 63 = .ok (.getfield 26, 3) := by decide +kernel
theorem d_M_evictInto_66 : decode b_M_evictInto 66 = .ok (.iload_n 3, 1) := by decide +kernel
theorem d_M_evictInto_67 : decode b_M_evictInto 67 = .ok (.bipush 100, 2) := by decide +kernel
theorem d_M_evictInto_69 : decode b_M_evictInto 69 = .ok (.iload_n 1, 1) := by decide +kernel
theorem d_M_evictInto_70 : decode b_M_evictInto 70 = .ok (.iadd, 1) := by decide +kernel
theorem d_M_evictInto_71 : decode b_M_evictInto 71 = .ok (.iastore, 1) := by decide +kernel
theorem d_M_evictInto_72 : decode b_M_evictInto 72 = .ok (.aload_n 0, 1) := by decide +kernel
theorem d_M_evictInto_73 : decode b_M_evictInto 73 = .ok (.getfield 13, 3) := by decide +kernel
theorem d_M_evictInto_76 : decode b_M_evictInto 76 = .ok (.iload_n 2, 1) := by decide +kernel
theorem d_M_evictInto_77 : decode b_M_evictInto 77 = .ok (.iconst (-1), 1) := by decide +kernel
theorem d_M_evictInto_78 : decode b_M_evictInto 78 = .ok (.iastore, 1) := by decide +kernel
theorem d_M_evictInto_79 : decode b_M_evictInto 79 = .ok (.aload_n 0, 1) := by decide +kernel
theorem d_M_evictInto_80 : decode b_M_evictInto 80 = .ok (.dup, 1) := by decide +kernel
theorem d_M_evictInto_81 : decode b_M_evictInto 81 = .ok (.getfield 85, 3) := by decide +kernel
theorem d_M_evictInto_84 : decode b_M_evictInto 84 = .ok (.iconst 1, 1) := by decide +kernel
theorem d_M_evictInto_85 : decode b_M_evictInto 85 = .ok (.iadd, 1) := by decide +kernel
theorem d_M_evictInto_86 : decode b_M_evictInto 86 = .ok (.putfield 85, 3) := by decide +kernel
theorem d_M_evictInto_89 : decode b_M_evictInto 89 = .ok (.aload_n 0, 1) := by decide +kernel
theorem d_M_evictInto_90 : decode b_M_evictInto 90 = .ok (.invokevirtual 82, 3) := by decide +kernel
theorem d_M_evictInto_93 : decode b_M_evictInto 93 = .ok (.iload_n 2, 1) := by decide +kernel
theorem d_M_evictInto_94 : decode b_M_evictInto 94 = .ok (.ireturn, 1) := by decide +kernel
theorem d_M_moveHand_0 : decode b_M_moveHand 0 = .ok (.aload_n 0, 1) := by decide +kernel
theorem d_M_moveHand_1 : decode b_M_moveHand 1 = .ok (.aload_n 0, 1) := by decide +kernel
theorem d_M_moveHand_2 : decode b_M_moveHand 2 = .ok (.getfield 79, 3) := by decide +kernel
theorem d_M_moveHand_5 : decode b_M_moveHand 5 = .ok (.iconst 1, 1) := by decide +kernel
theorem d_M_moveHand_6 : decode b_M_moveHand 6 = .ok (.iadd, 1) := by decide +kernel
theorem d_M_moveHand_7 : decode b_M_moveHand 7 = .ok (.aload_n 0, 1) := by decide +kernel
theorem d_M_moveHand_8 : decode b_M_moveHand 8 = .ok (.getfield 22, 3) := by decide +kernel
theorem d_M_moveHand_11 : decode b_M_moveHand 11 = .ok (.arraylength, 1) := by decide +kernel
theorem d_M_moveHand_12 : decode b_M_moveHand 12 = .ok (.if_icmp .ge 12, 3) := by decide +kernel
theorem d_M_moveHand_15 : decode b_M_moveHand 15 = .ok (.aload_n 0, 1) := by decide +kernel
theorem d_M_moveHand_16 : decode b_M_moveHand 16 = .ok (.getfield 79, 3) := by decide +kernel
theorem d_M_moveHand_19 : decode b_M_moveHand 19 = .ok (.iconst 1, 1) := by decide +kernel
theorem d_M_moveHand_20 : decode b_M_moveHand 20 = .ok (.iadd, 1) := by decide +kernel
theorem d_M_moveHand_21 : decode b_M_moveHand 21 = .ok (.goto 4, 3) := by decide +kernel
theorem d_M_moveHand_24 : decode b_M_moveHand 24 = .ok (.iconst 0, 1) := by decide +kernel
theorem d_M_moveHand_25 : decode b_M_moveHand 25 = .ok (.putfield 79, 3) := by decide +kernel
theorem d_M_moveHand_28 : decode b_M_moveHand 28 = .ok (.return_, 1) := by decide +kernel
theorem d_A_fill_0 : decode b_A_fill 0 = .ok (.iconst 0, 1) := by decide +kernel
theorem d_A_fill_1 : decode b_A_fill 1 = .ok (.istore_n 2, 1) := by decide +kernel
theorem d_A_fill_2 : decode b_A_fill 2 = .ok (.aload_n 0, 1) := by decide +kernel
theorem d_A_fill_3 : decode b_A_fill 3 = .ok (.arraylength, 1) := by decide +kernel
theorem d_A_fill_4 : decode b_A_fill 4 = .ok (.istore_n 3, 1) := by decide +kernel
theorem d_A_fill_5 : decode b_A_fill 5 = .ok (.iload_n 2, 1) := by decide +kernel
theorem d_A_fill_6 : decode b_A_fill 6 = .ok (.iload_n 3, 1) := by decide +kernel
theorem d_A_fill_7 : decode b_A_fill 7 = .ok (.if_icmp .ge 13, 3) := by decide +kernel
theorem d_A_fill_10 : decode b_A_fill 10 = .ok (.aload_n 0, 1) := by decide +kernel
theorem d_A_fill_11 : decode b_A_fill 11 = .ok (.iload_n 2, 1) := by decide +kernel
theorem d_A_fill_12 : decode b_A_fill 12 = .ok (.iload_n 1, 1) := by decide +kernel
theorem d_A_fill_13 : decode b_A_fill 13 = .ok (.iastore, 1) := by decide +kernel
theorem d_A_fill_14 : decode b_A_fill 14 = .ok (.iinc 2 1, 3) := by decide +kernel
theorem d_A_fill_17 : decode b_A_fill 17 = .ok (.goto (-12), 3) := by decide +kernel
theorem d_A_fill_20 : decode b_A_fill 20 = .ok (.return_, 1) := by decide +kernel
end
section
/-! what stands at each place of the code, by program -/
theorem d_T_init_0 : decode b_T_init 0 = .ok (.aload_n 0, 1) := by decide +kernel
theorem d_T_init_1 : decode b_T_init 1 = .ok (.invokespecial 1, 3) := by decide +kernel
theorem d_T_init_4 : decode b_T_init 4 = .ok (.aload_n 0, 1) := by decide +kernel
theorem d_T_init_5 : decode b_T_init 5 = .ok (.bipush 8, 2) := by decide +kernel
theorem d_T_init_7 : decode b_T_init 7 = .ok (.newarray .boolean, 2) := by decide +kernel
theorem d_T_init_9 : decode b_T_init 9 = .ok (.putfield 7, 3) := by decide +kernel
theorem d_T_init_12 : decode b_T_init 12 = .ok (.aload_n 0, 1) := by decide +kernel
theorem d_T_init_13 : decode b_T_init 13 = .ok (.bipush 18, 2) := by decide +kernel
theorem d_T_init_15 : decode b_T_init 15 = .ok (.newarray .int, 2) := by decide +kernel
theorem d_T_init_17 : decode b_T_init 17 = .ok (.putfield 13, 3) := by decide +kernel
theorem d_T_init_20 : decode b_T_init 20 = .ok (.aload_n 0, 1) := by decide +kernel
theorem d_T_init_21 : decode b_T_init 21 = .ok (.bipush 72, 2) := by decide +kernel
theorem d_T_init_23 : decode b_T_init 23 = .ok (.newarray .int, 2) := by decide +kernel
theorem d_T_init_25 : decode b_T_init 25 = .ok (.putfield 17, 3) := by decide +kernel
theorem d_T_init_28 : decode b_T_init 28 = .ok (.aload_n 0, 1) := by decide +kernel
theorem d_T_init_29 : decode b_T_init 29 = .ok (.bipush 6, 2) := by decide +kernel
theorem d_T_init_31 : decode b_T_init 31 = .ok (.newarray .boolean, 2) := by decide +kernel
theorem d_T_init_33 : decode b_T_init 33 = .ok (.putfield 20, 3) := by decide +kernel
theorem d_T_init_36 : decode b_T_init 36 = .ok (.aload_n 0, 1) := by decide +kernel
theorem d_T_init_37 : decode b_T_init 37 = .ok (.bipush 36, 2) := by decide +kernel
theorem d_T_init_39 : decode b_T_init 39 = .ok (.newarray .int, 2) := by decide +kernel
theorem d_T_init_41 : decode b_T_init 41 = .ok (.putfield 23, 3) := by decide +kernel
theorem d_T_init_44 : decode b_T_init 44 = .ok (.aload_n 0, 1) := by decide +kernel
theorem d_T_init_45 : decode b_T_init 45 = .ok (.iload_n 1, 1) := by decide +kernel
theorem d_T_init_46 : decode b_T_init 46 = .ok (.iconst 2, 1) := by decide +kernel
theorem d_T_init_47 : decode b_T_init 47 = .ok (.if_icmp .ge 7, 3) := by decide +kernel
theorem d_T_init_50 : decode b_T_init 50 = .ok (.iconst 2, 1) := by decide +kernel
theorem d_T_init_51 : decode b_T_init 51 = .ok (.goto 15, 3) := by decide +kernel
theorem d_T_init_54 : decode b_T_init 54 = .ok (.iload_n 1, 1) := by decide +kernel
theorem d_T_init_55 : decode b_T_init 55 = .ok (.bipush 8, 2) := by decide +kernel
theorem d_T_init_57 : decode b_T_init 57 = .ok (.if_icmp .le 8, 3) := by decide +kernel
theorem d_T_init_60 : decode b_T_init 60 = .ok (.bipush 8, 2) := by decide +kernel
theorem d_T_init_62 : decode b_T_init 62 = .ok (.goto 4, 3) := by decide +kernel
theorem d_T_init_65 : decode b_T_init 65 = .ok (.iload_n 1, 1) := by decide +kernel
theorem d_T_init_66 : decode b_T_init 66 = .ok (.putfield 26, 3) := by decide +kernel
theorem d_T_init_69 : decode b_T_init 69 = .ok (.aload_n 0, 1) := by decide +kernel
theorem d_T_init_70 : decode b_T_init 70 = .ok (.iload_n 2, 1) := by decide +kernel
theorem d_T_init_71 : decode b_T_init 71 = .ok (.ifCond .ge 7, 3) := by decide +kernel
theorem d_T_init_74 : decode b_T_init 74 = .ok (.iconst 0, 1) := by decide +kernel
theorem d_T_init_75 : decode b_T_init 75 = .ok (.goto 15, 3) := by decide +kernel
theorem d_T_init_78 : decode b_T_init 78 = .ok (.iload_n 2, 1) := by decide +kernel
theorem d_T_init_79 : decode b_T_init 79 = .ok (.bipush 10, 2) := by decide +kernel
theorem d_T_init_81 : decode b_T_init 81 = .ok (.if_icmp .le 8, 3) := by decide +kernel
theorem d_T_init_84 : decode b_T_init 84 = .ok (.bipush 10, 2) := by decide +kernel
theorem d_T_init_86 : decode b_T_init 86 = .ok (.goto 4, 3) := by decide +kernel
theorem d_T_init_89 : decode b_T_init 89 = .ok (.iload_n 2, 1) := by decide +kernel
theorem d_T_init_90 : decode b_T_init 90 = .ok (.putfield 30, 3) := by decide +kernel
theorem d_T_init_93 : decode b_T_init 93 = .ok (.iconst 0, 1) := by decide +kernel
theorem d_T_init_94 : decode b_T_init 94 = .ok (.istore_n 3, 1) := by decide +kernel
theorem d_T_init_95 : decode b_T_init 95 = .ok (.iload_n 3, 1) := by decide +kernel
theorem d_T_init_96 : decode b_T_init 96 = .ok (.bipush 18, 2) := by decide +kernel
theorem d_T_init_98 : decode b_T_init 98 = .ok (.if_icmp .ge 16, 3) := by decide +kernel
theorem d_T_init_101 : decode b_T_init 101 = .ok (.aload_n 0, 1) := by decide +kernel
theorem d_T_init_102 : decode b_T_init 102 = .ok (.getfield 13, 3) := by decide +kernel
theorem d_T_init_105 : decode b_T_init 105 = .ok (.iload_n 3, 1) := by decide +kernel
theorem d_T_init_106 : decode b_T_init 106 = .ok (.iconst (-1), 1) := by decide +kernel
theorem d_T_init_107 : decode b_T_init 107 = .ok (.iastore, 1) := by decide +kernel
theorem d_T_init_108 : decode b_T_init 108 = .ok (.iinc 3 1, 3) := by decide +kernel
theorem d_T_init_111 : decode b_T_init 111 = .ok (.goto (-16), 3) := by decide +kernel
theorem d_T_init_114 : decode b_T_init 114 = .ok (.iconst 0, 1) := by decide +kernel
theorem d_T_init_115 : decode b_T_init 115 = .ok (.istore_n 3, 1) := by decide +kernel
theorem d_T_init_116 : decode b_T_init 116 = .ok (.iload_n 3, 1) := by decide +kernel
theorem d_T_init_117 : decode b_T_init 117 = .ok (.bipush 36, 2) := by decide +kernel
theorem d_T_init_119 : decode b_T_init 119 = .ok (.if_icmp .ge 16, 3) := by decide +kernel
theorem d_T_init_122 : decode b_T_init 122 = .ok (.aload_n 0, 1) := by decide +kernel
theorem d_T_init_123 : decode b_T_init 123 = .ok (.getfield 23, 3) := by decide +kernel
theorem d_T_init_126 : decode b_T_init 126 = .ok (.iload_n 3, 1) := by decide +kernel
theorem d_T_init_127 : decode b_T_init 127 = .ok (.iconst (-1), 1) := by decide +kernel
theorem d_T_init_128 : decode b_T_init 128 = .ok (.iastore, 1) := by decide +kernel
theorem d_T_init_129 : decode b_T_init 129 = .ok (.iinc 3 1, 3) := by decide +kernel
theorem d_T_init_132 : decode b_T_init 132 = .ok (.goto (-16), 3) := by decide +kernel
theorem d_T_init_135 : decode b_T_init 135 = .ok (.return_, 1) := by decide +kernel
theorem d_T_thrown_0 : decode b_T_thrown 0 = .ok (.aload_n 0, 1) := by decide +kernel
theorem d_T_thrown_1 : decode b_T_thrown 1 = .ok (.getfield 33, 3) := by decide +kernel
theorem d_T_thrown_4 : decode b_T_thrown 4 = .ok (.ireturn, 1) := by decide +kernel
theorem d_T_sheetAt_0 : decode b_T_sheetAt 0 = .ok (.iconst 0, 1) := by decide +kernel
theorem d_T_sheetAt_1 : decode b_T_sheetAt 1 = .ok (.istore_n 2, 1) := by decide +kernel
theorem d_T_sheetAt_2 : decode b_T_sheetAt 2 = .ok (.iload_n 2, 1) := by decide +kernel
theorem d_T_sheetAt_3 : decode b_T_sheetAt 3 = .ok (.bipush 18, 2) := by decide +kernel
theorem d_T_sheetAt_5 : decode b_T_sheetAt 5 = .ok (.if_icmp .ge 21, 3) := by decide +kernel
theorem d_T_sheetAt_8 : decode b_T_sheetAt 8 = .ok (.aload_n 0, 1) := by decide +kernel
theorem d_T_sheetAt_9 : decode b_T_sheetAt 9 = .ok (.getfield 13, 3) := by decide +kernel
theorem d_T_sheetAt_12 : decode b_T_sheetAt 12 = .ok (.iload_n 2, 1) := by decide +kernel
theorem d_T_sheetAt_13 : decode b_T_sheetAt 13 = .ok (.iaload, 1) := by decide +kernel
theorem d_T_sheetAt_14 : decode b_T_sheetAt 14 = .ok (.iload_n 1, 1) := by decide +kernel
theorem d_T_sheetAt_15 : decode b_T_sheetAt 15 = .ok (.if_icmp .ne 5, 3) := by decide +kernel
theorem d_T_sheetAt_18 : decode b_T_sheetAt 18 = .ok (.iload_n 2, 1) := by decide +kernel
theorem d_T_sheetAt_19 : decode b_T_sheetAt 19 = .ok (.ireturn, 1) := by decide +kernel
theorem d_T_sheetAt_20 : decode b_T_sheetAt 20 = .ok (.iinc 2 1, 3) := by decide +kernel
theorem d_T_sheetAt_23 : decode b_T_sheetAt 23 = .ok (.goto (-21), 3) := by decide +kernel
theorem d_T_sheetAt_26 : decode b_T_sheetAt 26 = .ok (.iconst (-1), 1) := by decide +kernel
theorem d_T_sheetAt_27 : decode b_T_sheetAt 27 = .ok (.ireturn, 1) := by decide +kernel
theorem d_T_lowestFrame_0 : decode b_T_lowestFrame 0 = .ok (.iconst 0, 1) := by decide +kernel
theorem d_T_lowestFrame_1 : decode b_T_lowestFrame 1 = .ok (.istore_n 1, 1) := by decide +kernel
theorem d_T_lowestFrame_2 : decode b_T_lowestFrame 2 = .ok (.iload_n 1, 1) := by decide +kernel
theorem d_T_lowestFrame_3 : decode b_T_lowestFrame 3 = .ok (.aload_n 0, 1) := by decide +kernel
theorem d_T_lowestFrame_4 : decode b_T_lowestFrame 4 = .ok (.getfield 26, 3) := by decide +kernel
theorem d_T_lowestFrame_7 : decode b_T_lowestFrame 7 = .ok (.if_icmp .ge 19, 3) := by decide +kernel
theorem d_T_lowestFrame_10 : decode b_T_lowestFrame 10 = .ok (.aload_n 0, 1) := by decide +kernel
theorem d_T_lowestFrame_11 : decode b_T_lowestFrame 11 = .ok (.iload_n 1, 1) := by decide +kernel
theorem d_T_lowestFrame_12 : decode b_T_lowestFrame 12 = .ok (.invokevirtual 36, 3) := by decide +kernel
theorem d_T_lowestFrame_15 : decode b_T_lowestFrame 15 = .ok (.ifCond .ge 5, 3) := by decide +kernel
theorem d_T_lowestFrame_18 : decode b_T_lowestFrame 18 = .ok (.iload_n 1, 1) := by decide +kernel
theorem d_T_lowestFrame_19 : decode b_T_lowestFrame 19 = .ok (.ireturn, 1) := by decide +kernel
theorem d_T_lowestFrame_20 : decode b_T_lowestFrame 20 = .ok (.iinc 1 1, 3) := by decide +kernel
theorem d_T_lowestFrame_23 : decode b_T_lowestFrame 23 = .ok (.goto (-21), 3) := by decide +kernel
theorem d_T_lowestFrame_26 : decode b_T_lowestFrame 26 = .ok (.iconst (-1), 1) := by decide +kernel
theorem d_T_lowestFrame_27 : decode b_T_lowestFrame 27 = .ok (.ireturn, 1) := by decide +kernel
theorem d_T_lowestSlot_0 : decode b_T_lowestSlot 0 = .ok (.iconst 0, 1) := by decide +kernel
theorem d_T_lowestSlot_1 : decode b_T_lowestSlot 1 = .ok (.istore_n 1, 1) := by decide +kernel
theorem d_T_lowestSlot_2 : decode b_T_lowestSlot 2 = .ok (.iload_n 1, 1) := by decide +kernel
theorem d_T_lowestSlot_3 : decode b_T_lowestSlot 3 = .ok (.aload_n 0, 1) := by decide +kernel
theorem d_T_lowestSlot_4 : decode b_T_lowestSlot 4 = .ok (.getfield 30, 3) := by decide +kernel
theorem d_T_lowestSlot_7 : decode b_T_lowestSlot 7 = .ok (.if_icmp .ge 25, 3) := by decide +kernel
theorem d_T_lowestSlot_10 : decode b_T_lowestSlot 10 = .ok (.aload_n 0, 1) := by decide +kernel
theorem d_T_lowestSlot_11 : decode b_T_lowestSlot 11 = .ok (.bipush 100, 2) := by decide +kernel
theorem d_T_lowestSlot_13 : decode b_T_lowestSlot 13 = .ok (.iload_n 1, 1) := by decide +kernel
theorem d_T_lowestSlot_14 : decode b_T_lowestSlot 14 = .ok (.iadd, 1) := by decide +kernel
theorem d_T_lowestSlot_15 : decode b_T_lowestSlot 15 = .ok (.invokevirtual 36, 3) := by decide +kernel
theorem d_T_lowestSlot_18 : decode b_T_lowestSlot 18 = .ok (.ifCond .ge 8, 3) := by decide +kernel
theorem d_T_lowestSlot_21 : decode b_T_lowestSlot 21 = .ok (.bipush 100, 2) := by decide +kernel
theorem d_T_lowestSlot_23 : decode b_T_lowestSlot 23 = .ok (.iload_n 1, 1) := by decide +kernel
theorem d_T_lowestSlot_24 : decode b_T_lowestSlot 24 = .ok (.iadd, 1) := by decide +kernel
theorem d_T_lowestSlot_25 : decode b_T_lowestSlot 25 = .ok (.ireturn, 1) := by decide +kernel
theorem d_T_lowestSlot_26 : decode b_T_lowestSlot 26 = .ok (.iinc 1 1, 3) := by decide +kernel
theorem d_T_lowestSlot_29 : decode b_T_lowestSlot 29 = .ok (.goto (-27), 3) := by decide +kernel
theorem d_T_lowestSlot_32 : decode b_T_lowestSlot 32 = .ok (.iconst (-1), 1) := by decide +kernel
theorem d_T_lowestSlot_33 : decode b_T_lowestSlot 33 = .ok (.ireturn, 1) := by decide +kernel
theorem d_T_owners_0 : decode b_T_owners 0 = .ok (.iconst 0, 1) := by decide +kernel
theorem d_T_owners_1 : decode b_T_owners 1 = .ok (.istore_n 2, 1) := by decide +kernel
theorem d_T_owners_2 : decode b_T_owners 2 = .ok (.iconst 0, 1) := by decide +kernel
theorem d_T_owners_3 : decode b_T_owners 3 = .ok (.istore_n 3, 1) := by decide +kernel
theorem d_T_owners_4 : decode b_T_owners 4 = .ok (.iload_n 3, 1) := by decide +kernel
theorem d_T_owners_5 : decode b_T_owners 5 = .ok (.bipush 36, 2) := by decide +kernel
theorem d_T_owners_7 : decode b_T_owners 7 = .ok (.if_icmp .ge 27, 3) := by decide +kernel
theorem d_T_owners_10 : decode b_T_owners 10 = .ok (.aload_n 0, 1) := by decide +kernel
theorem d_T_owners_11 : decode b_T_owners 11 = .ok (.getfield 23, 3) := by decide +kernel
theorem d_T_owners_14 : decode b_T_owners 14 = .ok (.iload_n 3, 1) := by decide +kernel
theorem d_T_owners_15 : decode b_T_owners 15 = .ok (.iaload, 1) := by decide +kernel
theorem d_T_owners_16 : decode b_T_owners 16 = .ok (.iload_n 1, 1) := by decide +kernel
theorem d_T_owners_17 : decode b_T_owners 17 = .ok (.if_icmp .ne 9, 3) := by decide +kernel
theorem d_T_owners_20 : decode b_T_owners 20 = .ok (.iload_n 2, 1) := by decide +kernel
theorem d_T_owners_21 : decode b_T_owners 21 = .ok (.iconst 1, 1) := by decide +kernel
theorem d_T_owners_22 : decode b_T_owners 22 = .ok (.iadd, 1) := by decide +kernel
theorem d_T_owners_23 : decode b_T_owners 23 = .ok (.goto 4, 3) := by decide +kernel
theorem d_T_owners_26 : decode b_T_owners 26 = .ok (.iload_n 2, 1) := by decide +kernel
theorem d_T_owners_27 : decode b_T_owners 27 = .ok (.istore_n 2, 1) := by decide +kernel
theorem d_T_owners_28 : decode b_T_owners 28 = .ok (.iinc 3 1, 3) := by decide +kernel
theorem d_T_owners_31 : decode b_T_owners 31 = .ok (.goto (-27), 3) := by decide +kernel
theorem d_T_owners_34 : decode b_T_owners 34 = .ok (.iload_n 2, 1) := by decide +kernel
theorem d_T_owners_35 : decode b_T_owners 35 = .ok (.ireturn, 1) := by decide +kernel
theorem d_T_turn_0 : decode b_T_turn 0 = .ok (.aload_n 0, 1) := by decide +kernel
theorem d_T_turn_1 : decode b_T_turn 1 = .ok (.aload_n 0, 1) := by decide +kernel
theorem d_T_turn_2 : decode b_T_turn 2 = .ok (.getfield 40, 3) := by decide +kernel
theorem d_T_turn_5 : decode b_T_turn 5 = .ok (.iconst 1, 1) := by decide +kernel
theorem d_T_turn_6 : decode b_T_turn 6 = .ok (.iadd, 1) := by decide +kernel
theorem d_T_turn_7 : decode b_T_turn 7 = .ok (.aload_n 0, 1) := by decide +kernel
theorem d_T_turn_8 : decode b_T_turn 8 = .ok (.getfield 26, 3) := by decide +kernel
theorem d_T_turn_11 : decode b_T_turn 11 = .ok (.if_icmp .ne 7, 3) := by decide +kernel
theorem d_T_turn_14 : decode b_T_turn 14 = .ok (.iconst 0, 1) := by decide +kernel
theorem d_T_turn_15 : decode b_T_turn 15 = .ok (.goto 9, 3) := by decide +kernel
theorem d_T_turn_18 : decode b_T_turn 18 = .ok (.aload_n 0, 1) := by decide +kernel
theorem d_T_turn_19 : decode b_T_turn 19 = .ok (.getfield 40, 3) := by decide +kernel
theorem d_T_turn_22 : decode b_T_turn 22 = .ok (.iconst 1, 1) := by decide +kernel
theorem d_T_turn_23 : decode b_T_turn 23 = .ok (.iadd, 1) := by decide +kernel
theorem d_T_turn_24 : decode b_T_turn 24 = .ok (.putfield 40, 3) := by decide +kernel
theorem d_T_turn_27 : decode b_T_turn 27 = .ok (.return_, 1) := by decide +kernel
theorem d_T_getFrame_0 : decode b_T_getFrame 0 = .ok (.aload_n 0, 1) := by decide +kernel
theorem d_T_getFrame_1 : decode b_T_getFrame 1 = .ok (.invokevirtual 43, 3) := by decide +kernel
theorem d_T_getFrame_4 : decode b_T_getFrame 4 = .ok (.istore_n 1, 1) := by decide +kernel
theorem d_T_getFrame_5 : decode b_T_getFrame 5 = .ok (.iload_n 1, 1) := by decide +kernel
theorem d_T_getFrame_6 : decode b_T_getFrame 6 = .ok (.ifCond .lt 5, 3) := by decide +kernel
theorem d_T_getFrame_9 : decode b_T_getFrame 9 = .ok (.iload_n 1, 1) := by decide +kernel
theorem d_T_getFrame_10 : decode b_T_getFrame 10 = .ok (.ireturn, 1) := by decide +kernel
theorem d_T_getFrame_11 : decode b_T_getFrame 11 = .ok (.aload_n 0, 1) := by decide +kernel
theorem d_T_getFrame_12 : decode b_T_getFrame 12 = .ok (.getfield 7, 3) := by decide +kernel
theorem d_T_getFrame_15 : decode b_T_getFrame 15 = .ok (.aload_n 0, 1) := by decide +kernel
theorem d_T_getFrame_16 : decode b_T_getFrame 16 = .ok (.getfield 40, 3) := by decide +kernel
theorem d_T_getFrame_19 : decode b_T_getFrame 19 = .ok (.baload, 1) := by decide +kernel
theorem d_T_getFrame_20 : decode b_T_getFrame 20 = .ok (.ifCond .eq 20, 3) := by decide +kernel
theorem d_T_getFrame_23 : decode b_T_getFrame 23 = .ok (.aload_n 0, 1) := by decide +kernel
theorem d_T_getFrame_24 : decode b_T_getFrame 24 = .ok (.getfield 7, 3) := by decide +kernel
theorem d_T_getFrame_27 : decode b_T_getFrame 27 = .ok (.aload_n 0, 1) := by decide +kernel
theorem d_T_getFrame_28 : decode b_T_getFrame 28 = .ok (.getfield 40, 3) := by decide +kernel
theorem d_T_getFrame_31 : decode b_T_getFrame 31 = .ok (.iconst 0, 1) := by decide +kernel
theorem d_T_getFrame_32 : decode b_T_getFrame 32 = .ok (.bastore, 1) := by decide +kernel
theorem d_T_getFrame_33 : decode b_T_getFrame 33 = .ok (.aload_n 0, 1) := by decide +kernel
theorem d_T_getFrame_34 : decode b_T_getFrame 34 = .ok (.invokevirtual 47, 3) := by decide +kernel
theorem d_T_getFrame_37 : decode b_T_getFrame 37 = .ok (.goto (-26), 3) := by decide +kernel
theorem d_T_getFrame_40 : decode b_T_getFrame 40 = .ok (.aload_n 0, 1) := by decide +kernel
theorem d_T_getFrame_41 : decode b_T_getFrame 41 = .ok (.getfield 40, 3) := by decide +kernel
theorem d_T_getFrame_44 : decode b_T_getFrame 44 = .ok (.istore_n 2, 1) := by decide +kernel
theorem d_T_getFrame_45 : decode b_T_getFrame 45 = .ok (.aload_n 0, 1) := by decide +kernel
theorem d_T_getFrame_46 : decode b_T_getFrame 46 = .ok (.iload_n 2, 1) := by decide +kernel
theorem d_T_getFrame_47 : decode b_T_getFrame 47 = .ok (.invokevirtual 36, 3) := by decide +kernel
theorem d_T_getFrame_50 : decode b_T_getFrame 50 = .ok (.istore_n 3, 1) := by decide +kernel
theorem d_T_getFrame_51 : decode b_T_getFrame 51 = .ok (.aload_n 0, 1) := by decide +kernel
theorem d_T_getFrame_52 : decode b_T_getFrame 52 = .ok (.getfield 13, 3) := by decide +kernel
theorem d_T_getFrame_55 : decode b_T_getFrame 55 = .ok (.iload_n 3, 1) := by decide +kernel
theorem d_T_getFrame_56 : decode b_T_getFrame 56 = .ok (.aload_n 0, 1) := by decide +kernel
theorem d_T_getFrame_57 : decode b_T_getFrame 57 = .ok (.invokevirtual 50, 3) := by decide +kernel
theorem d_T_getFrame_60 : decode b_T_getFrame 60 = .ok (.iastore, 1) := by decide +kernel
theorem d_T_getFrame_61 : decode b_T_getFrame 61 = .ok (.aload_n 0, 1) := by decide +kernel
theorem d_T_getFrame_62 : decode b_T_getFrame 62 = .ok (.dup, 1) := by decide +kernel
theorem d_T_getFrame_63 : decode b_T_getFrame 63 = .ok (.getfield 53, 3) := by decide +kernel
theorem d_T_getFrame_66 : decode b_T_getFrame 66 = .ok (.iconst 1, 1) := by decide +kernel
theorem d_T_getFrame_67 : decode b_T_getFrame 67 = .ok (.iadd, 1) := by decide +kernel
theorem d_T_getFrame_68 : decode b_T_getFrame 68 = .ok (.putfield 53, 3) := by decide +kernel
theorem d_T_getFrame_71 : decode b_T_getFrame 71 = .ok (.aload_n 0, 1) := by decide +kernel
theorem d_T_getFrame_72 : decode b_T_getFrame 72 = .ok (.invokevirtual 47, 3) := by decide +kernel
theorem d_T_getFrame_75 : decode b_T_getFrame 75 = .ok (.iload_n 2, 1) := by decide +kernel
theorem d_T_getFrame_76 : decode b_T_getFrame 76 = .ok (.ireturn, 1) := by decide +kernel
theorem d_T_canMake_0 : decode b_T_canMake 0 = .ok (.aload_n 0, 1) := by decide +kernel
theorem d_T_canMake_1 : decode b_T_canMake 1 = .ok (.invokevirtual 43, 3) := by decide +kernel
theorem d_T_canMake_4 : decode b_T_canMake 4 = .ok (.ifCond .ge 10, 3) := by decide +kernel
theorem d_T_canMake_7 : decode b_T_canMake 7 = .ok (.aload_n 0, 1) := by decide +kernel
theorem d_T_canMake_8 : decode b_T_canMake 8 = .ok (.invokevirtual 50, 3) := by decide +kernel
theorem d_T_canMake_11 : decode b_T_canMake 11 = .ok (.ifCond .lt 7, 3) := by decide +kernel
theorem d_T_canMake_14 : decode b_T_canMake 14 = .ok (.iconst 1, 1) := by decide +kernel
theorem d_T_canMake_15 : decode b_T_canMake 15 = .ok (.goto 4, 3) := by decide +kernel
theorem d_T_canMake_18 : decode b_T_canMake 18 = .ok (.iconst 0, 1) := by decide +kernel
theorem d_T_canMake_19 : decode b_T_canMake 19 = .ok (.ireturn, 1) := by decide +kernel
theorem d_T_make_0 : decode b_T_make 0 = .ok (.aload_n 0, 1) := by decide +kernel
theorem d_T_make_1 : decode b_T_make 1 = .ok (.iconst (-1), 1) := by decide +kernel
theorem d_T_make_2 : decode b_T_make 2 = .ok (.invokevirtual 36, 3) := by decide +kernel
theorem d_T_make_5 : decode b_T_make 5 = .ok (.istore_n 3, 1) := by decide +kernel
theorem d_T_make_6 : decode b_T_make 6 = .ok (.aload_n 0, 1) := by decide +kernel
theorem d_T_make_7 : decode b_T_make 7 = .ok (.invokevirtual 56, 3) := by decide +kernel
theorem d_T_make_10 : decode b_T_make 10 = .ok (.istore 4, 2) := by decide +kernel
theorem d_T_make_12 : decode b_T_make 12 = .ok (.aload_n 0, 1) := by decide +kernel
theorem d_T_make_13 : decode b_T_make 13 = .ok (.getfield 13, 3) := by decide +kernel
theorem d_T_make_16 : decode b_T_make 16 = .ok (.iload_n 3, 1) := by decide +kernel
theorem d_T_make_17 : decode b_T_make 17 = .ok (.iload 4, 2) := by decide +kernel
theorem d_T_make_19 : decode b_T_make 19 = .ok (.iastore, 1) := by decide +kernel
theorem d_T_make_20 : decode b_T_make 20 = .ok (.iconst 0, 1) := by decide +kernel
theorem d_T_make_21 : decode b_T_make 21 = .ok (.istore 5, 2) := by decide +kernel
theorem d_T_make_23 : decode b_T_make 23 = .ok (.iload 5, 2) := by decide +kernel
theorem d_T_make_25 : decode b_T_make 25 = .ok (.iconst 4, 1) := by decide +kernel
theorem d_T_make_26 : decode b_T_make 26 = .ok (.if_icmp .ge 39, 3) := by decide +kernel
theorem d_T_make_29 : decode b_T_make 29 = .ok (.aload_n 0, 1) := by decide +kernel
theorem d_T_make_30 : decode b_T_make 30 = .ok (.getfield 17, 3) := by decide +kernel
theorem d_T_make_33 : decode b_T_make 33 = .ok (.iconst 4, 1) := by decide +kernel
theorem d_T_make_34 : decode b_T_make 34 = .ok (.iload_n 3, 1) := by decide +kernel
theorem d_T_make_35 : decode b_T_make 35 = .ok (.imul, 1) := by decide +kernel
theorem d_T_make_36 : decode b_T_make 36 = .ok (.iload 5, 2) := by decide +kernel
theorem d_T_make_38 : decode b_T_make 38 = .ok (.iadd, 1) := by decide +kernel
theorem d_T_make_39 : decode b_T_make 39 = .ok (.iload_n 2, 1) := by decide +kernel
theorem d_T_make_40 : decode b_T_make 40 = .ok (.ifCond .ge 7, 3) := by decide +kernel
theorem d_T_make_43 : decode b_T_make 43 = .ok (.iconst 0, 1) := by decide +kernel
theorem d_T_make_44 : decode b_T_make 44 = .ok (.goto 14, 3) := by decide +kernel
theorem d_T_make_47 : decode b_T_make 47 = .ok (.aload_n 0, 1) := by decide +kernel
theorem d_T_make_48 : decode b_T_make 48 = .ok (.getfield 17, 3) := by decide +kernel
theorem d_T_make_51 : decode b_T_make 51 = .ok (.iconst 4, 1) := by decide +kernel
theorem d_T_make_52 : decode b_T_make 52 = .ok (.iload_n 2, 1) := by decide +kernel
theorem d_T_make_53 : decode b_T_make 53 = .ok (.imul, 1) := by decide +kernel
theorem d_T_make_54 : decode b_T_make 54 = .ok (.iload 5, 2) := by decide +kernel
theorem d_T_make_56 : decode b_T_make 56 = .ok (.iadd, 1) := by decide +kernel
theorem d_T_make_57 : decode b_T_make 57 = .ok (.iaload, 1) := by decide +kernel
theorem d_T_make_58 : decode b_T_make 58 = .ok (.iastore, 1) := by decide +kernel
theorem d_T_make_59 : decode b_T_make 59 = .ok (.iinc 5 1, 3) := by decide +kernel
theorem d_T_make_62 : decode b_T_make 62 = .ok (.goto (-39), 3) := by decide +kernel
theorem d_T_make_65 : decode b_T_make 65 = .ok (.aload_n 0, 1) := by decide +kernel
theorem d_T_make_66 : decode b_T_make 66 = .ok (.getfield 23, 3) := by decide +kernel
theorem d_T_make_69 : decode b_T_make 69 = .ok (.iload_n 1, 1) := by decide +kernel
theorem d_T_make_70 : decode b_T_make 70 = .ok (.iload_n 3, 1) := by decide +kernel
theorem d_T_make_71 : decode b_T_make 71 = .ok (.iastore, 1) := by decide +kernel
theorem d_T_make_72 : decode b_T_make 72 = .ok (.aload_n 0, 1) := by decide +kernel
theorem d_T_make_73 : decode b_T_make 73 = .ok (.dup, 1) := by decide +kernel
theorem d_T_make_74 : decode b_T_make 74 = .ok (.getfield 59, 3) := by decide +kernel
theorem d_T_make_77 : decode b_T_make 77 = .ok (.iconst 1, 1) := by decide +kernel
theorem d_T_make_78 : decode b_T_make 78 = .ok (.iadd, 1) := by decide +kernel
theorem d_T_make_79 : decode b_T_make 79 = .ok (.putfield 59, 3) := by decide +kernel
theorem d_T_make_82 : decode b_T_make 82 = .ok (.return_, 1) := by decide +kernel
theorem d_T_bringIn_0 : decode b_T_bringIn 0 = .ok (.aload_n 0, 1) := by decide +kernel
theorem d_T_bringIn_1 : decode b_T_bringIn 1 = .ok (.getfield 13, 3) := by decide +kernel
theorem d_T_bringIn_4 : decode b_T_bringIn 4 = .ok (.iload_n 1, 1) := by decide +kernel
theorem d_T_bringIn_5 : decode b_T_bringIn 5 = .ok (.iaload, 1) := by decide +kernel
theorem d_T_bringIn_6 : decode b_T_bringIn 6 = .ok (.bipush 100, 2) := by decide +kernel
theorem d_T_bringIn_8 : decode b_T_bringIn 8 = .ok (.if_icmp .lt 32, 3) := by decide +kernel
theorem d_T_bringIn_11 : decode b_T_bringIn 11 = .ok (.aload_n 0, 1) := by decide +kernel
theorem d_T_bringIn_12 : decode b_T_bringIn 12 = .ok (.getfield 13, 3) := by decide +kernel
theorem d_T_bringIn_15 : decode b_T_bringIn 15 = .ok (.iload_n 1, 1) := by decide +kernel
theorem d_T_bringIn_16 : decode b_T_bringIn 16 = .ok (.iconst (-1), 1) := by decide +kernel
theorem d_T_bringIn_17 : decode b_T_bringIn 17 = .ok (.iastore, 1) := by decide +kernel
theorem d_T_bringIn_18 : decode b_T_bringIn 18 = .ok (.aload_n 0, 1) := by decide +kernel
theorem d_T_bringIn_19 : decode b_T_bringIn 19 = .ok (.invokevirtual 56, 3) := by decide +kernel
theorem d_T_bringIn_22 : decode b_T_bringIn 22 = .ok (.istore_n 2, 1) := by decide +kernel
theorem d_T_bringIn_23 : decode b_T_bringIn 23 = .ok (.aload_n 0, 1) := by decide +kernel
theorem d_T_bringIn_24 : decode b_T_bringIn 24 = .ok (.getfield 13, 3) := by decide +kernel
theorem d_T_bringIn_27 : decode b_T_bringIn 27 = .ok (.iload_n 1, 1) := by decide +kernel
theorem d_T_bringIn_28 : decode b_T_bringIn 28 = .ok (.iload_n 2, 1) := by decide +kernel
theorem d_T_bringIn_29 : decode b_T_bringIn 29 = .ok (.iastore, 1) := by decide +kernel
theorem d_T_bringIn_30 : decode b_T_bringIn 30 = .ok (.aload_n 0, 1) := by decide +kernel
theorem d_T_bringIn_31 : decode b_T_bringIn 31 = .ok (.dup, 1) := by decide +kernel
theorem d_T_bringIn_32 : decode b_T_bringIn 32 = .ok (.getfield 59, 3) := by decide +kernel
theorem d_T_bringIn_35 : decode b_T_bringIn 35 = .ok (.iconst 1, 1) := by decide +kernel
theorem d_T_bringIn_36 : decode b_T_bringIn 36 = .ok (.iadd, 1) := by decide +kernel
theorem d_T_bringIn_37 : decode b_T_bringIn 37 = .ok (.putfield 59, 3) := by decide +kernel
theorem d_T_bringIn_40 : decode b_T_bringIn 40 = .ok (.return_, 1) := by decide +kernel
theorem d_T_empty_0 : decode b_T_empty 0 = .ok (.aload_n 0, 1) := by decide +kernel
theorem d_T_empty_1 : decode b_T_empty 1 = .ok (.getfield 23, 3) := by decide +kernel
theorem d_T_empty_4 : decode b_T_empty 4 = .ok (.iload_n 1, 1) := by decide +kernel
theorem d_T_empty_5 : decode b_T_empty 5 = .ok (.iaload, 1) := by decide +kernel
theorem d_T_empty_6 : decode b_T_empty 6 = .ok (.istore_n 2, 1) := by decide +kernel
theorem d_T_empty_7 : decode b_T_empty 7 = .ok (.aload_n 0, 1) := by decide +kernel
theorem d_T_empty_8 : decode b_T_empty 8 = .ok (.getfield 23, 3) := by decide +kernel
theorem d_T_empty_11 : decode b_T_empty 11 = .ok (.iload_n 1, 1) := by decide +kernel
theorem d_T_empty_12 : decode b_T_empty 12 = .ok (.iconst (-1), 1) := by decide +kernel
theorem d_T_empty_13 : decode b_T_empty 13 = .ok (.iastore, 1) := by decide +kernel
theorem d_T_empty_14 : decode b_T_empty 14 = .ok (.iload_n 2, 1) := by decide +kernel
theorem d_T_empty_15 : decode b_T_empty 15 = .ok (.ifCond .lt 11, 3) := by decide +kernel
theorem d_T_empty_18 : decode b_T_empty 18 = .ok (.aload_n 0, 1) := by decide +kernel
theorem d_T_empty_19 : decode b_T_empty 19 = .ok (.iload_n 2, 1) := by decide +kernel
theorem d_T_empty_20 : decode b_T_empty 20 = .ok (.invokevirtual 62, 3) := by decide +kernel
theorem d_T_empty_23 : decode b_T_empty 23 = .ok (.ifCond .le 5, 3) := by decide +kernel
theorem d_T_empty_26 : decode b_T_empty 26 = .ok (.iconst 0, 1) := by decide +kernel
theorem d_T_empty_27 : decode b_T_empty 27 = .ok (.ireturn, 1) := by decide +kernel
theorem d_T_empty_28 : decode b_T_empty 28 = .ok (.aload_n 0, 1) := by decide +kernel
theorem d_T_empty_29 : decode b_T_empty 29 = .ok (.getfield 13, 3) := by decide +kernel
theorem d_T_empty_32 : decode b_T_empty 32 = .ok (.iload_n 2, 1) := by decide +kernel
theorem d_T_empty_33 : decode b_T_empty 33 = .ok (.iaload, 1) := by decide +kernel
theorem d_T_empty_34 : decode b_T_empty 34 = .ok (.bipush 100, 2) := by decide +kernel
theorem d_T_empty_36 : decode b_T_empty 36 = .ok (.if_icmp .ge 15, 3) := by decide +kernel
theorem d_T_empty_39 : decode b_T_empty 39 = .ok (.aload_n 0, 1) := by decide +kernel
theorem d_T_empty_40 : decode b_T_empty 40 = .ok (.getfield 7, 3) := by decide +kernel
theorem d_T_empty_43 : decode b_T_empty 43 = .ok (.aload_n 0, 1) := by decide +kernel
theorem d_T_empty_44 : decode b_T_empty 44 = .ok (.getfield 13, 3) := by decide +kernel
theorem d_T_empty_47 : decode b_T_empty 47 = .ok (.iload_n 2, 1) := by decide +kernel
theorem d_T_empty_48 : decode b_T_empty 48 = .ok (.iaload, 1) := by decide +kernel
theorem d_T_empty_49 : decode b_T_empty 49 = .ok (.iconst 0, 1) := by decide +kernel
theorem d_T_empty_50 : decode b_T_empty 50 = .ok (.bastore, 1) := by decide +kernel
theorem d_T_empty_51 : decode b_T_empty 51 = .ok (.aload_n 0, 1) := by decide +kernel
theorem d_T_empty_52 : decode b_T_empty 52 = .ok (.getfield 13, 3) := by decide +kernel
theorem d_T_empty_55 : decode b_T_empty 55 = .ok (.iload_n 2, 1) := by decide +kernel
theorem d_T_empty_56 : decode b_T_empty 56 = .ok (.iconst (-1), 1) := by decide +kernel
theorem d_T_empty_57 : decode b_T_empty 57 = .ok (.iastore, 1) := by decide +kernel
theorem d_T_empty_58 : decode b_T_empty 58 = .ok (.iconst 1, 1) := by decide +kernel
theorem d_T_empty_59 : decode b_T_empty 59 = .ok (.ireturn, 1) := by decide +kernel
theorem d_T_isProcess_0 : decode b_T_isProcess 0 = .ok (.iload_n 1, 1) := by decide +kernel
theorem d_T_isProcess_1 : decode b_T_isProcess 1 = .ok (.ifCond .lt 22, 3) := by decide +kernel
theorem d_T_isProcess_4 : decode b_T_isProcess 4 = .ok (.iload_n 1, 1) := by decide +kernel
theorem d_T_isProcess_5 : decode b_T_isProcess 5 = .ok (.bipush 6, 2) := by decide +kernel
theorem d_T_isProcess_7 : decode b_T_isProcess 7 = .ok (.if_icmp .ge 16, 3) := by decide +kernel
theorem d_T_isProcess_10 : decode b_T_isProcess 10 = .ok (.aload_n 0, 1) := by decide +kernel
theorem d_T_isProcess_11 : decode b_T_isProcess 11 = .ok (.getfield 20, 3) := by decide +kernel
theorem d_T_isProcess_14 : decode b_T_isProcess 14 = .ok (.iload_n 1, 1) := by decide +kernel
theorem d_T_isProcess_15 : decode b_T_isProcess 15 = .ok (.baload, 1) := by decide +kernel
theorem d_T_isProcess_16 : decode b_T_isProcess 16 = .ok (.ifCond .eq 7, 3) := by decide +kernel
theorem d_T_isProcess_19 : decode b_T_isProcess 19 = .ok (.iconst 1, 1) := by decide +kernel
theorem d_T_isProcess_20 : decode b_T_isProcess 20 = .ok (.goto 4, 3) := by decide +kernel
theorem d_T_isProcess_23 : decode b_T_isProcess 23 = .ok (.iconst 0, 1) := by decide +kernel
theorem d_T_isProcess_24 : decode b_T_isProcess 24 = .ok (.ireturn, 1) := by decide +kernel
theorem d_T_lowestProcess_0 : decode b_T_lowestProcess 0 = .ok (.iconst 0, 1) := by decide +kernel
theorem d_T_lowestProcess_1 : decode b_T_lowestProcess 1 = .ok (.istore_n 1, 1) := by decide +kernel
theorem d_T_lowestProcess_2 : decode b_T_lowestProcess 2 = .ok (.iload_n 1, 1) := by decide +kernel
theorem d_T_lowestProcess_3 : decode b_T_lowestProcess 3 = .ok (.bipush 6, 2) := by decide +kernel
theorem d_T_lowestProcess_5 : decode b_T_lowestProcess 5 = .ok (.if_icmp .ge 20, 3) := by decide +kernel
theorem d_T_lowestProcess_8 : decode b_T_lowestProcess 8 = .ok (.aload_n 0, 1) := by decide +kernel
theorem d_T_lowestProcess_9 : decode b_T_lowestProcess 9 = .ok (.getfield 20, 3) := by decide +kernel
theorem d_T_lowestProcess_12 : decode b_T_lowestProcess 12 = .ok (.iload_n 1, 1) := by decide +kernel
theorem d_T_lowestProcess_13 : decode b_T_lowestProcess 13 = .ok (.baload, 1) := by decide +kernel
theorem d_T_lowestProcess_14 : decode b_T_lowestProcess 14 = .ok (.ifCond .ne 5, 3) := by decide +kernel
theorem d_T_lowestProcess_17 : decode b_T_lowestProcess 17 = .ok (.iload_n 1, 1) := by decide +kernel
theorem d_T_lowestProcess_18 : decode b_T_lowestProcess 18 = .ok (.ireturn, 1) := by decide +kernel
theorem d_T_lowestProcess_19 : decode b_T_lowestProcess 19 = .ok (.iinc 1 1, 3) := by decide +kernel
theorem d_T_lowestProcess_22 : decode b_T_lowestProcess 22 = .ok (.goto (-20), 3) := by decide +kernel
theorem d_T_lowestProcess_25 : decode b_T_lowestProcess 25 = .ok (.iconst (-1), 1) := by decide +kernel
theorem d_T_lowestProcess_26 : decode b_T_lowestProcess 26 = .ok (.ireturn, 1) := by decide +kernel
theorem d_T_spawn_0 : decode b_T_spawn 0 = .ok (.aload_n 0, 1) := by decide +kernel
theorem d_T_spawn_1 : decode b_T_spawn 1 = .ok (.invokevirtual 65, 3) := by decide +kernel
theorem d_T_spawn_4 : decode b_T_spawn 4 = .ok (.istore_n 1, 1) := by decide +kernel
theorem d_T_spawn_5 : decode b_T_spawn 5 = .ok (.aload_n 0, 1) := by decide +kernel
theorem d_T_spawn_6 : decode b_T_spawn 6 = .ok (.iload_n 1, 1) := by decide +kernel
theorem d_T_spawn_7 : decode b_T_spawn 7 = .ok (.ifCond .ge 7, 3) := by decide +kernel
theorem d_T_spawn_10 : decode b_T_spawn 10 = .ok (.iconst 1, 1) := by decide +kernel
theorem d_T_spawn_11 : decode b_T_spawn 11 = .ok (.goto 4, 3) := by decide +kernel
theorem d_T_spawn_14 : decode b_T_spawn 14 = .ok (.iconst 0, 1) := by decide +kernel
theorem d_T_spawn_15 : decode b_T_spawn 15 = .ok (.putfield 33, 3) := by decide +kernel
theorem d_T_spawn_18 : decode b_T_spawn 18 = .ok (.aload_n 0, 1) := by decide +kernel
theorem d_T_spawn_19 : decode b_T_spawn 19 = .ok (.getfield 33, 3) := by decide +kernel
theorem d_T_spawn_22 : decode b_T_spawn 22 = .ok (.ifCond .le 5, 3) := by decide +kernel
theorem d_T_spawn_25 : decode b_T_spawn 25 = .ok (.iconst 0, 1) := by decide +kernel
theorem d_T_spawn_26 : decode b_T_spawn 26 = .ok (.ireturn, 1) := by decide +kernel
theorem d_T_spawn_27 : decode b_T_spawn 27 = .ok (.aload_n 0, 1) := by decide +kernel
theorem d_T_spawn_28 : decode b_T_spawn 28 = .ok (.getfield 20, 3) := by decide +kernel
theorem d_T_spawn_31 : decode b_T_spawn 31 = .ok (.iload_n 1, 1) := by decide +kernel
theorem d_T_spawn_32 : decode b_T_spawn 32 = .ok (.iconst 1, 1) := by decide +kernel
theorem d_T_spawn_33 : decode b_T_spawn 33 = .ok (.bastore, 1) := by decide +kernel
theorem d_T_spawn_34 : decode b_T_spawn 34 = .ok (.iload_n 1, 1) := by decide +kernel
theorem d_T_spawn_35 : decode b_T_spawn 35 = .ok (.ireturn, 1) := by decide +kernel
theorem d_T_fork_0 : decode b_T_fork 0 = .ok (.aload_n 0, 1) := by decide +kernel
theorem d_T_fork_1 : decode b_T_fork 1 = .ok (.invokevirtual 65, 3) := by decide +kernel
theorem d_T_fork_4 : decode b_T_fork 4 = .ok (.istore_n 2, 1) := by decide +kernel
theorem d_T_fork_5 : decode b_T_fork 5 = .ok (.aload_n 0, 1) := by decide +kernel
theorem d_T_fork_6 : decode b_T_fork 6 = .ok (.aload_n 0, 1) := by decide +kernel
theorem d_T_fork_7 : decode b_T_fork 7 = .ok (.iload_n 1, 1) := by decide +kernel
theorem d_T_fork_8 : decode b_T_fork 8 = .ok (.invokevirtual 68, 3) := by decide +kernel
theorem d_T_fork_11 : decode b_T_fork 11 = .ok (.ifCond .ne 7, 3) := by decide +kernel
theorem d_T_fork_14 : decode b_T_fork 14 = .ok (.iconst 1, 1) := by decide +kernel
theorem d_T_fork_15 : decode b_T_fork 15 = .ok (.goto 12, 3) := by decide +kernel
theorem d_T_fork_18 : decode b_T_fork 18 = .ok (.iload_n 2, 1) := by decide +kernel
theorem d_T_fork_19 : decode b_T_fork 19 = .ok (.ifCond .ge 7, 3) := by decide +kernel
theorem d_T_fork_22 : decode b_T_fork 22 = .ok (.iconst 2, 1) := by decide +kernel
theorem d_T_fork_23 : decode b_T_fork 23 = .ok (.goto 4, 3) := by decide +kernel
theorem d_T_fork_26 : decode b_T_fork 26 = .ok (.iconst 0, 1) := by decide +kernel
theorem d_T_fork_27 : decode b_T_fork 27 = .ok (.putfield 33, 3) := by decide +kernel
theorem d_T_fork_30 : decode b_T_fork 30 = .ok (.aload_n 0, 1) := by decide +kernel
theorem d_T_fork_31 : decode b_T_fork 31 = .ok (.getfield 33, 3) := by decide +kernel
theorem d_T_fork_34 : decode b_T_fork 34 = .ok (.ifCond .le 5, 3) := by decide +kernel
theorem d_T_fork_37 : decode b_T_fork 37 = .ok (.iconst 0, 1) := by decide +kernel
theorem d_T_fork_38 : decode b_T_fork 38 = .ok (.ireturn, 1) := by decide +kernel
theorem d_T_fork_39 : decode b_T_fork 39 = .ok (.aload_n 0, 1) := by decide +kernel
theorem d_T_fork_40 : decode b_T_fork 40 = .ok (.getfield 20, 3) := by decide +kernel
theorem d_T_fork_43 : decode b_T_fork 43 = .ok (.iload_n 2, 1) := by decide +kernel
theorem d_T_fork_44 : decode b_T_fork 44 = .ok (.iconst 1, 1) := by decide +kernel
theorem d_T_fork_45 : decode b_T_fork 45 = .ok (.bastore, 1) := by decide +kernel
theorem d_T_fork_46 : decode b_T_fork 46 = .ok (.iconst 0, 1) := by decide +kernel
theorem d_T_fork_47 : decode b_T_fork 47 = .ok (.istore_n 3, 1) := by decide +kernel
theorem d_T_fork_48 : decode b_T_fork 48 = .ok (.iload_n 3, 1) := by decide +kernel
theorem d_T_fork_49 : decode b_T_fork 49 = .ok (.bipush 6, 2) := by decide +kernel
theorem d_T_fork_51 : decode b_T_fork 51 = .ok (.if_icmp .ge 31, 3) := by decide +kernel
theorem d_T_fork_54 : decode b_T_fork 54 = .ok (.aload_n 0, 1) := by decide +kernel
theorem d_T_fork_55 : decode b_T_fork 55 = .ok (.getfield 23, 3) := by decide +kernel
theorem d_T_fork_58 : decode b_T_fork 58 = .ok (.bipush 6, 2) := by decide +kernel
theorem d_T_fork_60 : decode b_T_fork 60 = .ok (.iload_n 2, 1) := by decide +kernel
theorem d_T_fork_61 : decode b_T_fork 61 = .ok (.imul, 1) := by decide +kernel
theorem d_T_fork_62 : decode b_T_fork 62 = .ok (.iload_n 3, 1) := by decide +kernel
theorem d_T_fork_63 : decode b_T_fork 63 = .ok (.iadd, 1) := by decide +kernel
theorem d_T_fork_64 : decode b_T_fork 64 = .ok (.aload_n 0, 1) := by decide +kernel
theorem d_T_fork_65 : decode b_T_fork 65 = .ok (.getfield 23, 3) := by decide +kernel
theorem d_T_fork_68 : decode b_T_fork 68 = .ok (.bipush 6, 2) := by decide +kernel
theorem d_T_fork_70 : decode b_T_fork 70 = .ok (.iload_n 1, 1) := by decide +kernel
theorem d_T_fork_71 : decode b_T_fork 71 = .ok (.imul, 1) := by decide +kernel
theorem d_T_fork_72 : decode b_T_fork 72 = .ok (.iload_n 3, 1) := by decide +kernel
theorem d_T_fork_73 : decode b_T_fork 73 = .ok (.iadd, 1) := by decide +kernel
theorem d_T_fork_74 : decode b_T_fork 74 = .ok (.iaload, 1) := by decide +kernel
theorem d_T_fork_75 : decode b_T_fork 75 = .ok (.iastore, 1) := by decide +kernel
theorem d_T_fork_76 : decode b_T_fork 76 = .ok (.iinc 3 1, 3) := by decide +kernel
theorem d_T_fork_79 : decode b_T_fork 79 = .ok (.goto (-31), 3) := by decide +kernel
theorem d_T_fork_82 : decode b_T_fork 82 = .ok (.iload_n 2, 1) := by decide +kernel
theorem d_T_fork_83 : decode b_T_fork 83 = .ok (.ireturn, 1) := by decide +kernel
theorem d_T_exit_0 : decode b_T_exit 0 = .ok (.aload_n 0, 1) := by decide +kernel
theorem d_T_exit_1 : decode b_T_exit 1 = .ok (.aload_n 0, 1) := by decide +kernel
theorem d_T_exit_2 : decode b_T_exit 2 = .ok (.iload_n 1, 1) := by decide +kernel
theorem d_T_exit_3 : decode b_T_exit 3 = .ok (.invokevirtual 68, 3) := by decide +kernel
theorem d_T_exit_6 : decode b_T_exit 6 = .ok (.ifCond .eq 7, 3) := by decide +kernel
theorem d_T_exit_9 : decode b_T_exit 9 = .ok (.iconst 0, 1) := by decide +kernel
theorem d_T_exit_10 : decode b_T_exit 10 = .ok (.goto 4, 3) := by decide +kernel
theorem d_T_exit_13 : decode b_T_exit 13 = .ok (.iconst 1, 1) := by decide +kernel
theorem d_T_exit_14 : decode b_T_exit 14 = .ok (.putfield 33, 3) := by decide +kernel
theorem d_T_exit_17 : decode b_T_exit 17 = .ok (.aload_n 0, 1) := by decide +kernel
theorem d_T_exit_18 : decode b_T_exit 18 = .ok (.getfield 33, 3) := by decide +kernel
theorem d_T_exit_21 : decode b_T_exit 21 = .ok (.ifCond .le 5, 3) := by decide +kernel
theorem d_T_exit_24 : decode b_T_exit 24 = .ok (.iconst 0, 1) := by decide +kernel
theorem d_T_exit_25 : decode b_T_exit 25 = .ok (.ireturn, 1) := by decide +kernel
theorem d_T_exit_26 : decode b_T_exit 26 = .ok (.aload_n 0, 1) := by decide +kernel
theorem d_T_exit_27 : decode b_T_exit 27 = .ok (.getfield 20, 3) := by decide +kernel
theorem d_T_exit_30 : decode b_T_exit 30 = .ok (.iload_n 1, 1) := by decide +kernel
theorem d_T_exit_31 : decode b_T_exit 31 = .ok (.iconst 0, 1) := by decide +kernel
theorem d_T_exit_32 : decode b_T_exit 32 = .ok (.bastore, 1) := by decide +kernel
theorem d_T_exit_33 : decode b_T_exit 33 = .ok (.iconst 0, 1) := by decide +kernel
theorem d_T_exit_34 : decode b_T_exit 34 = .ok (.istore_n 2, 1) := by decide +kernel
theorem d_T_exit_35 : decode b_T_exit 35 = .ok (.iconst 0, 1) := by decide +kernel
theorem d_T_exit_36 : decode b_T_exit 36 = .ok (.istore_n 3, 1) := by decide +kernel
theorem d_T_exit_37 : decode b_T_exit 37 = .ok (.iload_n 3, 1) := by decide +kernel
theorem d_T_exit_38 : decode b_T_exit 38 = .ok (.bipush 6, 2) := by decide +kernel
theorem d_T_exit_40 : decode b_T_exit 40 = .ok (.if_icmp .ge 30, 3) := by decide +kernel
theorem d_T_exit_43 : decode b_T_exit 43 = .ok (.aload_n 0, 1) := by decide +kernel
theorem d_T_exit_44 : decode b_T_exit 44 = .ok (.bipush 6, 2) := by decide +kernel
theorem d_T_exit_46 : decode b_T_exit 46 = .ok (.iload_n 1, 1) := by decide +kernel
theorem d_T_exit_47 : decode b_T_exit 47 = .ok (.imul, 1) := by decide +kernel
theorem d_T_exit_48 : decode b_T_exit 48 = .ok (.iload_n 3, 1) := by decide +kernel
theorem d_T_exit_49 : decode b_T_exit 49 = .ok (.iadd, 1) := by decide +kernel
theorem d_T_exit_50 : decode b_T_exit 50 = .ok (.invokevirtual 72, 3) := by decide +kernel
theorem d_T_exit_53 : decode b_T_exit 53 = .ok (.ifCond .eq 9, 3) := by decide +kernel
theorem d_T_exit_56 : decode b_T_exit 56 = .ok (.iload_n 2, 1) := by decide +kernel
theorem d_T_exit_57 : decode b_T_exit 57 = .ok (.iconst 1, 1) := by decide +kernel
theorem d_T_exit_58 : decode b_T_exit 58 = .ok (.iadd, 1) := by decide +kernel
theorem d_T_exit_59 : decode b_T_exit 59 = .ok (.goto 4, 3) := by decide +kernel
theorem d_T_exit_62 : decode b_T_exit 62 = .ok (.iload_n 2, 1) := by decide +kernel
theorem d_T_exit_63 : decode b_T_exit 63 = .ok (.istore_n 2, 1) := by decide +kernel
theorem d_T_exit_64 : decode b_T_exit 64 = .ok (.iinc 3 1, 3) := by decide +kernel
theorem d_T_exit_67 : decode b_T_exit 67 = .ok (.goto (-30), 3) := by decide +kernel
theorem d_T_exit_70 : decode b_T_exit 70 = .ok (.iload_n 2, 1) := by decide +kernel
theorem d_T_exit_71 : decode b_T_exit 71 = .ok (.ireturn, 1) := by decide +kernel
theorem d_T_drop_0 : decode b_T_drop 0 = .ok (.aload_n 0, 1) := by decide +kernel
theorem d_T_drop_1 : decode b_T_drop 1 = .ok (.aload_n 0, 1) := by decide +kernel
theorem d_T_drop_2 : decode b_T_drop 2 = .ok (.iload_n 1, 1) := by decide +kernel
theorem d_T_drop_3 : decode b_T_drop 3 = .ok (.invokevirtual 68, 3) := by decide +kernel
theorem d_T_drop_6 : decode b_T_drop 6 = .ok (.ifCond .ne 7, 3) := by decide +kernel
theorem d_T_drop_9 : decode b_T_drop 9 = .ok (.iconst 1, 1) := by decide +kernel
theorem d_T_drop_10 : decode b_T_drop 10 = .ok (.goto 17, 3) := by decide +kernel
theorem d_T_drop_13 : decode b_T_drop 13 = .ok (.iload_n 2, 1) := by decide +kernel
theorem d_T_drop_14 : decode b_T_drop 14 = .ok (.ifCond .lt 8, 3) := by decide +kernel
theorem d_T_drop_17 : decode b_T_drop 17 = .ok (.iload_n 2, 1) := by decide +kernel
theorem d_T_drop_18 : decode b_T_drop 18 = .ok (.iconst 5, 1) := by decide +kernel
theorem d_T_drop_19 : decode b_T_drop 19 = .ok (.if_icmp .le 7, 3) := by decide +kernel
theorem d_T_drop_22 : decode b_T_drop 22 = .ok (.iconst 2, 1) := by decide +kernel
theorem d_T_drop_23 : decode b_T_drop 23 = .ok (.goto 4, 3) := by decide +kernel
theorem d_T_drop_26 : decode b_T_drop 26 = .ok (.iconst 0, 1) := by decide +kernel
theorem d_T_drop_27 : decode b_T_drop 27 = .ok (.putfield 33, 3) := by decide +kernel
theorem d_T_drop_30 : decode b_T_drop 30 = .ok (.aload_n 0, 1) := by decide +kernel
theorem d_T_drop_31 : decode b_T_drop 31 = .ok (.getfield 33, 3) := by decide +kernel
theorem d_T_drop_34 : decode b_T_drop 34 = .ok (.ifCond .ne 20, 3) := by decide +kernel
theorem d_T_drop_37 : decode b_T_drop 37 = .ok (.aload_n 0, 1) := by decide +kernel
theorem d_T_drop_38 : decode b_T_drop 38 = .ok (.bipush 6, 2) := by decide +kernel
theorem d_T_drop_40 : decode b_T_drop 40 = .ok (.iload_n 1, 1) := by decide +kernel
theorem d_T_drop_41 : decode b_T_drop 41 = .ok (.imul, 1) := by decide +kernel
theorem d_T_drop_42 : decode b_T_drop 42 = .ok (.iload_n 2, 1) := by decide +kernel
theorem d_T_drop_43 : decode b_T_drop 43 = .ok (.iadd, 1) := by decide +kernel
theorem d_T_drop_44 : decode b_T_drop 44 = .ok (.invokevirtual 72, 3) := by decide +kernel
theorem d_T_drop_47 : decode b_T_drop 47 = .ok (.ifCond .eq 7, 3) := by decide +kernel
theorem d_T_drop_50 : decode b_T_drop 50 = .ok (.iconst 1, 1) := by decide +kernel
theorem d_T_drop_51 : decode b_T_drop 51 = .ok (.goto 4, 3) := by decide +kernel
theorem d_T_drop_54 : decode b_T_drop 54 = .ok (.iconst 0, 1) := by decide +kernel
theorem d_T_drop_55 : decode b_T_drop 55 = .ok (.ireturn, 1) := by decide +kernel
theorem d_T_isAddress_0 : decode b_T_isAddress 0 = .ok (.iload_n 0, 1) := by decide +kernel
theorem d_T_isAddress_1 : decode b_T_isAddress 1 = .ok (.ifCond .lt 13, 3) := by decide +kernel
theorem d_T_isAddress_4 : decode b_T_isAddress 4 = .ok (.iload_n 0, 1) := by decide +kernel
theorem d_T_isAddress_5 : decode b_T_isAddress 5 = .ok (.bipush 24, 2) := by decide +kernel
theorem d_T_isAddress_7 : decode b_T_isAddress 7 = .ok (.if_icmp .ge 7, 3) := by decide +kernel
theorem d_T_isAddress_10 : decode b_T_isAddress 10 = .ok (.iconst 1, 1) := by decide +kernel
theorem d_T_isAddress_11 : decode b_T_isAddress 11 = .ok (.goto 4, 3) := by decide +kernel
theorem d_T_isAddress_14 : decode b_T_isAddress 14 = .ok (.iconst 0, 1) := by decide +kernel
theorem d_T_isAddress_15 : decode b_T_isAddress 15 = .ok (.ireturn, 1) := by decide +kernel
theorem d_T_loaded_0 : decode b_T_loaded 0 = .ok (.aload_n 0, 1) := by decide +kernel
theorem d_T_loaded_1 : decode b_T_loaded 1 = .ok (.getfield 23, 3) := by decide +kernel
theorem d_T_loaded_4 : decode b_T_loaded 4 = .ok (.bipush 6, 2) := by decide +kernel
theorem d_T_loaded_6 : decode b_T_loaded 6 = .ok (.iload_n 1, 1) := by decide +kernel
theorem d_T_loaded_7 : decode b_T_loaded 7 = .ok (.imul, 1) := by decide +kernel
theorem d_T_loaded_8 : decode b_T_loaded 8 = .ok (.iload_n 2, 1) := by decide +kernel
theorem d_T_loaded_9 : decode b_T_loaded 9 = .ok (.iconst 4, 1) := by decide +kernel
theorem d_T_loaded_10 : decode b_T_loaded 10 = .ok (.idiv, 1) := by decide +kernel
theorem d_T_loaded_11 : decode b_T_loaded 11 = .ok (.iadd, 1) := by decide +kernel
theorem d_T_loaded_12 : decode b_T_loaded 12 = .ok (.iaload, 1) := by decide +kernel
theorem d_T_loaded_13 : decode b_T_loaded 13 = .ok (.istore_n 3, 1) := by decide +kernel
theorem d_T_loaded_14 : decode b_T_loaded 14 = .ok (.iload_n 3, 1) := by decide +kernel
theorem d_T_loaded_15 : decode b_T_loaded 15 = .ok (.ifCond .ge 5, 3) := by decide +kernel
theorem d_T_loaded_18 : decode b_T_loaded 18 = .ok (.iconst 0, 1) := by decide +kernel
theorem d_T_loaded_19 : decode b_T_loaded 19 = .ok (.ireturn, 1) := by decide +kernel
theorem d_T_loaded_20 : decode b_T_loaded 20 = .ok (.aload_n 0, 1) := by decide +kernel
theorem d_T_loaded_21 : decode b_T_loaded 21 = .ok (.iload_n 3, 1) := by decide +kernel
theorem d_T_loaded_22 : decode b_T_loaded 22 = .ok (.invokevirtual 75, 3) := by decide +kernel
theorem d_T_loaded_25 : decode b_T_loaded 25 = .ok (.aload_n 0, 1) := by decide +kernel
theorem d_T_loaded_26 : decode b_T_loaded 26 = .ok (.getfield 7, 3) := by decide +kernel
theorem d_T_loaded_29 : decode b_T_loaded 29 = .ok (.aload_n 0, 1) := by decide +kernel
theorem d_T_loaded_30 : decode b_T_loaded 30 = .ok (.getfield 13, 3) := by decide +kernel
theorem d_T_loaded_33 : decode b_T_loaded 33 = .ok (.iload_n 3, 1) := by decide +kernel
theorem d_T_loaded_34 : decode b_T_loaded 34 = .ok (.iaload, 1) := by decide +kernel
theorem d_T_loaded_35 : decode b_T_loaded 35 = .ok (.iconst 1, 1) := by decide +kernel
theorem d_T_loaded_36 : decode b_T_loaded 36 = .ok (.bastore, 1) := by decide +kernel
theorem d_T_loaded_37 : decode b_T_loaded 37 = .ok (.aload_n 0, 1) := by decide +kernel
theorem d_T_loaded_38 : decode b_T_loaded 38 = .ok (.getfield 17, 3) := by decide +kernel
theorem d_T_loaded_41 : decode b_T_loaded 41 = .ok (.iconst 4, 1) := by decide +kernel
theorem d_T_loaded_42 : decode b_T_loaded 42 = .ok (.iload_n 3, 1) := by decide +kernel
theorem d_T_loaded_43 : decode b_T_loaded 43 = .ok (.imul, 1) := by decide +kernel
theorem d_T_loaded_44 : decode b_T_loaded 44 = .ok (.iload_n 2, 1) := by decide +kernel
theorem d_T_loaded_45 : decode b_T_loaded 45 = .ok (.iconst 4, 1) := by decide +kernel
theorem d_T_loaded_46 : decode b_T_loaded 46 = .ok (.irem, 1) := by decide +kernel
theorem d_T_loaded_47 : decode b_T_loaded 47 = .ok (.iadd, 1) := by decide +kernel
theorem d_T_loaded_48 : decode b_T_loaded 48 = .ok (.iaload, 1) := by decide +kernel
theorem d_T_loaded_49 : decode b_T_loaded 49 = .ok (.ireturn, 1) := by decide +kernel
end
section
/-! what stands at each place of the code, by program -/
theorem d_T_needs_0 : decode b_T_needs 0 = .ok (.aload_n 0, 1) := by decide +kernel
theorem d_T_needs_1 : decode b_T_needs 1 = .ok (.getfield 23, 3) := by decide +kernel
theorem d_T_needs_4 : decode b_T_needs 4 = .ok (.bipush 6, 2) := by decide +kernel
theorem d_T_needs_6 : decode b_T_needs 6 = .ok (.iload_n 1, 1) := by decide +kernel
theorem d_T_needs_7 : decode b_T_needs 7 = .ok (.imul, 1) := by decide +kernel
theorem d_T_needs_8 : decode b_T_needs 8 = .ok (.iload_n 2, 1) := by decide +kernel
theorem d_T_needs_9 : decode b_T_needs 9 = .ok (.iconst 4, 1) := by decide +kernel
theorem d_T_needs_10 : decode b_T_needs 10 = .ok (.idiv, 1) := by decide +kernel
theorem d_T_needs_11 : decode b_T_needs 11 = .ok (.iadd, 1) := by decide +kernel
theorem d_T_needs_12 : decode b_T_needs 12 = .ok (.iaload, 1) := by decide +kernel
theorem d_T_needs_13 : decode b_T_needs 13 = .ok (.istore_n 3, 1) := by decide +kernel
theorem d_T_needs_14 : decode b_T_needs 14 = .ok (.iload_n 3, 1) := by decide +kernel
theorem d_T_needs_15 : decode b_T_needs 15 = .ok (.ifCond .lt 12, 3) := by decide +kernel
theorem d_T_needs_18 : decode b_T_needs 18 = .ok (.aload_n 0, 1) := by decide +kernel
theorem d_T_needs_19 : decode b_T_needs 19 = .ok (.iload_n 3, 1) := by decide +kernel
theorem d_T_needs_20 : decode b_T_needs 20 = .ok (.invokevirtual 62, 3) := by decide +kernel
theorem d_T_needs_23 : decode b_T_needs 23 = .ok (.iconst 1, 1) := by decide +kernel
theorem d_T_needs_24 : decode b_T_needs 24 = .ok (.if_icmp .le 7, 3) := by decide +kernel
theorem d_T_needs_27 : decode b_T_needs 27 = .ok (.iconst 1, 1) := by decide +kernel
theorem d_T_needs_28 : decode b_T_needs 28 = .ok (.goto 4, 3) := by decide +kernel
theorem d_T_needs_31 : decode b_T_needs 31 = .ok (.iconst 0, 1) := by decide +kernel
theorem d_T_needs_32 : decode b_T_needs 32 = .ok (.ireturn, 1) := by decide +kernel
theorem d_T_stored_0 : decode b_T_stored 0 = .ok (.bipush 6, 2) := by decide +kernel
theorem d_T_stored_2 : decode b_T_stored 2 = .ok (.iload_n 1, 1) := by decide +kernel
theorem d_T_stored_3 : decode b_T_stored 3 = .ok (.imul, 1) := by decide +kernel
theorem d_T_stored_4 : decode b_T_stored 4 = .ok (.iload_n 2, 1) := by decide +kernel
theorem d_T_stored_5 : decode b_T_stored 5 = .ok (.iconst 4, 1) := by decide +kernel
theorem d_T_stored_6 : decode b_T_stored 6 = .ok (.idiv, 1) := by decide +kernel
theorem d_T_stored_7 : decode b_T_stored 7 = .ok (.iadd, 1) := by decide +kernel
theorem d_T_stored_8 : decode b_T_stored 8 = .ok (.istore 4, 2) := by decide +kernel
theorem d_T_stored_10 : decode b_T_stored 10 = .ok (.aload_n 0, 1) := by decide +kernel
theorem d_T_stored_11 : decode b_T_stored 11 = .ok (.iload_n 1, 1) := by decide +kernel
theorem d_T_stored_12 : decode b_T_stored 12 = .ok (.iload_n 2, 1) := by decide +kernel
theorem d_T_stored_13 : decode b_T_stored 13 = .ok (.invokevirtual 79, 3) := by decide +kernel
theorem d_T_stored_16 : decode b_T_stored 16 = .ok (.ifCond .eq 19, 3) := by decide +kernel
theorem d_T_stored_19 : decode b_T_stored 19 = .ok (.aload_n 0, 1) := by decide +kernel
theorem d_T_stored_20 : decode b_T_stored 20 = .ok (.iload 4, 2) := by decide +kernel
theorem d_T_stored_22 : decode b_T_stored 22 = .ok (.aload_n 0, 1) := by decide +kernel
theorem d_T_stored_23 : decode b_T_stored 23 = .ok (.getfield 23, 3) := by decide +kernel
theorem d_T_stored_26 : decode b_T_stored 26 = .ok (.iload 4, 2) := by decide +kernel
theorem d_T_stored_28 : decode b_T_stored 28 = .ok (.iaload, 1) := by decide +kernel
theorem d_T_stored_29 : decode b_T_stored 29 = .ok (.invokevirtual 83, 3) := by decide +kernel
theorem d_T_stored_32 : decode b_T_stored 32 = .ok (.goto 14, 3) := by decide +kernel
theorem d_T_stored_35 : decode b_T_stored 35 = .ok (.aload_n 0, 1) := by decide +kernel
theorem d_T_stored_36 : decode b_T_stored 36 = .ok (.aload_n 0, 1) := by decide +kernel
theorem d_T_stored_37 : decode b_T_stored 37 = .ok (.getfield 23, 3) := by decide +kernel
theorem d_T_stored_40 : decode b_T_stored 40 = .ok (.iload 4, 2) := by decide +kernel
theorem d_T_stored_42 : decode b_T_stored 42 = .ok (.iaload, 1) := by decide +kernel
theorem d_T_stored_43 : decode b_T_stored 43 = .ok (.invokevirtual 75, 3) := by decide +kernel
theorem d_T_stored_46 : decode b_T_stored 46 = .ok (.aload_n 0, 1) := by decide +kernel
theorem d_T_stored_47 : decode b_T_stored 47 = .ok (.getfield 23, 3) := by decide +kernel
theorem d_T_stored_50 : decode b_T_stored 50 = .ok (.iload 4, 2) := by decide +kernel
theorem d_T_stored_52 : decode b_T_stored 52 = .ok (.iaload, 1) := by decide +kernel
theorem d_T_stored_53 : decode b_T_stored 53 = .ok (.istore 5, 2) := by decide +kernel
theorem d_T_stored_55 : decode b_T_stored 55 = .ok (.aload_n 0, 1) := by decide +kernel
theorem d_T_stored_56 : decode b_T_stored 56 = .ok (.getfield 7, 3) := by decide +kernel
theorem d_T_stored_59 : decode b_T_stored 59 = .ok (.aload_n 0, 1) := by decide +kernel
theorem d_T_stored_60 : decode b_T_stored 60 = .ok (.getfield 13, 3) := by decide +kernel
theorem d_T_stored_63 : decode b_T_stored 63 = .ok (.iload 5, 2) := by decide +kernel
theorem d_T_stored_65 : decode b_T_stored 65 = .ok (.iaload, 1) := by decide +kernel
theorem d_T_stored_66 : decode b_T_stored 66 = .ok (.iconst 1, 1) := by decide +kernel
theorem d_T_stored_67 : decode b_T_stored 67 = .ok (.bastore, 1) := by decide +kernel
theorem d_T_stored_68 : decode b_T_stored 68 = .ok (.aload_n 0, 1) := by decide +kernel
theorem d_T_stored_69 : decode b_T_stored 69 = .ok (.getfield 17, 3) := by decide +kernel
theorem d_T_stored_72 : decode b_T_stored 72 = .ok (.iconst 4, 1) := by decide +kernel
theorem d_T_stored_73 : decode b_T_stored 73 = .ok (.iload 5, 2) := by decide +kernel
theorem d_T_stored_75 : decode b_T_stored 75 = .ok (.imul, 1) := by decide +kernel
theorem d_T_stored_76 : decode b_T_stored 76 = .ok (.iload_n 2, 1) := by decide +kernel
theorem d_T_stored_77 : decode b_T_stored 77 = .ok (.iconst 4, 1) := by decide +kernel
theorem d_T_stored_78 : decode b_T_stored 78 = .ok (.irem, 1) := by decide +kernel
theorem d_T_stored_79 : decode b_T_stored 79 = .ok (.iadd, 1) := by decide +kernel
theorem d_T_stored_80 : decode b_T_stored 80 = .ok (.iload_n 3, 1) := by decide +kernel
theorem d_T_stored_81 : decode b_T_stored 81 = .ok (.iastore, 1) := by decide +kernel
theorem d_T_stored_82 : decode b_T_stored 82 = .ok (.return_, 1) := by decide +kernel
theorem d_T_load_0 : decode b_T_load 0 = .ok (.aload_n 0, 1) := by decide +kernel
theorem d_T_load_1 : decode b_T_load 1 = .ok (.aload_n 0, 1) := by decide +kernel
theorem d_T_load_2 : decode b_T_load 2 = .ok (.iload_n 1, 1) := by decide +kernel
theorem d_T_load_3 : decode b_T_load 3 = .ok (.invokevirtual 68, 3) := by decide +kernel
theorem d_T_load_6 : decode b_T_load 6 = .ok (.ifCond .ne 7, 3) := by decide +kernel
theorem d_T_load_9 : decode b_T_load 9 = .ok (.iconst 1, 1) := by decide +kernel
theorem d_T_load_10 : decode b_T_load 10 = .ok (.goto 15, 3) := by decide +kernel
theorem d_T_load_13 : decode b_T_load 13 = .ok (.iload_n 2, 1) := by decide +kernel
theorem d_T_load_14 : decode b_T_load 14 = .ok (.invokestatic 87, 3) := by decide +kernel
theorem d_T_load_17 : decode b_T_load 17 = .ok (.ifCond .ne 7, 3) := by decide +kernel
theorem d_T_load_20 : decode b_T_load 20 = .ok (.iconst 2, 1) := by decide +kernel
theorem d_T_load_21 : decode b_T_load 21 = .ok (.goto 4, 3) := by decide +kernel
theorem d_T_load_24 : decode b_T_load 24 = .ok (.iconst 0, 1) := by decide +kernel
theorem d_T_load_25 : decode b_T_load 25 = .ok (.putfield 33, 3) := by decide +kernel
theorem d_T_load_28 : decode b_T_load 28 = .ok (.aload_n 0, 1) := by decide +kernel
theorem d_T_load_29 : decode b_T_load 29 = .ok (.getfield 33, 3) := by decide +kernel
theorem d_T_load_32 : decode b_T_load 32 = .ok (.ifCond .le 7, 3) := by decide +kernel
theorem d_T_load_35 : decode b_T_load 35 = .ok (.iconst 0, 1) := by decide +kernel
theorem d_T_load_36 : decode b_T_load 36 = .ok (.goto 9, 3) := by decide +kernel
theorem d_T_load_39 : decode b_T_load 39 = .ok (.aload_n 0, 1) := by decide +kernel
theorem d_T_load_40 : decode b_T_load 40 = .ok (.iload_n 1, 1) := by decide +kernel
theorem d_T_load_41 : decode b_T_load 41 = .ok (.iload_n 2, 1) := by decide +kernel
theorem d_T_load_42 : decode b_T_load 42 = .ok (.invokevirtual 90, 3) := by decide +kernel
theorem d_T_load_45 : decode b_T_load 45 = .ok (.ireturn, 1) := by decide +kernel
theorem d_T_store_0 : decode b_T_store 0 = .ok (.aload_n 0, 1) := by decide +kernel
theorem d_T_store_1 : decode b_T_store 1 = .ok (.aload_n 0, 1) := by decide +kernel
theorem d_T_store_2 : decode b_T_store 2 = .ok (.iload_n 1, 1) := by decide +kernel
theorem d_T_store_3 : decode b_T_store 3 = .ok (.invokevirtual 68, 3) := by decide +kernel
theorem d_T_store_6 : decode b_T_store 6 = .ok (.ifCond .ne 7, 3) := by decide +kernel
theorem d_T_store_9 : decode b_T_store 9 = .ok (.iconst 1, 1) := by decide +kernel
theorem d_T_store_10 : decode b_T_store 10 = .ok (.goto 15, 3) := by decide +kernel
theorem d_T_store_13 : decode b_T_store 13 = .ok (.iload_n 2, 1) := by decide +kernel
theorem d_T_store_14 : decode b_T_store 14 = .ok (.invokestatic 87, 3) := by decide +kernel
theorem d_T_store_17 : decode b_T_store 17 = .ok (.ifCond .ne 7, 3) := by decide +kernel
theorem d_T_store_20 : decode b_T_store 20 = .ok (.iconst 2, 1) := by decide +kernel
theorem d_T_store_21 : decode b_T_store 21 = .ok (.goto 4, 3) := by decide +kernel
theorem d_T_store_24 : decode b_T_store 24 = .ok (.iconst 0, 1) := by decide +kernel
theorem d_T_store_25 : decode b_T_store 25 = .ok (.putfield 33, 3) := by decide +kernel
theorem d_T_store_28 : decode b_T_store 28 = .ok (.aload_n 0, 1) := by decide +kernel
theorem d_T_store_29 : decode b_T_store 29 = .ok (.getfield 33, 3) := by decide +kernel
theorem d_T_store_32 : decode b_T_store 32 = .ok (.ifCond .le 4, 3) := by decide +kernel
theorem d_T_store_35 : decode b_T_store 35 = .ok (.return_, 1) := by decide +kernel
theorem d_T_store_36 : decode b_T_store 36 = .ok (.aload_n 0, 1) := by decide +kernel
theorem d_T_store_37 : decode b_T_store 37 = .ok (.iload_n 1, 1) := by decide +kernel
theorem d_T_store_38 : decode b_T_store 38 = .ok (.iload_n 2, 1) := by decide +kernel
theorem d_T_store_39 : decode b_T_store 39 = .ok (.invokevirtual 79, 3) := by decide +kernel
theorem d_T_store_42 : decode b_T_store 42 = .ok (.ifCond .eq 16, 3) := by decide +kernel
theorem d_T_store_45 : decode b_T_store 45 = .ok (.aload_n 0, 1) := by decide +kernel
theorem d_T_store_46 : decode b_T_store 46 = .ok (.invokevirtual 94, 3) := by decide +kernel
theorem d_T_store_49 : decode b_T_store 49 = .ok (.ifCond .ne 9, 3) := by decide +kernel
theorem d_T_store_52 : decode b_T_store 52 = .ok (.aload_n 0, 1) := by decide +kernel
theorem d_T_store_53 : decode b_T_store 53 = .ok (.iconst 3, 1) := by decide +kernel
theorem d_T_store_54 : decode b_T_store 54 = .ok (.putfield 33, 3) := by decide +kernel
theorem d_T_store_57 : decode b_T_store 57 = .ok (.return_, 1) := by decide +kernel
theorem d_T_store_58 : decode b_T_store 58 = .ok (.aload_n 0, 1) := by decide +kernel
theorem d_T_store_59 : decode b_T_store 59 = .ok (.iload_n 1, 1) := by decide +kernel
theorem d_T_store_60 : decode b_T_store 60 = .ok (.iload_n 2, 1) := by decide +kernel
theorem d_T_store_61 : decode b_T_store 61 = .ok (.iload_n 3, 1) := by decide +kernel
theorem d_T_store_62 : decode b_T_store 62 = .ok (.invokevirtual 98, 3) := by decide +kernel
theorem d_T_store_65 : decode b_T_store 65 = .ok (.return_, 1) := by decide +kernel
theorem d_T_copy_0 : decode b_T_copy 0 = .ok (.iload 4, 2) := by decide +kernel
theorem d_T_copy_2 : decode b_T_copy 2 = .ok (.ifCond .lt 47, 3) := by decide +kernel
theorem d_T_copy_5 : decode b_T_copy 5 = .ok (.iload 4, 2) := by decide +kernel
theorem d_T_copy_7 : decode b_T_copy 7 = .ok (.bipush 24, 2) := by decide +kernel
theorem d_T_copy_9 : decode b_T_copy 9 = .ok (.if_icmp .gt 40, 3) := by decide +kernel
theorem d_T_copy_12 : decode b_T_copy 12 = .ok (.iload 4, 2) := by decide +kernel
theorem d_T_copy_14 : decode b_T_copy 14 = .ok (.ifCond .le 39, 3) := by decide +kernel
theorem d_T_copy_17 : decode b_T_copy 17 = .ok (.iload_n 2, 1) := by decide +kernel
theorem d_T_copy_18 : decode b_T_copy 18 = .ok (.invokestatic 87, 3) := by decide +kernel
theorem d_T_copy_21 : decode b_T_copy 21 = .ok (.ifCond .eq 28, 3) := by decide +kernel
theorem d_T_copy_24 : decode b_T_copy 24 = .ok (.iload_n 3, 1) := by decide +kernel
theorem d_T_copy_25 : decode b_T_copy 25 = .ok (.invokestatic 87, 3) := by decide +kernel
theorem d_T_copy_28 : decode b_T_copy 28 = .ok (.ifCond .eq 21, 3) := by decide +kernel
theorem d_T_copy_31 : decode b_T_copy 31 = .ok (.iload_n 2, 1) := by decide +kernel
theorem d_T_copy_32 : decode b_T_copy 32 = .ok (.iload 4, 2) := by decide +kernel
theorem d_T_copy_34 : decode b_T_copy 34 = .ok (.iadd, 1) := by decide +kernel
theorem d_T_copy_35 : decode b_T_copy 35 = .ok (.bipush 24, 2) := by decide +kernel
theorem d_T_copy_37 : decode b_T_copy 37 = .ok (.if_icmp .gt 12, 3) := by decide +kernel
theorem d_T_copy_40 : decode b_T_copy 40 = .ok (.iload_n 3, 1) := by decide +kernel
theorem d_T_copy_41 : decode b_T_copy 41 = .ok (.iload 4, 2) := by decide +kernel
theorem d_T_copy_43 : decode b_T_copy 43 = .ok (.iadd, 1) := by decide +kernel
theorem d_T_copy_44 : decode b_T_copy 44 = .ok (.bipush 24, 2) := by decide +kernel
theorem d_T_copy_46 : decode b_T_copy 46 = .ok (.if_icmp .le 7, 3) := by decide +kernel
theorem d_T_copy_49 : decode b_T_copy 49 = .ok (.iconst 1, 1) := by decide +kernel
theorem d_T_copy_50 : decode b_T_copy 50 = .ok (.goto 4, 3) := by decide +kernel
theorem d_T_copy_53 : decode b_T_copy 53 = .ok (.iconst 0, 1) := by decide +kernel
theorem d_T_copy_54 : decode b_T_copy 54 = .ok (.istore 5, 2) := by decide +kernel
theorem d_T_copy_56 : decode b_T_copy 56 = .ok (.aload_n 0, 1) := by decide +kernel
theorem d_T_copy_57 : decode b_T_copy 57 = .ok (.aload_n 0, 1) := by decide +kernel
theorem d_T_copy_58 : decode b_T_copy 58 = .ok (.iload_n 1, 1) := by decide +kernel
theorem d_T_copy_59 : decode b_T_copy 59 = .ok (.invokevirtual 68, 3) := by decide +kernel
theorem d_T_copy_62 : decode b_T_copy 62 = .ok (.ifCond .ne 7, 3) := by decide +kernel
theorem d_T_copy_65 : decode b_T_copy 65 = .ok (.iconst 1, 1) := by decide +kernel
theorem d_T_copy_66 : decode b_T_copy 66 = .ok (.goto 13, 3) := by decide +kernel
theorem d_T_copy_69 : decode b_T_copy 69 = .ok (.iload 5, 2) := by decide +kernel
theorem d_T_copy_71 : decode b_T_copy 71 = .ok (.ifCond .eq 7, 3) := by decide +kernel
theorem d_T_copy_74 : decode b_T_copy 74 = .ok (.iconst 2, 1) := by decide +kernel
theorem d_T_copy_75 : decode b_T_copy 75 = .ok (.goto 4, 3) := by decide +kernel
theorem d_T_copy_78 : decode b_T_copy 78 = .ok (.iconst 0, 1) := by decide +kernel
theorem d_T_copy_79 : decode b_T_copy 79 = .ok (.putfield 33, 3) := by decide +kernel
theorem d_T_copy_82 : decode b_T_copy 82 = .ok (.aload_n 0, 1) := by decide +kernel
theorem d_T_copy_83 : decode b_T_copy 83 = .ok (.getfield 33, 3) := by decide +kernel
theorem d_T_copy_86 : decode b_T_copy 86 = .ok (.ifCond .le 4, 3) := by decide +kernel
theorem d_T_copy_89 : decode b_T_copy 89 = .ok (.return_, 1) := by decide +kernel
theorem d_T_copy_90 : decode b_T_copy 90 = .ok (.aload_n 0, 1) := by decide +kernel
theorem d_T_copy_91 : decode b_T_copy 91 = .ok (.iconst 0, 1) := by decide +kernel
theorem d_T_copy_92 : decode b_T_copy 92 = .ok (.putfield 102, 3) := by decide +kernel
theorem d_T_copy_95 : decode b_T_copy 95 = .ok (.aload_n 0, 1) := by decide +kernel
theorem d_T_copy_96 : decode b_T_copy 96 = .ok (.getfield 102, 3) := by decide +kernel
theorem d_T_copy_99 : decode b_T_copy 99 = .ok (.iload 4, 2) := by decide +kernel
theorem d_T_copy_101 : decode b_T_copy 101 = .ok (.if_icmp .ge 78, 3) := by decide +kernel
theorem d_T_copy_104 : decode b_T_copy 104 = .ok (.aload_n 0, 1) := by decide +kernel
theorem d_T_copy_105 : decode b_T_copy 105 = .ok (.getfield 33, 3) := by decide +kernel
theorem d_T_copy_108 : decode b_T_copy 108 = .ok (.ifCond .ne 71, 3) := by decide +kernel
theorem d_T_copy_111 : decode b_T_copy 111 = .ok (.aload_n 0, 1) := by decide +kernel
theorem d_T_copy_112 : decode b_T_copy 112 = .ok (.iload_n 1, 1) := by decide +kernel
theorem d_T_copy_113 : decode b_T_copy 113 = .ok (.iload_n 2, 1) := by decide +kernel
theorem d_T_copy_114 : decode b_T_copy 114 = .ok (.aload_n 0, 1) := by decide +kernel
theorem d_T_copy_115 : decode b_T_copy 115 = .ok (.getfield 102, 3) := by decide +kernel
theorem d_T_copy_118 : decode b_T_copy 118 = .ok (.iadd, 1) := by decide +kernel
theorem d_T_copy_119 : decode b_T_copy 119 = .ok (.invokevirtual 90, 3) := by decide +kernel
theorem d_T_copy_122 : decode b_T_copy 122 = .ok (.istore 6, 2) := by decide +kernel
theorem d_T_copy_124 : decode b_T_copy 124 = .ok (.aload_n 0, 1) := by decide +kernel
theorem d_T_copy_125 : decode b_T_copy 125 = .ok (.iload_n 1, 1) := by decide +kernel
theorem d_T_copy_126 : decode b_T_copy 126 = .ok (.iload_n 3, 1) := by decide +kernel
theorem d_T_copy_127 : decode b_T_copy 127 = .ok (.aload_n 0, 1) := by decide +kernel
theorem d_T_copy_128 : decode b_T_copy 128 = .ok (.getfield 102, 3) := by decide +kernel
theorem d_T_copy_131 : decode b_T_copy 131 = .ok (.iadd, 1) := by decide +kernel
theorem d_T_copy_132 : decode b_T_copy 132 = .ok (.invokevirtual 79, 3) := by decide +kernel
theorem d_T_copy_135 : decode b_T_copy 135 = .ok (.ifCond .eq 18, 3) := by decide +kernel
theorem d_T_copy_138 : decode b_T_copy 138 = .ok (.aload_n 0, 1) := by decide +kernel
theorem d_T_copy_139 : decode b_T_copy 139 = .ok (.invokevirtual 94, 3) := by decide +kernel
theorem d_T_copy_142 : decode b_T_copy 142 = .ok (.ifCond .ne 11, 3) := by decide +kernel
theorem d_T_copy_145 : decode b_T_copy 145 = .ok (.aload_n 0, 1) := by decide +kernel
theorem d_T_copy_146 : decode b_T_copy 146 = .ok (.iconst 3, 1) := by decide +kernel
theorem d_T_copy_147 : decode b_T_copy 147 = .ok (.putfield 33, 3) := by decide +kernel
theorem d_T_copy_150 : decode b_T_copy 150 = .ok (.goto 26, 3) := by decide +kernel
theorem d_T_copy_153 : decode b_T_copy 153 = .ok (.aload_n 0, 1) := by decide +kernel
theorem d_T_copy_154 : decode b_T_copy 154 = .ok (.iload_n 1, 1) := by decide +kernel
theorem d_T_copy_155 : decode b_T_copy 155 = .ok (.iload_n 3, 1) := by decide +kernel
theorem d_T_copy_156 : decode b_T_copy 156 = .ok (.aload_n 0, 1) := by decide +kernel
theorem d_T_copy_157 : decode b_T_copy 157 = .ok (.getfield 102, 3) := by decide +kernel
theorem d_T_copy_160 : decode b_T_copy 160 = .ok (.iadd, 1) := by decide +kernel
theorem d_T_copy_161 : decode b_T_copy 161 = .ok (.iload 6, 2) := by decide +kernel
theorem d_T_copy_163 : decode b_T_copy 163 = .ok (.invokevirtual 98, 3) := by decide +kernel
theorem d_T_copy_166 : decode b_T_copy 166 = .ok (.aload_n 0, 1) := by decide +kernel
theorem d_T_copy_167 : decode b_T_copy 167 = .ok (.dup, 1) := by decide +kernel
theorem d_T_copy_168 : decode b_T_copy 168 = .ok (.getfield 102, 3) := by decide +kernel
theorem d_T_copy_171 : decode b_T_copy 171 = .ok (.iconst 1, 1) := by decide +kernel
theorem d_T_copy_172 : decode b_T_copy 172 = .ok (.iadd, 1) := by decide +kernel
theorem d_T_copy_173 : decode b_T_copy 173 = .ok (.putfield 102, 3) := by decide +kernel
theorem d_T_copy_176 : decode b_T_copy 176 = .ok (.goto (-81), 3) := by decide +kernel
theorem d_T_copy_179 : decode b_T_copy 179 = .ok (.return_, 1) := by decide +kernel
theorem d_T_sheetOf_0 : decode b_T_sheetOf 0 = .ok (.aload_n 0, 1) := by decide +kernel
theorem d_T_sheetOf_1 : decode b_T_sheetOf 1 = .ok (.iload_n 1, 1) := by decide +kernel
theorem d_T_sheetOf_2 : decode b_T_sheetOf 2 = .ok (.invokevirtual 68, 3) := by decide +kernel
theorem d_T_sheetOf_5 : decode b_T_sheetOf 5 = .ok (.ifCond .eq 27, 3) := by decide +kernel
theorem d_T_sheetOf_8 : decode b_T_sheetOf 8 = .ok (.iload_n 2, 1) := by decide +kernel
theorem d_T_sheetOf_9 : decode b_T_sheetOf 9 = .ok (.ifCond .lt 23, 3) := by decide +kernel
theorem d_T_sheetOf_12 : decode b_T_sheetOf 12 = .ok (.iload_n 2, 1) := by decide +kernel
theorem d_T_sheetOf_13 : decode b_T_sheetOf 13 = .ok (.bipush 6, 2) := by decide +kernel
theorem d_T_sheetOf_15 : decode b_T_sheetOf 15 = .ok (.if_icmp .ge 17, 3) := by decide +kernel
theorem d_T_sheetOf_18 : decode b_T_sheetOf 18 = .ok (.aload_n 0, 1) := by decide +kernel
theorem d_T_sheetOf_19 : decode b_T_sheetOf 19 = .ok (.getfield 23, 3) := by decide +kernel
theorem d_T_sheetOf_22 : decode b_T_sheetOf 22 = .ok (.bipush 6, 2) := by decide +kernel
theorem d_T_sheetOf_24 : decode b_T_sheetOf 24 = .ok (.iload_n 1, 1) := by decide +kernel
theorem d_T_sheetOf_25 : decode b_T_sheetOf 25 = .ok (.imul, 1) := by decide +kernel
theorem d_T_sheetOf_26 : decode b_T_sheetOf 26 = .ok (.iload_n 2, 1) := by decide +kernel
theorem d_T_sheetOf_27 : decode b_T_sheetOf 27 = .ok (.iadd, 1) := by decide +kernel
theorem d_T_sheetOf_28 : decode b_T_sheetOf 28 = .ok (.iaload, 1) := by decide +kernel
theorem d_T_sheetOf_29 : decode b_T_sheetOf 29 = .ok (.goto 4, 3) := by decide +kernel
theorem d_T_sheetOf_32 : decode b_T_sheetOf 32 = .ok (.iconst (-1), 1) := by decide +kernel
theorem d_T_sheetOf_33 : decode b_T_sheetOf 33 = .ok (.ireturn, 1) := by decide +kernel
theorem d_T_copied_0 : decode b_T_copied 0 = .ok (.aload_n 0, 1) := by decide +kernel
theorem d_T_copied_1 : decode b_T_copied 1 = .ok (.iconst 0, 1) := by decide +kernel
theorem d_T_copied_2 : decode b_T_copied 2 = .ok (.putfield 33, 3) := by decide +kernel
theorem d_T_copied_5 : decode b_T_copied 5 = .ok (.aload_n 0, 1) := by decide +kernel
theorem d_T_copied_6 : decode b_T_copied 6 = .ok (.getfield 102, 3) := by decide +kernel
theorem d_T_copied_9 : decode b_T_copied 9 = .ok (.ireturn, 1) := by decide +kernel
theorem d_T_where_0 : decode b_T_where 0 = .ok (.aload_n 0, 1) := by decide +kernel
theorem d_T_where_1 : decode b_T_where 1 = .ok (.iconst 0, 1) := by decide +kernel
theorem d_T_where_2 : decode b_T_where 2 = .ok (.putfield 33, 3) := by decide +kernel
theorem d_T_where_5 : decode b_T_where 5 = .ok (.aload_n 0, 1) := by decide +kernel
theorem d_T_where_6 : decode b_T_where 6 = .ok (.iload_n 1, 1) := by decide +kernel
theorem d_T_where_7 : decode b_T_where 7 = .ok (.iload_n 2, 1) := by decide +kernel
theorem d_T_where_8 : decode b_T_where 8 = .ok (.invokevirtual 105, 3) := by decide +kernel
theorem d_T_where_11 : decode b_T_where 11 = .ok (.istore_n 3, 1) := by decide +kernel
theorem d_T_where_12 : decode b_T_where 12 = .ok (.iload_n 3, 1) := by decide +kernel
theorem d_T_where_13 : decode b_T_where 13 = .ok (.ifCond .ge 7, 3) := by decide +kernel
theorem d_T_where_16 : decode b_T_where 16 = .ok (.iconst (-1), 1) := by decide +kernel
theorem d_T_where_17 : decode b_T_where 17 = .ok (.goto 9, 3) := by decide +kernel
theorem d_T_where_20 : decode b_T_where 20 = .ok (.aload_n 0, 1) := by decide +kernel
theorem d_T_where_21 : decode b_T_where 21 = .ok (.getfield 13, 3) := by decide +kernel
theorem d_T_where_24 : decode b_T_where 24 = .ok (.iload_n 3, 1) := by decide +kernel
theorem d_T_where_25 : decode b_T_where 25 = .ok (.iaload, 1) := by decide +kernel
theorem d_T_where_26 : decode b_T_where 26 = .ok (.ireturn, 1) := by decide +kernel
theorem d_T_sharers_0 : decode b_T_sharers 0 = .ok (.aload_n 0, 1) := by decide +kernel
theorem d_T_sharers_1 : decode b_T_sharers 1 = .ok (.iconst 0, 1) := by decide +kernel
theorem d_T_sharers_2 : decode b_T_sharers 2 = .ok (.putfield 33, 3) := by decide +kernel
theorem d_T_sharers_5 : decode b_T_sharers 5 = .ok (.aload_n 0, 1) := by decide +kernel
theorem d_T_sharers_6 : decode b_T_sharers 6 = .ok (.iload_n 1, 1) := by decide +kernel
theorem d_T_sharers_7 : decode b_T_sharers 7 = .ok (.iload_n 2, 1) := by decide +kernel
theorem d_T_sharers_8 : decode b_T_sharers 8 = .ok (.invokevirtual 105, 3) := by decide +kernel
theorem d_T_sharers_11 : decode b_T_sharers 11 = .ok (.istore_n 3, 1) := by decide +kernel
theorem d_T_sharers_12 : decode b_T_sharers 12 = .ok (.iload_n 3, 1) := by decide +kernel
theorem d_T_sharers_13 : decode b_T_sharers 13 = .ok (.ifCond .ge 7, 3) := by decide +kernel
theorem d_T_sharers_16 : decode b_T_sharers 16 = .ok (.iconst 0, 1) := by decide +kernel
theorem d_T_sharers_17 : decode b_T_sharers 17 = .ok (.goto 8, 3) := by decide +kernel
theorem d_T_sharers_20 : decode b_T_sharers 20 = .ok (.aload_n 0, 1) := by decide +kernel
theorem d_T_sharers_21 : decode b_T_sharers 21 = .ok (.iload_n 3, 1) := by decide +kernel
theorem d_T_sharers_22 : decode b_T_sharers 22 = .ok (.invokevirtual 62, 3) := by decide +kernel
theorem d_T_sharers_25 : decode b_T_sharers 25 = .ok (.ireturn, 1) := by decide +kernel
theorem d_T_isThere_0 : decode b_T_isThere 0 = .ok (.aload_n 0, 1) := by decide +kernel
theorem d_T_isThere_1 : decode b_T_isThere 1 = .ok (.iconst 0, 1) := by decide +kernel
theorem d_T_isThere_2 : decode b_T_isThere 2 = .ok (.putfield 33, 3) := by decide +kernel
theorem d_T_isThere_5 : decode b_T_isThere 5 = .ok (.aload_n 0, 1) := by decide +kernel
theorem d_T_isThere_6 : decode b_T_isThere 6 = .ok (.iload_n 1, 1) := by decide +kernel
theorem d_T_isThere_7 : decode b_T_isThere 7 = .ok (.invokevirtual 68, 3) := by decide +kernel
theorem d_T_isThere_10 : decode b_T_isThere 10 = .ok (.ireturn, 1) := by decide +kernel
theorem d_T_marked_0 : decode b_T_marked 0 = .ok (.aload_n 0, 1) := by decide +kernel
theorem d_T_marked_1 : decode b_T_marked 1 = .ok (.iconst 0, 1) := by decide +kernel
theorem d_T_marked_2 : decode b_T_marked 2 = .ok (.putfield 33, 3) := by decide +kernel
theorem d_T_marked_5 : decode b_T_marked 5 = .ok (.iload_n 1, 1) := by decide +kernel
theorem d_T_marked_6 : decode b_T_marked 6 = .ok (.ifCond .lt 24, 3) := by decide +kernel
theorem d_T_marked_9 : decode b_T_marked 9 = .ok (.iload_n 1, 1) := by decide +kernel
theorem d_T_marked_10 : decode b_T_marked 10 = .ok (.aload_n 0, 1) := by decide +kernel
theorem d_T_marked_11 : decode b_T_marked 11 = .ok (.getfield 26, 3) := by decide +kernel
theorem d_T_marked_14 : decode b_T_marked 14 = .ok (.if_icmp .ge 16, 3) := by decide +kernel
theorem d_T_marked_17 : decode b_T_marked 17 = .ok (.aload_n 0, 1) := by decide +kernel
theorem d_T_marked_18 : decode b_T_marked 18 = .ok (.getfield 7, 3) := by decide +kernel
theorem d_T_marked_21 : decode b_T_marked 21 = .ok (.iload_n 1, 1) := by decide +kernel
theorem d_T_marked_22 : decode b_T_marked 22 = .ok (.baload, 1) := by decide +kernel
theorem d_T_marked_23 : decode b_T_marked 23 = .ok (.ifCond .eq 7, 3) := by decide +kernel
theorem d_T_marked_26 : decode b_T_marked 26 = .ok (.iconst 1, 1) := by decide +kernel
theorem d_T_marked_27 : decode b_T_marked 27 = .ok (.goto 4, 3) := by decide +kernel
theorem d_T_marked_30 : decode b_T_marked 30 = .ok (.iconst 0, 1) := by decide +kernel
theorem d_T_marked_31 : decode b_T_marked 31 = .ok (.ireturn, 1) := by decide +kernel
theorem d_T_hand_0 : decode b_T_hand 0 = .ok (.aload_n 0, 1) := by decide +kernel
theorem d_T_hand_1 : decode b_T_hand 1 = .ok (.iconst 0, 1) := by decide +kernel
theorem d_T_hand_2 : decode b_T_hand 2 = .ok (.putfield 33, 3) := by decide +kernel
theorem d_T_hand_5 : decode b_T_hand 5 = .ok (.aload_n 0, 1) := by decide +kernel
theorem d_T_hand_6 : decode b_T_hand 6 = .ok (.getfield 40, 3) := by decide +kernel
theorem d_T_hand_9 : decode b_T_hand 9 = .ok (.ireturn, 1) := by decide +kernel
theorem d_T_freeFrames_0 : decode b_T_freeFrames 0 = .ok (.aload_n 0, 1) := by decide +kernel
theorem d_T_freeFrames_1 : decode b_T_freeFrames 1 = .ok (.iconst 0, 1) := by decide +kernel
theorem d_T_freeFrames_2 : decode b_T_freeFrames 2 = .ok (.putfield 33, 3) := by decide +kernel
theorem d_T_freeFrames_5 : decode b_T_freeFrames 5 = .ok (.iconst 0, 1) := by decide +kernel
theorem d_T_freeFrames_6 : decode b_T_freeFrames 6 = .ok (.istore_n 1, 1) := by decide +kernel
theorem d_T_freeFrames_7 : decode b_T_freeFrames 7 = .ok (.iconst 0, 1) := by decide +kernel
theorem d_T_freeFrames_8 : decode b_T_freeFrames 8 = .ok (.istore_n 2, 1) := by decide +kernel
theorem d_T_freeFrames_9 : decode b_T_freeFrames 9 = .ok (.iload_n 2, 1) := by decide +kernel
theorem d_T_freeFrames_10 : decode b_T_freeFrames 10 = .ok (.aload_n 0, 1) := by decide +kernel
theorem d_T_freeFrames_11 : decode b_T_freeFrames 11 = .ok (.getfield 26, 3) := by decide +kernel
theorem d_T_freeFrames_14 : decode b_T_freeFrames 14 = .ok (.if_icmp .ge 25, 3) := by decide +kernel
theorem d_T_freeFrames_17 : decode b_T_freeFrames 17 = .ok (.aload_n 0, 1) := by decide +kernel
theorem d_T_freeFrames_18 : decode b_T_freeFrames 18 = .ok (.iload_n 2, 1) := by decide +kernel
theorem d_T_freeFrames_19 : decode b_T_freeFrames 19 = .ok (.invokevirtual 36, 3) := by decide +kernel
theorem d_T_freeFrames_22 : decode b_T_freeFrames 22 = .ok (.ifCond .ge 9, 3) := by decide +kernel
theorem d_T_freeFrames_25 : decode b_T_freeFrames 25 = .ok (.iload_n 1, 1) := by decide +kernel
theorem d_T_freeFrames_26 : decode b_T_freeFrames 26 = .ok (.iconst 1, 1) := by decide +kernel
theorem d_T_freeFrames_27 : decode b_T_freeFrames 27 = .ok (.iadd, 1) := by decide +kernel
theorem d_T_freeFrames_28 : decode b_T_freeFrames 28 = .ok (.goto 4, 3) := by decide +kernel
theorem d_T_freeFrames_31 : decode b_T_freeFrames 31 = .ok (.iload_n 1, 1) := by decide +kernel
theorem d_T_freeFrames_32 : decode b_T_freeFrames 32 = .ok (.istore_n 1, 1) := by decide +kernel
theorem d_T_freeFrames_33 : decode b_T_freeFrames 33 = .ok (.iinc 2 1, 3) := by decide +kernel
theorem d_T_freeFrames_36 : decode b_T_freeFrames 36 = .ok (.goto (-27), 3) := by decide +kernel
theorem d_T_freeFrames_39 : decode b_T_freeFrames 39 = .ok (.iload_n 1, 1) := by decide +kernel
theorem d_T_freeFrames_40 : decode b_T_freeFrames 40 = .ok (.ireturn, 1) := by decide +kernel
theorem d_T_freeSlots_0 : decode b_T_freeSlots 0 = .ok (.aload_n 0, 1) := by decide +kernel
theorem d_T_freeSlots_1 : decode b_T_freeSlots 1 = .ok (.iconst 0, 1) := by decide +kernel
theorem d_T_freeSlots_2 : decode b_T_freeSlots 2 = .ok (.putfield 33, 3) := by decide +kernel
theorem d_T_freeSlots_5 : decode b_T_freeSlots 5 = .ok (.iconst 0, 1) := by decide +kernel
theorem d_T_freeSlots_6 : decode b_T_freeSlots 6 = .ok (.istore_n 1, 1) := by decide +kernel
theorem d_T_freeSlots_7 : decode b_T_freeSlots 7 = .ok (.iconst 0, 1) := by decide +kernel
theorem d_T_freeSlots_8 : decode b_T_freeSlots 8 = .ok (.istore_n 2, 1) := by decide +kernel
theorem d_T_freeSlots_9 : decode b_T_freeSlots 9 = .ok (.iload_n 2, 1) := by decide +kernel
theorem d_T_freeSlots_10 : decode b_T_freeSlots 10 = .ok (.aload_n 0, 1) := by decide +kernel
theorem d_T_freeSlots_11 : decode b_T_freeSlots 11 = .ok (.getfield 30, 3) := by decide +kernel
theorem d_T_freeSlots_14 : decode b_T_freeSlots 14 = .ok (.if_icmp .ge 28, 3) := by decide +kernel
theorem d_T_freeSlots_17 : decode b_T_freeSlots 17 = .ok (.aload_n 0, 1) := by decide +kernel
theorem d_T_freeSlots_18 : decode b_T_freeSlots 18 = .ok (.bipush 100, 2) := by decide +kernel
theorem d_T_freeSlots_20 : decode b_T_freeSlots 20 = .ok (.iload_n 2, 1) := by decide +kernel
theorem d_T_freeSlots_21 : decode b_T_freeSlots 21 = .ok (.iadd, 1) := by decide +kernel
theorem d_T_freeSlots_22 : decode b_T_freeSlots 22 = .ok (.invokevirtual 36, 3) := by decide +kernel
theorem d_T_freeSlots_25 : decode b_T_freeSlots 25 = .ok (.ifCond .ge 9, 3) := by decide +kernel
theorem d_T_freeSlots_28 : decode b_T_freeSlots 28 = .ok (.iload_n 1, 1) := by decide +kernel
theorem d_T_freeSlots_29 : decode b_T_freeSlots 29 = .ok (.iconst 1, 1) := by decide +kernel
theorem d_T_freeSlots_30 : decode b_T_freeSlots 30 = .ok (.iadd, 1) := by decide +kernel
theorem d_T_freeSlots_31 : decode b_T_freeSlots 31 = .ok (.goto 4, 3) := by decide +kernel
theorem d_T_freeSlots_34 : decode b_T_freeSlots 34 = .ok (.iload_n 1, 1) := by decide +kernel
theorem d_T_freeSlots_35 : decode b_T_freeSlots 35 = .ok (.istore_n 1, 1) := by decide +kernel
theorem d_T_freeSlots_36 : decode b_T_freeSlots 36 = .ok (.iinc 2 1, 3) := by decide +kernel
theorem d_T_freeSlots_39 : decode b_T_freeSlots 39 = .ok (.goto (-30), 3) := by decide +kernel
theorem d_T_freeSlots_42 : decode b_T_freeSlots 42 = .ok (.iload_n 1, 1) := by decide +kernel
theorem d_T_freeSlots_43 : decode b_T_freeSlots 43 = .ok (.ireturn, 1) := by decide +kernel
theorem d_T_faults_0 : decode b_T_faults 0 = .ok (.aload_n 0, 1) := by decide +kernel
theorem d_T_faults_1 : decode b_T_faults 1 = .ok (.iconst 0, 1) := by decide +kernel
theorem d_T_faults_2 : decode b_T_faults 2 = .ok (.putfield 33, 3) := by decide +kernel
theorem d_T_faults_5 : decode b_T_faults 5 = .ok (.aload_n 0, 1) := by decide +kernel
theorem d_T_faults_6 : decode b_T_faults 6 = .ok (.getfield 59, 3) := by decide +kernel
theorem d_T_faults_9 : decode b_T_faults 9 = .ok (.ireturn, 1) := by decide +kernel
theorem d_T_evicted_0 : decode b_T_evicted 0 = .ok (.aload_n 0, 1) := by decide +kernel
theorem d_T_evicted_1 : decode b_T_evicted 1 = .ok (.iconst 0, 1) := by decide +kernel
theorem d_T_evicted_2 : decode b_T_evicted 2 = .ok (.putfield 33, 3) := by decide +kernel
theorem d_T_evicted_5 : decode b_T_evicted 5 = .ok (.aload_n 0, 1) := by decide +kernel
theorem d_T_evicted_6 : decode b_T_evicted 6 = .ok (.getfield 53, 3) := by decide +kernel
theorem d_T_evicted_9 : decode b_T_evicted 9 = .ok (.ireturn, 1) := by decide +kernel
end
section
/-! what stands at each place of the code, by program -/
theorem d_X_init_0 : decode b_X_init 0 = .ok (.aload_n 0, 1) := by decide +kernel
theorem d_X_init_1 : decode b_X_init 1 = .ok (.invokespecial 3, 3) := by decide +kernel
theorem d_X_init_4 : decode b_X_init 4 = .ok (.aload_n 0, 1) := by decide +kernel
theorem d_X_init_5 : decode b_X_init 5 = .ok (.bipush 6, 2) := by decide +kernel
theorem d_X_init_7 : decode b_X_init 7 = .ok (.newarray .boolean, 2) := by decide +kernel
theorem d_X_init_9 : decode b_X_init 9 = .ok (.putfield 9, 3) := by decide +kernel
theorem d_X_init_12 : decode b_X_init 12 = .ok (.aload_n 0, 1) := by decide +kernel
theorem d_X_init_13 : decode b_X_init 13 = .ok (.bipush 6, 2) := by decide +kernel
theorem d_X_init_15 : decode b_X_init 15 = .ok (.bipush 6, 2) := by decide +kernel
theorem d_X_init_17 : decode b_X_init 17 = .ok (.multianewarray 13 2, 4) := by decide +kernel
theorem d_X_init_21 : decode b_X_init 21 = .ok (.putfield 15, 3) := by decide +kernel
theorem d_X_init_24 : decode b_X_init 24 = .ok (.aload_n 0, 1) := by decide +kernel
theorem d_X_init_25 : decode b_X_init 25 = .ok (.new 18, 3) := by decide +kernel
theorem d_X_init_28 : decode b_X_init 28 = .ok (.dup, 1) := by decide +kernel
theorem d_X_init_29 : decode b_X_init 29 = .ok (.iload_n 1, 1) := by decide +kernel
theorem d_X_init_30 : decode b_X_init 30 = .ok (.iconst 2, 1) := by decide +kernel
theorem d_X_init_31 : decode b_X_init 31 = .ok (.invokestatic 20, 3) := by decide +kernel
theorem d_X_init_34 : decode b_X_init 34 = .ok (.bipush 8, 2) := by decide +kernel
theorem d_X_init_36 : decode b_X_init 36 = .ok (.invokestatic 26, 3) := by decide +kernel
theorem d_X_init_39 : decode b_X_init 39 = .ok (.iload_n 2, 1) := by decide +kernel
theorem d_X_init_40 : decode b_X_init 40 = .ok (.iconst 0, 1) := by decide +kernel
theorem d_X_init_41 : decode b_X_init 41 = .ok (.invokestatic 20, 3) := by decide +kernel
theorem d_X_init_44 : decode b_X_init 44 = .ok (.bipush 10, 2) := by decide +kernel
theorem d_X_init_46 : decode b_X_init 46 = .ok (.invokestatic 26, 3) := by decide +kernel
theorem d_X_init_49 : decode b_X_init 49 = .ok (.invokespecial 29, 3) := by decide +kernel
theorem d_X_init_52 : decode b_X_init 52 = .ok (.putfield 32, 3) := by decide +kernel
theorem d_X_init_55 : decode b_X_init 55 = .ok (.iconst 0, 1) := by decide +kernel
theorem d_X_init_56 : decode b_X_init 56 = .ok (.istore_n 3, 1) := by decide +kernel
theorem d_X_init_57 : decode b_X_init 57 = .ok (.iload_n 3, 1) := by decide +kernel
theorem d_X_init_58 : decode b_X_init 58 = .ok (.bipush 6, 2) := by decide +kernel
theorem d_X_init_60 : decode b_X_init 60 = .ok (.if_icmp .ge 19, 3) := by decide +kernel
theorem d_X_init_63 : decode b_X_init 63 = .ok (.aload_n 0, 1) := by decide +kernel
theorem d_X_init_64 : decode b_X_init 64 = .ok (.getfield 15, 3) := by decide +kernel
theorem d_X_init_67 : decode b_X_init 67 = .ok (.iload_n 3, 1) := by decide +kernel
theorem d_X_init_68 : decode b_X_init 68 = .ok (.aaload, 1) := by decide +kernel
theorem d_X_init_69 : decode b_X_init 69 = .ok (.iconst (-1), 1) := by decide +kernel
theorem d_X_init_70 : decode b_X_init 70 = .ok (.invokestatic 36, 3) := by decide +kernel
theorem d_X_init_73 : decode b_X_init 73 = .ok (.iinc 3 1, 3) := by decide +kernel
theorem d_X_init_76 : decode b_X_init 76 = .ok (.goto (-19), 3) := by decide +kernel
theorem d_X_init_79 : decode b_X_init 79 = .ok (.return_, 1) := by decide +kernel
theorem d_X_spawn_0 : decode b_X_spawn 0 = .ok (.aload_n 0, 1) := by decide +kernel
theorem d_X_spawn_1 : decode b_X_spawn 1 = .ok (.invokevirtual 42, 3) := by decide +kernel
theorem d_X_spawn_4 : decode b_X_spawn 4 = .ok (.istore_n 1, 1) := by decide +kernel
theorem d_X_spawn_5 : decode b_X_spawn 5 = .ok (.iload_n 1, 1) := by decide +kernel
theorem d_X_spawn_6 : decode b_X_spawn 6 = .ok (.iconst (-1), 1) := by decide +kernel
theorem d_X_spawn_7 : decode b_X_spawn 7 = .ok (.if_icmp .ne 13, 3) := by decide +kernel
theorem d_X_spawn_10 : decode b_X_spawn 10 = .ok (.new 46, 3) := by decide +kernel
theorem d_X_spawn_13 : decode b_X_spawn 13 = .ok (.dup, 1) := by decide +kernel
theorem d_X_spawn_14 : decode b_X_spawn 14 = .ok (.ldc 48, 2) := by decide +kernel
theorem d_X_spawn_16 : decode b_X_spawn 16 = .ok (.invokespecial 50, 3) := by decide +kernel
theorem d_X_spawn_19 : decode b_X_spawn 19 = .ok (.athrow, 1) := by decide +kernel
theorem d_X_spawn_20 : decode b_X_spawn 20 = .ok (.aload_n 0, 1) := by decide +kernel
theorem d_X_spawn_21 : decode b_X_spawn 21 = .ok (.getfield 9, 3) := by decide +kernel
theorem d_X_spawn_24 : decode b_X_spawn 24 = .ok (.iload_n 1, 1) := by decide +kernel
theorem d_X_spawn_25 : decode b_X_spawn 25 = .ok (.iconst 1, 1) := by decide +kernel
theorem d_X_spawn_26 : decode b_X_spawn 26 = .ok (.bastore, 1) := by decide +kernel
theorem d_X_spawn_27 : decode b_X_spawn 27 = .ok (.iload_n 1, 1) := by decide +kernel
theorem d_X_spawn_28 : decode b_X_spawn 28 = .ok (.ireturn, 1) := by decide +kernel
theorem d_X_fork_0 : decode b_X_fork 0 = .ok (.aload_n 0, 1) := by decide +kernel
theorem d_X_fork_1 : decode b_X_fork 1 = .ok (.iload_n 1, 1) := by decide +kernel
theorem d_X_fork_2 : decode b_X_fork 2 = .ok (.invokevirtual 53, 3) := by decide +kernel
theorem d_X_fork_5 : decode b_X_fork 5 = .ok (.aload_n 0, 1) := by decide +kernel
theorem d_X_fork_6 : decode b_X_fork 6 = .ok (.invokevirtual 42, 3) := by decide +kernel
theorem d_X_fork_9 : decode b_X_fork 9 = .ok (.istore_n 2, 1) := by decide +kernel
theorem d_X_fork_10 : decode b_X_fork 10 = .ok (.iload_n 2, 1) := by decide +kernel
theorem d_X_fork_11 : decode b_X_fork 11 = .ok (.iconst (-1), 1) := by decide +kernel
theorem d_X_fork_12 : decode b_X_fork 12 = .ok (.if_icmp .ne 13, 3) := by decide +kernel
theorem d_X_fork_15 : decode b_X_fork 15 = .ok (.new 46, 3) := by decide +kernel
theorem d_X_fork_18 : decode b_X_fork 18 = .ok (.dup, 1) := by decide +kernel
theorem d_X_fork_19 : decode b_X_fork 19 = .ok (.ldc 48, 2) := by decide +kernel
theorem d_X_fork_21 : decode b_X_fork 21 = .ok (.invokespecial 50, 3) := by decide +kernel
theorem d_X_fork_24 : decode b_X_fork 24 = .ok (.athrow, 1) := by decide +kernel
theorem d_X_fork_25 : decode b_X_fork 25 = .ok (.aload_n 0, 1) := by decide +kernel
theorem d_X_fork_26 : decode b_X_fork 26 = .ok (.getfield 9, 3) := by decide +kernel
theorem d_X_fork_29 : decode b_X_fork 29 = .ok (.iload_n 2, 1) := by decide +kernel
theorem d_X_fork_30 : decode b_X_fork 30 = .ok (.iconst 1, 1) := by decide +kernel
theorem d_X_fork_31 : decode b_X_fork 31 = .ok (.bastore, 1) := by decide +kernel
theorem d_X_fork_32 : decode b_X_fork 32 = .ok (.iconst 0, 1) := by decide +kernel
theorem d_X_fork_33 : decode b_X_fork 33 = .ok (.istore_n 3, 1) := by decide +kernel
theorem d_X_fork_34 : decode b_X_fork 34 = .ok (.iload_n 3, 1) := by decide +kernel
theorem d_X_fork_35 : decode b_X_fork 35 = .ok (.bipush 6, 2) := by decide +kernel
theorem d_X_fork_37 : decode b_X_fork 37 = .ok (.if_icmp .ge 44, 3) := by decide +kernel
theorem d_X_fork_40 : decode b_X_fork 40 = .ok (.aload_n 0, 1) := by decide +kernel
theorem d_X_fork_41 : decode b_X_fork 41 = .ok (.getfield 15, 3) := by decide +kernel
theorem d_X_fork_44 : decode b_X_fork 44 = .ok (.iload_n 1, 1) := by decide +kernel
theorem d_X_fork_45 : decode b_X_fork 45 = .ok (.aaload, 1) := by decide +kernel
theorem d_X_fork_46 : decode b_X_fork 46 = .ok (.iload_n 3, 1) := by decide +kernel
theorem d_X_fork_47 : decode b_X_fork 47 = .ok (.iaload, 1) := by decide +kernel
theorem d_X_fork_48 : decode b_X_fork 48 = .ok (.istore 4, 2) := by decide +kernel
theorem d_X_fork_50 : decode b_X_fork 50 = .ok (.aload_n 0, 1) := by decide +kernel
theorem d_X_fork_51 : decode b_X_fork 51 = .ok (.getfield 15, 3) := by decide +kernel
theorem d_X_fork_54 : decode b_X_fork 54 = .ok (.iload_n 2, 1) := by decide +kernel
theorem d_X_fork_55 : decode b_X_fork 55 = .ok (.aaload, 1) := by decide +kernel
theorem d_X_fork_56 : decode b_X_fork 56 = .ok (.iload_n 3, 1) := by decide +kernel
theorem d_X_fork_57 : decode b_X_fork 57 = .ok (.iload 4, 2) := by decide +kernel
theorem d_X_fork_59 : decode b_X_fork 59 = .ok (.iastore, 1) := by decide +kernel
theorem d_X_fork_60 : decode b_X_fork 60 = .ok (.iload 4, 2) := by decide +kernel
theorem d_X_fork_62 : decode b_X_fork 62 = .ok (.iconst (-1), 1) := by decide +kernel
theorem d_X_fork_63 : decode b_X_fork 63 = .ok (.if_icmp .eq 12, 3) := by decide +kernel
theorem d_X_fork_66 : decode b_X_fork 66 = .ok (.aload_n 0, 1) := by decide +kernel
theorem d_X_fork_67 : decode b_X_fork 67 = .ok (.getfield 32, 3) := by decide +kernel
theorem d_X_fork_70 : decode b_X_fork 70 = .ok (.iload 4, 2) := by decide +kernel
theorem d_X_fork_72 : decode b_X_fork 72 = .ok (.invokevirtual 57, 3) := by decide +kernel
theorem d_X_fork_75 : decode b_X_fork 75 = .ok (.iinc 3 1, 3) := by decide +kernel
theorem d_X_fork_78 : decode b_X_fork 78 = .ok (.goto (-44), 3) := by decide +kernel
theorem d_X_fork_81 : decode b_X_fork 81 = .ok (.iload_n 2, 1) := by decide +kernel
theorem d_X_fork_82 : decode b_X_fork 82 = .ok (.ireturn, 1) := by decide +kernel
theorem d_X_exit_0 : decode b_X_exit 0 = .ok (.aload_n 0, 1) := by decide +kernel
theorem d_X_exit_1 : decode b_X_exit 1 = .ok (.iload_n 1, 1) := by decide +kernel
theorem d_X_exit_2 : decode b_X_exit 2 = .ok (.invokevirtual 53, 3) := by decide +kernel
theorem d_X_exit_5 : decode b_X_exit 5 = .ok (.iconst 0, 1) := by decide +kernel
theorem d_X_exit_6 : decode b_X_exit 6 = .ok (.istore_n 2, 1) := by decide +kernel
theorem d_X_exit_7 : decode b_X_exit 7 = .ok (.iconst 0, 1) := by decide +kernel
theorem d_X_exit_8 : decode b_X_exit 8 = .ok (.istore_n 3, 1) := by decide +kernel
theorem d_X_exit_9 : decode b_X_exit 9 = .ok (.iload_n 3, 1) := by decide +kernel
theorem d_X_exit_10 : decode b_X_exit 10 = .ok (.bipush 6, 2) := by decide +kernel
theorem d_X_exit_12 : decode b_X_exit 12 = .ok (.if_icmp .ge 21, 3) := by decide +kernel
theorem d_X_exit_15 : decode b_X_exit 15 = .ok (.aload_n 0, 1) := by decide +kernel
theorem d_X_exit_16 : decode b_X_exit 16 = .ok (.iload_n 1, 1) := by decide +kernel
theorem d_X_exit_17 : decode b_X_exit 17 = .ok (.iload_n 3, 1) := by decide +kernel
theorem d_X_exit_18 : decode b_X_exit 18 = .ok (.invokevirtual 60, 3) := by decide +kernel
theorem d_X_exit_21 : decode b_X_exit 21 = .ok (.ifCond .eq 6, 3) := by decide +kernel
theorem d_X_exit_24 : decode b_X_exit 24 = .ok (.iinc 2 1, 3) := by decide +kernel
theorem d_X_exit_27 : decode b_X_exit 27 = .ok (.iinc 3 1, 3) := by decide +kernel
theorem d_X_exit_30 : decode b_X_exit 30 = .ok (.goto (-21), 3) := by decide +kernel
theorem d_X_exit_33 : decode b_X_exit 33 = .ok (.aload_n 0, 1) := by decide +kernel
theorem d_X_exit_34 : decode b_X_exit 34 = .ok (.getfield 9, 3) := by decide +kernel
theorem d_X_exit_37 : decode b_X_exit 37 = .ok (.iload_n 1, 1) := by decide +kernel
theorem d_X_exit_38 : decode b_X_exit 38 = .ok (.iconst 0, 1) := by decide +kernel
theorem d_X_exit_39 : decode b_X_exit 39 = .ok (.bastore, 1) := by decide +kernel
theorem d_X_exit_40 : decode b_X_exit 40 = .ok (.iload_n 2, 1) := by decide +kernel
theorem d_X_exit_41 : decode b_X_exit 41 = .ok (.ireturn, 1) := by decide +kernel
theorem d_X_drop_0 : decode b_X_drop 0 = .ok (.aload_n 0, 1) := by decide +kernel
theorem d_X_drop_1 : decode b_X_drop 1 = .ok (.iload_n 1, 1) := by decide +kernel
theorem d_X_drop_2 : decode b_X_drop 2 = .ok (.invokevirtual 53, 3) := by decide +kernel
theorem d_X_drop_5 : decode b_X_drop 5 = .ok (.iload_n 2, 1) := by decide +kernel
theorem d_X_drop_6 : decode b_X_drop 6 = .ok (.ifCond .lt 9, 3) := by decide +kernel
theorem d_X_drop_9 : decode b_X_drop 9 = .ok (.iload_n 2, 1) := by decide +kernel
theorem d_X_drop_10 : decode b_X_drop 10 = .ok (.bipush 6, 2) := by decide +kernel
theorem d_X_drop_12 : decode b_X_drop 12 = .ok (.if_icmp .lt 13, 3) := by decide +kernel
theorem d_X_drop_15 : decode b_X_drop 15 = .ok (.new 64, 3) := by decide +kernel
theorem d_X_drop_18 : decode b_X_drop 18 = .ok (.dup, 1) := by decide +kernel
theorem d_X_drop_19 : decode b_X_drop 19 = .ok (.ldc 66, 2) := by decide +kernel
theorem d_X_drop_21 : decode b_X_drop 21 = .ok (.invokespecial 68, 3) := by decide +kernel
theorem d_X_drop_24 : decode b_X_drop 24 = .ok (.athrow, 1) := by decide +kernel
theorem d_X_drop_25 : decode b_X_drop 25 = .ok (.aload_n 0, 1) := by decide +kernel
theorem d_X_drop_26 : decode b_X_drop 26 = .ok (.iload_n 1, 1) := by decide +kernel
theorem d_X_drop_27 : decode b_X_drop 27 = .ok (.iload_n 2, 1) := by decide +kernel
theorem d_X_drop_28 : decode b_X_drop 28 = .ok (.invokevirtual 60, 3) := by decide +kernel
theorem d_X_drop_31 : decode b_X_drop 31 = .ok (.ireturn, 1) := by decide +kernel
theorem d_X_load_0 : decode b_X_load 0 = .ok (.aload_n 0, 1) := by decide +kernel
theorem d_X_load_1 : decode b_X_load 1 = .ok (.iload_n 1, 1) := by decide +kernel
theorem d_X_load_2 : decode b_X_load 2 = .ok (.invokevirtual 53, 3) := by decide +kernel
theorem d_X_load_5 : decode b_X_load 5 = .ok (.iload_n 2, 1) := by decide +kernel
theorem d_X_load_6 : decode b_X_load 6 = .ok (.invokestatic 69, 3) := by decide +kernel
theorem d_X_load_9 : decode b_X_load 9 = .ok (.aload_n 0, 1) := by decide +kernel
theorem d_X_load_10 : decode b_X_load 10 = .ok (.iload_n 1, 1) := by decide +kernel
theorem d_X_load_11 : decode b_X_load 11 = .ok (.iload_n 2, 1) := by decide +kernel
theorem d_X_load_12 : decode b_X_load 12 = .ok (.invokevirtual 72, 3) := by decide +kernel
theorem d_X_load_15 : decode b_X_load 15 = .ok (.ireturn, 1) := by decide +kernel
theorem d_X_store_0 : decode b_X_store 0 = .ok (.aload_n 0, 1) := by decide +kernel
theorem d_X_store_1 : decode b_X_store 1 = .ok (.iload_n 1, 1) := by decide +kernel
theorem d_X_store_2 : decode b_X_store 2 = .ok (.invokevirtual 53, 3) := by decide +kernel
theorem d_X_store_5 : decode b_X_store 5 = .ok (.iload_n 2, 1) := by decide +kernel
theorem d_X_store_6 : decode b_X_store 6 = .ok (.invokestatic 69, 3) := by decide +kernel
theorem d_X_store_9 : decode b_X_store 9 = .ok (.aload_n 0, 1) := by decide +kernel
theorem d_X_store_10 : decode b_X_store 10 = .ok (.iload_n 1, 1) := by decide +kernel
theorem d_X_store_11 : decode b_X_store 11 = .ok (.iload_n 2, 1) := by decide +kernel
theorem d_X_store_12 : decode b_X_store 12 = .ok (.iload_n 3, 1) := by decide +kernel
theorem d_X_store_13 : decode b_X_store 13 = .ok (.invokevirtual 75, 3) := by decide +kernel
theorem d_X_store_16 : decode b_X_store 16 = .ok (.return_, 1) := by decide +kernel
theorem d_X_copy_0 : decode b_X_copy 0 = .ok (.aload_n 0, 1) := by decide +kernel
theorem d_X_copy_1 : decode b_X_copy 1 = .ok (.iload_n 1, 1) := by decide +kernel
theorem d_X_copy_2 : decode b_X_copy 2 = .ok (.invokevirtual 53, 3) := by decide +kernel
theorem d_X_copy_5 : decode b_X_copy 5 = .ok (.iload_n 2, 1) := by decide +kernel
theorem d_X_copy_6 : decode b_X_copy 6 = .ok (.iload 4, 2) := by decide +kernel
theorem d_X_copy_8 : decode b_X_copy 8 = .ok (.invokestatic 79, 3) := by decide +kernel
theorem d_X_copy_11 : decode b_X_copy 11 = .ok (.iload_n 3, 1) := by decide +kernel
theorem d_X_copy_12 : decode b_X_copy 12 = .ok (.iload 4, 2) := by decide +kernel
theorem d_X_copy_14 : decode b_X_copy 14 = .ok (.invokestatic 79, 3) := by decide +kernel
theorem d_X_copy_17 : decode b_X_copy 17 = .ok (.aload_n 0, 1) := by decide +kernel
theorem d_X_copy_18 : decode b_X_copy 18 = .ok (.iconst 0, 1) := by decide +kernel
theorem d_X_copy_19 : decode b_X_copy 19 = .ok (.putfield 82, 3) := by decide +kernel
theorem d_X_copy_22 : decode b_X_copy 22 = .ok (.iconst 0, 1) := by decide +kernel
theorem d_X_copy_23 : decode b_X_copy 23 = .ok (.istore 5, 2) := by decide +kernel
theorem d_X_copy_25 : decode b_X_copy 25 = .ok (.iload 5, 2) := by decide +kernel
theorem d_X_copy_27 : decode b_X_copy 27 = .ok (.iload 4, 2) := by decide +kernel
theorem d_X_copy_29 : decode b_X_copy 29 = .ok (.if_icmp .ge 37, 3) := by decide +kernel
theorem d_X_copy_32 : decode b_X_copy 32 = .ok (.aload_n 0, 1) := by decide +kernel
theorem d_X_copy_33 : decode b_X_copy 33 = .ok (.iload_n 1, 1) := by decide +kernel
theorem d_X_copy_34 : decode b_X_copy 34 = .ok (.iload_n 3, 1) := by decide +kernel
theorem d_X_copy_35 : decode b_X_copy 35 = .ok (.iload 5, 2) := by decide +kernel
theorem d_X_copy_37 : decode b_X_copy 37 = .ok (.iadd, 1) := by decide +kernel
theorem d_X_copy_38 : decode b_X_copy 38 = .ok (.aload_n 0, 1) := by decide +kernel
theorem d_X_copy_39 : decode b_X_copy 39 = .ok (.iload_n 1, 1) := by decide +kernel
theorem d_X_copy_40 : decode b_X_copy 40 = .ok (.iload_n 2, 1) := by decide +kernel
theorem d_X_copy_41 : decode b_X_copy 41 = .ok (.iload 5, 2) := by decide +kernel
theorem d_X_copy_43 : decode b_X_copy 43 = .ok (.iadd, 1) := by decide +kernel
theorem d_X_copy_44 : decode b_X_copy 44 = .ok (.invokevirtual 72, 3) := by decide +kernel
theorem d_X_copy_47 : decode b_X_copy 47 = .ok (.invokevirtual 75, 3) := by decide +kernel
theorem d_X_copy_50 : decode b_X_copy 50 = .ok (.aload_n 0, 1) := by decide +kernel
theorem d_X_copy_51 : decode b_X_copy 51 = .ok (.dup, 1) := by decide +kernel
theorem d_X_copy_52 : decode b_X_copy 52 = .ok (.getfield 82, 3) := by decide +kernel
theorem d_X_copy_55 : decode b_X_copy 55 = .ok (.iconst 1, 1) := by decide +kernel
theorem d_X_copy_56 : decode b_X_copy 56 = .ok (.iadd, 1) := by decide +kernel
theorem d_X_copy_57 : decode b_X_copy 57 = .ok (.putfield 82, 3) := by decide +kernel
theorem d_X_copy_60 : decode b_X_copy 60 = .ok (.iinc 5 1, 3) := by decide +kernel
theorem d_X_copy_63 : decode b_X_copy 63 = .ok (.goto (-38), 3) := by decide +kernel
theorem d_X_copy_66 : decode b_X_copy 66 = .ok (.return_, 1) := by decide +kernel
theorem d_X_copied_0 : decode b_X_copied 0 = .ok (.aload_n 0, 1) := by decide +kernel
theorem d_X_copied_1 : decode b_X_copied 1 = .ok (.getfield 82, 3) := by decide +kernel
theorem d_X_copied_4 : decode b_X_copied 4 = .ok (.ireturn, 1) := by decide +kernel
theorem d_X_where_0 : decode b_X_where 0 = .ok (.aload_n 0, 1) := by decide +kernel
theorem d_X_where_1 : decode b_X_where 1 = .ok (.iload_n 1, 1) := by decide +kernel
theorem d_X_where_2 : decode b_X_where 2 = .ok (.iload_n 2, 1) := by decide +kernel
theorem d_X_where_3 : decode b_X_where 3 = .ok (.invokevirtual 86, 3) := by decide +kernel
theorem d_X_where_6 : decode b_X_where 6 = .ok (.istore_n 3, 1) := by decide +kernel
theorem d_X_where_7 : decode b_X_where 7 = .ok (.iload_n 3, 1) := by decide +kernel
theorem d_X_where_8 : decode b_X_where 8 = .ok (.iconst (-1), 1) := by decide +kernel
theorem d_X_where_9 : decode b_X_where 9 = .ok (.if_icmp .ne 7, 3) := by decide +kernel
theorem d_X_where_12 : decode b_X_where 12 = .ok (.iconst (-1), 1) := by decide +kernel
theorem d_X_where_13 : decode b_X_where 13 = .ok (.goto 11, 3) := by decide +kernel
theorem d_X_where_16 : decode b_X_where 16 = .ok (.aload_n 0, 1) := by decide +kernel
theorem d_X_where_17 : decode b_X_where 17 = .ok (.getfield 32, 3) := by decide +kernel
theorem d_X_where_20 : decode b_X_where 20 = .ok (.iload_n 3, 1) := by decide +kernel
theorem d_X_where_21 : decode b_X_where 21 = .ok (.invokevirtual 89, 3) := by decide +kernel
theorem d_X_where_24 : decode b_X_where 24 = .ok (.ireturn, 1) := by decide +kernel
theorem d_X_sharers_0 : decode b_X_sharers 0 = .ok (.aload_n 0, 1) := by decide +kernel
theorem d_X_sharers_1 : decode b_X_sharers 1 = .ok (.iload_n 1, 1) := by decide +kernel
theorem d_X_sharers_2 : decode b_X_sharers 2 = .ok (.iload_n 2, 1) := by decide +kernel
theorem d_X_sharers_3 : decode b_X_sharers 3 = .ok (.invokevirtual 86, 3) := by decide +kernel
theorem d_X_sharers_6 : decode b_X_sharers 6 = .ok (.istore_n 3, 1) := by decide +kernel
theorem d_X_sharers_7 : decode b_X_sharers 7 = .ok (.iload_n 3, 1) := by decide +kernel
theorem d_X_sharers_8 : decode b_X_sharers 8 = .ok (.iconst (-1), 1) := by decide +kernel
theorem d_X_sharers_9 : decode b_X_sharers 9 = .ok (.if_icmp .ne 7, 3) := by decide +kernel
theorem d_X_sharers_12 : decode b_X_sharers 12 = .ok (.iconst 0, 1) := by decide +kernel
theorem d_X_sharers_13 : decode b_X_sharers 13 = .ok (.goto 11, 3) := by decide +kernel
theorem d_X_sharers_16 : decode b_X_sharers 16 = .ok (.aload_n 0, 1) := by decide +kernel
theorem d_X_sharers_17 : decode b_X_sharers 17 = .ok (.getfield 32, 3) := by decide +kernel
theorem d_X_sharers_20 : decode b_X_sharers 20 = .ok (.iload_n 3, 1) := by decide +kernel
theorem d_X_sharers_21 : decode b_X_sharers 21 = .ok (.invokevirtual 93, 3) := by decide +kernel
theorem d_X_sharers_24 : decode b_X_sharers 24 = .ok (.ireturn, 1) := by decide +kernel
theorem d_X_isThere_0 : decode b_X_isThere 0 = .ok (.iload_n 1, 1) := by decide +kernel
theorem d_X_isThere_1 : decode b_X_isThere 1 = .ok (.ifCond .lt 22, 3) := by decide +kernel
theorem d_X_isThere_4 : decode b_X_isThere 4 = .ok (.iload_n 1, 1) := by decide +kernel
theorem d_X_isThere_5 : decode b_X_isThere 5 = .ok (.bipush 6, 2) := by decide +kernel
theorem d_X_isThere_7 : decode b_X_isThere 7 = .ok (.if_icmp .ge 16, 3) := by decide +kernel
theorem d_X_isThere_10 : decode b_X_isThere 10 = .ok (.aload_n 0, 1) := by decide +kernel
theorem d_X_isThere_11 : decode b_X_isThere 11 = .ok (.getfield 9, 3) := by decide +kernel
theorem d_X_isThere_14 : decode b_X_isThere 14 = .ok (.iload_n 1, 1) := by decide +kernel
theorem d_X_isThere_15 : decode b_X_isThere 15 = .ok (.baload, 1) := by decide +kernel
theorem d_X_isThere_16 : decode b_X_isThere 16 = .ok (.ifCond .eq 7, 3) := by decide +kernel
theorem d_X_isThere_19 : decode b_X_isThere 19 = .ok (.iconst 1, 1) := by decide +kernel
theorem d_X_isThere_20 : decode b_X_isThere 20 = .ok (.goto 4, 3) := by decide +kernel
theorem d_X_isThere_23 : decode b_X_isThere 23 = .ok (.iconst 0, 1) := by decide +kernel
theorem d_X_isThere_24 : decode b_X_isThere 24 = .ok (.ireturn, 1) := by decide +kernel
theorem d_X_marked_0 : decode b_X_marked 0 = .ok (.aload_n 0, 1) := by decide +kernel
theorem d_X_marked_1 : decode b_X_marked 1 = .ok (.getfield 32, 3) := by decide +kernel
theorem d_X_marked_4 : decode b_X_marked 4 = .ok (.iload_n 1, 1) := by decide +kernel
theorem d_X_marked_5 : decode b_X_marked 5 = .ok (.invokevirtual 96, 3) := by decide +kernel
theorem d_X_marked_8 : decode b_X_marked 8 = .ok (.ireturn, 1) := by decide +kernel
theorem d_X_hand_0 : decode b_X_hand 0 = .ok (.aload_n 0, 1) := by decide +kernel
theorem d_X_hand_1 : decode b_X_hand 1 = .ok (.getfield 32, 3) := by decide +kernel
theorem d_X_hand_4 : decode b_X_hand 4 = .ok (.getfield 100, 3) := by decide +kernel
theorem d_X_hand_7 : decode b_X_hand 7 = .ok (.ireturn, 1) := by decide +kernel
theorem d_X_freeFrames_0 : decode b_X_freeFrames 0 = .ok (.aload_n 0, 1) := by decide +kernel
theorem d_X_freeFrames_1 : decode b_X_freeFrames 1 = .ok (.getfield 32, 3) := by decide +kernel
theorem d_X_freeFrames_4 : decode b_X_freeFrames 4 = .ok (.getfield 103, 3) := by decide +kernel
theorem d_X_freeFrames_7 : decode b_X_freeFrames 7 = .ok (.invokestatic 107, 3) := by decide +kernel
theorem d_X_freeFrames_10 : decode b_X_freeFrames 10 = .ok (.ireturn, 1) := by decide +kernel
theorem d_X_freeSlots_0 : decode b_X_freeSlots 0 = .ok (.aload_n 0, 1) := by decide +kernel
theorem d_X_freeSlots_1 : decode b_X_freeSlots 1 = .ok (.getfield 32, 3) := by decide +kernel
theorem d_X_freeSlots_4 : decode b_X_freeSlots 4 = .ok (.getfield 111, 3) := by decide +kernel
theorem d_X_freeSlots_7 : decode b_X_freeSlots 7 = .ok (.invokestatic 107, 3) := by decide +kernel
theorem d_X_freeSlots_10 : decode b_X_freeSlots 10 = .ok (.ireturn, 1) := by decide +kernel
theorem d_X_faults_0 : decode b_X_faults 0 = .ok (.aload_n 0, 1) := by decide +kernel
theorem d_X_faults_1 : decode b_X_faults 1 = .ok (.getfield 32, 3) := by decide +kernel
theorem d_X_faults_4 : decode b_X_faults 4 = .ok (.getfield 114, 3) := by decide +kernel
theorem d_X_faults_7 : decode b_X_faults 7 = .ok (.ireturn, 1) := by decide +kernel
theorem d_X_evicted_0 : decode b_X_evicted 0 = .ok (.aload_n 0, 1) := by decide +kernel
theorem d_X_evicted_1 : decode b_X_evicted 1 = .ok (.getfield 32, 3) := by decide +kernel
theorem d_X_evicted_4 : decode b_X_evicted 4 = .ok (.getfield 117, 3) := by decide +kernel
theorem d_X_evicted_7 : decode b_X_evicted 7 = .ok (.ireturn, 1) := by decide +kernel
theorem d_X_requireProcess_0 : decode b_X_requireProcess 0 = .ok (.aload_n 0, 1) := by decide +kernel
theorem d_X_requireProcess_1 : decode b_X_requireProcess 1 = .ok (.iload_n 1, 1) := by decide +kernel
theorem d_X_requireProcess_2 : decode b_X_requireProcess 2 = .ok (.invokevirtual 120, 3) := by decide +kernel
theorem d_X_requireProcess_5 : decode b_X_requireProcess 5 = .ok (.ifCond .ne 13, 3) := by decide +kernel
theorem d_X_requireProcess_8 : decode b_X_requireProcess 8 = .ok (.new 123, 3) := by decide +kernel
theorem d_X_requireProcess_11 : decode b_X_requireProcess 11 = .ok (.dup, 1) := by decide +kernel
theorem d_X_requireProcess_12 : decode b_X_requireProcess 12 = .ok (.ldc 125, 2) := by decide +kernel
theorem d_X_requireProcess_14 : decode b_X_requireProcess 14 = .ok (.invokespecial 127, 3) := by decide +kernel
theorem d_X_requireProcess_17 : decode b_X_requireProcess 17 = .ok (.athrow, 1) := by decide +kernel
theorem d_X_requireProcess_18 : decode b_X_requireProcess 18 = .ok (.return_, 1) := by decide +kernel
theorem d_X_requireAddress_0 : decode b_X_requireAddress 0 = .ok (.iload_n 0, 1) := by decide +kernel
theorem d_X_requireAddress_1 : decode b_X_requireAddress 1 = .ok (.ifCond .lt 9, 3) := by decide +kernel
theorem d_X_requireAddress_4 : decode b_X_requireAddress 4 = .ok (.iload_n 0, 1) := by decide +kernel
theorem d_X_requireAddress_5 : decode b_X_requireAddress 5 = .ok (.bipush 24, 2) := by decide +kernel
theorem d_X_requireAddress_7 : decode b_X_requireAddress 7 = .ok (.if_icmp .lt 13, 3) := by decide +kernel
theorem d_X_requireAddress_10 : decode b_X_requireAddress 10 = .ok (.new 64, 3) := by decide +kernel
theorem d_X_requireAddress_13 : decode b_X_requireAddress 13 = .ok (.dup, 1) := by decide +kernel
theorem d_X_requireAddress_14 : decode b_X_requireAddress 14 = .ok (.ldc 128, 2) := by decide +kernel
theorem d_X_requireAddress_16 : decode b_X_requireAddress 16 = .ok (.invokespecial 68, 3) := by decide +kernel
theorem d_X_requireAddress_19 : decode b_X_requireAddress 19 = .ok (.athrow, 1) := by decide +kernel
theorem d_X_requireAddress_20 : decode b_X_requireAddress 20 = .ok (.return_, 1) := by decide +kernel
theorem d_X_requireRange_0 : decode b_X_requireRange 0 = .ok (.iload_n 1, 1) := by decide +kernel
theorem d_X_requireRange_1 : decode b_X_requireRange 1 = .ok (.ifCond .ge 13, 3) := by decide +kernel
theorem d_X_requireRange_4 : decode b_X_requireRange 4 = .ok (.new 64, 3) := by decide +kernel
theorem d_X_requireRange_7 : decode b_X_requireRange 7 = .ok (.dup, 1) := by decide +kernel
theorem d_X_requireRange_8 : decode b_X_requireRange 8 = .ok (.ldc 130, 2) := by decide +kernel
theorem d_X_requireRange_10 : decode b_X_requireRange 10 = .ok (.invokespecial 68, 3) := by decide +kernel
theorem d_X_requireRange_13 : decode b_X_requireRange 13 = .ok (.athrow, 1) := by decide +kernel
theorem d_X_requireRange_14 : decode b_X_requireRange 14 = .ok (.iload_n 1, 1) := by decide +kernel
theorem d_X_requireRange_15 : decode b_X_requireRange 15 = .ok (.ifCond .le 31, 3) := by decide +kernel
theorem d_X_requireRange_18 : decode b_X_requireRange 18 = .ok (.iload_n 0, 1) := by decide +kernel
theorem d_X_requireRange_19 : decode b_X_requireRange 19 = .ok (.ifCond .lt 17, 3) := by decide +kernel
theorem d_X_requireRange_22 : decode b_X_requireRange 22 = .ok (.iload_n 0, 1) := by decide +kernel
theorem d_X_requireRange_23 : decode b_X_requireRange 23 = .ok (.bipush 24, 2) := by decide +kernel
theorem d_X_requireRange_25 : decode b_X_requireRange 25 = .ok (.if_icmp .ge 11, 3) := by decide +kernel
theorem d_X_requireRange_28 : decode b_X_requireRange 28 = .ok (.iload_n 1, 1) := by decide +kernel
theorem d_X_requireRange_29 : decode b_X_requireRange 29 = .ok (.bipush 24, 2) := by decide +kernel
theorem d_X_requireRange_31 : decode b_X_requireRange 31 = .ok (.iload_n 0, 1) := by decide +kernel
theorem d_X_requireRange_32 : decode b_X_requireRange 32 = .ok (.isub, 1) := by decide +kernel
theorem d_X_requireRange_33 : decode b_X_requireRange 33 = .ok (.if_icmp .le 13, 3) := by decide +kernel
theorem d_X_requireRange_36 : decode b_X_requireRange 36 = .ok (.new 64, 3) := by decide +kernel
theorem d_X_requireRange_39 : decode b_X_requireRange 39 = .ok (.dup, 1) := by decide +kernel
theorem d_X_requireRange_40 : decode b_X_requireRange 40 = .ok (.ldc 128, 2) := by decide +kernel
theorem d_X_requireRange_42 : decode b_X_requireRange 42 = .ok (.invokespecial 68, 3) := by decide +kernel
theorem d_X_requireRange_45 : decode b_X_requireRange 45 = .ok (.athrow, 1) := by decide +kernel
theorem d_X_requireRange_46 : decode b_X_requireRange 46 = .ok (.return_, 1) := by decide +kernel
theorem d_X_lowestNotThere_0 : decode b_X_lowestNotThere 0 = .ok (.iconst 0, 1) := by decide +kernel
theorem d_X_lowestNotThere_1 : decode b_X_lowestNotThere 1 = .ok (.istore_n 1, 1) := by decide +kernel
theorem d_X_lowestNotThere_2 : decode b_X_lowestNotThere 2 = .ok (.iload_n 1, 1) := by decide +kernel
theorem d_X_lowestNotThere_3 : decode b_X_lowestNotThere 3 = .ok (.bipush 6, 2) := by decide +kernel
theorem d_X_lowestNotThere_5 : decode b_X_lowestNotThere 5 = .ok (.if_icmp .ge 20, 3) := by decide +kernel
theorem d_X_lowestNotThere_8 : decode b_X_lowestNotThere 8 = .ok (.aload_n 0, 1) := by decide +kernel
theorem d_X_lowestNotThere_9 : decode b_X_lowestNotThere 9 = .ok (.getfield 9, 3) := by decide +kernel
theorem d_X_lowestNotThere_12 : decode b_X_lowestNotThere 12 = .ok (.iload_n 1, 1) := by decide +kernel
theorem d_X_lowestNotThere_13 : decode b_X_lowestNotThere 13 = .ok (.baload, 1) := by decide +kernel
theorem d_X_lowestNotThere_14 : decode b_X_lowestNotThere 14 = .ok (.ifCond .ne 5, 3) := by decide +kernel
theorem d_X_lowestNotThere_17 : decode b_X_lowestNotThere 17 = .ok (.iload_n 1, 1) := by decide +kernel
theorem d_X_lowestNotThere_18 : decode b_X_lowestNotThere 18 = .ok (.ireturn, 1) := by decide +kernel
theorem d_X_lowestNotThere_19 : decode b_X_lowestNotThere 19 = .ok (.iinc 1 1, 3) := by decide +kernel
theorem d_X_lowestNotThere_22 : decode b_X_lowestNotThere 22 = .ok (.goto (-20), 3) := by decide +kernel
theorem d_X_lowestNotThere_25 : decode b_X_lowestNotThere 25 = .ok (.iconst (-1), 1) := by decide +kernel
theorem d_X_lowestNotThere_26 : decode b_X_lowestNotThere 26 = .ok (.ireturn, 1) := by decide +kernel
theorem d_X_sheetOf_0 : decode b_X_sheetOf 0 = .ok (.aload_n 0, 1) := by decide +kernel
theorem d_X_sheetOf_1 : decode b_X_sheetOf 1 = .ok (.iload_n 1, 1) := by decide +kernel
theorem d_X_sheetOf_2 : decode b_X_sheetOf 2 = .ok (.invokevirtual 120, 3) := by decide +kernel
theorem d_X_sheetOf_5 : decode b_X_sheetOf 5 = .ok (.ifCond .eq 24, 3) := by decide +kernel
theorem d_X_sheetOf_8 : decode b_X_sheetOf 8 = .ok (.iload_n 2, 1) := by decide +kernel
theorem d_X_sheetOf_9 : decode b_X_sheetOf 9 = .ok (.ifCond .lt 20, 3) := by decide +kernel
theorem d_X_sheetOf_12 : decode b_X_sheetOf 12 = .ok (.iload_n 2, 1) := by decide +kernel
theorem d_X_sheetOf_13 : decode b_X_sheetOf 13 = .ok (.bipush 6, 2) := by decide +kernel
theorem d_X_sheetOf_15 : decode b_X_sheetOf 15 = .ok (.if_icmp .ge 14, 3) := by decide +kernel
theorem d_X_sheetOf_18 : decode b_X_sheetOf 18 = .ok (.aload_n 0, 1) := by decide +kernel
theorem d_X_sheetOf_19 : decode b_X_sheetOf 19 = .ok (.getfield 15, 3) := by decide +kernel
theorem d_X_sheetOf_22 : decode b_X_sheetOf 22 = .ok (.iload_n 1, 1) := by decide +kernel
theorem d_X_sheetOf_23 : decode b_X_sheetOf 23 = .ok (.aaload, 1) := by decide +kernel
theorem d_X_sheetOf_24 : decode b_X_sheetOf 24 = .ok (.iload_n 2, 1) := by decide +kernel
theorem d_X_sheetOf_25 : decode b_X_sheetOf 25 = .ok (.iaload, 1) := by decide +kernel
theorem d_X_sheetOf_26 : decode b_X_sheetOf 26 = .ok (.goto 4, 3) := by decide +kernel
theorem d_X_sheetOf_29 : decode b_X_sheetOf 29 = .ok (.iconst (-1), 1) := by decide +kernel
theorem d_X_sheetOf_30 : decode b_X_sheetOf 30 = .ok (.ireturn, 1) := by decide +kernel
theorem d_X_emptyPage_0 : decode b_X_emptyPage 0 = .ok (.aload_n 0, 1) := by decide +kernel
theorem d_X_emptyPage_1 : decode b_X_emptyPage 1 = .ok (.getfield 15, 3) := by decide +kernel
theorem d_X_emptyPage_4 : decode b_X_emptyPage 4 = .ok (.iload_n 1, 1) := by decide +kernel
theorem d_X_emptyPage_5 : decode b_X_emptyPage 5 = .ok (.aaload, 1) := by decide +kernel
theorem d_X_emptyPage_6 : decode b_X_emptyPage 6 = .ok (.iload_n 2, 1) := by decide +kernel
theorem d_X_emptyPage_7 : decode b_X_emptyPage 7 = .ok (.iaload, 1) := by decide +kernel
theorem d_X_emptyPage_8 : decode b_X_emptyPage 8 = .ok (.istore_n 3, 1) := by decide +kernel
theorem d_X_emptyPage_9 : decode b_X_emptyPage 9 = .ok (.aload_n 0, 1) := by decide +kernel
theorem d_X_emptyPage_10 : decode b_X_emptyPage 10 = .ok (.getfield 15, 3) := by decide +kernel
theorem d_X_emptyPage_13 : decode b_X_emptyPage 13 = .ok (.iload_n 1, 1) := by decide +kernel
theorem d_X_emptyPage_14 : decode b_X_emptyPage 14 = .ok (.aaload, 1) := by decide +kernel
theorem d_X_emptyPage_15 : decode b_X_emptyPage 15 = .ok (.iload_n 2, 1) := by decide +kernel
theorem d_X_emptyPage_16 : decode b_X_emptyPage 16 = .ok (.iconst (-1), 1) := by decide +kernel
theorem d_X_emptyPage_17 : decode b_X_emptyPage 17 = .ok (.iastore, 1) := by decide +kernel
theorem d_X_emptyPage_18 : decode b_X_emptyPage 18 = .ok (.iload_n 3, 1) := by decide +kernel
theorem d_X_emptyPage_19 : decode b_X_emptyPage 19 = .ok (.iconst (-1), 1) := by decide +kernel
theorem d_X_emptyPage_20 : decode b_X_emptyPage 20 = .ok (.if_icmp .eq 18, 3) := by decide +kernel
theorem d_X_emptyPage_23 : decode b_X_emptyPage 23 = .ok (.aload_n 0, 1) := by decide +kernel
theorem d_X_emptyPage_24 : decode b_X_emptyPage 24 = .ok (.getfield 32, 3) := by decide +kernel
theorem d_X_emptyPage_27 : decode b_X_emptyPage 27 = .ok (.iload_n 3, 1) := by decide +kernel
theorem d_X_emptyPage_28 : decode b_X_emptyPage 28 = .ok (.invokevirtual 132, 3) := by decide +kernel
theorem d_X_emptyPage_31 : decode b_X_emptyPage 31 = .ok (.ifCond .eq 7, 3) := by decide +kernel
theorem d_X_emptyPage_34 : decode b_X_emptyPage 34 = .ok (.iconst 1, 1) := by decide +kernel
theorem d_X_emptyPage_35 : decode b_X_emptyPage 35 = .ok (.goto 4, 3) := by decide +kernel
theorem d_X_emptyPage_38 : decode b_X_emptyPage 38 = .ok (.iconst 0, 1) := by decide +kernel
theorem d_X_emptyPage_39 : decode b_X_emptyPage 39 = .ok (.ireturn, 1) := by decide +kernel
theorem d_X_loadWord_0 : decode b_X_loadWord 0 = .ok (.aload_n 0, 1) := by decide +kernel
theorem d_X_loadWord_1 : decode b_X_loadWord 1 = .ok (.getfield 15, 3) := by decide +kernel
theorem d_X_loadWord_4 : decode b_X_loadWord 4 = .ok (.iload_n 1, 1) := by decide +kernel
theorem d_X_loadWord_5 : decode b_X_loadWord 5 = .ok (.aaload, 1) := by decide +kernel
theorem d_X_loadWord_6 : decode b_X_loadWord 6 = .ok (.iload_n 2, 1) := by decide +kernel
theorem d_X_loadWord_7 : decode b_X_loadWord 7 = .ok (.iconst 4, 1) := by decide +kernel
theorem d_X_loadWord_8 : decode b_X_loadWord 8 = .ok (.idiv, 1) := by decide +kernel
theorem d_X_loadWord_9 : decode b_X_loadWord 9 = .ok (.iaload, 1) := by decide +kernel
theorem d_X_loadWord_10 : decode b_X_loadWord 10 = .ok (.istore_n 3, 1) := by decide +kernel
theorem d_X_loadWord_11 : decode b_X_loadWord 11 = .ok (.iload_n 3, 1) := by decide +kernel
theorem d_X_loadWord_12 : decode b_X_loadWord 12 = .ok (.iconst (-1), 1) := by decide +kernel
theorem d_X_loadWord_13 : decode b_X_loadWord 13 = .ok (.if_icmp .ne 7, 3) := by decide +kernel
theorem d_X_loadWord_16 : decode b_X_loadWord 16 = .ok (.iconst 0, 1) := by decide +kernel
theorem d_X_loadWord_17 : decode b_X_loadWord 17 = .ok (.goto 14, 3) := by decide +kernel
theorem d_X_loadWord_20 : decode b_X_loadWord 20 = .ok (.aload_n 0, 1) := by decide +kernel
theorem d_X_loadWord_21 : decode b_X_loadWord 21 = .ok (.getfield 32, 3) := by decide +kernel
theorem d_X_loadWord_24 : decode b_X_loadWord 24 = .ok (.iload_n 3, 1) := by decide +kernel
theorem d_X_loadWord_25 : decode b_X_loadWord 25 = .ok (.iload_n 2, 1) := by decide +kernel
theorem d_X_loadWord_26 : decode b_X_loadWord 26 = .ok (.iconst 4, 1) := by decide +kernel
theorem d_X_loadWord_27 : decode b_X_loadWord 27 = .ok (.irem, 1) := by decide +kernel
theorem d_X_loadWord_28 : decode b_X_loadWord 28 = .ok (.invokevirtual 135, 3) := by decide +kernel
theorem d_X_loadWord_31 : decode b_X_loadWord 31 = .ok (.ireturn, 1) := by decide +kernel
theorem d_X_storeWord_0 : decode b_X_storeWord 0 = .ok (.iload_n 2, 1) := by decide +kernel
theorem d_X_storeWord_1 : decode b_X_storeWord 1 = .ok (.iconst 4, 1) := by decide +kernel
theorem d_X_storeWord_2 : decode b_X_storeWord 2 = .ok (.idiv, 1) := by decide +kernel
theorem d_X_storeWord_3 : decode b_X_storeWord 3 = .ok (.istore 4, 2) := by decide +kernel
theorem d_X_storeWord_5 : decode b_X_storeWord 5 = .ok (.aload_n 0, 1) := by decide +kernel
theorem d_X_storeWord_6 : decode b_X_storeWord 6 = .ok (.getfield 15, 3) := by decide +kernel
theorem d_X_storeWord_9 : decode b_X_storeWord 9 = .ok (.iload_n 1, 1) := by decide +kernel
theorem d_X_storeWord_10 : decode b_X_storeWord 10 = .ok (.aaload, 1) := by decide +kernel
theorem d_X_storeWord_11 : decode b_X_storeWord 11 = .ok (.iload 4, 2) := by decide +kernel
theorem d_X_storeWord_13 : decode b_X_storeWord 13 = .ok (.iaload, 1) := by decide +kernel
theorem d_X_storeWord_14 : decode b_X_storeWord 14 = .ok (.istore 5, 2) := by decide +kernel
theorem d_X_storeWord_16 : decode b_X_storeWord 16 = .ok (.iload 5, 2) := by decide +kernel
theorem d_X_storeWord_18 : decode b_X_storeWord 18 = .ok (.iconst (-1), 1) := by decide +kernel
theorem d_X_storeWord_19 : decode b_X_storeWord 19 = .ok (.if_icmp .eq 16, 3) := by decide +kernel
theorem d_X_storeWord_22 : decode b_X_storeWord 22 = .ok (.aload_n 0, 1) := by decide +kernel
theorem d_X_storeWord_23 : decode b_X_storeWord 23 = .ok (.getfield 32, 3) := by decide +kernel
theorem d_X_storeWord_26 : decode b_X_storeWord 26 = .ok (.iload 5, 2) := by decide +kernel
theorem d_X_storeWord_28 : decode b_X_storeWord 28 = .ok (.invokevirtual 93, 3) := by decide +kernel
theorem d_X_storeWord_31 : decode b_X_storeWord 31 = .ok (.iconst 1, 1) := by decide +kernel
theorem d_X_storeWord_32 : decode b_X_storeWord 32 = .ok (.if_icmp .le 12, 3) := by decide +kernel
theorem d_X_storeWord_35 : decode b_X_storeWord 35 = .ok (.aload_n 0, 1) := by decide +kernel
theorem d_X_storeWord_36 : decode b_X_storeWord 36 = .ok (.iload_n 1, 1) := by decide +kernel
theorem d_X_storeWord_37 : decode b_X_storeWord 37 = .ok (.iload 4, 2) := by decide +kernel
theorem d_X_storeWord_39 : decode b_X_storeWord 39 = .ok (.invokevirtual 138, 3) := by decide +kernel
theorem d_X_storeWord_42 : decode b_X_storeWord 42 = .ok (.istore 5, 2) := by decide +kernel
theorem d_X_storeWord_44 : decode b_X_storeWord 44 = .ok (.aload_n 0, 1) := by decide +kernel
theorem d_X_storeWord_45 : decode b_X_storeWord 45 = .ok (.getfield 32, 3) := by decide +kernel
theorem d_X_storeWord_48 : decode b_X_storeWord 48 = .ok (.iload 5, 2) := by decide +kernel
theorem d_X_storeWord_50 : decode b_X_storeWord 50 = .ok (.iload_n 2, 1) := by decide +kernel
theorem d_X_storeWord_51 : decode b_X_storeWord 51 = .ok (.iconst 4, 1) := by decide +kernel
theorem d_X_storeWord_52 : decode b_X_storeWord 52 = .ok (.irem, 1) := by decide +kernel
theorem d_X_storeWord_53 : decode b_X_storeWord 53 = .ok (.iload_n 3, 1) := by decide +kernel
theorem d_X_storeWord_54 : decode b_X_storeWord 54 = .ok (.invokevirtual 141, 3) := by decide +kernel
theorem d_X_storeWord_57 : decode b_X_storeWord 57 = .ok (.return_, 1) := by decide +kernel
theorem d_X_giveOwnSheet_0 : decode b_X_giveOwnSheet 0 = .ok (.aload_n 0, 1) := by decide +kernel
theorem d_X_giveOwnSheet_1 : decode b_X_giveOwnSheet 1 = .ok (.getfield 32, 3) := by decide +kernel
theorem d_X_giveOwnSheet_4 : decode b_X_giveOwnSheet 4 = .ok (.invokevirtual 144, 3) := by decide +kernel
theorem d_X_giveOwnSheet_7 : decode b_X_giveOwnSheet 7 = .ok (.istore_n 3, 1) := by decide +kernel
theorem d_X_giveOwnSheet_8 : decode b_X_giveOwnSheet 8 = .ok (.iload_n 3, 1) := by decide +kernel
theorem d_X_giveOwnSheet_9 : decode b_X_giveOwnSheet 9 = .ok (.iconst (-1), 1) := by decide +kernel
theorem d_X_giveOwnSheet_10 : decode b_X_giveOwnSheet 10 = .ok (.if_icmp .ne 13, 3) := by decide +kernel
theorem d_X_giveOwnSheet_13 : decode b_X_giveOwnSheet 13 = .ok (.new 46, 3) := by decide +kernel
theorem d_X_giveOwnSheet_16 : decode b_X_giveOwnSheet 16 = .ok (.dup, 1) := by decide +kernel
theorem d_X_giveOwnSheet_17 : decode b_X_giveOwnSheet 17 = .ok (.ldc 147, 2) := by decide +kernel
theorem d_X_giveOwnSheet_19 : decode b_X_giveOwnSheet 19 = .ok (.invokespecial 50, 3) := by decide +kernel
theorem d_X_giveOwnSheet_22 : decode b_X_giveOwnSheet 22 = .ok (.athrow, 1) := by decide +kernel
theorem d_X_giveOwnSheet_23 : decode b_X_giveOwnSheet 23 = .ok (.aload_n 0, 1) := by decide +kernel
theorem d_X_giveOwnSheet_24 : decode b_X_giveOwnSheet 24 = .ok (.getfield 15, 3) := by decide +kernel
theorem d_X_giveOwnSheet_27 : decode b_X_giveOwnSheet 27 = .ok (.iload_n 1, 1) := by decide +kernel
theorem d_X_giveOwnSheet_28 : decode b_X_giveOwnSheet 28 = .ok (.aaload, 1) := by decide +kernel
theorem d_X_giveOwnSheet_29 : decode b_X_giveOwnSheet 29 = .ok (.iload_n 2, 1) := by decide +kernel
theorem d_X_giveOwnSheet_30 : decode b_X_giveOwnSheet 30 = .ok (.iaload, 1) := by decide +kernel
theorem d_X_giveOwnSheet_31 : decode b_X_giveOwnSheet 31 = .ok (.istore 4, 2) := by decide +kernel
theorem d_X_giveOwnSheet_33 : decode b_X_giveOwnSheet 33 = .ok (.iload 4, 2) := by decide +kernel
theorem d_X_giveOwnSheet_35 : decode b_X_giveOwnSheet 35 = .ok (.iconst (-1), 1) := by decide +kernel
theorem d_X_giveOwnSheet_36 : decode b_X_giveOwnSheet 36 = .ok (.if_icmp .eq 23, 3) := by decide +kernel
theorem d_X_giveOwnSheet_39 : decode b_X_giveOwnSheet 39 = .ok (.aload_n 0, 1) := by decide +kernel
theorem d_X_giveOwnSheet_40 : decode b_X_giveOwnSheet 40 = .ok (.getfield 32, 3) := by decide +kernel
theorem d_X_giveOwnSheet_43 : decode b_X_giveOwnSheet 43 = .ok (.iload 4, 2) := by decide +kernel
theorem d_X_giveOwnSheet_45 : decode b_X_giveOwnSheet 45 = .ok (.iload_n 3, 1) := by decide +kernel
theorem d_X_giveOwnSheet_46 : decode b_X_giveOwnSheet 46 = .ok (.invokevirtual 149, 3) := by decide +kernel
theorem d_X_giveOwnSheet_49 : decode b_X_giveOwnSheet 49 = .ok (.aload_n 0, 1) := by decide +kernel
theorem d_X_giveOwnSheet_50 : decode b_X_giveOwnSheet 50 = .ok (.getfield 32, 3) := by decide +kernel
theorem d_X_giveOwnSheet_53 : decode b_X_giveOwnSheet 53 = .ok (.iload 4, 2) := by decide +kernel
theorem d_X_giveOwnSheet_55 : decode b_X_giveOwnSheet 55 = .ok (.invokevirtual 132, 3) := by decide +kernel
theorem d_X_giveOwnSheet_58 : decode b_X_giveOwnSheet 58 = .ok (.pop, 1) := by decide +kernel
theorem d_X_giveOwnSheet_59 : decode b_X_giveOwnSheet 59 = .ok (.aload_n 0, 1) := by decide +kernel
theorem d_X_giveOwnSheet_60 : decode b_X_giveOwnSheet 60 = .ok (.getfield 15, 3) := by decide +kernel
theorem d_X_giveOwnSheet_63 : decode b_X_giveOwnSheet 63 = .ok (.iload_n 1, 1) := by decide +kernel
theorem d_X_giveOwnSheet_64 : decode b_X_giveOwnSheet 64 = .ok (.aaload, 1) := by decide +kernel
theorem d_X_giveOwnSheet_65 : decode b_X_giveOwnSheet 65 = .ok (.iload_n 2, 1) := by decide +kernel
theorem d_X_giveOwnSheet_66 : decode b_X_giveOwnSheet 66 = .ok (.iload_n 3, 1) := by decide +kernel
theorem d_X_giveOwnSheet_67 : decode b_X_giveOwnSheet 67 = .ok (.iastore, 1) := by decide +kernel
theorem d_X_giveOwnSheet_68 : decode b_X_giveOwnSheet 68 = .ok (.iload_n 3, 1) := by decide +kernel
theorem d_X_giveOwnSheet_69 : decode b_X_giveOwnSheet 69 = .ok (.ireturn, 1) := by decide +kernel
theorem d_X_lowestFree_0 : decode b_X_lowestFree 0 = .ok (.iconst 0, 1) := by decide +kernel
theorem d_X_lowestFree_1 : decode b_X_lowestFree 1 = .ok (.istore_n 1, 1) := by decide +kernel
theorem d_X_lowestFree_2 : decode b_X_lowestFree 2 = .ok (.iload_n 1, 1) := by decide +kernel
theorem d_X_lowestFree_3 : decode b_X_lowestFree 3 = .ok (.aload_n 0, 1) := by decide +kernel
theorem d_X_lowestFree_4 : decode b_X_lowestFree 4 = .ok (.arraylength, 1) := by decide +kernel
theorem d_X_lowestFree_5 : decode b_X_lowestFree 5 = .ok (.if_icmp .ge 18, 3) := by decide +kernel
theorem d_X_lowestFree_8 : decode b_X_lowestFree 8 = .ok (.aload_n 0, 1) := by decide +kernel
theorem d_X_lowestFree_9 : decode b_X_lowestFree 9 = .ok (.iload_n 1, 1) := by decide +kernel
theorem d_X_lowestFree_10 : decode b_X_lowestFree 10 = .ok (.iaload, 1) := by decide +kernel
theorem d_X_lowestFree_11 : decode b_X_lowestFree 11 = .ok (.iconst (-1), 1) := by decide +kernel
theorem d_X_lowestFree_12 : decode b_X_lowestFree 12 = .ok (.if_icmp .ne 5, 3) := by decide +kernel
theorem d_X_lowestFree_15 : decode b_X_lowestFree 15 = .ok (.iload_n 1, 1) := by decide +kernel
theorem d_X_lowestFree_16 : decode b_X_lowestFree 16 = .ok (.ireturn, 1) := by decide +kernel
theorem d_X_lowestFree_17 : decode b_X_lowestFree 17 = .ok (.iinc 1 1, 3) := by decide +kernel
theorem d_X_lowestFree_20 : decode b_X_lowestFree 20 = .ok (.goto (-18), 3) := by decide +kernel
theorem d_X_lowestFree_23 : decode b_X_lowestFree 23 = .ok (.iconst (-1), 1) := by decide +kernel
theorem d_X_lowestFree_24 : decode b_X_lowestFree 24 = .ok (.ireturn, 1) := by decide +kernel
theorem d_X_countFree_0 : decode b_X_countFree 0 = .ok (.iconst 0, 1) := by decide +kernel
theorem d_X_countFree_1 : decode b_X_countFree 1 = .ok (.istore_n 1, 1) := by decide +kernel
theorem d_X_countFree_2 : decode b_X_countFree 2 = .ok (.iconst 0, 1) := by decide +kernel
theorem d_X_countFree_3 : decode b_X_countFree 3 = .ok (.istore_n 2, 1) := by decide +kernel
theorem d_X_countFree_4 : decode b_X_countFree 4 = .ok (.iload_n 2, 1) := by decide +kernel
theorem d_X_countFree_5 : decode b_X_countFree 5 = .ok (.aload_n 0, 1) := by decide +kernel
theorem d_X_countFree_6 : decode b_X_countFree 6 = .ok (.arraylength, 1) := by decide +kernel
theorem d_X_countFree_7 : decode b_X_countFree 7 = .ok (.if_icmp .ge 19, 3) := by decide +kernel
theorem d_X_countFree_10 : decode b_X_countFree 10 = .ok (.aload_n 0, 1) := by decide +kernel
theorem d_X_countFree_11 : decode b_X_countFree 11 = .ok (.iload_n 2, 1) := by decide +kernel
theorem d_X_countFree_12 : decode b_X_countFree 12 = .ok (.iaload, 1) := by decide +kernel
theorem d_X_countFree_13 : decode b_X_countFree 13 = .ok (.iconst (-1), 1) := by decide +kernel
theorem d_X_countFree_14 : decode b_X_countFree 14 = .ok (.if_icmp .ne 6, 3) := by decide +kernel
theorem d_X_countFree_17 : decode b_X_countFree 17 = .ok (.iinc 1 1, 3) := by decide +kernel
theorem d_X_countFree_20 : decode b_X_countFree 20 = .ok (.iinc 2 1, 3) := by decide +kernel
theorem d_X_countFree_23 : decode b_X_countFree 23 = .ok (.goto (-19), 3) := by decide +kernel
theorem d_X_countFree_26 : decode b_X_countFree 26 = .ok (.iload_n 1, 1) := by decide +kernel
theorem d_X_countFree_27 : decode b_X_countFree 27 = .ok (.ireturn, 1) := by decide +kernel
theorem d_X_freeRow_0 : decode b_X_freeRow 0 = .ok (.iload_n 0, 1) := by decide +kernel
theorem d_X_freeRow_1 : decode b_X_freeRow 1 = .ok (.newarray .int, 2) := by decide +kernel
theorem d_X_freeRow_3 : decode b_X_freeRow 3 = .ok (.astore_n 1, 1) := by decide +kernel
theorem d_X_freeRow_4 : decode b_X_freeRow 4 = .ok (.aload_n 1, 1) := by decide +kernel
theorem d_X_freeRow_5 : decode b_X_freeRow 5 = .ok (.iconst (-1), 1) := by decide +kernel
theorem d_X_freeRow_6 : decode b_X_freeRow 6 = .ok (.invokestatic 36, 3) := by decide +kernel
theorem d_X_freeRow_9 : decode b_X_freeRow 9 = .ok (.aload_n 1, 1) := by decide +kernel
theorem d_X_freeRow_10 : decode b_X_freeRow 10 = .ok (.areturn, 1) := by decide +kernel
end
section
/-! What every method is given of the tables, and how it moves on. -/
/-- a word that stays, on warmer tables -/
def tb_ok : Cond → Bool
  | .fieldLinkNest .. => true
  | .methodLinkNest .. => true
  | .castable .. => true
  | .declares .. => true
  | .privateMethod .. => true
  | w => goodWord w
theorem tb_warm {w : Cond} (h : tb_ok w = true) {s U : State} (hW : s.WarmedH U.vm) {a a' : Array Value} (hb : w.before a s = true) : w.before a' U = true := by
  cases w with
  | fieldLinkNest c i r n d h => exact va_tabs rfl (rfl : (s.setVm U.vm).vm = U.vm) (Cond.fieldLinkNest_warmed (args := a) hW hb)
  | methodLinkNest c i y h => exact va_tabs rfl (rfl : (s.setVm U.vm).vm = U.vm) (Cond.methodLinkNest_warmed (args := a) hW hb)
  | castable c t => exact va_tabs rfl (rfl : (s.setVm U.vm).vm = U.vm) (by rw [Cond.castable_setVm hW.alike]; exact hb)
  | declares y => exact va_tabs rfl (rfl : (s.setVm U.vm).vm = U.vm) (by rw [Cond.declares_setVm hW.alike]; exact hb)
  | privateMethod y => exact va_tabs rfl (rfl : (s.setVm U.vm).vm = U.vm) (by rw [Cond.privateMethod_setVm hW.alike]; exact hb)
  | _ => exact word_at hW (good_of_word h) hb
def tb_texts : List (Nat × String) := [(48, "all processes are there"), (125, "no such process"), (66, "no such page"), (128, "no such address"), (147, "no frame and no slot is free"), (130, "fewer words than none")]
def tb_apart : List (String × String) := [(R_En, R_Es), (R_Ei, R_Es), (R_Es, R_En), (R_Ei, R_En), (R_Es, R_Ei), (R_En, R_Ei)]
abbrev tyl (tI tZ tA tJ : ClassId) : List (ClassId × FieldType) := [(tI, .int), (tZ, .boolean), (tA, .array .int), (tJ, .long)]
def TB (D : va_G) (tI tZ tA tJ : ClassId) (U : State) : Prop :=
  va_K D vcl (tyl tI tZ tA tJ) U ∧ (∀ w ∈ lw_tbl, tb_ok w = true → ∀ a : Array Value, w.before a U = true) ∧ (∀ q ∈ tb_texts, ∃ z : Nat, vk_R R_X q.1 q.2 z U) ∧ ∀ q ∈ tb_apart, va_Nc q.1 q.2 U
theorem TB.warm {D : va_G} {tI tZ tA tJ : ClassId} {s U : State} (h : TB D tI tZ tA tJ s) (hW : s.WarmedH U.vm) : TB D tI tZ tA tJ U := by
  obtain ⟨h1, h2, h3, h4⟩ := h
  refine ⟨va_K.moved hW.alike h1, fun w hw ok a => tb_warm ok hW (h2 w hw ok a), fun q hq => ?_, fun q hq => va_Nc.moved hW.alike (h4 q hq)⟩
  obtain ⟨z, hz⟩ := h3 q hq
  exact ⟨z, vk_R.warm hW hz⟩
theorem TB.same {D : va_G} {tI tZ tA tJ : ClassId} {s U : State} (h : TB D tI tZ tA tJ s) (hv : s.vm = U.vm) : TB D tI tZ tA tJ U := h.warm (by rw [← hv]; exact State.WarmedH.refl s)
theorem TB.w {D : va_G} {tI tZ tA tJ : ClassId} {s : State} (h : TB D tI tZ tA tJ s) {w : Cond} (hw : w ∈ lw_tbl) (ok : tb_ok w = true := by rfl) {a : Array Value} : w.before a s = true := h.2.1 w hw ok a
/-- the words of the fields of the three classes, as the field rows ask them -/
def tb_lays : List Cond := u_ws R_X F_X 4 ++ (u_ws R_M F_M 9 ++ u_ws R_T F_T 12)
theorem tb_lays_ok : ∀ w ∈ tb_lays, tb_ok w = true := by decide +kernel
theorem tb_lays_in : ∀ w ∈ tb_lays, w ∈ lw_tbl := fun w h => (List.mem_append.mp h).elim (in_X w) (fun h => (List.mem_append.mp h).elim (in_M w) (in_T w))
theorem TB.lays {D : va_G} {tI tZ tA tJ : ClassId} {s : State} (h : TB D tI tZ tA tJ s) {a : Array Value} : ∀ w ∈ tb_lays, w.before a s = true := fun w hw => h.2.1 w (tb_lays_in w hw) (tb_lays_ok w hw) a
theorem ly_X : ∀ w ∈ u_ws R_X F_X 4, w ∈ tb_lays := fun _ h => List.mem_append_left _ h
theorem ly_M : ∀ w ∈ u_ws R_M F_M 9, w ∈ tb_lays := fun _ h => List.mem_append_right _ (List.mem_append_left _ h)
theorem ly_T : ∀ w ∈ u_ws R_T F_T 12, w ∈ tb_lays := fun _ h => List.mem_append_right _ (List.mem_append_right _ h)
/-- a call's common part, out of the tables -/
theorem TB.ok {D : va_G} {tI tZ tA tJ : ClassId} {s : State} (h : TB D tI tZ tA tJ s) {R : Room} {y : MethodName} {w : Cond} {rm : Room} {mc ms maxL n : Nat} (hcd : ob_cd w y maxL) (hd : y.cls ≠ "java/lang/invoke/MethodHandle" ∧ y.cls ≠ "java/lang/invoke/VarHandle" ∧ (parseMethodDescriptor y.desc).map (fun d => d.parameters.length) = some n)
    (hrc : rm.cells = mc) (hrs : rm.slots = ms) (hfr : rm.frames + 1 ≤ R.frames) (hlo : 8 + (maxL + 11) + rm.locals ≤ R.locals) (hini : Cond.initialized y.cls ∈ lw_tbl) (hw : w ∈ lw_tbl) (okw : tb_ok w = true := by rfl) : ob_ok R s y w rm mc ms maxL n :=
  ⟨hcd, hd, hrc, hrs, hfr, hlo, fun a U hW => ⟨tb_warm rfl hW (h.2.1 _ hini rfl a), tb_warm okw hW (h.2.1 _ hw okw a)⟩⟩
end
section
abbrev ix (x : Int32) : Nat := x.toNatClampNeg
/-! The state, and what each method of the two programs does to it, written as they compute it.
The shared part: there, pages (6 p + g), marks, where each sheet lies, words (4 s + i), hand, faults, evictions, copied. -/
abbrev Sg : Type := (Nat → Int32) × (Nat → Int32) × (Nat → Int32) × (Nat → Int32) × (Nat → Int32) × Int32 × Int32 × Int32 × Int32
abbrev sg_th (s : Sg) : Nat → Int32 := s.1
abbrev sg_pg (s : Sg) : Nat → Int32 := s.2.1
abbrev sg_mk (s : Sg) : Nat → Int32 := s.2.2.1
abbrev sg_li (s : Sg) : Nat → Int32 := s.2.2.2.1
abbrev sg_wd (s : Sg) : Nat → Int32 := s.2.2.2.2.1
abbrev sg_hd (s : Sg) : Int32 := s.2.2.2.2.2.1
abbrev sg_fl (s : Sg) : Int32 := s.2.2.2.2.2.2.1
abbrev sg_ev (s : Sg) : Int32 := s.2.2.2.2.2.2.2.1
abbrev sg_cp (s : Sg) : Int32 := s.2.2.2.2.2.2.2.2
abbrev su_th (s : Sg) (f : Nat → Int32) : Sg := (f, s.2)
abbrev su_pg (s : Sg) (f : Nat → Int32) : Sg := (s.1, f, s.2.2)
abbrev su_mk (s : Sg) (f : Nat → Int32) : Sg := (s.1, s.2.1, f, s.2.2.2)
abbrev su_li (s : Sg) (f : Nat → Int32) : Sg := (s.1, s.2.1, s.2.2.1, f, s.2.2.2.2)
abbrev su_wd (s : Sg) (f : Nat → Int32) : Sg := (s.1, s.2.1, s.2.2.1, s.2.2.2.1, f, s.2.2.2.2.2)
abbrev su_hd (s : Sg) (x : Int32) : Sg := (s.1, s.2.1, s.2.2.1, s.2.2.2.1, s.2.2.2.2.1, x, s.2.2.2.2.2.2)
abbrev su_fl (s : Sg) (x : Int32) : Sg := (s.1, s.2.1, s.2.2.1, s.2.2.2.1, s.2.2.2.2.1, s.2.2.2.2.2.1, x, s.2.2.2.2.2.2.2)
abbrev su_ev (s : Sg) (x : Int32) : Sg := (s.1, s.2.1, s.2.2.1, s.2.2.2.1, s.2.2.2.2.1, s.2.2.2.2.2.1, s.2.2.2.2.2.2.1, x, s.2.2.2.2.2.2.2.2)
abbrev su_cp (s : Sg) (x : Int32) : Sg := (s.1, s.2.1, s.2.2.1, s.2.2.2.1, s.2.2.2.2.1, s.2.2.2.2.2.1, s.2.2.2.2.2.2.1, s.2.2.2.2.2.2.2.1, x)
-- the reference
def m_at (li : Nat → Int32) (pl : Int32) : Nat → Nat → Int32
  | 0, _ => -1
  | n + 1, i => if li i = pl then nI i else m_at li pl n (i + 1)
abbrev m_sheetAt (li : Nat → Int32) (pl : Int32) : Int32 := m_at li pl 18 0
def m_lowF (li : Nat → Int32) : Nat → Nat → Int32
  | 0, _ => -1
  | n + 1, i => if 0 ≤ m_sheetAt li (nI i) then m_lowF li n (i + 1) else nI i
def m_lowS (li : Nat → Int32) : Nat → Nat → Int32
  | 0, _ => -1
  | n + 1, i => if 0 ≤ m_sheetAt li (100 + nI i) then m_lowS li n (i + 1) else 100 + nI i
def m_own (pg : Nat → Int32) (a : Int32) : Nat → Nat → Int32 → Int32
  | 0, _, x => x
  | n + 1, i, x => m_own pg a n (i + 1) (if pg i = a then x + 1 else x)
abbrev m_owners (pg : Nat → Int32) (a : Int32) : Int32 := m_own pg a 36 0 0
def m_turn (F : Nat) (h : Int32) : Int32 := if h + 1 = nI F then 0 else h + 1
def m_sweep (F : Nat) : Nat → (Nat → Int32) → Int32 → (Nat → Int32) × Int32
  | 0, mq, h => (mq, h)
  | n + 1, mq, h => if mq (ix h) = 0 then (mq, h) else m_sweep F n (upd mq (ix h) 0) (m_turn F h)
/-- behind the sweep: the sheet at the hand goes into the lowest free slot -/
def m_evict (F S : Nat) (s : Sg) : Int32 × Sg :=
  let q := m_sweep F 8 (sg_mk s) (sg_hd s)
  (q.2, su_hd (su_ev (su_li (su_mk s q.1) (upd (sg_li s) (ix (m_sheetAt (sg_li s) q.2)) (m_lowS (sg_li s) S 0))) (sg_ev s + 1)) (m_turn F q.2))
def m_getFrame (F S : Nat) (s : Sg) : Int32 × Sg :=
  if m_lowF (sg_li s) F 0 < 0 then m_evict F S s else (m_lowF (sg_li s) F 0, s)
def m_canMake (F S : Nat) (li : Nat → Int32) : Int32 := if 0 ≤ m_lowF li F 0 then 1 else if m_lowS li S 0 < 0 then 0 else 1
def m_cpw (like a : Int32) : Nat → Nat → (Nat → Int32) → (Nat → Int32)
  | 0, _, w => w
  | n + 1, i, w => m_cpw like a n (i + 1) (upd w (ix (4 * a + nI i)) (if 0 ≤ like then w (ix (4 * like + nI i)) else 0))
def m_make (F S : Nat) (s : Sg) (k like : Int32) : Sg :=
  let a := m_sheetAt (sg_li s) (-1)
  let q := m_getFrame F S s
  su_fl (su_pg (su_wd (su_li q.2 (upd (sg_li q.2) (ix a) q.1)) (m_cpw like a 4 0 (sg_wd q.2))) (upd (sg_pg q.2) (ix k) a)) (sg_fl q.2 + 1)
def m_bringIn (F S : Nat) (s : Sg) (a : Int32) : Sg :=
  if sg_li s (ix a) < 100 then s else
  let q := m_getFrame F S (su_li s (upd (sg_li s) (ix a) (-1)))
  su_fl (su_li q.2 (upd (sg_li q.2) (ix a) q.1)) (sg_fl q.2 + 1)
def m_emp (s : Sg) (k a : Int32) : Sg :=
  su_li (su_mk (su_pg s (upd (sg_pg s) (ix k) (-1))) (if 100 ≤ sg_li s (ix a) then sg_mk s else upd (sg_mk s) (ix (sg_li s (ix a))) 0)) (upd (sg_li s) (ix a) (-1))
def m_empty (s : Sg) (k : Int32) : Int32 × Sg :=
  if sg_pg s (ix k) < 0 then (0, su_pg s (upd (sg_pg s) (ix k) (-1))) else
  if m_owners (upd (sg_pg s) (ix k) (-1)) (sg_pg s (ix k)) ≤ 0 then (1, m_emp s k (sg_pg s (ix k))) else (0, su_pg s (upd (sg_pg s) (ix k) (-1)))
def m_isP (th : Nat → Int32) (p : Int32) : Int32 := if p < 0 then 0 else if 6 ≤ p then 0 else if th (ix p) = 0 then 0 else 1
def m_isA (a : Int32) : Int32 := if a < 0 then 0 else if 24 ≤ a then 0 else 1
def m_lowP (th : Nat → Int32) : Nat → Nat → Int32
  | 0, _ => -1
  | n + 1, i => if th i = 0 then nI i else m_lowP th n (i + 1)
/-- answer, thrown, state -/
def m_spawn (s : Sg) : Int32 × Int32 × Sg := if 0 ≤ m_lowP (sg_th s) 6 0 then (m_lowP (sg_th s) 6 0, 0, su_th s (upd (sg_th s) (ix (m_lowP (sg_th s) 6 0)) 1)) else (0, 1, s)
def m_forkL (p q : Int32) : Nat → Nat → (Nat → Int32) → (Nat → Int32)
  | 0, _, f => f
  | n + 1, g, f => m_forkL p q n (g + 1) (upd f (ix (6 * q + nI g)) (f (ix (6 * p + nI g))))
def m_fork (s : Sg) (p : Int32) : Int32 × Int32 × Sg :=
  if m_isP (sg_th s) p = 0 then (0, 1, s) else
  if 0 ≤ m_lowP (sg_th s) 6 0 then (m_lowP (sg_th s) 6 0, 0, su_pg (su_th s (upd (sg_th s) (ix (m_lowP (sg_th s) 6 0)) 1)) (m_forkL p (m_lowP (sg_th s) 6 0) 6 0 (sg_pg s))) else (0, 2, s)
def m_exitL (p : Int32) : Nat → Nat → Int32 → Sg → Int32 × Sg
  | 0, _, x, s => (x, s)
  | n + 1, g, x, s => m_exitL p n (g + 1) (if (m_empty s (6 * p + nI g)).1 = 0 then x else x + 1) (m_empty s (6 * p + nI g)).2
def m_exit (s : Sg) (p : Int32) : Int32 × Int32 × Sg :=
  if m_isP (sg_th s) p = 0 then (0, 1, s) else ((m_exitL p 6 0 0 (su_th s (upd (sg_th s) (ix p) 0))).1, 0, (m_exitL p 6 0 0 (su_th s (upd (sg_th s) (ix p) 0))).2)
def m_drop (s : Sg) (p g : Int32) : Int32 × Int32 × Sg :=
  if m_isP (sg_th s) p = 0 then (0, 1, s) else if g < 0 then (0, 2, s) else if g ≤ 5 then ((m_empty s (6 * p + g)).1, 0, (m_empty s (6 * p + g)).2) else (0, 2, s)
def m_loaded (F S : Nat) (s : Sg) (p a : Int32) : Int32 × Sg :=
  if 0 ≤ sg_pg s (ix (6 * p + a / 4)) then
    let h := sg_pg s (ix (6 * p + a / 4))
    let s1 := m_bringIn F S s h
    (sg_wd s1 (ix (4 * h + (a - a / 4 * 4))), su_mk s1 (upd (sg_mk s1) (ix (sg_li s1 (ix h))) 1))
  else (0, s)
def m_needs (pg : Nat → Int32) (p a : Int32) : Int32 :=
  if pg (ix (6 * p + a / 4)) < 0 then 1 else if m_owners pg (pg (ix (6 * p + a / 4))) ≤ 1 then 0 else 1
def m_sto1 (F S : Nat) (s : Sg) (p a : Int32) : Sg :=
  if m_needs (sg_pg s) p a = 0 then m_bringIn F S s (sg_pg s (ix (6 * p + a / 4))) else m_make F S s (6 * p + a / 4) (sg_pg s (ix (6 * p + a / 4)))
def m_stored (F S : Nat) (s : Sg) (p a x : Int32) : Sg :=
  let s1 := m_sto1 F S s p a
  let h := sg_pg s1 (ix (6 * p + a / 4))
  su_wd (su_mk s1 (upd (sg_mk s1) (ix (sg_li s1 (ix h))) 1)) (upd (sg_wd s1) (ix (4 * h + (a - a / 4 * 4))) x)
def m_load (F S : Nat) (s : Sg) (p a : Int32) : Int32 × Int32 × Sg :=
  if m_isP (sg_th s) p = 0 then (0, 1, s) else if m_isA a = 0 then (0, 2, s) else ((m_loaded F S s p a).1, 0, (m_loaded F S s p a).2)
def m_store (F S : Nat) (s : Sg) (p a x : Int32) : Int32 × Sg :=
  if m_isP (sg_th s) p = 0 then (1, s) else if m_isA a = 0 then (2, s) else
  if m_needs (sg_pg s) p a = 0 then (0, m_stored F S s p a x) else if m_canMake F S (sg_li s) = 0 then (3, s) else (0, m_stored F S s p a x)
def m_copyL (F S : Nat) (p a d : Int32) : Nat → Sg → Int32 × Sg
  | 0, s => (0, s)
  | n + 1, s =>
    if m_needs (sg_pg (m_loaded F S s p (a + sg_cp s)).2) p (d + sg_cp (m_loaded F S s p (a + sg_cp s)).2) = 0 then
      m_copyL F S p a d n (su_cp (m_stored F S (m_loaded F S s p (a + sg_cp s)).2 p (d + sg_cp (m_loaded F S s p (a + sg_cp s)).2) (m_loaded F S s p (a + sg_cp s)).1) (sg_cp (m_stored F S (m_loaded F S s p (a + sg_cp s)).2 p (d + sg_cp (m_loaded F S s p (a + sg_cp s)).2) (m_loaded F S s p (a + sg_cp s)).1) + 1))
    else if m_canMake F S (sg_li (m_loaded F S s p (a + sg_cp s)).2) = 0 then (3, (m_loaded F S s p (a + sg_cp s)).2)
    else m_copyL F S p a d n (su_cp (m_stored F S (m_loaded F S s p (a + sg_cp s)).2 p (d + sg_cp (m_loaded F S s p (a + sg_cp s)).2) (m_loaded F S s p (a + sg_cp s)).1) (sg_cp (m_stored F S (m_loaded F S s p (a + sg_cp s)).2 p (d + sg_cp (m_loaded F S s p (a + sg_cp s)).2) (m_loaded F S s p (a + sg_cp s)).1) + 1))
def m_bad (a d n : Int32) : Int32 :=
  if n < 0 then 1 else if 24 < n then 1 else if n ≤ 0 then 0 else if m_isA a = 0 then 1 else if m_isA d = 0 then 1 else if 24 < a + n then 1 else if d + n ≤ 24 then 0 else 1
def m_copy (F S : Nat) (s : Sg) (p a d n : Int32) : Int32 × Sg :=
  if m_isP (sg_th s) p = 0 then (1, s) else if m_bad a d n = 0 then m_copyL F S p a d (ix n) (su_cp s 0) else (2, s)
def m_sheetOf (s : Sg) (p g : Int32) : Int32 := if m_isP (sg_th s) p = 0 then -1 else if g < 0 then -1 else if 6 ≤ g then -1 else sg_pg s (ix (6 * p + g))
def m_where (s : Sg) (p g : Int32) : Int32 := if 0 ≤ m_sheetOf s p g then sg_li s (ix (m_sheetOf s p g)) else -1
def m_sharers (s : Sg) (p g : Int32) : Int32 := if 0 ≤ m_sheetOf s p g then m_owners (sg_pg s) (m_sheetOf s p g) else 0
def m_marked (F : Nat) (mk : Nat → Int32) (x : Int32) : Int32 := if x < 0 then 0 else if nI F ≤ x then 0 else if mk (ix x) = 0 then 0 else 1
def m_cntF (li : Nat → Int32) (o : Int32) : Nat → Nat → Int32 → Int32
  | 0, _, x => x
  | n + 1, i, x => m_cntF li o n (i + 1) (if 0 ≤ m_sheetAt li (o + nI i) then x else x + 1)
def m_cntG (li : Nat → Int32) : Nat → Nat → Int32 → Int32
  | 0, _, x => x
  | n + 1, i, x => m_cntG li n (i + 1) (if 0 ≤ m_sheetAt li (nI i) then x else x + 1)
/-! The class, as it computes. Memory: inFrame, inSlot, marks, places, pageCounts, words (rows), handAt, faultCount, evictedCount. -/
abbrev KM : Type := (Nat → Int32) × (Nat → Int32) × (Nat → Int32) × (Nat → Int32) × (Nat → Int32) × (Nat → Nat → Int32) × Int32 × Int32 × Int32
abbrev km_iF (k : KM) : Nat → Int32 := k.1
abbrev km_iS (k : KM) : Nat → Int32 := k.2.1
abbrev km_mk (k : KM) : Nat → Int32 := k.2.2.1
abbrev km_pl (k : KM) : Nat → Int32 := k.2.2.2.1
abbrev km_ct (k : KM) : Nat → Int32 := k.2.2.2.2.1
abbrev km_wd (k : KM) : Nat → Nat → Int32 := k.2.2.2.2.2.1
abbrev km_hd (k : KM) : Int32 := k.2.2.2.2.2.2.1
abbrev km_fl (k : KM) : Int32 := k.2.2.2.2.2.2.2.1
abbrev km_ev (k : KM) : Int32 := k.2.2.2.2.2.2.2.2
abbrev ku_iF (k : KM) (f : Nat → Int32) : KM := (f, k.2)
abbrev ku_iS (k : KM) (f : Nat → Int32) : KM := (k.1, f, k.2.2)
abbrev ku_mk (k : KM) (f : Nat → Int32) : KM := (k.1, k.2.1, f, k.2.2.2)
abbrev ku_pl (k : KM) (f : Nat → Int32) : KM := (k.1, k.2.1, k.2.2.1, f, k.2.2.2.2)
abbrev ku_ct (k : KM) (f : Nat → Int32) : KM := (k.1, k.2.1, k.2.2.1, k.2.2.2.1, f, k.2.2.2.2.2)
abbrev ku_wd (k : KM) (f : Nat → Nat → Int32) : KM := (k.1, k.2.1, k.2.2.1, k.2.2.2.1, k.2.2.2.2.1, f, k.2.2.2.2.2.2)
abbrev ku_hd (k : KM) (x : Int32) : KM := (k.1, k.2.1, k.2.2.1, k.2.2.2.1, k.2.2.2.2.1, k.2.2.2.2.2.1, x, k.2.2.2.2.2.2.2)
abbrev ku_fl (k : KM) (x : Int32) : KM := (k.1, k.2.1, k.2.2.1, k.2.2.2.1, k.2.2.2.2.1, k.2.2.2.2.2.1, k.2.2.2.2.2.2.1, x, k.2.2.2.2.2.2.2.2)
abbrev ku_ev (k : KM) (x : Int32) : KM := (k.1, k.2.1, k.2.2.1, k.2.2.2.1, k.2.2.2.2.1, k.2.2.2.2.2.1, k.2.2.2.2.2.2.1, k.2.2.2.2.2.2.2.1, x)
def k_low (f : Nat → Int32) : Nat → Nat → Int32
  | 0, _ => -1
  | n + 1, i => if f i = -1 then nI i else k_low f n (i + 1)
def k_cnt (f : Nat → Int32) : Nat → Nat → Int32 → Int32
  | 0, _, a => a
  | n + 1, i, a => k_cnt f n (i + 1) (if f i = -1 then a + 1 else a)
def k_next (F : Nat) (h : Int32) : Int32 := if nI F ≤ h + 1 then 0 else h + 1
def k_sweep (F : Nat) : Nat → (Nat → Int32) → Int32 → (Nat → Int32) × Int32
  | 0, mq, h => (mq, h)
  | n + 1, mq, h => if mq (ix h) = 0 then (mq, h) else k_sweep F n (upd mq (ix h) 0) (k_next F h)
def k_evict (F : Nat) (k : KM) (slot : Int32) : Int32 × KM :=
  let q := k_sweep F F (km_mk k) (km_hd k)
  let a := km_iF k (ix q.2)
  (q.2, (upd (km_iF k) (ix q.2) (-1), upd (km_iS k) (ix slot) a, q.1, upd (km_pl k) (ix a) (100 + slot), km_ct k, km_wd k, k_next F q.2, km_fl k, km_ev k + 1))
def k_getFrame (F S : Nat) (k : KM) : Int32 × KM :=
  if k_low (km_iF k) F 0 = -1 then (if k_low (km_iS k) S 0 = -1 then (-1, k) else k_evict F k (k_low (km_iS k) S 0)) else (k_low (km_iF k) F 0, k)
def k_lay (k : KM) (a f : Int32) : KM :=
  ku_fl (ku_pl (ku_iF k (upd (km_iF k) (ix f) a)) (upd (km_pl k) (ix a) f)) (km_fl k + 1)
def k_freePlace (k : KM) (pl : Int32) : KM :=
  if pl < 100 then ku_mk (ku_iF k (upd (km_iF k) (ix pl) (-1))) (upd (km_mk k) (ix pl) 0) else ku_iS k (upd (km_iS k) (ix (pl - 100)) (-1))
def k_bringIn (F S : Nat) (k : KM) (a : Int32) : KM :=
  let q := k_getFrame F S (k_freePlace k (km_pl k (ix a)))
  k_lay q.2 a q.1
def k_tch (F S : Nat) (k : KM) (a : Int32) : KM := if km_pl k (ix a) < 100 then k else k_bringIn F S k a
def k_touch (F S : Nat) (k : KM) (a : Int32) : KM :=
  ku_mk (k_tch F S k a) (upd (km_mk (k_tch F S k a)) (ix (km_pl (k_tch F S k a) (ix a))) 1)
def k_join (k : KM) (a : Int32) : KM := ku_ct k (upd (km_ct k) (ix a) (km_ct k (ix a) + 1))
def k_leave (k : KM) (a : Int32) : Int32 × KM :=
  let k1 := ku_ct k (upd (km_ct k) (ix a) (km_ct k (ix a) - 1))
  if km_ct k (ix a) - 1 ≤ 0 then (1, ku_pl (k_freePlace k1 (km_pl k (ix a))) (upd (km_pl (k_freePlace k1 (km_pl k (ix a)))) (ix a) (-1))) else (0, k1)
def k_make (F S : Nat) (k : KM) : Int32 × KM :=
  if k_low (km_pl k) (F + S) 0 = -1 then (-1, k) else
  if (k_getFrame F S k).1 = -1 then (-1, (k_getFrame F S k).2) else
  let k1 := (k_getFrame F S k).2
  let a := k_low (km_pl k) (F + S) 0
  (a, k_lay (ku_ct (ku_wd k1 (up2 (km_wd k1) (ix a) (fun _ => 0))) (upd (km_ct k1) (ix a) 1)) a (k_getFrame F S k).1)
def k_write (F S : Nat) (k : KM) (a i w : Int32) : KM :=
  ku_wd (k_touch F S k a) (up2 (km_wd (k_touch F S k a)) (ix a) (upd (km_wd (k_touch F S k a) (ix a)) (ix i) w))
def k_cpw (k : KM) (a b : Int32) : KM := ku_wd k (up2 (km_wd k) (ix b) (va_cpy (km_wd k (ix a)) (km_wd k (ix b)) 0 0 4))
end
section
/-! The cells of the two programs. -/
/-- the class: there, sheets (rows), wordsCopied, the memory -/
abbrev KS : Type := (Nat → Int32) × (Nat → Nat → Int32) × Int32 × KM
abbrev ks_th (q : KS) : Nat → Int32 := q.1
abbrev ks_pg (q : KS) : Nat → Nat → Int32 := q.2.1
abbrev ks_cp (q : KS) : Int32 := q.2.2.1
abbrev ks_m (q : KS) : KM := q.2.2.2
abbrev kv_th (q : KS) (f : Nat → Int32) : KS := (f, q.2)
abbrev kv_pg (q : KS) (f : Nat → Nat → Int32) : KS := (q.1, f, q.2.2)
abbrev kv_cp (q : KS) (x : Int32) : KS := (q.1, q.2.1, x, q.2.2.2)
abbrev kv_m (q : KS) (k : KM) : KS := (q.1, q.2.1, q.2.2.1, k)
abbrev ra (f : Nat → Nat) : (Nat → Int32) ⊕ (Nat → Int64) ⊕ (Nat → UInt32) ⊕ (Nat → UInt64) ⊕ (Nat → Option Nat) := .inr (.inr (.inr (.inr (fun i => some (f i)))))
abbrev mW (b : Nat → Nat) (F S : Nat) (tI tZ tA : ClassId) (k : KM) : va_W :=
  [(b 9, .inr (1, [.ref (b 10), .ref (b 11), .ref (b 12), .ref (b 13), .ref (b 14), .ref (b 15), .int (km_hd k), .int (km_fl k), .int (km_ev k)])), (b 10, .inl (tI, F, .inl (km_iF k))), (b 11, .inl (tI, S, .inl (km_iS k))), (b 12, .inl (tZ, F, .inl (km_mk k))), (b 13, .inl (tI, F + S, .inl (km_pl k))), (b 14, .inl (tI, F + S, .inl (km_ct k))), (b 15, .inl (tA, F + S, ra (fun i => b (16 + i))))] ++ (pl_rows b 16 (F + S) 4 tI (km_wd k) ++ [])
abbrev x3 (b : Nat → Nat) (tZ tA : ClassId) (q : KS) : va_W :=
  [(b 0, .inr (0, [.ref (b 1), .ref (b 2), .ref (b 9), .int (ks_cp q)])), (b 1, .inl (tZ, 6, .inl (ks_th q))), (b 2, .inl (tA, 6, ra (fun i => b (3 + i))))]
abbrev xW (b : Nat → Nat) (F S : Nat) (tI tZ tA : ClassId) (q : KS) : va_W := x3 b tZ tA q ++ (pl_rows b 3 6 6 tI (ks_pg q) ++ mW b F S tI tZ tA (ks_m q))
/-- the reference; tw: what it keeps in 'thrown' -/
abbrev tW (b : Nat → Nat) (F S : Nat) (tI tZ : ClassId) (tw : Int32) (s : Sg) : va_W :=
  [(b 0, .inr (2, [.int tw, .int (nI F), .int (nI S), .ref (b 1), .int (sg_hd s), .ref (b 2), .ref (b 3), .ref (b 4), .ref (b 5), .int (sg_fl s), .int (sg_ev s), .int (sg_cp s)])), (b 1, .inl (tZ, 8, .inl (sg_mk s))), (b 2, .inl (tI, 18, .inl (sg_li s))), (b 3, .inl (tI, 72, .inl (sg_wd s))), (b 4, .inl (tZ, 6, .inl (sg_th s))), (b 5, .inl (tI, 36, .inl (sg_pg s)))]
theorem nar0 : vp_nar .boolean 0 = 0 := by decide
theorem nar1 : vp_nar .boolean 1 = 1 := by decide
/-- what a method that reads alone is given -/
abbrev pR (D : va_G) (tI tZ tA tJ : ClassId) (av : List Value) (ws : va_W) (B : Prop) : Array Value → State → Prop := va_Pc av (fun U => TB D tI tZ tA tJ U ∧ B ∧ va_P D vcl ws U.heap)
/-- .. and one that writes -/
abbrev pW (D : va_G) (tI tZ tA tJ : ClassId) (av : List Value) (ws : va_W) (sz : Nat) (B : Prop) : Array Value → State → Prop := va_Pc av (fun U => TB D tI tZ tA tJ U ∧ B ∧ U.heap.size = sz ∧ va_P D vcl ws U.heap ∧ va_D (fun _ => True) ws)
theorem pR.blind {D : va_G} {tI tZ tA tJ : ClassId} {av : List Value} {ws : va_W} {B : Prop} : FrameBlind (pR D tI tZ tA tJ av ws B) := fun _ U g mk h => ⟨h.1, h.2.1.same (U := U.calling g mk _) rfl, h.2.2.1, h.2.2.2⟩
theorem pW.blind {D : va_G} {tI tZ tA tJ : ClassId} {av : List Value} {ws : va_W} {sz : Nat} {B : Prop} : FrameBlind (pW D tI tZ tA tJ av ws sz B) := fun _ U g mk h => ⟨h.1, h.2.1.same (U := U.calling g mk _) rfl, h.2.2.1, h.2.2.2.1, h.2.2.2.2⟩
theorem pR.at {D : va_G} {tI tZ tA tJ : ClassId} {av : List Value} {ws : va_W} {B : Prop} {s : State} {H : Heap} (hT : TB D tI tZ tA tJ s) (hB : B) (hP : va_P D vcl ws H) : ∀ U : State, U.heap = H → s.WarmedH U.vm → pR D tI tZ tA tJ av ws B av.toArray U := fun U hU hW => ⟨rfl, hT.warm hW, hB, by rw [hU]; exact hP⟩
theorem pW.at {D : va_G} {tI tZ tA tJ : ClassId} {av : List Value} {ws : va_W} {B : Prop} {s : State} {H : Heap} {A : Nat → Prop} (hT : TB D tI tZ tA tJ s) (hB : B) (hP : va_P D vcl ws H) (hD : va_D A ws) : ∀ U : State, U.heap = H → s.WarmedH U.vm → pW D tI tZ tA tJ av ws H.size B av.toArray U := fun U hU hW => ⟨rfl, hT.warm hW, hB, by rw [hU], by rw [hU]; exact hP, hD.weaken (fun _ _ _ _ => trivial)⟩
end
section
/-! a call that has one cell of the world -/
section OB6
variable {p : Program} {l : Launch} {e : Env} {R : Room} {s : State} {m : MethodId} {args : Array Value} {below : List Frame} {meth : Method} {c : Code} {H : Heap} {locs : List Loc} {cells slots : Nat} {Q : State → Prop}
variable {pc : Nat} {ls : Array Slot} {rest st0 : List Value} {a : Array Value} {mc ms : Nat} {D : va_G} {cl : List vw_C} {A : Nat → Prop} {H0 : Heap}
theorem ob_callC {v : Option Value} {ws : va_W} {q0 x : Nat} {e0 e1 : va_E} (hr : ob_Run p l e R s m args below meth c H locs cells slots mc ms (F0 m pc ls st0) rest (ob_qW D cl v [(x, e1)] (va_A [(x, e0)] H.size) a) (va_A [(x, e0)] H.size)) (ha : ws[q0]? = some (x, e0)) (hP : va_P D cl ws H) (hD : va_D A ws) (hS : va_S A H0 H locs) (hA : ∀ q, H0.size ≤ q → A q)
    (kk : ∀ (H1 : Heap) (locs1 : List Loc), va_P D cl (ws.set q0 (x, e1)) H1 → va_D A (ws.set q0 (x, e1)) → va_S A H0 H1 locs1 → W p l e R s m args below meth c H1 locs1 (cells + mc) (slots + ms) Q (F0 m (pc + 3) ls (v.toList ++ rest))) : W p l e R s m args below meth c H locs cells slots Q (F0 m pc ls st0) := by
  intro T hT Xs
  obtain ⟨o, st₀, t, T', L, h0, hal, X', hL, g1, g2, ⟨ho, hP1, hD1, hz, hk⟩, hret, -⟩ := hr T hT Xs
  rw [h0] at hz hk
  have one : ∀ (k : Nat) (q : Nat × va_E), ([(x, e0)] : va_W)[k]? = some q → q = (x, e0) := fun k q hq => by
    have := List.mem_of_getElem? hq
    exact List.mem_singleton.mp this
  have hF : ∀ q, va_A [(x, e0)] H.size q → A q := by
    intro q h
    rcases h with ⟨k, e9, h⟩ | h
    · have := one k _ h
      rw [show q = x from congrArg Prod.fst this]
      exact hD.2 q0 _ ha
    · exact hA q (Nat.le_trans hS.1 h)
  have hlt := (List.getElem?_eq_some_iff.mp ha).1
  have hP2 : va_P D cl (ws.set q0 (x, e1)) t.heap := by
    intro k q hq
    by_cases hkq : k = q0
    · subst hkq
      rw [List.getElem?_set_self hlt] at hq
      cases hq
      exact hP1 0 _ rfl
    · rw [List.getElem?_set_ne (Ne.symm hkq)] at hq
      refine (hP k q hq).kept (hk q.1 (hP k q hq).lt fun h => ?_)
      rcases h with ⟨k2, e9, h⟩ | h
      · have h5 : q.1 = x := congrArg Prod.fst (one k2 _ h)
        exact hkq (hD.1 k q0 q (x, e0) hq ha h5)
      · have := (hP k q hq).lt
        omega
  obtain ⟨t2, a1, b1⟩ := kk t.heap (locs ++ L) hP2 (hD.set ha) ⟨Nat.le_trans hS.1 hz, fun q h1 h2 => by rw [hk q (Nat.lt_of_lt_of_le h1 hS.1) (fun z => h2 (hF q z))]; exact hS.2.1 q h1 h2, fun q hq => by
      rcases List.mem_append.mp hq with h | h
      · exact hS.2.2 q h
      · exact hF _ (hL q h)⟩ T' g1 X'
  exact ⟨t2, hret v ho t2 a1, b1⟩
end OB6
theorem ob_P1 {D : va_G} {cl : List vw_C} {ws : va_W} {H : Heap} {q x : Nat} {e0 : va_E} (hP : va_P D cl ws H) (ha : ws[q]? = some (x, e0)) : va_P D cl [(x, e0)] H := by
  intro k z hz
  have := List.mem_singleton.mp (List.mem_of_getElem? hz)
  rw [this]
  exact hP q _ ha
theorem ob_D1 {A : Nat → Prop} {ws : va_W} {q x : Nat} {e0 : va_E} (hD : va_D A ws) (ha : ws[q]? = some (x, e0)) : va_D A [(x, e0)] := by
  refine ⟨fun i j y z hi hj _ => ?_, fun k z hz => ?_⟩
  · have h1 := (List.getElem?_eq_some_iff.mp hi).1
    have h2 := (List.getElem?_eq_some_iff.mp hj).1
    simp only [List.length_singleton] at h1 h2
    omega
  · have := List.mem_singleton.mp (List.mem_of_getElem? hz)
    rw [this]
    exact hD.2 q _ ha
end
section
set_option maxHeartbeats 4000000 in
set_option maxRecDepth 100000 in
/-- placeOf -/
theorem c_M_placeOf (l : Launch) (D : va_G) (tI tZ tA tJ : ClassId) (b : Nat → Nat) (F S : Nat) (k : KM) (a : Int32) : ob_M l y_M_placeOf w_M_placeOf ({ frames := 0, cells := 0, slots := 0, locals := 0 }) (pR D tI tZ tA tJ [.ref (b 9), .int a] (mW b F S tI tZ tA k) (vp_in a (F + S))) (ob_qR (some (.int (km_pl k (ix a))))) 0 0 (fun _ => False) := by
  refine ob_ofW (by decide +kernel) ?_
  intro p e s m args below meth c s₁ B hml htab hv
  obtain ⟨rfl, hT, hin, hP⟩ := hv
  have hx := B.exec
  have hb := B.bytes
  have hr := B.returns
  have hlocks := B.notSynchronized
  have hown : s.vm.findClass R_M = some m.cls := findClass_of_methodNamed B.named
  have hl := lv_entry ([.ref (b 9), .int a]) (n := 2) (Nat.le_of_ble_eq_true rfl)
  rw [lg_entry_eq]
  generalize (lg_sl ([.ref (b 9), .int a]) ++ List.replicate (2 - (lg_sl ([.ref (b 9), .int a])).length) Slot.unset).toArray = ls at hl ⊢
  have hl : lv_has ls 2 [(0, .ref (b 9)), (1, .int a)] := hl
  refine lv_aload_n hx hb d_M_placeOf_0 rfl (lv_at hl 0 rfl) ?_
  refine va_get (D := D) (ci := 1) (v := .ref (b 13)) hx hb hT.lays ly_M hown hT.1 hP 0 rfl rfl 3 (by decide) (hT.w k_M_26) (fun _ h => h) rfl d_M_placeOf_1 ?_
  refine lv_iload_n hx hb d_M_placeOf_4 rfl (lv_at hl 1 rfl) ?_
  refine va_iald hx hb hT.1 hP 4 0 rfl rfl (hin) d_M_placeOf_5 ?_
  refine ob_iret hlocks hx hb hr d_M_placeOf_6 (fun q hq => nomatch hq) (fun t ht hW => ?_)
  exact ⟨rfl, ht⟩

set_option maxHeartbeats 4000000 in
set_option maxRecDepth 100000 in
/-- pagesOf -/
theorem c_M_pagesOf (l : Launch) (D : va_G) (tI tZ tA tJ : ClassId) (b : Nat → Nat) (F S : Nat) (k : KM) (a : Int32) : ob_M l y_M_pagesOf w_M_pagesOf ({ frames := 0, cells := 0, slots := 0, locals := 0 }) (pR D tI tZ tA tJ [.ref (b 9), .int a] (mW b F S tI tZ tA k) (vp_in a (F + S))) (ob_qR (some (.int (km_ct k (ix a))))) 0 0 (fun _ => False) := by
  refine ob_ofW (by decide +kernel) ?_
  intro p e s m args below meth c s₁ B hml htab hv
  obtain ⟨rfl, hT, hin, hP⟩ := hv
  have hx := B.exec
  have hb := B.bytes
  have hr := B.returns
  have hlocks := B.notSynchronized
  have hown : s.vm.findClass R_M = some m.cls := findClass_of_methodNamed B.named
  have hl := lv_entry ([.ref (b 9), .int a]) (n := 2) (Nat.le_of_ble_eq_true rfl)
  rw [lg_entry_eq]
  generalize (lg_sl ([.ref (b 9), .int a]) ++ List.replicate (2 - (lg_sl ([.ref (b 9), .int a])).length) Slot.unset).toArray = ls at hl ⊢
  have hl : lv_has ls 2 [(0, .ref (b 9)), (1, .int a)] := hl
  refine lv_aload_n hx hb d_M_pagesOf_0 rfl (lv_at hl 0 rfl) ?_
  refine va_get (D := D) (ci := 1) (v := .ref (b 14)) hx hb hT.lays ly_M hown hT.1 hP 0 rfl rfl 4 (by decide) (hT.w k_M_29) (fun _ h => h) rfl d_M_pagesOf_1 ?_
  refine lv_iload_n hx hb d_M_pagesOf_4 rfl (lv_at hl 1 rfl) ?_
  refine va_iald hx hb hT.1 hP 5 0 rfl rfl (hin) d_M_pagesOf_5 ?_
  refine ob_iret hlocks hx hb hr d_M_pagesOf_6 (fun q hq => nomatch hq) (fun t ht hW => ?_)
  exact ⟨rfl, ht⟩

set_option maxHeartbeats 4000000 in
set_option maxRecDepth 100000 in
/-- moveHand -/
theorem c_M_moveHand (l : Launch) (D : va_G) (tI tZ tA tJ : ClassId) (b : Nat → Nat) (F S sz : Nat) (k : KM) : ob_M l y_M_moveHand w_M_moveHand ({ frames := 0, cells := 0, slots := 0, locals := 0 }) (pW D tI tZ tA tJ [.ref (b 9)] (mW b F S tI tZ tA k) sz True) (ob_qW D vcl none (mW b F S tI tZ tA (ku_hd k (k_next F (km_hd k)))) (va_A (mW b F S tI tZ tA k) sz)) 0 0 (va_A (mW b F S tI tZ tA k) sz) := by
  refine ob_ofW (by decide +kernel) ?_
  intro p e s m args below meth c s₁ B hml htab hv
  obtain ⟨rfl, hT, -, hsz, hP, hD0⟩ := hv
  have hx := B.exec
  have hb := B.bytes
  have hr := B.returns
  have hlocks := B.notSynchronized
  have hown : s.vm.findClass R_M = some m.cls := findClass_of_methodNamed B.named
  have hl := lv_entry ([.ref (b 9)]) (n := 1) (Nat.le_of_ble_eq_true rfl)
  rw [lg_entry_eq]
  generalize (lg_sl ([.ref (b 9)]) ++ List.replicate (1 - (lg_sl ([.ref (b 9)])).length) Slot.unset).toArray = ls at hl ⊢
  have hl : lv_has ls 1 [(0, .ref (b 9))] := hl
  subst hsz
  have hD := hD0.self (sz := s.heap.size)
  generalize hAe : va_A (mW b F S tI tZ tA k) s.heap.size = A at hD ⊢
  have hA : ∀ q : Nat, s.heap.size ≤ q → A q := fun q h => by rw [← hAe]; exact Or.inr h
  have hS : va_S A s.heap s.heap [] := va_S.rf
  refine lv_aload_n hx hb d_M_moveHand_0 rfl (lv_at hl 0 rfl) ?_
  refine lv_aload_n hx hb d_M_moveHand_1 rfl (lv_at hl 0 rfl) ?_
  refine va_get (D := D) (ci := 1) (v := .int (km_hd k)) hx hb hT.lays ly_M hown hT.1 hP 0 rfl rfl 6 (by decide) (hT.w k_M_79) (fun _ h => h) rfl d_M_moveHand_2 ?_
  refine lv_iconst (v := 1) hx hb d_M_moveHand_5 (by decide) ?_
  refine lv_iadd hx hb d_M_moveHand_6 ?_
  refine lv_aload_n hx hb d_M_moveHand_7 rfl (lv_at hl 0 rfl) ?_
  refine va_get (D := D) (ci := 1) (v := .ref (b 12)) hx hb hT.lays ly_M hown hT.1 hP 0 rfl rfl 2 (by decide) (hT.w k_M_22) (fun _ h => h) rfl d_M_moveHand_8 ?_
  refine va_alen (v := nI F) hx hb hT.1 hP 3 1 rfl rfl rfl d_M_moveHand_11 ?_
  refine lv_icmp_ge (tgt := 24) hx hb d_M_moveHand_12 (by decide) (fun hc => ?_) (fun hc => ?_)
  · refine lv_iconst (v := 0) hx hb d_M_moveHand_24 (by decide) ?_
    refine va_put (D := D) (ci := 1) (v := .int 0) (ty := .int) hx hb hT.lays ly_M ty_M ty_M_ok n_M hown hT.1 hP hD hS 0 rfl rfl 6 (by decide) (hT.w k_M_79) (fun _ h => h) rfl (by decide +kernel) rfl rfl (Nat.le_of_ble_eq_true rfl) d_M_moveHand_25 (fun H locs hP hD hS => ?_)
    have hP : va_P D vcl (mW b F S tI tZ tA (ku_hd k 0)) H := hP
    have hD : va_D A (mW b F S tI tZ tA (ku_hd k 0)) := hD
    refine ob_vret hlocks hx hb hr d_M_moveHand_28 hS.2.2 (fun t ht hW => ?_)
    have e1 : k_next F (km_hd k) = 0 := if_pos hc
    rw [e1]
    exact ⟨rfl, by rw [ht]; exact hP, hD, hS.F ht⟩
  · refine lv_aload_n hx hb d_M_moveHand_15 rfl (lv_at hl 0 rfl) ?_
    refine va_get (D := D) (ci := 1) (v := .int (km_hd k)) hx hb hT.lays ly_M hown hT.1 hP 0 rfl rfl 6 (by decide) (hT.w k_M_79) (fun _ h => h) rfl d_M_moveHand_16 ?_
    refine lv_iconst (v := 1) hx hb d_M_moveHand_19 (by decide) ?_
    refine lv_iadd hx hb d_M_moveHand_20 ?_
    refine lv_goto (tgt := 25) hx hb d_M_moveHand_21 (by decide) ?_
    refine va_put (D := D) (ci := 1) (v := .int ((km_hd k) + 1)) (ty := .int) hx hb hT.lays ly_M ty_M ty_M_ok n_M hown hT.1 hP hD hS 0 rfl rfl 6 (by decide) (hT.w k_M_79) (fun _ h => h) rfl (by decide +kernel) rfl rfl (Nat.le_of_ble_eq_true rfl) d_M_moveHand_25 (fun H locs hP hD hS => ?_)
    have hP : va_P D vcl (mW b F S tI tZ tA (ku_hd k ((km_hd k) + 1))) H := hP
    have hD : va_D A (mW b F S tI tZ tA (ku_hd k ((km_hd k) + 1))) := hD
    refine ob_vret hlocks hx hb hr d_M_moveHand_28 hS.2.2 (fun t ht hW => ?_)
    have e1 : k_next F (km_hd k) = km_hd k + 1 := if_neg hc
    rw [e1]
    exact ⟨rfl, by rw [ht]; exact hP, hD, hS.F ht⟩
end
section
theorem k_next_in {F : Nat} {h : Int32} (hF : F ≤ 8) (hh : vp_in h F) : vp_in (k_next F h) F := by
  obtain ⟨j, hj, rfl⟩ := vp_in_of hh (by omega)
  unfold k_next
  rw [nI_1]
  by_cases h1 : nI F ≤ nI (j + 1)
  · rw [if_pos h1]
    have := vp_in_nI (n := 0) (N := F) (by omega) (by omega)
    exact this
  · rw [if_neg h1]
    have : ¬ F ≤ j + 1 := fun h2 => h1 ((nI_leI (by omega) (by omega)).mpr h2)
    exact vp_in_nI (by omega) (by omega)
/-- what freePlace, evictInto, getFrame ask -/
def fp_ok (F S : Nat) (pl : Int32) : Prop := (pl < 100 → vp_in pl F) ∧ (¬ pl < 100 → vp_in (pl - 100) S)
def ev_ok (F S : Nat) (k : KM) (slot : Int32) : Prop := F ≤ 8 ∧ vp_in slot S ∧ vp_in (km_hd k) F ∧ vp_in (k_sweep F F (km_mk k) (km_hd k)).2 F ∧ vp_in (km_iF k (ix (k_sweep F F (km_mk k) (km_hd k)).2)) (F + S)
def gf_ok (F S : Nat) (k : KM) : Prop := F ≤ 8 ∧ S ≤ 10 ∧ (k_low (km_iF k) F 0 = -1 → ¬ k_low (km_iS k) S 0 = -1 → ev_ok F S k (k_low (km_iS k) S 0))

set_option maxHeartbeats 4000000 in
set_option maxRecDepth 100000 in
/-- the lowest place that holds -1 -/
theorem c_X_lowestFree (l : Launch) (D : va_G) (tI tZ tA tJ : ClassId) (a L : Nat) (f : Nat → Int32) : ob_M l y_X_lowestFree w_X_lowestFree ({ frames := 0, cells := 0, slots := 0, locals := 0 }) (pR D tI tZ tA tJ [.ref a] [(a, .inl (tI, L, .inl f))] (L < 2 ^ 31)) (ob_qR (some (.int (k_low f L 0)))) 0 0 (fun _ => False) := by
  refine ob_ofW (by decide +kernel) ?_
  intro p e s m args below meth c s₁ B hml htab hv
  obtain ⟨rfl, hT, hL, hP⟩ := hv
  have hx := B.exec
  have hb := B.bytes
  have hr := B.returns
  have hlocks := B.notSynchronized
  have hown : s.vm.findClass R_X = some m.cls := findClass_of_methodNamed B.named
  have hl := lv_entry ([.ref a]) (n := 2) (Nat.le_of_ble_eq_true rfl)
  rw [lg_entry_eq]
  generalize (lg_sl ([.ref a]) ++ List.replicate (2 - (lg_sl ([.ref a])).length) Slot.unset).toArray = ls at hl ⊢
  have hl : lv_has ls 2 [(0, .ref a)] := hl
  have loop : ∀ (n i : Nat) (ls : Array Slot), i + n = L → k_low f n i = k_low f L 0 → lv_has ls 2 [(1, .int (nI i)), (0, .ref a)] → W p l e ({ frames := 0, cells := 0, slots := 0, locals := 0 } : Room) s m ([.ref a] : List Value).toArray below meth c s.heap [] 0 0 (ob_Q below (ob_qR (some (.int (k_low f L 0)))) ([.ref a] : List Value).toArray s 0 0 (fun _ => False)) (F0 m 2 ls []) := by
    intro n
    induction n with
    | zero =>
      intro i ls hi hR hl
      refine lv_iload_n hx hb d_X_lowestFree_2 rfl (lv_at hl 0 rfl) ?_
      refine lv_aload_n hx hb d_X_lowestFree_3 rfl (lv_at hl 1 rfl) ?_
      refine va_alen (v := nI L) hx hb hT.1 hP 0 0 rfl rfl rfl d_X_lowestFree_4 ?_
      refine lv_icmp_ge (tgt := 23) hx hb d_X_lowestFree_5 (by decide) (fun hc => ?_) (fun hc => absurd (nI_le (by omega) (by omega)) hc)
      refine lv_iconst (v := -1) hx hb d_X_lowestFree_23 (by decide) ?_
      rw [← hR]
      refine ob_iret hlocks hx hb hr d_X_lowestFree_24 (fun q hq => nomatch hq) (fun t ht hW => ?_)
      exact ⟨rfl, ht⟩
    | succ n ih =>
      intro i ls hi hR hl
      refine lv_iload_n hx hb d_X_lowestFree_2 rfl (lv_at hl 0 rfl) ?_
      refine lv_aload_n hx hb d_X_lowestFree_3 rfl (lv_at hl 1 rfl) ?_
      refine va_alen (v := nI L) hx hb hT.1 hP 0 0 rfl rfl rfl d_X_lowestFree_4 ?_
      refine lv_icmp_ge (tgt := 23) hx hb d_X_lowestFree_5 (by decide) (fun hc => absurd hc (nI_ge (by omega) (by omega))) (fun hc => ?_)
      have hv : f (ix (nI i)) = f i := by show f (nI i).toNatClampNeg = f i; rw [nI_clamp (by omega)]
      refine lv_aload_n hx hb d_X_lowestFree_8 rfl (lv_at hl 1 rfl) ?_
      refine lv_iload_n hx hb d_X_lowestFree_9 rfl (lv_at hl 0 rfl) ?_
      refine va_iald hx hb hT.1 hP 0 0 rfl rfl (vp_in_nI (by omega) (by omega)) d_X_lowestFree_10 ?_
      rw [hv]
      refine lv_iconst (v := -1) hx hb d_X_lowestFree_11 (by decide) ?_
      refine lv_icmp_ne (tgt := 17) hx hb d_X_lowestFree_12 (by decide) (fun hc => ?_) (fun hc => ?_)
      · refine lv_iinc (k := 0) (v := nI (i + 1)) (lv' := [(1, .int (nI (i + 1))), (0, .ref a)]) hx hb d_X_lowestFree_17 hl rfl (nI_1 i) (by decide) rfl (fun ls hl => ?_)
        refine lv_goto (tgt := 2) hx hb d_X_lowestFree_20 (by decide) ?_
        refine ih (i + 1) ls (by omega) ?_ hl
        rw [← hR]
        exact (if_neg hc).symm
      · have e1 : k_low f (n + 1) i = nI i := if_pos hc
        rw [← hR, e1]
        refine lv_iload_n hx hb d_X_lowestFree_15 rfl (lv_at hl 0 rfl) ?_
        refine ob_iret hlocks hx hb hr d_X_lowestFree_16 (fun q hq => nomatch hq) (fun t ht hW => ?_)
        exact ⟨rfl, ht⟩
  refine lv_iconst (v := 0) hx hb d_X_lowestFree_0 (by decide) ?_
  refine lv_istore_n (lv' := [(1, .int 0), (0, .ref a)]) hx hb d_X_lowestFree_1 rfl hl (by decide) rfl (fun ls hl => ?_)
  exact loop L 0 ls (by omega) rfl hl

set_option maxHeartbeats 4000000 in
set_option maxRecDepth 100000 in
/-- how many places hold -1 -/
theorem c_X_countFree (l : Launch) (D : va_G) (tI tZ tA tJ : ClassId) (a L : Nat) (f : Nat → Int32) : ob_M l y_X_countFree w_X_countFree ({ frames := 0, cells := 0, slots := 0, locals := 0 }) (pR D tI tZ tA tJ [.ref a] [(a, .inl (tI, L, .inl f))] (L < 2 ^ 31)) (ob_qR (some (.int (k_cnt f L 0 0)))) 0 0 (fun _ => False) := by
  refine ob_ofW (by decide +kernel) ?_
  intro p e s m args below meth c s₁ B hml htab hv
  obtain ⟨rfl, hT, hL, hP⟩ := hv
  have hx := B.exec
  have hb := B.bytes
  have hr := B.returns
  have hlocks := B.notSynchronized
  have hown : s.vm.findClass R_X = some m.cls := findClass_of_methodNamed B.named
  have hl := lv_entry ([.ref a]) (n := 3) (Nat.le_of_ble_eq_true rfl)
  rw [lg_entry_eq]
  generalize (lg_sl ([.ref a]) ++ List.replicate (3 - (lg_sl ([.ref a])).length) Slot.unset).toArray = ls at hl ⊢
  have hl : lv_has ls 3 [(0, .ref a)] := hl
  have loop : ∀ (n i : Nat) (x : Int32) (ls : Array Slot), i + n = L → k_cnt f n i x = k_cnt f L 0 0 → lv_has ls 3 [(2, .int (nI i)), (1, .int x), (0, .ref a)] → W p l e ({ frames := 0, cells := 0, slots := 0, locals := 0 } : Room) s m ([.ref a] : List Value).toArray below meth c s.heap [] 0 0 (ob_Q below (ob_qR (some (.int (k_cnt f L 0 0)))) ([.ref a] : List Value).toArray s 0 0 (fun _ => False)) (F0 m 4 ls []) := by
    intro n
    induction n with
    | zero =>
      intro i x ls hi hR hl
      refine lv_iload_n hx hb d_X_countFree_4 rfl (lv_at hl 0 rfl) ?_
      refine lv_aload_n hx hb d_X_countFree_5 rfl (lv_at hl 2 rfl) ?_
      refine va_alen (v := nI L) hx hb hT.1 hP 0 0 rfl rfl rfl d_X_countFree_6 ?_
      refine lv_icmp_ge (tgt := 26) hx hb d_X_countFree_7 (by decide) (fun hc => ?_) (fun hc => absurd (nI_le (by omega) (by omega)) hc)
      rw [← hR]
      refine lv_iload_n hx hb d_X_countFree_26 rfl (lv_at hl 1 rfl) ?_
      refine ob_iret hlocks hx hb hr d_X_countFree_27 (fun q hq => nomatch hq) (fun t ht hW => ?_)
      exact ⟨rfl, ht⟩
    | succ n ih =>
      intro i x ls hi hR hl
      refine lv_iload_n hx hb d_X_countFree_4 rfl (lv_at hl 0 rfl) ?_
      refine lv_aload_n hx hb d_X_countFree_5 rfl (lv_at hl 2 rfl) ?_
      refine va_alen (v := nI L) hx hb hT.1 hP 0 0 rfl rfl rfl d_X_countFree_6 ?_
      refine lv_icmp_ge (tgt := 26) hx hb d_X_countFree_7 (by decide) (fun hc => absurd hc (nI_ge (by omega) (by omega))) (fun hc => ?_)
      have hv : f (ix (nI i)) = f i := by show f (nI i).toNatClampNeg = f i; rw [nI_clamp (by omega)]
      refine lv_aload_n hx hb d_X_countFree_10 rfl (lv_at hl 2 rfl) ?_
      refine lv_iload_n hx hb d_X_countFree_11 rfl (lv_at hl 0 rfl) ?_
      refine va_iald hx hb hT.1 hP 0 0 rfl rfl (vp_in_nI (by omega) (by omega)) d_X_countFree_12 ?_
      rw [hv]
      refine lv_iconst (v := -1) hx hb d_X_countFree_13 (by decide) ?_
      refine lv_icmp_ne (tgt := 20) hx hb d_X_countFree_14 (by decide) (fun hc => ?_) (fun hc => ?_)
      · refine lv_iinc (k := 0) (v := nI (i + 1)) (lv' := [(2, .int (nI (i + 1))), (1, .int x), (0, .ref a)]) hx hb d_X_countFree_20 hl rfl (nI_1 i) (by decide) rfl (fun ls hl => ?_)
        refine lv_goto (tgt := 4) hx hb d_X_countFree_23 (by decide) ?_
        have hl : lv_has ls 3 [(2, .int (nI (i + 1))), (1, .int x), (0, .ref a)] := hl
        refine ih (i + 1) x ls (by omega) ?_ hl
        rw [← hR]
        show _ = k_cnt f n (i + 1) (if f i = -1 then x + 1 else x)
        rw [if_neg hc]
      · refine lv_iinc (k := 1) (v := x + 1) (lv' := [(1, .int (x + 1)), (2, .int (nI i)), (0, .ref a)]) hx hb d_X_countFree_17 hl rfl (rfl) (by decide) rfl (fun ls hl => ?_)
        refine lv_iinc (k := 1) (v := nI (i + 1)) (lv' := [(2, .int (nI (i + 1))), (1, .int (x + 1)), (0, .ref a)]) hx hb d_X_countFree_20 hl rfl (nI_1 i) (by decide) rfl (fun ls hl => ?_)
        refine lv_goto (tgt := 4) hx hb d_X_countFree_23 (by decide) ?_
        refine ih (i + 1) (x + 1) ls (by omega) ?_ hl
        rw [← hR]
        show _ = k_cnt f n (i + 1) (if f i = -1 then x + 1 else x)
        rw [if_pos hc]
  refine lv_iconst (v := 0) hx hb d_X_countFree_0 (by decide) ?_
  refine lv_istore_n (lv' := [(1, .int 0), (0, .ref a)]) hx hb d_X_countFree_1 rfl hl (by decide) rfl (fun ls hl => ?_)
  refine lv_iconst (v := 0) hx hb d_X_countFree_2 (by decide) ?_
  refine lv_istore_n (lv' := [(2, .int 0), (1, .int 0), (0, .ref a)]) hx hb d_X_countFree_3 rfl hl (by decide) rfl (fun ls hl => ?_)
  exact loop L 0 0 ls (by omega) rfl hl

set_option maxHeartbeats 4000000 in
set_option maxRecDepth 100000 in
/-- M_join -/
theorem c_M_join (l : Launch) (D : va_G) (tI tZ tA tJ : ClassId) (b : Nat → Nat) (F S sz : Nat) (k : KM) (a : Int32) : ob_M l y_M_join w_M_join ({ frames := 0, cells := 0, slots := 0, locals := 0 }) (pW D tI tZ tA tJ [.ref (b 9), .int a] (mW b F S tI tZ tA k) sz (vp_in a (F + S))) (ob_qW D vcl none (mW b F S tI tZ tA (k_join k a)) (va_A (mW b F S tI tZ tA k) sz)) 0 0 (va_A (mW b F S tI tZ tA k) sz) := by
  refine ob_ofW (by decide +kernel) ?_
  intro p e s m args below meth c s₁ B hml htab hv
  obtain ⟨rfl, hT, hin, hsz, hP, hD0⟩ := hv
  have hx := B.exec
  have hb := B.bytes
  have hr := B.returns
  have hlocks := B.notSynchronized
  have hown : s.vm.findClass R_M = some m.cls := findClass_of_methodNamed B.named
  have hl := lv_entry ([.ref (b 9), .int a]) (n := 2) (Nat.le_of_ble_eq_true rfl)
  rw [lg_entry_eq]
  generalize (lg_sl ([.ref (b 9), .int a]) ++ List.replicate (2 - (lg_sl ([.ref (b 9), .int a])).length) Slot.unset).toArray = ls at hl ⊢
  have hl : lv_has ls 2 [(0, .ref (b 9)), (1, .int a)] := hl
  subst hsz
  have hD := hD0.self (sz := s.heap.size)
  generalize hAe : va_A (mW b F S tI tZ tA k) s.heap.size = A at hD ⊢
  have hA : ∀ q : Nat, s.heap.size ≤ q → A q := fun q h => by rw [← hAe]; exact Or.inr h
  have hS : va_S A s.heap s.heap [] := va_S.rf
  refine lv_aload_n hx hb d_M_join_0 rfl (lv_at hl 0 rfl) ?_
  refine va_get (D := D) (ci := 1) (v := .ref (b 14)) hx hb hT.lays ly_M hown hT.1 hP 0 rfl rfl 4 (by decide) (hT.w k_M_29) (fun _ h => h) rfl d_M_join_1 ?_
  refine lv_iload_n hx hb d_M_join_4 rfl (lv_at hl 1 rfl) ?_
  refine lv_dup2_11 hx hb d_M_join_5 rfl rfl ?_
  refine va_iald hx hb hT.1 hP 5 0 rfl rfl (hin) d_M_join_6 ?_
  refine lv_iconst (v := 1) hx hb d_M_join_7 (by decide) ?_
  refine lv_iadd hx hb d_M_join_8 ?_
  refine va_iast hx hb hT.1 hP hD hS 5 0 rfl rfl (hin) d_M_join_9 (fun H locs hP hD hS => ?_)
  have hP : va_P D vcl (mW b F S tI tZ tA (ku_ct k (upd (km_ct k) (ix a) (((km_ct k) (ix a)) + 1)))) H := hP
  have hD : va_D A (mW b F S tI tZ tA (ku_ct k (upd (km_ct k) (ix a) (((km_ct k) (ix a)) + 1)))) := hD
  refine ob_vret hlocks hx hb hr d_M_join_10 hS.2.2 (fun t ht hW => ?_)
  exact ⟨rfl, by rw [ht]; exact hP, hD, hS.F ht⟩

set_option maxHeartbeats 4000000 in
set_option maxRecDepth 100000 in
/-- M_layIntoFrame -/
theorem c_M_layIntoFrame (l : Launch) (D : va_G) (tI tZ tA tJ : ClassId) (b : Nat → Nat) (F S sz : Nat) (k : KM) (a f : Int32) : ob_M l y_M_layIntoFrame w_M_layIntoFrame ({ frames := 0, cells := 0, slots := 0, locals := 0 }) (pW D tI tZ tA tJ [.ref (b 9), .int a, .int f] (mW b F S tI tZ tA k) sz (vp_in f F ∧ vp_in a (F + S))) (ob_qW D vcl none (mW b F S tI tZ tA (k_lay k a f)) (va_A (mW b F S tI tZ tA k) sz)) 0 0 (va_A (mW b F S tI tZ tA k) sz) := by
  refine ob_ofW (by decide +kernel) ?_
  intro p e s m args below meth c s₁ B hml htab hv
  obtain ⟨rfl, hT, ⟨hf, ha⟩, hsz, hP, hD0⟩ := hv
  have hx := B.exec
  have hb := B.bytes
  have hr := B.returns
  have hlocks := B.notSynchronized
  have hown : s.vm.findClass R_M = some m.cls := findClass_of_methodNamed B.named
  have hl := lv_entry ([.ref (b 9), .int a, .int f]) (n := 3) (Nat.le_of_ble_eq_true rfl)
  rw [lg_entry_eq]
  generalize (lg_sl ([.ref (b 9), .int a, .int f]) ++ List.replicate (3 - (lg_sl ([.ref (b 9), .int a, .int f])).length) Slot.unset).toArray = ls at hl ⊢
  have hl : lv_has ls 3 [(0, .ref (b 9)), (1, .int a), (2, .int f)] := hl
  subst hsz
  have hD := hD0.self (sz := s.heap.size)
  generalize hAe : va_A (mW b F S tI tZ tA k) s.heap.size = A at hD ⊢
  have hA : ∀ q : Nat, s.heap.size ≤ q → A q := fun q h => by rw [← hAe]; exact Or.inr h
  have hS : va_S A s.heap s.heap [] := va_S.rf
  refine lv_aload_n hx hb d_M_layIntoFrame_0 rfl (lv_at hl 0 rfl) ?_
  refine va_get (D := D) (ci := 1) (v := .ref (b 10)) hx hb hT.lays ly_M hown hT.1 hP 0 rfl rfl 0 (by decide) (hT.w k_M_13) (fun _ h => h) rfl d_M_layIntoFrame_1 ?_
  refine lv_iload_n hx hb d_M_layIntoFrame_4 rfl (lv_at hl 2 rfl) ?_
  refine lv_iload_n hx hb d_M_layIntoFrame_5 rfl (lv_at hl 1 rfl) ?_
  refine va_iast hx hb hT.1 hP hD hS 1 0 rfl rfl (hf) d_M_layIntoFrame_6 (fun H locs hP hD hS => ?_)
  have hP : va_P D vcl (mW b F S tI tZ tA (ku_iF k (upd (km_iF k) (ix f) a))) H := hP
  have hD : va_D A (mW b F S tI tZ tA (ku_iF k (upd (km_iF k) (ix f) a))) := hD
  refine lv_aload_n hx hb d_M_layIntoFrame_7 rfl (lv_at hl 0 rfl) ?_
  refine va_get (D := D) (ci := 1) (v := .ref (b 13)) hx hb hT.lays ly_M hown hT.1 hP 0 rfl rfl 3 (by decide) (hT.w k_M_26) (fun _ h => h) rfl d_M_layIntoFrame_8 ?_
  refine lv_iload_n hx hb d_M_layIntoFrame_11 rfl (lv_at hl 1 rfl) ?_
  refine lv_iload_n hx hb d_M_layIntoFrame_12 rfl (lv_at hl 2 rfl) ?_
  refine va_iast hx hb hT.1 hP hD hS 4 0 rfl rfl (ha) d_M_layIntoFrame_13 (fun H locs hP hD hS => ?_)
  have hP : va_P D vcl (mW b F S tI tZ tA (ku_pl (ku_iF k (upd (km_iF k) (ix f) a)) (upd (km_pl (ku_iF k (upd (km_iF k) (ix f) a))) (ix a) f))) H := hP
  have hD : va_D A (mW b F S tI tZ tA (ku_pl (ku_iF k (upd (km_iF k) (ix f) a)) (upd (km_pl (ku_iF k (upd (km_iF k) (ix f) a))) (ix a) f))) := hD
  refine lv_aload_n hx hb d_M_layIntoFrame_14 rfl (lv_at hl 0 rfl) ?_
  refine lv_dup hx hb d_M_layIntoFrame_15 rfl ?_
  refine va_get (D := D) (ci := 1) (v := .int (km_fl (ku_pl (ku_iF k (upd (km_iF k) (ix f) a)) (upd (km_pl (ku_iF k (upd (km_iF k) (ix f) a))) (ix a) f)))) hx hb hT.lays ly_M hown hT.1 hP 0 rfl rfl 7 (by decide) (hT.w k_M_71) (fun _ h => h) rfl d_M_layIntoFrame_16 ?_
  refine lv_iconst (v := 1) hx hb d_M_layIntoFrame_19 (by decide) ?_
  refine lv_iadd hx hb d_M_layIntoFrame_20 ?_
  refine va_put (D := D) (ci := 1) (v := .int ((km_fl (ku_pl (ku_iF k (upd (km_iF k) (ix f) a)) (upd (km_pl (ku_iF k (upd (km_iF k) (ix f) a))) (ix a) f))) + 1)) (ty := .int) hx hb hT.lays ly_M ty_M ty_M_ok n_M hown hT.1 hP hD hS 0 rfl rfl 7 (by decide) (hT.w k_M_71) (fun _ h => h) rfl (by decide +kernel) rfl rfl (Nat.le_of_ble_eq_true rfl) d_M_layIntoFrame_21 (fun H locs hP hD hS => ?_)
  have hP : va_P D vcl (mW b F S tI tZ tA (ku_fl (ku_pl (ku_iF k (upd (km_iF k) (ix f) a)) (upd (km_pl (ku_iF k (upd (km_iF k) (ix f) a))) (ix a) f)) ((km_fl (ku_pl (ku_iF k (upd (km_iF k) (ix f) a)) (upd (km_pl (ku_iF k (upd (km_iF k) (ix f) a))) (ix a) f))) + 1))) H := hP
  have hD : va_D A (mW b F S tI tZ tA (ku_fl (ku_pl (ku_iF k (upd (km_iF k) (ix f) a)) (upd (km_pl (ku_iF k (upd (km_iF k) (ix f) a))) (ix a) f)) ((km_fl (ku_pl (ku_iF k (upd (km_iF k) (ix f) a)) (upd (km_pl (ku_iF k (upd (km_iF k) (ix f) a))) (ix a) f))) + 1))) := hD
  refine ob_vret hlocks hx hb hr d_M_layIntoFrame_24 hS.2.2 (fun t ht hW => ?_)
  exact ⟨rfl, by rw [ht]; exact hP, hD, hS.F ht⟩

set_option maxHeartbeats 4000000 in
set_option maxRecDepth 100000 in
/-- M_freePlace -/
theorem c_M_freePlace (l : Launch) (D : va_G) (tI tZ tA tJ : ClassId) (b : Nat → Nat) (F S sz : Nat) (k : KM) (q : Int32) : ob_M l y_M_freePlace w_M_freePlace ({ frames := 0, cells := 0, slots := 0, locals := 0 }) (pW D tI tZ tA tJ [.ref (b 9), .int q] (mW b F S tI tZ tA k) sz (fp_ok F S q)) (ob_qW D vcl none (mW b F S tI tZ tA (k_freePlace k q)) (va_A (mW b F S tI tZ tA k) sz)) 0 0 (va_A (mW b F S tI tZ tA k) sz) := by
  refine ob_ofW (by decide +kernel) ?_
  intro p e s m args below meth c s₁ B hml htab hv
  obtain ⟨rfl, hT, hq, hsz, hP, hD0⟩ := hv
  have hx := B.exec
  have hb := B.bytes
  have hr := B.returns
  have hlocks := B.notSynchronized
  have hown : s.vm.findClass R_M = some m.cls := findClass_of_methodNamed B.named
  have hl := lv_entry ([.ref (b 9), .int q]) (n := 2) (Nat.le_of_ble_eq_true rfl)
  rw [lg_entry_eq]
  generalize (lg_sl ([.ref (b 9), .int q]) ++ List.replicate (2 - (lg_sl ([.ref (b 9), .int q])).length) Slot.unset).toArray = ls at hl ⊢
  have hl : lv_has ls 2 [(0, .ref (b 9)), (1, .int q)] := hl
  subst hsz
  have hD := hD0.self (sz := s.heap.size)
  generalize hAe : va_A (mW b F S tI tZ tA k) s.heap.size = A at hD ⊢
  have hA : ∀ q : Nat, s.heap.size ≤ q → A q := fun q h => by rw [← hAe]; exact Or.inr h
  have hS : va_S A s.heap s.heap [] := va_S.rf
  refine lv_iload_n hx hb d_M_freePlace_0 rfl (lv_at hl 1 rfl) ?_
  refine lv_bipush (v := 100) hx hb d_M_freePlace_1 (by decide) ?_
  refine lv_icmp_lt (tgt := 19) hx hb d_M_freePlace_3 (by decide) (fun hc => ?_) (fun hc => ?_)
  · refine lv_aload_n hx hb d_M_freePlace_19 rfl (lv_at hl 0 rfl) ?_
    refine va_get (D := D) (ci := 1) (v := .ref (b 10)) hx hb hT.lays ly_M hown hT.1 hP 0 rfl rfl 0 (by decide) (hT.w k_M_13) (fun _ h => h) rfl d_M_freePlace_20 ?_
    refine lv_iload_n hx hb d_M_freePlace_23 rfl (lv_at hl 1 rfl) ?_
    refine lv_iconst (v := -1) hx hb d_M_freePlace_24 (by decide) ?_
    refine va_iast hx hb hT.1 hP hD hS 1 0 rfl rfl (hq.1 hc) d_M_freePlace_25 (fun H locs hP hD hS => ?_)
    have hP : va_P D vcl (mW b F S tI tZ tA (ku_iF k (upd (km_iF k) (ix q) (-1)))) H := hP
    have hD : va_D A (mW b F S tI tZ tA (ku_iF k (upd (km_iF k) (ix q) (-1)))) := hD
    refine lv_aload_n hx hb d_M_freePlace_26 rfl (lv_at hl 0 rfl) ?_
    refine va_get (D := D) (ci := 1) (v := .ref (b 12)) hx hb hT.lays ly_M hown hT.1 hP 0 rfl rfl 2 (by decide) (hT.w k_M_22) (fun _ h => h) rfl d_M_freePlace_27 ?_
    refine lv_iload_n hx hb d_M_freePlace_30 rfl (lv_at hl 1 rfl) ?_
    refine lv_iconst (v := 0) hx hb d_M_freePlace_31 (by decide) ?_
    refine va_zast hx hb hT.1 hP hD hS 3 1 rfl rfl (hq.1 hc) d_M_freePlace_32 (fun H locs hP hD hS => ?_)
    rw [nar0] at hP hD
    have hP : va_P D vcl (mW b F S tI tZ tA (ku_mk (ku_iF k (upd (km_iF k) (ix q) (-1))) (upd (km_mk (ku_iF k (upd (km_iF k) (ix q) (-1)))) (ix q) 0))) H := hP
    have hD : va_D A (mW b F S tI tZ tA (ku_mk (ku_iF k (upd (km_iF k) (ix q) (-1))) (upd (km_mk (ku_iF k (upd (km_iF k) (ix q) (-1)))) (ix q) 0))) := hD
    refine ob_vret hlocks hx hb hr d_M_freePlace_33 hS.2.2 (fun t ht hW => ?_)
    have e1 : k_freePlace k q = ku_mk (ku_iF k (upd (km_iF k) (ix q) (-1))) (upd (km_mk k) (ix q) 0) := if_pos hc
    rw [e1]
    exact ⟨rfl, by rw [ht]; exact hP, hD, hS.F ht⟩
  · refine lv_aload_n hx hb d_M_freePlace_6 rfl (lv_at hl 0 rfl) ?_
    refine va_get (D := D) (ci := 1) (v := .ref (b 11)) hx hb hT.lays ly_M hown hT.1 hP 0 rfl rfl 1 (by decide) (hT.w k_M_19) (fun _ h => h) rfl d_M_freePlace_7 ?_
    refine lv_iload_n hx hb d_M_freePlace_10 rfl (lv_at hl 1 rfl) ?_
    refine lv_bipush (v := 100) hx hb d_M_freePlace_11 (by decide) ?_
    refine lv_isub hx hb d_M_freePlace_13 ?_
    refine lv_iconst (v := -1) hx hb d_M_freePlace_14 (by decide) ?_
    refine va_iast hx hb hT.1 hP hD hS 2 0 rfl rfl (hq.2 hc) d_M_freePlace_15 (fun H locs hP hD hS => ?_)
    have hP : va_P D vcl (mW b F S tI tZ tA (ku_iS k (upd (km_iS k) (ix (q - 100)) (-1)))) H := hP
    have hD : va_D A (mW b F S tI tZ tA (ku_iS k (upd (km_iS k) (ix (q - 100)) (-1)))) := hD
    refine lv_goto (tgt := 33) hx hb d_M_freePlace_16 (by decide) ?_
    refine ob_vret hlocks hx hb hr d_M_freePlace_33 hS.2.2 (fun t ht hW => ?_)
    have e1 : k_freePlace k q = ku_iS k (upd (km_iS k) (ix (q - 100)) (-1)) := if_neg hc
    rw [e1]
    exact ⟨rfl, by rw [ht]; exact hP, hD, hS.F ht⟩
end
section
/-- an array's cell hangs on its own places alone -/
theorem arr_congr {D : va_G} {cl : List vw_C} {X Y : va_W} {a L : Nat} {cI : ClassId} {f g : Nat → Int32} {H : Heap} (h : ∀ i, i < L → f i = g i) (hP : va_P D cl (X ++ ((a, .inl (cI, L, .inl f)) :: Y)) H) : va_P D cl (X ++ ((a, .inl (cI, L, .inl g)) :: Y)) H := by
  have e : vp_cell cI (L, .inl f) = vp_cell cI (L, .inl g) := by
    rw [vp_cell_i, vp_cell_i]
    unfold arrV
    congr 1
    apply Array.ext
    · simp
    · intro i h1 h2
      have hi : i < L := by simpa using h1
      simp [h i hi]
  intro k q hk
  by_cases h1 : k < X.length
  · rw [List.getElem?_append_left h1] at hk
    exact hP k q (by rw [List.getElem?_append_left h1]; exact hk)
  · rw [List.getElem?_append_right (by omega)] at hk
    by_cases h2 : k - X.length = 0
    · have hq : (a, .inl (cI, L, .inl g)) = q := by rw [h2] at hk; exact Option.some.inj hk
      subst hq
      have := hP k (a, .inl (cI, L, .inl f)) (by rw [List.getElem?_append_right (by omega), h2]; rfl)
      show H[a]? = some (vp_cell cI (L, .inl g))
      rw [← e]
      exact this
    · obtain ⟨j, hj⟩ : ∃ j, k - X.length = j + 1 := ⟨k - X.length - 1, by omega⟩
      rw [hj, List.getElem?_cons_succ] at hk
      exact hP k q (by rw [List.getElem?_append_right (by omega), hj, List.getElem?_cons_succ]; exact hk)
def fl_up (f : Nat → Int32) (x : Int32) (i : Nat) : Nat → Int32 := fun j => if j < i then x else f j
theorem fl_step (f : Nat → Int32) (x : Int32) (i : Nat) : upd (fl_up f x i) i x = fl_up f x (i + 1) := by
  funext j
  unfold upd fl_up
  by_cases h : j = i
  · subst h; simp
  · rw [if_neg h]
    by_cases h2 : j < i
    · rw [if_pos h2, if_pos (by omega)]
    · rw [if_neg h2, if_neg (by omega)]
theorem fl_zero (f : Nat → Int32) (x : Int32) : fl_up f x 0 = f := by
  funext j
  simp [fl_up]

set_option maxHeartbeats 4000000 in
set_option maxRecDepth 100000 in
/-- an array of ints is filled -/
theorem c_A_fill (l : Launch) (D : va_G) (tI tZ tA tJ : ClassId) (a L sz : Nat) (f : Nat → Int32) (x : Int32) : ob_M l y_A_fill w_A_fill ({ frames := 0, cells := 0, slots := 0, locals := 0 }) (pW D tI tZ tA tJ [.ref a, .int x] [(a, .inl (tI, L, .inl f))] sz (L < 2 ^ 31)) (ob_qW D vcl none [(a, .inl (tI, L, .inl (fun _ => x)))] (va_A [(a, .inl (tI, L, .inl f))] sz)) 0 0 (va_A [(a, .inl (tI, L, .inl f))] sz) := by
  refine ob_ofW (by decide +kernel) ?_
  intro p e s m args below meth c s₁ B hml htab hv
  obtain ⟨rfl, hT, hL, hsz, hP, hD0⟩ := hv
  have hx := B.exec
  have hb := B.bytes
  have hr := B.returns
  have hlocks := B.notSynchronized
  have hown : s.vm.findClass R_A = some m.cls := findClass_of_methodNamed B.named
  have hl := lv_entry ([.ref a, .int x]) (n := 4) (Nat.le_of_ble_eq_true rfl)
  rw [lg_entry_eq]
  generalize (lg_sl ([.ref a, .int x]) ++ List.replicate (4 - (lg_sl ([.ref a, .int x])).length) Slot.unset).toArray = ls at hl ⊢
  have hl : lv_has ls 4 [(0, .ref a), (1, .int x)] := hl
  subst hsz
  have hD := hD0.self (sz := s.heap.size)
  generalize hAe : va_A ([(a, .inl (tI, L, .inl f))]) s.heap.size = A at hD ⊢
  have hA : ∀ q : Nat, s.heap.size ≤ q → A q := fun q h => by rw [← hAe]; exact Or.inr h
  have hS : va_S A s.heap s.heap [] := va_S.rf
  have loop : ∀ (n i : Nat) (ls : Array Slot) (H : Heap) (locs : List Loc), i + n = L → lv_has ls 4 [(2, .int (nI i)), (3, .int (nI L)), (0, .ref a), (1, .int x)] → va_P D vcl [(a, .inl (tI, L, .inl (fl_up f x i)))] H → va_D A [(a, .inl (tI, L, .inl (fl_up f x i)))] → va_S A s.heap H locs → W p l e ({ frames := 0, cells := 0, slots := 0, locals := 0 } : Room) s m ([.ref a, .int x] : List Value).toArray below meth c H locs 0 0 (ob_Q below (ob_qW D vcl none [(a, .inl (tI, L, .inl (fun _ => x)))] A) ([.ref a, .int x] : List Value).toArray s 0 0 A) (F0 m 5 ls []) := by
    intro n
    induction n with
    | zero =>
      intro i ls H locs hi hl hP hD hS
      refine lv_iload_n hx hb d_A_fill_5 rfl (lv_at hl 0 rfl) ?_
      refine lv_iload_n hx hb d_A_fill_6 rfl (lv_at hl 1 rfl) ?_
      refine lv_icmp_ge (tgt := 20) hx hb d_A_fill_7 (by decide) (fun hc => ?_) (fun hc => absurd (nI_le (by omega) (by omega)) hc)
      refine ob_vret hlocks hx hb hr d_A_fill_20 hS.2.2 (fun t ht hW => ?_)
      have hP2 := arr_congr (X := []) (g := fun _ => x) (fun j hj => if_pos (show j < i by omega)) hP
      exact ⟨rfl, by rw [ht]; exact hP2, hD.set (p := 0) (e := .inl (tI, L, .inl (fun _ => x))) rfl, hS.F ht⟩
    | succ n ih =>
      intro i ls H locs hi hl hP hD hS
      refine lv_iload_n hx hb d_A_fill_5 rfl (lv_at hl 0 rfl) ?_
      refine lv_iload_n hx hb d_A_fill_6 rfl (lv_at hl 1 rfl) ?_
      refine lv_icmp_ge (tgt := 20) hx hb d_A_fill_7 (by decide) (fun hc => absurd hc (nI_ge (by omega) (by omega))) (fun hc => ?_)
      refine lv_aload_n hx hb d_A_fill_10 rfl (lv_at hl 2 rfl) ?_
      refine lv_iload_n hx hb d_A_fill_11 rfl (lv_at hl 0 rfl) ?_
      refine lv_iload_n hx hb d_A_fill_12 rfl (lv_at hl 3 rfl) ?_
      refine va_iast hx hb hT.1 hP hD hS 0 0 rfl rfl (vp_in_nI (by omega) (by omega)) d_A_fill_13 (fun H locs hP hD hS => ?_)
      rw [nI_clamp (by omega)] at hP hD
      have hP : va_P D vcl [(a, .inl (tI, L, .inl (fl_up f x (i + 1))))] H := by rw [← fl_step]; exact hP
      have hD : va_D A [(a, .inl (tI, L, .inl (fl_up f x (i + 1))))] := by rw [← fl_step]; exact hD
      refine lv_iinc (k := 0) (v := nI (i + 1)) (lv' := [(2, .int (nI (i + 1))), (3, .int (nI L)), (0, .ref a), (1, .int x)]) hx hb d_A_fill_14 hl rfl (nI_1 i) (by decide) rfl (fun ls hl => ?_)
      refine lv_goto (tgt := 5) hx hb d_A_fill_17 (by decide) ?_
      exact ih (i + 1) ls H locs (by omega) hl hP hD hS
  refine lv_iconst (v := 0) hx hb d_A_fill_0 (by decide) ?_
  refine lv_istore_n (lv' := [(2, .int 0), (0, .ref a), (1, .int x)]) hx hb d_A_fill_1 rfl hl (by decide) rfl (fun ls hl => ?_)
  refine lv_aload_n hx hb d_A_fill_2 rfl (lv_at hl 1 rfl) ?_
  refine va_alen (v := nI L) hx hb hT.1 hP 0 0 rfl rfl rfl d_A_fill_3 ?_
  refine lv_istore_n (lv' := [(3, .int (nI L)), (2, .int 0), (0, .ref a), (1, .int x)]) hx hb d_A_fill_4 rfl hl (by decide) rfl (fun ls hl => ?_)
  have hl : lv_has ls 4 [(2, .int (nI 0)), (3, .int (nI L)), (0, .ref a), (1, .int x)] := lv_sub hl [1, 0, 2, 3] rfl
  exact loop L 0 ls s.heap [] (by omega) hl (by rw [fl_zero]; exact hP) (by rw [fl_zero]; exact hD) hS

set_option maxHeartbeats 4000000 in
set_option maxRecDepth 100000 in
/-- M_evictInto -/
theorem c_M_evictInto (l : Launch) (D : va_G) (tI tZ tA tJ : ClassId) (b : Nat → Nat) (F S sz : Nat) (k : KM) (q : Int32) : ob_M l y_M_evictInto w_M_evictInto ({ frames := 1, cells := 0, slots := 0, locals := 20 }) (pW D tI tZ tA tJ [.ref (b 9), .int q] (mW b F S tI tZ tA k) sz (ev_ok F S k q)) (ob_qW D vcl (some (.int ((k_evict F k q).1))) (mW b F S tI tZ tA ((k_evict F k q).2)) (va_A (mW b F S tI tZ tA k) sz)) 0 0 (va_A (mW b F S tI tZ tA k) sz) := by
  refine ob_ofW (by decide +kernel) ?_
  intro p e s m args below meth c s₁ B hml htab hv
  obtain ⟨rfl, hT, hq, hsz, hP, hD0⟩ := hv
  have hx := B.exec
  have hb := B.bytes
  have hr := B.returns
  have hlocks := B.notSynchronized
  have hown : s.vm.findClass R_M = some m.cls := findClass_of_methodNamed B.named
  have hl := lv_entry ([.ref (b 9), .int q]) (n := 4) (Nat.le_of_ble_eq_true rfl)
  rw [lg_entry_eq]
  generalize (lg_sl ([.ref (b 9), .int q]) ++ List.replicate (4 - (lg_sl ([.ref (b 9), .int q])).length) Slot.unset).toArray = ls at hl ⊢
  have hl : lv_has ls 4 [(0, .ref (b 9)), (1, .int q)] := hl
  subst hsz
  have hD := hD0.self (sz := s.heap.size)
  generalize hAe : va_A (mW b F S tI tZ tA k) s.heap.size = A at hD ⊢
  have hA : ∀ q : Nat, s.heap.size ≤ q → A q := fun q h => by rw [← hAe]; exact Or.inr h
  have hS : va_S A s.heap s.heap [] := va_S.rf
  obtain ⟨hF, hqs, hhd, hr2, hrf⟩ := hq
  obtain ⟨R, hR⟩ : ∃ R, k_sweep F F (km_mk k) (km_hd k) = R := ⟨_, rfl⟩
  rw [hR] at hr2 hrf
  have e0 : k_evict F k q = (R.2, (upd (km_iF k) (ix R.2) (-1), upd (km_iS k) (ix q) (km_iF k (ix R.2)), R.1, upd (km_pl k) (ix (km_iF k (ix R.2))) (100 + q), km_ct k, km_wd k, k_next F R.2, km_fl k, km_ev k + 1)) := by unfold k_evict; rw [hR]
  rw [e0]
  have hend : ∀ (x : Int32) (ls : Array Slot) (H : Heap) (locs : List Loc), lv_has ls 4 [(2, .int x), (0, .ref (b 9)), (1, .int q)] → va_P D vcl (mW b F S tI tZ tA (ku_hd (ku_mk k R.1) R.2)) H → va_D A (mW b F S tI tZ tA (ku_hd (ku_mk k R.1) R.2)) → va_S A s.heap H locs → W p l e ({ frames := 1, cells := 0, slots := 0, locals := 20 } : Room) s m ([.ref (b 9), .int q] : List Value).toArray below meth c H locs 0 0 (ob_Q below (ob_qW D vcl (some (.int R.2)) (mW b F S tI tZ tA (upd (km_iF k) (ix R.2) (-1), upd (km_iS k) (ix q) (km_iF k (ix R.2)), R.1, upd (km_pl k) (ix (km_iF k (ix R.2))) (100 + q), km_ct k, km_wd k, k_next F R.2, km_fl k, km_ev k + 1)) A) ([.ref (b 9), .int q] : List Value).toArray s 0 0 A) (F0 m 43 ls []) := by
    intro x ls H locs hl hP hD hS
    refine lv_aload_n hx hb d_M_evictInto_43 rfl (lv_at hl 1 rfl) ?_
    refine va_get (D := D) (ci := 1) (v := .int R.2) hx hb hT.lays ly_M hown hT.1 hP 0 rfl rfl 6 (by decide) (hT.w k_M_79) (fun _ h => h) rfl d_M_evictInto_44 ?_
    refine lv_istore_n (lv' := [(2, .int R.2), (0, .ref (b 9)), (1, .int q)]) hx hb d_M_evictInto_47 rfl hl (by decide) rfl (fun ls hl => ?_)
    refine lv_aload_n hx hb d_M_evictInto_48 rfl (lv_at hl 1 rfl) ?_
    refine va_get (D := D) (ci := 1) (v := .ref (b 10)) hx hb hT.lays ly_M hown hT.1 hP 0 rfl rfl 0 (by decide) (hT.w k_M_13) (fun _ h => h) rfl d_M_evictInto_49 ?_
    refine lv_iload_n hx hb d_M_evictInto_52 rfl (lv_at hl 0 rfl) ?_
    refine va_iald hx hb hT.1 hP 1 0 rfl rfl (hr2) d_M_evictInto_53 ?_
    refine lv_istore_n (lv' := [(3, .int (km_iF k (ix R.2))), (2, .int R.2), (0, .ref (b 9)), (1, .int q)]) hx hb d_M_evictInto_54 rfl hl (by decide) rfl (fun ls hl => ?_)
    refine lv_aload_n hx hb d_M_evictInto_55 rfl (lv_at hl 2 rfl) ?_
    refine va_get (D := D) (ci := 1) (v := .ref (b 11)) hx hb hT.lays ly_M hown hT.1 hP 0 rfl rfl 1 (by decide) (hT.w k_M_19) (fun _ h => h) rfl d_M_evictInto_56 ?_
    refine lv_iload_n hx hb d_M_evictInto_59 rfl (lv_at hl 3 rfl) ?_
    refine lv_iload_n hx hb d_M_evictInto_60 rfl (lv_at hl 0 rfl) ?_
    refine va_iast hx hb hT.1 hP hD hS 2 0 rfl rfl (hqs) d_M_evictInto_61 (fun H locs hP hD hS => ?_)
    have hP : va_P D vcl (mW b F S tI tZ tA (ku_iS (ku_hd (ku_mk k R.1) R.2) (upd (km_iS (ku_hd (ku_mk k R.1) R.2)) (ix q) (km_iF k (ix R.2))))) H := hP
    have hD : va_D A (mW b F S tI tZ tA (ku_iS (ku_hd (ku_mk k R.1) R.2) (upd (km_iS (ku_hd (ku_mk k R.1) R.2)) (ix q) (km_iF k (ix R.2))))) := hD
    refine lv_aload_n hx hb d_M_evictInto_62 rfl (lv_at hl 2 rfl) ?_
    refine va_get (D := D) (ci := 1) (v := .ref (b 13)) hx hb hT.lays ly_M hown hT.1 hP 0 rfl rfl 3 (by decide) (hT.w k_M_26) (fun _ h => h) rfl d_M_evictInto_63 ?_
    refine lv_iload_n hx hb d_M_evictInto_66 rfl (lv_at hl 0 rfl) ?_
    refine lv_bipush (v := 100) hx hb d_M_evictInto_67 (by decide) ?_
    refine lv_iload_n hx hb d_M_evictInto_69 rfl (lv_at hl 3 rfl) ?_
    refine lv_iadd hx hb d_M_evictInto_70 ?_
    refine va_iast hx hb hT.1 hP hD hS 4 0 rfl rfl (hrf) d_M_evictInto_71 (fun H locs hP hD hS => ?_)
    have hP : va_P D vcl (mW b F S tI tZ tA (ku_pl (ku_iS (ku_hd (ku_mk k R.1) R.2) (upd (km_iS (ku_hd (ku_mk k R.1) R.2)) (ix q) (km_iF k (ix R.2)))) (upd (km_pl (ku_iS (ku_hd (ku_mk k R.1) R.2) (upd (km_iS (ku_hd (ku_mk k R.1) R.2)) (ix q) (km_iF k (ix R.2))))) (ix (km_iF k (ix R.2))) (100 + q)))) H := hP
    have hD : va_D A (mW b F S tI tZ tA (ku_pl (ku_iS (ku_hd (ku_mk k R.1) R.2) (upd (km_iS (ku_hd (ku_mk k R.1) R.2)) (ix q) (km_iF k (ix R.2)))) (upd (km_pl (ku_iS (ku_hd (ku_mk k R.1) R.2) (upd (km_iS (ku_hd (ku_mk k R.1) R.2)) (ix q) (km_iF k (ix R.2))))) (ix (km_iF k (ix R.2))) (100 + q)))) := hD
    refine lv_aload_n hx hb d_M_evictInto_72 rfl (lv_at hl 2 rfl) ?_
    refine va_get (D := D) (ci := 1) (v := .ref (b 10)) hx hb hT.lays ly_M hown hT.1 hP 0 rfl rfl 0 (by decide) (hT.w k_M_13) (fun _ h => h) rfl d_M_evictInto_73 ?_
    refine lv_iload_n hx hb d_M_evictInto_76 rfl (lv_at hl 1 rfl) ?_
    refine lv_iconst (v := -1) hx hb d_M_evictInto_77 (by decide) ?_
    refine va_iast hx hb hT.1 hP hD hS 1 0 rfl rfl (hr2) d_M_evictInto_78 (fun H locs hP hD hS => ?_)
    have hP : va_P D vcl (mW b F S tI tZ tA (ku_iF (ku_pl (ku_iS (ku_hd (ku_mk k R.1) R.2) (upd (km_iS (ku_hd (ku_mk k R.1) R.2)) (ix q) (km_iF k (ix R.2)))) (upd (km_pl (ku_iS (ku_hd (ku_mk k R.1) R.2) (upd (km_iS (ku_hd (ku_mk k R.1) R.2)) (ix q) (km_iF k (ix R.2))))) (ix (km_iF k (ix R.2))) (100 + q))) (upd (km_iF (ku_pl (ku_iS (ku_hd (ku_mk k R.1) R.2) (upd (km_iS (ku_hd (ku_mk k R.1) R.2)) (ix q) (km_iF k (ix R.2)))) (upd (km_pl (ku_iS (ku_hd (ku_mk k R.1) R.2) (upd (km_iS (ku_hd (ku_mk k R.1) R.2)) (ix q) (km_iF k (ix R.2))))) (ix (km_iF k (ix R.2))) (100 + q)))) (ix R.2) (-1)))) H := hP
    have hD : va_D A (mW b F S tI tZ tA (ku_iF (ku_pl (ku_iS (ku_hd (ku_mk k R.1) R.2) (upd (km_iS (ku_hd (ku_mk k R.1) R.2)) (ix q) (km_iF k (ix R.2)))) (upd (km_pl (ku_iS (ku_hd (ku_mk k R.1) R.2) (upd (km_iS (ku_hd (ku_mk k R.1) R.2)) (ix q) (km_iF k (ix R.2))))) (ix (km_iF k (ix R.2))) (100 + q))) (upd (km_iF (ku_pl (ku_iS (ku_hd (ku_mk k R.1) R.2) (upd (km_iS (ku_hd (ku_mk k R.1) R.2)) (ix q) (km_iF k (ix R.2)))) (upd (km_pl (ku_iS (ku_hd (ku_mk k R.1) R.2) (upd (km_iS (ku_hd (ku_mk k R.1) R.2)) (ix q) (km_iF k (ix R.2))))) (ix (km_iF k (ix R.2))) (100 + q)))) (ix R.2) (-1)))) := hD
    refine lv_aload_n hx hb d_M_evictInto_79 rfl (lv_at hl 2 rfl) ?_
    refine lv_dup hx hb d_M_evictInto_80 rfl ?_
    refine va_get (D := D) (ci := 1) (v := .int (km_ev (ku_iF (ku_pl (ku_iS (ku_hd (ku_mk k R.1) R.2) (upd (km_iS (ku_hd (ku_mk k R.1) R.2)) (ix q) (km_iF k (ix R.2)))) (upd (km_pl (ku_iS (ku_hd (ku_mk k R.1) R.2) (upd (km_iS (ku_hd (ku_mk k R.1) R.2)) (ix q) (km_iF k (ix R.2))))) (ix (km_iF k (ix R.2))) (100 + q))) (upd (km_iF (ku_pl (ku_iS (ku_hd (ku_mk k R.1) R.2) (upd (km_iS (ku_hd (ku_mk k R.1) R.2)) (ix q) (km_iF k (ix R.2)))) (upd (km_pl (ku_iS (ku_hd (ku_mk k R.1) R.2) (upd (km_iS (ku_hd (ku_mk k R.1) R.2)) (ix q) (km_iF k (ix R.2))))) (ix (km_iF k (ix R.2))) (100 + q)))) (ix R.2) (-1))))) hx hb hT.lays ly_M hown hT.1 hP 0 rfl rfl 8 (by decide) (hT.w k_M_85) (fun _ h => h) rfl d_M_evictInto_81 ?_
    refine lv_iconst (v := 1) hx hb d_M_evictInto_84 (by decide) ?_
    refine lv_iadd hx hb d_M_evictInto_85 ?_
    refine va_put (D := D) (ci := 1) (v := .int ((km_ev k) + 1)) (ty := .int) hx hb hT.lays ly_M ty_M ty_M_ok n_M hown hT.1 hP hD hS 0 rfl rfl 8 (by decide) (hT.w k_M_85) (fun _ h => h) rfl (by decide +kernel) rfl rfl (Nat.le_of_ble_eq_true rfl) d_M_evictInto_86 (fun H locs hP hD hS => ?_)
    have hP : va_P D vcl (mW b F S tI tZ tA (ku_ev (ku_iF (ku_pl (ku_iS (ku_hd (ku_mk k R.1) R.2) (upd (km_iS (ku_hd (ku_mk k R.1) R.2)) (ix q) (km_iF k (ix R.2)))) (upd (km_pl (ku_iS (ku_hd (ku_mk k R.1) R.2) (upd (km_iS (ku_hd (ku_mk k R.1) R.2)) (ix q) (km_iF k (ix R.2))))) (ix (km_iF k (ix R.2))) (100 + q))) (upd (km_iF (ku_pl (ku_iS (ku_hd (ku_mk k R.1) R.2) (upd (km_iS (ku_hd (ku_mk k R.1) R.2)) (ix q) (km_iF k (ix R.2)))) (upd (km_pl (ku_iS (ku_hd (ku_mk k R.1) R.2) (upd (km_iS (ku_hd (ku_mk k R.1) R.2)) (ix q) (km_iF k (ix R.2))))) (ix (km_iF k (ix R.2))) (100 + q)))) (ix R.2) (-1))) (km_ev k + 1))) H := hP
    have hD : va_D A (mW b F S tI tZ tA (ku_ev (ku_iF (ku_pl (ku_iS (ku_hd (ku_mk k R.1) R.2) (upd (km_iS (ku_hd (ku_mk k R.1) R.2)) (ix q) (km_iF k (ix R.2)))) (upd (km_pl (ku_iS (ku_hd (ku_mk k R.1) R.2) (upd (km_iS (ku_hd (ku_mk k R.1) R.2)) (ix q) (km_iF k (ix R.2))))) (ix (km_iF k (ix R.2))) (100 + q))) (upd (km_iF (ku_pl (ku_iS (ku_hd (ku_mk k R.1) R.2) (upd (km_iS (ku_hd (ku_mk k R.1) R.2)) (ix q) (km_iF k (ix R.2)))) (upd (km_pl (ku_iS (ku_hd (ku_mk k R.1) R.2) (upd (km_iS (ku_hd (ku_mk k R.1) R.2)) (ix q) (km_iF k (ix R.2))))) (ix (km_iF k (ix R.2))) (100 + q)))) (ix R.2) (-1))) (km_ev k + 1))) := hD
    refine lv_aload_n hx hb d_M_evictInto_89 rfl (lv_at hl 2 rfl) ?_
    refine ob_callW (v := none) (X := []) (M := mW b F S tI tZ tA (ku_ev (ku_iF (ku_pl (ku_iS (ku_hd (ku_mk k R.1) R.2) (upd (km_iS (ku_hd (ku_mk k R.1) R.2)) (ix q) (km_iF k (ix R.2)))) (upd (km_pl (ku_iS (ku_hd (ku_mk k R.1) R.2) (upd (km_iS (ku_hd (ku_mk k R.1) R.2)) (ix q) (km_iF k (ix R.2))))) (ix (km_iF k (ix R.2))) (100 + q))) (upd (km_iF (ku_pl (ku_iS (ku_hd (ku_mk k R.1) R.2) (upd (km_iS (ku_hd (ku_mk k R.1) R.2)) (ix q) (km_iF k (ix R.2)))) (upd (km_pl (ku_iS (ku_hd (ku_mk k R.1) R.2) (upd (km_iS (ku_hd (ku_mk k R.1) R.2)) (ix q) (km_iF k (ix R.2))))) (ix (km_iF k (ix R.2))) (100 + q)))) (ix R.2) (-1))) (km_ev k + 1))) (M' := mW b F S tI tZ tA (ku_hd (ku_ev (ku_iF (ku_pl (ku_iS (ku_hd (ku_mk k R.1) R.2) (upd (km_iS (ku_hd (ku_mk k R.1) R.2)) (ix q) (km_iF k (ix R.2)))) (upd (km_pl (ku_iS (ku_hd (ku_mk k R.1) R.2) (upd (km_iS (ku_hd (ku_mk k R.1) R.2)) (ix q) (km_iF k (ix R.2))))) (ix (km_iF k (ix R.2))) (100 + q))) (upd (km_iF (ku_pl (ku_iS (ku_hd (ku_mk k R.1) R.2) (upd (km_iS (ku_hd (ku_mk k R.1) R.2)) (ix q) (km_iF k (ix R.2)))) (upd (km_pl (ku_iS (ku_hd (ku_mk k R.1) R.2) (upd (km_iS (ku_hd (ku_mk k R.1) R.2)) (ix q) (km_iF k (ix R.2))))) (ix (km_iF k (ix R.2))) (100 + q)))) (ix R.2) (-1))) (km_ev k + 1)) (k_next F (km_hd (ku_ev (ku_iF (ku_pl (ku_iS (ku_hd (ku_mk k R.1) R.2) (upd (km_iS (ku_hd (ku_mk k R.1) R.2)) (ix q) (km_iF k (ix R.2)))) (upd (km_pl (ku_iS (ku_hd (ku_mk k R.1) R.2) (upd (km_iS (ku_hd (ku_mk k R.1) R.2)) (ix q) (km_iF k (ix R.2))))) (ix (km_iF k (ix R.2))) (100 + q))) (upd (km_iF (ku_pl (ku_iS (ku_hd (ku_mk k R.1) R.2) (upd (km_iS (ku_hd (ku_mk k R.1) R.2)) (ix q) (km_iF k (ix R.2)))) (upd (km_pl (ku_iS (ku_hd (ku_mk k R.1) R.2) (upd (km_iS (ku_hd (ku_mk k R.1) R.2)) (ix q) (km_iF k (ix R.2))))) (ix (km_iF k (ix R.2))) (100 + q)))) (ix R.2) (-1))) (km_ev k + 1)))))) (ob_runV (As := []) (rest := []) (c_M_moveHand l D tI tZ tA tJ b F S H.size (ku_ev (ku_iF (ku_pl (ku_iS (ku_hd (ku_mk k R.1) R.2) (upd (km_iS (ku_hd (ku_mk k R.1) R.2)) (ix q) (km_iF k (ix R.2)))) (upd (km_pl (ku_iS (ku_hd (ku_mk k R.1) R.2) (upd (km_iS (ku_hd (ku_mk k R.1) R.2)) (ix q) (km_iF k (ix R.2))))) (ix (km_iF k (ix R.2))) (100 + q))) (upd (km_iF (ku_pl (ku_iS (ku_hd (ku_mk k R.1) R.2) (upd (km_iS (ku_hd (ku_mk k R.1) R.2)) (ix q) (km_iF k (ix R.2)))) (upd (km_pl (ku_iS (ku_hd (ku_mk k R.1) R.2) (upd (km_iS (ku_hd (ku_mk k R.1) R.2)) (ix q) (km_iF k (ix R.2))))) (ix (km_iF k (ix R.2))) (100 + q)))) (ix R.2) (-1))) (km_ev k + 1))) (hT.ok ob_cd_c (by decide +kernel) rfl rfl (Nat.le_of_ble_eq_true rfl) (Nat.le_of_ble_eq_true rfl) kn_M kc_M_moveHand) hx hb hml hown (hT.w k_M_82) (hT.w ki_M_moveHand) (hT.w kv_M_moveHand) (va_recv (q0 := 0) (ci := 1) hT.1 hP rfl rfl) pW.blind (pW.at hT (trivial) hP hD) rfl rfl hl.1 rfl (lv_room (Nat.le_of_ble_eq_true rfl)) d_M_evictInto_90 ⟨Nat.le_of_ble_eq_true rfl, Nat.le_of_ble_eq_true rfl⟩) hP hD hS hA (fun H locs hP hD hS => ?_)
    have hP : va_P D vcl (mW b F S tI tZ tA (upd (km_iF k) (ix R.2) (-1), upd (km_iS k) (ix q) (km_iF k (ix R.2)), R.1, upd (km_pl k) (ix (km_iF k (ix R.2))) (100 + q), km_ct k, km_wd k, k_next F R.2, km_fl k, km_ev k + 1)) H := hP
    have hD : va_D A (mW b F S tI tZ tA (upd (km_iF k) (ix R.2) (-1), upd (km_iS k) (ix q) (km_iF k (ix R.2)), R.1, upd (km_pl k) (ix (km_iF k (ix R.2))) (100 + q), km_ct k, km_wd k, k_next F R.2, km_fl k, km_ev k + 1)) := hD
    refine W.eq (g2 := F0 m 93 ls []) rfl ?_
    refine lv_iload_n hx hb d_M_evictInto_93 rfl (lv_at hl 1 rfl) ?_
    refine ob_iret hlocks hx hb hr d_M_evictInto_94 hS.2.2 (fun t ht hW => ?_)
    exact ⟨rfl, by rw [ht]; exact hP, hD, hS.F ht⟩
  have loop : ∀ (n i : Nat) (mq : Nat → Int32) (h : Int32) (ls : Array Slot) (H : Heap) (locs : List Loc), i + n = F → k_sweep F n mq h = R → vp_in h F → lv_has ls 4 [(2, .int (nI i)), (0, .ref (b 9)), (1, .int q)] → va_P D vcl (mW b F S tI tZ tA (ku_hd (ku_mk k mq) h)) H → va_D A (mW b F S tI tZ tA (ku_hd (ku_mk k mq) h)) → va_S A s.heap H locs → W p l e ({ frames := 1, cells := 0, slots := 0, locals := 20 } : Room) s m ([.ref (b 9), .int q] : List Value).toArray below meth c H locs 0 0 (ob_Q below (ob_qW D vcl (some (.int R.2)) (mW b F S tI tZ tA (upd (km_iF k) (ix R.2) (-1), upd (km_iS k) (ix q) (km_iF k (ix R.2)), R.1, upd (km_pl k) (ix (km_iF k (ix R.2))) (100 + q), km_ct k, km_wd k, k_next F R.2, km_fl k, km_ev k + 1)) A) ([.ref (b 9), .int q] : List Value).toArray s 0 0 A) (F0 m 2 ls []) := by
    intro n
    induction n with
    | zero =>
      intro i mq h ls H locs hi hs hh hl hP hD hS
      subst hs
      refine lv_iload_n hx hb d_M_evictInto_2 rfl (lv_at hl 0 rfl) ?_
      refine lv_aload_n hx hb d_M_evictInto_3 rfl (lv_at hl 1 rfl) ?_
      refine va_get (D := D) (ci := 1) (v := .ref (b 12)) hx hb hT.lays ly_M hown hT.1 hP 0 rfl rfl 2 (by decide) (hT.w k_M_22) (fun _ h => h) rfl d_M_evictInto_4 ?_
      refine va_alen (v := nI F) hx hb hT.1 hP 3 1 rfl rfl rfl d_M_evictInto_7 ?_
      refine lv_icmp_ge (tgt := 43) hx hb d_M_evictInto_8 (by decide) (fun hc => ?_) (fun hc => absurd (nI_le (by omega) (by omega)) hc)
      exact hend _ ls H locs hl hP hD hS
    | succ n ih =>
      intro i mq h ls H locs hi hs hh hl hP hD hS
      refine lv_iload_n hx hb d_M_evictInto_2 rfl (lv_at hl 0 rfl) ?_
      refine lv_aload_n hx hb d_M_evictInto_3 rfl (lv_at hl 1 rfl) ?_
      refine va_get (D := D) (ci := 1) (v := .ref (b 12)) hx hb hT.lays ly_M hown hT.1 hP 0 rfl rfl 2 (by decide) (hT.w k_M_22) (fun _ h => h) rfl d_M_evictInto_4 ?_
      refine va_alen (v := nI F) hx hb hT.1 hP 3 1 rfl rfl rfl d_M_evictInto_7 ?_
      refine lv_icmp_ge (tgt := 43) hx hb d_M_evictInto_8 (by decide) (fun hc => absurd hc (nI_ge (by omega) (by omega))) (fun hc => ?_)
      refine lv_aload_n hx hb d_M_evictInto_11 rfl (lv_at hl 1 rfl) ?_
      refine va_get (D := D) (ci := 1) (v := .ref (b 12)) hx hb hT.lays ly_M hown hT.1 hP 0 rfl rfl 2 (by decide) (hT.w k_M_22) (fun _ h => h) rfl d_M_evictInto_12 ?_
      refine lv_aload_n hx hb d_M_evictInto_15 rfl (lv_at hl 1 rfl) ?_
      refine va_get (D := D) (ci := 1) (v := .int h) hx hb hT.lays ly_M hown hT.1 hP 0 rfl rfl 6 (by decide) (hT.w k_M_79) (fun _ h => h) rfl d_M_evictInto_16 ?_
      refine va_zald hx hb hT.1 hP 3 1 rfl rfl (hh) d_M_evictInto_19 ?_
      refine lv_if_eq (tgt := 43) hx hb d_M_evictInto_20 (by decide) (fun hc => ?_) (fun hc => ?_)
      · have e1 : k_sweep F (n + 1) mq h = (mq, h) := if_pos hc
        rw [e1] at hs
        subst hs
        exact hend _ ls H locs hl hP hD hS
      · have e1 : k_sweep F (n + 1) mq h = k_sweep F n (upd mq (ix h) 0) (k_next F h) := if_neg hc
        rw [e1] at hs
        refine lv_aload_n hx hb d_M_evictInto_23 rfl (lv_at hl 1 rfl) ?_
        refine va_get (D := D) (ci := 1) (v := .ref (b 12)) hx hb hT.lays ly_M hown hT.1 hP 0 rfl rfl 2 (by decide) (hT.w k_M_22) (fun _ h => h) rfl d_M_evictInto_24 ?_
        refine lv_aload_n hx hb d_M_evictInto_27 rfl (lv_at hl 1 rfl) ?_
        refine va_get (D := D) (ci := 1) (v := .int h) hx hb hT.lays ly_M hown hT.1 hP 0 rfl rfl 6 (by decide) (hT.w k_M_79) (fun _ h => h) rfl d_M_evictInto_28 ?_
        refine lv_iconst (v := 0) hx hb d_M_evictInto_31 (by decide) ?_
        refine va_zast hx hb hT.1 hP hD hS 3 1 rfl rfl (hh) d_M_evictInto_32 (fun H locs hP hD hS => ?_)
        rw [nar0] at hP hD
        have hP : va_P D vcl (mW b F S tI tZ tA (ku_hd (ku_mk k (upd mq (ix h) 0)) h)) H := hP
        have hD : va_D A (mW b F S tI tZ tA (ku_hd (ku_mk k (upd mq (ix h) 0)) h)) := hD
        refine lv_aload_n hx hb d_M_evictInto_33 rfl (lv_at hl 1 rfl) ?_
        refine ob_callW (v := none) (X := []) (M := mW b F S tI tZ tA (ku_hd (ku_mk k (upd mq (ix h) 0)) h)) (M' := mW b F S tI tZ tA (ku_hd (ku_hd (ku_mk k (upd mq (ix h) 0)) h) (k_next F (km_hd (ku_hd (ku_mk k (upd mq (ix h) 0)) h))))) (ob_runV (As := []) (rest := []) (c_M_moveHand l D tI tZ tA tJ b F S H.size (ku_hd (ku_mk k (upd mq (ix h) 0)) h)) (hT.ok ob_cd_c (by decide +kernel) rfl rfl (Nat.le_of_ble_eq_true rfl) (Nat.le_of_ble_eq_true rfl) kn_M kc_M_moveHand) hx hb hml hown (hT.w k_M_82) (hT.w ki_M_moveHand) (hT.w kv_M_moveHand) (va_recv (q0 := 0) (ci := 1) hT.1 hP rfl rfl) pW.blind (pW.at hT (trivial) hP hD) rfl rfl hl.1 rfl (lv_room (Nat.le_of_ble_eq_true rfl)) d_M_evictInto_34 ⟨Nat.le_of_ble_eq_true rfl, Nat.le_of_ble_eq_true rfl⟩) hP hD hS hA (fun H locs hP hD hS => ?_)
        have hP : va_P D vcl (mW b F S tI tZ tA (ku_hd (ku_mk k (upd mq (ix h) 0)) (k_next F h))) H := hP
        have hD : va_D A (mW b F S tI tZ tA (ku_hd (ku_mk k (upd mq (ix h) 0)) (k_next F h))) := hD
        refine W.eq (g2 := F0 m 37 ls []) rfl ?_
        refine lv_iinc (k := 0) (v := nI (i + 1)) (lv' := [(2, .int (nI (i + 1))), (0, .ref (b 9)), (1, .int q)]) hx hb d_M_evictInto_37 hl rfl (nI_1 i) (by decide) rfl (fun ls hl => ?_)
        refine lv_goto (tgt := 2) hx hb d_M_evictInto_40 (by decide) ?_
        exact ih (i + 1) _ _ ls H locs (by omega) hs (k_next_in hF hh) hl hP hD hS
  refine lv_iconst (v := 0) hx hb d_M_evictInto_0 (by decide) ?_
  refine lv_istore_n (lv' := [(2, .int 0), (0, .ref (b 9)), (1, .int q)]) hx hb d_M_evictInto_1 rfl hl (by decide) rfl (fun ls hl => ?_)
  exact loop F 0 (km_mk k) (km_hd k) ls s.heap [] (by omega) hR hhd hl hP hD hS
end
section
/-- what bringIn, touch, make, leave ask -/
def bi_ok (F S : Nat) (k : KM) (a : Int32) : Prop := vp_in a (F + S) ∧ fp_ok F S (km_pl k (ix a)) ∧ gf_ok F S (k_freePlace k (km_pl k (ix a))) ∧ vp_in (k_getFrame F S (k_freePlace k (km_pl k (ix a)))).1 F
def to_ok (F S : Nat) (k : KM) (a : Int32) : Prop := vp_in a (F + S) ∧ (¬ km_pl k (ix a) < 100 → bi_ok F S k a) ∧ vp_in (km_pl (k_tch F S k a) (ix a)) F
def lv_ok (F S : Nat) (k : KM) (a : Int32) : Prop := vp_in a (F + S) ∧ (km_ct k (ix a) - 1 ≤ 0 → fp_ok F S (km_pl k (ix a)))
def mk_ok (F S : Nat) (k : KM) : Prop := F ≤ 8 ∧ S ≤ 10 ∧ (¬ k_low (km_pl k) (F + S) 0 = -1 → gf_ok F S k ∧ vp_in (k_low (km_pl k) (F + S) 0) (F + S) ∧ (¬ (k_getFrame F S k).1 = -1 → vp_in (k_getFrame F S k).1 F))

theorem vp_ix {i : Int32} {n : Nat} (h : vp_in i n) : ix i < n := Nat.not_le.mp fun q => h (Or.inr q)

theorem mW_row {b : Nat → Nat} {F S : Nat} {tI tZ tA : ClassId} {k : KM} {i : Nat} {f : Nat → Int32} (hi : i < F + S) : (mW b F S tI tZ tA k).set (7 + i) (b (16 + i), .inl (tI, 4, .inl f)) = mW b F S tI tZ tA (ku_wd k (up2 (km_wd k) i f)) := pl_set (X := [_, _, _, _, _, _, _]) (Y := []) hi rfl

set_option maxHeartbeats 4000000 in
set_option maxRecDepth 100000 in
/-- M_getFrame -/
theorem c_M_getFrame (l : Launch) (D : va_G) (tI tZ tA tJ : ClassId) (b : Nat → Nat) (F S sz : Nat) (k : KM)  : ob_M l y_M_getFrame w_M_getFrame ({ frames := 2, cells := 0, slots := 0, locals := 43 }) (pW D tI tZ tA tJ [.ref (b 9)] (mW b F S tI tZ tA k) sz (gf_ok F S k)) (ob_qW D vcl (some (.int ((k_getFrame F S k).1))) (mW b F S tI tZ tA ((k_getFrame F S k).2)) (va_A (mW b F S tI tZ tA k) sz)) 0 0 (va_A (mW b F S tI tZ tA k) sz) := by
  refine ob_ofW (by decide +kernel) ?_
  intro p e s m args below meth c s₁ B hml htab hv
  obtain ⟨rfl, hT, hq, hsz, hP, hD0⟩ := hv
  have hx := B.exec
  have hb := B.bytes
  have hr := B.returns
  have hlocks := B.notSynchronized
  have hown : s.vm.findClass R_M = some m.cls := findClass_of_methodNamed B.named
  have hl := lv_entry ([.ref (b 9)]) (n := 3) (Nat.le_of_ble_eq_true rfl)
  rw [lg_entry_eq]
  generalize (lg_sl ([.ref (b 9)]) ++ List.replicate (3 - (lg_sl ([.ref (b 9)])).length) Slot.unset).toArray = ls at hl ⊢
  have hl : lv_has ls 3 [(0, .ref (b 9))] := hl
  subst hsz
  have hD := hD0.self (sz := s.heap.size)
  generalize hAe : va_A (mW b F S tI tZ tA k) s.heap.size = A at hD ⊢
  have hA : ∀ q : Nat, s.heap.size ≤ q → A q := fun q h => by rw [← hAe]; exact Or.inr h
  have hS : va_S A s.heap s.heap [] := va_S.rf
  obtain ⟨hF, hS10, hev⟩ := hq
  refine lv_aload_n hx hb d_M_getFrame_0 rfl (lv_at hl 0 rfl) ?_
  refine va_get (D := D) (ci := 1) (v := .ref (b 10)) hx hb hT.lays ly_M hown hT.1 hP 0 rfl rfl 0 (by decide) (hT.w k_M_13) (fun _ h => h) rfl d_M_getFrame_1 ?_
  refine ob_callR (v := (some (.int (k_low (km_iF k) F 0)))) (ob_runSN (n := 1) (As := [.ref (b 10)]) (rest := []) (c_X_lowestFree l D tI tZ tA tJ (b 10) F (km_iF k)) (hT.ok ob_cd_c (by decide +kernel) rfl rfl (Nat.le_of_ble_eq_true rfl) (Nat.le_of_ble_eq_true rfl) kn_X kc_X_lowestFree) hx hb hml hown (hT.w k_M_47) (hT.w ks_X_lowestFree) pR.blind (pR.at hT (by omega) (hP.sub [1] rfl)) rfl rfl hl.1 rfl (lv_room (Nat.le_of_ble_eq_true rfl)) d_M_getFrame_4 ⟨Nat.le_of_ble_eq_true rfl, Nat.le_of_ble_eq_true rfl⟩) ?_
  refine W.eq (g2 := F0 m 7 ls [.int (k_low (km_iF k) F 0)]) rfl ?_
  refine lv_istore_n (lv' := [(1, .int (k_low (km_iF k) F 0)), (0, .ref (b 9))]) hx hb d_M_getFrame_7 rfl hl (by decide) rfl (fun ls hl => ?_)
  refine lv_iload_n hx hb d_M_getFrame_8 rfl (lv_at hl 0 rfl) ?_
  refine lv_iconst (v := -1) hx hb d_M_getFrame_9 (by decide) ?_
  refine lv_icmp_eq (tgt := 15) hx hb d_M_getFrame_10 (by decide) (fun hc => ?_) (fun hc => ?_)
  · refine lv_aload_n hx hb d_M_getFrame_15 rfl (lv_at hl 1 rfl) ?_
    refine va_get (D := D) (ci := 1) (v := .ref (b 11)) hx hb hT.lays ly_M hown hT.1 hP 0 rfl rfl 1 (by decide) (hT.w k_M_19) (fun _ h => h) rfl d_M_getFrame_16 ?_
    refine ob_callR (v := (some (.int (k_low (km_iS k) S 0)))) (ob_runSN (n := 1) (As := [.ref (b 11)]) (rest := []) (c_X_lowestFree l D tI tZ tA tJ (b 11) S (km_iS k)) (hT.ok ob_cd_c (by decide +kernel) rfl rfl (Nat.le_of_ble_eq_true rfl) (Nat.le_of_ble_eq_true rfl) kn_X kc_X_lowestFree) hx hb hml hown (hT.w k_M_47) (hT.w ks_X_lowestFree) pR.blind (pR.at hT (by omega) (hP.sub [2] rfl)) rfl rfl hl.1 rfl (lv_room (Nat.le_of_ble_eq_true rfl)) d_M_getFrame_19 ⟨Nat.le_of_ble_eq_true rfl, Nat.le_of_ble_eq_true rfl⟩) ?_
    refine W.eq (g2 := F0 m 22 ls [.int (k_low (km_iS k) S 0)]) rfl ?_
    refine lv_istore_n (lv' := [(2, .int (k_low (km_iS k) S 0)), (1, .int (k_low (km_iF k) F 0)), (0, .ref (b 9))]) hx hb d_M_getFrame_22 rfl hl (by decide) rfl (fun ls hl => ?_)
    refine lv_iload_n hx hb d_M_getFrame_23 rfl (lv_at hl 0 rfl) ?_
    refine lv_iconst (v := -1) hx hb d_M_getFrame_24 (by decide) ?_
    refine lv_icmp_ne (tgt := 32) hx hb d_M_getFrame_25 (by decide) (fun hc => ?_) (fun hc => ?_)
    · rename_i hc1
      have e1 : k_getFrame F S k = k_evict F k (k_low (km_iS k) S 0) := by unfold k_getFrame; rw [if_pos hc1, if_neg hc]
      rw [e1]
      refine lv_aload_n hx hb d_M_getFrame_32 rfl (lv_at hl 2 rfl) ?_
      refine lv_iload_n hx hb d_M_getFrame_33 rfl (lv_at hl 0 rfl) ?_
      refine ob_callW (v := (some (.int ((k_evict F k (k_low (km_iS k) S 0)).1)))) (X := []) (M := mW b F S tI tZ tA k) (M' := mW b F S tI tZ tA ((k_evict F k (k_low (km_iS k) S 0)).2)) (ob_runV (n := 1) (As := [.int (k_low (km_iS k) S 0)]) (rest := []) (c_M_evictInto l D tI tZ tA tJ b F S s.heap.size k (k_low (km_iS k) S 0)) (hT.ok ob_cd_c (by decide +kernel) rfl rfl (Nat.le_of_ble_eq_true rfl) (Nat.le_of_ble_eq_true rfl) kn_M kc_M_evictInto) hx hb hml hown (hT.w k_M_75) (hT.w ki_M_evictInto) (hT.w kv_M_evictInto) (va_recv (q0 := 0) (ci := 1) hT.1 hP rfl rfl) pW.blind (pW.at hT (hev hc1 hc) hP hD) rfl rfl hl.1 rfl (lv_room (Nat.le_of_ble_eq_true rfl)) d_M_getFrame_34 ⟨Nat.le_of_ble_eq_true rfl, Nat.le_of_ble_eq_true rfl⟩) hP hD hS hA (fun H locs hP hD hS => ?_)
      have hP : va_P D vcl (mW b F S tI tZ tA ((k_evict F k (k_low (km_iS k) S 0)).2)) H := hP
      have hD : va_D A (mW b F S tI tZ tA ((k_evict F k (k_low (km_iS k) S 0)).2)) := hD
      refine W.eq (g2 := F0 m 37 ls [.int ((k_evict F k (k_low (km_iS k) S 0)).1)]) rfl ?_
      refine ob_iret hlocks hx hb hr d_M_getFrame_37 hS.2.2 (fun t ht hW => ?_)
      exact ⟨rfl, by rw [ht]; exact hP, hD, hS.F ht⟩
    · rename_i hc1
      have e1 : k_getFrame F S k = (-1, k) := by unfold k_getFrame; rw [if_pos hc1, if_pos hc]
      rw [e1]
      refine lv_iconst (v := -1) hx hb d_M_getFrame_28 (by decide) ?_
      refine lv_goto (tgt := 37) hx hb d_M_getFrame_29 (by decide) ?_
      refine ob_iret hlocks hx hb hr d_M_getFrame_37 hS.2.2 (fun t ht hW => ?_)
      exact ⟨rfl, by rw [ht]; exact hP, hD, hS.F ht⟩
  · have e1 : k_getFrame F S k = (k_low (km_iF k) F 0, k) := if_neg hc
    rw [e1]
    refine lv_iload_n hx hb d_M_getFrame_13 rfl (lv_at hl 0 rfl) ?_
    refine ob_iret hlocks hx hb hr d_M_getFrame_14 hS.2.2 (fun t ht hW => ?_)
    exact ⟨rfl, by rw [ht]; exact hP, hD, hS.F ht⟩

set_option maxHeartbeats 4000000 in
set_option maxRecDepth 100000 in
/-- M_bringIn -/
theorem c_M_bringIn (l : Launch) (D : va_G) (tI tZ tA tJ : ClassId) (b : Nat → Nat) (F S sz : Nat) (k : KM) (a : Int32) : ob_M l y_M_bringIn w_M_bringIn ({ frames := 3, cells := 0, slots := 0, locals := 65 }) (pW D tI tZ tA tJ [.ref (b 9), .int a] (mW b F S tI tZ tA k) sz (bi_ok F S k a)) (ob_qW D vcl none (mW b F S tI tZ tA (k_bringIn F S k a)) (va_A (mW b F S tI tZ tA k) sz)) 0 0 (va_A (mW b F S tI tZ tA k) sz) := by
  refine ob_ofW (by decide +kernel) ?_
  intro p e s m args below meth c s₁ B hml htab hv
  obtain ⟨rfl, hT, hq, hsz, hP, hD0⟩ := hv
  have hx := B.exec
  have hb := B.bytes
  have hr := B.returns
  have hlocks := B.notSynchronized
  have hown : s.vm.findClass R_M = some m.cls := findClass_of_methodNamed B.named
  have hl := lv_entry ([.ref (b 9), .int a]) (n := 2) (Nat.le_of_ble_eq_true rfl)
  rw [lg_entry_eq]
  generalize (lg_sl ([.ref (b 9), .int a]) ++ List.replicate (2 - (lg_sl ([.ref (b 9), .int a])).length) Slot.unset).toArray = ls at hl ⊢
  have hl : lv_has ls 2 [(0, .ref (b 9)), (1, .int a)] := hl
  subst hsz
  have hD := hD0.self (sz := s.heap.size)
  generalize hAe : va_A (mW b F S tI tZ tA k) s.heap.size = A at hD ⊢
  have hA : ∀ q : Nat, s.heap.size ≤ q → A q := fun q h => by rw [← hAe]; exact Or.inr h
  have hS : va_S A s.heap s.heap [] := va_S.rf
  obtain ⟨ha, hfp, hgf, hin⟩ := hq
  refine lv_aload_n hx hb d_M_bringIn_0 rfl (lv_at hl 0 rfl) ?_
  refine lv_aload_n hx hb d_M_bringIn_1 rfl (lv_at hl 0 rfl) ?_
  refine va_get (D := D) (ci := 1) (v := .ref (b 13)) hx hb hT.lays ly_M hown hT.1 hP 0 rfl rfl 3 (by decide) (hT.w k_M_26) (fun _ h => h) rfl d_M_bringIn_2 ?_
  refine lv_iload_n hx hb d_M_bringIn_5 rfl (lv_at hl 1 rfl) ?_
  refine va_iald hx hb hT.1 hP 4 0 rfl rfl (ha) d_M_bringIn_6 ?_
  refine ob_callW (v := none) (X := []) (M := mW b F S tI tZ tA k) (M' := mW b F S tI tZ tA (k_freePlace k (km_pl k (ix a)))) (ob_runV (n := 1) (As := [.int (km_pl k (ix a))]) (rest := []) (c_M_freePlace l D tI tZ tA tJ b F S s.heap.size k (km_pl k (ix a))) (hT.ok ob_cd_c (by decide +kernel) rfl rfl (Nat.le_of_ble_eq_true rfl) (Nat.le_of_ble_eq_true rfl) kn_M kc_M_freePlace) hx hb hml hown (hT.w k_M_65) (hT.w ki_M_freePlace) (hT.w kv_M_freePlace) (va_recv (q0 := 0) (ci := 1) hT.1 hP rfl rfl) pW.blind (pW.at hT (hfp) hP hD) rfl rfl hl.1 rfl (lv_room (Nat.le_of_ble_eq_true rfl)) d_M_bringIn_7 ⟨Nat.le_of_ble_eq_true rfl, Nat.le_of_ble_eq_true rfl⟩) hP hD hS hA (fun H locs hP hD hS => ?_)
  have hP : va_P D vcl (mW b F S tI tZ tA (k_freePlace k (km_pl k (ix a)))) H := hP
  have hD : va_D A (mW b F S tI tZ tA (k_freePlace k (km_pl k (ix a)))) := hD
  refine W.eq (g2 := F0 m 10 ls []) rfl ?_
  refine lv_aload_n hx hb d_M_bringIn_10 rfl (lv_at hl 0 rfl) ?_
  refine lv_iload_n hx hb d_M_bringIn_11 rfl (lv_at hl 1 rfl) ?_
  refine lv_aload_n hx hb d_M_bringIn_12 rfl (lv_at hl 0 rfl) ?_
  refine ob_callW (v := (some (.int ((k_getFrame F S (k_freePlace k (km_pl k (ix a)))).1)))) (X := []) (M := mW b F S tI tZ tA (k_freePlace k (km_pl k (ix a)))) (M' := mW b F S tI tZ tA ((k_getFrame F S (k_freePlace k (km_pl k (ix a)))).2)) (ob_runV (n := 0) (As := []) (rest := [.int a, .ref (b 9)]) (c_M_getFrame l D tI tZ tA tJ b F S H.size (k_freePlace k (km_pl k (ix a)))) (hT.ok ob_cd_c (by decide +kernel) rfl rfl (Nat.le_of_ble_eq_true rfl) (Nat.le_of_ble_eq_true rfl) kn_M kc_M_getFrame) hx hb hml hown (hT.w k_M_51) (hT.w ki_M_getFrame) (hT.w kv_M_getFrame) (va_recv (q0 := 0) (ci := 1) hT.1 hP rfl rfl) pW.blind (pW.at hT (hgf) hP hD) rfl rfl hl.1 rfl (lv_room (Nat.le_of_ble_eq_true rfl)) d_M_bringIn_13 ⟨Nat.le_of_ble_eq_true rfl, Nat.le_of_ble_eq_true rfl⟩) hP hD hS hA (fun H locs hP hD hS => ?_)
  have hP : va_P D vcl (mW b F S tI tZ tA ((k_getFrame F S (k_freePlace k (km_pl k (ix a)))).2)) H := hP
  have hD : va_D A (mW b F S tI tZ tA ((k_getFrame F S (k_freePlace k (km_pl k (ix a)))).2)) := hD
  refine W.eq (g2 := F0 m 16 ls [.int ((k_getFrame F S (k_freePlace k (km_pl k (ix a)))).1), .int a, .ref (b 9)]) rfl ?_
  refine ob_callW (v := none) (X := []) (M := mW b F S tI tZ tA ((k_getFrame F S (k_freePlace k (km_pl k (ix a)))).2)) (M' := mW b F S tI tZ tA (k_lay ((k_getFrame F S (k_freePlace k (km_pl k (ix a)))).2) a ((k_getFrame F S (k_freePlace k (km_pl k (ix a)))).1))) (ob_runV (n := 2) (As := [.int a, .int ((k_getFrame F S (k_freePlace k (km_pl k (ix a)))).1)]) (rest := []) (c_M_layIntoFrame l D tI tZ tA tJ b F S H.size ((k_getFrame F S (k_freePlace k (km_pl k (ix a)))).2) a ((k_getFrame F S (k_freePlace k (km_pl k (ix a)))).1)) (hT.ok ob_cd_c (by decide +kernel) rfl rfl (Nat.le_of_ble_eq_true rfl) (Nat.le_of_ble_eq_true rfl) kn_M kc_M_layIntoFrame) hx hb hml hown (hT.w k_M_61) (hT.w ki_M_layIntoFrame) (hT.w kv_M_layIntoFrame) (va_recv (q0 := 0) (ci := 1) hT.1 hP rfl rfl) pW.blind (pW.at hT (⟨hin, ha⟩) hP hD) rfl rfl hl.1 rfl (lv_room (Nat.le_of_ble_eq_true rfl)) d_M_bringIn_16 ⟨Nat.le_of_ble_eq_true rfl, Nat.le_of_ble_eq_true rfl⟩) hP hD hS hA (fun H locs hP hD hS => ?_)
  have hP : va_P D vcl (mW b F S tI tZ tA (k_bringIn F S k a)) H := hP
  have hD : va_D A (mW b F S tI tZ tA (k_bringIn F S k a)) := hD
  refine W.eq (g2 := F0 m 19 ls []) rfl ?_
  refine ob_vret hlocks hx hb hr d_M_bringIn_19 hS.2.2 (fun t ht hW => ?_)
  exact ⟨rfl, by rw [ht]; exact hP, hD, hS.F ht⟩

set_option maxHeartbeats 4000000 in
set_option maxRecDepth 100000 in
/-- M_touch -/
theorem c_M_touch (l : Launch) (D : va_G) (tI tZ tA tJ : ClassId) (b : Nat → Nat) (F S sz : Nat) (k : KM) (a : Int32) : ob_M l y_M_touch w_M_touch ({ frames := 4, cells := 0, slots := 0, locals := 86 }) (pW D tI tZ tA tJ [.ref (b 9), .int a] (mW b F S tI tZ tA k) sz (to_ok F S k a)) (ob_qW D vcl none (mW b F S tI tZ tA (k_touch F S k a)) (va_A (mW b F S tI tZ tA k) sz)) 0 0 (va_A (mW b F S tI tZ tA k) sz) := by
  refine ob_ofW (by decide +kernel) ?_
  intro p e s m args below meth c s₁ B hml htab hv
  obtain ⟨rfl, hT, hq, hsz, hP, hD0⟩ := hv
  have hx := B.exec
  have hb := B.bytes
  have hr := B.returns
  have hlocks := B.notSynchronized
  have hown : s.vm.findClass R_M = some m.cls := findClass_of_methodNamed B.named
  have hl := lv_entry ([.ref (b 9), .int a]) (n := 2) (Nat.le_of_ble_eq_true rfl)
  rw [lg_entry_eq]
  generalize (lg_sl ([.ref (b 9), .int a]) ++ List.replicate (2 - (lg_sl ([.ref (b 9), .int a])).length) Slot.unset).toArray = ls at hl ⊢
  have hl : lv_has ls 2 [(0, .ref (b 9)), (1, .int a)] := hl
  subst hsz
  have hD := hD0.self (sz := s.heap.size)
  generalize hAe : va_A (mW b F S tI tZ tA k) s.heap.size = A at hD ⊢
  have hA : ∀ q : Nat, s.heap.size ≤ q → A q := fun q h => by rw [← hAe]; exact Or.inr h
  have hS : va_S A s.heap s.heap [] := va_S.rf
  obtain ⟨ha, hbi, hin⟩ := hq
  have hend : ∀ (H : Heap) (locs : List Loc), va_P D vcl (mW b F S tI tZ tA (k_tch F S k a)) H → va_D A (mW b F S tI tZ tA (k_tch F S k a)) → va_S A s.heap H locs → W p l e ({ frames := 4, cells := 0, slots := 0, locals := 86 } : Room) s m ([.ref (b 9), .int a] : List Value).toArray below meth c H locs 0 0 (ob_Q below (ob_qW D vcl none (mW b F S tI tZ tA (k_touch F S k a)) A) ([.ref (b 9), .int a] : List Value).toArray s 0 0 A) (F0 m 16 ls []) := by
    intro H locs hP hD hS
    refine lv_aload_n hx hb d_M_touch_16 rfl (lv_at hl 0 rfl) ?_
    refine va_get (D := D) (ci := 1) (v := .ref (b 12)) hx hb hT.lays ly_M hown hT.1 hP 0 rfl rfl 2 (by decide) (hT.w k_M_22) (fun _ h => h) rfl d_M_touch_17 ?_
    refine lv_aload_n hx hb d_M_touch_20 rfl (lv_at hl 0 rfl) ?_
    refine va_get (D := D) (ci := 1) (v := .ref (b 13)) hx hb hT.lays ly_M hown hT.1 hP 0 rfl rfl 3 (by decide) (hT.w k_M_26) (fun _ h => h) rfl d_M_touch_21 ?_
    refine lv_iload_n hx hb d_M_touch_24 rfl (lv_at hl 1 rfl) ?_
    refine va_iald hx hb hT.1 hP 4 0 rfl rfl (ha) d_M_touch_25 ?_
    refine lv_iconst (v := 1) hx hb d_M_touch_26 (by decide) ?_
    refine va_zast hx hb hT.1 hP hD hS 3 1 rfl rfl (hin) d_M_touch_27 (fun H locs hP hD hS => ?_)
    rw [nar1] at hP hD
    have hP : va_P D vcl (mW b F S tI tZ tA (ku_mk (k_tch F S k a) (upd (km_mk (k_tch F S k a)) (ix ((km_pl (k_tch F S k a)) (ix a))) 1))) H := hP
    have hD : va_D A (mW b F S tI tZ tA (ku_mk (k_tch F S k a) (upd (km_mk (k_tch F S k a)) (ix ((km_pl (k_tch F S k a)) (ix a))) 1))) := hD
    refine ob_vret hlocks hx hb hr d_M_touch_28 hS.2.2 (fun t ht hW => ?_)
    exact ⟨rfl, by rw [ht]; exact hP, hD, hS.F ht⟩
  refine lv_aload_n hx hb d_M_touch_0 rfl (lv_at hl 0 rfl) ?_
  refine va_get (D := D) (ci := 1) (v := .ref (b 13)) hx hb hT.lays ly_M hown hT.1 hP 0 rfl rfl 3 (by decide) (hT.w k_M_26) (fun _ h => h) rfl d_M_touch_1 ?_
  refine lv_iload_n hx hb d_M_touch_4 rfl (lv_at hl 1 rfl) ?_
  refine va_iald hx hb hT.1 hP 4 0 rfl rfl (ha) d_M_touch_5 ?_
  refine lv_bipush (v := 100) hx hb d_M_touch_6 (by decide) ?_
  refine lv_icmp_lt (tgt := 16) hx hb d_M_touch_8 (by decide) (fun hc => ?_) (fun hc => ?_)
  · have e1 : k_tch F S k a = k := if_pos hc
    rw [e1] at hend
    exact hend s.heap [] hP hD hS
  · have e1 : k_tch F S k a = k_bringIn F S k a := if_neg hc
    rw [e1] at hend
    refine lv_aload_n hx hb d_M_touch_11 rfl (lv_at hl 0 rfl) ?_
    refine lv_iload_n hx hb d_M_touch_12 rfl (lv_at hl 1 rfl) ?_
    refine ob_callW (v := none) (X := []) (M := mW b F S tI tZ tA k) (M' := mW b F S tI tZ tA (k_bringIn F S k a)) (ob_runV (n := 1) (As := [.int a]) (rest := []) (c_M_bringIn l D tI tZ tA tJ b F S s.heap.size k a) (hT.ok ob_cd_c (by decide +kernel) rfl rfl (Nat.le_of_ble_eq_true rfl) (Nat.le_of_ble_eq_true rfl) kn_M kc_M_bringIn) hx hb hml hown (hT.w k_M_68) (hT.w ki_M_bringIn) (hT.w kv_M_bringIn) (va_recv (q0 := 0) (ci := 1) hT.1 hP rfl rfl) pW.blind (pW.at hT (hbi hc) hP hD) rfl rfl hl.1 rfl (lv_room (Nat.le_of_ble_eq_true rfl)) d_M_touch_13 ⟨Nat.le_of_ble_eq_true rfl, Nat.le_of_ble_eq_true rfl⟩) hP hD hS hA (fun H locs hP hD hS => ?_)
    have hP : va_P D vcl (mW b F S tI tZ tA (k_bringIn F S k a)) H := hP
    have hD : va_D A (mW b F S tI tZ tA (k_bringIn F S k a)) := hD
    refine W.eq (g2 := F0 m 16 ls []) rfl ?_
    exact hend H locs hP hD hS

set_option maxHeartbeats 4000000 in
set_option maxRecDepth 100000 in
/-- M_read -/
theorem c_M_read (l : Launch) (D : va_G) (tI tZ tA tJ : ClassId) (b : Nat → Nat) (F S sz : Nat) (k : KM) (a i : Int32) : ob_M l y_M_read w_M_read ({ frames := 5, cells := 0, slots := 0, locals := 107 }) (pW D tI tZ tA tJ [.ref (b 9), .int a, .int i] (mW b F S tI tZ tA k) sz (to_ok F S k a ∧ vp_in i 4)) (ob_qW D vcl (some (.int (km_wd (k_touch F S k a) (ix a) (ix i)))) (mW b F S tI tZ tA (k_touch F S k a)) (va_A (mW b F S tI tZ tA k) sz)) 0 0 (va_A (mW b F S tI tZ tA k) sz) := by
  refine ob_ofW (by decide +kernel) ?_
  intro p e s m args below meth c s₁ B hml htab hv
  obtain ⟨rfl, hT, ⟨hq, hi⟩, hsz, hP, hD0⟩ := hv
  have hx := B.exec
  have hb := B.bytes
  have hr := B.returns
  have hlocks := B.notSynchronized
  have hown : s.vm.findClass R_M = some m.cls := findClass_of_methodNamed B.named
  have hl := lv_entry ([.ref (b 9), .int a, .int i]) (n := 3) (Nat.le_of_ble_eq_true rfl)
  rw [lg_entry_eq]
  generalize (lg_sl ([.ref (b 9), .int a, .int i]) ++ List.replicate (3 - (lg_sl ([.ref (b 9), .int a, .int i])).length) Slot.unset).toArray = ls at hl ⊢
  have hl : lv_has ls 3 [(0, .ref (b 9)), (1, .int a), (2, .int i)] := hl
  subst hsz
  have hD := hD0.self (sz := s.heap.size)
  generalize hAe : va_A (mW b F S tI tZ tA k) s.heap.size = A at hD ⊢
  have hA : ∀ q : Nat, s.heap.size ≤ q → A q := fun q h => by rw [← hAe]; exact Or.inr h
  have hS : va_S A s.heap s.heap [] := va_S.rf
  have ha := hq.1
  refine lv_aload_n hx hb d_M_read_0 rfl (lv_at hl 0 rfl) ?_
  refine lv_iload_n hx hb d_M_read_1 rfl (lv_at hl 1 rfl) ?_
  refine ob_callW (v := none) (X := []) (M := mW b F S tI tZ tA k) (M' := mW b F S tI tZ tA (k_touch F S k a)) (ob_runV (n := 1) (As := [.int a]) (rest := []) (c_M_touch l D tI tZ tA tJ b F S s.heap.size k a) (hT.ok ob_cd_c (by decide +kernel) rfl rfl (Nat.le_of_ble_eq_true rfl) (Nat.le_of_ble_eq_true rfl) kn_M kc_M_touch) hx hb hml hown (hT.w k_M_37) (hT.w ki_M_touch) (hT.w kv_M_touch) (va_recv (q0 := 0) (ci := 1) hT.1 hP rfl rfl) pW.blind (pW.at hT (hq) hP hD) rfl rfl hl.1 rfl (lv_room (Nat.le_of_ble_eq_true rfl)) d_M_read_2 ⟨Nat.le_of_ble_eq_true rfl, Nat.le_of_ble_eq_true rfl⟩) hP hD hS hA (fun H locs hP hD hS => ?_)
  have hP : va_P D vcl (mW b F S tI tZ tA (k_touch F S k a)) H := hP
  have hD : va_D A (mW b F S tI tZ tA (k_touch F S k a)) := hD
  refine W.eq (g2 := F0 m 5 ls []) rfl ?_
  refine lv_aload_n hx hb d_M_read_5 rfl (lv_at hl 0 rfl) ?_
  refine va_get (D := D) (ci := 1) (v := .ref (b 15)) hx hb hT.lays ly_M hown hT.1 hP 0 rfl rfl 5 (by decide) (hT.w k_M_34) (fun _ h => h) rfl d_M_read_6 ?_
  refine lv_iload_n hx hb d_M_read_9 rfl (lv_at hl 1 rfl) ?_
  refine ob_aald hx hb hT.1 hP 6 2 rfl rfl (ha) d_M_read_10 ?_
  refine lv_iload_n hx hb d_M_read_11 rfl (lv_at hl 2 rfl) ?_
  refine va_iald hx hb hT.1 hP (7 + ix a) 0 (pl_get (vp_ix ha) rfl) rfl (hi) d_M_read_12 ?_
  refine ob_iret hlocks hx hb hr d_M_read_13 hS.2.2 (fun t ht hW => ?_)
  exact ⟨rfl, by rw [ht]; exact hP, hD, hS.F ht⟩

set_option maxHeartbeats 4000000 in
set_option maxRecDepth 100000 in
/-- M_write -/
theorem c_M_write (l : Launch) (D : va_G) (tI tZ tA tJ : ClassId) (b : Nat → Nat) (F S sz : Nat) (k : KM) (a i x : Int32) : ob_M l y_M_write w_M_write ({ frames := 5, cells := 0, slots := 0, locals := 107 }) (pW D tI tZ tA tJ [.ref (b 9), .int a, .int i, .int x] (mW b F S tI tZ tA k) sz (to_ok F S k a ∧ vp_in i 4)) (ob_qW D vcl none (mW b F S tI tZ tA (k_write F S k a i x)) (va_A (mW b F S tI tZ tA k) sz)) 0 0 (va_A (mW b F S tI tZ tA k) sz) := by
  refine ob_ofW (by decide +kernel) ?_
  intro p e s m args below meth c s₁ B hml htab hv
  obtain ⟨rfl, hT, ⟨hq, hi⟩, hsz, hP, hD0⟩ := hv
  have hx := B.exec
  have hb := B.bytes
  have hr := B.returns
  have hlocks := B.notSynchronized
  have hown : s.vm.findClass R_M = some m.cls := findClass_of_methodNamed B.named
  have hl := lv_entry ([.ref (b 9), .int a, .int i, .int x]) (n := 4) (Nat.le_of_ble_eq_true rfl)
  rw [lg_entry_eq]
  generalize (lg_sl ([.ref (b 9), .int a, .int i, .int x]) ++ List.replicate (4 - (lg_sl ([.ref (b 9), .int a, .int i, .int x])).length) Slot.unset).toArray = ls at hl ⊢
  have hl : lv_has ls 4 [(0, .ref (b 9)), (1, .int a), (2, .int i), (3, .int x)] := hl
  subst hsz
  have hD := hD0.self (sz := s.heap.size)
  generalize hAe : va_A (mW b F S tI tZ tA k) s.heap.size = A at hD ⊢
  have hA : ∀ q : Nat, s.heap.size ≤ q → A q := fun q h => by rw [← hAe]; exact Or.inr h
  have hS : va_S A s.heap s.heap [] := va_S.rf
  have ha := hq.1
  refine lv_aload_n hx hb d_M_write_0 rfl (lv_at hl 0 rfl) ?_
  refine lv_iload_n hx hb d_M_write_1 rfl (lv_at hl 1 rfl) ?_
  refine ob_callW (v := none) (X := []) (M := mW b F S tI tZ tA k) (M' := mW b F S tI tZ tA (k_touch F S k a)) (ob_runV (n := 1) (As := [.int a]) (rest := []) (c_M_touch l D tI tZ tA tJ b F S s.heap.size k a) (hT.ok ob_cd_c (by decide +kernel) rfl rfl (Nat.le_of_ble_eq_true rfl) (Nat.le_of_ble_eq_true rfl) kn_M kc_M_touch) hx hb hml hown (hT.w k_M_37) (hT.w ki_M_touch) (hT.w kv_M_touch) (va_recv (q0 := 0) (ci := 1) hT.1 hP rfl rfl) pW.blind (pW.at hT (hq) hP hD) rfl rfl hl.1 rfl (lv_room (Nat.le_of_ble_eq_true rfl)) d_M_write_2 ⟨Nat.le_of_ble_eq_true rfl, Nat.le_of_ble_eq_true rfl⟩) hP hD hS hA (fun H locs hP hD hS => ?_)
  have hP : va_P D vcl (mW b F S tI tZ tA (k_touch F S k a)) H := hP
  have hD : va_D A (mW b F S tI tZ tA (k_touch F S k a)) := hD
  refine W.eq (g2 := F0 m 5 ls []) rfl ?_
  refine lv_aload_n hx hb d_M_write_5 rfl (lv_at hl 0 rfl) ?_
  refine va_get (D := D) (ci := 1) (v := .ref (b 15)) hx hb hT.lays ly_M hown hT.1 hP 0 rfl rfl 5 (by decide) (hT.w k_M_34) (fun _ h => h) rfl d_M_write_6 ?_
  refine lv_iload_n hx hb d_M_write_9 rfl (lv_at hl 1 rfl) ?_
  refine ob_aald hx hb hT.1 hP 6 2 rfl rfl (ha) d_M_write_10 ?_
  refine lv_iload_n hx hb d_M_write_11 rfl (lv_at hl 2 rfl) ?_
  refine lv_iload_n hx hb d_M_write_12 rfl (lv_at hl 3 rfl) ?_
  refine va_iast hx hb hT.1 hP hD hS (7 + ix a) 0 (pl_get (vp_ix ha) rfl) rfl (hi) d_M_write_13 (fun H locs hP hD hS => ?_)
  rw [mW_row (vp_ix ha)] at hP hD
  have hP : va_P D vcl (mW b F S tI tZ tA (k_write F S k a i x)) H := hP
  have hD : va_D A (mW b F S tI tZ tA (k_write F S k a i x)) := hD
  refine ob_vret hlocks hx hb hr d_M_write_14 hS.2.2 (fun t ht hW => ?_)
  exact ⟨rfl, by rw [ht]; exact hP, hD, hS.F ht⟩
end
section
set_option maxHeartbeats 4000000 in
set_option maxRecDepth 100000 in
/-- M_copyWords -/
theorem c_M_copyWords (l : Launch) (D : va_G) (tI tZ tA tJ : ClassId) (b : Nat → Nat) (F S sz : Nat) (k : KM) (a d : Int32) : ob_M l y_M_copyWords w_M_copyWords ({ frames := 1, cells := 0, slots := 0, locals := 60 }) (pW D tI tZ tA tJ [.ref (b 9), .int a, .int d] (mW b F S tI tZ tA k) sz (vp_in a (F + S) ∧ vp_in d (F + S))) (ob_qW D vcl none (mW b F S tI tZ tA (k_cpw k a d)) (va_A (mW b F S tI tZ tA k) sz)) 0 0 (va_A (mW b F S tI tZ tA k) sz) := by
  refine ob_ofW (by decide +kernel) ?_
  intro p e s m args below meth c s₁ B hml htab hv
  obtain ⟨rfl, hT, ⟨ha, hd⟩, hsz, hP, hD0⟩ := hv
  have hx := B.exec
  have hb := B.bytes
  have hr := B.returns
  have hlocks := B.notSynchronized
  have hown : s.vm.findClass R_M = some m.cls := findClass_of_methodNamed B.named
  have hl := lv_entry ([.ref (b 9), .int a, .int d]) (n := 3) (Nat.le_of_ble_eq_true rfl)
  rw [lg_entry_eq]
  generalize (lg_sl ([.ref (b 9), .int a, .int d]) ++ List.replicate (3 - (lg_sl ([.ref (b 9), .int a, .int d])).length) Slot.unset).toArray = ls at hl ⊢
  have hl : lv_has ls 3 [(0, .ref (b 9)), (1, .int a), (2, .int d)] := hl
  subst hsz
  have hD := hD0.self (sz := s.heap.size)
  generalize hAe : va_A (mW b F S tI tZ tA k) s.heap.size = A at hD ⊢
  have hA : ∀ q : Nat, s.heap.size ≤ q → A q := fun q h => by rw [← hAe]; exact Or.inr h
  have hS : va_S A s.heap s.heap [] := va_S.rf
  refine lv_aload_n hx hb d_M_copyWords_0 rfl (lv_at hl 0 rfl) ?_
  refine va_get (D := D) (ci := 1) (v := .ref (b 15)) hx hb hT.lays ly_M hown hT.1 hP 0 rfl rfl 5 (by decide) (hT.w k_M_34) (fun _ h => h) rfl d_M_copyWords_1 ?_
  refine lv_iload_n hx hb d_M_copyWords_4 rfl (lv_at hl 1 rfl) ?_
  refine ob_aald hx hb hT.1 hP 6 2 rfl rfl (ha) d_M_copyWords_5 ?_
  refine lv_iconst (v := 0) hx hb d_M_copyWords_6 (by decide) ?_
  refine lv_aload_n hx hb d_M_copyWords_7 rfl (lv_at hl 0 rfl) ?_
  refine va_get (D := D) (ci := 1) (v := .ref (b 15)) hx hb hT.lays ly_M hown hT.1 hP 0 rfl rfl 5 (by decide) (hT.w k_M_34) (fun _ h => h) rfl d_M_copyWords_8 ?_
  refine lv_iload_n hx hb d_M_copyWords_11 rfl (lv_at hl 2 rfl) ?_
  refine ob_aald hx hb hT.1 hP 6 2 rfl rfl (hd) d_M_copyWords_12 ?_
  refine lv_iconst (v := 0) hx hb d_M_copyWords_13 (by decide) ?_
  refine lv_iconst (v := 4) hx hb d_M_copyWords_14 (by decide) ?_
  refine va_copyi hx hb (hml.trans hl.1.symm) hown (hT.w k_M_41) (hT.w kN_S_arraycopy) (hT.w ks_S_arraycopy) (hT.w kn_S) hT.1 hP hD hS (7 + ix a) (7 + ix d) 0 0 (pl_get (vp_ix ha) rfl) (pl_get (vp_ix hd) rfl) rfl rfl rfl (by decide) (by decide) (by decide) (by decide) (by decide) (fun i _ => rfl) (Nat.le_of_ble_eq_true rfl) (Nat.le_of_ble_eq_true rfl) d_M_copyWords_15 (fun H locs hP hD hS => ?_)
  rw [mW_row (vp_ix hd)] at hP hD
  have hP : va_P D vcl (mW b F S tI tZ tA (k_cpw k a d)) H := hP
  have hD : va_D A (mW b F S tI tZ tA (k_cpw k a d)) := hD
  refine ob_vret hlocks hx hb hr d_M_copyWords_18 hS.2.2 (fun t ht hW => ?_)
  exact ⟨rfl, by rw [ht]; exact hP, hD, hS.F ht⟩

set_option maxHeartbeats 4000000 in
set_option maxRecDepth 100000 in
/-- M_make -/
theorem c_M_make (l : Launch) (D : va_G) (tI tZ tA tJ : ClassId) (b : Nat → Nat) (F S sz : Nat) (k : KM)  : ob_M l y_M_make w_M_make ({ frames := 3, cells := 0, slots := 0, locals := 65 }) (pW D tI tZ tA tJ [.ref (b 9)] (mW b F S tI tZ tA k) sz (mk_ok F S k)) (ob_qW D vcl (some (.int ((k_make F S k).1))) (mW b F S tI tZ tA ((k_make F S k).2)) (va_A (mW b F S tI tZ tA k) sz)) 0 0 (va_A (mW b F S tI tZ tA k) sz) := by
  refine ob_ofW (by decide +kernel) ?_
  intro p e s m args below meth c s₁ B hml htab hv
  obtain ⟨rfl, hT, hq, hsz, hP, hD0⟩ := hv
  have hx := B.exec
  have hb := B.bytes
  have hr := B.returns
  have hlocks := B.notSynchronized
  have hown : s.vm.findClass R_M = some m.cls := findClass_of_methodNamed B.named
  have hl := lv_entry ([.ref (b 9)]) (n := 3) (Nat.le_of_ble_eq_true rfl)
  rw [lg_entry_eq]
  generalize (lg_sl ([.ref (b 9)]) ++ List.replicate (3 - (lg_sl ([.ref (b 9)])).length) Slot.unset).toArray = ls at hl ⊢
  have hl : lv_has ls 3 [(0, .ref (b 9))] := hl
  subst hsz
  have hD := hD0.self (sz := s.heap.size)
  generalize hAe : va_A (mW b F S tI tZ tA k) s.heap.size = A at hD ⊢
  have hA : ∀ q : Nat, s.heap.size ≤ q → A q := fun q h => by rw [← hAe]; exact Or.inr h
  have hS : va_S A s.heap s.heap [] := va_S.rf
  obtain ⟨hF, hS10, hq⟩ := hq
  refine lv_aload_n hx hb d_M_make_0 rfl (lv_at hl 0 rfl) ?_
  refine va_get (D := D) (ci := 1) (v := .ref (b 13)) hx hb hT.lays ly_M hown hT.1 hP 0 rfl rfl 3 (by decide) (hT.w k_M_26) (fun _ h => h) rfl d_M_make_1 ?_
  refine ob_callR (v := (some (.int (k_low (km_pl k) (F + S) 0)))) (ob_runSN (n := 1) (As := [.ref (b 13)]) (rest := []) (c_X_lowestFree l D tI tZ tA tJ (b 13) (F + S) (km_pl k)) (hT.ok ob_cd_c (by decide +kernel) rfl rfl (Nat.le_of_ble_eq_true rfl) (Nat.le_of_ble_eq_true rfl) kn_X kc_X_lowestFree) hx hb hml hown (hT.w k_M_47) (hT.w ks_X_lowestFree) pR.blind (pR.at hT (by omega) (hP.sub [4] rfl)) rfl rfl hl.1 rfl (lv_room (Nat.le_of_ble_eq_true rfl)) d_M_make_4 ⟨Nat.le_of_ble_eq_true rfl, Nat.le_of_ble_eq_true rfl⟩) ?_
  refine W.eq (g2 := F0 m 7 ls [.int (k_low (km_pl k) (F + S) 0)]) rfl ?_
  refine lv_istore_n (lv' := [(1, .int (k_low (km_pl k) (F + S) 0)), (0, .ref (b 9))]) hx hb d_M_make_7 rfl hl (by decide) rfl (fun ls hl => ?_)
  refine lv_iload_n hx hb d_M_make_8 rfl (lv_at hl 0 rfl) ?_
  refine lv_iconst (v := -1) hx hb d_M_make_9 (by decide) ?_
  refine lv_icmp_ne (tgt := 17) hx hb d_M_make_10 (by decide) (fun hc => ?_) (fun hc => ?_)
  · obtain ⟨hgf, hain, hfin⟩ := hq hc
    have hc1 := hc
    refine lv_aload_n hx hb d_M_make_17 rfl (lv_at hl 1 rfl) ?_
    refine ob_callW (v := (some (.int ((k_getFrame F S k).1)))) (X := []) (M := mW b F S tI tZ tA k) (M' := mW b F S tI tZ tA ((k_getFrame F S k).2)) (ob_runV (n := 0) (As := []) (rest := []) (c_M_getFrame l D tI tZ tA tJ b F S s.heap.size k) (hT.ok ob_cd_c (by decide +kernel) rfl rfl (Nat.le_of_ble_eq_true rfl) (Nat.le_of_ble_eq_true rfl) kn_M kc_M_getFrame) hx hb hml hown (hT.w k_M_51) (hT.w ki_M_getFrame) (hT.w kv_M_getFrame) (va_recv (q0 := 0) (ci := 1) hT.1 hP rfl rfl) pW.blind (pW.at hT (hgf) hP hD) rfl rfl hl.1 rfl (lv_room (Nat.le_of_ble_eq_true rfl)) d_M_make_18 ⟨Nat.le_of_ble_eq_true rfl, Nat.le_of_ble_eq_true rfl⟩) hP hD hS hA (fun H locs hP hD hS => ?_)
    have hP : va_P D vcl (mW b F S tI tZ tA ((k_getFrame F S k).2)) H := hP
    have hD : va_D A (mW b F S tI tZ tA ((k_getFrame F S k).2)) := hD
    refine W.eq (g2 := F0 m 21 ls [.int ((k_getFrame F S k).1)]) rfl ?_
    refine lv_istore_n (lv' := [(2, .int ((k_getFrame F S k).1)), (1, .int (k_low (km_pl k) (F + S) 0)), (0, .ref (b 9))]) hx hb d_M_make_21 rfl hl (by decide) rfl (fun ls hl => ?_)
    refine lv_iload_n hx hb d_M_make_22 rfl (lv_at hl 0 rfl) ?_
    refine lv_iconst (v := -1) hx hb d_M_make_23 (by decide) ?_
    refine lv_icmp_ne (tgt := 29) hx hb d_M_make_24 (by decide) (fun hc => ?_) (fun hc => ?_)
    · have e1 : k_make F S k = (k_low (km_pl k) (F + S) 0, k_lay (ku_ct (ku_wd (k_getFrame F S k).2 (up2 (km_wd (k_getFrame F S k).2) (ix (k_low (km_pl k) (F + S) 0)) (fun _ => 0))) (upd (km_ct (k_getFrame F S k).2) (ix (k_low (km_pl k) (F + S) 0)) 1)) (k_low (km_pl k) (F + S) 0) (k_getFrame F S k).1) := by unfold k_make; rw [if_neg hc1, if_neg hc]
      rw [e1]
      refine lv_aload_n hx hb d_M_make_29 rfl (lv_at hl 2 rfl) ?_
      refine va_get (D := D) (ci := 1) (v := .ref (b 15)) hx hb hT.lays ly_M hown hT.1 hP 0 rfl rfl 5 (by decide) (hT.w k_M_34) (fun _ h => h) rfl d_M_make_30 ?_
      refine lv_iload_n hx hb d_M_make_33 rfl (lv_at hl 1 rfl) ?_
      refine ob_aald hx hb hT.1 hP 6 2 rfl rfl (hain) d_M_make_34 ?_
      refine lv_iconst (v := 0) hx hb d_M_make_35 (by decide) ?_
      refine ob_callC (v := none) (q0 := 7 + ix (k_low (km_pl k) (F + S) 0)) (ob_runS (n := 2) (As := [.ref (b (16 + ix (k_low (km_pl k) (F + S) 0))), .int 0]) (rest := []) (c_A_fill l D tI tZ tA tJ (b (16 + ix (k_low (km_pl k) (F + S) 0))) 4 H.size (km_wd (k_getFrame F S k).2 (ix (k_low (km_pl k) (F + S) 0))) 0) (hT.ok ob_cd_c (by decide +kernel) rfl rfl (Nat.le_of_ble_eq_true rfl) (Nat.le_of_ble_eq_true rfl) kn_A kc_A_fill) hx hb hml hown (hT.w k_M_55) (hT.w ks_A_fill) pW.blind (pW.at hT (by omega) (ob_P1 hP (pl_get (vp_ix hain) rfl)) (ob_D1 hD (pl_get (vp_ix hain) rfl))) rfl rfl hl.1 rfl (lv_room (Nat.le_of_ble_eq_true rfl)) d_M_make_36 ⟨Nat.le_of_ble_eq_true rfl, Nat.le_of_ble_eq_true rfl⟩) (pl_get (vp_ix hain) rfl) hP hD hS hA (fun H locs hP hD hS => ?_)
      rw [mW_row (vp_ix hain)] at hP hD
      have hP : va_P D vcl (mW b F S tI tZ tA (ku_wd (k_getFrame F S k).2 (up2 (km_wd (k_getFrame F S k).2) (ix (k_low (km_pl k) (F + S) 0)) (fun _ => 0)))) H := hP
      have hD : va_D A (mW b F S tI tZ tA (ku_wd (k_getFrame F S k).2 (up2 (km_wd (k_getFrame F S k).2) (ix (k_low (km_pl k) (F + S) 0)) (fun _ => 0)))) := hD
      refine W.eq (g2 := F0 m 39 ls []) rfl ?_
      refine lv_aload_n hx hb d_M_make_39 rfl (lv_at hl 2 rfl) ?_
      refine va_get (D := D) (ci := 1) (v := .ref (b 14)) hx hb hT.lays ly_M hown hT.1 hP 0 rfl rfl 4 (by decide) (hT.w k_M_29) (fun _ h => h) rfl d_M_make_40 ?_
      refine lv_iload_n hx hb d_M_make_43 rfl (lv_at hl 1 rfl) ?_
      refine lv_iconst (v := 1) hx hb d_M_make_44 (by decide) ?_
      refine va_iast hx hb hT.1 hP hD hS 5 0 rfl rfl (hain) d_M_make_45 (fun H locs hP hD hS => ?_)
      have hP : va_P D vcl (mW b F S tI tZ tA (ku_ct (ku_wd (k_getFrame F S k).2 (up2 (km_wd (k_getFrame F S k).2) (ix (k_low (km_pl k) (F + S) 0)) (fun _ => 0))) (upd (km_ct (k_getFrame F S k).2) (ix (k_low (km_pl k) (F + S) 0)) 1))) H := hP
      have hD : va_D A (mW b F S tI tZ tA (ku_ct (ku_wd (k_getFrame F S k).2 (up2 (km_wd (k_getFrame F S k).2) (ix (k_low (km_pl k) (F + S) 0)) (fun _ => 0))) (upd (km_ct (k_getFrame F S k).2) (ix (k_low (km_pl k) (F + S) 0)) 1))) := hD
      refine lv_aload_n hx hb d_M_make_46 rfl (lv_at hl 2 rfl) ?_
      refine lv_iload_n hx hb d_M_make_47 rfl (lv_at hl 1 rfl) ?_
      refine lv_iload_n hx hb d_M_make_48 rfl (lv_at hl 0 rfl) ?_
      refine ob_callW (v := none) (X := []) (M := mW b F S tI tZ tA (ku_ct (ku_wd (k_getFrame F S k).2 (up2 (km_wd (k_getFrame F S k).2) (ix (k_low (km_pl k) (F + S) 0)) (fun _ => 0))) (upd (km_ct (k_getFrame F S k).2) (ix (k_low (km_pl k) (F + S) 0)) 1))) (M' := mW b F S tI tZ tA (k_lay (ku_ct (ku_wd (k_getFrame F S k).2 (up2 (km_wd (k_getFrame F S k).2) (ix (k_low (km_pl k) (F + S) 0)) (fun _ => 0))) (upd (km_ct (k_getFrame F S k).2) (ix (k_low (km_pl k) (F + S) 0)) 1)) (k_low (km_pl k) (F + S) 0) (k_getFrame F S k).1)) (ob_runV (n := 2) (As := [.int (k_low (km_pl k) (F + S) 0), .int ((k_getFrame F S k).1)]) (rest := []) (c_M_layIntoFrame l D tI tZ tA tJ b F S H.size (ku_ct (ku_wd (k_getFrame F S k).2 (up2 (km_wd (k_getFrame F S k).2) (ix (k_low (km_pl k) (F + S) 0)) (fun _ => 0))) (upd (km_ct (k_getFrame F S k).2) (ix (k_low (km_pl k) (F + S) 0)) 1)) (k_low (km_pl k) (F + S) 0) (k_getFrame F S k).1) (hT.ok ob_cd_c (by decide +kernel) rfl rfl (Nat.le_of_ble_eq_true rfl) (Nat.le_of_ble_eq_true rfl) kn_M kc_M_layIntoFrame) hx hb hml hown (hT.w k_M_61) (hT.w ki_M_layIntoFrame) (hT.w kv_M_layIntoFrame) (va_recv (q0 := 0) (ci := 1) hT.1 hP rfl rfl) pW.blind (pW.at hT (⟨hfin hc, hain⟩) hP hD) rfl rfl hl.1 rfl (lv_room (Nat.le_of_ble_eq_true rfl)) d_M_make_49 ⟨Nat.le_of_ble_eq_true rfl, Nat.le_of_ble_eq_true rfl⟩) hP hD hS hA (fun H locs hP hD hS => ?_)
      have hP : va_P D vcl (mW b F S tI tZ tA (k_lay (ku_ct (ku_wd (k_getFrame F S k).2 (up2 (km_wd (k_getFrame F S k).2) (ix (k_low (km_pl k) (F + S) 0)) (fun _ => 0))) (upd (km_ct (k_getFrame F S k).2) (ix (k_low (km_pl k) (F + S) 0)) 1)) (k_low (km_pl k) (F + S) 0) (k_getFrame F S k).1)) H := hP
      have hD : va_D A (mW b F S tI tZ tA (k_lay (ku_ct (ku_wd (k_getFrame F S k).2 (up2 (km_wd (k_getFrame F S k).2) (ix (k_low (km_pl k) (F + S) 0)) (fun _ => 0))) (upd (km_ct (k_getFrame F S k).2) (ix (k_low (km_pl k) (F + S) 0)) 1)) (k_low (km_pl k) (F + S) 0) (k_getFrame F S k).1)) := hD
      refine W.eq (g2 := F0 m 52 ls []) rfl ?_
      refine lv_iload_n hx hb d_M_make_52 rfl (lv_at hl 1 rfl) ?_
      refine ob_iret hlocks hx hb hr d_M_make_53 hS.2.2 (fun t ht hW => ?_)
      exact ⟨rfl, by rw [ht]; exact hP, hD, hS.F ht⟩
    · have e1 : k_make F S k = (-1, (k_getFrame F S k).2) := by unfold k_make; rw [if_neg hc1, if_pos hc]
      rw [e1]
      refine lv_iconst (v := -1) hx hb d_M_make_27 (by decide) ?_
      refine ob_iret hlocks hx hb hr d_M_make_28 hS.2.2 (fun t ht hW => ?_)
      exact ⟨rfl, by rw [ht]; exact hP, hD, hS.F ht⟩
  · have e1 : k_make F S k = (-1, k) := if_pos hc
    rw [e1]
    refine lv_iconst (v := -1) hx hb d_M_make_13 (by decide) ?_
    refine lv_goto (tgt := 21) hx hb d_M_make_14 (by decide) ?_
    refine lv_istore_n (lv' := [(2, .int (-1)), (1, .int (k_low (km_pl k) (F + S) 0)), (0, .ref (b 9))]) hx hb d_M_make_21 rfl hl (by decide) rfl (fun ls hl => ?_)
    refine lv_iload_n hx hb d_M_make_22 rfl (lv_at hl 0 rfl) ?_
    refine lv_iconst (v := -1) hx hb d_M_make_23 (by decide) ?_
    refine lv_icmp_ne (tgt := 29) hx hb d_M_make_24 (by decide) (fun hc => absurd rfl hc) (fun hc => ?_)
    refine lv_iconst (v := -1) hx hb d_M_make_27 (by decide) ?_
    refine ob_iret hlocks hx hb hr d_M_make_28 hS.2.2 (fun t ht hW => ?_)
    exact ⟨rfl, by rw [ht]; exact hP, hD, hS.F ht⟩

set_option maxHeartbeats 4000000 in
set_option maxRecDepth 100000 in
/-- M_leave -/
theorem c_M_leave (l : Launch) (D : va_G) (tI tZ tA tJ : ClassId) (b : Nat → Nat) (F S sz : Nat) (k : KM) (a : Int32) : ob_M l y_M_leave w_M_leave ({ frames := 1, cells := 0, slots := 0, locals := 21 }) (pW D tI tZ tA tJ [.ref (b 9), .int a] (mW b F S tI tZ tA k) sz (lv_ok F S k a)) (ob_qW D vcl (some (.int ((k_leave k a).1))) (mW b F S tI tZ tA ((k_leave k a).2)) (va_A (mW b F S tI tZ tA k) sz)) 0 0 (va_A (mW b F S tI tZ tA k) sz) := by
  refine ob_ofW (by decide +kernel) ?_
  intro p e s m args below meth c s₁ B hml htab hv
  obtain ⟨rfl, hT, ⟨ha, hq⟩, hsz, hP, hD0⟩ := hv
  have hx := B.exec
  have hb := B.bytes
  have hr := B.returns
  have hlocks := B.notSynchronized
  have hown : s.vm.findClass R_M = some m.cls := findClass_of_methodNamed B.named
  have hl := lv_entry ([.ref (b 9), .int a]) (n := 2) (Nat.le_of_ble_eq_true rfl)
  rw [lg_entry_eq]
  generalize (lg_sl ([.ref (b 9), .int a]) ++ List.replicate (2 - (lg_sl ([.ref (b 9), .int a])).length) Slot.unset).toArray = ls at hl ⊢
  have hl : lv_has ls 2 [(0, .ref (b 9)), (1, .int a)] := hl
  subst hsz
  have hD := hD0.self (sz := s.heap.size)
  generalize hAe : va_A (mW b F S tI tZ tA k) s.heap.size = A at hD ⊢
  have hA : ∀ q : Nat, s.heap.size ≤ q → A q := fun q h => by rw [← hAe]; exact Or.inr h
  have hS : va_S A s.heap s.heap [] := va_S.rf
  refine lv_aload_n hx hb d_M_leave_0 rfl (lv_at hl 0 rfl) ?_
  refine va_get (D := D) (ci := 1) (v := .ref (b 14)) hx hb hT.lays ly_M hown hT.1 hP 0 rfl rfl 4 (by decide) (hT.w k_M_29) (fun _ h => h) rfl d_M_leave_1 ?_
  refine lv_iload_n hx hb d_M_leave_4 rfl (lv_at hl 1 rfl) ?_
  refine lv_dup2_11 hx hb d_M_leave_5 rfl rfl ?_
  refine va_iald hx hb hT.1 hP 5 0 rfl rfl (ha) d_M_leave_6 ?_
  refine lv_iconst (v := 1) hx hb d_M_leave_7 (by decide) ?_
  refine lv_isub hx hb d_M_leave_8 ?_
  refine va_iast hx hb hT.1 hP hD hS 5 0 rfl rfl (ha) d_M_leave_9 (fun H locs hP hD hS => ?_)
  have hP : va_P D vcl (mW b F S tI tZ tA (ku_ct k (upd (km_ct k) (ix a) (((km_ct k) (ix a)) - 1)))) H := hP
  have hD : va_D A (mW b F S tI tZ tA (ku_ct k (upd (km_ct k) (ix a) (((km_ct k) (ix a)) - 1)))) := hD
  refine lv_aload_n hx hb d_M_leave_10 rfl (lv_at hl 0 rfl) ?_
  refine va_get (D := D) (ci := 1) (v := .ref (b 14)) hx hb hT.lays ly_M hown hT.1 hP 0 rfl rfl 4 (by decide) (hT.w k_M_29) (fun _ h => h) rfl d_M_leave_11 ?_
  refine lv_iload_n hx hb d_M_leave_14 rfl (lv_at hl 1 rfl) ?_
  refine va_iald hx hb hT.1 hP 5 0 rfl rfl (ha) d_M_leave_15 ?_
  rw [show km_ct (ku_ct k (upd (km_ct k) (ix a) (km_ct k (ix a) - 1))) (ix a) = km_ct k (ix a) - 1 from pk_us]
  refine lv_if_le (tgt := 21) hx hb d_M_leave_16 (by decide) (fun hc => ?_) (fun hc => ?_)
  · have e1 : k_leave k a = (1, ku_pl (k_freePlace (ku_ct k (upd (km_ct k) (ix a) (km_ct k (ix a) - 1))) (km_pl k (ix a))) (upd (km_pl (k_freePlace (ku_ct k (upd (km_ct k) (ix a) (km_ct k (ix a) - 1))) (km_pl k (ix a)))) (ix a) (-1))) := if_pos hc
    rw [e1]
    refine lv_aload_n hx hb d_M_leave_21 rfl (lv_at hl 0 rfl) ?_
    refine lv_aload_n hx hb d_M_leave_22 rfl (lv_at hl 0 rfl) ?_
    refine va_get (D := D) (ci := 1) (v := .ref (b 13)) hx hb hT.lays ly_M hown hT.1 hP 0 rfl rfl 3 (by decide) (hT.w k_M_26) (fun _ h => h) rfl d_M_leave_23 ?_
    refine lv_iload_n hx hb d_M_leave_26 rfl (lv_at hl 1 rfl) ?_
    refine va_iald hx hb hT.1 hP 4 0 rfl rfl (ha) d_M_leave_27 ?_
    refine ob_callW (v := none) (X := []) (M := mW b F S tI tZ tA (ku_ct k (upd (km_ct k) (ix a) (km_ct k (ix a) - 1)))) (M' := mW b F S tI tZ tA (k_freePlace (ku_ct k (upd (km_ct k) (ix a) (km_ct k (ix a) - 1))) (km_pl k (ix a)))) (ob_runV (n := 1) (As := [.int (km_pl k (ix a))]) (rest := []) (c_M_freePlace l D tI tZ tA tJ b F S H.size (ku_ct k (upd (km_ct k) (ix a) (km_ct k (ix a) - 1))) (km_pl k (ix a))) (hT.ok ob_cd_c (by decide +kernel) rfl rfl (Nat.le_of_ble_eq_true rfl) (Nat.le_of_ble_eq_true rfl) kn_M kc_M_freePlace) hx hb hml hown (hT.w k_M_65) (hT.w ki_M_freePlace) (hT.w kv_M_freePlace) (va_recv (q0 := 0) (ci := 1) hT.1 hP rfl rfl) pW.blind (pW.at hT (hq hc) hP hD) rfl rfl hl.1 rfl (lv_room (Nat.le_of_ble_eq_true rfl)) d_M_leave_28 ⟨Nat.le_of_ble_eq_true rfl, Nat.le_of_ble_eq_true rfl⟩) hP hD hS hA (fun H locs hP hD hS => ?_)
    have hP : va_P D vcl (mW b F S tI tZ tA (k_freePlace (ku_ct k (upd (km_ct k) (ix a) (km_ct k (ix a) - 1))) (km_pl k (ix a)))) H := hP
    have hD : va_D A (mW b F S tI tZ tA (k_freePlace (ku_ct k (upd (km_ct k) (ix a) (km_ct k (ix a) - 1))) (km_pl k (ix a)))) := hD
    refine W.eq (g2 := F0 m 31 ls []) rfl ?_
    refine lv_aload_n hx hb d_M_leave_31 rfl (lv_at hl 0 rfl) ?_
    refine va_get (D := D) (ci := 1) (v := .ref (b 13)) hx hb hT.lays ly_M hown hT.1 hP 0 rfl rfl 3 (by decide) (hT.w k_M_26) (fun _ h => h) rfl d_M_leave_32 ?_
    refine lv_iload_n hx hb d_M_leave_35 rfl (lv_at hl 1 rfl) ?_
    refine lv_iconst (v := -1) hx hb d_M_leave_36 (by decide) ?_
    refine va_iast hx hb hT.1 hP hD hS 4 0 rfl rfl (ha) d_M_leave_37 (fun H locs hP hD hS => ?_)
    have hP : va_P D vcl (mW b F S tI tZ tA (ku_pl (k_freePlace (ku_ct k (upd (km_ct k) (ix a) (km_ct k (ix a) - 1))) (km_pl k (ix a))) (upd (km_pl (k_freePlace (ku_ct k (upd (km_ct k) (ix a) (km_ct k (ix a) - 1))) (km_pl k (ix a)))) (ix a) (-1)))) H := hP
    have hD : va_D A (mW b F S tI tZ tA (ku_pl (k_freePlace (ku_ct k (upd (km_ct k) (ix a) (km_ct k (ix a) - 1))) (km_pl k (ix a))) (upd (km_pl (k_freePlace (ku_ct k (upd (km_ct k) (ix a) (km_ct k (ix a) - 1))) (km_pl k (ix a)))) (ix a) (-1)))) := hD
    refine lv_iconst (v := 1) hx hb d_M_leave_38 (by decide) ?_
    refine ob_zret hlocks hx hb hr d_M_leave_39 (rfl) hS.2.2 (fun t ht hW => ?_)
    exact ⟨rfl, by rw [ht]; exact hP, hD, hS.F ht⟩
  · have e1 : k_leave k a = (0, ku_ct k (upd (km_ct k) (ix a) (km_ct k (ix a) - 1))) := if_neg hc
    rw [e1]
    refine lv_iconst (v := 0) hx hb d_M_leave_19 (by decide) ?_
    refine ob_zret hlocks hx hb hr d_M_leave_20 (rfl) hS.2.2 (fun t ht hW => ?_)
    exact ⟨rfl, by rw [ht]; exact hP, hD, hS.F ht⟩

def k_hasMark (F : Nat) (f : Nat → Int32) (x : Int32) : Int32 := if x < 0 then 0 else if nI F ≤ x then 0 else if f (ix x) = 0 then 0 else 1

set_option maxHeartbeats 4000000 in
set_option maxRecDepth 100000 in
/-- hasMark -/
theorem c_M_hasMark (l : Launch) (D : va_G) (tI tZ tA tJ : ClassId) (b : Nat → Nat) (F S : Nat) (k : KM) (x : Int32) : ob_M l y_M_hasMark w_M_hasMark ({ frames := 0, cells := 0, slots := 0, locals := 0 }) (pR D tI tZ tA tJ [.ref (b 9), .int x] (mW b F S tI tZ tA k) (F ≤ 8)) (ob_qR (some (.int (k_hasMark F (km_mk k) x)))) 0 0 (fun _ => False) := by
  refine ob_ofW (by decide +kernel) ?_
  intro p e s m args below meth c s₁ B hml htab hv
  obtain ⟨rfl, hT, hF, hP⟩ := hv
  have hx := B.exec
  have hb := B.bytes
  have hr := B.returns
  have hlocks := B.notSynchronized
  have hown : s.vm.findClass R_M = some m.cls := findClass_of_methodNamed B.named
  have hl := lv_entry ([.ref (b 9), .int x]) (n := 2) (Nat.le_of_ble_eq_true rfl)
  rw [lg_entry_eq]
  generalize (lg_sl ([.ref (b 9), .int x]) ++ List.replicate (2 - (lg_sl ([.ref (b 9), .int x])).length) Slot.unset).toArray = ls at hl ⊢
  have hl : lv_has ls 2 [(0, .ref (b 9)), (1, .int x)] := hl
  unfold k_hasMark
  refine lv_iload_n hx hb d_M_hasMark_0 rfl (lv_at hl 1 rfl) ?_
  refine lv_if_lt (tgt := 26) hx hb d_M_hasMark_1 (by decide) (fun hc => ?_) (fun hc => ?_)
  · rw [if_pos hc]
    refine lv_iconst (v := 0) hx hb d_M_hasMark_26 (by decide) ?_
    refine ob_zret hlocks hx hb hr d_M_hasMark_27 (rfl) (fun q hq => nomatch hq) (fun t ht hW => ?_)
    exact ⟨rfl, ht⟩
  · rw [if_neg hc]
    have hc0 := hc
    refine lv_iload_n hx hb d_M_hasMark_4 rfl (lv_at hl 1 rfl) ?_
    refine lv_aload_n hx hb d_M_hasMark_5 rfl (lv_at hl 0 rfl) ?_
    refine va_get (D := D) (ci := 1) (v := .ref (b 12)) hx hb hT.lays ly_M hown hT.1 hP 0 rfl rfl 2 (by decide) (hT.w k_M_22) (fun _ h => h) rfl d_M_hasMark_6 ?_
    refine va_alen (v := nI F) hx hb hT.1 hP 3 1 rfl rfl rfl d_M_hasMark_9 ?_
    refine lv_icmp_ge (tgt := 26) hx hb d_M_hasMark_10 (by decide) (fun hc => ?_) (fun hc => ?_)
    · rw [if_pos hc]
      refine lv_iconst (v := 0) hx hb d_M_hasMark_26 (by decide) ?_
      refine ob_zret hlocks hx hb hr d_M_hasMark_27 (rfl) (fun q hq => nomatch hq) (fun t ht hW => ?_)
      exact ⟨rfl, ht⟩
    · rw [if_neg hc]
      have hin : vp_in x F := by obtain ⟨j, hj, e, -⟩ := pk_mu hc0 hc (by omega); rw [e]; exact vp_in_nI hj (by omega)
      refine lv_aload_n hx hb d_M_hasMark_13 rfl (lv_at hl 0 rfl) ?_
      refine va_get (D := D) (ci := 1) (v := .ref (b 12)) hx hb hT.lays ly_M hown hT.1 hP 0 rfl rfl 2 (by decide) (hT.w k_M_22) (fun _ h => h) rfl d_M_hasMark_14 ?_
      refine lv_iload_n hx hb d_M_hasMark_17 rfl (lv_at hl 1 rfl) ?_
      refine va_zald hx hb hT.1 hP 3 1 rfl rfl (hin) d_M_hasMark_18 ?_
      refine lv_if_eq (tgt := 26) hx hb d_M_hasMark_19 (by decide) (fun hc => ?_) (fun hc => ?_)
      · rw [if_pos hc]
        refine lv_iconst (v := 0) hx hb d_M_hasMark_26 (by decide) ?_
        refine ob_zret hlocks hx hb hr d_M_hasMark_27 (rfl) (fun q hq => nomatch hq) (fun t ht hW => ?_)
        exact ⟨rfl, ht⟩
      · rw [if_neg hc]
        refine lv_iconst (v := 1) hx hb d_M_hasMark_22 (by decide) ?_
        refine lv_goto (tgt := 27) hx hb d_M_hasMark_23 (by decide) ?_
        refine ob_zret hlocks hx hb hr d_M_hasMark_27 (rfl) (fun q hq => nomatch hq) (fun t ht hW => ?_)
        exact ⟨rfl, ht⟩
end
section
set_option maxHeartbeats 4000000 in
set_option maxRecDepth 100000 in
/-- T_thrown -/
theorem c_T_thrown (l : Launch) (D : va_G) (tI tZ tA tJ : ClassId) (b : Nat → Nat) (F S : Nat) (tw : Int32) (g : Sg)  : ob_M l y_T_thrown w_T_thrown ({ frames := 0, cells := 0, slots := 0, locals := 0 }) (pR D tI tZ tA tJ [.ref (b 0)] (tW b F S tI tZ tw g) (True)) (ob_qR (some (.int tw))) 0 0 (fun _ => False) := by
  refine ob_ofW (by decide +kernel) ?_
  intro p e s m args below meth c s₁ B hml htab hv
  obtain ⟨rfl, hT, -, hP⟩ := hv
  have hx := B.exec
  have hb := B.bytes
  have hr := B.returns
  have hlocks := B.notSynchronized
  have hown : s.vm.findClass R_T = some m.cls := findClass_of_methodNamed B.named
  have hl := lv_entry ([.ref (b 0)]) (n := 1) (Nat.le_of_ble_eq_true rfl)
  rw [lg_entry_eq]
  generalize (lg_sl ([.ref (b 0)]) ++ List.replicate (1 - (lg_sl ([.ref (b 0)])).length) Slot.unset).toArray = ls at hl ⊢
  have hl : lv_has ls 1 [(0, .ref (b 0))] := hl
  refine lv_aload_n hx hb d_T_thrown_0 rfl (lv_at hl 0 rfl) ?_
  refine va_get (D := D) (ci := 2) (v := .int tw) hx hb hT.lays ly_T hown hT.1 hP 0 rfl rfl 0 (by decide) (hT.w k_T_33) (fun _ h => h) rfl d_T_thrown_1 ?_
  refine ob_iret hlocks hx hb hr d_T_thrown_4 (fun q hq => nomatch hq) (fun t ht hW => ?_)
  exact ⟨rfl, ht⟩

set_option maxHeartbeats 4000000 in
set_option maxRecDepth 100000 in
/-- T_sheetAt -/
theorem c_T_sheetAt (l : Launch) (D : va_G) (tI tZ tA tJ : ClassId) (b : Nat → Nat) (F S : Nat) (tw : Int32) (g : Sg) (x : Int32) : ob_M l y_T_sheetAt w_T_sheetAt ({ frames := 0, cells := 0, slots := 0, locals := 0 }) (pR D tI tZ tA tJ [.ref (b 0), .int x] (tW b F S tI tZ tw g) (True)) (ob_qR (some (.int (m_sheetAt (sg_li g) x)))) 0 0 (fun _ => False) := by
  refine ob_ofW (by decide +kernel) ?_
  intro p e s m args below meth c s₁ B hml htab hv
  obtain ⟨rfl, hT, -, hP⟩ := hv
  have hx := B.exec
  have hb := B.bytes
  have hr := B.returns
  have hlocks := B.notSynchronized
  have hown : s.vm.findClass R_T = some m.cls := findClass_of_methodNamed B.named
  have hl := lv_entry ([.ref (b 0), .int x]) (n := 3) (Nat.le_of_ble_eq_true rfl)
  rw [lg_entry_eq]
  generalize (lg_sl ([.ref (b 0), .int x]) ++ List.replicate (3 - (lg_sl ([.ref (b 0), .int x])).length) Slot.unset).toArray = ls at hl ⊢
  have hl : lv_has ls 3 [(0, .ref (b 0)), (1, .int x)] := hl
  have loop : ∀ (n i : Nat) (ls : Array Slot), i + n = 18 → m_at (sg_li g) x n i = m_sheetAt (sg_li g) x → lv_has ls 3 [(2, .int (nI i)), (0, .ref (b 0)), (1, .int x)] → W p l e ({ frames := 0, cells := 0, slots := 0, locals := 0 } : Room) s m ([.ref (b 0), .int x] : List Value).toArray below meth c s.heap [] 0 0 (ob_Q below (ob_qR (some (.int (m_sheetAt (sg_li g) x)))) ([.ref (b 0), .int x] : List Value).toArray s 0 0 (fun _ => False)) (F0 m 2 ls []) := by
    intro n
    induction n with
    | zero =>
      intro i ls hi hR hl
      refine lv_iload_n hx hb d_T_sheetAt_2 rfl (lv_at hl 0 rfl) ?_
      refine lv_bipush (v := 18) hx hb d_T_sheetAt_3 (by decide) ?_
      refine lv_icmp_ge (tgt := 26) hx hb d_T_sheetAt_5 (by decide) (fun hc => ?_) (fun hc => absurd (nI_le (a := 18) (by omega) (by omega)) hc)
      rw [← hR]
      refine lv_iconst (v := -1) hx hb d_T_sheetAt_26 (by decide) ?_
      refine ob_iret hlocks hx hb hr d_T_sheetAt_27 (fun q hq => nomatch hq) (fun t ht hW => ?_)
      exact ⟨rfl, ht⟩
    | succ n ih =>
      intro i ls hi hR hl
      refine lv_iload_n hx hb d_T_sheetAt_2 rfl (lv_at hl 0 rfl) ?_
      refine lv_bipush (v := 18) hx hb d_T_sheetAt_3 (by decide) ?_
      refine lv_icmp_ge (tgt := 26) hx hb d_T_sheetAt_5 (by decide) (fun hc => absurd hc (nI_ge (b := 18) (by omega) (by omega))) (fun hc => ?_)
      have hv : sg_li g (ix (nI i)) = sg_li g i := by show sg_li g (nI i).toNatClampNeg = sg_li g i; rw [nI_clamp (by omega)]
      refine lv_aload_n hx hb d_T_sheetAt_8 rfl (lv_at hl 1 rfl) ?_
      refine va_get (D := D) (ci := 2) (v := .ref (b 2)) hx hb hT.lays ly_T hown hT.1 hP 0 rfl rfl 5 (by decide) (hT.w k_T_13) (fun _ h => h) rfl d_T_sheetAt_9 ?_
      refine lv_iload_n hx hb d_T_sheetAt_12 rfl (lv_at hl 0 rfl) ?_
      refine va_iald hx hb hT.1 hP 2 0 rfl rfl (vp_in_nI (by omega) (by omega)) d_T_sheetAt_13 ?_
      rw [hv]
      refine lv_iload_n hx hb d_T_sheetAt_14 rfl (lv_at hl 2 rfl) ?_
      refine lv_icmp_ne (tgt := 20) hx hb d_T_sheetAt_15 (by decide) (fun hc => ?_) (fun hc => ?_)
      · refine lv_iinc (k := 0) (v := nI (i + 1)) (lv' := [(2, .int (nI (i + 1))), (0, .ref (b 0)), (1, .int x)]) hx hb d_T_sheetAt_20 hl rfl (nI_1 i) (by decide) rfl (fun ls hl => ?_)
        refine lv_goto (tgt := 2) hx hb d_T_sheetAt_23 (by decide) ?_
        refine ih (i + 1) ls (by omega) ?_ hl
        rw [← hR]
        exact (if_neg hc).symm
      · have e1 : m_at (sg_li g) x (n + 1) i = nI i := if_pos hc
        rw [← hR, e1]
        refine lv_iload_n hx hb d_T_sheetAt_18 rfl (lv_at hl 0 rfl) ?_
        refine ob_iret hlocks hx hb hr d_T_sheetAt_19 (fun q hq => nomatch hq) (fun t ht hW => ?_)
        exact ⟨rfl, ht⟩
  refine lv_iconst (v := 0) hx hb d_T_sheetAt_0 (by decide) ?_
  refine lv_istore_n (lv' := [(2, .int 0), (0, .ref (b 0)), (1, .int x)]) hx hb d_T_sheetAt_1 rfl hl (by decide) rfl (fun ls hl => ?_)
  exact loop 18 0 ls rfl rfl hl

set_option maxHeartbeats 4000000 in
set_option maxRecDepth 100000 in
/-- T_lowestFrame -/
theorem c_T_lowestFrame (l : Launch) (D : va_G) (tI tZ tA tJ : ClassId) (b : Nat → Nat) (F S : Nat) (tw : Int32) (g : Sg)  : ob_M l y_T_lowestFrame w_T_lowestFrame ({ frames := 1, cells := 0, slots := 0, locals := 22 }) (pR D tI tZ tA tJ [.ref (b 0)] (tW b F S tI tZ tw g) (F ≤ 10)) (ob_qR (some (.int (m_lowF (sg_li g) F 0)))) 0 0 (fun _ => False) := by
  refine ob_ofW (by decide +kernel) ?_
  intro p e s m args below meth c s₁ B hml htab hv
  obtain ⟨rfl, hT, hN, hP⟩ := hv
  have hx := B.exec
  have hb := B.bytes
  have hr := B.returns
  have hlocks := B.notSynchronized
  have hown : s.vm.findClass R_T = some m.cls := findClass_of_methodNamed B.named
  have hl := lv_entry ([.ref (b 0)]) (n := 2) (Nat.le_of_ble_eq_true rfl)
  rw [lg_entry_eq]
  generalize (lg_sl ([.ref (b 0)]) ++ List.replicate (2 - (lg_sl ([.ref (b 0)])).length) Slot.unset).toArray = ls at hl ⊢
  have hl : lv_has ls 2 [(0, .ref (b 0))] := hl
  have loop : ∀ (n i : Nat) (ls : Array Slot), i + n = F → m_lowF (sg_li g) n i = m_lowF (sg_li g) F 0 → lv_has ls 2 [(1, .int (nI i)), (0, .ref (b 0))] → W p l e ({ frames := 1, cells := 0, slots := 0, locals := 22 } : Room) s m ([.ref (b 0)] : List Value).toArray below meth c s.heap [] 0 0 (ob_Q below (ob_qR (some (.int (m_lowF (sg_li g) F 0)))) ([.ref (b 0)] : List Value).toArray s 0 0 (fun _ => False)) (F0 m 2 ls []) := by
    intro n
    induction n with
    | zero =>
      intro i ls hi hR hl
      refine lv_iload_n hx hb d_T_lowestFrame_2 rfl (lv_at hl 0 rfl) ?_
      refine lv_aload_n hx hb d_T_lowestFrame_3 rfl (lv_at hl 1 rfl) ?_
      refine va_get (D := D) (ci := 2) (v := .int (nI F)) hx hb hT.lays ly_T hown hT.1 hP 0 rfl rfl 1 (by decide) (hT.w k_T_26) (fun _ h => h) rfl d_T_lowestFrame_4 ?_
      refine lv_icmp_ge (tgt := 26) hx hb d_T_lowestFrame_7 (by decide) (fun hc => ?_) (fun hc => absurd (nI_le (by omega) (by omega)) hc)
      rw [← hR]
      refine lv_iconst (v := -1) hx hb d_T_lowestFrame_26 (by decide) ?_
      refine ob_iret hlocks hx hb hr d_T_lowestFrame_27 (fun q hq => nomatch hq) (fun t ht hW => ?_)
      exact ⟨rfl, ht⟩
    | succ n ih =>
      intro i ls hi hR hl
      refine lv_iload_n hx hb d_T_lowestFrame_2 rfl (lv_at hl 0 rfl) ?_
      refine lv_aload_n hx hb d_T_lowestFrame_3 rfl (lv_at hl 1 rfl) ?_
      refine va_get (D := D) (ci := 2) (v := .int (nI F)) hx hb hT.lays ly_T hown hT.1 hP 0 rfl rfl 1 (by decide) (hT.w k_T_26) (fun _ h => h) rfl d_T_lowestFrame_4 ?_
      refine lv_icmp_ge (tgt := 26) hx hb d_T_lowestFrame_7 (by decide) (fun hc => absurd hc (nI_ge (by omega) (by omega))) (fun hc => ?_)
      refine lv_aload_n hx hb d_T_lowestFrame_10 rfl (lv_at hl 1 rfl) ?_
      refine lv_iload_n hx hb d_T_lowestFrame_11 rfl (lv_at hl 0 rfl) ?_
      refine ob_callR (v := (some (.int (m_sheetAt (sg_li g) (nI i))))) (ob_runV (n := 1) (As := [.int (nI i)]) (rest := []) (c_T_sheetAt l D tI tZ tA tJ b F S tw g (nI i)) (hT.ok ob_cd_c (by decide +kernel) rfl rfl (Nat.le_of_ble_eq_true rfl) (Nat.le_of_ble_eq_true rfl) kn_T kc_T_sheetAt) hx hb hml hown (hT.w k_T_36) (hT.w ki_T_sheetAt) (hT.w kv_T_sheetAt) (va_recv (q0 := 0) (ci := 2) hT.1 hP rfl rfl) pR.blind (pR.at hT (trivial) hP) rfl rfl hl.1 rfl (lv_room (Nat.le_of_ble_eq_true rfl)) d_T_lowestFrame_12 ⟨Nat.le_of_ble_eq_true rfl, Nat.le_of_ble_eq_true rfl⟩) ?_
      refine W.eq (g2 := F0 m 15 ls [.int (m_sheetAt (sg_li g) (nI i))]) rfl ?_
      refine lv_if_ge (tgt := 20) hx hb d_T_lowestFrame_15 (by decide) (fun hc => ?_) (fun hc => ?_)
      · refine lv_iinc (k := 0) (v := nI (i + 1)) (lv' := [(1, .int (nI (i + 1))), (0, .ref (b 0))]) hx hb d_T_lowestFrame_20 hl rfl (nI_1 i) (by decide) rfl (fun ls hl => ?_)
        refine lv_goto (tgt := 2) hx hb d_T_lowestFrame_23 (by decide) ?_
        refine ih (i + 1) ls (by omega) ?_ hl
        rw [← hR]
        exact (if_pos hc).symm
      · have e1 : m_lowF (sg_li g) (n + 1) i = nI i := if_neg hc
        rw [← hR, e1]
        refine lv_iload_n hx hb d_T_lowestFrame_18 rfl (lv_at hl 0 rfl) ?_
        refine ob_iret hlocks hx hb hr d_T_lowestFrame_19 (fun q hq => nomatch hq) (fun t ht hW => ?_)
        exact ⟨rfl, ht⟩
  refine lv_iconst (v := 0) hx hb d_T_lowestFrame_0 (by decide) ?_
  refine lv_istore_n (lv' := [(1, .int 0), (0, .ref (b 0))]) hx hb d_T_lowestFrame_1 rfl hl (by decide) rfl (fun ls hl => ?_)
  exact loop F 0 ls (by omega) rfl hl

set_option maxHeartbeats 4000000 in
set_option maxRecDepth 100000 in
/-- T_lowestSlot -/
theorem c_T_lowestSlot (l : Launch) (D : va_G) (tI tZ tA tJ : ClassId) (b : Nat → Nat) (F S : Nat) (tw : Int32) (g : Sg)  : ob_M l y_T_lowestSlot w_T_lowestSlot ({ frames := 1, cells := 0, slots := 0, locals := 22 }) (pR D tI tZ tA tJ [.ref (b 0)] (tW b F S tI tZ tw g) (S ≤ 10)) (ob_qR (some (.int (m_lowS (sg_li g) S 0)))) 0 0 (fun _ => False) := by
  refine ob_ofW (by decide +kernel) ?_
  intro p e s m args below meth c s₁ B hml htab hv
  obtain ⟨rfl, hT, hN, hP⟩ := hv
  have hx := B.exec
  have hb := B.bytes
  have hr := B.returns
  have hlocks := B.notSynchronized
  have hown : s.vm.findClass R_T = some m.cls := findClass_of_methodNamed B.named
  have hl := lv_entry ([.ref (b 0)]) (n := 2) (Nat.le_of_ble_eq_true rfl)
  rw [lg_entry_eq]
  generalize (lg_sl ([.ref (b 0)]) ++ List.replicate (2 - (lg_sl ([.ref (b 0)])).length) Slot.unset).toArray = ls at hl ⊢
  have hl : lv_has ls 2 [(0, .ref (b 0))] := hl
  have loop : ∀ (n i : Nat) (ls : Array Slot), i + n = S → m_lowS (sg_li g) n i = m_lowS (sg_li g) S 0 → lv_has ls 2 [(1, .int (nI i)), (0, .ref (b 0))] → W p l e ({ frames := 1, cells := 0, slots := 0, locals := 22 } : Room) s m ([.ref (b 0)] : List Value).toArray below meth c s.heap [] 0 0 (ob_Q below (ob_qR (some (.int (m_lowS (sg_li g) S 0)))) ([.ref (b 0)] : List Value).toArray s 0 0 (fun _ => False)) (F0 m 2 ls []) := by
    intro n
    induction n with
    | zero =>
      intro i ls hi hR hl
      refine lv_iload_n hx hb d_T_lowestSlot_2 rfl (lv_at hl 0 rfl) ?_
      refine lv_aload_n hx hb d_T_lowestSlot_3 rfl (lv_at hl 1 rfl) ?_
      refine va_get (D := D) (ci := 2) (v := .int (nI S)) hx hb hT.lays ly_T hown hT.1 hP 0 rfl rfl 2 (by decide) (hT.w k_T_30) (fun _ h => h) rfl d_T_lowestSlot_4 ?_
      refine lv_icmp_ge (tgt := 32) hx hb d_T_lowestSlot_7 (by decide) (fun hc => ?_) (fun hc => absurd (nI_le (by omega) (by omega)) hc)
      rw [← hR]
      refine lv_iconst (v := -1) hx hb d_T_lowestSlot_32 (by decide) ?_
      refine ob_iret hlocks hx hb hr d_T_lowestSlot_33 (fun q hq => nomatch hq) (fun t ht hW => ?_)
      exact ⟨rfl, ht⟩
    | succ n ih =>
      intro i ls hi hR hl
      refine lv_iload_n hx hb d_T_lowestSlot_2 rfl (lv_at hl 0 rfl) ?_
      refine lv_aload_n hx hb d_T_lowestSlot_3 rfl (lv_at hl 1 rfl) ?_
      refine va_get (D := D) (ci := 2) (v := .int (nI S)) hx hb hT.lays ly_T hown hT.1 hP 0 rfl rfl 2 (by decide) (hT.w k_T_30) (fun _ h => h) rfl d_T_lowestSlot_4 ?_
      refine lv_icmp_ge (tgt := 32) hx hb d_T_lowestSlot_7 (by decide) (fun hc => absurd hc (nI_ge (by omega) (by omega))) (fun hc => ?_)
      refine lv_aload_n hx hb d_T_lowestSlot_10 rfl (lv_at hl 1 rfl) ?_
      refine lv_bipush (v := 100) hx hb d_T_lowestSlot_11 (by decide) ?_
      refine lv_iload_n hx hb d_T_lowestSlot_13 rfl (lv_at hl 0 rfl) ?_
      refine lv_iadd hx hb d_T_lowestSlot_14 ?_
      refine ob_callR (v := (some (.int (m_sheetAt (sg_li g) (100 + nI i))))) (ob_runV (n := 1) (As := [.int (100 + nI i)]) (rest := []) (c_T_sheetAt l D tI tZ tA tJ b F S tw g (100 + nI i)) (hT.ok ob_cd_c (by decide +kernel) rfl rfl (Nat.le_of_ble_eq_true rfl) (Nat.le_of_ble_eq_true rfl) kn_T kc_T_sheetAt) hx hb hml hown (hT.w k_T_36) (hT.w ki_T_sheetAt) (hT.w kv_T_sheetAt) (va_recv (q0 := 0) (ci := 2) hT.1 hP rfl rfl) pR.blind (pR.at hT (trivial) hP) rfl rfl hl.1 rfl (lv_room (Nat.le_of_ble_eq_true rfl)) d_T_lowestSlot_15 ⟨Nat.le_of_ble_eq_true rfl, Nat.le_of_ble_eq_true rfl⟩) ?_
      refine W.eq (g2 := F0 m 18 ls [.int (m_sheetAt (sg_li g) (100 + nI i))]) rfl ?_
      refine lv_if_ge (tgt := 26) hx hb d_T_lowestSlot_18 (by decide) (fun hc => ?_) (fun hc => ?_)
      · refine lv_iinc (k := 0) (v := nI (i + 1)) (lv' := [(1, .int (nI (i + 1))), (0, .ref (b 0))]) hx hb d_T_lowestSlot_26 hl rfl (nI_1 i) (by decide) rfl (fun ls hl => ?_)
        refine lv_goto (tgt := 2) hx hb d_T_lowestSlot_29 (by decide) ?_
        refine ih (i + 1) ls (by omega) ?_ hl
        rw [← hR]
        exact (if_pos hc).symm
      · have e1 : m_lowS (sg_li g) (n + 1) i = 100 + nI i := if_neg hc
        rw [← hR, e1]
        refine lv_bipush (v := 100) hx hb d_T_lowestSlot_21 (by decide) ?_
        refine lv_iload_n hx hb d_T_lowestSlot_23 rfl (lv_at hl 0 rfl) ?_
        refine lv_iadd hx hb d_T_lowestSlot_24 ?_
        refine ob_iret hlocks hx hb hr d_T_lowestSlot_25 (fun q hq => nomatch hq) (fun t ht hW => ?_)
        exact ⟨rfl, ht⟩
  refine lv_iconst (v := 0) hx hb d_T_lowestSlot_0 (by decide) ?_
  refine lv_istore_n (lv' := [(1, .int 0), (0, .ref (b 0))]) hx hb d_T_lowestSlot_1 rfl hl (by decide) rfl (fun ls hl => ?_)
  exact loop S 0 ls (by omega) rfl hl

set_option maxHeartbeats 4000000 in
set_option maxRecDepth 100000 in
/-- T_owners -/
theorem c_T_owners (l : Launch) (D : va_G) (tI tZ tA tJ : ClassId) (b : Nat → Nat) (F S : Nat) (tw : Int32) (g : Sg) (x : Int32) : ob_M l y_T_owners w_T_owners ({ frames := 0, cells := 0, slots := 0, locals := 0 }) (pR D tI tZ tA tJ [.ref (b 0), .int x] (tW b F S tI tZ tw g) (True)) (ob_qR (some (.int (m_owners (sg_pg g) x)))) 0 0 (fun _ => False) := by
  refine ob_ofW (by decide +kernel) ?_
  intro p e s m args below meth c s₁ B hml htab hv
  obtain ⟨rfl, hT, -, hP⟩ := hv
  have hx := B.exec
  have hb := B.bytes
  have hr := B.returns
  have hlocks := B.notSynchronized
  have hown : s.vm.findClass R_T = some m.cls := findClass_of_methodNamed B.named
  have hl := lv_entry ([.ref (b 0), .int x]) (n := 4) (Nat.le_of_ble_eq_true rfl)
  rw [lg_entry_eq]
  generalize (lg_sl ([.ref (b 0), .int x]) ++ List.replicate (4 - (lg_sl ([.ref (b 0), .int x])).length) Slot.unset).toArray = ls at hl ⊢
  have hl : lv_has ls 4 [(0, .ref (b 0)), (1, .int x)] := hl
  have loop : ∀ (n i : Nat) (y : Int32) (ls : Array Slot), i + n = 36 → m_own (sg_pg g) x n i y = m_owners (sg_pg g) x → lv_has ls 4 [(3, .int (nI i)), (2, .int y), (0, .ref (b 0)), (1, .int x)] → W p l e ({ frames := 0, cells := 0, slots := 0, locals := 0 } : Room) s m ([.ref (b 0), .int x] : List Value).toArray below meth c s.heap [] 0 0 (ob_Q below (ob_qR (some (.int (m_owners (sg_pg g) x)))) ([.ref (b 0), .int x] : List Value).toArray s 0 0 (fun _ => False)) (F0 m 4 ls []) := by
    intro n
    induction n with
    | zero =>
      intro i y ls hi hR hl
      refine lv_iload_n hx hb d_T_owners_4 rfl (lv_at hl 0 rfl) ?_
      refine lv_bipush (v := 36) hx hb d_T_owners_5 (by decide) ?_
      refine lv_icmp_ge (tgt := 34) hx hb d_T_owners_7 (by decide) (fun hc => ?_) (fun hc => absurd (nI_le (a := 36) (by omega) (by omega)) hc)
      rw [← hR]
      refine lv_iload_n hx hb d_T_owners_34 rfl (lv_at hl 1 rfl) ?_
      refine ob_iret hlocks hx hb hr d_T_owners_35 (fun q hq => nomatch hq) (fun t ht hW => ?_)
      exact ⟨rfl, ht⟩
    | succ n ih =>
      intro i y ls hi hR hl
      refine lv_iload_n hx hb d_T_owners_4 rfl (lv_at hl 0 rfl) ?_
      refine lv_bipush (v := 36) hx hb d_T_owners_5 (by decide) ?_
      refine lv_icmp_ge (tgt := 34) hx hb d_T_owners_7 (by decide) (fun hc => absurd hc (nI_ge (b := 36) (by omega) (by omega))) (fun hc => ?_)
      have hv : sg_pg g (ix (nI i)) = sg_pg g i := by show sg_pg g (nI i).toNatClampNeg = sg_pg g i; rw [nI_clamp (by omega)]
      refine lv_aload_n hx hb d_T_owners_10 rfl (lv_at hl 2 rfl) ?_
      refine va_get (D := D) (ci := 2) (v := .ref (b 5)) hx hb hT.lays ly_T hown hT.1 hP 0 rfl rfl 8 (by decide) (hT.w k_T_23) (fun _ h => h) rfl d_T_owners_11 ?_
      refine lv_iload_n hx hb d_T_owners_14 rfl (lv_at hl 0 rfl) ?_
      refine va_iald hx hb hT.1 hP 5 0 rfl rfl (vp_in_nI (by omega) (by omega)) d_T_owners_15 ?_
      rw [hv]
      refine lv_iload_n hx hb d_T_owners_16 rfl (lv_at hl 3 rfl) ?_
      refine lv_icmp_ne (tgt := 26) hx hb d_T_owners_17 (by decide) (fun hc => ?_) (fun hc => ?_)
      · refine lv_iload_n hx hb d_T_owners_26 rfl (lv_at hl 1 rfl) ?_
        refine lv_istore_n (lv' := [(2, .int y), (3, .int (nI i)), (0, .ref (b 0)), (1, .int x)]) hx hb d_T_owners_27 rfl hl (by decide) rfl (fun ls hl => ?_)
        refine lv_iinc (k := 1) (v := nI (i + 1)) (lv' := [(3, .int (nI (i + 1))), (2, .int y), (0, .ref (b 0)), (1, .int x)]) hx hb d_T_owners_28 hl rfl (nI_1 i) (by decide) rfl (fun ls hl => ?_)
        refine lv_goto (tgt := 4) hx hb d_T_owners_31 (by decide) ?_
        refine ih (i + 1) (y) ls (by omega) ?_ hl
        rw [← hR]
        show _ = m_own (sg_pg g) x n (i + 1) (if sg_pg g i = x then y + 1 else y)
        rw [if_neg hc]
      · refine lv_iload_n hx hb d_T_owners_20 rfl (lv_at hl 1 rfl) ?_
        refine lv_iconst (v := 1) hx hb d_T_owners_21 (by decide) ?_
        refine lv_iadd hx hb d_T_owners_22 ?_
        refine lv_goto (tgt := 27) hx hb d_T_owners_23 (by decide) ?_
        refine lv_istore_n (lv' := [(2, .int (y + 1)), (3, .int (nI i)), (0, .ref (b 0)), (1, .int x)]) hx hb d_T_owners_27 rfl hl (by decide) rfl (fun ls hl => ?_)
        refine lv_iinc (k := 1) (v := nI (i + 1)) (lv' := [(3, .int (nI (i + 1))), (2, .int (y + 1)), (0, .ref (b 0)), (1, .int x)]) hx hb d_T_owners_28 hl rfl (nI_1 i) (by decide) rfl (fun ls hl => ?_)
        refine lv_goto (tgt := 4) hx hb d_T_owners_31 (by decide) ?_
        refine ih (i + 1) (y + 1) ls (by omega) ?_ hl
        rw [← hR]
        show _ = m_own (sg_pg g) x n (i + 1) (if sg_pg g i = x then y + 1 else y)
        rw [if_pos hc]
  refine lv_iconst (v := 0) hx hb d_T_owners_0 (by decide) ?_
  refine lv_istore_n (lv' := [(2, .int 0), (0, .ref (b 0)), (1, .int x)]) hx hb d_T_owners_1 rfl hl (by decide) rfl (fun ls hl => ?_)
  refine lv_iconst (v := 0) hx hb d_T_owners_2 (by decide) ?_
  refine lv_istore_n (lv' := [(3, .int 0), (2, .int 0), (0, .ref (b 0)), (1, .int x)]) hx hb d_T_owners_3 rfl hl (by decide) rfl (fun ls hl => ?_)
  exact loop 36 0 0 ls rfl rfl hl

set_option maxHeartbeats 4000000 in
set_option maxRecDepth 100000 in
/-- T_isProcess -/
theorem c_T_isProcess (l : Launch) (D : va_G) (tI tZ tA tJ : ClassId) (b : Nat → Nat) (F S : Nat) (tw : Int32) (g : Sg) (x : Int32) : ob_M l y_T_isProcess w_T_isProcess ({ frames := 0, cells := 0, slots := 0, locals := 0 }) (pR D tI tZ tA tJ [.ref (b 0), .int x] (tW b F S tI tZ tw g) (True)) (ob_qR (some (.int (m_isP (sg_th g) x)))) 0 0 (fun _ => False) := by
  refine ob_ofW (by decide +kernel) ?_
  intro p e s m args below meth c s₁ B hml htab hv
  obtain ⟨rfl, hT, -, hP⟩ := hv
  have hx := B.exec
  have hb := B.bytes
  have hr := B.returns
  have hlocks := B.notSynchronized
  have hown : s.vm.findClass R_T = some m.cls := findClass_of_methodNamed B.named
  have hl := lv_entry ([.ref (b 0), .int x]) (n := 2) (Nat.le_of_ble_eq_true rfl)
  rw [lg_entry_eq]
  generalize (lg_sl ([.ref (b 0), .int x]) ++ List.replicate (2 - (lg_sl ([.ref (b 0), .int x])).length) Slot.unset).toArray = ls at hl ⊢
  have hl : lv_has ls 2 [(0, .ref (b 0)), (1, .int x)] := hl
  unfold m_isP
  refine lv_iload_n hx hb d_T_isProcess_0 rfl (lv_at hl 1 rfl) ?_
  refine lv_if_lt (tgt := 23) hx hb d_T_isProcess_1 (by decide) (fun hc => ?_) (fun hc => ?_)
  · rw [if_pos hc]
    refine lv_iconst (v := 0) hx hb d_T_isProcess_23 (by decide) ?_
    refine ob_zret hlocks hx hb hr d_T_isProcess_24 (rfl) (fun q hq => nomatch hq) (fun t ht hW => ?_)
    exact ⟨rfl, ht⟩
  · rw [if_neg hc]
    have hc0 := hc
    refine lv_iload_n hx hb d_T_isProcess_4 rfl (lv_at hl 1 rfl) ?_
    refine lv_bipush (v := 6) hx hb d_T_isProcess_5 (by decide) ?_
    refine lv_icmp_ge (tgt := 23) hx hb d_T_isProcess_7 (by decide) (fun hc => ?_) (fun hc => ?_)
    · rw [if_pos hc]
      refine lv_iconst (v := 0) hx hb d_T_isProcess_23 (by decide) ?_
      refine ob_zret hlocks hx hb hr d_T_isProcess_24 (rfl) (fun q hq => nomatch hq) (fun t ht hW => ?_)
      exact ⟨rfl, ht⟩
    · rw [if_neg hc]
      have hin : vp_in x 6 := by obtain ⟨j, hj, e, -⟩ := pk_mu (L := 6) hc0 hc (by omega); rw [e]; exact vp_in_nI hj (by omega)
      refine lv_aload_n hx hb d_T_isProcess_10 rfl (lv_at hl 0 rfl) ?_
      refine va_get (D := D) (ci := 2) (v := .ref (b 4)) hx hb hT.lays ly_T hown hT.1 hP 0 rfl rfl 7 (by decide) (hT.w k_T_20) (fun _ h => h) rfl d_T_isProcess_11 ?_
      refine lv_iload_n hx hb d_T_isProcess_14 rfl (lv_at hl 1 rfl) ?_
      refine va_zald hx hb hT.1 hP 4 1 rfl rfl (hin) d_T_isProcess_15 ?_
      refine lv_if_eq (tgt := 23) hx hb d_T_isProcess_16 (by decide) (fun hc => ?_) (fun hc => ?_)
      · rw [if_pos hc]
        refine lv_iconst (v := 0) hx hb d_T_isProcess_23 (by decide) ?_
        refine ob_zret hlocks hx hb hr d_T_isProcess_24 (rfl) (fun q hq => nomatch hq) (fun t ht hW => ?_)
        exact ⟨rfl, ht⟩
      · rw [if_neg hc]
        refine lv_iconst (v := 1) hx hb d_T_isProcess_19 (by decide) ?_
        refine lv_goto (tgt := 24) hx hb d_T_isProcess_20 (by decide) ?_
        refine ob_zret hlocks hx hb hr d_T_isProcess_24 (rfl) (fun q hq => nomatch hq) (fun t ht hW => ?_)
        exact ⟨rfl, ht⟩

set_option maxHeartbeats 4000000 in
set_option maxRecDepth 100000 in
/-- T_lowestProcess -/
theorem c_T_lowestProcess (l : Launch) (D : va_G) (tI tZ tA tJ : ClassId) (b : Nat → Nat) (F S : Nat) (tw : Int32) (g : Sg)  : ob_M l y_T_lowestProcess w_T_lowestProcess ({ frames := 0, cells := 0, slots := 0, locals := 0 }) (pR D tI tZ tA tJ [.ref (b 0)] (tW b F S tI tZ tw g) (True)) (ob_qR (some (.int (m_lowP (sg_th g) 6 0)))) 0 0 (fun _ => False) := by
  refine ob_ofW (by decide +kernel) ?_
  intro p e s m args below meth c s₁ B hml htab hv
  obtain ⟨rfl, hT, -, hP⟩ := hv
  have hx := B.exec
  have hb := B.bytes
  have hr := B.returns
  have hlocks := B.notSynchronized
  have hown : s.vm.findClass R_T = some m.cls := findClass_of_methodNamed B.named
  have hl := lv_entry ([.ref (b 0)]) (n := 2) (Nat.le_of_ble_eq_true rfl)
  rw [lg_entry_eq]
  generalize (lg_sl ([.ref (b 0)]) ++ List.replicate (2 - (lg_sl ([.ref (b 0)])).length) Slot.unset).toArray = ls at hl ⊢
  have hl : lv_has ls 2 [(0, .ref (b 0))] := hl
  have loop : ∀ (n i : Nat) (ls : Array Slot), i + n = 6 → m_lowP (sg_th g) n i = m_lowP (sg_th g) 6 0 → lv_has ls 2 [(1, .int (nI i)), (0, .ref (b 0))] → W p l e ({ frames := 0, cells := 0, slots := 0, locals := 0 } : Room) s m ([.ref (b 0)] : List Value).toArray below meth c s.heap [] 0 0 (ob_Q below (ob_qR (some (.int (m_lowP (sg_th g) 6 0)))) ([.ref (b 0)] : List Value).toArray s 0 0 (fun _ => False)) (F0 m 2 ls []) := by
    intro n
    induction n with
    | zero =>
      intro i ls hi hR hl
      refine lv_iload_n hx hb d_T_lowestProcess_2 rfl (lv_at hl 0 rfl) ?_
      refine lv_bipush (v := 6) hx hb d_T_lowestProcess_3 (by decide) ?_
      refine lv_icmp_ge (tgt := 25) hx hb d_T_lowestProcess_5 (by decide) (fun hc => ?_) (fun hc => absurd (nI_le (a := 6) (by omega) (by omega)) hc)
      rw [← hR]
      refine lv_iconst (v := -1) hx hb d_T_lowestProcess_25 (by decide) ?_
      refine ob_iret hlocks hx hb hr d_T_lowestProcess_26 (fun q hq => nomatch hq) (fun t ht hW => ?_)
      exact ⟨rfl, ht⟩
    | succ n ih =>
      intro i ls hi hR hl
      refine lv_iload_n hx hb d_T_lowestProcess_2 rfl (lv_at hl 0 rfl) ?_
      refine lv_bipush (v := 6) hx hb d_T_lowestProcess_3 (by decide) ?_
      refine lv_icmp_ge (tgt := 25) hx hb d_T_lowestProcess_5 (by decide) (fun hc => absurd hc (nI_ge (b := 6) (by omega) (by omega))) (fun hc => ?_)
      have hv : sg_th g (ix (nI i)) = sg_th g i := by show sg_th g (nI i).toNatClampNeg = sg_th g i; rw [nI_clamp (by omega)]
      refine lv_aload_n hx hb d_T_lowestProcess_8 rfl (lv_at hl 1 rfl) ?_
      refine va_get (D := D) (ci := 2) (v := .ref (b 4)) hx hb hT.lays ly_T hown hT.1 hP 0 rfl rfl 7 (by decide) (hT.w k_T_20) (fun _ h => h) rfl d_T_lowestProcess_9 ?_
      refine lv_iload_n hx hb d_T_lowestProcess_12 rfl (lv_at hl 0 rfl) ?_
      refine va_zald hx hb hT.1 hP 4 1 rfl rfl (vp_in_nI (by omega) (by omega)) d_T_lowestProcess_13 ?_
      rw [hv]
      refine lv_if_ne (tgt := 19) hx hb d_T_lowestProcess_14 (by decide) (fun hc => ?_) (fun hc => ?_)
      · refine lv_iinc (k := 0) (v := nI (i + 1)) (lv' := [(1, .int (nI (i + 1))), (0, .ref (b 0))]) hx hb d_T_lowestProcess_19 hl rfl (nI_1 i) (by decide) rfl (fun ls hl => ?_)
        refine lv_goto (tgt := 2) hx hb d_T_lowestProcess_22 (by decide) ?_
        refine ih (i + 1) ls (by omega) ?_ hl
        rw [← hR]
        exact (if_neg hc).symm
      · have e1 : m_lowP (sg_th g) (n + 1) i = nI i := if_pos hc
        rw [← hR, e1]
        refine lv_iload_n hx hb d_T_lowestProcess_17 rfl (lv_at hl 0 rfl) ?_
        refine ob_iret hlocks hx hb hr d_T_lowestProcess_18 (fun q hq => nomatch hq) (fun t ht hW => ?_)
        exact ⟨rfl, ht⟩
  refine lv_iconst (v := 0) hx hb d_T_lowestProcess_0 (by decide) ?_
  refine lv_istore_n (lv' := [(1, .int 0), (0, .ref (b 0))]) hx hb d_T_lowestProcess_1 rfl hl (by decide) rfl (fun ls hl => ?_)
  exact loop 6 0 ls rfl rfl hl

set_option maxHeartbeats 4000000 in
set_option maxRecDepth 100000 in
/-- T_canMake -/
theorem c_T_canMake (l : Launch) (D : va_G) (tI tZ tA tJ : ClassId) (b : Nat → Nat) (F S : Nat) (tw : Int32) (g : Sg)  : ob_M l y_T_canMake w_T_canMake ({ frames := 2, cells := 0, slots := 0, locals := 43 }) (pR D tI tZ tA tJ [.ref (b 0)] (tW b F S tI tZ tw g) (F ≤ 8 ∧ S ≤ 10)) (ob_qR (some (.int (m_canMake F S (sg_li g))))) 0 0 (fun _ => False) := by
  refine ob_ofW (by decide +kernel) ?_
  intro p e s m args below meth c s₁ B hml htab hv
  obtain ⟨rfl, hT, ⟨hF, hS10⟩, hP⟩ := hv
  have hx := B.exec
  have hb := B.bytes
  have hr := B.returns
  have hlocks := B.notSynchronized
  have hown : s.vm.findClass R_T = some m.cls := findClass_of_methodNamed B.named
  have hl := lv_entry ([.ref (b 0)]) (n := 1) (Nat.le_of_ble_eq_true rfl)
  rw [lg_entry_eq]
  generalize (lg_sl ([.ref (b 0)]) ++ List.replicate (1 - (lg_sl ([.ref (b 0)])).length) Slot.unset).toArray = ls at hl ⊢
  have hl : lv_has ls 1 [(0, .ref (b 0))] := hl
  unfold m_canMake
  refine lv_aload_n hx hb d_T_canMake_0 rfl (lv_at hl 0 rfl) ?_
  refine ob_callR (v := (some (.int (m_lowF (sg_li g) F 0)))) (ob_runV (n := 0) (As := []) (rest := []) (c_T_lowestFrame l D tI tZ tA tJ b F S tw g) (hT.ok ob_cd_c (by decide +kernel) rfl rfl (Nat.le_of_ble_eq_true rfl) (Nat.le_of_ble_eq_true rfl) kn_T kc_T_lowestFrame) hx hb hml hown (hT.w k_T_43) (hT.w ki_T_lowestFrame) (hT.w kv_T_lowestFrame) (va_recv (q0 := 0) (ci := 2) hT.1 hP rfl rfl) pR.blind (pR.at hT (by omega) hP) rfl rfl hl.1 rfl (lv_room (Nat.le_of_ble_eq_true rfl)) d_T_canMake_1 ⟨Nat.le_of_ble_eq_true rfl, Nat.le_of_ble_eq_true rfl⟩) ?_
  refine W.eq (g2 := F0 m 4 ls [.int (m_lowF (sg_li g) F 0)]) rfl ?_
  refine lv_if_ge (tgt := 14) hx hb d_T_canMake_4 (by decide) (fun hc => ?_) (fun hc => ?_)
  · rw [if_pos hc]
    refine lv_iconst (v := 1) hx hb d_T_canMake_14 (by decide) ?_
    refine lv_goto (tgt := 19) hx hb d_T_canMake_15 (by decide) ?_
    refine ob_zret hlocks hx hb hr d_T_canMake_19 (rfl) (fun q hq => nomatch hq) (fun t ht hW => ?_)
    exact ⟨rfl, ht⟩
  · rw [if_neg hc]
    refine lv_aload_n hx hb d_T_canMake_7 rfl (lv_at hl 0 rfl) ?_
    refine ob_callR (v := (some (.int (m_lowS (sg_li g) S 0)))) (ob_runV (n := 0) (As := []) (rest := []) (c_T_lowestSlot l D tI tZ tA tJ b F S tw g) (hT.ok ob_cd_c (by decide +kernel) rfl rfl (Nat.le_of_ble_eq_true rfl) (Nat.le_of_ble_eq_true rfl) kn_T kc_T_lowestSlot) hx hb hml hown (hT.w k_T_50) (hT.w ki_T_lowestSlot) (hT.w kv_T_lowestSlot) (va_recv (q0 := 0) (ci := 2) hT.1 hP rfl rfl) pR.blind (pR.at hT (hS10) hP) rfl rfl hl.1 rfl (lv_room (Nat.le_of_ble_eq_true rfl)) d_T_canMake_8 ⟨Nat.le_of_ble_eq_true rfl, Nat.le_of_ble_eq_true rfl⟩) ?_
    refine W.eq (g2 := F0 m 11 ls [.int (m_lowS (sg_li g) S 0)]) rfl ?_
    refine lv_if_lt (tgt := 18) hx hb d_T_canMake_11 (by decide) (fun hc => ?_) (fun hc => ?_)
    · rw [if_pos hc]
      refine lv_iconst (v := 0) hx hb d_T_canMake_18 (by decide) ?_
      refine ob_zret hlocks hx hb hr d_T_canMake_19 (rfl) (fun q hq => nomatch hq) (fun t ht hW => ?_)
      exact ⟨rfl, ht⟩
    · rw [if_neg hc]
      refine lv_iconst (v := 1) hx hb d_T_canMake_14 (by decide) ?_
      refine lv_goto (tgt := 19) hx hb d_T_canMake_15 (by decide) ?_
      refine ob_zret hlocks hx hb hr d_T_canMake_19 (rfl) (fun q hq => nomatch hq) (fun t ht hW => ?_)
      exact ⟨rfl, ht⟩

set_option maxHeartbeats 4000000 in
set_option maxRecDepth 100000 in
/-- T_needs -/
theorem c_T_needs (l : Launch) (D : va_G) (tI tZ tA tJ : ClassId) (b : Nat → Nat) (F S : Nat) (tw : Int32) (g : Sg) (p0 x : Int32) : ob_M l y_T_needs w_T_needs ({ frames := 1, cells := 0, slots := 0, locals := 23 }) (pR D tI tZ tA tJ [.ref (b 0), .int p0, .int x] (tW b F S tI tZ tw g) (vp_in (6 * p0 + x / 4) 36)) (ob_qR (some (.int (m_needs (sg_pg g) p0 x)))) 0 0 (fun _ => False) := by
  refine ob_ofW (by decide +kernel) ?_
  intro p e s m args below meth c s₁ B hml htab hv
  obtain ⟨rfl, hT, hin, hP⟩ := hv
  have hx := B.exec
  have hb := B.bytes
  have hr := B.returns
  have hlocks := B.notSynchronized
  have hown : s.vm.findClass R_T = some m.cls := findClass_of_methodNamed B.named
  have hl := lv_entry ([.ref (b 0), .int p0, .int x]) (n := 4) (Nat.le_of_ble_eq_true rfl)
  rw [lg_entry_eq]
  generalize (lg_sl ([.ref (b 0), .int p0, .int x]) ++ List.replicate (4 - (lg_sl ([.ref (b 0), .int p0, .int x])).length) Slot.unset).toArray = ls at hl ⊢
  have hl : lv_has ls 4 [(0, .ref (b 0)), (1, .int p0), (2, .int x)] := hl
  unfold m_needs
  refine lv_aload_n hx hb d_T_needs_0 rfl (lv_at hl 0 rfl) ?_
  refine va_get (D := D) (ci := 2) (v := .ref (b 5)) hx hb hT.lays ly_T hown hT.1 hP 0 rfl rfl 8 (by decide) (hT.w k_T_23) (fun _ h => h) rfl d_T_needs_1 ?_
  refine lv_bipush (v := 6) hx hb d_T_needs_4 (by decide) ?_
  refine lv_iload_n hx hb d_T_needs_6 rfl (lv_at hl 1 rfl) ?_
  refine lv_imul hx hb d_T_needs_7 ?_
  refine lv_iload_n hx hb d_T_needs_8 rfl (lv_at hl 2 rfl) ?_
  refine lv_iconst (v := 4) hx hb d_T_needs_9 (by decide) ?_
  refine lv_idiv hx hb d_T_needs_10 (by decide) ?_
  refine lv_iadd hx hb d_T_needs_11 ?_
  refine va_iald hx hb hT.1 hP 5 0 rfl rfl (hin) d_T_needs_12 ?_
  refine lv_istore_n (lv' := [(3, .int ((sg_pg g) (ix ((6 * p0) + (x / 4))))), (0, .ref (b 0)), (1, .int p0), (2, .int x)]) hx hb d_T_needs_13 rfl hl (by decide) rfl (fun ls hl => ?_)
  refine lv_iload_n hx hb d_T_needs_14 rfl (lv_at hl 0 rfl) ?_
  refine lv_if_lt (tgt := 27) hx hb d_T_needs_15 (by decide) (fun hc => ?_) (fun hc => ?_)
  · rw [if_pos hc]
    refine lv_iconst (v := 1) hx hb d_T_needs_27 (by decide) ?_
    refine lv_goto (tgt := 32) hx hb d_T_needs_28 (by decide) ?_
    refine ob_zret hlocks hx hb hr d_T_needs_32 (rfl) (fun q hq => nomatch hq) (fun t ht hW => ?_)
    exact ⟨rfl, ht⟩
  · rw [if_neg hc]
    refine lv_aload_n hx hb d_T_needs_18 rfl (lv_at hl 1 rfl) ?_
    refine lv_iload_n hx hb d_T_needs_19 rfl (lv_at hl 0 rfl) ?_
    refine ob_callR (v := (some (.int (m_owners (sg_pg g) (sg_pg g (ix (6 * p0 + x / 4))))))) (ob_runV (n := 1) (As := [.int (sg_pg g (ix (6 * p0 + x / 4)))]) (rest := []) (c_T_owners l D tI tZ tA tJ b F S tw g (sg_pg g (ix (6 * p0 + x / 4)))) (hT.ok ob_cd_c (by decide +kernel) rfl rfl (Nat.le_of_ble_eq_true rfl) (Nat.le_of_ble_eq_true rfl) kn_T kc_T_owners) hx hb hml hown (hT.w k_T_62) (hT.w ki_T_owners) (hT.w kv_T_owners) (va_recv (q0 := 0) (ci := 2) hT.1 hP rfl rfl) pR.blind (pR.at hT (trivial) hP) rfl rfl hl.1 rfl (lv_room (Nat.le_of_ble_eq_true rfl)) d_T_needs_20 ⟨Nat.le_of_ble_eq_true rfl, Nat.le_of_ble_eq_true rfl⟩) ?_
    refine W.eq (g2 := F0 m 23 ls [.int (m_owners (sg_pg g) (sg_pg g (ix (6 * p0 + x / 4))))]) rfl ?_
    refine lv_iconst (v := 1) hx hb d_T_needs_23 (by decide) ?_
    refine lv_icmp_le (tgt := 31) hx hb d_T_needs_24 (by decide) (fun hc => ?_) (fun hc => ?_)
    · rw [if_pos hc]
      refine lv_iconst (v := 0) hx hb d_T_needs_31 (by decide) ?_
      refine ob_zret hlocks hx hb hr d_T_needs_32 (rfl) (fun q hq => nomatch hq) (fun t ht hW => ?_)
      exact ⟨rfl, ht⟩
    · rw [if_neg hc]
      refine lv_iconst (v := 1) hx hb d_T_needs_27 (by decide) ?_
      refine lv_goto (tgt := 32) hx hb d_T_needs_28 (by decide) ?_
      refine ob_zret hlocks hx hb hr d_T_needs_32 (rfl) (fun q hq => nomatch hq) (fun t ht hW => ?_)
      exact ⟨rfl, ht⟩

set_option maxHeartbeats 4000000 in
set_option maxRecDepth 100000 in
/-- T_sheetOf -/
theorem c_T_sheetOf (l : Launch) (D : va_G) (tI tZ tA tJ : ClassId) (b : Nat → Nat) (F S : Nat) (tw : Int32) (g : Sg) (p0 x : Int32) : ob_M l y_T_sheetOf w_T_sheetOf ({ frames := 1, cells := 0, slots := 0, locals := 21 }) (pR D tI tZ tA tJ [.ref (b 0), .int p0, .int x] (tW b F S tI tZ tw g) (¬ m_isP (sg_th g) p0 = 0 → ¬ x < 0 → ¬ 6 ≤ x → vp_in (6 * p0 + x) 36)) (ob_qR (some (.int (m_sheetOf g p0 x)))) 0 0 (fun _ => False) := by
  refine ob_ofW (by decide +kernel) ?_
  intro p e s m args below meth c s₁ B hml htab hv
  obtain ⟨rfl, hT, hin, hP⟩ := hv
  have hx := B.exec
  have hb := B.bytes
  have hr := B.returns
  have hlocks := B.notSynchronized
  have hown : s.vm.findClass R_T = some m.cls := findClass_of_methodNamed B.named
  have hl := lv_entry ([.ref (b 0), .int p0, .int x]) (n := 3) (Nat.le_of_ble_eq_true rfl)
  rw [lg_entry_eq]
  generalize (lg_sl ([.ref (b 0), .int p0, .int x]) ++ List.replicate (3 - (lg_sl ([.ref (b 0), .int p0, .int x])).length) Slot.unset).toArray = ls at hl ⊢
  have hl : lv_has ls 3 [(0, .ref (b 0)), (1, .int p0), (2, .int x)] := hl
  unfold m_sheetOf
  refine lv_aload_n hx hb d_T_sheetOf_0 rfl (lv_at hl 0 rfl) ?_
  refine lv_iload_n hx hb d_T_sheetOf_1 rfl (lv_at hl 1 rfl) ?_
  refine ob_callR (v := (some (.int (m_isP (sg_th g) p0)))) (ob_runV (n := 1) (As := [.int p0]) (rest := []) (c_T_isProcess l D tI tZ tA tJ b F S tw g p0) (hT.ok ob_cd_c (by decide +kernel) rfl rfl (Nat.le_of_ble_eq_true rfl) (Nat.le_of_ble_eq_true rfl) kn_T kc_T_isProcess) hx hb hml hown (hT.w k_T_68) (hT.w ki_T_isProcess) (hT.w kv_T_isProcess) (va_recv (q0 := 0) (ci := 2) hT.1 hP rfl rfl) pR.blind (pR.at hT (trivial) hP) rfl rfl hl.1 rfl (lv_room (Nat.le_of_ble_eq_true rfl)) d_T_sheetOf_2 ⟨Nat.le_of_ble_eq_true rfl, Nat.le_of_ble_eq_true rfl⟩) ?_
  refine W.eq (g2 := F0 m 5 ls [.int (m_isP (sg_th g) p0)]) rfl ?_
  refine lv_if_eq (tgt := 32) hx hb d_T_sheetOf_5 (by decide) (fun hc => ?_) (fun hc => ?_)
  · rw [if_pos hc]
    refine lv_iconst (v := -1) hx hb d_T_sheetOf_32 (by decide) ?_
    refine ob_iret hlocks hx hb hr d_T_sheetOf_33 (fun q hq => nomatch hq) (fun t ht hW => ?_)
    exact ⟨rfl, ht⟩
  · rw [if_neg hc]
    have hc0 := hc
    refine lv_iload_n hx hb d_T_sheetOf_8 rfl (lv_at hl 2 rfl) ?_
    refine lv_if_lt (tgt := 32) hx hb d_T_sheetOf_9 (by decide) (fun hc => ?_) (fun hc => ?_)
    · rw [if_pos hc]
      refine lv_iconst (v := -1) hx hb d_T_sheetOf_32 (by decide) ?_
      refine ob_iret hlocks hx hb hr d_T_sheetOf_33 (fun q hq => nomatch hq) (fun t ht hW => ?_)
      exact ⟨rfl, ht⟩
    · rw [if_neg hc]
      have hc1 := hc
      refine lv_iload_n hx hb d_T_sheetOf_12 rfl (lv_at hl 2 rfl) ?_
      refine lv_bipush (v := 6) hx hb d_T_sheetOf_13 (by decide) ?_
      refine lv_icmp_ge (tgt := 32) hx hb d_T_sheetOf_15 (by decide) (fun hc => ?_) (fun hc => ?_)
      · rw [if_pos hc]
        refine lv_iconst (v := -1) hx hb d_T_sheetOf_32 (by decide) ?_
        refine ob_iret hlocks hx hb hr d_T_sheetOf_33 (fun q hq => nomatch hq) (fun t ht hW => ?_)
        exact ⟨rfl, ht⟩
      · rw [if_neg hc]
        refine lv_aload_n hx hb d_T_sheetOf_18 rfl (lv_at hl 0 rfl) ?_
        refine va_get (D := D) (ci := 2) (v := .ref (b 5)) hx hb hT.lays ly_T hown hT.1 hP 0 rfl rfl 8 (by decide) (hT.w k_T_23) (fun _ h => h) rfl d_T_sheetOf_19 ?_
        refine lv_bipush (v := 6) hx hb d_T_sheetOf_22 (by decide) ?_
        refine lv_iload_n hx hb d_T_sheetOf_24 rfl (lv_at hl 1 rfl) ?_
        refine lv_imul hx hb d_T_sheetOf_25 ?_
        refine lv_iload_n hx hb d_T_sheetOf_26 rfl (lv_at hl 2 rfl) ?_
        refine lv_iadd hx hb d_T_sheetOf_27 ?_
        refine va_iald hx hb hT.1 hP 5 0 rfl rfl (hin hc0 hc1 hc) d_T_sheetOf_28 ?_
        refine lv_goto (tgt := 33) hx hb d_T_sheetOf_29 (by decide) ?_
        refine ob_iret hlocks hx hb hr d_T_sheetOf_33 (fun q hq => nomatch hq) (fun t ht hW => ?_)
        exact ⟨rfl, ht⟩

set_option maxHeartbeats 4000000 in
set_option maxRecDepth 100000 in
/-- T_isAddress -/
theorem c_T_isAddress (l : Launch) (D : va_G) (tI tZ tA tJ : ClassId) (x : Int32) : ob_M l y_T_isAddress w_T_isAddress ({ frames := 0, cells := 0, slots := 0, locals := 0 }) (pR D tI tZ tA tJ [.int x] [] True) (ob_qR (some (.int (m_isA x)))) 0 0 (fun _ => False) := by
  refine ob_ofW (by decide +kernel) ?_
  intro p e s m args below meth c s₁ B hml htab hv
  obtain ⟨rfl, hT, -, hP⟩ := hv
  have hx := B.exec
  have hb := B.bytes
  have hr := B.returns
  have hlocks := B.notSynchronized
  have hown : s.vm.findClass R_T = some m.cls := findClass_of_methodNamed B.named
  have hl := lv_entry ([.int x]) (n := 1) (Nat.le_of_ble_eq_true rfl)
  rw [lg_entry_eq]
  generalize (lg_sl ([.int x]) ++ List.replicate (1 - (lg_sl ([.int x])).length) Slot.unset).toArray = ls at hl ⊢
  have hl : lv_has ls 1 [(0, .int x)] := hl
  unfold m_isA
  refine lv_iload_n hx hb d_T_isAddress_0 rfl (lv_at hl 0 rfl) ?_
  refine lv_if_lt (tgt := 14) hx hb d_T_isAddress_1 (by decide) (fun hc => ?_) (fun hc => ?_)
  · rw [if_pos hc]
    refine lv_iconst (v := 0) hx hb d_T_isAddress_14 (by decide) ?_
    refine ob_zret hlocks hx hb hr d_T_isAddress_15 (rfl) (fun q hq => nomatch hq) (fun t ht hW => ?_)
    exact ⟨rfl, ht⟩
  · rw [if_neg hc]
    refine lv_iload_n hx hb d_T_isAddress_4 rfl (lv_at hl 0 rfl) ?_
    refine lv_bipush (v := 24) hx hb d_T_isAddress_5 (by decide) ?_
    refine lv_icmp_ge (tgt := 14) hx hb d_T_isAddress_7 (by decide) (fun hc => ?_) (fun hc => ?_)
    · rw [if_pos hc]
      refine lv_iconst (v := 0) hx hb d_T_isAddress_14 (by decide) ?_
      refine ob_zret hlocks hx hb hr d_T_isAddress_15 (rfl) (fun q hq => nomatch hq) (fun t ht hW => ?_)
      exact ⟨rfl, ht⟩
    · rw [if_neg hc]
      refine lv_iconst (v := 1) hx hb d_T_isAddress_10 (by decide) ?_
      refine lv_goto (tgt := 15) hx hb d_T_isAddress_11 (by decide) ?_
      refine ob_zret hlocks hx hb hr d_T_isAddress_15 (rfl) (fun q hq => nomatch hq) (fun t ht hW => ?_)
      exact ⟨rfl, ht⟩
end
section
theorem m_turn_in {F : Nat} {h : Int32} (hF : F ≤ 8) (hh : vp_in h F) : vp_in (m_turn F h) F := by
  obtain ⟨j, hj, rfl⟩ := vp_in_of hh (by omega)
  unfold m_turn
  rw [nI_1]
  by_cases h1 : nI (j + 1) = nI F
  · rw [if_pos h1]
    exact vp_in_nI (n := 0) (N := F) (by omega) (by omega)
  · rw [if_neg h1]
    have : ¬ j + 1 = F := fun h2 => h1 (by rw [h2])
    exact vp_in_nI (by omega) (by omega)
theorem vp_in_mono {x : Int32} {n m : Nat} (h : vp_in x n) (hnm : n ≤ m) : vp_in x m := fun q => h (q.elim Or.inl (fun z => Or.inr (by omega)))
/-- what the reference's getFrame, make, bringIn, empty ask -/
def mg_ok (F S : Nat) (s : Sg) : Prop := F ≤ 8 ∧ S ≤ 10 ∧ (m_lowF (sg_li s) F 0 < 0 → vp_in (sg_hd s) F ∧ (m_sweep F 8 (sg_mk s) (sg_hd s)).1 (ix (m_sweep F 8 (sg_mk s) (sg_hd s)).2) = 0 ∧ vp_in (m_sheetAt (sg_li s) (m_sweep F 8 (sg_mk s) (sg_hd s)).2) 18)
def mm_ok (F S : Nat) (s : Sg) (k like : Int32) : Prop := mg_ok F S s ∧ vp_in (m_sheetAt (sg_li s) (-1)) 18 ∧ vp_in k 36 ∧ (0 ≤ like → vp_in like 18)
def mb_ok (F S : Nat) (s : Sg) (a : Int32) : Prop := vp_in a 18 ∧ (¬ sg_li s (ix a) < 100 → mg_ok F S (su_li s (upd (sg_li s) (ix a) (-1))))
def me_ok (s : Sg) (k : Int32) : Prop := vp_in k 36 ∧ (¬ sg_pg s (ix k) < 0 → m_owners (upd (sg_pg s) (ix k) (-1)) (sg_pg s (ix k)) ≤ 0 → vp_in (sg_pg s (ix k)) 18 ∧ (¬ 100 ≤ sg_li s (ix (sg_pg s (ix k))) → vp_in (sg_li s (ix (sg_pg s (ix k)))) 8))
theorem ix4 {a : Int32} {i : Nat} (ha : vp_in a 18) (hi : i < 4) : vp_in (4 * a + nI i) 72 := by
  obtain ⟨j, hj, rfl⟩ := vp_in_of ha (by omega)
  have e : (4 : Int32) * nI j + nI i = nI (4 * j + i) := by rw [show (4 : Int32) = nI 4 from rfl, pk_mul, nI_add]
  rw [e]
  exact vp_in_nI (by omega) (by omega)

set_option maxHeartbeats 4000000 in
set_option maxRecDepth 100000 in
/-- T_turn -/
theorem c_T_turn (l : Launch) (D : va_G) (tI tZ tA tJ : ClassId) (b : Nat → Nat) (F S sz : Nat) (tw : Int32) (g : Sg)  : ob_M l y_T_turn w_T_turn ({ frames := 0, cells := 0, slots := 0, locals := 0 }) (pW D tI tZ tA tJ [.ref (b 0)] (tW b F S tI tZ tw g) sz (True)) (ob_qW D vcl none (tW b F S tI tZ tw (su_hd g (m_turn F (sg_hd g)))) (va_A (tW b F S tI tZ tw g) sz)) 0 0 (va_A (tW b F S tI tZ tw g) sz) := by
  refine ob_ofW (by decide +kernel) ?_
  intro p e s m args below meth c s₁ B hml htab hv
  obtain ⟨rfl, hT, -, hsz, hP, hD0⟩ := hv
  have hx := B.exec
  have hb := B.bytes
  have hr := B.returns
  have hlocks := B.notSynchronized
  have hown : s.vm.findClass R_T = some m.cls := findClass_of_methodNamed B.named
  have hl := lv_entry ([.ref (b 0)]) (n := 1) (Nat.le_of_ble_eq_true rfl)
  rw [lg_entry_eq]
  generalize (lg_sl ([.ref (b 0)]) ++ List.replicate (1 - (lg_sl ([.ref (b 0)])).length) Slot.unset).toArray = ls at hl ⊢
  have hl : lv_has ls 1 [(0, .ref (b 0))] := hl
  subst hsz
  have hD := hD0.self (sz := s.heap.size)
  generalize hAe : va_A (tW b F S tI tZ tw g) s.heap.size = A at hD ⊢
  have hA : ∀ q : Nat, s.heap.size ≤ q → A q := fun q h => by rw [← hAe]; exact Or.inr h
  have hS : va_S A s.heap s.heap [] := va_S.rf
  refine lv_aload_n hx hb d_T_turn_0 rfl (lv_at hl 0 rfl) ?_
  refine lv_aload_n hx hb d_T_turn_1 rfl (lv_at hl 0 rfl) ?_
  refine va_get (D := D) (ci := 2) (v := .int (sg_hd g)) hx hb hT.lays ly_T hown hT.1 hP 0 rfl rfl 4 (by decide) (hT.w k_T_40) (fun _ h => h) rfl d_T_turn_2 ?_
  refine lv_iconst (v := 1) hx hb d_T_turn_5 (by decide) ?_
  refine lv_iadd hx hb d_T_turn_6 ?_
  refine lv_aload_n hx hb d_T_turn_7 rfl (lv_at hl 0 rfl) ?_
  refine va_get (D := D) (ci := 2) (v := .int (nI F)) hx hb hT.lays ly_T hown hT.1 hP 0 rfl rfl 1 (by decide) (hT.w k_T_26) (fun _ h => h) rfl d_T_turn_8 ?_
  refine lv_icmp_ne (tgt := 18) hx hb d_T_turn_11 (by decide) (fun hc => ?_) (fun hc => ?_)
  · have e1 : m_turn F (sg_hd g) = sg_hd g + 1 := if_neg hc
    rw [e1]
    refine lv_aload_n hx hb d_T_turn_18 rfl (lv_at hl 0 rfl) ?_
    refine va_get (D := D) (ci := 2) (v := .int (sg_hd g)) hx hb hT.lays ly_T hown hT.1 hP 0 rfl rfl 4 (by decide) (hT.w k_T_40) (fun _ h => h) rfl d_T_turn_19 ?_
    refine lv_iconst (v := 1) hx hb d_T_turn_22 (by decide) ?_
    refine lv_iadd hx hb d_T_turn_23 ?_
    refine va_put (D := D) (ci := 2) (v := .int ((sg_hd g) + 1)) (ty := .int) hx hb hT.lays ly_T ty_T ty_T_ok n_T hown hT.1 hP hD hS 0 rfl rfl 4 (by decide) (hT.w k_T_40) (fun _ h => h) rfl (by decide +kernel) rfl rfl (Nat.le_of_ble_eq_true rfl) d_T_turn_24 (fun H locs hP hD hS => ?_)
    have hP : va_P D vcl (tW b F S tI tZ tw (su_hd g ((sg_hd g) + 1))) H := hP
    have hD : va_D A (tW b F S tI tZ tw (su_hd g ((sg_hd g) + 1))) := hD
    refine ob_vret hlocks hx hb hr d_T_turn_27 hS.2.2 (fun t ht hW => ?_)
    exact ⟨rfl, by rw [ht]; exact hP, hD, hS.F ht⟩
  · have e1 : m_turn F (sg_hd g) = 0 := if_pos hc
    rw [e1]
    refine lv_iconst (v := 0) hx hb d_T_turn_14 (by decide) ?_
    refine lv_goto (tgt := 24) hx hb d_T_turn_15 (by decide) ?_
    refine va_put (D := D) (ci := 2) (v := .int 0) (ty := .int) hx hb hT.lays ly_T ty_T ty_T_ok n_T hown hT.1 hP hD hS 0 rfl rfl 4 (by decide) (hT.w k_T_40) (fun _ h => h) rfl (by decide +kernel) rfl rfl (Nat.le_of_ble_eq_true rfl) d_T_turn_24 (fun H locs hP hD hS => ?_)
    have hP : va_P D vcl (tW b F S tI tZ tw (su_hd g 0)) H := hP
    have hD : va_D A (tW b F S tI tZ tw (su_hd g 0)) := hD
    refine ob_vret hlocks hx hb hr d_T_turn_27 hS.2.2 (fun t ht hW => ?_)
    exact ⟨rfl, by rw [ht]; exact hP, hD, hS.F ht⟩

set_option maxHeartbeats 4000000 in
set_option maxRecDepth 100000 in
/-- T_getFrame -/
theorem c_T_getFrame (l : Launch) (D : va_G) (tI tZ tA tJ : ClassId) (b : Nat → Nat) (F S sz : Nat) (tw : Int32) (g : Sg)  : ob_M l y_T_getFrame w_T_getFrame ({ frames := 2, cells := 0, slots := 0, locals := 43 }) (pW D tI tZ tA tJ [.ref (b 0)] (tW b F S tI tZ tw g) sz (mg_ok F S g)) (ob_qW D vcl (some (.int ((m_getFrame F S g).1))) (tW b F S tI tZ tw ((m_getFrame F S g).2)) (va_A (tW b F S tI tZ tw g) sz)) 0 0 (va_A (tW b F S tI tZ tw g) sz) := by
  refine ob_ofW (by decide +kernel) ?_
  intro p e s m args below meth c s₁ B hml htab hv
  obtain ⟨rfl, hT, ⟨hF, hS10, hq⟩, hsz, hP, hD0⟩ := hv
  have hx := B.exec
  have hb := B.bytes
  have hr := B.returns
  have hlocks := B.notSynchronized
  have hown : s.vm.findClass R_T = some m.cls := findClass_of_methodNamed B.named
  have hl := lv_entry ([.ref (b 0)]) (n := 4) (Nat.le_of_ble_eq_true rfl)
  rw [lg_entry_eq]
  generalize (lg_sl ([.ref (b 0)]) ++ List.replicate (4 - (lg_sl ([.ref (b 0)])).length) Slot.unset).toArray = ls at hl ⊢
  have hl : lv_has ls 4 [(0, .ref (b 0))] := hl
  subst hsz
  have hD := hD0.self (sz := s.heap.size)
  generalize hAe : va_A (tW b F S tI tZ tw g) s.heap.size = A at hD ⊢
  have hA : ∀ q : Nat, s.heap.size ≤ q → A q := fun q h => by rw [← hAe]; exact Or.inr h
  have hS : va_S A s.heap s.heap [] := va_S.rf
  refine lv_aload_n hx hb d_T_getFrame_0 rfl (lv_at hl 0 rfl) ?_
  refine ob_callR (v := (some (.int (m_lowF (sg_li g) F 0)))) (ob_runV (n := 0) (As := []) (rest := []) (c_T_lowestFrame l D tI tZ tA tJ b F S tw g) (hT.ok ob_cd_c (by decide +kernel) rfl rfl (Nat.le_of_ble_eq_true rfl) (Nat.le_of_ble_eq_true rfl) kn_T kc_T_lowestFrame) hx hb hml hown (hT.w k_T_43) (hT.w ki_T_lowestFrame) (hT.w kv_T_lowestFrame) (va_recv (q0 := 0) (ci := 2) hT.1 hP rfl rfl) pR.blind (pR.at hT (by omega) hP) rfl rfl hl.1 rfl (lv_room (Nat.le_of_ble_eq_true rfl)) d_T_getFrame_1 ⟨Nat.le_of_ble_eq_true rfl, Nat.le_of_ble_eq_true rfl⟩) ?_
  refine W.eq (g2 := F0 m 4 ls [.int (m_lowF (sg_li g) F 0)]) rfl ?_
  refine lv_istore_n (lv' := [(1, .int (m_lowF (sg_li g) F 0)), (0, .ref (b 0))]) hx hb d_T_getFrame_4 rfl hl (by decide) rfl (fun ls hl => ?_)
  refine lv_iload_n hx hb d_T_getFrame_5 rfl (lv_at hl 0 rfl) ?_
  refine lv_if_lt (tgt := 11) hx hb d_T_getFrame_6 (by decide) (fun hc => ?_) (fun hc => ?_)
  · obtain ⟨hhd, hz0, hsa⟩ := hq hc
    obtain ⟨R, hR⟩ : ∃ R, m_sweep F 8 (sg_mk g) (sg_hd g) = R := ⟨_, rfl⟩
    rw [hR] at hz0 hsa
    have e0 : m_getFrame F S g = (R.2, su_hd (su_ev (su_li (su_mk g R.1) (upd (sg_li g) (ix (m_sheetAt (sg_li g) R.2)) (m_lowS (sg_li g) S 0))) (sg_ev g + 1)) (m_turn F R.2)) := by unfold m_getFrame; rw [if_pos hc]; unfold m_evict; rw [hR]
    rw [e0]
    have hend : ∀ (ls : Array Slot) (H : Heap) (locs : List Loc), lv_has ls 4 [(0, .ref (b 0))] → va_P D vcl (tW b F S tI tZ tw (su_hd (su_mk g R.1) R.2)) H → va_D A (tW b F S tI tZ tw (su_hd (su_mk g R.1) R.2)) → va_S A s.heap H locs → W p l e ({ frames := 2, cells := 0, slots := 0, locals := 43 } : Room) s m ([.ref (b 0)] : List Value).toArray below meth c H locs 0 0 (ob_Q below (ob_qW D vcl (some (.int R.2)) (tW b F S tI tZ tw (su_hd (su_ev (su_li (su_mk g R.1) (upd (sg_li g) (ix (m_sheetAt (sg_li g) R.2)) (m_lowS (sg_li g) S 0))) (sg_ev g + 1)) (m_turn F R.2))) A) ([.ref (b 0)] : List Value).toArray s 0 0 A) (F0 m 40 ls []) := by
      intro ls H locs hl hP hD hS
      refine lv_aload_n hx hb d_T_getFrame_40 rfl (lv_at hl 0 rfl) ?_
      refine va_get (D := D) (ci := 2) (v := .int R.2) hx hb hT.lays ly_T hown hT.1 hP 0 rfl rfl 4 (by decide) (hT.w k_T_40) (fun _ h => h) rfl d_T_getFrame_41 ?_
      refine lv_istore_n (lv' := [(2, .int R.2), (0, .ref (b 0))]) hx hb d_T_getFrame_44 rfl hl (by decide) rfl (fun ls hl => ?_)
      refine lv_aload_n hx hb d_T_getFrame_45 rfl (lv_at hl 1 rfl) ?_
      refine lv_iload_n hx hb d_T_getFrame_46 rfl (lv_at hl 0 rfl) ?_
      refine ob_callR (v := (some (.int (m_sheetAt (sg_li g) R.2)))) (ob_runV (n := 1) (As := [.int R.2]) (rest := []) (c_T_sheetAt l D tI tZ tA tJ b F S tw (su_hd (su_mk g R.1) R.2) R.2) (hT.ok ob_cd_c (by decide +kernel) rfl rfl (Nat.le_of_ble_eq_true rfl) (Nat.le_of_ble_eq_true rfl) kn_T kc_T_sheetAt) hx hb hml hown (hT.w k_T_36) (hT.w ki_T_sheetAt) (hT.w kv_T_sheetAt) (va_recv (q0 := 0) (ci := 2) hT.1 hP rfl rfl) pR.blind (pR.at hT (trivial) hP) rfl rfl hl.1 rfl (lv_room (Nat.le_of_ble_eq_true rfl)) d_T_getFrame_47 ⟨Nat.le_of_ble_eq_true rfl, Nat.le_of_ble_eq_true rfl⟩) ?_
      refine W.eq (g2 := F0 m 50 ls [.int (m_sheetAt (sg_li g) R.2)]) rfl ?_
      refine lv_istore_n (lv' := [(3, .int (m_sheetAt (sg_li g) R.2)), (2, .int R.2), (0, .ref (b 0))]) hx hb d_T_getFrame_50 rfl hl (by decide) rfl (fun ls hl => ?_)
      refine lv_aload_n hx hb d_T_getFrame_51 rfl (lv_at hl 2 rfl) ?_
      refine va_get (D := D) (ci := 2) (v := .ref (b 2)) hx hb hT.lays ly_T hown hT.1 hP 0 rfl rfl 5 (by decide) (hT.w k_T_13) (fun _ h => h) rfl d_T_getFrame_52 ?_
      refine lv_iload_n hx hb d_T_getFrame_55 rfl (lv_at hl 0 rfl) ?_
      refine lv_aload_n hx hb d_T_getFrame_56 rfl (lv_at hl 2 rfl) ?_
      refine ob_callR (v := (some (.int (m_lowS (sg_li g) S 0)))) (ob_runV (n := 0) (As := []) (rest := [.int (m_sheetAt (sg_li g) R.2), .ref (b 2)]) (c_T_lowestSlot l D tI tZ tA tJ b F S tw (su_hd (su_mk g R.1) R.2)) (hT.ok ob_cd_c (by decide +kernel) rfl rfl (Nat.le_of_ble_eq_true rfl) (Nat.le_of_ble_eq_true rfl) kn_T kc_T_lowestSlot) hx hb hml hown (hT.w k_T_50) (hT.w ki_T_lowestSlot) (hT.w kv_T_lowestSlot) (va_recv (q0 := 0) (ci := 2) hT.1 hP rfl rfl) pR.blind (pR.at hT (hS10) hP) rfl rfl hl.1 rfl (lv_room (Nat.le_of_ble_eq_true rfl)) d_T_getFrame_57 ⟨Nat.le_of_ble_eq_true rfl, Nat.le_of_ble_eq_true rfl⟩) ?_
      refine W.eq (g2 := F0 m 60 ls [.int (m_lowS (sg_li g) S 0), .int (m_sheetAt (sg_li g) R.2), .ref (b 2)]) rfl ?_
      refine va_iast hx hb hT.1 hP hD hS 2 0 rfl rfl (hsa) d_T_getFrame_60 (fun H locs hP hD hS => ?_)
      have hP : va_P D vcl (tW b F S tI tZ tw (su_hd (su_li (su_mk g R.1) (upd (sg_li g) (ix (m_sheetAt (sg_li g) R.2)) (m_lowS (sg_li g) S 0))) R.2)) H := hP
      have hD : va_D A (tW b F S tI tZ tw (su_hd (su_li (su_mk g R.1) (upd (sg_li g) (ix (m_sheetAt (sg_li g) R.2)) (m_lowS (sg_li g) S 0))) R.2)) := hD
      refine lv_aload_n hx hb d_T_getFrame_61 rfl (lv_at hl 2 rfl) ?_
      refine lv_dup hx hb d_T_getFrame_62 rfl ?_
      refine va_get (D := D) (ci := 2) (v := .int (sg_ev (su_hd (su_li (su_mk g R.1) (upd (sg_li g) (ix (m_sheetAt (sg_li g) R.2)) (m_lowS (sg_li g) S 0))) R.2))) hx hb hT.lays ly_T hown hT.1 hP 0 rfl rfl 10 (by decide) (hT.w k_T_53) (fun _ h => h) rfl d_T_getFrame_63 ?_
      refine lv_iconst (v := 1) hx hb d_T_getFrame_66 (by decide) ?_
      refine lv_iadd hx hb d_T_getFrame_67 ?_
      refine va_put (D := D) (ci := 2) (v := .int ((sg_ev g) + 1)) (ty := .int) hx hb hT.lays ly_T ty_T ty_T_ok n_T hown hT.1 hP hD hS 0 rfl rfl 10 (by decide) (hT.w k_T_53) (fun _ h => h) rfl (by decide +kernel) rfl rfl (Nat.le_of_ble_eq_true rfl) d_T_getFrame_68 (fun H locs hP hD hS => ?_)
      have hP : va_P D vcl (tW b F S tI tZ tw (su_hd (su_ev (su_li (su_mk g R.1) (upd (sg_li g) (ix (m_sheetAt (sg_li g) R.2)) (m_lowS (sg_li g) S 0))) (sg_ev g + 1)) R.2)) H := hP
      have hD : va_D A (tW b F S tI tZ tw (su_hd (su_ev (su_li (su_mk g R.1) (upd (sg_li g) (ix (m_sheetAt (sg_li g) R.2)) (m_lowS (sg_li g) S 0))) (sg_ev g + 1)) R.2)) := hD
      refine lv_aload_n hx hb d_T_getFrame_71 rfl (lv_at hl 2 rfl) ?_
      refine ob_callW (v := none) (X := []) (M := tW b F S tI tZ tw (su_hd (su_ev (su_li (su_mk g R.1) (upd (sg_li g) (ix (m_sheetAt (sg_li g) R.2)) (m_lowS (sg_li g) S 0))) (sg_ev g + 1)) R.2)) (M' := tW b F S tI tZ tw (su_hd (su_ev (su_li (su_mk g R.1) (upd (sg_li g) (ix (m_sheetAt (sg_li g) R.2)) (m_lowS (sg_li g) S 0))) (sg_ev g + 1)) (m_turn F R.2))) (ob_runV (n := 0) (As := []) (rest := []) (c_T_turn l D tI tZ tA tJ b F S H.size tw (su_hd (su_ev (su_li (su_mk g R.1) (upd (sg_li g) (ix (m_sheetAt (sg_li g) R.2)) (m_lowS (sg_li g) S 0))) (sg_ev g + 1)) R.2)) (hT.ok ob_cd_c (by decide +kernel) rfl rfl (Nat.le_of_ble_eq_true rfl) (Nat.le_of_ble_eq_true rfl) kn_T kc_T_turn) hx hb hml hown (hT.w k_T_47) (hT.w ki_T_turn) (hT.w kv_T_turn) (va_recv (q0 := 0) (ci := 2) hT.1 hP rfl rfl) pW.blind (pW.at hT (trivial) hP hD) rfl rfl hl.1 rfl (lv_room (Nat.le_of_ble_eq_true rfl)) d_T_getFrame_72 ⟨Nat.le_of_ble_eq_true rfl, Nat.le_of_ble_eq_true rfl⟩) hP hD hS hA (fun H locs hP hD hS => ?_)
      have hP : va_P D vcl (tW b F S tI tZ tw (su_hd (su_ev (su_li (su_mk g R.1) (upd (sg_li g) (ix (m_sheetAt (sg_li g) R.2)) (m_lowS (sg_li g) S 0))) (sg_ev g + 1)) (m_turn F R.2))) H := hP
      have hD : va_D A (tW b F S tI tZ tw (su_hd (su_ev (su_li (su_mk g R.1) (upd (sg_li g) (ix (m_sheetAt (sg_li g) R.2)) (m_lowS (sg_li g) S 0))) (sg_ev g + 1)) (m_turn F R.2))) := hD
      refine W.eq (g2 := F0 m 75 ls []) rfl ?_
      refine lv_iload_n hx hb d_T_getFrame_75 rfl (lv_at hl 1 rfl) ?_
      refine ob_iret hlocks hx hb hr d_T_getFrame_76 hS.2.2 (fun t ht hW => ?_)
      exact ⟨rfl, by rw [ht]; exact hP, hD, hS.F ht⟩
    have loop : ∀ (n : Nat) (mq : Nat → Int32) (h : Int32) (ls : Array Slot) (H : Heap) (locs : List Loc), m_sweep F n mq h = R → vp_in h F → lv_has ls 4 [(0, .ref (b 0))] → va_P D vcl (tW b F S tI tZ tw (su_hd (su_mk g mq) h)) H → va_D A (tW b F S tI tZ tw (su_hd (su_mk g mq) h)) → va_S A s.heap H locs → W p l e ({ frames := 2, cells := 0, slots := 0, locals := 43 } : Room) s m ([.ref (b 0)] : List Value).toArray below meth c H locs 0 0 (ob_Q below (ob_qW D vcl (some (.int R.2)) (tW b F S tI tZ tw (su_hd (su_ev (su_li (su_mk g R.1) (upd (sg_li g) (ix (m_sheetAt (sg_li g) R.2)) (m_lowS (sg_li g) S 0))) (sg_ev g + 1)) (m_turn F R.2))) A) ([.ref (b 0)] : List Value).toArray s 0 0 A) (F0 m 11 ls []) := by
      intro n
      induction n with
      | zero =>
        intro mq h ls H locs hs hh hl hP hD hS
        subst hs
        refine lv_aload_n hx hb d_T_getFrame_11 rfl (lv_at hl 0 rfl) ?_
        refine va_get (D := D) (ci := 2) (v := .ref (b 1)) hx hb hT.lays ly_T hown hT.1 hP 0 rfl rfl 3 (by decide) (hT.w k_T_7) (fun _ h => h) rfl d_T_getFrame_12 ?_
        refine lv_aload_n hx hb d_T_getFrame_15 rfl (lv_at hl 0 rfl) ?_
        refine va_get (D := D) (ci := 2) (v := .int h) hx hb hT.lays ly_T hown hT.1 hP 0 rfl rfl 4 (by decide) (hT.w k_T_40) (fun _ h => h) rfl d_T_getFrame_16 ?_
        refine va_zald hx hb hT.1 hP 1 1 rfl rfl (vp_in_mono hh hF) d_T_getFrame_19 ?_
        refine lv_if_eq (tgt := 40) hx hb d_T_getFrame_20 (by decide) (fun hc => ?_) (fun hc => absurd hz0 hc)
        exact hend ls H locs hl hP hD hS
      | succ n ih =>
        intro mq h ls H locs hs hh hl hP hD hS
        refine lv_aload_n hx hb d_T_getFrame_11 rfl (lv_at hl 0 rfl) ?_
        refine va_get (D := D) (ci := 2) (v := .ref (b 1)) hx hb hT.lays ly_T hown hT.1 hP 0 rfl rfl 3 (by decide) (hT.w k_T_7) (fun _ h => h) rfl d_T_getFrame_12 ?_
        refine lv_aload_n hx hb d_T_getFrame_15 rfl (lv_at hl 0 rfl) ?_
        refine va_get (D := D) (ci := 2) (v := .int h) hx hb hT.lays ly_T hown hT.1 hP 0 rfl rfl 4 (by decide) (hT.w k_T_40) (fun _ h => h) rfl d_T_getFrame_16 ?_
        refine va_zald hx hb hT.1 hP 1 1 rfl rfl (vp_in_mono hh hF) d_T_getFrame_19 ?_
        refine lv_if_eq (tgt := 40) hx hb d_T_getFrame_20 (by decide) (fun hc => ?_) (fun hc => ?_)
        · have e1 : m_sweep F (n + 1) mq h = (mq, h) := if_pos hc
          rw [e1] at hs
          subst hs
          exact hend ls H locs hl hP hD hS
        · have e1 : m_sweep F (n + 1) mq h = m_sweep F n (upd mq (ix h) 0) (m_turn F h) := if_neg hc
          rw [e1] at hs
          refine lv_aload_n hx hb d_T_getFrame_23 rfl (lv_at hl 0 rfl) ?_
          refine va_get (D := D) (ci := 2) (v := .ref (b 1)) hx hb hT.lays ly_T hown hT.1 hP 0 rfl rfl 3 (by decide) (hT.w k_T_7) (fun _ h => h) rfl d_T_getFrame_24 ?_
          refine lv_aload_n hx hb d_T_getFrame_27 rfl (lv_at hl 0 rfl) ?_
          refine va_get (D := D) (ci := 2) (v := .int h) hx hb hT.lays ly_T hown hT.1 hP 0 rfl rfl 4 (by decide) (hT.w k_T_40) (fun _ h => h) rfl d_T_getFrame_28 ?_
          refine lv_iconst (v := 0) hx hb d_T_getFrame_31 (by decide) ?_
          refine va_zast hx hb hT.1 hP hD hS 1 1 rfl rfl (vp_in_mono hh hF) d_T_getFrame_32 (fun H locs hP hD hS => ?_)
          rw [nar0] at hP hD
          have hP : va_P D vcl (tW b F S tI tZ tw (su_hd (su_mk g (upd mq (ix h) 0)) h)) H := hP
          have hD : va_D A (tW b F S tI tZ tw (su_hd (su_mk g (upd mq (ix h) 0)) h)) := hD
          refine lv_aload_n hx hb d_T_getFrame_33 rfl (lv_at hl 0 rfl) ?_
          refine ob_callW (v := none) (X := []) (M := tW b F S tI tZ tw (su_hd (su_mk g (upd mq (ix h) 0)) h)) (M' := tW b F S tI tZ tw (su_hd (su_mk g (upd mq (ix h) 0)) (m_turn F h))) (ob_runV (n := 0) (As := []) (rest := []) (c_T_turn l D tI tZ tA tJ b F S H.size tw (su_hd (su_mk g (upd mq (ix h) 0)) h)) (hT.ok ob_cd_c (by decide +kernel) rfl rfl (Nat.le_of_ble_eq_true rfl) (Nat.le_of_ble_eq_true rfl) kn_T kc_T_turn) hx hb hml hown (hT.w k_T_47) (hT.w ki_T_turn) (hT.w kv_T_turn) (va_recv (q0 := 0) (ci := 2) hT.1 hP rfl rfl) pW.blind (pW.at hT (trivial) hP hD) rfl rfl hl.1 rfl (lv_room (Nat.le_of_ble_eq_true rfl)) d_T_getFrame_34 ⟨Nat.le_of_ble_eq_true rfl, Nat.le_of_ble_eq_true rfl⟩) hP hD hS hA (fun H locs hP hD hS => ?_)
          have hP : va_P D vcl (tW b F S tI tZ tw (su_hd (su_mk g (upd mq (ix h) 0)) (m_turn F h))) H := hP
          have hD : va_D A (tW b F S tI tZ tw (su_hd (su_mk g (upd mq (ix h) 0)) (m_turn F h))) := hD
          refine W.eq (g2 := F0 m 37 ls []) rfl ?_
          refine lv_goto (tgt := 11) hx hb d_T_getFrame_37 (by decide) ?_
          exact ih _ _ ls H locs hs (m_turn_in hF hh) hl hP hD hS
    have hl : lv_has ls 4 [(0, .ref (b 0))] := lv_sub hl [1] rfl
    exact loop 8 (sg_mk g) (sg_hd g) ls s.heap [] hR hhd hl hP hD hS
  · have e1 : m_getFrame F S g = (m_lowF (sg_li g) F 0, g) := if_neg hc
    rw [e1]
    refine lv_iload_n hx hb d_T_getFrame_9 rfl (lv_at hl 0 rfl) ?_
    refine ob_iret hlocks hx hb hr d_T_getFrame_10 hS.2.2 (fun t ht hW => ?_)
    exact ⟨rfl, by rw [ht]; exact hP, hD, hS.F ht⟩

set_option maxHeartbeats 4000000 in
set_option maxRecDepth 100000 in
/-- T_make -/
theorem c_T_make (l : Launch) (D : va_G) (tI tZ tA tJ : ClassId) (b : Nat → Nat) (F S sz : Nat) (tw : Int32) (g : Sg) (x like : Int32) : ob_M l y_T_make w_T_make ({ frames := 3, cells := 0, slots := 0, locals := 66 }) (pW D tI tZ tA tJ [.ref (b 0), .int x, .int like] (tW b F S tI tZ tw g) sz (mm_ok F S g x like)) (ob_qW D vcl none (tW b F S tI tZ tw (m_make F S g x like)) (va_A (tW b F S tI tZ tw g) sz)) 0 0 (va_A (tW b F S tI tZ tw g) sz) := by
  refine ob_ofW (by decide +kernel) ?_
  intro p e s m args below meth c s₁ B hml htab hv
  obtain ⟨rfl, hT, ⟨hg, ha, hx0, hlk⟩, hsz, hP, hD0⟩ := hv
  have hx := B.exec
  have hb := B.bytes
  have hr := B.returns
  have hlocks := B.notSynchronized
  have hown : s.vm.findClass R_T = some m.cls := findClass_of_methodNamed B.named
  have hl := lv_entry ([.ref (b 0), .int x, .int like]) (n := 6) (Nat.le_of_ble_eq_true rfl)
  rw [lg_entry_eq]
  generalize (lg_sl ([.ref (b 0), .int x, .int like]) ++ List.replicate (6 - (lg_sl ([.ref (b 0), .int x, .int like])).length) Slot.unset).toArray = ls at hl ⊢
  have hl : lv_has ls 6 [(0, .ref (b 0)), (1, .int x), (2, .int like)] := hl
  subst hsz
  have hD := hD0.self (sz := s.heap.size)
  generalize hAe : va_A (tW b F S tI tZ tw g) s.heap.size = A at hD ⊢
  have hA : ∀ q : Nat, s.heap.size ≤ q → A q := fun q h => by rw [← hAe]; exact Or.inr h
  have hS : va_S A s.heap s.heap [] := va_S.rf
  refine lv_aload_n hx hb d_T_make_0 rfl (lv_at hl 0 rfl) ?_
  refine lv_iconst (v := -1) hx hb d_T_make_1 (by decide) ?_
  refine ob_callR (v := (some (.int (m_sheetAt (sg_li g) (-1))))) (ob_runV (n := 1) (As := [.int (-1)]) (rest := []) (c_T_sheetAt l D tI tZ tA tJ b F S tw g (-1)) (hT.ok ob_cd_c (by decide +kernel) rfl rfl (Nat.le_of_ble_eq_true rfl) (Nat.le_of_ble_eq_true rfl) kn_T kc_T_sheetAt) hx hb hml hown (hT.w k_T_36) (hT.w ki_T_sheetAt) (hT.w kv_T_sheetAt) (va_recv (q0 := 0) (ci := 2) hT.1 hP rfl rfl) pR.blind (pR.at hT (trivial) hP) rfl rfl hl.1 rfl (lv_room (Nat.le_of_ble_eq_true rfl)) d_T_make_2 ⟨Nat.le_of_ble_eq_true rfl, Nat.le_of_ble_eq_true rfl⟩) ?_
  refine W.eq (g2 := F0 m 5 ls [.int (m_sheetAt (sg_li g) (-1))]) rfl ?_
  refine lv_istore_n (lv' := [(3, .int (m_sheetAt (sg_li g) (-1))), (0, .ref (b 0)), (1, .int x), (2, .int like)]) hx hb d_T_make_5 rfl hl (by decide) rfl (fun ls hl => ?_)
  refine lv_aload_n hx hb d_T_make_6 rfl (lv_at hl 1 rfl) ?_
  refine ob_callW (v := (some (.int ((m_getFrame F S g).1)))) (X := []) (M := tW b F S tI tZ tw g) (M' := tW b F S tI tZ tw ((m_getFrame F S g).2)) (ob_runV (n := 0) (As := []) (rest := []) (c_T_getFrame l D tI tZ tA tJ b F S s.heap.size tw g) (hT.ok ob_cd_c (by decide +kernel) rfl rfl (Nat.le_of_ble_eq_true rfl) (Nat.le_of_ble_eq_true rfl) kn_T kc_T_getFrame) hx hb hml hown (hT.w k_T_56) (hT.w ki_T_getFrame) (hT.w kv_T_getFrame) (va_recv (q0 := 0) (ci := 2) hT.1 hP rfl rfl) pW.blind (pW.at hT (hg) hP hD) rfl rfl hl.1 rfl (lv_room (Nat.le_of_ble_eq_true rfl)) d_T_make_7 ⟨Nat.le_of_ble_eq_true rfl, Nat.le_of_ble_eq_true rfl⟩) hP hD hS hA (fun H locs hP hD hS => ?_)
  have hP : va_P D vcl (tW b F S tI tZ tw ((m_getFrame F S g).2)) H := hP
  have hD : va_D A (tW b F S tI tZ tw ((m_getFrame F S g).2)) := hD
  refine W.eq (g2 := F0 m 10 ls [.int ((m_getFrame F S g).1)]) rfl ?_
  refine lv_istore (lv' := [(4, .int ((m_getFrame F S g).1)), (3, .int (m_sheetAt (sg_li g) (-1))), (0, .ref (b 0)), (1, .int x), (2, .int like)]) hx hb d_T_make_10 hl (by decide) rfl (fun ls hl => ?_)
  refine lv_aload_n hx hb d_T_make_12 rfl (lv_at hl 2 rfl) ?_
  refine va_get (D := D) (ci := 2) (v := .ref (b 2)) hx hb hT.lays ly_T hown hT.1 hP 0 rfl rfl 5 (by decide) (hT.w k_T_13) (fun _ h => h) rfl d_T_make_13 ?_
  refine lv_iload_n hx hb d_T_make_16 rfl (lv_at hl 1 rfl) ?_
  refine lv_iload hx hb d_T_make_17 (lv_at hl 0 rfl) ?_
  refine va_iast hx hb hT.1 hP hD hS 2 0 rfl rfl (ha) d_T_make_19 (fun H locs hP hD hS => ?_)
  have hP : va_P D vcl (tW b F S tI tZ tw (su_li ((m_getFrame F S g).2) (upd (sg_li ((m_getFrame F S g).2)) (ix (m_sheetAt (sg_li g) (-1))) ((m_getFrame F S g).1)))) H := hP
  have hD : va_D A (tW b F S tI tZ tw (su_li ((m_getFrame F S g).2) (upd (sg_li ((m_getFrame F S g).2)) (ix (m_sheetAt (sg_li g) (-1))) ((m_getFrame F S g).1)))) := hD
  refine lv_iconst (v := 0) hx hb d_T_make_20 (by decide) ?_
  refine lv_istore (lv' := [(5, .int 0), (4, .int ((m_getFrame F S g).1)), (3, .int (m_sheetAt (sg_li g) (-1))), (0, .ref (b 0)), (1, .int x), (2, .int like)]) hx hb d_T_make_21 hl (by decide) rfl (fun ls hl => ?_)
  have loop : ∀ (n i : Nat) (q : Nat → Int32) (ls : Array Slot) (H : Heap) (locs : List Loc), i + n = 4 → m_cpw like (m_sheetAt (sg_li g) (-1)) n i q = m_cpw like (m_sheetAt (sg_li g) (-1)) 4 0 (sg_wd (m_getFrame F S g).2) → lv_has ls 6 [(5, .int (nI i)), (4, .int ((m_getFrame F S g).1)), (3, .int (m_sheetAt (sg_li g) (-1))), (0, .ref (b 0)), (1, .int x), (2, .int like)] → va_P D vcl (tW b F S tI tZ tw (su_wd (su_li (m_getFrame F S g).2 (upd (sg_li (m_getFrame F S g).2) (ix (m_sheetAt (sg_li g) (-1))) (m_getFrame F S g).1)) q)) H → va_D A (tW b F S tI tZ tw (su_wd (su_li (m_getFrame F S g).2 (upd (sg_li (m_getFrame F S g).2) (ix (m_sheetAt (sg_li g) (-1))) (m_getFrame F S g).1)) q)) → va_S A s.heap H locs → W p l e ({ frames := 3, cells := 0, slots := 0, locals := 66 } : Room) s m ([.ref (b 0), .int x, .int like] : List Value).toArray below meth c H locs 0 0 (ob_Q below (ob_qW D vcl none (tW b F S tI tZ tw (m_make F S g x like)) A) ([.ref (b 0), .int x, .int like] : List Value).toArray s 0 0 A) (F0 m 23 ls []) := by
    intro n
    induction n with
    | zero =>
      intro i q ls H locs hi hR hl hP hD hS
      refine lv_iload hx hb d_T_make_23 (lv_at hl 0 rfl) ?_
      refine lv_iconst (v := 4) hx hb d_T_make_25 (by decide) ?_
      refine lv_icmp_ge (tgt := 65) hx hb d_T_make_26 (by decide) (fun hc => ?_) (fun hc => absurd (nI_le (a := 4) (by omega) (by omega)) hc)
      have e2 : q = m_cpw like (m_sheetAt (sg_li g) (-1)) 4 0 (sg_wd (m_getFrame F S g).2) := hR
      rw [e2] at hP hD
      refine lv_aload_n hx hb d_T_make_65 rfl (lv_at hl 3 rfl) ?_
      refine va_get (D := D) (ci := 2) (v := .ref (b 5)) hx hb hT.lays ly_T hown hT.1 hP 0 rfl rfl 8 (by decide) (hT.w k_T_23) (fun _ h => h) rfl d_T_make_66 ?_
      refine lv_iload_n hx hb d_T_make_69 rfl (lv_at hl 4 rfl) ?_
      refine lv_iload_n hx hb d_T_make_70 rfl (lv_at hl 2 rfl) ?_
      refine va_iast hx hb hT.1 hP hD hS 5 0 rfl rfl (hx0) d_T_make_71 (fun H locs hP hD hS => ?_)
      have hP : va_P D vcl (tW b F S tI tZ tw (su_pg (su_wd (su_li (m_getFrame F S g).2 (upd (sg_li (m_getFrame F S g).2) (ix (m_sheetAt (sg_li g) (-1))) (m_getFrame F S g).1)) (m_cpw like (m_sheetAt (sg_li g) (-1)) 4 0 (sg_wd (m_getFrame F S g).2))) (upd (sg_pg (m_getFrame F S g).2) (ix x) (m_sheetAt (sg_li g) (-1))))) H := hP
      have hD : va_D A (tW b F S tI tZ tw (su_pg (su_wd (su_li (m_getFrame F S g).2 (upd (sg_li (m_getFrame F S g).2) (ix (m_sheetAt (sg_li g) (-1))) (m_getFrame F S g).1)) (m_cpw like (m_sheetAt (sg_li g) (-1)) 4 0 (sg_wd (m_getFrame F S g).2))) (upd (sg_pg (m_getFrame F S g).2) (ix x) (m_sheetAt (sg_li g) (-1))))) := hD
      refine lv_aload_n hx hb d_T_make_72 rfl (lv_at hl 3 rfl) ?_
      refine lv_dup hx hb d_T_make_73 rfl ?_
      refine va_get (D := D) (ci := 2) (v := .int (sg_fl (su_pg (su_wd (su_li (m_getFrame F S g).2 (upd (sg_li (m_getFrame F S g).2) (ix (m_sheetAt (sg_li g) (-1))) (m_getFrame F S g).1)) (m_cpw like (m_sheetAt (sg_li g) (-1)) 4 0 (sg_wd (m_getFrame F S g).2))) (upd (sg_pg (m_getFrame F S g).2) (ix x) (m_sheetAt (sg_li g) (-1)))))) hx hb hT.lays ly_T hown hT.1 hP 0 rfl rfl 9 (by decide) (hT.w k_T_59) (fun _ h => h) rfl d_T_make_74 ?_
      refine lv_iconst (v := 1) hx hb d_T_make_77 (by decide) ?_
      refine lv_iadd hx hb d_T_make_78 ?_
      refine va_put (D := D) (ci := 2) (v := .int ((sg_fl (m_getFrame F S g).2) + 1)) (ty := .int) hx hb hT.lays ly_T ty_T ty_T_ok n_T hown hT.1 hP hD hS 0 rfl rfl 9 (by decide) (hT.w k_T_59) (fun _ h => h) rfl (by decide +kernel) rfl rfl (Nat.le_of_ble_eq_true rfl) d_T_make_79 (fun H locs hP hD hS => ?_)
      have hP : va_P D vcl (tW b F S tI tZ tw (m_make F S g x like)) H := hP
      have hD : va_D A (tW b F S tI tZ tw (m_make F S g x like)) := hD
      refine ob_vret hlocks hx hb hr d_T_make_82 hS.2.2 (fun t ht hW => ?_)
      exact ⟨rfl, by rw [ht]; exact hP, hD, hS.F ht⟩
    | succ n ih =>
      intro i q ls H locs hi hR hl hP hD hS
      refine lv_iload hx hb d_T_make_23 (lv_at hl 0 rfl) ?_
      refine lv_iconst (v := 4) hx hb d_T_make_25 (by decide) ?_
      refine lv_icmp_ge (tgt := 65) hx hb d_T_make_26 (by decide) (fun hc => absurd hc (nI_ge (b := 4) (by omega) (by omega))) (fun hc => ?_)
      refine lv_aload_n hx hb d_T_make_29 rfl (lv_at hl 3 rfl) ?_
      refine va_get (D := D) (ci := 2) (v := .ref (b 3)) hx hb hT.lays ly_T hown hT.1 hP 0 rfl rfl 6 (by decide) (hT.w k_T_17) (fun _ h => h) rfl d_T_make_30 ?_
      refine lv_iconst (v := 4) hx hb d_T_make_33 (by decide) ?_
      refine lv_iload_n hx hb d_T_make_34 rfl (lv_at hl 2 rfl) ?_
      refine lv_imul hx hb d_T_make_35 ?_
      refine lv_iload hx hb d_T_make_36 (lv_at hl 0 rfl) ?_
      refine lv_iadd hx hb d_T_make_38 ?_
      refine lv_iload_n hx hb d_T_make_39 rfl (lv_at hl 5 rfl) ?_
      refine lv_if_ge (tgt := 47) hx hb d_T_make_40 (by decide) (fun hc => ?_) (fun hc => ?_)
      · have e3 : m_cpw like (m_sheetAt (sg_li g) (-1)) (n + 1) i q = m_cpw like (m_sheetAt (sg_li g) (-1)) n (i + 1) (upd q (ix (4 * (m_sheetAt (sg_li g) (-1)) + nI i)) (q (ix (4 * like + nI i)))) := by show m_cpw like (m_sheetAt (sg_li g) (-1)) n (i + 1) (upd q (ix (4 * (m_sheetAt (sg_li g) (-1)) + nI i)) (if 0 ≤ like then q (ix (4 * like + nI i)) else 0)) = _; rw [if_pos hc]
        rw [e3] at hR
        refine lv_aload_n hx hb d_T_make_47 rfl (lv_at hl 3 rfl) ?_
        refine va_get (D := D) (ci := 2) (v := .ref (b 3)) hx hb hT.lays ly_T hown hT.1 hP 0 rfl rfl 6 (by decide) (hT.w k_T_17) (fun _ h => h) rfl d_T_make_48 ?_
        refine lv_iconst (v := 4) hx hb d_T_make_51 (by decide) ?_
        refine lv_iload_n hx hb d_T_make_52 rfl (lv_at hl 5 rfl) ?_
        refine lv_imul hx hb d_T_make_53 ?_
        refine lv_iload hx hb d_T_make_54 (lv_at hl 0 rfl) ?_
        refine lv_iadd hx hb d_T_make_56 ?_
        refine va_iald hx hb hT.1 hP 3 0 rfl rfl (ix4 (hlk hc) (by omega)) d_T_make_57 ?_
        refine va_iast hx hb hT.1 hP hD hS 3 0 rfl rfl (ix4 ha (by omega)) d_T_make_58 (fun H locs hP hD hS => ?_)
        have hP : va_P D vcl (tW b F S tI tZ tw (su_wd (su_li (m_getFrame F S g).2 (upd (sg_li (m_getFrame F S g).2) (ix (m_sheetAt (sg_li g) (-1))) (m_getFrame F S g).1)) (upd q (ix (4 * (m_sheetAt (sg_li g) (-1)) + nI i)) (q (ix (4 * like + nI i)))))) H := hP
        have hD : va_D A (tW b F S tI tZ tw (su_wd (su_li (m_getFrame F S g).2 (upd (sg_li (m_getFrame F S g).2) (ix (m_sheetAt (sg_li g) (-1))) (m_getFrame F S g).1)) (upd q (ix (4 * (m_sheetAt (sg_li g) (-1)) + nI i)) (q (ix (4 * like + nI i)))))) := hD
        refine lv_iinc (k := 0) (v := nI (i + 1)) (lv' := [(5, .int (nI (i + 1))), (4, .int ((m_getFrame F S g).1)), (3, .int (m_sheetAt (sg_li g) (-1))), (0, .ref (b 0)), (1, .int x), (2, .int like)]) hx hb d_T_make_59 hl rfl (nI_1 i) (by decide) rfl (fun ls hl => ?_)
        refine lv_goto (tgt := 23) hx hb d_T_make_62 (by decide) ?_
        exact ih (i + 1) _ ls H locs (by omega) hR hl hP hD hS
      · have e3 : m_cpw like (m_sheetAt (sg_li g) (-1)) (n + 1) i q = m_cpw like (m_sheetAt (sg_li g) (-1)) n (i + 1) (upd q (ix (4 * (m_sheetAt (sg_li g) (-1)) + nI i)) (0)) := by show m_cpw like (m_sheetAt (sg_li g) (-1)) n (i + 1) (upd q (ix (4 * (m_sheetAt (sg_li g) (-1)) + nI i)) (if 0 ≤ like then q (ix (4 * like + nI i)) else 0)) = _; rw [if_neg hc]
        rw [e3] at hR
        refine lv_iconst (v := 0) hx hb d_T_make_43 (by decide) ?_
        refine lv_goto (tgt := 58) hx hb d_T_make_44 (by decide) ?_
        refine va_iast hx hb hT.1 hP hD hS 3 0 rfl rfl (ix4 ha (by omega)) d_T_make_58 (fun H locs hP hD hS => ?_)
        have hP : va_P D vcl (tW b F S tI tZ tw (su_wd (su_li (m_getFrame F S g).2 (upd (sg_li (m_getFrame F S g).2) (ix (m_sheetAt (sg_li g) (-1))) (m_getFrame F S g).1)) (upd q (ix (4 * (m_sheetAt (sg_li g) (-1)) + nI i)) (0)))) H := hP
        have hD : va_D A (tW b F S tI tZ tw (su_wd (su_li (m_getFrame F S g).2 (upd (sg_li (m_getFrame F S g).2) (ix (m_sheetAt (sg_li g) (-1))) (m_getFrame F S g).1)) (upd q (ix (4 * (m_sheetAt (sg_li g) (-1)) + nI i)) (0)))) := hD
        refine lv_iinc (k := 0) (v := nI (i + 1)) (lv' := [(5, .int (nI (i + 1))), (4, .int ((m_getFrame F S g).1)), (3, .int (m_sheetAt (sg_li g) (-1))), (0, .ref (b 0)), (1, .int x), (2, .int like)]) hx hb d_T_make_59 hl rfl (nI_1 i) (by decide) rfl (fun ls hl => ?_)
        refine lv_goto (tgt := 23) hx hb d_T_make_62 (by decide) ?_
        exact ih (i + 1) _ ls H locs (by omega) hR hl hP hD hS
  exact loop 4 0 (sg_wd (m_getFrame F S g).2) ls H locs rfl rfl hl hP hD hS

set_option maxHeartbeats 4000000 in
set_option maxRecDepth 100000 in
/-- T_bringIn -/
theorem c_T_bringIn (l : Launch) (D : va_G) (tI tZ tA tJ : ClassId) (b : Nat → Nat) (F S sz : Nat) (tw : Int32) (g : Sg) (a : Int32) : ob_M l y_T_bringIn w_T_bringIn ({ frames := 3, cells := 0, slots := 0, locals := 66 }) (pW D tI tZ tA tJ [.ref (b 0), .int a] (tW b F S tI tZ tw g) sz (mb_ok F S g a)) (ob_qW D vcl none (tW b F S tI tZ tw (m_bringIn F S g a)) (va_A (tW b F S tI tZ tw g) sz)) 0 0 (va_A (tW b F S tI tZ tw g) sz) := by
  refine ob_ofW (by decide +kernel) ?_
  intro p e s m args below meth c s₁ B hml htab hv
  obtain ⟨rfl, hT, ⟨ha, hq⟩, hsz, hP, hD0⟩ := hv
  have hx := B.exec
  have hb := B.bytes
  have hr := B.returns
  have hlocks := B.notSynchronized
  have hown : s.vm.findClass R_T = some m.cls := findClass_of_methodNamed B.named
  have hl := lv_entry ([.ref (b 0), .int a]) (n := 3) (Nat.le_of_ble_eq_true rfl)
  rw [lg_entry_eq]
  generalize (lg_sl ([.ref (b 0), .int a]) ++ List.replicate (3 - (lg_sl ([.ref (b 0), .int a])).length) Slot.unset).toArray = ls at hl ⊢
  have hl : lv_has ls 3 [(0, .ref (b 0)), (1, .int a)] := hl
  subst hsz
  have hD := hD0.self (sz := s.heap.size)
  generalize hAe : va_A (tW b F S tI tZ tw g) s.heap.size = A at hD ⊢
  have hA : ∀ q : Nat, s.heap.size ≤ q → A q := fun q h => by rw [← hAe]; exact Or.inr h
  have hS : va_S A s.heap s.heap [] := va_S.rf
  refine lv_aload_n hx hb d_T_bringIn_0 rfl (lv_at hl 0 rfl) ?_
  refine va_get (D := D) (ci := 2) (v := .ref (b 2)) hx hb hT.lays ly_T hown hT.1 hP 0 rfl rfl 5 (by decide) (hT.w k_T_13) (fun _ h => h) rfl d_T_bringIn_1 ?_
  refine lv_iload_n hx hb d_T_bringIn_4 rfl (lv_at hl 1 rfl) ?_
  refine va_iald hx hb hT.1 hP 2 0 rfl rfl (ha) d_T_bringIn_5 ?_
  refine lv_bipush (v := 100) hx hb d_T_bringIn_6 (by decide) ?_
  refine lv_icmp_lt (tgt := 40) hx hb d_T_bringIn_8 (by decide) (fun hc => ?_) (fun hc => ?_)
  · have e1 : m_bringIn F S g a = g := if_pos hc
    rw [e1]
    refine ob_vret hlocks hx hb hr d_T_bringIn_40 hS.2.2 (fun t ht hW => ?_)
    exact ⟨rfl, by rw [ht]; exact hP, hD, hS.F ht⟩
  · have e1 : m_bringIn F S g a = su_fl (su_li (m_getFrame F S (su_li g (upd (sg_li g) (ix a) (-1)))).2 (upd (sg_li (m_getFrame F S (su_li g (upd (sg_li g) (ix a) (-1)))).2) (ix a) (m_getFrame F S (su_li g (upd (sg_li g) (ix a) (-1)))).1)) (sg_fl (m_getFrame F S (su_li g (upd (sg_li g) (ix a) (-1)))).2 + 1) := if_neg hc
    rw [e1]
    refine lv_aload_n hx hb d_T_bringIn_11 rfl (lv_at hl 0 rfl) ?_
    refine va_get (D := D) (ci := 2) (v := .ref (b 2)) hx hb hT.lays ly_T hown hT.1 hP 0 rfl rfl 5 (by decide) (hT.w k_T_13) (fun _ h => h) rfl d_T_bringIn_12 ?_
    refine lv_iload_n hx hb d_T_bringIn_15 rfl (lv_at hl 1 rfl) ?_
    refine lv_iconst (v := -1) hx hb d_T_bringIn_16 (by decide) ?_
    refine va_iast hx hb hT.1 hP hD hS 2 0 rfl rfl (ha) d_T_bringIn_17 (fun H locs hP hD hS => ?_)
    have hP : va_P D vcl (tW b F S tI tZ tw (su_li g (upd (sg_li g) (ix a) (-1)))) H := hP
    have hD : va_D A (tW b F S tI tZ tw (su_li g (upd (sg_li g) (ix a) (-1)))) := hD
    refine lv_aload_n hx hb d_T_bringIn_18 rfl (lv_at hl 0 rfl) ?_
    refine ob_callW (v := (some (.int ((m_getFrame F S (su_li g (upd (sg_li g) (ix a) (-1)))).1)))) (X := []) (M := tW b F S tI tZ tw (su_li g (upd (sg_li g) (ix a) (-1)))) (M' := tW b F S tI tZ tw ((m_getFrame F S (su_li g (upd (sg_li g) (ix a) (-1)))).2)) (ob_runV (n := 0) (As := []) (rest := []) (c_T_getFrame l D tI tZ tA tJ b F S H.size tw (su_li g (upd (sg_li g) (ix a) (-1)))) (hT.ok ob_cd_c (by decide +kernel) rfl rfl (Nat.le_of_ble_eq_true rfl) (Nat.le_of_ble_eq_true rfl) kn_T kc_T_getFrame) hx hb hml hown (hT.w k_T_56) (hT.w ki_T_getFrame) (hT.w kv_T_getFrame) (va_recv (q0 := 0) (ci := 2) hT.1 hP rfl rfl) pW.blind (pW.at hT (hq hc) hP hD) rfl rfl hl.1 rfl (lv_room (Nat.le_of_ble_eq_true rfl)) d_T_bringIn_19 ⟨Nat.le_of_ble_eq_true rfl, Nat.le_of_ble_eq_true rfl⟩) hP hD hS hA (fun H locs hP hD hS => ?_)
    have hP : va_P D vcl (tW b F S tI tZ tw ((m_getFrame F S (su_li g (upd (sg_li g) (ix a) (-1)))).2)) H := hP
    have hD : va_D A (tW b F S tI tZ tw ((m_getFrame F S (su_li g (upd (sg_li g) (ix a) (-1)))).2)) := hD
    refine W.eq (g2 := F0 m 22 ls [.int ((m_getFrame F S (su_li g (upd (sg_li g) (ix a) (-1)))).1)]) rfl ?_
    refine lv_istore_n (lv' := [(2, .int ((m_getFrame F S (su_li g (upd (sg_li g) (ix a) (-1)))).1)), (0, .ref (b 0)), (1, .int a)]) hx hb d_T_bringIn_22 rfl hl (by decide) rfl (fun ls hl => ?_)
    refine lv_aload_n hx hb d_T_bringIn_23 rfl (lv_at hl 1 rfl) ?_
    refine va_get (D := D) (ci := 2) (v := .ref (b 2)) hx hb hT.lays ly_T hown hT.1 hP 0 rfl rfl 5 (by decide) (hT.w k_T_13) (fun _ h => h) rfl d_T_bringIn_24 ?_
    refine lv_iload_n hx hb d_T_bringIn_27 rfl (lv_at hl 2 rfl) ?_
    refine lv_iload_n hx hb d_T_bringIn_28 rfl (lv_at hl 0 rfl) ?_
    refine va_iast hx hb hT.1 hP hD hS 2 0 rfl rfl (ha) d_T_bringIn_29 (fun H locs hP hD hS => ?_)
    have hP : va_P D vcl (tW b F S tI tZ tw (su_li ((m_getFrame F S (su_li g (upd (sg_li g) (ix a) (-1)))).2) (upd (sg_li ((m_getFrame F S (su_li g (upd (sg_li g) (ix a) (-1)))).2)) (ix a) ((m_getFrame F S (su_li g (upd (sg_li g) (ix a) (-1)))).1)))) H := hP
    have hD : va_D A (tW b F S tI tZ tw (su_li ((m_getFrame F S (su_li g (upd (sg_li g) (ix a) (-1)))).2) (upd (sg_li ((m_getFrame F S (su_li g (upd (sg_li g) (ix a) (-1)))).2)) (ix a) ((m_getFrame F S (su_li g (upd (sg_li g) (ix a) (-1)))).1)))) := hD
    refine lv_aload_n hx hb d_T_bringIn_30 rfl (lv_at hl 1 rfl) ?_
    refine lv_dup hx hb d_T_bringIn_31 rfl ?_
    refine va_get (D := D) (ci := 2) (v := .int (sg_fl (su_li ((m_getFrame F S (su_li g (upd (sg_li g) (ix a) (-1)))).2) (upd (sg_li ((m_getFrame F S (su_li g (upd (sg_li g) (ix a) (-1)))).2)) (ix a) ((m_getFrame F S (su_li g (upd (sg_li g) (ix a) (-1)))).1))))) hx hb hT.lays ly_T hown hT.1 hP 0 rfl rfl 9 (by decide) (hT.w k_T_59) (fun _ h => h) rfl d_T_bringIn_32 ?_
    refine lv_iconst (v := 1) hx hb d_T_bringIn_35 (by decide) ?_
    refine lv_iadd hx hb d_T_bringIn_36 ?_
    refine va_put (D := D) (ci := 2) (v := .int ((sg_fl (m_getFrame F S (su_li g (upd (sg_li g) (ix a) (-1)))).2) + 1)) (ty := .int) hx hb hT.lays ly_T ty_T ty_T_ok n_T hown hT.1 hP hD hS 0 rfl rfl 9 (by decide) (hT.w k_T_59) (fun _ h => h) rfl (by decide +kernel) rfl rfl (Nat.le_of_ble_eq_true rfl) d_T_bringIn_37 (fun H locs hP hD hS => ?_)
    have hP : va_P D vcl (tW b F S tI tZ tw (su_fl (su_li ((m_getFrame F S (su_li g (upd (sg_li g) (ix a) (-1)))).2) (upd (sg_li ((m_getFrame F S (su_li g (upd (sg_li g) (ix a) (-1)))).2)) (ix a) ((m_getFrame F S (su_li g (upd (sg_li g) (ix a) (-1)))).1))) ((sg_fl (m_getFrame F S (su_li g (upd (sg_li g) (ix a) (-1)))).2) + 1))) H := hP
    have hD : va_D A (tW b F S tI tZ tw (su_fl (su_li ((m_getFrame F S (su_li g (upd (sg_li g) (ix a) (-1)))).2) (upd (sg_li ((m_getFrame F S (su_li g (upd (sg_li g) (ix a) (-1)))).2)) (ix a) ((m_getFrame F S (su_li g (upd (sg_li g) (ix a) (-1)))).1))) ((sg_fl (m_getFrame F S (su_li g (upd (sg_li g) (ix a) (-1)))).2) + 1))) := hD
    refine ob_vret hlocks hx hb hr d_T_bringIn_40 hS.2.2 (fun t ht hW => ?_)
    exact ⟨rfl, by rw [ht]; exact hP, hD, hS.F ht⟩

set_option maxHeartbeats 4000000 in
set_option maxRecDepth 100000 in
/-- T_empty -/
theorem c_T_empty (l : Launch) (D : va_G) (tI tZ tA tJ : ClassId) (b : Nat → Nat) (F S sz : Nat) (tw : Int32) (g : Sg) (x : Int32) : ob_M l y_T_empty w_T_empty ({ frames := 1, cells := 0, slots := 0, locals := 23 }) (pW D tI tZ tA tJ [.ref (b 0), .int x] (tW b F S tI tZ tw g) sz (me_ok g x)) (ob_qW D vcl (some (.int ((m_empty g x).1))) (tW b F S tI tZ tw ((m_empty g x).2)) (va_A (tW b F S tI tZ tw g) sz)) 0 0 (va_A (tW b F S tI tZ tw g) sz) := by
  refine ob_ofW (by decide +kernel) ?_
  intro p e s m args below meth c s₁ B hml htab hv
  obtain ⟨rfl, hT, ⟨hx0, hq⟩, hsz, hP, hD0⟩ := hv
  have hx := B.exec
  have hb := B.bytes
  have hr := B.returns
  have hlocks := B.notSynchronized
  have hown : s.vm.findClass R_T = some m.cls := findClass_of_methodNamed B.named
  have hl := lv_entry ([.ref (b 0), .int x]) (n := 3) (Nat.le_of_ble_eq_true rfl)
  rw [lg_entry_eq]
  generalize (lg_sl ([.ref (b 0), .int x]) ++ List.replicate (3 - (lg_sl ([.ref (b 0), .int x])).length) Slot.unset).toArray = ls at hl ⊢
  have hl : lv_has ls 3 [(0, .ref (b 0)), (1, .int x)] := hl
  subst hsz
  have hD := hD0.self (sz := s.heap.size)
  generalize hAe : va_A (tW b F S tI tZ tw g) s.heap.size = A at hD ⊢
  have hA : ∀ q : Nat, s.heap.size ≤ q → A q := fun q h => by rw [← hAe]; exact Or.inr h
  have hS : va_S A s.heap s.heap [] := va_S.rf
  refine lv_aload_n hx hb d_T_empty_0 rfl (lv_at hl 0 rfl) ?_
  refine va_get (D := D) (ci := 2) (v := .ref (b 5)) hx hb hT.lays ly_T hown hT.1 hP 0 rfl rfl 8 (by decide) (hT.w k_T_23) (fun _ h => h) rfl d_T_empty_1 ?_
  refine lv_iload_n hx hb d_T_empty_4 rfl (lv_at hl 1 rfl) ?_
  refine va_iald hx hb hT.1 hP 5 0 rfl rfl (hx0) d_T_empty_5 ?_
  refine lv_istore_n (lv' := [(2, .int ((sg_pg g) (ix x))), (0, .ref (b 0)), (1, .int x)]) hx hb d_T_empty_6 rfl hl (by decide) rfl (fun ls hl => ?_)
  refine lv_aload_n hx hb d_T_empty_7 rfl (lv_at hl 1 rfl) ?_
  refine va_get (D := D) (ci := 2) (v := .ref (b 5)) hx hb hT.lays ly_T hown hT.1 hP 0 rfl rfl 8 (by decide) (hT.w k_T_23) (fun _ h => h) rfl d_T_empty_8 ?_
  refine lv_iload_n hx hb d_T_empty_11 rfl (lv_at hl 2 rfl) ?_
  refine lv_iconst (v := -1) hx hb d_T_empty_12 (by decide) ?_
  refine va_iast hx hb hT.1 hP hD hS 5 0 rfl rfl (hx0) d_T_empty_13 (fun H locs hP hD hS => ?_)
  have hP : va_P D vcl (tW b F S tI tZ tw (su_pg g (upd (sg_pg g) (ix x) (-1)))) H := hP
  have hD : va_D A (tW b F S tI tZ tw (su_pg g (upd (sg_pg g) (ix x) (-1)))) := hD
  refine lv_iload_n hx hb d_T_empty_14 rfl (lv_at hl 0 rfl) ?_
  refine lv_if_lt (tgt := 26) hx hb d_T_empty_15 (by decide) (fun hc => ?_) (fun hc => ?_)
  · have e1 : m_empty g x = (0, su_pg g (upd (sg_pg g) (ix x) (-1))) := if_pos hc
    rw [e1]
    refine lv_iconst (v := 0) hx hb d_T_empty_26 (by decide) ?_
    refine ob_zret hlocks hx hb hr d_T_empty_27 (rfl) hS.2.2 (fun t ht hW => ?_)
    exact ⟨rfl, by rw [ht]; exact hP, hD, hS.F ht⟩
  · have hc0 := hc
    refine lv_aload_n hx hb d_T_empty_18 rfl (lv_at hl 1 rfl) ?_
    refine lv_iload_n hx hb d_T_empty_19 rfl (lv_at hl 0 rfl) ?_
    refine ob_callR (v := (some (.int (m_owners (upd (sg_pg g) (ix x) (-1)) (sg_pg g (ix x)))))) (ob_runV (n := 1) (As := [.int (sg_pg g (ix x))]) (rest := []) (c_T_owners l D tI tZ tA tJ b F S tw (su_pg g (upd (sg_pg g) (ix x) (-1))) (sg_pg g (ix x))) (hT.ok ob_cd_c (by decide +kernel) rfl rfl (Nat.le_of_ble_eq_true rfl) (Nat.le_of_ble_eq_true rfl) kn_T kc_T_owners) hx hb hml hown (hT.w k_T_62) (hT.w ki_T_owners) (hT.w kv_T_owners) (va_recv (q0 := 0) (ci := 2) hT.1 hP rfl rfl) pR.blind (pR.at hT (trivial) hP) rfl rfl hl.1 rfl (lv_room (Nat.le_of_ble_eq_true rfl)) d_T_empty_20 ⟨Nat.le_of_ble_eq_true rfl, Nat.le_of_ble_eq_true rfl⟩) ?_
    refine W.eq (g2 := F0 m 23 ls [.int (m_owners (upd (sg_pg g) (ix x) (-1)) (sg_pg g (ix x)))]) rfl ?_
    refine lv_if_le (tgt := 28) hx hb d_T_empty_23 (by decide) (fun hc => ?_) (fun hc => ?_)
    · obtain ⟨ha, hl8⟩ := hq hc0 hc
      have e1 : m_empty g x = (1, m_emp g x (sg_pg g (ix x))) := by unfold m_empty; rw [if_neg hc0, if_pos hc]
      rw [e1]
      unfold m_emp
      refine lv_aload_n hx hb d_T_empty_28 rfl (lv_at hl 1 rfl) ?_
      refine va_get (D := D) (ci := 2) (v := .ref (b 2)) hx hb hT.lays ly_T hown hT.1 hP 0 rfl rfl 5 (by decide) (hT.w k_T_13) (fun _ h => h) rfl d_T_empty_29 ?_
      refine lv_iload_n hx hb d_T_empty_32 rfl (lv_at hl 0 rfl) ?_
      refine va_iald hx hb hT.1 hP 2 0 rfl rfl (ha) d_T_empty_33 ?_
      refine lv_bipush (v := 100) hx hb d_T_empty_34 (by decide) ?_
      refine lv_icmp_ge (tgt := 51) hx hb d_T_empty_36 (by decide) (fun hc => ?_) (fun hc => ?_)
      · rw [if_pos hc]
        refine lv_aload_n hx hb d_T_empty_51 rfl (lv_at hl 1 rfl) ?_
        refine va_get (D := D) (ci := 2) (v := .ref (b 2)) hx hb hT.lays ly_T hown hT.1 hP 0 rfl rfl 5 (by decide) (hT.w k_T_13) (fun _ h => h) rfl d_T_empty_52 ?_
        refine lv_iload_n hx hb d_T_empty_55 rfl (lv_at hl 0 rfl) ?_
        refine lv_iconst (v := -1) hx hb d_T_empty_56 (by decide) ?_
        refine va_iast hx hb hT.1 hP hD hS 2 0 rfl rfl (ha) d_T_empty_57 (fun H locs hP hD hS => ?_)
        have hP : va_P D vcl (tW b F S tI tZ tw (su_li (su_pg g (upd (sg_pg g) (ix x) (-1))) (upd (sg_li (su_pg g (upd (sg_pg g) (ix x) (-1)))) (ix ((sg_pg g) (ix x))) (-1)))) H := hP
        have hD : va_D A (tW b F S tI tZ tw (su_li (su_pg g (upd (sg_pg g) (ix x) (-1))) (upd (sg_li (su_pg g (upd (sg_pg g) (ix x) (-1)))) (ix ((sg_pg g) (ix x))) (-1)))) := hD
        refine lv_iconst (v := 1) hx hb d_T_empty_58 (by decide) ?_
        refine ob_zret hlocks hx hb hr d_T_empty_59 (rfl) hS.2.2 (fun t ht hW => ?_)
        exact ⟨rfl, by rw [ht]; exact hP, hD, hS.F ht⟩
      · rw [if_neg hc]
        refine lv_aload_n hx hb d_T_empty_39 rfl (lv_at hl 1 rfl) ?_
        refine va_get (D := D) (ci := 2) (v := .ref (b 1)) hx hb hT.lays ly_T hown hT.1 hP 0 rfl rfl 3 (by decide) (hT.w k_T_7) (fun _ h => h) rfl d_T_empty_40 ?_
        refine lv_aload_n hx hb d_T_empty_43 rfl (lv_at hl 1 rfl) ?_
        refine va_get (D := D) (ci := 2) (v := .ref (b 2)) hx hb hT.lays ly_T hown hT.1 hP 0 rfl rfl 5 (by decide) (hT.w k_T_13) (fun _ h => h) rfl d_T_empty_44 ?_
        refine lv_iload_n hx hb d_T_empty_47 rfl (lv_at hl 0 rfl) ?_
        refine va_iald hx hb hT.1 hP 2 0 rfl rfl (ha) d_T_empty_48 ?_
        refine lv_iconst (v := 0) hx hb d_T_empty_49 (by decide) ?_
        refine va_zast hx hb hT.1 hP hD hS 1 1 rfl rfl (hl8 hc) d_T_empty_50 (fun H locs hP hD hS => ?_)
        rw [nar0] at hP hD
        have hP : va_P D vcl (tW b F S tI tZ tw (su_mk (su_pg g (upd (sg_pg g) (ix x) (-1))) (upd (sg_mk (su_pg g (upd (sg_pg g) (ix x) (-1)))) (ix (sg_li g (ix (sg_pg g (ix x))))) 0))) H := hP
        have hD : va_D A (tW b F S tI tZ tw (su_mk (su_pg g (upd (sg_pg g) (ix x) (-1))) (upd (sg_mk (su_pg g (upd (sg_pg g) (ix x) (-1)))) (ix (sg_li g (ix (sg_pg g (ix x))))) 0))) := hD
        refine lv_aload_n hx hb d_T_empty_51 rfl (lv_at hl 1 rfl) ?_
        refine va_get (D := D) (ci := 2) (v := .ref (b 2)) hx hb hT.lays ly_T hown hT.1 hP 0 rfl rfl 5 (by decide) (hT.w k_T_13) (fun _ h => h) rfl d_T_empty_52 ?_
        refine lv_iload_n hx hb d_T_empty_55 rfl (lv_at hl 0 rfl) ?_
        refine lv_iconst (v := -1) hx hb d_T_empty_56 (by decide) ?_
        refine va_iast hx hb hT.1 hP hD hS 2 0 rfl rfl (ha) d_T_empty_57 (fun H locs hP hD hS => ?_)
        have hP : va_P D vcl (tW b F S tI tZ tw (su_li (su_mk (su_pg g (upd (sg_pg g) (ix x) (-1))) (upd (sg_mk (su_pg g (upd (sg_pg g) (ix x) (-1)))) (ix (sg_li g (ix (sg_pg g (ix x))))) 0)) (upd (sg_li (su_mk (su_pg g (upd (sg_pg g) (ix x) (-1))) (upd (sg_mk (su_pg g (upd (sg_pg g) (ix x) (-1)))) (ix (sg_li g (ix (sg_pg g (ix x))))) 0))) (ix ((sg_pg g) (ix x))) (-1)))) H := hP
        have hD : va_D A (tW b F S tI tZ tw (su_li (su_mk (su_pg g (upd (sg_pg g) (ix x) (-1))) (upd (sg_mk (su_pg g (upd (sg_pg g) (ix x) (-1)))) (ix (sg_li g (ix (sg_pg g (ix x))))) 0)) (upd (sg_li (su_mk (su_pg g (upd (sg_pg g) (ix x) (-1))) (upd (sg_mk (su_pg g (upd (sg_pg g) (ix x) (-1)))) (ix (sg_li g (ix (sg_pg g (ix x))))) 0))) (ix ((sg_pg g) (ix x))) (-1)))) := hD
        refine lv_iconst (v := 1) hx hb d_T_empty_58 (by decide) ?_
        refine ob_zret hlocks hx hb hr d_T_empty_59 (rfl) hS.2.2 (fun t ht hW => ?_)
        exact ⟨rfl, by rw [ht]; exact hP, hD, hS.F ht⟩
    · have e1 : m_empty g x = (0, su_pg g (upd (sg_pg g) (ix x) (-1))) := by unfold m_empty; rw [if_neg hc0, if_neg hc]
      rw [e1]
      refine lv_iconst (v := 0) hx hb d_T_empty_26 (by decide) ?_
      refine ob_zret hlocks hx hb hr d_T_empty_27 (rfl) hS.2.2 (fun t ht hW => ?_)
      exact ⟨rfl, by rw [ht]; exact hP, hD, hS.F ht⟩
end
section
theorem m_lowP_or (th : Nat → Int32) : ∀ (n i : Nat), m_lowP th n i = -1 ∨ ∃ j, i ≤ j ∧ j < i + n ∧ m_lowP th n i = nI j ∧ th j = 0
  | 0, _ => Or.inl rfl
  | n + 1, i => by
    by_cases h : th i = 0
    · exact Or.inr ⟨i, Nat.le_refl _, by omega, if_pos h, h⟩
    · have e : m_lowP th (n + 1) i = m_lowP th n (i + 1) := if_neg h
      rw [e]
      rcases m_lowP_or th n (i + 1) with h1 | ⟨j, a, b, c, d⟩
      · exact Or.inl h1
      · exact Or.inr ⟨j, by omega, by omega, c, d⟩
theorem m_lowP_in {th : Nat → Int32} (h : 0 ≤ m_lowP th 6 0) : vp_in (m_lowP th 6 0) 6 := by
  rcases m_lowP_or th 6 0 with h1 | ⟨j, -, b, c, -⟩
  · rw [h1] at h; exact absurd h (by decide)
  · rw [c]; exact vp_in_nI (by omega) (by omega)
theorem m_isP_in {th : Nat → Int32} {p : Int32} (h : ¬ m_isP th p = 0) : vp_in p 6 := by
  unfold m_isP at h
  by_cases h1 : p < 0
  · rw [if_pos h1] at h; exact absurd rfl h
  · rw [if_neg h1] at h
    by_cases h2 : 6 ≤ p
    · rw [if_pos h2] at h; exact absurd rfl h
    · obtain ⟨j, hj, e, -⟩ := pk_mu (L := 6) h1 h2 (by omega)
      rw [e]; exact vp_in_nI hj (by omega)
theorem ix6 {p : Int32} {i : Nat} (ha : vp_in p 6) (hi : i < 6) : vp_in (6 * p + nI i) 36 := by
  obtain ⟨j, hj, rfl⟩ := vp_in_of ha (by omega)
  have e : (6 : Int32) * nI j + nI i = nI (6 * j + i) := by rw [show (6 : Int32) = nI 6 from rfl, pk_mul, nI_add]
  rw [e]
  exact vp_in_nI (by omega) (by omega)
theorem ix6' {p x : Int32} (ha : vp_in p 6) (hx : vp_in x 6) : vp_in (6 * p + x) 36 := by
  obtain ⟨i, hi, rfl⟩ := vp_in_of hx (by omega)
  exact ix6 ha hi
def ml_ok (F S : Nat) (s : Sg) (p a : Int32) : Prop := vp_in (6 * p + a / 4) 36 ∧ (0 ≤ sg_pg s (ix (6 * p + a / 4)) → mb_ok F S s (sg_pg s (ix (6 * p + a / 4))) ∧ vp_in (sg_pg s (ix (6 * p + a / 4))) 18 ∧ vp_in (sg_li (m_bringIn F S s (sg_pg s (ix (6 * p + a / 4)))) (ix (sg_pg s (ix (6 * p + a / 4))))) 8 ∧ vp_in (4 * sg_pg s (ix (6 * p + a / 4)) + (a - a / 4 * 4)) 72)
def ms_ok (F S : Nat) (s : Sg) (p a : Int32) : Prop := vp_in (6 * p + a / 4) 36 ∧ (m_needs (sg_pg s) p a = 0 → mb_ok F S s (sg_pg s (ix (6 * p + a / 4)))) ∧ (¬ m_needs (sg_pg s) p a = 0 → mm_ok F S s (6 * p + a / 4) (sg_pg s (ix (6 * p + a / 4)))) ∧
  vp_in (sg_pg (m_sto1 F S s p a) (ix (6 * p + a / 4))) 18 ∧ vp_in (sg_li (m_sto1 F S s p a) (ix (sg_pg (m_sto1 F S s p a) (ix (6 * p + a / 4))))) 8 ∧ vp_in (4 * sg_pg (m_sto1 F S s p a) (ix (6 * p + a / 4)) + (a - a / 4 * 4)) 72
def mx_ok (p : Int32) : Nat → Nat → Sg → Prop
  | 0, _, _ => True
  | n + 1, g, s => me_ok s (6 * p + nI g) ∧ mx_ok p n (g + 1) (m_empty s (6 * p + nI g)).2

set_option maxHeartbeats 4000000 in
set_option maxRecDepth 100000 in
/-- T_spawn -/
theorem c_T_spawn (l : Launch) (D : va_G) (tI tZ tA tJ : ClassId) (b : Nat → Nat) (F S sz : Nat) (tw : Int32) (g : Sg)  : ob_M l y_T_spawn w_T_spawn ({ frames := 1, cells := 0, slots := 0, locals := 21 }) (pW D tI tZ tA tJ [.ref (b 0)] (tW b F S tI tZ tw g) sz (True)) (ob_qW D vcl (some (.int ((m_spawn g).1))) (tW b F S tI tZ ((m_spawn g).2.1) ((m_spawn g).2.2)) (va_A (tW b F S tI tZ tw g) sz)) 0 0 (va_A (tW b F S tI tZ tw g) sz) := by
  refine ob_ofW (by decide +kernel) ?_
  intro p e s m args below meth c s₁ B hml htab hv
  obtain ⟨rfl, hT, -, hsz, hP, hD0⟩ := hv
  have hx := B.exec
  have hb := B.bytes
  have hr := B.returns
  have hlocks := B.notSynchronized
  have hown : s.vm.findClass R_T = some m.cls := findClass_of_methodNamed B.named
  have hl := lv_entry ([.ref (b 0)]) (n := 2) (Nat.le_of_ble_eq_true rfl)
  rw [lg_entry_eq]
  generalize (lg_sl ([.ref (b 0)]) ++ List.replicate (2 - (lg_sl ([.ref (b 0)])).length) Slot.unset).toArray = ls at hl ⊢
  have hl : lv_has ls 2 [(0, .ref (b 0))] := hl
  subst hsz
  have hD := hD0.self (sz := s.heap.size)
  generalize hAe : va_A (tW b F S tI tZ tw g) s.heap.size = A at hD ⊢
  have hA : ∀ q : Nat, s.heap.size ≤ q → A q := fun q h => by rw [← hAe]; exact Or.inr h
  have hS : va_S A s.heap s.heap [] := va_S.rf
  refine lv_aload_n hx hb d_T_spawn_0 rfl (lv_at hl 0 rfl) ?_
  refine ob_callR (v := (some (.int (m_lowP (sg_th g) 6 0)))) (ob_runV (n := 0) (As := []) (rest := []) (c_T_lowestProcess l D tI tZ tA tJ b F S tw g) (hT.ok ob_cd_c (by decide +kernel) rfl rfl (Nat.le_of_ble_eq_true rfl) (Nat.le_of_ble_eq_true rfl) kn_T kc_T_lowestProcess) hx hb hml hown (hT.w k_T_65) (hT.w ki_T_lowestProcess) (hT.w kv_T_lowestProcess) (va_recv (q0 := 0) (ci := 2) hT.1 hP rfl rfl) pR.blind (pR.at hT (trivial) hP) rfl rfl hl.1 rfl (lv_room (Nat.le_of_ble_eq_true rfl)) d_T_spawn_1 ⟨Nat.le_of_ble_eq_true rfl, Nat.le_of_ble_eq_true rfl⟩) ?_
  refine W.eq (g2 := F0 m 4 ls [.int (m_lowP (sg_th g) 6 0)]) rfl ?_
  refine lv_istore_n (lv' := [(1, .int (m_lowP (sg_th g) 6 0)), (0, .ref (b 0))]) hx hb d_T_spawn_4 rfl hl (by decide) rfl (fun ls hl => ?_)
  refine lv_aload_n hx hb d_T_spawn_5 rfl (lv_at hl 1 rfl) ?_
  refine lv_iload_n hx hb d_T_spawn_6 rfl (lv_at hl 0 rfl) ?_
  refine lv_if_ge (tgt := 14) hx hb d_T_spawn_7 (by decide) (fun hc => ?_) (fun hc => ?_)
  · have e1 : m_spawn g = (m_lowP (sg_th g) 6 0, 0, su_th g (upd (sg_th g) (ix (m_lowP (sg_th g) 6 0)) 1)) := if_pos hc
    rw [e1]
    have hin := m_lowP_in hc
    refine lv_iconst (v := 0) hx hb d_T_spawn_14 (by decide) ?_
    refine va_put (D := D) (ci := 2) (v := .int 0) (ty := .int) hx hb hT.lays ly_T ty_T ty_T_ok n_T hown hT.1 hP hD hS 0 rfl rfl 0 (by decide) (hT.w k_T_33) (fun _ h => h) rfl (by decide +kernel) rfl rfl (Nat.le_of_ble_eq_true rfl) d_T_spawn_15 (fun H locs hP hD hS => ?_)
    have hP : va_P D vcl (tW b F S tI tZ 0 g) H := hP
    have hD : va_D A (tW b F S tI tZ 0 g) := hD
    refine lv_aload_n hx hb d_T_spawn_18 rfl (lv_at hl 1 rfl) ?_
    refine va_get (D := D) (ci := 2) (v := .int 0) hx hb hT.lays ly_T hown hT.1 hP 0 rfl rfl 0 (by decide) (hT.w k_T_33) (fun _ h => h) rfl d_T_spawn_19 ?_
    refine lv_if_le (tgt := 27) hx hb d_T_spawn_22 (by decide) (fun hc => ?_) (fun hc => absurd (by decide) hc)
    refine lv_aload_n hx hb d_T_spawn_27 rfl (lv_at hl 1 rfl) ?_
    refine va_get (D := D) (ci := 2) (v := .ref (b 4)) hx hb hT.lays ly_T hown hT.1 hP 0 rfl rfl 7 (by decide) (hT.w k_T_20) (fun _ h => h) rfl d_T_spawn_28 ?_
    refine lv_iload_n hx hb d_T_spawn_31 rfl (lv_at hl 0 rfl) ?_
    refine lv_iconst (v := 1) hx hb d_T_spawn_32 (by decide) ?_
    refine va_zast hx hb hT.1 hP hD hS 4 1 rfl rfl (hin) d_T_spawn_33 (fun H locs hP hD hS => ?_)
    rw [nar1] at hP hD
    have hP : va_P D vcl (tW b F S tI tZ 0 (su_th g (upd (sg_th g) (ix (m_lowP (sg_th g) 6 0)) 1))) H := hP
    have hD : va_D A (tW b F S tI tZ 0 (su_th g (upd (sg_th g) (ix (m_lowP (sg_th g) 6 0)) 1))) := hD
    refine lv_iload_n hx hb d_T_spawn_34 rfl (lv_at hl 0 rfl) ?_
    refine ob_iret hlocks hx hb hr d_T_spawn_35 hS.2.2 (fun t ht hW => ?_)
    exact ⟨rfl, by rw [ht]; exact hP, hD, hS.F ht⟩
  · have e1 : m_spawn g = (0, 1, g) := if_neg hc
    rw [e1]
    refine lv_iconst (v := 1) hx hb d_T_spawn_10 (by decide) ?_
    refine lv_goto (tgt := 15) hx hb d_T_spawn_11 (by decide) ?_
    refine va_put (D := D) (ci := 2) (v := .int 1) (ty := .int) hx hb hT.lays ly_T ty_T ty_T_ok n_T hown hT.1 hP hD hS 0 rfl rfl 0 (by decide) (hT.w k_T_33) (fun _ h => h) rfl (by decide +kernel) rfl rfl (Nat.le_of_ble_eq_true rfl) d_T_spawn_15 (fun H locs hP hD hS => ?_)
    have hP : va_P D vcl (tW b F S tI tZ 1 g) H := hP
    have hD : va_D A (tW b F S tI tZ 1 g) := hD
    refine lv_aload_n hx hb d_T_spawn_18 rfl (lv_at hl 1 rfl) ?_
    refine va_get (D := D) (ci := 2) (v := .int 1) hx hb hT.lays ly_T hown hT.1 hP 0 rfl rfl 0 (by decide) (hT.w k_T_33) (fun _ h => h) rfl d_T_spawn_19 ?_
    refine lv_if_le (tgt := 27) hx hb d_T_spawn_22 (by decide) (fun hc => absurd hc (by decide)) (fun hc => ?_)
    refine lv_iconst (v := 0) hx hb d_T_spawn_25 (by decide) ?_
    refine ob_iret hlocks hx hb hr d_T_spawn_26 hS.2.2 (fun t ht hW => ?_)
    exact ⟨rfl, by rw [ht]; exact hP, hD, hS.F ht⟩

set_option maxHeartbeats 4000000 in
set_option maxRecDepth 100000 in
/-- T_fork -/
theorem c_T_fork (l : Launch) (D : va_G) (tI tZ tA tJ : ClassId) (b : Nat → Nat) (F S sz : Nat) (tw : Int32) (g : Sg) (p0 : Int32) : ob_M l y_T_fork w_T_fork ({ frames := 1, cells := 0, slots := 0, locals := 21 }) (pW D tI tZ tA tJ [.ref (b 0), .int p0] (tW b F S tI tZ tw g) sz (True)) (ob_qW D vcl (some (.int ((m_fork g p0).1))) (tW b F S tI tZ ((m_fork g p0).2.1) ((m_fork g p0).2.2)) (va_A (tW b F S tI tZ tw g) sz)) 0 0 (va_A (tW b F S tI tZ tw g) sz) := by
  refine ob_ofW (by decide +kernel) ?_
  intro p e s m args below meth c s₁ B hml htab hv
  obtain ⟨rfl, hT, -, hsz, hP, hD0⟩ := hv
  have hx := B.exec
  have hb := B.bytes
  have hr := B.returns
  have hlocks := B.notSynchronized
  have hown : s.vm.findClass R_T = some m.cls := findClass_of_methodNamed B.named
  have hl := lv_entry ([.ref (b 0), .int p0]) (n := 4) (Nat.le_of_ble_eq_true rfl)
  rw [lg_entry_eq]
  generalize (lg_sl ([.ref (b 0), .int p0]) ++ List.replicate (4 - (lg_sl ([.ref (b 0), .int p0])).length) Slot.unset).toArray = ls at hl ⊢
  have hl : lv_has ls 4 [(0, .ref (b 0)), (1, .int p0)] := hl
  subst hsz
  have hD := hD0.self (sz := s.heap.size)
  generalize hAe : va_A (tW b F S tI tZ tw g) s.heap.size = A at hD ⊢
  have hA : ∀ q : Nat, s.heap.size ≤ q → A q := fun q h => by rw [← hAe]; exact Or.inr h
  have hS : va_S A s.heap s.heap [] := va_S.rf
  refine lv_aload_n hx hb d_T_fork_0 rfl (lv_at hl 0 rfl) ?_
  refine ob_callR (v := (some (.int (m_lowP (sg_th g) 6 0)))) (ob_runV (n := 0) (As := []) (rest := []) (c_T_lowestProcess l D tI tZ tA tJ b F S tw g) (hT.ok ob_cd_c (by decide +kernel) rfl rfl (Nat.le_of_ble_eq_true rfl) (Nat.le_of_ble_eq_true rfl) kn_T kc_T_lowestProcess) hx hb hml hown (hT.w k_T_65) (hT.w ki_T_lowestProcess) (hT.w kv_T_lowestProcess) (va_recv (q0 := 0) (ci := 2) hT.1 hP rfl rfl) pR.blind (pR.at hT (trivial) hP) rfl rfl hl.1 rfl (lv_room (Nat.le_of_ble_eq_true rfl)) d_T_fork_1 ⟨Nat.le_of_ble_eq_true rfl, Nat.le_of_ble_eq_true rfl⟩) ?_
  refine W.eq (g2 := F0 m 4 ls [.int (m_lowP (sg_th g) 6 0)]) rfl ?_
  refine lv_istore_n (lv' := [(2, .int (m_lowP (sg_th g) 6 0)), (0, .ref (b 0)), (1, .int p0)]) hx hb d_T_fork_4 rfl hl (by decide) rfl (fun ls hl => ?_)
  refine lv_aload_n hx hb d_T_fork_5 rfl (lv_at hl 1 rfl) ?_
  refine lv_aload_n hx hb d_T_fork_6 rfl (lv_at hl 1 rfl) ?_
  refine lv_iload_n hx hb d_T_fork_7 rfl (lv_at hl 2 rfl) ?_
  refine ob_callR (v := (some (.int (m_isP (sg_th g) p0)))) (ob_runV (n := 1) (As := [.int p0]) (rest := [.ref (b 0)]) (c_T_isProcess l D tI tZ tA tJ b F S tw g p0) (hT.ok ob_cd_c (by decide +kernel) rfl rfl (Nat.le_of_ble_eq_true rfl) (Nat.le_of_ble_eq_true rfl) kn_T kc_T_isProcess) hx hb hml hown (hT.w k_T_68) (hT.w ki_T_isProcess) (hT.w kv_T_isProcess) (va_recv (q0 := 0) (ci := 2) hT.1 hP rfl rfl) pR.blind (pR.at hT (trivial) hP) rfl rfl hl.1 rfl (lv_room (Nat.le_of_ble_eq_true rfl)) d_T_fork_8 ⟨Nat.le_of_ble_eq_true rfl, Nat.le_of_ble_eq_true rfl⟩) ?_
  refine W.eq (g2 := F0 m 11 ls [.int (m_isP (sg_th g) p0), .ref (b 0)]) rfl ?_
  refine lv_if_ne (tgt := 18) hx hb d_T_fork_11 (by decide) (fun hc => ?_) (fun hc => ?_)
  · have hc0 := hc
    have hp6 := m_isP_in hc
    refine lv_iload_n hx hb d_T_fork_18 rfl (lv_at hl 0 rfl) ?_
    refine lv_if_ge (tgt := 26) hx hb d_T_fork_19 (by decide) (fun hc => ?_) (fun hc => ?_)
    · have hin := m_lowP_in hc
      have e1 : m_fork g p0 = (m_lowP (sg_th g) 6 0, 0, su_pg (su_th g (upd (sg_th g) (ix (m_lowP (sg_th g) 6 0)) 1)) (m_forkL p0 (m_lowP (sg_th g) 6 0) 6 0 (sg_pg g))) := by unfold m_fork; rw [if_neg hc0, if_pos hc]
      rw [e1]
      refine lv_iconst (v := 0) hx hb d_T_fork_26 (by decide) ?_
      refine va_put (D := D) (ci := 2) (v := .int 0) (ty := .int) hx hb hT.lays ly_T ty_T ty_T_ok n_T hown hT.1 hP hD hS 0 rfl rfl 0 (by decide) (hT.w k_T_33) (fun _ h => h) rfl (by decide +kernel) rfl rfl (Nat.le_of_ble_eq_true rfl) d_T_fork_27 (fun H locs hP hD hS => ?_)
      have hP : va_P D vcl (tW b F S tI tZ 0 g) H := hP
      have hD : va_D A (tW b F S tI tZ 0 g) := hD
      refine lv_aload_n hx hb d_T_fork_30 rfl (lv_at hl 1 rfl) ?_
      refine va_get (D := D) (ci := 2) (v := .int 0) hx hb hT.lays ly_T hown hT.1 hP 0 rfl rfl 0 (by decide) (hT.w k_T_33) (fun _ h => h) rfl d_T_fork_31 ?_
      refine lv_if_le (tgt := 39) hx hb d_T_fork_34 (by decide) (fun hc => ?_) (fun hc => absurd (by decide) hc)
      refine lv_aload_n hx hb d_T_fork_39 rfl (lv_at hl 1 rfl) ?_
      refine va_get (D := D) (ci := 2) (v := .ref (b 4)) hx hb hT.lays ly_T hown hT.1 hP 0 rfl rfl 7 (by decide) (hT.w k_T_20) (fun _ h => h) rfl d_T_fork_40 ?_
      refine lv_iload_n hx hb d_T_fork_43 rfl (lv_at hl 0 rfl) ?_
      refine lv_iconst (v := 1) hx hb d_T_fork_44 (by decide) ?_
      refine va_zast hx hb hT.1 hP hD hS 4 1 rfl rfl (hin) d_T_fork_45 (fun H locs hP hD hS => ?_)
      rw [nar1] at hP hD
      have hP : va_P D vcl (tW b F S tI tZ 0 (su_th g (upd (sg_th g) (ix (m_lowP (sg_th g) 6 0)) 1))) H := hP
      have hD : va_D A (tW b F S tI tZ 0 (su_th g (upd (sg_th g) (ix (m_lowP (sg_th g) 6 0)) 1))) := hD
      refine lv_iconst (v := 0) hx hb d_T_fork_46 (by decide) ?_
      refine lv_istore_n (lv' := [(3, .int 0), (2, .int (m_lowP (sg_th g) 6 0)), (0, .ref (b 0)), (1, .int p0)]) hx hb d_T_fork_47 rfl hl (by decide) rfl (fun ls hl => ?_)
      have loop : ∀ (n i : Nat) (q : Nat → Int32) (ls : Array Slot) (H : Heap) (locs : List Loc), i + n = 6 → m_forkL p0 (m_lowP (sg_th g) 6 0) n i q = m_forkL p0 (m_lowP (sg_th g) 6 0) 6 0 (sg_pg g) → lv_has ls 4 [(3, .int (nI i)), (2, .int (m_lowP (sg_th g) 6 0)), (0, .ref (b 0)), (1, .int p0)] → va_P D vcl (tW b F S tI tZ 0 (su_pg (su_th g (upd (sg_th g) (ix (m_lowP (sg_th g) 6 0)) 1)) q)) H → va_D A (tW b F S tI tZ 0 (su_pg (su_th g (upd (sg_th g) (ix (m_lowP (sg_th g) 6 0)) 1)) q)) → va_S A s.heap H locs → W p l e ({ frames := 1, cells := 0, slots := 0, locals := 21 } : Room) s m ([.ref (b 0), .int p0] : List Value).toArray below meth c H locs 0 0 (ob_Q below (ob_qW D vcl (some (.int (m_lowP (sg_th g) 6 0))) (tW b F S tI tZ 0 (su_pg (su_th g (upd (sg_th g) (ix (m_lowP (sg_th g) 6 0)) 1)) (m_forkL p0 (m_lowP (sg_th g) 6 0) 6 0 (sg_pg g)))) A) ([.ref (b 0), .int p0] : List Value).toArray s 0 0 A) (F0 m 48 ls []) := by
        intro n
        induction n with
        | zero =>
          intro i q ls H locs hi hR hl hP hD hS
          refine lv_iload_n hx hb d_T_fork_48 rfl (lv_at hl 0 rfl) ?_
          refine lv_bipush (v := 6) hx hb d_T_fork_49 (by decide) ?_
          refine lv_icmp_ge (tgt := 82) hx hb d_T_fork_51 (by decide) (fun hc => ?_) (fun hc => absurd (nI_le (a := 6) (by omega) (by omega)) hc)
          have e2 : q = m_forkL p0 (m_lowP (sg_th g) 6 0) 6 0 (sg_pg g) := hR
          rw [e2] at hP hD
          refine lv_iload_n hx hb d_T_fork_82 rfl (lv_at hl 1 rfl) ?_
          refine ob_iret hlocks hx hb hr d_T_fork_83 hS.2.2 (fun t ht hW => ?_)
          exact ⟨rfl, by rw [ht]; exact hP, hD, hS.F ht⟩
        | succ n ih =>
          intro i q ls H locs hi hR hl hP hD hS
          refine lv_iload_n hx hb d_T_fork_48 rfl (lv_at hl 0 rfl) ?_
          refine lv_bipush (v := 6) hx hb d_T_fork_49 (by decide) ?_
          refine lv_icmp_ge (tgt := 82) hx hb d_T_fork_51 (by decide) (fun hc => absurd hc (nI_ge (b := 6) (by omega) (by omega))) (fun hc => ?_)
          have e3 : m_forkL p0 (m_lowP (sg_th g) 6 0) (n + 1) i q = m_forkL p0 (m_lowP (sg_th g) 6 0) n (i + 1) (upd q (ix (6 * (m_lowP (sg_th g) 6 0) + nI i)) (q (ix (6 * p0 + nI i)))) := rfl
          rw [e3] at hR
          refine lv_aload_n hx hb d_T_fork_54 rfl (lv_at hl 2 rfl) ?_
          refine va_get (D := D) (ci := 2) (v := .ref (b 5)) hx hb hT.lays ly_T hown hT.1 hP 0 rfl rfl 8 (by decide) (hT.w k_T_23) (fun _ h => h) rfl d_T_fork_55 ?_
          refine lv_bipush (v := 6) hx hb d_T_fork_58 (by decide) ?_
          refine lv_iload_n hx hb d_T_fork_60 rfl (lv_at hl 1 rfl) ?_
          refine lv_imul hx hb d_T_fork_61 ?_
          refine lv_iload_n hx hb d_T_fork_62 rfl (lv_at hl 0 rfl) ?_
          refine lv_iadd hx hb d_T_fork_63 ?_
          refine lv_aload_n hx hb d_T_fork_64 rfl (lv_at hl 2 rfl) ?_
          refine va_get (D := D) (ci := 2) (v := .ref (b 5)) hx hb hT.lays ly_T hown hT.1 hP 0 rfl rfl 8 (by decide) (hT.w k_T_23) (fun _ h => h) rfl d_T_fork_65 ?_
          refine lv_bipush (v := 6) hx hb d_T_fork_68 (by decide) ?_
          refine lv_iload_n hx hb d_T_fork_70 rfl (lv_at hl 3 rfl) ?_
          refine lv_imul hx hb d_T_fork_71 ?_
          refine lv_iload_n hx hb d_T_fork_72 rfl (lv_at hl 0 rfl) ?_
          refine lv_iadd hx hb d_T_fork_73 ?_
          refine va_iald hx hb hT.1 hP 5 0 rfl rfl (ix6 hp6 (by omega)) d_T_fork_74 ?_
          refine va_iast hx hb hT.1 hP hD hS 5 0 rfl rfl (ix6 hin (by omega)) d_T_fork_75 (fun H locs hP hD hS => ?_)
          have hP : va_P D vcl (tW b F S tI tZ 0 (su_pg (su_th g (upd (sg_th g) (ix (m_lowP (sg_th g) 6 0)) 1)) (upd q (ix (6 * (m_lowP (sg_th g) 6 0) + nI i)) (q (ix (6 * p0 + nI i)))))) H := hP
          have hD : va_D A (tW b F S tI tZ 0 (su_pg (su_th g (upd (sg_th g) (ix (m_lowP (sg_th g) 6 0)) 1)) (upd q (ix (6 * (m_lowP (sg_th g) 6 0) + nI i)) (q (ix (6 * p0 + nI i)))))) := hD
          refine lv_iinc (k := 0) (v := nI (i + 1)) (lv' := [(3, .int (nI (i + 1))), (2, .int (m_lowP (sg_th g) 6 0)), (0, .ref (b 0)), (1, .int p0)]) hx hb d_T_fork_76 hl rfl (nI_1 i) (by decide) rfl (fun ls hl => ?_)
          refine lv_goto (tgt := 48) hx hb d_T_fork_79 (by decide) ?_
          exact ih (i + 1) _ ls H locs (by omega) hR hl hP hD hS
      exact loop 6 0 (sg_pg g) ls H locs rfl rfl hl hP hD hS
    · have e1 : m_fork g p0 = (0, 2, g) := by unfold m_fork; rw [if_neg hc0, if_neg hc]
      rw [e1]
      refine lv_iconst (v := 2) hx hb d_T_fork_22 (by decide) ?_
      refine lv_goto (tgt := 27) hx hb d_T_fork_23 (by decide) ?_
      refine va_put (D := D) (ci := 2) (v := .int 2) (ty := .int) hx hb hT.lays ly_T ty_T ty_T_ok n_T hown hT.1 hP hD hS 0 rfl rfl 0 (by decide) (hT.w k_T_33) (fun _ h => h) rfl (by decide +kernel) rfl rfl (Nat.le_of_ble_eq_true rfl) d_T_fork_27 (fun H locs hP hD hS => ?_)
      have hP : va_P D vcl (tW b F S tI tZ 2 g) H := hP
      have hD : va_D A (tW b F S tI tZ 2 g) := hD
      refine lv_aload_n hx hb d_T_fork_30 rfl (lv_at hl 1 rfl) ?_
      refine va_get (D := D) (ci := 2) (v := .int 2) hx hb hT.lays ly_T hown hT.1 hP 0 rfl rfl 0 (by decide) (hT.w k_T_33) (fun _ h => h) rfl d_T_fork_31 ?_
      refine lv_if_le (tgt := 39) hx hb d_T_fork_34 (by decide) (fun hc => absurd hc (by decide)) (fun hc => ?_)
      refine lv_iconst (v := 0) hx hb d_T_fork_37 (by decide) ?_
      refine ob_iret hlocks hx hb hr d_T_fork_38 hS.2.2 (fun t ht hW => ?_)
      exact ⟨rfl, by rw [ht]; exact hP, hD, hS.F ht⟩
  · have e1 : m_fork g p0 = (0, 1, g) := if_pos hc
    rw [e1]
    refine lv_iconst (v := 1) hx hb d_T_fork_14 (by decide) ?_
    refine lv_goto (tgt := 27) hx hb d_T_fork_15 (by decide) ?_
    refine va_put (D := D) (ci := 2) (v := .int 1) (ty := .int) hx hb hT.lays ly_T ty_T ty_T_ok n_T hown hT.1 hP hD hS 0 rfl rfl 0 (by decide) (hT.w k_T_33) (fun _ h => h) rfl (by decide +kernel) rfl rfl (Nat.le_of_ble_eq_true rfl) d_T_fork_27 (fun H locs hP hD hS => ?_)
    have hP : va_P D vcl (tW b F S tI tZ 1 g) H := hP
    have hD : va_D A (tW b F S tI tZ 1 g) := hD
    refine lv_aload_n hx hb d_T_fork_30 rfl (lv_at hl 1 rfl) ?_
    refine va_get (D := D) (ci := 2) (v := .int 1) hx hb hT.lays ly_T hown hT.1 hP 0 rfl rfl 0 (by decide) (hT.w k_T_33) (fun _ h => h) rfl d_T_fork_31 ?_
    refine lv_if_le (tgt := 39) hx hb d_T_fork_34 (by decide) (fun hc => absurd hc (by decide)) (fun hc => ?_)
    refine lv_iconst (v := 0) hx hb d_T_fork_37 (by decide) ?_
    refine ob_iret hlocks hx hb hr d_T_fork_38 hS.2.2 (fun t ht hW => ?_)
    exact ⟨rfl, by rw [ht]; exact hP, hD, hS.F ht⟩

set_option maxHeartbeats 4000000 in
set_option maxRecDepth 100000 in
/-- T_exit -/
theorem c_T_exit (l : Launch) (D : va_G) (tI tZ tA tJ : ClassId) (b : Nat → Nat) (F S sz : Nat) (tw : Int32) (g : Sg) (p0 : Int32) : ob_M l y_T_exit w_T_exit ({ frames := 2, cells := 0, slots := 0, locals := 45 }) (pW D tI tZ tA tJ [.ref (b 0), .int p0] (tW b F S tI tZ tw g) sz (¬ m_isP (sg_th g) p0 = 0 → mx_ok p0 6 0 (su_th g (upd (sg_th g) (ix p0) 0)))) (ob_qW D vcl (some (.int ((m_exit g p0).1))) (tW b F S tI tZ ((m_exit g p0).2.1) ((m_exit g p0).2.2)) (va_A (tW b F S tI tZ tw g) sz)) 0 0 (va_A (tW b F S tI tZ tw g) sz) := by
  refine ob_ofW (by decide +kernel) ?_
  intro p e s m args below meth c s₁ B hml htab hv
  obtain ⟨rfl, hT, hq, hsz, hP, hD0⟩ := hv
  have hx := B.exec
  have hb := B.bytes
  have hr := B.returns
  have hlocks := B.notSynchronized
  have hown : s.vm.findClass R_T = some m.cls := findClass_of_methodNamed B.named
  have hl := lv_entry ([.ref (b 0), .int p0]) (n := 4) (Nat.le_of_ble_eq_true rfl)
  rw [lg_entry_eq]
  generalize (lg_sl ([.ref (b 0), .int p0]) ++ List.replicate (4 - (lg_sl ([.ref (b 0), .int p0])).length) Slot.unset).toArray = ls at hl ⊢
  have hl : lv_has ls 4 [(0, .ref (b 0)), (1, .int p0)] := hl
  subst hsz
  have hD := hD0.self (sz := s.heap.size)
  generalize hAe : va_A (tW b F S tI tZ tw g) s.heap.size = A at hD ⊢
  have hA : ∀ q : Nat, s.heap.size ≤ q → A q := fun q h => by rw [← hAe]; exact Or.inr h
  have hS : va_S A s.heap s.heap [] := va_S.rf
  refine lv_aload_n hx hb d_T_exit_0 rfl (lv_at hl 0 rfl) ?_
  refine lv_aload_n hx hb d_T_exit_1 rfl (lv_at hl 0 rfl) ?_
  refine lv_iload_n hx hb d_T_exit_2 rfl (lv_at hl 1 rfl) ?_
  refine ob_callR (v := (some (.int (m_isP (sg_th g) p0)))) (ob_runV (n := 1) (As := [.int p0]) (rest := [.ref (b 0)]) (c_T_isProcess l D tI tZ tA tJ b F S tw g p0) (hT.ok ob_cd_c (by decide +kernel) rfl rfl (Nat.le_of_ble_eq_true rfl) (Nat.le_of_ble_eq_true rfl) kn_T kc_T_isProcess) hx hb hml hown (hT.w k_T_68) (hT.w ki_T_isProcess) (hT.w kv_T_isProcess) (va_recv (q0 := 0) (ci := 2) hT.1 hP rfl rfl) pR.blind (pR.at hT (trivial) hP) rfl rfl hl.1 rfl (lv_room (Nat.le_of_ble_eq_true rfl)) d_T_exit_3 ⟨Nat.le_of_ble_eq_true rfl, Nat.le_of_ble_eq_true rfl⟩) ?_
  refine W.eq (g2 := F0 m 6 ls [.int (m_isP (sg_th g) p0), .ref (b 0)]) rfl ?_
  refine lv_if_eq (tgt := 13) hx hb d_T_exit_6 (by decide) (fun hc => ?_) (fun hc => ?_)
  · have e1 : m_exit g p0 = (0, 1, g) := if_pos hc
    rw [e1]
    refine lv_iconst (v := 1) hx hb d_T_exit_13 (by decide) ?_
    refine va_put (D := D) (ci := 2) (v := .int 1) (ty := .int) hx hb hT.lays ly_T ty_T ty_T_ok n_T hown hT.1 hP hD hS 0 rfl rfl 0 (by decide) (hT.w k_T_33) (fun _ h => h) rfl (by decide +kernel) rfl rfl (Nat.le_of_ble_eq_true rfl) d_T_exit_14 (fun H locs hP hD hS => ?_)
    have hP : va_P D vcl (tW b F S tI tZ 1 g) H := hP
    have hD : va_D A (tW b F S tI tZ 1 g) := hD
    refine lv_aload_n hx hb d_T_exit_17 rfl (lv_at hl 0 rfl) ?_
    refine va_get (D := D) (ci := 2) (v := .int 1) hx hb hT.lays ly_T hown hT.1 hP 0 rfl rfl 0 (by decide) (hT.w k_T_33) (fun _ h => h) rfl d_T_exit_18 ?_
    refine lv_if_le (tgt := 26) hx hb d_T_exit_21 (by decide) (fun hc => absurd hc (by decide)) (fun hc => ?_)
    refine lv_iconst (v := 0) hx hb d_T_exit_24 (by decide) ?_
    refine ob_iret hlocks hx hb hr d_T_exit_25 hS.2.2 (fun t ht hW => ?_)
    exact ⟨rfl, by rw [ht]; exact hP, hD, hS.F ht⟩
  · have hp6 := m_isP_in hc
    have hok := hq hc
    have e1 : m_exit g p0 = ((m_exitL p0 6 0 0 (su_th g (upd (sg_th g) (ix p0) 0))).1, 0, (m_exitL p0 6 0 0 (su_th g (upd (sg_th g) (ix p0) 0))).2) := if_neg hc
    rw [show (m_exit g p0).1 = (m_exitL p0 6 0 0 (su_th g (upd (sg_th g) (ix p0) 0))).1 by rw [e1], show (m_exit g p0).2.1 = 0 by rw [e1], show (m_exit g p0).2.2 = (m_exitL p0 6 0 0 (su_th g (upd (sg_th g) (ix p0) 0))).2 by rw [e1]]
    refine lv_iconst (v := 0) hx hb d_T_exit_9 (by decide) ?_
    refine lv_goto (tgt := 14) hx hb d_T_exit_10 (by decide) ?_
    refine va_put (D := D) (ci := 2) (v := .int 0) (ty := .int) hx hb hT.lays ly_T ty_T ty_T_ok n_T hown hT.1 hP hD hS 0 rfl rfl 0 (by decide) (hT.w k_T_33) (fun _ h => h) rfl (by decide +kernel) rfl rfl (Nat.le_of_ble_eq_true rfl) d_T_exit_14 (fun H locs hP hD hS => ?_)
    have hP : va_P D vcl (tW b F S tI tZ 0 g) H := hP
    have hD : va_D A (tW b F S tI tZ 0 g) := hD
    refine lv_aload_n hx hb d_T_exit_17 rfl (lv_at hl 0 rfl) ?_
    refine va_get (D := D) (ci := 2) (v := .int 0) hx hb hT.lays ly_T hown hT.1 hP 0 rfl rfl 0 (by decide) (hT.w k_T_33) (fun _ h => h) rfl d_T_exit_18 ?_
    refine lv_if_le (tgt := 26) hx hb d_T_exit_21 (by decide) (fun hc => ?_) (fun hc => absurd (by decide) hc)
    refine lv_aload_n hx hb d_T_exit_26 rfl (lv_at hl 0 rfl) ?_
    refine va_get (D := D) (ci := 2) (v := .ref (b 4)) hx hb hT.lays ly_T hown hT.1 hP 0 rfl rfl 7 (by decide) (hT.w k_T_20) (fun _ h => h) rfl d_T_exit_27 ?_
    refine lv_iload_n hx hb d_T_exit_30 rfl (lv_at hl 1 rfl) ?_
    refine lv_iconst (v := 0) hx hb d_T_exit_31 (by decide) ?_
    refine va_zast hx hb hT.1 hP hD hS 4 1 rfl rfl (hp6) d_T_exit_32 (fun H locs hP hD hS => ?_)
    rw [nar0] at hP hD
    have hP : va_P D vcl (tW b F S tI tZ 0 (su_th g (upd (sg_th g) (ix p0) 0))) H := hP
    have hD : va_D A (tW b F S tI tZ 0 (su_th g (upd (sg_th g) (ix p0) 0))) := hD
    refine lv_iconst (v := 0) hx hb d_T_exit_33 (by decide) ?_
    refine lv_istore_n (lv' := [(2, .int 0), (0, .ref (b 0)), (1, .int p0)]) hx hb d_T_exit_34 rfl hl (by decide) rfl (fun ls hl => ?_)
    refine lv_iconst (v := 0) hx hb d_T_exit_35 (by decide) ?_
    refine lv_istore_n (lv' := [(3, .int 0), (2, .int 0), (0, .ref (b 0)), (1, .int p0)]) hx hb d_T_exit_36 rfl hl (by decide) rfl (fun ls hl => ?_)
    have loop : ∀ (n i : Nat) (x : Int32) (q : Sg) (ls : Array Slot) (H : Heap) (locs : List Loc), i + n = 6 → m_exitL p0 n i x q = m_exitL p0 6 0 0 (su_th g (upd (sg_th g) (ix p0) 0)) → mx_ok p0 n i q → lv_has ls 4 [(3, .int (nI i)), (2, .int x), (0, .ref (b 0)), (1, .int p0)] → va_P D vcl (tW b F S tI tZ 0 q) H → va_D A (tW b F S tI tZ 0 q) → va_S A s.heap H locs → W p l e ({ frames := 2, cells := 0, slots := 0, locals := 45 } : Room) s m ([.ref (b 0), .int p0] : List Value).toArray below meth c H locs 0 0 (ob_Q below (ob_qW D vcl (some (.int (m_exitL p0 6 0 0 (su_th g (upd (sg_th g) (ix p0) 0))).1)) (tW b F S tI tZ 0 ((m_exitL p0 6 0 0 (su_th g (upd (sg_th g) (ix p0) 0))).2)) A) ([.ref (b 0), .int p0] : List Value).toArray s 0 0 A) (F0 m 37 ls []) := by
      intro n
      induction n with
      | zero =>
        intro i x q ls H locs hi hR hok hl hP hD hS
        refine lv_iload_n hx hb d_T_exit_37 rfl (lv_at hl 0 rfl) ?_
        refine lv_bipush (v := 6) hx hb d_T_exit_38 (by decide) ?_
        refine lv_icmp_ge (tgt := 70) hx hb d_T_exit_40 (by decide) (fun hc => ?_) (fun hc => absurd (nI_le (a := 6) (by omega) (by omega)) hc)
        rw [← hR]
        refine lv_iload_n hx hb d_T_exit_70 rfl (lv_at hl 1 rfl) ?_
        refine ob_iret hlocks hx hb hr d_T_exit_71 hS.2.2 (fun t ht hW => ?_)
        exact ⟨rfl, by rw [ht]; exact hP, hD, hS.F ht⟩
      | succ n ih =>
        intro i x q ls H locs hi hR hok hl hP hD hS
        refine lv_iload_n hx hb d_T_exit_37 rfl (lv_at hl 0 rfl) ?_
        refine lv_bipush (v := 6) hx hb d_T_exit_38 (by decide) ?_
        refine lv_icmp_ge (tgt := 70) hx hb d_T_exit_40 (by decide) (fun hc => absurd hc (nI_ge (b := 6) (by omega) (by omega))) (fun hc => ?_)
        refine lv_aload_n hx hb d_T_exit_43 rfl (lv_at hl 2 rfl) ?_
        refine lv_bipush (v := 6) hx hb d_T_exit_44 (by decide) ?_
        refine lv_iload_n hx hb d_T_exit_46 rfl (lv_at hl 3 rfl) ?_
        refine lv_imul hx hb d_T_exit_47 ?_
        refine lv_iload_n hx hb d_T_exit_48 rfl (lv_at hl 0 rfl) ?_
        refine lv_iadd hx hb d_T_exit_49 ?_
        refine ob_callW (v := (some (.int ((m_empty q (6 * p0 + nI i)).1)))) (X := []) (M := tW b F S tI tZ 0 q) (M' := tW b F S tI tZ 0 ((m_empty q (6 * p0 + nI i)).2)) (ob_runV (n := 1) (As := [.int (6 * p0 + nI i)]) (rest := []) (c_T_empty l D tI tZ tA tJ b F S H.size 0 q (6 * p0 + nI i)) (hT.ok ob_cd_c (by decide +kernel) rfl rfl (Nat.le_of_ble_eq_true rfl) (Nat.le_of_ble_eq_true rfl) kn_T kc_T_empty) hx hb hml hown (hT.w k_T_72) (hT.w ki_T_empty) (hT.w kv_T_empty) (va_recv (q0 := 0) (ci := 2) hT.1 hP rfl rfl) pW.blind (pW.at hT (hok.1) hP hD) rfl rfl hl.1 rfl (lv_room (Nat.le_of_ble_eq_true rfl)) d_T_exit_50 ⟨Nat.le_of_ble_eq_true rfl, Nat.le_of_ble_eq_true rfl⟩) hP hD hS hA (fun H locs hP hD hS => ?_)
        have hP : va_P D vcl (tW b F S tI tZ 0 ((m_empty q (6 * p0 + nI i)).2)) H := hP
        have hD : va_D A (tW b F S tI tZ 0 ((m_empty q (6 * p0 + nI i)).2)) := hD
        refine W.eq (g2 := F0 m 53 ls [.int ((m_empty q (6 * p0 + nI i)).1)]) rfl ?_
        refine lv_if_eq (tgt := 62) hx hb d_T_exit_53 (by decide) (fun hc => ?_) (fun hc => ?_)
        · have e3 : m_exitL p0 (n + 1) i x q = m_exitL p0 n (i + 1) (x) (m_empty q (6 * p0 + nI i)).2 := by show m_exitL p0 n (i + 1) (if (m_empty q (6 * p0 + nI i)).1 = 0 then x else x + 1) (m_empty q (6 * p0 + nI i)).2 = _; rw [if_pos hc]
          rw [e3] at hR
          refine lv_iload_n hx hb d_T_exit_62 rfl (lv_at hl 1 rfl) ?_
          refine lv_istore_n (lv' := [(2, .int x), (3, .int (nI i)), (0, .ref (b 0)), (1, .int p0)]) hx hb d_T_exit_63 rfl hl (by decide) rfl (fun ls hl => ?_)
          refine lv_iinc (k := 1) (v := nI (i + 1)) (lv' := [(3, .int (nI (i + 1))), (2, .int x), (0, .ref (b 0)), (1, .int p0)]) hx hb d_T_exit_64 hl rfl (nI_1 i) (by decide) rfl (fun ls hl => ?_)
          refine lv_goto (tgt := 37) hx hb d_T_exit_67 (by decide) ?_
          exact ih (i + 1) _ _ ls H locs (by omega) hR hok.2 hl hP hD hS
        · have e3 : m_exitL p0 (n + 1) i x q = m_exitL p0 n (i + 1) (x + 1) (m_empty q (6 * p0 + nI i)).2 := by show m_exitL p0 n (i + 1) (if (m_empty q (6 * p0 + nI i)).1 = 0 then x else x + 1) (m_empty q (6 * p0 + nI i)).2 = _; rw [if_neg hc]
          rw [e3] at hR
          refine lv_iload_n hx hb d_T_exit_56 rfl (lv_at hl 1 rfl) ?_
          refine lv_iconst (v := 1) hx hb d_T_exit_57 (by decide) ?_
          refine lv_iadd hx hb d_T_exit_58 ?_
          refine lv_goto (tgt := 63) hx hb d_T_exit_59 (by decide) ?_
          refine lv_istore_n (lv' := [(2, .int (x + 1)), (3, .int (nI i)), (0, .ref (b 0)), (1, .int p0)]) hx hb d_T_exit_63 rfl hl (by decide) rfl (fun ls hl => ?_)
          refine lv_iinc (k := 1) (v := nI (i + 1)) (lv' := [(3, .int (nI (i + 1))), (2, .int (x + 1)), (0, .ref (b 0)), (1, .int p0)]) hx hb d_T_exit_64 hl rfl (nI_1 i) (by decide) rfl (fun ls hl => ?_)
          refine lv_goto (tgt := 37) hx hb d_T_exit_67 (by decide) ?_
          exact ih (i + 1) _ _ ls H locs (by omega) hR hok.2 hl hP hD hS
    exact loop 6 0 0 (su_th g (upd (sg_th g) (ix p0) 0)) ls H locs rfl rfl hok hl hP hD hS

theorem m_empty01 (g : Sg) (k : Int32) : (m_empty g k).1 = 0 ∨ (m_empty g k).1 = 1 := by
  unfold m_empty
  split
  · exact Or.inl rfl
  · split
    · exact Or.inr rfl
    · exact Or.inl rfl

set_option maxHeartbeats 4000000 in
set_option maxRecDepth 100000 in
/-- T_drop -/
theorem c_T_drop (l : Launch) (D : va_G) (tI tZ tA tJ : ClassId) (b : Nat → Nat) (F S sz : Nat) (tw : Int32) (g : Sg) (p0 x : Int32) : ob_M l y_T_drop w_T_drop ({ frames := 2, cells := 0, slots := 0, locals := 45 }) (pW D tI tZ tA tJ [.ref (b 0), .int p0, .int x] (tW b F S tI tZ tw g) sz (¬ m_isP (sg_th g) p0 = 0 → ¬ x < 0 → x ≤ 5 → me_ok g (6 * p0 + x))) (ob_qW D vcl (some (.int ((m_drop g p0 x).1))) (tW b F S tI tZ ((m_drop g p0 x).2.1) ((m_drop g p0 x).2.2)) (va_A (tW b F S tI tZ tw g) sz)) 0 0 (va_A (tW b F S tI tZ tw g) sz) := by
  refine ob_ofW (by decide +kernel) ?_
  intro p e s m args below meth c s₁ B hml htab hv
  obtain ⟨rfl, hT, hq, hsz, hP, hD0⟩ := hv
  have hx := B.exec
  have hb := B.bytes
  have hr := B.returns
  have hlocks := B.notSynchronized
  have hown : s.vm.findClass R_T = some m.cls := findClass_of_methodNamed B.named
  have hl := lv_entry ([.ref (b 0), .int p0, .int x]) (n := 3) (Nat.le_of_ble_eq_true rfl)
  rw [lg_entry_eq]
  generalize (lg_sl ([.ref (b 0), .int p0, .int x]) ++ List.replicate (3 - (lg_sl ([.ref (b 0), .int p0, .int x])).length) Slot.unset).toArray = ls at hl ⊢
  have hl : lv_has ls 3 [(0, .ref (b 0)), (1, .int p0), (2, .int x)] := hl
  subst hsz
  have hD := hD0.self (sz := s.heap.size)
  generalize hAe : va_A (tW b F S tI tZ tw g) s.heap.size = A at hD ⊢
  have hA : ∀ q : Nat, s.heap.size ≤ q → A q := fun q h => by rw [← hAe]; exact Or.inr h
  have hS : va_S A s.heap s.heap [] := va_S.rf
  refine lv_aload_n hx hb d_T_drop_0 rfl (lv_at hl 0 rfl) ?_
  refine lv_aload_n hx hb d_T_drop_1 rfl (lv_at hl 0 rfl) ?_
  refine lv_iload_n hx hb d_T_drop_2 rfl (lv_at hl 1 rfl) ?_
  refine ob_callR (v := (some (.int (m_isP (sg_th g) p0)))) (ob_runV (n := 1) (As := [.int p0]) (rest := [.ref (b 0)]) (c_T_isProcess l D tI tZ tA tJ b F S tw g p0) (hT.ok ob_cd_c (by decide +kernel) rfl rfl (Nat.le_of_ble_eq_true rfl) (Nat.le_of_ble_eq_true rfl) kn_T kc_T_isProcess) hx hb hml hown (hT.w k_T_68) (hT.w ki_T_isProcess) (hT.w kv_T_isProcess) (va_recv (q0 := 0) (ci := 2) hT.1 hP rfl rfl) pR.blind (pR.at hT (trivial) hP) rfl rfl hl.1 rfl (lv_room (Nat.le_of_ble_eq_true rfl)) d_T_drop_3 ⟨Nat.le_of_ble_eq_true rfl, Nat.le_of_ble_eq_true rfl⟩) ?_
  refine W.eq (g2 := F0 m 6 ls [.int (m_isP (sg_th g) p0), .ref (b 0)]) rfl ?_
  refine lv_if_ne (tgt := 13) hx hb d_T_drop_6 (by decide) (fun hc => ?_) (fun hc => ?_)
  · have hc0 := hc
    refine lv_iload_n hx hb d_T_drop_13 rfl (lv_at hl 2 rfl) ?_
    refine lv_if_lt (tgt := 22) hx hb d_T_drop_14 (by decide) (fun hc => ?_) (fun hc => ?_)
    · have e1 : m_drop g p0 x = (0, 2, g) := by unfold m_drop; rw [if_neg hc0, if_pos hc]
      rw [e1]
      refine lv_iconst (v := 2) hx hb d_T_drop_22 (by decide) ?_
      refine lv_goto (tgt := 27) hx hb d_T_drop_23 (by decide) ?_
      refine va_put (D := D) (ci := 2) (v := .int 2) (ty := .int) hx hb hT.lays ly_T ty_T ty_T_ok n_T hown hT.1 hP hD hS 0 rfl rfl 0 (by decide) (hT.w k_T_33) (fun _ h => h) rfl (by decide +kernel) rfl rfl (Nat.le_of_ble_eq_true rfl) d_T_drop_27 (fun H locs hP hD hS => ?_)
      have hP : va_P D vcl (tW b F S tI tZ 2 g) H := hP
      have hD : va_D A (tW b F S tI tZ 2 g) := hD
      refine lv_aload_n hx hb d_T_drop_30 rfl (lv_at hl 0 rfl) ?_
      refine va_get (D := D) (ci := 2) (v := .int 2) hx hb hT.lays ly_T hown hT.1 hP 0 rfl rfl 0 (by decide) (hT.w k_T_33) (fun _ h => h) rfl d_T_drop_31 ?_
      refine lv_if_ne (tgt := 54) hx hb d_T_drop_34 (by decide) (fun hc => ?_) (fun hc => absurd hc (by decide))
      refine lv_iconst (v := 0) hx hb d_T_drop_54 (by decide) ?_
      refine ob_zret hlocks hx hb hr d_T_drop_55 (rfl) hS.2.2 (fun t ht hW => ?_)
      exact ⟨rfl, by rw [ht]; exact hP, hD, hS.F ht⟩
    · have hc1 := hc
      refine lv_iload_n hx hb d_T_drop_17 rfl (lv_at hl 2 rfl) ?_
      refine lv_iconst (v := 5) hx hb d_T_drop_18 (by decide) ?_
      refine lv_icmp_le (tgt := 26) hx hb d_T_drop_19 (by decide) (fun hc => ?_) (fun hc => ?_)
      · have e1 : m_drop g p0 x = ((m_empty g (6 * p0 + x)).1, 0, (m_empty g (6 * p0 + x)).2) := by unfold m_drop; rw [if_neg hc0, if_neg hc1, if_pos hc]
        rw [e1]
        refine lv_iconst (v := 0) hx hb d_T_drop_26 (by decide) ?_
        refine va_put (D := D) (ci := 2) (v := .int 0) (ty := .int) hx hb hT.lays ly_T ty_T ty_T_ok n_T hown hT.1 hP hD hS 0 rfl rfl 0 (by decide) (hT.w k_T_33) (fun _ h => h) rfl (by decide +kernel) rfl rfl (Nat.le_of_ble_eq_true rfl) d_T_drop_27 (fun H locs hP hD hS => ?_)
        have hP : va_P D vcl (tW b F S tI tZ 0 g) H := hP
        have hD : va_D A (tW b F S tI tZ 0 g) := hD
        refine lv_aload_n hx hb d_T_drop_30 rfl (lv_at hl 0 rfl) ?_
        refine va_get (D := D) (ci := 2) (v := .int 0) hx hb hT.lays ly_T hown hT.1 hP 0 rfl rfl 0 (by decide) (hT.w k_T_33) (fun _ h => h) rfl d_T_drop_31 ?_
        refine lv_if_ne (tgt := 54) hx hb d_T_drop_34 (by decide) (fun hc => absurd rfl hc) (fun hc => ?_)
        refine lv_aload_n hx hb d_T_drop_37 rfl (lv_at hl 0 rfl) ?_
        refine lv_bipush (v := 6) hx hb d_T_drop_38 (by decide) ?_
        refine lv_iload_n hx hb d_T_drop_40 rfl (lv_at hl 1 rfl) ?_
        refine lv_imul hx hb d_T_drop_41 ?_
        refine lv_iload_n hx hb d_T_drop_42 rfl (lv_at hl 2 rfl) ?_
        refine lv_iadd hx hb d_T_drop_43 ?_
        refine ob_callW (v := (some (.int ((m_empty g (6 * p0 + x)).1)))) (X := []) (M := tW b F S tI tZ 0 g) (M' := tW b F S tI tZ 0 ((m_empty g (6 * p0 + x)).2)) (ob_runV (n := 1) (As := [.int (6 * p0 + x)]) (rest := []) (c_T_empty l D tI tZ tA tJ b F S H.size 0 g (6 * p0 + x)) (hT.ok ob_cd_c (by decide +kernel) rfl rfl (Nat.le_of_ble_eq_true rfl) (Nat.le_of_ble_eq_true rfl) kn_T kc_T_empty) hx hb hml hown (hT.w k_T_72) (hT.w ki_T_empty) (hT.w kv_T_empty) (va_recv (q0 := 0) (ci := 2) hT.1 hP rfl rfl) pW.blind (pW.at hT (hq hc0 hc1 ‹x ≤ 5›) hP hD) rfl rfl hl.1 rfl (lv_room (Nat.le_of_ble_eq_true rfl)) d_T_drop_44 ⟨Nat.le_of_ble_eq_true rfl, Nat.le_of_ble_eq_true rfl⟩) hP hD hS hA (fun H locs hP hD hS => ?_)
        have hP : va_P D vcl (tW b F S tI tZ 0 ((m_empty g (6 * p0 + x)).2)) H := hP
        have hD : va_D A (tW b F S tI tZ 0 ((m_empty g (6 * p0 + x)).2)) := hD
        refine W.eq (g2 := F0 m 47 ls [.int ((m_empty g (6 * p0 + x)).1)]) rfl ?_
        refine lv_if_eq (tgt := 54) hx hb d_T_drop_47 (by decide) (fun hc => ?_) (fun hc => ?_)
        · rw [hc]
          refine lv_iconst (v := 0) hx hb d_T_drop_54 (by decide) ?_
          refine ob_zret hlocks hx hb hr d_T_drop_55 (rfl) hS.2.2 (fun t ht hW => ?_)
          exact ⟨rfl, by rw [ht]; exact hP, hD, hS.F ht⟩
        · have e2 : (m_empty g (6 * p0 + x)).1 = 1 := (m_empty01 g (6 * p0 + x)).resolve_left hc
          rw [e2]
          refine lv_iconst (v := 1) hx hb d_T_drop_50 (by decide) ?_
          refine lv_goto (tgt := 55) hx hb d_T_drop_51 (by decide) ?_
          refine ob_zret hlocks hx hb hr d_T_drop_55 (rfl) hS.2.2 (fun t ht hW => ?_)
          exact ⟨rfl, by rw [ht]; exact hP, hD, hS.F ht⟩
      · have e1 : m_drop g p0 x = (0, 2, g) := by unfold m_drop; rw [if_neg hc0, if_neg hc1, if_neg hc]
        rw [e1]
        refine lv_iconst (v := 2) hx hb d_T_drop_22 (by decide) ?_
        refine lv_goto (tgt := 27) hx hb d_T_drop_23 (by decide) ?_
        refine va_put (D := D) (ci := 2) (v := .int 2) (ty := .int) hx hb hT.lays ly_T ty_T ty_T_ok n_T hown hT.1 hP hD hS 0 rfl rfl 0 (by decide) (hT.w k_T_33) (fun _ h => h) rfl (by decide +kernel) rfl rfl (Nat.le_of_ble_eq_true rfl) d_T_drop_27 (fun H locs hP hD hS => ?_)
        have hP : va_P D vcl (tW b F S tI tZ 2 g) H := hP
        have hD : va_D A (tW b F S tI tZ 2 g) := hD
        refine lv_aload_n hx hb d_T_drop_30 rfl (lv_at hl 0 rfl) ?_
        refine va_get (D := D) (ci := 2) (v := .int 2) hx hb hT.lays ly_T hown hT.1 hP 0 rfl rfl 0 (by decide) (hT.w k_T_33) (fun _ h => h) rfl d_T_drop_31 ?_
        refine lv_if_ne (tgt := 54) hx hb d_T_drop_34 (by decide) (fun hc => ?_) (fun hc => absurd hc (by decide))
        refine lv_iconst (v := 0) hx hb d_T_drop_54 (by decide) ?_
        refine ob_zret hlocks hx hb hr d_T_drop_55 (rfl) hS.2.2 (fun t ht hW => ?_)
        exact ⟨rfl, by rw [ht]; exact hP, hD, hS.F ht⟩
  · have e1 : m_drop g p0 x = (0, 1, g) := if_pos hc
    rw [e1]
    refine lv_iconst (v := 1) hx hb d_T_drop_9 (by decide) ?_
    refine lv_goto (tgt := 27) hx hb d_T_drop_10 (by decide) ?_
    refine va_put (D := D) (ci := 2) (v := .int 1) (ty := .int) hx hb hT.lays ly_T ty_T ty_T_ok n_T hown hT.1 hP hD hS 0 rfl rfl 0 (by decide) (hT.w k_T_33) (fun _ h => h) rfl (by decide +kernel) rfl rfl (Nat.le_of_ble_eq_true rfl) d_T_drop_27 (fun H locs hP hD hS => ?_)
    have hP : va_P D vcl (tW b F S tI tZ 1 g) H := hP
    have hD : va_D A (tW b F S tI tZ 1 g) := hD
    refine lv_aload_n hx hb d_T_drop_30 rfl (lv_at hl 0 rfl) ?_
    refine va_get (D := D) (ci := 2) (v := .int 1) hx hb hT.lays ly_T hown hT.1 hP 0 rfl rfl 0 (by decide) (hT.w k_T_33) (fun _ h => h) rfl d_T_drop_31 ?_
    refine lv_if_ne (tgt := 54) hx hb d_T_drop_34 (by decide) (fun hc => ?_) (fun hc => absurd hc (by decide))
    refine lv_iconst (v := 0) hx hb d_T_drop_54 (by decide) ?_
    refine ob_zret hlocks hx hb hr d_T_drop_55 (rfl) hS.2.2 (fun t ht hW => ?_)
    exact ⟨rfl, by rw [ht]; exact hP, hD, hS.F ht⟩
end
section
theorem m_getFrame_cp (F S : Nat) (s : Sg) : sg_cp (m_getFrame F S s).2 = sg_cp s := by
  unfold m_getFrame
  split <;> rfl
theorem m_bringIn_cp (F S : Nat) (s : Sg) (a : Int32) : sg_cp (m_bringIn F S s a) = sg_cp s := by
  unfold m_bringIn
  split
  · rfl
  · exact m_getFrame_cp F S _
theorem m_make_cp (F S : Nat) (s : Sg) (k x : Int32) : sg_cp (m_make F S s k x) = sg_cp s := m_getFrame_cp F S s
theorem m_loaded_cp (F S : Nat) (s : Sg) (p a : Int32) : sg_cp (m_loaded F S s p a).2 = sg_cp s := by
  unfold m_loaded
  split
  · exact m_bringIn_cp F S s _
  · rfl
theorem m_stored_cp (F S : Nat) (s : Sg) (p a x : Int32) : sg_cp (m_stored F S s p a x) = sg_cp s := by
  show sg_cp (m_sto1 F S s p a) = sg_cp s
  unfold m_sto1
  split
  · exact m_bringIn_cp F S s _
  · exact m_make_cp F S s _ _
/-- one turn of the copying -/
abbrev mc_q (F S : Nat) (s : Sg) (p a : Int32) : Int32 × Sg := m_loaded F S s p (a + sg_cp s)
def mc_ok (F S : Nat) (p a d : Int32) : Nat → Sg → Prop
  | 0, _ => True
  | n + 1, s => ml_ok F S s p (a + sg_cp s) ∧ vp_in (6 * p + (d + sg_cp (mc_q F S s p a).2) / 4) 36 ∧
      (m_needs (sg_pg (mc_q F S s p a).2) p (d + sg_cp (mc_q F S s p a).2) = 0 ∨ ¬ m_canMake F S (sg_li (mc_q F S s p a).2) = 0 → ms_ok F S (mc_q F S s p a).2 p (d + sg_cp (mc_q F S s p a).2) ∧
        mc_ok F S p a d n (su_cp (m_stored F S (mc_q F S s p a).2 p (d + sg_cp (mc_q F S s p a).2) (mc_q F S s p a).1) (sg_cp (m_stored F S (mc_q F S s p a).2 p (d + sg_cp (mc_q F S s p a).2) (mc_q F S s p a).1) + 1)))

set_option maxHeartbeats 4000000 in
set_option maxRecDepth 100000 in
/-- T_loaded -/
theorem c_T_loaded (l : Launch) (D : va_G) (tI tZ tA tJ : ClassId) (b : Nat → Nat) (F S sz : Nat) (tw : Int32) (g : Sg) (p0 x : Int32) : ob_M l y_T_loaded w_T_loaded ({ frames := 4, cells := 0, slots := 0, locals := 88 }) (pW D tI tZ tA tJ [.ref (b 0), .int p0, .int x] (tW b F S tI tZ tw g) sz (ml_ok F S g p0 x)) (ob_qW D vcl (some (.int ((m_loaded F S g p0 x).1))) (tW b F S tI tZ tw ((m_loaded F S g p0 x).2)) (va_A (tW b F S tI tZ tw g) sz)) 0 0 (va_A (tW b F S tI tZ tw g) sz) := by
  refine ob_ofW (by decide +kernel) ?_
  intro p e s m args below meth c s₁ B hml htab hv
  obtain ⟨rfl, hT, ⟨hin, hq⟩, hsz, hP, hD0⟩ := hv
  have hx := B.exec
  have hb := B.bytes
  have hr := B.returns
  have hlocks := B.notSynchronized
  have hown : s.vm.findClass R_T = some m.cls := findClass_of_methodNamed B.named
  have hl := lv_entry ([.ref (b 0), .int p0, .int x]) (n := 4) (Nat.le_of_ble_eq_true rfl)
  rw [lg_entry_eq]
  generalize (lg_sl ([.ref (b 0), .int p0, .int x]) ++ List.replicate (4 - (lg_sl ([.ref (b 0), .int p0, .int x])).length) Slot.unset).toArray = ls at hl ⊢
  have hl : lv_has ls 4 [(0, .ref (b 0)), (1, .int p0), (2, .int x)] := hl
  subst hsz
  have hD := hD0.self (sz := s.heap.size)
  generalize hAe : va_A (tW b F S tI tZ tw g) s.heap.size = A at hD ⊢
  have hA : ∀ q : Nat, s.heap.size ≤ q → A q := fun q h => by rw [← hAe]; exact Or.inr h
  have hS : va_S A s.heap s.heap [] := va_S.rf
  refine lv_aload_n hx hb d_T_loaded_0 rfl (lv_at hl 0 rfl) ?_
  refine va_get (D := D) (ci := 2) (v := .ref (b 5)) hx hb hT.lays ly_T hown hT.1 hP 0 rfl rfl 8 (by decide) (hT.w k_T_23) (fun _ h => h) rfl d_T_loaded_1 ?_
  refine lv_bipush (v := 6) hx hb d_T_loaded_4 (by decide) ?_
  refine lv_iload_n hx hb d_T_loaded_6 rfl (lv_at hl 1 rfl) ?_
  refine lv_imul hx hb d_T_loaded_7 ?_
  refine lv_iload_n hx hb d_T_loaded_8 rfl (lv_at hl 2 rfl) ?_
  refine lv_iconst (v := 4) hx hb d_T_loaded_9 (by decide) ?_
  refine lv_idiv hx hb d_T_loaded_10 (by decide) ?_
  refine lv_iadd hx hb d_T_loaded_11 ?_
  refine va_iald hx hb hT.1 hP 5 0 rfl rfl (hin) d_T_loaded_12 ?_
  refine lv_istore_n (lv' := [(3, .int ((sg_pg g) (ix ((6 * p0) + (x / 4))))), (0, .ref (b 0)), (1, .int p0), (2, .int x)]) hx hb d_T_loaded_13 rfl hl (by decide) rfl (fun ls hl => ?_)
  refine lv_iload_n hx hb d_T_loaded_14 rfl (lv_at hl 0 rfl) ?_
  refine lv_if_ge (tgt := 20) hx hb d_T_loaded_15 (by decide) (fun hc => ?_) (fun hc => ?_)
  · obtain ⟨hb1, h18, h8, h72⟩ := hq hc
    have e1 : m_loaded F S g p0 x = (sg_wd (m_bringIn F S g (sg_pg g (ix (6 * p0 + x / 4)))) (ix (4 * (sg_pg g (ix (6 * p0 + x / 4))) + (x - x / 4 * 4))), su_mk (m_bringIn F S g (sg_pg g (ix (6 * p0 + x / 4)))) (upd (sg_mk (m_bringIn F S g (sg_pg g (ix (6 * p0 + x / 4))))) (ix (sg_li (m_bringIn F S g (sg_pg g (ix (6 * p0 + x / 4)))) (ix (sg_pg g (ix (6 * p0 + x / 4)))))) 1)) := if_pos hc
    rw [e1]
    refine lv_aload_n hx hb d_T_loaded_20 rfl (lv_at hl 1 rfl) ?_
    refine lv_iload_n hx hb d_T_loaded_21 rfl (lv_at hl 0 rfl) ?_
    refine ob_callW (v := none) (X := []) (M := tW b F S tI tZ tw g) (M' := tW b F S tI tZ tw (m_bringIn F S g (sg_pg g (ix (6 * p0 + x / 4))))) (ob_runV (n := 1) (As := [.int (sg_pg g (ix (6 * p0 + x / 4)))]) (rest := []) (c_T_bringIn l D tI tZ tA tJ b F S s.heap.size tw g (sg_pg g (ix (6 * p0 + x / 4)))) (hT.ok ob_cd_c (by decide +kernel) rfl rfl (Nat.le_of_ble_eq_true rfl) (Nat.le_of_ble_eq_true rfl) kn_T kc_T_bringIn) hx hb hml hown (hT.w k_T_75) (hT.w ki_T_bringIn) (hT.w kv_T_bringIn) (va_recv (q0 := 0) (ci := 2) hT.1 hP rfl rfl) pW.blind (pW.at hT (hb1) hP hD) rfl rfl hl.1 rfl (lv_room (Nat.le_of_ble_eq_true rfl)) d_T_loaded_22 ⟨Nat.le_of_ble_eq_true rfl, Nat.le_of_ble_eq_true rfl⟩) hP hD hS hA (fun H locs hP hD hS => ?_)
    have hP : va_P D vcl (tW b F S tI tZ tw (m_bringIn F S g (sg_pg g (ix (6 * p0 + x / 4))))) H := hP
    have hD : va_D A (tW b F S tI tZ tw (m_bringIn F S g (sg_pg g (ix (6 * p0 + x / 4))))) := hD
    refine W.eq (g2 := F0 m 25 ls []) rfl ?_
    refine lv_aload_n hx hb d_T_loaded_25 rfl (lv_at hl 1 rfl) ?_
    refine va_get (D := D) (ci := 2) (v := .ref (b 1)) hx hb hT.lays ly_T hown hT.1 hP 0 rfl rfl 3 (by decide) (hT.w k_T_7) (fun _ h => h) rfl d_T_loaded_26 ?_
    refine lv_aload_n hx hb d_T_loaded_29 rfl (lv_at hl 1 rfl) ?_
    refine va_get (D := D) (ci := 2) (v := .ref (b 2)) hx hb hT.lays ly_T hown hT.1 hP 0 rfl rfl 5 (by decide) (hT.w k_T_13) (fun _ h => h) rfl d_T_loaded_30 ?_
    refine lv_iload_n hx hb d_T_loaded_33 rfl (lv_at hl 0 rfl) ?_
    refine va_iald hx hb hT.1 hP 2 0 rfl rfl (h18) d_T_loaded_34 ?_
    refine lv_iconst (v := 1) hx hb d_T_loaded_35 (by decide) ?_
    refine va_zast hx hb hT.1 hP hD hS 1 1 rfl rfl (h8) d_T_loaded_36 (fun H locs hP hD hS => ?_)
    rw [nar1] at hP hD
    have hP : va_P D vcl (tW b F S tI tZ tw (su_mk (m_bringIn F S g (sg_pg g (ix (6 * p0 + x / 4)))) (upd (sg_mk (m_bringIn F S g (sg_pg g (ix (6 * p0 + x / 4))))) (ix ((sg_li (m_bringIn F S g (sg_pg g (ix (6 * p0 + x / 4))))) (ix ((sg_pg g) (ix ((6 * p0) + (x / 4))))))) 1))) H := hP
    have hD : va_D A (tW b F S tI tZ tw (su_mk (m_bringIn F S g (sg_pg g (ix (6 * p0 + x / 4)))) (upd (sg_mk (m_bringIn F S g (sg_pg g (ix (6 * p0 + x / 4))))) (ix ((sg_li (m_bringIn F S g (sg_pg g (ix (6 * p0 + x / 4))))) (ix ((sg_pg g) (ix ((6 * p0) + (x / 4))))))) 1))) := hD
    refine lv_aload_n hx hb d_T_loaded_37 rfl (lv_at hl 1 rfl) ?_
    refine va_get (D := D) (ci := 2) (v := .ref (b 3)) hx hb hT.lays ly_T hown hT.1 hP 0 rfl rfl 6 (by decide) (hT.w k_T_17) (fun _ h => h) rfl d_T_loaded_38 ?_
    refine lv_iconst (v := 4) hx hb d_T_loaded_41 (by decide) ?_
    refine lv_iload_n hx hb d_T_loaded_42 rfl (lv_at hl 0 rfl) ?_
    refine lv_imul hx hb d_T_loaded_43 ?_
    refine lv_iload_n hx hb d_T_loaded_44 rfl (lv_at hl 3 rfl) ?_
    refine lv_iconst (v := 4) hx hb d_T_loaded_45 (by decide) ?_
    refine lv_irem hx hb d_T_loaded_46 (by decide) ?_
    refine lv_iadd hx hb d_T_loaded_47 ?_
    refine va_iald hx hb hT.1 hP 3 0 rfl rfl (h72) d_T_loaded_48 ?_
    refine ob_iret hlocks hx hb hr d_T_loaded_49 hS.2.2 (fun t ht hW => ?_)
    exact ⟨rfl, by rw [ht]; exact hP, hD, hS.F ht⟩
  · have e1 : m_loaded F S g p0 x = (0, g) := if_neg hc
    rw [e1]
    refine lv_iconst (v := 0) hx hb d_T_loaded_18 (by decide) ?_
    refine ob_iret hlocks hx hb hr d_T_loaded_19 hS.2.2 (fun t ht hW => ?_)
    exact ⟨rfl, by rw [ht]; exact hP, hD, hS.F ht⟩

set_option maxHeartbeats 4000000 in
set_option maxRecDepth 100000 in
/-- T_stored -/
theorem c_T_stored (l : Launch) (D : va_G) (tI tZ tA tJ : ClassId) (b : Nat → Nat) (F S sz : Nat) (tw : Int32) (g : Sg) (p0 x v : Int32) : ob_M l y_T_stored w_T_stored ({ frames := 4, cells := 0, slots := 0, locals := 91 }) (pW D tI tZ tA tJ [.ref (b 0), .int p0, .int x, .int v] (tW b F S tI tZ tw g) sz (ms_ok F S g p0 x)) (ob_qW D vcl none (tW b F S tI tZ tw (m_stored F S g p0 x v)) (va_A (tW b F S tI tZ tw g) sz)) 0 0 (va_A (tW b F S tI tZ tw g) sz) := by
  refine ob_ofW (by decide +kernel) ?_
  intro p e s m args below meth c s₁ B hml htab hv
  obtain ⟨rfl, hT, ⟨hin, hb1, hm1, h18, h8, h72⟩, hsz, hP, hD0⟩ := hv
  have hx := B.exec
  have hb := B.bytes
  have hr := B.returns
  have hlocks := B.notSynchronized
  have hown : s.vm.findClass R_T = some m.cls := findClass_of_methodNamed B.named
  have hl := lv_entry ([.ref (b 0), .int p0, .int x, .int v]) (n := 6) (Nat.le_of_ble_eq_true rfl)
  rw [lg_entry_eq]
  generalize (lg_sl ([.ref (b 0), .int p0, .int x, .int v]) ++ List.replicate (6 - (lg_sl ([.ref (b 0), .int p0, .int x, .int v])).length) Slot.unset).toArray = ls at hl ⊢
  have hl : lv_has ls 6 [(0, .ref (b 0)), (1, .int p0), (2, .int x), (3, .int v)] := hl
  subst hsz
  have hD := hD0.self (sz := s.heap.size)
  generalize hAe : va_A (tW b F S tI tZ tw g) s.heap.size = A at hD ⊢
  have hA : ∀ q : Nat, s.heap.size ≤ q → A q := fun q h => by rw [← hAe]; exact Or.inr h
  have hS : va_S A s.heap s.heap [] := va_S.rf
  refine lv_bipush (v := 6) hx hb d_T_stored_0 (by decide) ?_
  refine lv_iload_n hx hb d_T_stored_2 rfl (lv_at hl 1 rfl) ?_
  refine lv_imul hx hb d_T_stored_3 ?_
  refine lv_iload_n hx hb d_T_stored_4 rfl (lv_at hl 2 rfl) ?_
  refine lv_iconst (v := 4) hx hb d_T_stored_5 (by decide) ?_
  refine lv_idiv hx hb d_T_stored_6 (by decide) ?_
  refine lv_iadd hx hb d_T_stored_7 ?_
  refine lv_istore (lv' := [(4, .int ((6 * p0) + (x / 4))), (0, .ref (b 0)), (1, .int p0), (2, .int x), (3, .int v)]) hx hb d_T_stored_8 hl (by decide) rfl (fun ls hl => ?_)
  have hend : ∀ (ls : Array Slot) (H : Heap) (locs : List Loc), lv_has ls 6 [(4, .int (6 * p0 + x / 4)), (0, .ref (b 0)), (1, .int p0), (2, .int x), (3, .int v)] → va_P D vcl (tW b F S tI tZ tw (m_sto1 F S g p0 x)) H → va_D A (tW b F S tI tZ tw (m_sto1 F S g p0 x)) → va_S A s.heap H locs → W p l e ({ frames := 4, cells := 0, slots := 0, locals := 91 } : Room) s m ([.ref (b 0), .int p0, .int x, .int v] : List Value).toArray below meth c H locs 0 0 (ob_Q below (ob_qW D vcl none (tW b F S tI tZ tw (m_stored F S g p0 x v)) A) ([.ref (b 0), .int p0, .int x, .int v] : List Value).toArray s 0 0 A) (F0 m 46 ls []) := by
    intro ls H locs hl hP hD hS
    refine lv_aload_n hx hb d_T_stored_46 rfl (lv_at hl 1 rfl) ?_
    refine va_get (D := D) (ci := 2) (v := .ref (b 5)) hx hb hT.lays ly_T hown hT.1 hP 0 rfl rfl 8 (by decide) (hT.w k_T_23) (fun _ h => h) rfl d_T_stored_47 ?_
    refine lv_iload hx hb d_T_stored_50 (lv_at hl 0 rfl) ?_
    refine va_iald hx hb hT.1 hP 5 0 rfl rfl (hin) d_T_stored_52 ?_
    refine lv_istore (lv' := [(5, .int ((sg_pg (m_sto1 F S g p0 x)) (ix (6 * p0 + x / 4)))), (4, .int (6 * p0 + x / 4)), (0, .ref (b 0)), (1, .int p0), (2, .int x), (3, .int v)]) hx hb d_T_stored_53 hl (by decide) rfl (fun ls hl => ?_)
    refine lv_aload_n hx hb d_T_stored_55 rfl (lv_at hl 2 rfl) ?_
    refine va_get (D := D) (ci := 2) (v := .ref (b 1)) hx hb hT.lays ly_T hown hT.1 hP 0 rfl rfl 3 (by decide) (hT.w k_T_7) (fun _ h => h) rfl d_T_stored_56 ?_
    refine lv_aload_n hx hb d_T_stored_59 rfl (lv_at hl 2 rfl) ?_
    refine va_get (D := D) (ci := 2) (v := .ref (b 2)) hx hb hT.lays ly_T hown hT.1 hP 0 rfl rfl 5 (by decide) (hT.w k_T_13) (fun _ h => h) rfl d_T_stored_60 ?_
    refine lv_iload hx hb d_T_stored_63 (lv_at hl 0 rfl) ?_
    refine va_iald hx hb hT.1 hP 2 0 rfl rfl (h18) d_T_stored_65 ?_
    refine lv_iconst (v := 1) hx hb d_T_stored_66 (by decide) ?_
    refine va_zast hx hb hT.1 hP hD hS 1 1 rfl rfl (h8) d_T_stored_67 (fun H locs hP hD hS => ?_)
    rw [nar1] at hP hD
    have hP : va_P D vcl (tW b F S tI tZ tw (su_mk (m_sto1 F S g p0 x) (upd (sg_mk (m_sto1 F S g p0 x)) (ix ((sg_li (m_sto1 F S g p0 x)) (ix ((sg_pg (m_sto1 F S g p0 x)) (ix (6 * p0 + x / 4)))))) 1))) H := hP
    have hD : va_D A (tW b F S tI tZ tw (su_mk (m_sto1 F S g p0 x) (upd (sg_mk (m_sto1 F S g p0 x)) (ix ((sg_li (m_sto1 F S g p0 x)) (ix ((sg_pg (m_sto1 F S g p0 x)) (ix (6 * p0 + x / 4)))))) 1))) := hD
    refine lv_aload_n hx hb d_T_stored_68 rfl (lv_at hl 2 rfl) ?_
    refine va_get (D := D) (ci := 2) (v := .ref (b 3)) hx hb hT.lays ly_T hown hT.1 hP 0 rfl rfl 6 (by decide) (hT.w k_T_17) (fun _ h => h) rfl d_T_stored_69 ?_
    refine lv_iconst (v := 4) hx hb d_T_stored_72 (by decide) ?_
    refine lv_iload hx hb d_T_stored_73 (lv_at hl 0 rfl) ?_
    refine lv_imul hx hb d_T_stored_75 ?_
    refine lv_iload_n hx hb d_T_stored_76 rfl (lv_at hl 4 rfl) ?_
    refine lv_iconst (v := 4) hx hb d_T_stored_77 (by decide) ?_
    refine lv_irem hx hb d_T_stored_78 (by decide) ?_
    refine lv_iadd hx hb d_T_stored_79 ?_
    refine lv_iload_n hx hb d_T_stored_80 rfl (lv_at hl 5 rfl) ?_
    refine va_iast hx hb hT.1 hP hD hS 3 0 rfl rfl (h72) d_T_stored_81 (fun H locs hP hD hS => ?_)
    have hP : va_P D vcl (tW b F S tI tZ tw (su_wd (su_mk (m_sto1 F S g p0 x) (upd (sg_mk (m_sto1 F S g p0 x)) (ix ((sg_li (m_sto1 F S g p0 x)) (ix ((sg_pg (m_sto1 F S g p0 x)) (ix (6 * p0 + x / 4)))))) 1)) (upd (sg_wd (su_mk (m_sto1 F S g p0 x) (upd (sg_mk (m_sto1 F S g p0 x)) (ix ((sg_li (m_sto1 F S g p0 x)) (ix ((sg_pg (m_sto1 F S g p0 x)) (ix (6 * p0 + x / 4)))))) 1))) (ix ((4 * ((sg_pg (m_sto1 F S g p0 x)) (ix (6 * p0 + x / 4)))) + (x - x / 4 * 4))) v))) H := hP
    have hD : va_D A (tW b F S tI tZ tw (su_wd (su_mk (m_sto1 F S g p0 x) (upd (sg_mk (m_sto1 F S g p0 x)) (ix ((sg_li (m_sto1 F S g p0 x)) (ix ((sg_pg (m_sto1 F S g p0 x)) (ix (6 * p0 + x / 4)))))) 1)) (upd (sg_wd (su_mk (m_sto1 F S g p0 x) (upd (sg_mk (m_sto1 F S g p0 x)) (ix ((sg_li (m_sto1 F S g p0 x)) (ix ((sg_pg (m_sto1 F S g p0 x)) (ix (6 * p0 + x / 4)))))) 1))) (ix ((4 * ((sg_pg (m_sto1 F S g p0 x)) (ix (6 * p0 + x / 4)))) + (x - x / 4 * 4))) v))) := hD
    refine ob_vret hlocks hx hb hr d_T_stored_82 hS.2.2 (fun t ht hW => ?_)
    exact ⟨rfl, by rw [ht]; exact hP, hD, hS.F ht⟩
  refine lv_aload_n hx hb d_T_stored_10 rfl (lv_at hl 1 rfl) ?_
  refine lv_iload_n hx hb d_T_stored_11 rfl (lv_at hl 2 rfl) ?_
  refine lv_iload_n hx hb d_T_stored_12 rfl (lv_at hl 3 rfl) ?_
  refine ob_callR (v := (some (.int (m_needs (sg_pg g) p0 x)))) (ob_runV (n := 2) (As := [.int p0, .int x]) (rest := []) (c_T_needs l D tI tZ tA tJ b F S tw g p0 x) (hT.ok ob_cd_c (by decide +kernel) rfl rfl (Nat.le_of_ble_eq_true rfl) (Nat.le_of_ble_eq_true rfl) kn_T kc_T_needs) hx hb hml hown (hT.w k_T_79) (hT.w ki_T_needs) (hT.w kv_T_needs) (va_recv (q0 := 0) (ci := 2) hT.1 hP rfl rfl) pR.blind (pR.at hT (hin) hP) rfl rfl hl.1 rfl (lv_room (Nat.le_of_ble_eq_true rfl)) d_T_stored_13 ⟨Nat.le_of_ble_eq_true rfl, Nat.le_of_ble_eq_true rfl⟩) ?_
  refine W.eq (g2 := F0 m 16 ls [.int (m_needs (sg_pg g) p0 x)]) rfl ?_
  refine lv_if_eq (tgt := 35) hx hb d_T_stored_16 (by decide) (fun hc => ?_) (fun hc => ?_)
  · have e1 : m_sto1 F S g p0 x = m_bringIn F S g (sg_pg g (ix (6 * p0 + x / 4))) := if_pos hc
    rw [e1] at hend
    refine lv_aload_n hx hb d_T_stored_35 rfl (lv_at hl 1 rfl) ?_
    refine lv_aload_n hx hb d_T_stored_36 rfl (lv_at hl 1 rfl) ?_
    refine va_get (D := D) (ci := 2) (v := .ref (b 5)) hx hb hT.lays ly_T hown hT.1 hP 0 rfl rfl 8 (by decide) (hT.w k_T_23) (fun _ h => h) rfl d_T_stored_37 ?_
    refine lv_iload hx hb d_T_stored_40 (lv_at hl 0 rfl) ?_
    refine va_iald hx hb hT.1 hP 5 0 rfl rfl (hin) d_T_stored_42 ?_
    refine ob_callW (v := none) (X := []) (M := tW b F S tI tZ tw g) (M' := tW b F S tI tZ tw (m_bringIn F S g (sg_pg g (ix (6 * p0 + x / 4))))) (ob_runV (n := 1) (As := [.int (sg_pg g (ix (6 * p0 + x / 4)))]) (rest := []) (c_T_bringIn l D tI tZ tA tJ b F S s.heap.size tw g (sg_pg g (ix (6 * p0 + x / 4)))) (hT.ok ob_cd_c (by decide +kernel) rfl rfl (Nat.le_of_ble_eq_true rfl) (Nat.le_of_ble_eq_true rfl) kn_T kc_T_bringIn) hx hb hml hown (hT.w k_T_75) (hT.w ki_T_bringIn) (hT.w kv_T_bringIn) (va_recv (q0 := 0) (ci := 2) hT.1 hP rfl rfl) pW.blind (pW.at hT (hb1 hc) hP hD) rfl rfl hl.1 rfl (lv_room (Nat.le_of_ble_eq_true rfl)) d_T_stored_43 ⟨Nat.le_of_ble_eq_true rfl, Nat.le_of_ble_eq_true rfl⟩) hP hD hS hA (fun H locs hP hD hS => ?_)
    have hP : va_P D vcl (tW b F S tI tZ tw (m_bringIn F S g (sg_pg g (ix (6 * p0 + x / 4))))) H := hP
    have hD : va_D A (tW b F S tI tZ tw (m_bringIn F S g (sg_pg g (ix (6 * p0 + x / 4))))) := hD
    refine W.eq (g2 := F0 m 46 ls []) rfl ?_
    exact hend ls H locs hl hP hD hS
  · have e1 : m_sto1 F S g p0 x = m_make F S g (6 * p0 + x / 4) (sg_pg g (ix (6 * p0 + x / 4))) := if_neg hc
    rw [e1] at hend
    refine lv_aload_n hx hb d_T_stored_19 rfl (lv_at hl 1 rfl) ?_
    refine lv_iload hx hb d_T_stored_20 (lv_at hl 0 rfl) ?_
    refine lv_aload_n hx hb d_T_stored_22 rfl (lv_at hl 1 rfl) ?_
    refine va_get (D := D) (ci := 2) (v := .ref (b 5)) hx hb hT.lays ly_T hown hT.1 hP 0 rfl rfl 8 (by decide) (hT.w k_T_23) (fun _ h => h) rfl d_T_stored_23 ?_
    refine lv_iload hx hb d_T_stored_26 (lv_at hl 0 rfl) ?_
    refine va_iald hx hb hT.1 hP 5 0 rfl rfl (hin) d_T_stored_28 ?_
    refine ob_callW (v := none) (X := []) (M := tW b F S tI tZ tw g) (M' := tW b F S tI tZ tw (m_make F S g (6 * p0 + x / 4) (sg_pg g (ix (6 * p0 + x / 4))))) (ob_runV (n := 2) (As := [.int (6 * p0 + x / 4), .int (sg_pg g (ix (6 * p0 + x / 4)))]) (rest := []) (c_T_make l D tI tZ tA tJ b F S s.heap.size tw g (6 * p0 + x / 4) (sg_pg g (ix (6 * p0 + x / 4)))) (hT.ok ob_cd_c (by decide +kernel) rfl rfl (Nat.le_of_ble_eq_true rfl) (Nat.le_of_ble_eq_true rfl) kn_T kc_T_make) hx hb hml hown (hT.w k_T_83) (hT.w ki_T_make) (hT.w kv_T_make) (va_recv (q0 := 0) (ci := 2) hT.1 hP rfl rfl) pW.blind (pW.at hT (hm1 hc) hP hD) rfl rfl hl.1 rfl (lv_room (Nat.le_of_ble_eq_true rfl)) d_T_stored_29 ⟨Nat.le_of_ble_eq_true rfl, Nat.le_of_ble_eq_true rfl⟩) hP hD hS hA (fun H locs hP hD hS => ?_)
    have hP : va_P D vcl (tW b F S tI tZ tw (m_make F S g (6 * p0 + x / 4) (sg_pg g (ix (6 * p0 + x / 4))))) H := hP
    have hD : va_D A (tW b F S tI tZ tw (m_make F S g (6 * p0 + x / 4) (sg_pg g (ix (6 * p0 + x / 4))))) := hD
    refine W.eq (g2 := F0 m 32 ls []) rfl ?_
    refine lv_goto (tgt := 46) hx hb d_T_stored_32 (by decide) ?_
    exact hend ls H locs hl hP hD hS

set_option maxHeartbeats 4000000 in
set_option maxRecDepth 100000 in
/-- T_load -/
theorem c_T_load (l : Launch) (D : va_G) (tI tZ tA tJ : ClassId) (b : Nat → Nat) (F S sz : Nat) (tw : Int32) (g : Sg) (p0 x : Int32) : ob_M l y_T_load w_T_load ({ frames := 5, cells := 0, slots := 0, locals := 111 }) (pW D tI tZ tA tJ [.ref (b 0), .int p0, .int x] (tW b F S tI tZ tw g) sz (¬ m_isP (sg_th g) p0 = 0 → ¬ m_isA x = 0 → ml_ok F S g p0 x)) (ob_qW D vcl (some (.int ((m_load F S g p0 x).1))) (tW b F S tI tZ ((m_load F S g p0 x).2.1) ((m_load F S g p0 x).2.2)) (va_A (tW b F S tI tZ tw g) sz)) 0 0 (va_A (tW b F S tI tZ tw g) sz) := by
  refine ob_ofW (by decide +kernel) ?_
  intro p e s m args below meth c s₁ B hml htab hv
  obtain ⟨rfl, hT, hq, hsz, hP, hD0⟩ := hv
  have hx := B.exec
  have hb := B.bytes
  have hr := B.returns
  have hlocks := B.notSynchronized
  have hown : s.vm.findClass R_T = some m.cls := findClass_of_methodNamed B.named
  have hl := lv_entry ([.ref (b 0), .int p0, .int x]) (n := 3) (Nat.le_of_ble_eq_true rfl)
  rw [lg_entry_eq]
  generalize (lg_sl ([.ref (b 0), .int p0, .int x]) ++ List.replicate (3 - (lg_sl ([.ref (b 0), .int p0, .int x])).length) Slot.unset).toArray = ls at hl ⊢
  have hl : lv_has ls 3 [(0, .ref (b 0)), (1, .int p0), (2, .int x)] := hl
  subst hsz
  have hD := hD0.self (sz := s.heap.size)
  generalize hAe : va_A (tW b F S tI tZ tw g) s.heap.size = A at hD ⊢
  have hA : ∀ q : Nat, s.heap.size ≤ q → A q := fun q h => by rw [← hAe]; exact Or.inr h
  have hS : va_S A s.heap s.heap [] := va_S.rf
  refine lv_aload_n hx hb d_T_load_0 rfl (lv_at hl 0 rfl) ?_
  refine lv_aload_n hx hb d_T_load_1 rfl (lv_at hl 0 rfl) ?_
  refine lv_iload_n hx hb d_T_load_2 rfl (lv_at hl 1 rfl) ?_
  refine ob_callR (v := (some (.int (m_isP (sg_th g) p0)))) (ob_runV (n := 1) (As := [.int p0]) (rest := [.ref (b 0)]) (c_T_isProcess l D tI tZ tA tJ b F S tw g p0) (hT.ok ob_cd_c (by decide +kernel) rfl rfl (Nat.le_of_ble_eq_true rfl) (Nat.le_of_ble_eq_true rfl) kn_T kc_T_isProcess) hx hb hml hown (hT.w k_T_68) (hT.w ki_T_isProcess) (hT.w kv_T_isProcess) (va_recv (q0 := 0) (ci := 2) hT.1 hP rfl rfl) pR.blind (pR.at hT (trivial) hP) rfl rfl hl.1 rfl (lv_room (Nat.le_of_ble_eq_true rfl)) d_T_load_3 ⟨Nat.le_of_ble_eq_true rfl, Nat.le_of_ble_eq_true rfl⟩) ?_
  refine W.eq (g2 := F0 m 6 ls [.int (m_isP (sg_th g) p0), .ref (b 0)]) rfl ?_
  refine lv_if_ne (tgt := 13) hx hb d_T_load_6 (by decide) (fun hc => ?_) (fun hc => ?_)
  · have hc0 := hc
    refine lv_iload_n hx hb d_T_load_13 rfl (lv_at hl 2 rfl) ?_
    refine ob_callR (v := (some (.int (m_isA x)))) (ob_runS (n := 1) (As := [.int x]) (rest := [.ref (b 0)]) (c_T_isAddress l D tI tZ tA tJ x) (hT.ok ob_cd_c (by decide +kernel) rfl rfl (Nat.le_of_ble_eq_true rfl) (Nat.le_of_ble_eq_true rfl) kn_T kc_T_isAddress) hx hb hml hown (hT.w k_T_87) (hT.w ks_T_isAddress) pR.blind (pR.at hT (trivial) (hP.sub [] rfl)) rfl rfl hl.1 rfl (lv_room (Nat.le_of_ble_eq_true rfl)) d_T_load_14 ⟨Nat.le_of_ble_eq_true rfl, Nat.le_of_ble_eq_true rfl⟩) ?_
    refine W.eq (g2 := F0 m 17 ls [.int (m_isA x), .ref (b 0)]) rfl ?_
    refine lv_if_ne (tgt := 24) hx hb d_T_load_17 (by decide) (fun hc => ?_) (fun hc => ?_)
    · have e1 : m_load F S g p0 x = ((m_loaded F S g p0 x).1, 0, (m_loaded F S g p0 x).2) := by unfold m_load; rw [if_neg hc0, if_neg hc]
      rw [e1]
      have hc1 := hc
      refine lv_iconst (v := 0) hx hb d_T_load_24 (by decide) ?_
      refine va_put (D := D) (ci := 2) (v := .int 0) (ty := .int) hx hb hT.lays ly_T ty_T ty_T_ok n_T hown hT.1 hP hD hS 0 rfl rfl 0 (by decide) (hT.w k_T_33) (fun _ h => h) rfl (by decide +kernel) rfl rfl (Nat.le_of_ble_eq_true rfl) d_T_load_25 (fun H locs hP hD hS => ?_)
      have hP : va_P D vcl (tW b F S tI tZ 0 g) H := hP
      have hD : va_D A (tW b F S tI tZ 0 g) := hD
      refine lv_aload_n hx hb d_T_load_28 rfl (lv_at hl 0 rfl) ?_
      refine va_get (D := D) (ci := 2) (v := .int 0) hx hb hT.lays ly_T hown hT.1 hP 0 rfl rfl 0 (by decide) (hT.w k_T_33) (fun _ h => h) rfl d_T_load_29 ?_
      refine lv_if_le (tgt := 39) hx hb d_T_load_32 (by decide) (fun hc => ?_) (fun hc => absurd (by decide) hc)
      refine lv_aload_n hx hb d_T_load_39 rfl (lv_at hl 0 rfl) ?_
      refine lv_iload_n hx hb d_T_load_40 rfl (lv_at hl 1 rfl) ?_
      refine lv_iload_n hx hb d_T_load_41 rfl (lv_at hl 2 rfl) ?_
      refine ob_callW (v := (some (.int ((m_loaded F S g p0 x).1)))) (X := []) (M := tW b F S tI tZ 0 g) (M' := tW b F S tI tZ 0 ((m_loaded F S g p0 x).2)) (ob_runV (n := 2) (As := [.int p0, .int x]) (rest := []) (c_T_loaded l D tI tZ tA tJ b F S H.size 0 g p0 x) (hT.ok ob_cd_c (by decide +kernel) rfl rfl (Nat.le_of_ble_eq_true rfl) (Nat.le_of_ble_eq_true rfl) kn_T kc_T_loaded) hx hb hml hown (hT.w k_T_90) (hT.w ki_T_loaded) (hT.w kv_T_loaded) (va_recv (q0 := 0) (ci := 2) hT.1 hP rfl rfl) pW.blind (pW.at hT (hq hc0 hc1) hP hD) rfl rfl hl.1 rfl (lv_room (Nat.le_of_ble_eq_true rfl)) d_T_load_42 ⟨Nat.le_of_ble_eq_true rfl, Nat.le_of_ble_eq_true rfl⟩) hP hD hS hA (fun H locs hP hD hS => ?_)
      have hP : va_P D vcl (tW b F S tI tZ 0 ((m_loaded F S g p0 x).2)) H := hP
      have hD : va_D A (tW b F S tI tZ 0 ((m_loaded F S g p0 x).2)) := hD
      refine W.eq (g2 := F0 m 45 ls [.int ((m_loaded F S g p0 x).1)]) rfl ?_
      refine ob_iret hlocks hx hb hr d_T_load_45 hS.2.2 (fun t ht hW => ?_)
      exact ⟨rfl, by rw [ht]; exact hP, hD, hS.F ht⟩
    · have e1 : m_load F S g p0 x = (0, 2, g) := by unfold m_load; rw [if_neg hc0, if_pos hc]
      rw [e1]
      refine lv_iconst (v := 2) hx hb d_T_load_20 (by decide) ?_
      refine lv_goto (tgt := 25) hx hb d_T_load_21 (by decide) ?_
      refine va_put (D := D) (ci := 2) (v := .int 2) (ty := .int) hx hb hT.lays ly_T ty_T ty_T_ok n_T hown hT.1 hP hD hS 0 rfl rfl 0 (by decide) (hT.w k_T_33) (fun _ h => h) rfl (by decide +kernel) rfl rfl (Nat.le_of_ble_eq_true rfl) d_T_load_25 (fun H locs hP hD hS => ?_)
      have hP : va_P D vcl (tW b F S tI tZ 2 g) H := hP
      have hD : va_D A (tW b F S tI tZ 2 g) := hD
      refine lv_aload_n hx hb d_T_load_28 rfl (lv_at hl 0 rfl) ?_
      refine va_get (D := D) (ci := 2) (v := .int 2) hx hb hT.lays ly_T hown hT.1 hP 0 rfl rfl 0 (by decide) (hT.w k_T_33) (fun _ h => h) rfl d_T_load_29 ?_
      refine lv_if_le (tgt := 39) hx hb d_T_load_32 (by decide) (fun hc => absurd hc (by decide)) (fun hc => ?_)
      refine lv_iconst (v := 0) hx hb d_T_load_35 (by decide) ?_
      refine lv_goto (tgt := 45) hx hb d_T_load_36 (by decide) ?_
      refine ob_iret hlocks hx hb hr d_T_load_45 hS.2.2 (fun t ht hW => ?_)
      exact ⟨rfl, by rw [ht]; exact hP, hD, hS.F ht⟩
  · have e1 : m_load F S g p0 x = (0, 1, g) := if_pos hc
    rw [e1]
    refine lv_iconst (v := 1) hx hb d_T_load_9 (by decide) ?_
    refine lv_goto (tgt := 25) hx hb d_T_load_10 (by decide) ?_
    refine va_put (D := D) (ci := 2) (v := .int 1) (ty := .int) hx hb hT.lays ly_T ty_T ty_T_ok n_T hown hT.1 hP hD hS 0 rfl rfl 0 (by decide) (hT.w k_T_33) (fun _ h => h) rfl (by decide +kernel) rfl rfl (Nat.le_of_ble_eq_true rfl) d_T_load_25 (fun H locs hP hD hS => ?_)
    have hP : va_P D vcl (tW b F S tI tZ 1 g) H := hP
    have hD : va_D A (tW b F S tI tZ 1 g) := hD
    refine lv_aload_n hx hb d_T_load_28 rfl (lv_at hl 0 rfl) ?_
    refine va_get (D := D) (ci := 2) (v := .int 1) hx hb hT.lays ly_T hown hT.1 hP 0 rfl rfl 0 (by decide) (hT.w k_T_33) (fun _ h => h) rfl d_T_load_29 ?_
    refine lv_if_le (tgt := 39) hx hb d_T_load_32 (by decide) (fun hc => absurd hc (by decide)) (fun hc => ?_)
    refine lv_iconst (v := 0) hx hb d_T_load_35 (by decide) ?_
    refine lv_goto (tgt := 45) hx hb d_T_load_36 (by decide) ?_
    refine ob_iret hlocks hx hb hr d_T_load_45 hS.2.2 (fun t ht hW => ?_)
    exact ⟨rfl, by rw [ht]; exact hP, hD, hS.F ht⟩

set_option maxHeartbeats 4000000 in
set_option maxRecDepth 100000 in
/-- T_store -/
theorem c_T_store (l : Launch) (D : va_G) (tI tZ tA tJ : ClassId) (b : Nat → Nat) (F S sz : Nat) (tw : Int32) (g : Sg) (p0 x v : Int32) : ob_M l y_T_store w_T_store ({ frames := 5, cells := 0, slots := 0, locals := 116 }) (pW D tI tZ tA tJ [.ref (b 0), .int p0, .int x, .int v] (tW b F S tI tZ tw g) sz (F ≤ 8 ∧ S ≤ 10 ∧ (¬ m_isP (sg_th g) p0 = 0 → ¬ m_isA x = 0 → vp_in (6 * p0 + x / 4) 36 ∧ (m_needs (sg_pg g) p0 x = 0 ∨ ¬ m_canMake F S (sg_li g) = 0 → ms_ok F S g p0 x)))) (ob_qW D vcl none (tW b F S tI tZ ((m_store F S g p0 x v).1) ((m_store F S g p0 x v).2)) (va_A (tW b F S tI tZ tw g) sz)) 0 0 (va_A (tW b F S tI tZ tw g) sz) := by
  refine ob_ofW (by decide +kernel) ?_
  intro p e s m args below meth c s₁ B hml htab hv
  obtain ⟨rfl, hT, ⟨hF, hS10, hq⟩, hsz, hP, hD0⟩ := hv
  have hx := B.exec
  have hb := B.bytes
  have hr := B.returns
  have hlocks := B.notSynchronized
  have hown : s.vm.findClass R_T = some m.cls := findClass_of_methodNamed B.named
  have hl := lv_entry ([.ref (b 0), .int p0, .int x, .int v]) (n := 4) (Nat.le_of_ble_eq_true rfl)
  rw [lg_entry_eq]
  generalize (lg_sl ([.ref (b 0), .int p0, .int x, .int v]) ++ List.replicate (4 - (lg_sl ([.ref (b 0), .int p0, .int x, .int v])).length) Slot.unset).toArray = ls at hl ⊢
  have hl : lv_has ls 4 [(0, .ref (b 0)), (1, .int p0), (2, .int x), (3, .int v)] := hl
  subst hsz
  have hD := hD0.self (sz := s.heap.size)
  generalize hAe : va_A (tW b F S tI tZ tw g) s.heap.size = A at hD ⊢
  have hA : ∀ q : Nat, s.heap.size ≤ q → A q := fun q h => by rw [← hAe]; exact Or.inr h
  have hS : va_S A s.heap s.heap [] := va_S.rf
  refine lv_aload_n hx hb d_T_store_0 rfl (lv_at hl 0 rfl) ?_
  refine lv_aload_n hx hb d_T_store_1 rfl (lv_at hl 0 rfl) ?_
  refine lv_iload_n hx hb d_T_store_2 rfl (lv_at hl 1 rfl) ?_
  refine ob_callR (v := (some (.int (m_isP (sg_th g) p0)))) (ob_runV (n := 1) (As := [.int p0]) (rest := [.ref (b 0)]) (c_T_isProcess l D tI tZ tA tJ b F S tw g p0) (hT.ok ob_cd_c (by decide +kernel) rfl rfl (Nat.le_of_ble_eq_true rfl) (Nat.le_of_ble_eq_true rfl) kn_T kc_T_isProcess) hx hb hml hown (hT.w k_T_68) (hT.w ki_T_isProcess) (hT.w kv_T_isProcess) (va_recv (q0 := 0) (ci := 2) hT.1 hP rfl rfl) pR.blind (pR.at hT (trivial) hP) rfl rfl hl.1 rfl (lv_room (Nat.le_of_ble_eq_true rfl)) d_T_store_3 ⟨Nat.le_of_ble_eq_true rfl, Nat.le_of_ble_eq_true rfl⟩) ?_
  refine W.eq (g2 := F0 m 6 ls [.int (m_isP (sg_th g) p0), .ref (b 0)]) rfl ?_
  refine lv_if_ne (tgt := 13) hx hb d_T_store_6 (by decide) (fun hc => ?_) (fun hc => ?_)
  · have hc0 := hc
    refine lv_iload_n hx hb d_T_store_13 rfl (lv_at hl 2 rfl) ?_
    refine ob_callR (v := (some (.int (m_isA x)))) (ob_runS (n := 1) (As := [.int x]) (rest := [.ref (b 0)]) (c_T_isAddress l D tI tZ tA tJ x) (hT.ok ob_cd_c (by decide +kernel) rfl rfl (Nat.le_of_ble_eq_true rfl) (Nat.le_of_ble_eq_true rfl) kn_T kc_T_isAddress) hx hb hml hown (hT.w k_T_87) (hT.w ks_T_isAddress) pR.blind (pR.at hT (trivial) (hP.sub [] rfl)) rfl rfl hl.1 rfl (lv_room (Nat.le_of_ble_eq_true rfl)) d_T_store_14 ⟨Nat.le_of_ble_eq_true rfl, Nat.le_of_ble_eq_true rfl⟩) ?_
    refine W.eq (g2 := F0 m 17 ls [.int (m_isA x), .ref (b 0)]) rfl ?_
    refine lv_if_ne (tgt := 24) hx hb d_T_store_17 (by decide) (fun hc => ?_) (fun hc => ?_)
    · have hc1 := hc
      obtain ⟨hin, hok⟩ := hq hc0 hc1
      refine lv_iconst (v := 0) hx hb d_T_store_24 (by decide) ?_
      refine va_put (D := D) (ci := 2) (v := .int 0) (ty := .int) hx hb hT.lays ly_T ty_T ty_T_ok n_T hown hT.1 hP hD hS 0 rfl rfl 0 (by decide) (hT.w k_T_33) (fun _ h => h) rfl (by decide +kernel) rfl rfl (Nat.le_of_ble_eq_true rfl) d_T_store_25 (fun H locs hP hD hS => ?_)
      have hP : va_P D vcl (tW b F S tI tZ 0 g) H := hP
      have hD : va_D A (tW b F S tI tZ 0 g) := hD
      refine lv_aload_n hx hb d_T_store_28 rfl (lv_at hl 0 rfl) ?_
      refine va_get (D := D) (ci := 2) (v := .int 0) hx hb hT.lays ly_T hown hT.1 hP 0 rfl rfl 0 (by decide) (hT.w k_T_33) (fun _ h => h) rfl d_T_store_29 ?_
      refine lv_if_le (tgt := 36) hx hb d_T_store_32 (by decide) (fun hc => ?_) (fun hc => absurd (by decide) hc)
      refine lv_aload_n hx hb d_T_store_36 rfl (lv_at hl 0 rfl) ?_
      refine lv_iload_n hx hb d_T_store_37 rfl (lv_at hl 1 rfl) ?_
      refine lv_iload_n hx hb d_T_store_38 rfl (lv_at hl 2 rfl) ?_
      refine ob_callR (v := (some (.int (m_needs (sg_pg g) p0 x)))) (ob_runV (n := 2) (As := [.int p0, .int x]) (rest := []) (c_T_needs l D tI tZ tA tJ b F S 0 g p0 x) (hT.ok ob_cd_c (by decide +kernel) rfl rfl (Nat.le_of_ble_eq_true rfl) (Nat.le_of_ble_eq_true rfl) kn_T kc_T_needs) hx hb hml hown (hT.w k_T_79) (hT.w ki_T_needs) (hT.w kv_T_needs) (va_recv (q0 := 0) (ci := 2) hT.1 hP rfl rfl) pR.blind (pR.at hT (hin) hP) rfl rfl hl.1 rfl (lv_room (Nat.le_of_ble_eq_true rfl)) d_T_store_39 ⟨Nat.le_of_ble_eq_true rfl, Nat.le_of_ble_eq_true rfl⟩) ?_
      refine W.eq (g2 := F0 m 42 ls [.int (m_needs (sg_pg g) p0 x)]) rfl ?_
      refine lv_if_eq (tgt := 58) hx hb d_T_store_42 (by decide) (fun hc => ?_) (fun hc => ?_)
      · have e1 : m_store F S g p0 x v = (0, m_stored F S g p0 x v) := by unfold m_store; rw [if_neg hc0, if_neg hc1, if_pos hc]
        rw [e1]
        refine lv_aload_n hx hb d_T_store_58 rfl (lv_at hl 0 rfl) ?_
        refine lv_iload_n hx hb d_T_store_59 rfl (lv_at hl 1 rfl) ?_
        refine lv_iload_n hx hb d_T_store_60 rfl (lv_at hl 2 rfl) ?_
        refine lv_iload_n hx hb d_T_store_61 rfl (lv_at hl 3 rfl) ?_
        refine ob_callW (v := none) (X := []) (M := tW b F S tI tZ 0 g) (M' := tW b F S tI tZ 0 (m_stored F S g p0 x v)) (ob_runV (n := 3) (As := [.int p0, .int x, .int v]) (rest := []) (c_T_stored l D tI tZ tA tJ b F S H.size 0 g p0 x v) (hT.ok ob_cd_c (by decide +kernel) rfl rfl (Nat.le_of_ble_eq_true rfl) (Nat.le_of_ble_eq_true rfl) kn_T kc_T_stored) hx hb hml hown (hT.w k_T_98) (hT.w ki_T_stored) (hT.w kv_T_stored) (va_recv (q0 := 0) (ci := 2) hT.1 hP rfl rfl) pW.blind (pW.at hT (hok (Or.inl hc)) hP hD) rfl rfl hl.1 rfl (lv_room (Nat.le_of_ble_eq_true rfl)) d_T_store_62 ⟨Nat.le_of_ble_eq_true rfl, Nat.le_of_ble_eq_true rfl⟩) hP hD hS hA (fun H locs hP hD hS => ?_)
        have hP : va_P D vcl (tW b F S tI tZ 0 (m_stored F S g p0 x v)) H := hP
        have hD : va_D A (tW b F S tI tZ 0 (m_stored F S g p0 x v)) := hD
        refine W.eq (g2 := F0 m 65 ls []) rfl ?_
        refine ob_vret hlocks hx hb hr d_T_store_65 hS.2.2 (fun t ht hW => ?_)
        exact ⟨rfl, by rw [ht]; exact hP, hD, hS.F ht⟩
      · have hc2 := hc
        refine lv_aload_n hx hb d_T_store_45 rfl (lv_at hl 0 rfl) ?_
        refine ob_callR (v := (some (.int (m_canMake F S (sg_li g))))) (ob_runV (n := 0) (As := []) (rest := []) (c_T_canMake l D tI tZ tA tJ b F S 0 g) (hT.ok ob_cd_c (by decide +kernel) rfl rfl (Nat.le_of_ble_eq_true rfl) (Nat.le_of_ble_eq_true rfl) kn_T kc_T_canMake) hx hb hml hown (hT.w k_T_94) (hT.w ki_T_canMake) (hT.w kv_T_canMake) (va_recv (q0 := 0) (ci := 2) hT.1 hP rfl rfl) pR.blind (pR.at hT (⟨hF, hS10⟩) hP) rfl rfl hl.1 rfl (lv_room (Nat.le_of_ble_eq_true rfl)) d_T_store_46 ⟨Nat.le_of_ble_eq_true rfl, Nat.le_of_ble_eq_true rfl⟩) ?_
        refine W.eq (g2 := F0 m 49 ls [.int (m_canMake F S (sg_li g))]) rfl ?_
        refine lv_if_ne (tgt := 58) hx hb d_T_store_49 (by decide) (fun hc => ?_) (fun hc => ?_)
        · have e1 : m_store F S g p0 x v = (0, m_stored F S g p0 x v) := by unfold m_store; rw [if_neg hc0, if_neg hc1, if_neg hc2, if_neg hc]
          rw [e1]
          refine lv_aload_n hx hb d_T_store_58 rfl (lv_at hl 0 rfl) ?_
          refine lv_iload_n hx hb d_T_store_59 rfl (lv_at hl 1 rfl) ?_
          refine lv_iload_n hx hb d_T_store_60 rfl (lv_at hl 2 rfl) ?_
          refine lv_iload_n hx hb d_T_store_61 rfl (lv_at hl 3 rfl) ?_
          refine ob_callW (v := none) (X := []) (M := tW b F S tI tZ 0 g) (M' := tW b F S tI tZ 0 (m_stored F S g p0 x v)) (ob_runV (n := 3) (As := [.int p0, .int x, .int v]) (rest := []) (c_T_stored l D tI tZ tA tJ b F S H.size 0 g p0 x v) (hT.ok ob_cd_c (by decide +kernel) rfl rfl (Nat.le_of_ble_eq_true rfl) (Nat.le_of_ble_eq_true rfl) kn_T kc_T_stored) hx hb hml hown (hT.w k_T_98) (hT.w ki_T_stored) (hT.w kv_T_stored) (va_recv (q0 := 0) (ci := 2) hT.1 hP rfl rfl) pW.blind (pW.at hT (hok (Or.inr hc)) hP hD) rfl rfl hl.1 rfl (lv_room (Nat.le_of_ble_eq_true rfl)) d_T_store_62 ⟨Nat.le_of_ble_eq_true rfl, Nat.le_of_ble_eq_true rfl⟩) hP hD hS hA (fun H locs hP hD hS => ?_)
          have hP : va_P D vcl (tW b F S tI tZ 0 (m_stored F S g p0 x v)) H := hP
          have hD : va_D A (tW b F S tI tZ 0 (m_stored F S g p0 x v)) := hD
          refine W.eq (g2 := F0 m 65 ls []) rfl ?_
          refine ob_vret hlocks hx hb hr d_T_store_65 hS.2.2 (fun t ht hW => ?_)
          exact ⟨rfl, by rw [ht]; exact hP, hD, hS.F ht⟩
        · have e1 : m_store F S g p0 x v = (3, g) := by unfold m_store; rw [if_neg hc0, if_neg hc1, if_neg hc2, if_pos hc]
          rw [e1]
          refine lv_aload_n hx hb d_T_store_52 rfl (lv_at hl 0 rfl) ?_
          refine lv_iconst (v := 3) hx hb d_T_store_53 (by decide) ?_
          refine va_put (D := D) (ci := 2) (v := .int 3) (ty := .int) hx hb hT.lays ly_T ty_T ty_T_ok n_T hown hT.1 hP hD hS 0 rfl rfl 0 (by decide) (hT.w k_T_33) (fun _ h => h) rfl (by decide +kernel) rfl rfl (Nat.le_of_ble_eq_true rfl) d_T_store_54 (fun H locs hP hD hS => ?_)
          have hP : va_P D vcl (tW b F S tI tZ 3 g) H := hP
          have hD : va_D A (tW b F S tI tZ 3 g) := hD
          refine ob_vret hlocks hx hb hr d_T_store_57 hS.2.2 (fun t ht hW => ?_)
          exact ⟨rfl, by rw [ht]; exact hP, hD, hS.F ht⟩
    · have e1 : m_store F S g p0 x v = (2, g) := by unfold m_store; rw [if_neg hc0, if_pos hc]
      rw [e1]
      refine lv_iconst (v := 2) hx hb d_T_store_20 (by decide) ?_
      refine lv_goto (tgt := 25) hx hb d_T_store_21 (by decide) ?_
      refine va_put (D := D) (ci := 2) (v := .int 2) (ty := .int) hx hb hT.lays ly_T ty_T ty_T_ok n_T hown hT.1 hP hD hS 0 rfl rfl 0 (by decide) (hT.w k_T_33) (fun _ h => h) rfl (by decide +kernel) rfl rfl (Nat.le_of_ble_eq_true rfl) d_T_store_25 (fun H locs hP hD hS => ?_)
      have hP : va_P D vcl (tW b F S tI tZ 2 g) H := hP
      have hD : va_D A (tW b F S tI tZ 2 g) := hD
      refine lv_aload_n hx hb d_T_store_28 rfl (lv_at hl 0 rfl) ?_
      refine va_get (D := D) (ci := 2) (v := .int 2) hx hb hT.lays ly_T hown hT.1 hP 0 rfl rfl 0 (by decide) (hT.w k_T_33) (fun _ h => h) rfl d_T_store_29 ?_
      refine lv_if_le (tgt := 36) hx hb d_T_store_32 (by decide) (fun hc => absurd hc (by decide)) (fun hc => ?_)
      refine ob_vret hlocks hx hb hr d_T_store_35 hS.2.2 (fun t ht hW => ?_)
      exact ⟨rfl, by rw [ht]; exact hP, hD, hS.F ht⟩
  · have e1 : m_store F S g p0 x v = (1, g) := if_pos hc
    rw [e1]
    refine lv_iconst (v := 1) hx hb d_T_store_9 (by decide) ?_
    refine lv_goto (tgt := 25) hx hb d_T_store_10 (by decide) ?_
    refine va_put (D := D) (ci := 2) (v := .int 1) (ty := .int) hx hb hT.lays ly_T ty_T ty_T_ok n_T hown hT.1 hP hD hS 0 rfl rfl 0 (by decide) (hT.w k_T_33) (fun _ h => h) rfl (by decide +kernel) rfl rfl (Nat.le_of_ble_eq_true rfl) d_T_store_25 (fun H locs hP hD hS => ?_)
    have hP : va_P D vcl (tW b F S tI tZ 1 g) H := hP
    have hD : va_D A (tW b F S tI tZ 1 g) := hD
    refine lv_aload_n hx hb d_T_store_28 rfl (lv_at hl 0 rfl) ?_
    refine va_get (D := D) (ci := 2) (v := .int 1) hx hb hT.lays ly_T hown hT.1 hP 0 rfl rfl 0 (by decide) (hT.w k_T_33) (fun _ h => h) rfl d_T_store_29 ?_
    refine lv_if_le (tgt := 36) hx hb d_T_store_32 (by decide) (fun hc => absurd hc (by decide)) (fun hc => ?_)
    refine ob_vret hlocks hx hb hr d_T_store_35 hS.2.2 (fun t ht hW => ?_)
    exact ⟨rfl, by rw [ht]; exact hP, hD, hS.F ht⟩
end
section
set_option maxHeartbeats 4000000 in
set_option maxRecDepth 100000 in
/-- T_copy -/
theorem c_T_copy (l : Launch) (D : va_G) (tI tZ tA tJ : ClassId) (b : Nat → Nat) (F S sz : Nat) (tw : Int32) (g : Sg) (p0 a d n : Int32) : ob_M l y_T_copy w_T_copy ({ frames := 5, cells := 0, slots := 0, locals := 116 }) (pW D tI tZ tA tJ [.ref (b 0), .int p0, .int a, .int d, .int n] (tW b F S tI tZ tw g) sz (F ≤ 8 ∧ S ≤ 10 ∧ (¬ m_isP (sg_th g) p0 = 0 → m_bad a d n = 0 → vp_in n 25 ∧ mc_ok F S p0 a d (ix n) (su_cp g 0)))) (ob_qW D vcl none (tW b F S tI tZ ((m_copy F S g p0 a d n).1) ((m_copy F S g p0 a d n).2)) (va_A (tW b F S tI tZ tw g) sz)) 0 0 (va_A (tW b F S tI tZ tw g) sz) := by
  refine ob_ofW (by decide +kernel) ?_
  intro p e s m args below meth c s₁ B hml htab hv
  obtain ⟨rfl, hT, ⟨hF, hS10, hq⟩, hsz, hP, hD0⟩ := hv
  have hx := B.exec
  have hb := B.bytes
  have hr := B.returns
  have hlocks := B.notSynchronized
  have hown : s.vm.findClass R_T = some m.cls := findClass_of_methodNamed B.named
  have hl := lv_entry ([.ref (b 0), .int p0, .int a, .int d, .int n]) (n := 7) (Nat.le_of_ble_eq_true rfl)
  rw [lg_entry_eq]
  generalize (lg_sl ([.ref (b 0), .int p0, .int a, .int d, .int n]) ++ List.replicate (7 - (lg_sl ([.ref (b 0), .int p0, .int a, .int d, .int n])).length) Slot.unset).toArray = ls at hl ⊢
  have hl : lv_has ls 7 [(0, .ref (b 0)), (1, .int p0), (2, .int a), (3, .int d), (4, .int n)] := hl
  subst hsz
  have hD := hD0.self (sz := s.heap.size)
  generalize hAe : va_A (tW b F S tI tZ tw g) s.heap.size = A at hD ⊢
  have hA : ∀ q : Nat, s.heap.size ≤ q → A q := fun q h => by rw [← hAe]; exact Or.inr h
  have hS : va_S A s.heap s.heap [] := va_S.rf
  have hend : ∀ (ls : Array Slot), lv_has ls 7 [(0, .ref (b 0)), (1, .int p0), (2, .int a), (3, .int d), (4, .int n)] → W p l e ({ frames := 5, cells := 0, slots := 0, locals := 116 } : Room) s m ([.ref (b 0), .int p0, .int a, .int d, .int n] : List Value).toArray below meth c s.heap [] 0 0 (ob_Q below (ob_qW D vcl none (tW b F S tI tZ ((m_copy F S g p0 a d n).1) ((m_copy F S g p0 a d n).2)) A) ([.ref (b 0), .int p0, .int a, .int d, .int n] : List Value).toArray s 0 0 A) (F0 m 54 ls [.int (m_bad a d n)]) := by
    intro ls hl
    refine lv_istore (lv' := [(5, .int (m_bad a d n)), (0, .ref (b 0)), (1, .int p0), (2, .int a), (3, .int d), (4, .int n)]) hx hb d_T_copy_54 hl (by decide) rfl (fun ls hl => ?_)
    refine lv_aload_n hx hb d_T_copy_56 rfl (lv_at hl 1 rfl) ?_
    refine lv_aload_n hx hb d_T_copy_57 rfl (lv_at hl 1 rfl) ?_
    refine lv_iload_n hx hb d_T_copy_58 rfl (lv_at hl 2 rfl) ?_
    refine ob_callR (v := (some (.int (m_isP (sg_th g) p0)))) (ob_runV (n := 1) (As := [.int p0]) (rest := [.ref (b 0)]) (c_T_isProcess l D tI tZ tA tJ b F S tw g p0) (hT.ok ob_cd_c (by decide +kernel) rfl rfl (Nat.le_of_ble_eq_true rfl) (Nat.le_of_ble_eq_true rfl) kn_T kc_T_isProcess) hx hb hml hown (hT.w k_T_68) (hT.w ki_T_isProcess) (hT.w kv_T_isProcess) (va_recv (q0 := 0) (ci := 2) hT.1 hP rfl rfl) pR.blind (pR.at hT (trivial) hP) rfl rfl hl.1 rfl (lv_room (Nat.le_of_ble_eq_true rfl)) d_T_copy_59 ⟨Nat.le_of_ble_eq_true rfl, Nat.le_of_ble_eq_true rfl⟩) ?_
    refine W.eq (g2 := F0 m 62 ls [.int (m_isP (sg_th g) p0), .ref (b 0)]) rfl ?_
    refine lv_if_ne (tgt := 69) hx hb d_T_copy_62 (by decide) (fun hc => ?_) (fun hc => ?_)
    · have hc0 := hc
      refine lv_iload hx hb d_T_copy_69 (lv_at hl 0 rfl) ?_
      refine lv_if_eq (tgt := 78) hx hb d_T_copy_71 (by decide) (fun hc => ?_) (fun hc => ?_)
      · obtain ⟨hn25, hok⟩ := hq hc0 hc
        have e1 : m_copy F S g p0 a d n = m_copyL F S p0 a d (ix n) (su_cp g 0) := by unfold m_copy; rw [if_neg hc0, if_pos hc]
        rw [e1]
        obtain ⟨N, hN, hnN⟩ := vp_in_of hn25 (by omega)
        have hixn : ix n = N := by rw [hnN]; exact nI_clamp (by omega)
        rw [hixn] at hok ⊢
        obtain ⟨RR, hRR⟩ : ∃ z, z = m_copyL F S p0 a d N (su_cp g 0) := ⟨_, rfl⟩
        rw [← hRR]
        refine lv_iconst (v := 0) hx hb d_T_copy_78 (by decide) ?_
        refine va_put (D := D) (ci := 2) (v := .int 0) (ty := .int) hx hb hT.lays ly_T ty_T ty_T_ok n_T hown hT.1 hP hD hS 0 rfl rfl 0 (by decide) (hT.w k_T_33) (fun _ h => h) rfl (by decide +kernel) rfl rfl (Nat.le_of_ble_eq_true rfl) d_T_copy_79 (fun H locs hP hD hS => ?_)
        have hP : va_P D vcl (tW b F S tI tZ 0 g) H := hP
        have hD : va_D A (tW b F S tI tZ 0 g) := hD
        refine lv_aload_n hx hb d_T_copy_82 rfl (lv_at hl 1 rfl) ?_
        refine va_get (D := D) (ci := 2) (v := .int 0) hx hb hT.lays ly_T hown hT.1 hP 0 rfl rfl 0 (by decide) (hT.w k_T_33) (fun _ h => h) rfl d_T_copy_83 ?_
        refine lv_if_le (tgt := 90) hx hb d_T_copy_86 (by decide) (fun hc => ?_) (fun hc => absurd (by decide) hc)
        refine lv_aload_n hx hb d_T_copy_90 rfl (lv_at hl 1 rfl) ?_
        refine lv_iconst (v := 0) hx hb d_T_copy_91 (by decide) ?_
        refine va_put (D := D) (ci := 2) (v := .int 0) (ty := .int) hx hb hT.lays ly_T ty_T ty_T_ok n_T hown hT.1 hP hD hS 0 rfl rfl 11 (by decide) (hT.w k_T_102) (fun _ h => h) rfl (by decide +kernel) rfl rfl (Nat.le_of_ble_eq_true rfl) d_T_copy_92 (fun H locs hP hD hS => ?_)
        have hP : va_P D vcl (tW b F S tI tZ 0 (su_cp g 0)) H := hP
        have hD : va_D A (tW b F S tI tZ 0 (su_cp g 0)) := hD
        have hl : lv_has ls 7 [(0, .ref (b 0)), (1, .int p0), (2, .int a), (3, .int d), (4, .int n)] := lv_sub hl [1, 2, 3, 4, 5] rfl
        have loop : ∀ (f : Nat) (q : Sg) (ls : Array Slot) (H : Heap) (locs : List Loc) (i : Nat), i + f = N → sg_cp q = nI i → m_copyL F S p0 a d f q = RR → mc_ok F S p0 a d f q → lv_has ls 7 [(0, .ref (b 0)), (1, .int p0), (2, .int a), (3, .int d), (4, .int n)] → va_P D vcl (tW b F S tI tZ 0 q) H → va_D A (tW b F S tI tZ 0 q) → va_S A s.heap H locs → W p l e ({ frames := 5, cells := 0, slots := 0, locals := 116 } : Room) s m ([.ref (b 0), .int p0, .int a, .int d, .int n] : List Value).toArray below meth c H locs 0 0 (ob_Q below (ob_qW D vcl none (tW b F S tI tZ RR.1 RR.2) A) ([.ref (b 0), .int p0, .int a, .int d, .int n] : List Value).toArray s 0 0 A) (F0 m 95 ls []) := by
          intro f
          induction f with
          | zero =>
            intro q ls H locs i hi hcp hR hok hl hP hD hS
            refine lv_aload_n hx hb d_T_copy_95 rfl (lv_at hl 0 rfl) ?_
            refine va_get (D := D) (ci := 2) (v := .int (sg_cp q)) hx hb hT.lays ly_T hown hT.1 hP 0 rfl rfl 11 (by decide) (hT.w k_T_102) (fun _ h => h) rfl d_T_copy_96 ?_
            refine lv_iload hx hb d_T_copy_99 (lv_at hl 4 rfl) ?_
            refine lv_icmp_ge (tgt := 179) hx hb d_T_copy_101 (by decide) (fun hc => ?_) (fun hc => absurd (by rw [hcp, hnN]; exact nI_le (by omega) (by omega)) hc)
            rw [← hR]
            refine ob_vret hlocks hx hb hr d_T_copy_179 hS.2.2 (fun t ht hW => ?_)
            exact ⟨rfl, by rw [ht]; exact hP, hD, hS.F ht⟩
          | succ f ih =>
            intro q ls H locs i hi hcp hR hok hl hP hD hS
            refine lv_aload_n hx hb d_T_copy_95 rfl (lv_at hl 0 rfl) ?_
            refine va_get (D := D) (ci := 2) (v := .int (sg_cp q)) hx hb hT.lays ly_T hown hT.1 hP 0 rfl rfl 11 (by decide) (hT.w k_T_102) (fun _ h => h) rfl d_T_copy_96 ?_
            refine lv_iload hx hb d_T_copy_99 (lv_at hl 4 rfl) ?_
            refine lv_icmp_ge (tgt := 179) hx hb d_T_copy_101 (by decide) (fun hc => absurd (by rw [hcp, hnN] at hc; exact hc) (nI_ge (by omega) (by omega))) (fun hc => ?_)
            refine lv_aload_n hx hb d_T_copy_104 rfl (lv_at hl 0 rfl) ?_
            refine va_get (D := D) (ci := 2) (v := .int 0) hx hb hT.lays ly_T hown hT.1 hP 0 rfl rfl 0 (by decide) (hT.w k_T_33) (fun _ h => h) rfl d_T_copy_105 ?_
            refine lv_if_ne (tgt := 179) hx hb d_T_copy_108 (by decide) (fun hc => absurd rfl hc) (fun hc => ?_)
            obtain ⟨hml1, hin, hok2⟩ := hok
            refine lv_aload_n hx hb d_T_copy_111 rfl (lv_at hl 0 rfl) ?_
            refine lv_iload_n hx hb d_T_copy_112 rfl (lv_at hl 1 rfl) ?_
            refine lv_iload_n hx hb d_T_copy_113 rfl (lv_at hl 2 rfl) ?_
            refine lv_aload_n hx hb d_T_copy_114 rfl (lv_at hl 0 rfl) ?_
            refine va_get (D := D) (ci := 2) (v := .int (sg_cp q)) hx hb hT.lays ly_T hown hT.1 hP 0 rfl rfl 11 (by decide) (hT.w k_T_102) (fun _ h => h) rfl d_T_copy_115 ?_
            refine lv_iadd hx hb d_T_copy_118 ?_
            refine ob_callW (v := (some (.int ((m_loaded F S q p0 (a + sg_cp q)).1)))) (X := []) (M := tW b F S tI tZ 0 q) (M' := tW b F S tI tZ 0 ((m_loaded F S q p0 (a + sg_cp q)).2)) (ob_runV (n := 2) (As := [.int p0, .int (a + sg_cp q)]) (rest := []) (c_T_loaded l D tI tZ tA tJ b F S H.size 0 q p0 (a + sg_cp q)) (hT.ok ob_cd_c (by decide +kernel) rfl rfl (Nat.le_of_ble_eq_true rfl) (Nat.le_of_ble_eq_true rfl) kn_T kc_T_loaded) hx hb hml hown (hT.w k_T_90) (hT.w ki_T_loaded) (hT.w kv_T_loaded) (va_recv (q0 := 0) (ci := 2) hT.1 hP rfl rfl) pW.blind (pW.at hT (hml1) hP hD) rfl rfl hl.1 rfl (lv_room (Nat.le_of_ble_eq_true rfl)) d_T_copy_119 ⟨Nat.le_of_ble_eq_true rfl, Nat.le_of_ble_eq_true rfl⟩) hP hD hS hA (fun H locs hP hD hS => ?_)
            have hP : va_P D vcl (tW b F S tI tZ 0 ((m_loaded F S q p0 (a + sg_cp q)).2)) H := hP
            have hD : va_D A (tW b F S tI tZ 0 ((m_loaded F S q p0 (a + sg_cp q)).2)) := hD
            refine W.eq (g2 := F0 m 122 ls [.int ((m_loaded F S q p0 (a + sg_cp q)).1)]) rfl ?_
            refine lv_istore (lv' := [(6, .int ((m_loaded F S q p0 (a + sg_cp q)).1)), (0, .ref (b 0)), (1, .int p0), (2, .int a), (3, .int d), (4, .int n)]) hx hb d_T_copy_122 hl (by decide) rfl (fun ls hl => ?_)
            refine lv_aload_n hx hb d_T_copy_124 rfl (lv_at hl 1 rfl) ?_
            refine lv_iload_n hx hb d_T_copy_125 rfl (lv_at hl 2 rfl) ?_
            refine lv_iload_n hx hb d_T_copy_126 rfl (lv_at hl 4 rfl) ?_
            refine lv_aload_n hx hb d_T_copy_127 rfl (lv_at hl 1 rfl) ?_
            refine va_get (D := D) (ci := 2) (v := .int (sg_cp ((m_loaded F S q p0 (a + sg_cp q)).2))) hx hb hT.lays ly_T hown hT.1 hP 0 rfl rfl 11 (by decide) (hT.w k_T_102) (fun _ h => h) rfl d_T_copy_128 ?_
            refine lv_iadd hx hb d_T_copy_131 ?_
            refine ob_callR (v := (some (.int (m_needs (sg_pg (m_loaded F S q p0 (a + sg_cp q)).2) p0 (d + sg_cp (m_loaded F S q p0 (a + sg_cp q)).2))))) (ob_runV (n := 2) (As := [.int p0, .int (d + sg_cp (m_loaded F S q p0 (a + sg_cp q)).2)]) (rest := []) (c_T_needs l D tI tZ tA tJ b F S 0 ((m_loaded F S q p0 (a + sg_cp q)).2) p0 (d + sg_cp (m_loaded F S q p0 (a + sg_cp q)).2)) (hT.ok ob_cd_c (by decide +kernel) rfl rfl (Nat.le_of_ble_eq_true rfl) (Nat.le_of_ble_eq_true rfl) kn_T kc_T_needs) hx hb hml hown (hT.w k_T_79) (hT.w ki_T_needs) (hT.w kv_T_needs) (va_recv (q0 := 0) (ci := 2) hT.1 hP rfl rfl) pR.blind (pR.at hT (hin) hP) rfl rfl hl.1 rfl (lv_room (Nat.le_of_ble_eq_true rfl)) d_T_copy_132 ⟨Nat.le_of_ble_eq_true rfl, Nat.le_of_ble_eq_true rfl⟩) ?_
            refine W.eq (g2 := F0 m 135 ls [.int (m_needs (sg_pg (m_loaded F S q p0 (a + sg_cp q)).2) p0 (d + sg_cp (m_loaded F S q p0 (a + sg_cp q)).2))]) rfl ?_
            have hcp2 : sg_cp (su_cp (m_stored F S (m_loaded F S q p0 (a + sg_cp q)).2 p0 (d + sg_cp (m_loaded F S q p0 (a + sg_cp q)).2) (m_loaded F S q p0 (a + sg_cp q)).1) (sg_cp (m_stored F S (m_loaded F S q p0 (a + sg_cp q)).2 p0 (d + sg_cp (m_loaded F S q p0 (a + sg_cp q)).2) (m_loaded F S q p0 (a + sg_cp q)).1) + 1)) = nI (i + 1) := by show sg_cp (m_stored F S (m_loaded F S q p0 (a + sg_cp q)).2 p0 (d + sg_cp (m_loaded F S q p0 (a + sg_cp q)).2) (m_loaded F S q p0 (a + sg_cp q)).1) + 1 = nI (i + 1); rw [m_stored_cp, m_loaded_cp, hcp, nI_1]
            have hgo : (m_needs (sg_pg (m_loaded F S q p0 (a + sg_cp q)).2) p0 (d + sg_cp (m_loaded F S q p0 (a + sg_cp q)).2) = 0 ∨ ¬ m_canMake F S (sg_li (m_loaded F S q p0 (a + sg_cp q)).2) = 0) → m_copyL F S p0 a d (f + 1) q = m_copyL F S p0 a d f (su_cp (m_stored F S (m_loaded F S q p0 (a + sg_cp q)).2 p0 (d + sg_cp (m_loaded F S q p0 (a + sg_cp q)).2) (m_loaded F S q p0 (a + sg_cp q)).1) (sg_cp (m_stored F S (m_loaded F S q p0 (a + sg_cp q)).2 p0 (d + sg_cp (m_loaded F S q p0 (a + sg_cp q)).2) (m_loaded F S q p0 (a + sg_cp q)).1) + 1)) → ∀ (ls : Array Slot), lv_has ls 7 [(6, .int ((m_loaded F S q p0 (a + sg_cp q)).1)), (0, .ref (b 0)), (1, .int p0), (2, .int a), (3, .int d), (4, .int n)] → W p l e ({ frames := 5, cells := 0, slots := 0, locals := 116 } : Room) s m ([.ref (b 0), .int p0, .int a, .int d, .int n] : List Value).toArray below meth c H locs 0 0 (ob_Q below (ob_qW D vcl none (tW b F S tI tZ RR.1 RR.2) A) ([.ref (b 0), .int p0, .int a, .int d, .int n] : List Value).toArray s 0 0 A) (F0 m 153 ls []) := by
              intro hor e3 ls hl
              obtain ⟨hms, hok3⟩ := hok2 hor
              refine lv_aload_n hx hb d_T_copy_153 rfl (lv_at hl 1 rfl) ?_
              refine lv_iload_n hx hb d_T_copy_154 rfl (lv_at hl 2 rfl) ?_
              refine lv_iload_n hx hb d_T_copy_155 rfl (lv_at hl 4 rfl) ?_
              refine lv_aload_n hx hb d_T_copy_156 rfl (lv_at hl 1 rfl) ?_
              refine va_get (D := D) (ci := 2) (v := .int (sg_cp ((m_loaded F S q p0 (a + sg_cp q)).2))) hx hb hT.lays ly_T hown hT.1 hP 0 rfl rfl 11 (by decide) (hT.w k_T_102) (fun _ h => h) rfl d_T_copy_157 ?_
              refine lv_iadd hx hb d_T_copy_160 ?_
              refine lv_iload hx hb d_T_copy_161 (lv_at hl 0 rfl) ?_
              refine ob_callW (v := none) (X := []) (M := tW b F S tI tZ 0 ((m_loaded F S q p0 (a + sg_cp q)).2)) (M' := tW b F S tI tZ 0 (m_stored F S (m_loaded F S q p0 (a + sg_cp q)).2 p0 (d + sg_cp (m_loaded F S q p0 (a + sg_cp q)).2) (m_loaded F S q p0 (a + sg_cp q)).1)) (ob_runV (n := 3) (As := [.int p0, .int (d + sg_cp (m_loaded F S q p0 (a + sg_cp q)).2), .int ((m_loaded F S q p0 (a + sg_cp q)).1)]) (rest := []) (c_T_stored l D tI tZ tA tJ b F S H.size 0 ((m_loaded F S q p0 (a + sg_cp q)).2) p0 (d + sg_cp (m_loaded F S q p0 (a + sg_cp q)).2) ((m_loaded F S q p0 (a + sg_cp q)).1)) (hT.ok ob_cd_c (by decide +kernel) rfl rfl (Nat.le_of_ble_eq_true rfl) (Nat.le_of_ble_eq_true rfl) kn_T kc_T_stored) hx hb hml hown (hT.w k_T_98) (hT.w ki_T_stored) (hT.w kv_T_stored) (va_recv (q0 := 0) (ci := 2) hT.1 hP rfl rfl) pW.blind (pW.at hT (hms) hP hD) rfl rfl hl.1 rfl (lv_room (Nat.le_of_ble_eq_true rfl)) d_T_copy_163 ⟨Nat.le_of_ble_eq_true rfl, Nat.le_of_ble_eq_true rfl⟩) hP hD hS hA (fun H locs hP hD hS => ?_)
              have hP : va_P D vcl (tW b F S tI tZ 0 (m_stored F S (m_loaded F S q p0 (a + sg_cp q)).2 p0 (d + sg_cp (m_loaded F S q p0 (a + sg_cp q)).2) (m_loaded F S q p0 (a + sg_cp q)).1)) H := hP
              have hD : va_D A (tW b F S tI tZ 0 (m_stored F S (m_loaded F S q p0 (a + sg_cp q)).2 p0 (d + sg_cp (m_loaded F S q p0 (a + sg_cp q)).2) (m_loaded F S q p0 (a + sg_cp q)).1)) := hD
              refine W.eq (g2 := F0 m 166 ls []) rfl ?_
              refine lv_aload_n hx hb d_T_copy_166 rfl (lv_at hl 1 rfl) ?_
              refine lv_dup hx hb d_T_copy_167 rfl ?_
              refine va_get (D := D) (ci := 2) (v := .int (sg_cp (m_stored F S (m_loaded F S q p0 (a + sg_cp q)).2 p0 (d + sg_cp (m_loaded F S q p0 (a + sg_cp q)).2) (m_loaded F S q p0 (a + sg_cp q)).1))) hx hb hT.lays ly_T hown hT.1 hP 0 rfl rfl 11 (by decide) (hT.w k_T_102) (fun _ h => h) rfl d_T_copy_168 ?_
              refine lv_iconst (v := 1) hx hb d_T_copy_171 (by decide) ?_
              refine lv_iadd hx hb d_T_copy_172 ?_
              refine va_put (D := D) (ci := 2) (v := .int ((sg_cp (m_stored F S (m_loaded F S q p0 (a + sg_cp q)).2 p0 (d + sg_cp (m_loaded F S q p0 (a + sg_cp q)).2) (m_loaded F S q p0 (a + sg_cp q)).1)) + 1)) (ty := .int) hx hb hT.lays ly_T ty_T ty_T_ok n_T hown hT.1 hP hD hS 0 rfl rfl 11 (by decide) (hT.w k_T_102) (fun _ h => h) rfl (by decide +kernel) rfl rfl (Nat.le_of_ble_eq_true rfl) d_T_copy_173 (fun H locs hP hD hS => ?_)
              have hP : va_P D vcl (tW b F S tI tZ 0 (su_cp (m_stored F S (m_loaded F S q p0 (a + sg_cp q)).2 p0 (d + sg_cp (m_loaded F S q p0 (a + sg_cp q)).2) (m_loaded F S q p0 (a + sg_cp q)).1) ((sg_cp (m_stored F S (m_loaded F S q p0 (a + sg_cp q)).2 p0 (d + sg_cp (m_loaded F S q p0 (a + sg_cp q)).2) (m_loaded F S q p0 (a + sg_cp q)).1)) + 1))) H := hP
              have hD : va_D A (tW b F S tI tZ 0 (su_cp (m_stored F S (m_loaded F S q p0 (a + sg_cp q)).2 p0 (d + sg_cp (m_loaded F S q p0 (a + sg_cp q)).2) (m_loaded F S q p0 (a + sg_cp q)).1) ((sg_cp (m_stored F S (m_loaded F S q p0 (a + sg_cp q)).2 p0 (d + sg_cp (m_loaded F S q p0 (a + sg_cp q)).2) (m_loaded F S q p0 (a + sg_cp q)).1)) + 1))) := hD
              refine lv_goto (tgt := 95) hx hb d_T_copy_176 (by decide) ?_
              exact ih (su_cp (m_stored F S (m_loaded F S q p0 (a + sg_cp q)).2 p0 (d + sg_cp (m_loaded F S q p0 (a + sg_cp q)).2) (m_loaded F S q p0 (a + sg_cp q)).1) (sg_cp (m_stored F S (m_loaded F S q p0 (a + sg_cp q)).2 p0 (d + sg_cp (m_loaded F S q p0 (a + sg_cp q)).2) (m_loaded F S q p0 (a + sg_cp q)).1) + 1)) ls H locs (i + 1) (by omega) hcp2 (e3 ▸ hR) hok3 (lv_sub hl [1, 2, 3, 4, 5] rfl) hP hD hS
            have hl : lv_has ls 7 [(6, .int ((m_loaded F S q p0 (a + sg_cp q)).1)), (0, .ref (b 0)), (1, .int p0), (2, .int a), (3, .int d), (4, .int n)] := lv_sub hl [0, 1, 2, 3, 4, 5] rfl
            refine lv_if_eq (tgt := 153) hx hb d_T_copy_135 (by decide) (fun hc => ?_) (fun hc => ?_)
            · exact hgo (Or.inl hc) (if_pos hc) ls hl
            · have hcn := hc
              refine lv_aload_n hx hb d_T_copy_138 rfl (lv_at hl 1 rfl) ?_
              refine ob_callR (v := (some (.int (m_canMake F S (sg_li (m_loaded F S q p0 (a + sg_cp q)).2))))) (ob_runV (n := 0) (As := []) (rest := []) (c_T_canMake l D tI tZ tA tJ b F S 0 ((m_loaded F S q p0 (a + sg_cp q)).2)) (hT.ok ob_cd_c (by decide +kernel) rfl rfl (Nat.le_of_ble_eq_true rfl) (Nat.le_of_ble_eq_true rfl) kn_T kc_T_canMake) hx hb hml hown (hT.w k_T_94) (hT.w ki_T_canMake) (hT.w kv_T_canMake) (va_recv (q0 := 0) (ci := 2) hT.1 hP rfl rfl) pR.blind (pR.at hT (⟨hF, hS10⟩) hP) rfl rfl hl.1 rfl (lv_room (Nat.le_of_ble_eq_true rfl)) d_T_copy_139 ⟨Nat.le_of_ble_eq_true rfl, Nat.le_of_ble_eq_true rfl⟩) ?_
              refine W.eq (g2 := F0 m 142 ls [.int (m_canMake F S (sg_li (m_loaded F S q p0 (a + sg_cp q)).2))]) rfl ?_
              refine lv_if_ne (tgt := 153) hx hb d_T_copy_142 (by decide) (fun hc => ?_) (fun hc => ?_)
              · exact hgo (Or.inr hc) (show m_copyL F S p0 a d (f + 1) q = _ by rw [m_copyL]; rw [if_neg hcn, if_neg hc]) ls hl
              · have e3 : m_copyL F S p0 a d (f + 1) q = (3, (m_loaded F S q p0 (a + sg_cp q)).2) := by rw [m_copyL]; rw [if_neg hcn, if_pos hc]
                rw [e3] at hR
                subst hR
                refine lv_aload_n hx hb d_T_copy_145 rfl (lv_at hl 1 rfl) ?_
                refine lv_iconst (v := 3) hx hb d_T_copy_146 (by decide) ?_
                refine va_put (D := D) (ci := 2) (v := .int 3) (ty := .int) hx hb hT.lays ly_T ty_T ty_T_ok n_T hown hT.1 hP hD hS 0 rfl rfl 0 (by decide) (hT.w k_T_33) (fun _ h => h) rfl (by decide +kernel) rfl rfl (Nat.le_of_ble_eq_true rfl) d_T_copy_147 (fun H locs hP hD hS => ?_)
                have hP : va_P D vcl (tW b F S tI tZ 3 ((m_loaded F S q p0 (a + sg_cp q)).2)) H := hP
                have hD : va_D A (tW b F S tI tZ 3 ((m_loaded F S q p0 (a + sg_cp q)).2)) := hD
                refine lv_goto (tgt := 176) hx hb d_T_copy_150 (by decide) ?_
                refine lv_goto (tgt := 95) hx hb d_T_copy_176 (by decide) ?_
                refine lv_aload_n hx hb d_T_copy_95 rfl (lv_at hl 1 rfl) ?_
                refine va_get (D := D) (ci := 2) (v := .int (sg_cp ((m_loaded F S q p0 (a + sg_cp q)).2))) hx hb hT.lays ly_T hown hT.1 hP 0 rfl rfl 11 (by decide) (hT.w k_T_102) (fun _ h => h) rfl d_T_copy_96 ?_
                refine lv_iload hx hb d_T_copy_99 (lv_at hl 5 rfl) ?_
                refine lv_icmp_ge (tgt := 179) hx hb d_T_copy_101 (by decide) (fun hc => ?_) (fun hc => ?_)
                · refine ob_vret hlocks hx hb hr d_T_copy_179 hS.2.2 (fun t ht hW => ?_)
                  exact ⟨rfl, by rw [ht]; exact hP, hD, hS.F ht⟩
                · refine lv_aload_n hx hb d_T_copy_104 rfl (lv_at hl 1 rfl) ?_
                  refine va_get (D := D) (ci := 2) (v := .int 3) hx hb hT.lays ly_T hown hT.1 hP 0 rfl rfl 0 (by decide) (hT.w k_T_33) (fun _ h => h) rfl d_T_copy_105 ?_
                  refine lv_if_ne (tgt := 179) hx hb d_T_copy_108 (by decide) (fun hc => ?_) (fun hc => absurd hc (by decide))
                  refine ob_vret hlocks hx hb hr d_T_copy_179 hS.2.2 (fun t ht hW => ?_)
                  exact ⟨rfl, by rw [ht]; exact hP, hD, hS.F ht⟩
        exact loop N (su_cp g 0) ls H locs 0 (by omega) rfl hRR.symm hok hl hP hD hS
      · have e1 : m_copy F S g p0 a d n = (2, g) := by unfold m_copy; rw [if_neg hc0, if_neg hc]
        rw [e1]
        refine lv_iconst (v := 2) hx hb d_T_copy_74 (by decide) ?_
        refine lv_goto (tgt := 79) hx hb d_T_copy_75 (by decide) ?_
        refine va_put (D := D) (ci := 2) (v := .int 2) (ty := .int) hx hb hT.lays ly_T ty_T ty_T_ok n_T hown hT.1 hP hD hS 0 rfl rfl 0 (by decide) (hT.w k_T_33) (fun _ h => h) rfl (by decide +kernel) rfl rfl (Nat.le_of_ble_eq_true rfl) d_T_copy_79 (fun H locs hP hD hS => ?_)
        have hP : va_P D vcl (tW b F S tI tZ 2 g) H := hP
        have hD : va_D A (tW b F S tI tZ 2 g) := hD
        refine lv_aload_n hx hb d_T_copy_82 rfl (lv_at hl 1 rfl) ?_
        refine va_get (D := D) (ci := 2) (v := .int 2) hx hb hT.lays ly_T hown hT.1 hP 0 rfl rfl 0 (by decide) (hT.w k_T_33) (fun _ h => h) rfl d_T_copy_83 ?_
        refine lv_if_le (tgt := 90) hx hb d_T_copy_86 (by decide) (fun hc => absurd hc (by decide)) (fun hc => ?_)
        refine ob_vret hlocks hx hb hr d_T_copy_89 hS.2.2 (fun t ht hW => ?_)
        exact ⟨rfl, by rw [ht]; exact hP, hD, hS.F ht⟩
    · have e1 : m_copy F S g p0 a d n = (1, g) := if_pos hc
      rw [e1]
      refine lv_iconst (v := 1) hx hb d_T_copy_65 (by decide) ?_
      refine lv_goto (tgt := 79) hx hb d_T_copy_66 (by decide) ?_
      refine va_put (D := D) (ci := 2) (v := .int 1) (ty := .int) hx hb hT.lays ly_T ty_T ty_T_ok n_T hown hT.1 hP hD hS 0 rfl rfl 0 (by decide) (hT.w k_T_33) (fun _ h => h) rfl (by decide +kernel) rfl rfl (Nat.le_of_ble_eq_true rfl) d_T_copy_79 (fun H locs hP hD hS => ?_)
      have hP : va_P D vcl (tW b F S tI tZ 1 g) H := hP
      have hD : va_D A (tW b F S tI tZ 1 g) := hD
      refine lv_aload_n hx hb d_T_copy_82 rfl (lv_at hl 1 rfl) ?_
      refine va_get (D := D) (ci := 2) (v := .int 1) hx hb hT.lays ly_T hown hT.1 hP 0 rfl rfl 0 (by decide) (hT.w k_T_33) (fun _ h => h) rfl d_T_copy_83 ?_
      refine lv_if_le (tgt := 90) hx hb d_T_copy_86 (by decide) (fun hc => absurd hc (by decide)) (fun hc => ?_)
      refine ob_vret hlocks hx hb hr d_T_copy_89 hS.2.2 (fun t ht hW => ?_)
      exact ⟨rfl, by rw [ht]; exact hP, hD, hS.F ht⟩
  unfold m_bad at hend
  refine lv_iload hx hb d_T_copy_0 (lv_at hl 4 rfl) ?_
  refine lv_if_lt (tgt := 49) hx hb d_T_copy_2 (by decide) (fun hc => ?_) (fun hc => ?_)
  · rw [if_pos hc] at hend
    refine lv_iconst (v := 1) hx hb d_T_copy_49 (by decide) ?_
    refine lv_goto (tgt := 54) hx hb d_T_copy_50 (by decide) ?_
    exact hend ls hl
  · rw [if_neg hc] at hend
    refine lv_iload hx hb d_T_copy_5 (lv_at hl 4 rfl) ?_
    refine lv_bipush (v := 24) hx hb d_T_copy_7 (by decide) ?_
    refine lv_icmp_gt (tgt := 49) hx hb d_T_copy_9 (by decide) (fun hc => ?_) (fun hc => ?_)
    · rw [if_pos hc] at hend
      refine lv_iconst (v := 1) hx hb d_T_copy_49 (by decide) ?_
      refine lv_goto (tgt := 54) hx hb d_T_copy_50 (by decide) ?_
      exact hend ls hl
    · rw [if_neg hc] at hend
      refine lv_iload hx hb d_T_copy_12 (lv_at hl 4 rfl) ?_
      refine lv_if_le (tgt := 53) hx hb d_T_copy_14 (by decide) (fun hc => ?_) (fun hc => ?_)
      · rw [if_pos hc] at hend
        refine lv_iconst (v := 0) hx hb d_T_copy_53 (by decide) ?_
        exact hend ls hl
      · rw [if_neg hc] at hend
        refine lv_iload_n hx hb d_T_copy_17 rfl (lv_at hl 2 rfl) ?_
        refine ob_callR (v := (some (.int (m_isA a)))) (ob_runS (n := 1) (As := [.int a]) (rest := []) (c_T_isAddress l D tI tZ tA tJ a) (hT.ok ob_cd_c (by decide +kernel) rfl rfl (Nat.le_of_ble_eq_true rfl) (Nat.le_of_ble_eq_true rfl) kn_T kc_T_isAddress) hx hb hml hown (hT.w k_T_87) (hT.w ks_T_isAddress) pR.blind (pR.at hT (trivial) (hP.sub [] rfl)) rfl rfl hl.1 rfl (lv_room (Nat.le_of_ble_eq_true rfl)) d_T_copy_18 ⟨Nat.le_of_ble_eq_true rfl, Nat.le_of_ble_eq_true rfl⟩) ?_
        refine W.eq (g2 := F0 m 21 ls [.int (m_isA a)]) rfl ?_
        refine lv_if_eq (tgt := 49) hx hb d_T_copy_21 (by decide) (fun hc => ?_) (fun hc => ?_)
        · rw [if_pos hc] at hend
          refine lv_iconst (v := 1) hx hb d_T_copy_49 (by decide) ?_
          refine lv_goto (tgt := 54) hx hb d_T_copy_50 (by decide) ?_
          exact hend ls hl
        · rw [if_neg hc] at hend
          refine lv_iload_n hx hb d_T_copy_24 rfl (lv_at hl 3 rfl) ?_
          refine ob_callR (v := (some (.int (m_isA d)))) (ob_runS (n := 1) (As := [.int d]) (rest := []) (c_T_isAddress l D tI tZ tA tJ d) (hT.ok ob_cd_c (by decide +kernel) rfl rfl (Nat.le_of_ble_eq_true rfl) (Nat.le_of_ble_eq_true rfl) kn_T kc_T_isAddress) hx hb hml hown (hT.w k_T_87) (hT.w ks_T_isAddress) pR.blind (pR.at hT (trivial) (hP.sub [] rfl)) rfl rfl hl.1 rfl (lv_room (Nat.le_of_ble_eq_true rfl)) d_T_copy_25 ⟨Nat.le_of_ble_eq_true rfl, Nat.le_of_ble_eq_true rfl⟩) ?_
          refine W.eq (g2 := F0 m 28 ls [.int (m_isA d)]) rfl ?_
          refine lv_if_eq (tgt := 49) hx hb d_T_copy_28 (by decide) (fun hc => ?_) (fun hc => ?_)
          · rw [if_pos hc] at hend
            refine lv_iconst (v := 1) hx hb d_T_copy_49 (by decide) ?_
            refine lv_goto (tgt := 54) hx hb d_T_copy_50 (by decide) ?_
            exact hend ls hl
          · rw [if_neg hc] at hend
            refine lv_iload_n hx hb d_T_copy_31 rfl (lv_at hl 2 rfl) ?_
            refine lv_iload hx hb d_T_copy_32 (lv_at hl 4 rfl) ?_
            refine lv_iadd hx hb d_T_copy_34 ?_
            refine lv_bipush (v := 24) hx hb d_T_copy_35 (by decide) ?_
            refine lv_icmp_gt (tgt := 49) hx hb d_T_copy_37 (by decide) (fun hc => ?_) (fun hc => ?_)
            · rw [if_pos hc] at hend
              refine lv_iconst (v := 1) hx hb d_T_copy_49 (by decide) ?_
              refine lv_goto (tgt := 54) hx hb d_T_copy_50 (by decide) ?_
              exact hend ls hl
            · rw [if_neg hc] at hend
              refine lv_iload_n hx hb d_T_copy_40 rfl (lv_at hl 3 rfl) ?_
              refine lv_iload hx hb d_T_copy_41 (lv_at hl 4 rfl) ?_
              refine lv_iadd hx hb d_T_copy_43 ?_
              refine lv_bipush (v := 24) hx hb d_T_copy_44 (by decide) ?_
              refine lv_icmp_le (tgt := 53) hx hb d_T_copy_46 (by decide) (fun hc => ?_) (fun hc => ?_)
              · rw [if_pos hc] at hend
                refine lv_iconst (v := 0) hx hb d_T_copy_53 (by decide) ?_
                exact hend ls hl
              · rw [if_neg hc] at hend
                refine lv_iconst (v := 1) hx hb d_T_copy_49 (by decide) ?_
                refine lv_goto (tgt := 54) hx hb d_T_copy_50 (by decide) ?_
                exact hend ls hl

set_option maxHeartbeats 4000000 in
set_option maxRecDepth 100000 in
/-- T_copied -/
theorem c_T_copied (l : Launch) (D : va_G) (tI tZ tA tJ : ClassId) (b : Nat → Nat) (F S sz : Nat) (tw : Int32) (g : Sg)  : ob_M l y_T_copied w_T_copied ({ frames := 0, cells := 0, slots := 0, locals := 0 }) (pW D tI tZ tA tJ [.ref (b 0)] (tW b F S tI tZ tw g) sz (True)) (ob_qW D vcl (some (.int (sg_cp g))) (tW b F S tI tZ 0 g) (va_A (tW b F S tI tZ tw g) sz)) 0 0 (va_A (tW b F S tI tZ tw g) sz) := by
  refine ob_ofW (by decide +kernel) ?_
  intro p e s m args below meth c s₁ B hml htab hv
  obtain ⟨rfl, hT, -, hsz, hP, hD0⟩ := hv
  have hx := B.exec
  have hb := B.bytes
  have hr := B.returns
  have hlocks := B.notSynchronized
  have hown : s.vm.findClass R_T = some m.cls := findClass_of_methodNamed B.named
  have hl := lv_entry ([.ref (b 0)]) (n := 1) (Nat.le_of_ble_eq_true rfl)
  rw [lg_entry_eq]
  generalize (lg_sl ([.ref (b 0)]) ++ List.replicate (1 - (lg_sl ([.ref (b 0)])).length) Slot.unset).toArray = ls at hl ⊢
  have hl : lv_has ls 1 [(0, .ref (b 0))] := hl
  subst hsz
  have hD := hD0.self (sz := s.heap.size)
  generalize hAe : va_A (tW b F S tI tZ tw g) s.heap.size = A at hD ⊢
  have hA : ∀ q : Nat, s.heap.size ≤ q → A q := fun q h => by rw [← hAe]; exact Or.inr h
  have hS : va_S A s.heap s.heap [] := va_S.rf
  refine lv_aload_n hx hb d_T_copied_0 rfl (lv_at hl 0 rfl) ?_
  refine lv_iconst (v := 0) hx hb d_T_copied_1 (by decide) ?_
  refine va_put (D := D) (ci := 2) (v := .int 0) (ty := .int) hx hb hT.lays ly_T ty_T ty_T_ok n_T hown hT.1 hP hD hS 0 rfl rfl 0 (by decide) (hT.w k_T_33) (fun _ h => h) rfl (by decide +kernel) rfl rfl (Nat.le_of_ble_eq_true rfl) d_T_copied_2 (fun H locs hP hD hS => ?_)
  have hP : va_P D vcl (tW b F S tI tZ 0 g) H := hP
  have hD : va_D A (tW b F S tI tZ 0 g) := hD
  refine lv_aload_n hx hb d_T_copied_5 rfl (lv_at hl 0 rfl) ?_
  refine va_get (D := D) (ci := 2) (v := .int (sg_cp g)) hx hb hT.lays ly_T hown hT.1 hP 0 rfl rfl 11 (by decide) (hT.w k_T_102) (fun _ h => h) rfl d_T_copied_6 ?_
  refine ob_iret hlocks hx hb hr d_T_copied_9 hS.2.2 (fun t ht hW => ?_)
  exact ⟨rfl, by rw [ht]; exact hP, hD, hS.F ht⟩

set_option maxHeartbeats 4000000 in
set_option maxRecDepth 100000 in
/-- T_hand -/
theorem c_T_hand (l : Launch) (D : va_G) (tI tZ tA tJ : ClassId) (b : Nat → Nat) (F S sz : Nat) (tw : Int32) (g : Sg)  : ob_M l y_T_hand w_T_hand ({ frames := 0, cells := 0, slots := 0, locals := 0 }) (pW D tI tZ tA tJ [.ref (b 0)] (tW b F S tI tZ tw g) sz (True)) (ob_qW D vcl (some (.int (sg_hd g))) (tW b F S tI tZ 0 g) (va_A (tW b F S tI tZ tw g) sz)) 0 0 (va_A (tW b F S tI tZ tw g) sz) := by
  refine ob_ofW (by decide +kernel) ?_
  intro p e s m args below meth c s₁ B hml htab hv
  obtain ⟨rfl, hT, -, hsz, hP, hD0⟩ := hv
  have hx := B.exec
  have hb := B.bytes
  have hr := B.returns
  have hlocks := B.notSynchronized
  have hown : s.vm.findClass R_T = some m.cls := findClass_of_methodNamed B.named
  have hl := lv_entry ([.ref (b 0)]) (n := 1) (Nat.le_of_ble_eq_true rfl)
  rw [lg_entry_eq]
  generalize (lg_sl ([.ref (b 0)]) ++ List.replicate (1 - (lg_sl ([.ref (b 0)])).length) Slot.unset).toArray = ls at hl ⊢
  have hl : lv_has ls 1 [(0, .ref (b 0))] := hl
  subst hsz
  have hD := hD0.self (sz := s.heap.size)
  generalize hAe : va_A (tW b F S tI tZ tw g) s.heap.size = A at hD ⊢
  have hA : ∀ q : Nat, s.heap.size ≤ q → A q := fun q h => by rw [← hAe]; exact Or.inr h
  have hS : va_S A s.heap s.heap [] := va_S.rf
  refine lv_aload_n hx hb d_T_hand_0 rfl (lv_at hl 0 rfl) ?_
  refine lv_iconst (v := 0) hx hb d_T_hand_1 (by decide) ?_
  refine va_put (D := D) (ci := 2) (v := .int 0) (ty := .int) hx hb hT.lays ly_T ty_T ty_T_ok n_T hown hT.1 hP hD hS 0 rfl rfl 0 (by decide) (hT.w k_T_33) (fun _ h => h) rfl (by decide +kernel) rfl rfl (Nat.le_of_ble_eq_true rfl) d_T_hand_2 (fun H locs hP hD hS => ?_)
  have hP : va_P D vcl (tW b F S tI tZ 0 g) H := hP
  have hD : va_D A (tW b F S tI tZ 0 g) := hD
  refine lv_aload_n hx hb d_T_hand_5 rfl (lv_at hl 0 rfl) ?_
  refine va_get (D := D) (ci := 2) (v := .int (sg_hd g)) hx hb hT.lays ly_T hown hT.1 hP 0 rfl rfl 4 (by decide) (hT.w k_T_40) (fun _ h => h) rfl d_T_hand_6 ?_
  refine ob_iret hlocks hx hb hr d_T_hand_9 hS.2.2 (fun t ht hW => ?_)
  exact ⟨rfl, by rw [ht]; exact hP, hD, hS.F ht⟩

set_option maxHeartbeats 4000000 in
set_option maxRecDepth 100000 in
/-- T_faults -/
theorem c_T_faults (l : Launch) (D : va_G) (tI tZ tA tJ : ClassId) (b : Nat → Nat) (F S sz : Nat) (tw : Int32) (g : Sg)  : ob_M l y_T_faults w_T_faults ({ frames := 0, cells := 0, slots := 0, locals := 0 }) (pW D tI tZ tA tJ [.ref (b 0)] (tW b F S tI tZ tw g) sz (True)) (ob_qW D vcl (some (.int (sg_fl g))) (tW b F S tI tZ 0 g) (va_A (tW b F S tI tZ tw g) sz)) 0 0 (va_A (tW b F S tI tZ tw g) sz) := by
  refine ob_ofW (by decide +kernel) ?_
  intro p e s m args below meth c s₁ B hml htab hv
  obtain ⟨rfl, hT, -, hsz, hP, hD0⟩ := hv
  have hx := B.exec
  have hb := B.bytes
  have hr := B.returns
  have hlocks := B.notSynchronized
  have hown : s.vm.findClass R_T = some m.cls := findClass_of_methodNamed B.named
  have hl := lv_entry ([.ref (b 0)]) (n := 1) (Nat.le_of_ble_eq_true rfl)
  rw [lg_entry_eq]
  generalize (lg_sl ([.ref (b 0)]) ++ List.replicate (1 - (lg_sl ([.ref (b 0)])).length) Slot.unset).toArray = ls at hl ⊢
  have hl : lv_has ls 1 [(0, .ref (b 0))] := hl
  subst hsz
  have hD := hD0.self (sz := s.heap.size)
  generalize hAe : va_A (tW b F S tI tZ tw g) s.heap.size = A at hD ⊢
  have hA : ∀ q : Nat, s.heap.size ≤ q → A q := fun q h => by rw [← hAe]; exact Or.inr h
  have hS : va_S A s.heap s.heap [] := va_S.rf
  refine lv_aload_n hx hb d_T_faults_0 rfl (lv_at hl 0 rfl) ?_
  refine lv_iconst (v := 0) hx hb d_T_faults_1 (by decide) ?_
  refine va_put (D := D) (ci := 2) (v := .int 0) (ty := .int) hx hb hT.lays ly_T ty_T ty_T_ok n_T hown hT.1 hP hD hS 0 rfl rfl 0 (by decide) (hT.w k_T_33) (fun _ h => h) rfl (by decide +kernel) rfl rfl (Nat.le_of_ble_eq_true rfl) d_T_faults_2 (fun H locs hP hD hS => ?_)
  have hP : va_P D vcl (tW b F S tI tZ 0 g) H := hP
  have hD : va_D A (tW b F S tI tZ 0 g) := hD
  refine lv_aload_n hx hb d_T_faults_5 rfl (lv_at hl 0 rfl) ?_
  refine va_get (D := D) (ci := 2) (v := .int (sg_fl g)) hx hb hT.lays ly_T hown hT.1 hP 0 rfl rfl 9 (by decide) (hT.w k_T_59) (fun _ h => h) rfl d_T_faults_6 ?_
  refine ob_iret hlocks hx hb hr d_T_faults_9 hS.2.2 (fun t ht hW => ?_)
  exact ⟨rfl, by rw [ht]; exact hP, hD, hS.F ht⟩

set_option maxHeartbeats 4000000 in
set_option maxRecDepth 100000 in
/-- T_evicted -/
theorem c_T_evicted (l : Launch) (D : va_G) (tI tZ tA tJ : ClassId) (b : Nat → Nat) (F S sz : Nat) (tw : Int32) (g : Sg)  : ob_M l y_T_evicted w_T_evicted ({ frames := 0, cells := 0, slots := 0, locals := 0 }) (pW D tI tZ tA tJ [.ref (b 0)] (tW b F S tI tZ tw g) sz (True)) (ob_qW D vcl (some (.int (sg_ev g))) (tW b F S tI tZ 0 g) (va_A (tW b F S tI tZ tw g) sz)) 0 0 (va_A (tW b F S tI tZ tw g) sz) := by
  refine ob_ofW (by decide +kernel) ?_
  intro p e s m args below meth c s₁ B hml htab hv
  obtain ⟨rfl, hT, -, hsz, hP, hD0⟩ := hv
  have hx := B.exec
  have hb := B.bytes
  have hr := B.returns
  have hlocks := B.notSynchronized
  have hown : s.vm.findClass R_T = some m.cls := findClass_of_methodNamed B.named
  have hl := lv_entry ([.ref (b 0)]) (n := 1) (Nat.le_of_ble_eq_true rfl)
  rw [lg_entry_eq]
  generalize (lg_sl ([.ref (b 0)]) ++ List.replicate (1 - (lg_sl ([.ref (b 0)])).length) Slot.unset).toArray = ls at hl ⊢
  have hl : lv_has ls 1 [(0, .ref (b 0))] := hl
  subst hsz
  have hD := hD0.self (sz := s.heap.size)
  generalize hAe : va_A (tW b F S tI tZ tw g) s.heap.size = A at hD ⊢
  have hA : ∀ q : Nat, s.heap.size ≤ q → A q := fun q h => by rw [← hAe]; exact Or.inr h
  have hS : va_S A s.heap s.heap [] := va_S.rf
  refine lv_aload_n hx hb d_T_evicted_0 rfl (lv_at hl 0 rfl) ?_
  refine lv_iconst (v := 0) hx hb d_T_evicted_1 (by decide) ?_
  refine va_put (D := D) (ci := 2) (v := .int 0) (ty := .int) hx hb hT.lays ly_T ty_T ty_T_ok n_T hown hT.1 hP hD hS 0 rfl rfl 0 (by decide) (hT.w k_T_33) (fun _ h => h) rfl (by decide +kernel) rfl rfl (Nat.le_of_ble_eq_true rfl) d_T_evicted_2 (fun H locs hP hD hS => ?_)
  have hP : va_P D vcl (tW b F S tI tZ 0 g) H := hP
  have hD : va_D A (tW b F S tI tZ 0 g) := hD
  refine lv_aload_n hx hb d_T_evicted_5 rfl (lv_at hl 0 rfl) ?_
  refine va_get (D := D) (ci := 2) (v := .int (sg_ev g)) hx hb hT.lays ly_T hown hT.1 hP 0 rfl rfl 10 (by decide) (hT.w k_T_53) (fun _ h => h) rfl d_T_evicted_6 ?_
  refine ob_iret hlocks hx hb hr d_T_evicted_9 hS.2.2 (fun t ht hW => ?_)
  exact ⟨rfl, by rw [ht]; exact hP, hD, hS.F ht⟩

theorem m_isP_nar (th : Nat → Int32) (p : Int32) : narrow .boolean (.int (m_isP th p)) = .int (m_isP th p) := by
  unfold m_isP
  split
  · rfl
  · split
    · rfl
    · split <;> rfl

set_option maxHeartbeats 4000000 in
set_option maxRecDepth 100000 in
/-- T_isThere -/
theorem c_T_isThere (l : Launch) (D : va_G) (tI tZ tA tJ : ClassId) (b : Nat → Nat) (F S sz : Nat) (tw : Int32) (g : Sg) (p0 : Int32) : ob_M l y_T_isThere w_T_isThere ({ frames := 1, cells := 0, slots := 0, locals := 21 }) (pW D tI tZ tA tJ [.ref (b 0), .int p0] (tW b F S tI tZ tw g) sz (True)) (ob_qW D vcl (some (.int (m_isP (sg_th g) p0))) (tW b F S tI tZ 0 g) (va_A (tW b F S tI tZ tw g) sz)) 0 0 (va_A (tW b F S tI tZ tw g) sz) := by
  refine ob_ofW (by decide +kernel) ?_
  intro p e s m args below meth c s₁ B hml htab hv
  obtain ⟨rfl, hT, -, hsz, hP, hD0⟩ := hv
  have hx := B.exec
  have hb := B.bytes
  have hr := B.returns
  have hlocks := B.notSynchronized
  have hown : s.vm.findClass R_T = some m.cls := findClass_of_methodNamed B.named
  have hl := lv_entry ([.ref (b 0), .int p0]) (n := 2) (Nat.le_of_ble_eq_true rfl)
  rw [lg_entry_eq]
  generalize (lg_sl ([.ref (b 0), .int p0]) ++ List.replicate (2 - (lg_sl ([.ref (b 0), .int p0])).length) Slot.unset).toArray = ls at hl ⊢
  have hl : lv_has ls 2 [(0, .ref (b 0)), (1, .int p0)] := hl
  subst hsz
  have hD := hD0.self (sz := s.heap.size)
  generalize hAe : va_A (tW b F S tI tZ tw g) s.heap.size = A at hD ⊢
  have hA : ∀ q : Nat, s.heap.size ≤ q → A q := fun q h => by rw [← hAe]; exact Or.inr h
  have hS : va_S A s.heap s.heap [] := va_S.rf
  refine lv_aload_n hx hb d_T_isThere_0 rfl (lv_at hl 0 rfl) ?_
  refine lv_iconst (v := 0) hx hb d_T_isThere_1 (by decide) ?_
  refine va_put (D := D) (ci := 2) (v := .int 0) (ty := .int) hx hb hT.lays ly_T ty_T ty_T_ok n_T hown hT.1 hP hD hS 0 rfl rfl 0 (by decide) (hT.w k_T_33) (fun _ h => h) rfl (by decide +kernel) rfl rfl (Nat.le_of_ble_eq_true rfl) d_T_isThere_2 (fun H locs hP hD hS => ?_)
  have hP : va_P D vcl (tW b F S tI tZ 0 g) H := hP
  have hD : va_D A (tW b F S tI tZ 0 g) := hD
  refine lv_aload_n hx hb d_T_isThere_5 rfl (lv_at hl 0 rfl) ?_
  refine lv_iload_n hx hb d_T_isThere_6 rfl (lv_at hl 1 rfl) ?_
  refine ob_callR (v := (some (.int (m_isP (sg_th g) p0)))) (ob_runV (n := 1) (As := [.int p0]) (rest := []) (c_T_isProcess l D tI tZ tA tJ b F S 0 g p0) (hT.ok ob_cd_c (by decide +kernel) rfl rfl (Nat.le_of_ble_eq_true rfl) (Nat.le_of_ble_eq_true rfl) kn_T kc_T_isProcess) hx hb hml hown (hT.w k_T_68) (hT.w ki_T_isProcess) (hT.w kv_T_isProcess) (va_recv (q0 := 0) (ci := 2) hT.1 hP rfl rfl) pR.blind (pR.at hT (trivial) hP) rfl rfl hl.1 rfl (lv_room (Nat.le_of_ble_eq_true rfl)) d_T_isThere_7 ⟨Nat.le_of_ble_eq_true rfl, Nat.le_of_ble_eq_true rfl⟩) ?_
  refine W.eq (g2 := F0 m 10 ls [.int (m_isP (sg_th g) p0)]) rfl ?_
  refine ob_zret hlocks hx hb hr d_T_isThere_10 (m_isP_nar _ _) hS.2.2 (fun t ht hW => ?_)
  exact ⟨rfl, by rw [ht]; exact hP, hD, hS.F ht⟩

set_option maxHeartbeats 4000000 in
set_option maxRecDepth 100000 in
/-- T_where -/
theorem c_T_where (l : Launch) (D : va_G) (tI tZ tA tJ : ClassId) (b : Nat → Nat) (F S sz : Nat) (tw : Int32) (g : Sg) (p0 x : Int32) : ob_M l y_T_where w_T_where ({ frames := 2, cells := 0, slots := 0, locals := 43 }) (pW D tI tZ tA tJ [.ref (b 0), .int p0, .int x] (tW b F S tI tZ tw g) sz ((¬ m_isP (sg_th g) p0 = 0 → ¬ x < 0 → ¬ 6 ≤ x → vp_in (6 * p0 + x) 36) ∧ (0 ≤ m_sheetOf g p0 x → vp_in (m_sheetOf g p0 x) 18))) (ob_qW D vcl (some (.int (m_where g p0 x))) (tW b F S tI tZ 0 g) (va_A (tW b F S tI tZ tw g) sz)) 0 0 (va_A (tW b F S tI tZ tw g) sz) := by
  refine ob_ofW (by decide +kernel) ?_
  intro p e s m args below meth c s₁ B hml htab hv
  obtain ⟨rfl, hT, ⟨hin, h18⟩, hsz, hP, hD0⟩ := hv
  have hx := B.exec
  have hb := B.bytes
  have hr := B.returns
  have hlocks := B.notSynchronized
  have hown : s.vm.findClass R_T = some m.cls := findClass_of_methodNamed B.named
  have hl := lv_entry ([.ref (b 0), .int p0, .int x]) (n := 4) (Nat.le_of_ble_eq_true rfl)
  rw [lg_entry_eq]
  generalize (lg_sl ([.ref (b 0), .int p0, .int x]) ++ List.replicate (4 - (lg_sl ([.ref (b 0), .int p0, .int x])).length) Slot.unset).toArray = ls at hl ⊢
  have hl : lv_has ls 4 [(0, .ref (b 0)), (1, .int p0), (2, .int x)] := hl
  subst hsz
  have hD := hD0.self (sz := s.heap.size)
  generalize hAe : va_A (tW b F S tI tZ tw g) s.heap.size = A at hD ⊢
  have hA : ∀ q : Nat, s.heap.size ≤ q → A q := fun q h => by rw [← hAe]; exact Or.inr h
  have hS : va_S A s.heap s.heap [] := va_S.rf
  refine lv_aload_n hx hb d_T_where_0 rfl (lv_at hl 0 rfl) ?_
  refine lv_iconst (v := 0) hx hb d_T_where_1 (by decide) ?_
  refine va_put (D := D) (ci := 2) (v := .int 0) (ty := .int) hx hb hT.lays ly_T ty_T ty_T_ok n_T hown hT.1 hP hD hS 0 rfl rfl 0 (by decide) (hT.w k_T_33) (fun _ h => h) rfl (by decide +kernel) rfl rfl (Nat.le_of_ble_eq_true rfl) d_T_where_2 (fun H locs hP hD hS => ?_)
  have hP : va_P D vcl (tW b F S tI tZ 0 g) H := hP
  have hD : va_D A (tW b F S tI tZ 0 g) := hD
  unfold m_where
  refine lv_aload_n hx hb d_T_where_5 rfl (lv_at hl 0 rfl) ?_
  refine lv_iload_n hx hb d_T_where_6 rfl (lv_at hl 1 rfl) ?_
  refine lv_iload_n hx hb d_T_where_7 rfl (lv_at hl 2 rfl) ?_
  refine ob_callR (v := (some (.int (m_sheetOf g p0 x)))) (ob_runV (n := 2) (As := [.int p0, .int x]) (rest := []) (c_T_sheetOf l D tI tZ tA tJ b F S 0 g p0 x) (hT.ok ob_cd_c (by decide +kernel) rfl rfl (Nat.le_of_ble_eq_true rfl) (Nat.le_of_ble_eq_true rfl) kn_T kc_T_sheetOf) hx hb hml hown (hT.w k_T_105) (hT.w ki_T_sheetOf) (hT.w kv_T_sheetOf) (va_recv (q0 := 0) (ci := 2) hT.1 hP rfl rfl) pR.blind (pR.at hT (hin) hP) rfl rfl hl.1 rfl (lv_room (Nat.le_of_ble_eq_true rfl)) d_T_where_8 ⟨Nat.le_of_ble_eq_true rfl, Nat.le_of_ble_eq_true rfl⟩) ?_
  refine W.eq (g2 := F0 m 11 ls [.int (m_sheetOf g p0 x)]) rfl ?_
  refine lv_istore_n (lv' := [(3, .int (m_sheetOf g p0 x)), (0, .ref (b 0)), (1, .int p0), (2, .int x)]) hx hb d_T_where_11 rfl hl (by decide) rfl (fun ls hl => ?_)
  refine lv_iload_n hx hb d_T_where_12 rfl (lv_at hl 0 rfl) ?_
  refine lv_if_ge (tgt := 20) hx hb d_T_where_13 (by decide) (fun hc => ?_) (fun hc => ?_)
  · rw [if_pos hc]
    refine lv_aload_n hx hb d_T_where_20 rfl (lv_at hl 1 rfl) ?_
    refine va_get (D := D) (ci := 2) (v := .ref (b 2)) hx hb hT.lays ly_T hown hT.1 hP 0 rfl rfl 5 (by decide) (hT.w k_T_13) (fun _ h => h) rfl d_T_where_21 ?_
    refine lv_iload_n hx hb d_T_where_24 rfl (lv_at hl 0 rfl) ?_
    refine va_iald hx hb hT.1 hP 2 0 rfl rfl (h18 hc) d_T_where_25 ?_
    refine ob_iret hlocks hx hb hr d_T_where_26 hS.2.2 (fun t ht hW => ?_)
    exact ⟨rfl, by rw [ht]; exact hP, hD, hS.F ht⟩
  · rw [if_neg hc]
    refine lv_iconst (v := -1) hx hb d_T_where_16 (by decide) ?_
    refine lv_goto (tgt := 26) hx hb d_T_where_17 (by decide) ?_
    refine ob_iret hlocks hx hb hr d_T_where_26 hS.2.2 (fun t ht hW => ?_)
    exact ⟨rfl, by rw [ht]; exact hP, hD, hS.F ht⟩

set_option maxHeartbeats 4000000 in
set_option maxRecDepth 100000 in
/-- T_sharers -/
theorem c_T_sharers (l : Launch) (D : va_G) (tI tZ tA tJ : ClassId) (b : Nat → Nat) (F S sz : Nat) (tw : Int32) (g : Sg) (p0 x : Int32) : ob_M l y_T_sharers w_T_sharers ({ frames := 2, cells := 0, slots := 0, locals := 43 }) (pW D tI tZ tA tJ [.ref (b 0), .int p0, .int x] (tW b F S tI tZ tw g) sz (¬ m_isP (sg_th g) p0 = 0 → ¬ x < 0 → ¬ 6 ≤ x → vp_in (6 * p0 + x) 36)) (ob_qW D vcl (some (.int (m_sharers g p0 x))) (tW b F S tI tZ 0 g) (va_A (tW b F S tI tZ tw g) sz)) 0 0 (va_A (tW b F S tI tZ tw g) sz) := by
  refine ob_ofW (by decide +kernel) ?_
  intro p e s m args below meth c s₁ B hml htab hv
  obtain ⟨rfl, hT, hin, hsz, hP, hD0⟩ := hv
  have hx := B.exec
  have hb := B.bytes
  have hr := B.returns
  have hlocks := B.notSynchronized
  have hown : s.vm.findClass R_T = some m.cls := findClass_of_methodNamed B.named
  have hl := lv_entry ([.ref (b 0), .int p0, .int x]) (n := 4) (Nat.le_of_ble_eq_true rfl)
  rw [lg_entry_eq]
  generalize (lg_sl ([.ref (b 0), .int p0, .int x]) ++ List.replicate (4 - (lg_sl ([.ref (b 0), .int p0, .int x])).length) Slot.unset).toArray = ls at hl ⊢
  have hl : lv_has ls 4 [(0, .ref (b 0)), (1, .int p0), (2, .int x)] := hl
  subst hsz
  have hD := hD0.self (sz := s.heap.size)
  generalize hAe : va_A (tW b F S tI tZ tw g) s.heap.size = A at hD ⊢
  have hA : ∀ q : Nat, s.heap.size ≤ q → A q := fun q h => by rw [← hAe]; exact Or.inr h
  have hS : va_S A s.heap s.heap [] := va_S.rf
  refine lv_aload_n hx hb d_T_sharers_0 rfl (lv_at hl 0 rfl) ?_
  refine lv_iconst (v := 0) hx hb d_T_sharers_1 (by decide) ?_
  refine va_put (D := D) (ci := 2) (v := .int 0) (ty := .int) hx hb hT.lays ly_T ty_T ty_T_ok n_T hown hT.1 hP hD hS 0 rfl rfl 0 (by decide) (hT.w k_T_33) (fun _ h => h) rfl (by decide +kernel) rfl rfl (Nat.le_of_ble_eq_true rfl) d_T_sharers_2 (fun H locs hP hD hS => ?_)
  have hP : va_P D vcl (tW b F S tI tZ 0 g) H := hP
  have hD : va_D A (tW b F S tI tZ 0 g) := hD
  unfold m_sharers
  refine lv_aload_n hx hb d_T_sharers_5 rfl (lv_at hl 0 rfl) ?_
  refine lv_iload_n hx hb d_T_sharers_6 rfl (lv_at hl 1 rfl) ?_
  refine lv_iload_n hx hb d_T_sharers_7 rfl (lv_at hl 2 rfl) ?_
  refine ob_callR (v := (some (.int (m_sheetOf g p0 x)))) (ob_runV (n := 2) (As := [.int p0, .int x]) (rest := []) (c_T_sheetOf l D tI tZ tA tJ b F S 0 g p0 x) (hT.ok ob_cd_c (by decide +kernel) rfl rfl (Nat.le_of_ble_eq_true rfl) (Nat.le_of_ble_eq_true rfl) kn_T kc_T_sheetOf) hx hb hml hown (hT.w k_T_105) (hT.w ki_T_sheetOf) (hT.w kv_T_sheetOf) (va_recv (q0 := 0) (ci := 2) hT.1 hP rfl rfl) pR.blind (pR.at hT (hin) hP) rfl rfl hl.1 rfl (lv_room (Nat.le_of_ble_eq_true rfl)) d_T_sharers_8 ⟨Nat.le_of_ble_eq_true rfl, Nat.le_of_ble_eq_true rfl⟩) ?_
  refine W.eq (g2 := F0 m 11 ls [.int (m_sheetOf g p0 x)]) rfl ?_
  refine lv_istore_n (lv' := [(3, .int (m_sheetOf g p0 x)), (0, .ref (b 0)), (1, .int p0), (2, .int x)]) hx hb d_T_sharers_11 rfl hl (by decide) rfl (fun ls hl => ?_)
  refine lv_iload_n hx hb d_T_sharers_12 rfl (lv_at hl 0 rfl) ?_
  refine lv_if_ge (tgt := 20) hx hb d_T_sharers_13 (by decide) (fun hc => ?_) (fun hc => ?_)
  · rw [if_pos hc]
    refine lv_aload_n hx hb d_T_sharers_20 rfl (lv_at hl 1 rfl) ?_
    refine lv_iload_n hx hb d_T_sharers_21 rfl (lv_at hl 0 rfl) ?_
    refine ob_callR (v := (some (.int (m_owners (sg_pg g) (m_sheetOf g p0 x))))) (ob_runV (n := 1) (As := [.int (m_sheetOf g p0 x)]) (rest := []) (c_T_owners l D tI tZ tA tJ b F S 0 g (m_sheetOf g p0 x)) (hT.ok ob_cd_c (by decide +kernel) rfl rfl (Nat.le_of_ble_eq_true rfl) (Nat.le_of_ble_eq_true rfl) kn_T kc_T_owners) hx hb hml hown (hT.w k_T_62) (hT.w ki_T_owners) (hT.w kv_T_owners) (va_recv (q0 := 0) (ci := 2) hT.1 hP rfl rfl) pR.blind (pR.at hT (trivial) hP) rfl rfl hl.1 rfl (lv_room (Nat.le_of_ble_eq_true rfl)) d_T_sharers_22 ⟨Nat.le_of_ble_eq_true rfl, Nat.le_of_ble_eq_true rfl⟩) ?_
    refine W.eq (g2 := F0 m 25 ls [.int (m_owners (sg_pg g) (m_sheetOf g p0 x))]) rfl ?_
    refine ob_iret hlocks hx hb hr d_T_sharers_25 hS.2.2 (fun t ht hW => ?_)
    exact ⟨rfl, by rw [ht]; exact hP, hD, hS.F ht⟩
  · rw [if_neg hc]
    refine lv_iconst (v := 0) hx hb d_T_sharers_16 (by decide) ?_
    refine lv_goto (tgt := 25) hx hb d_T_sharers_17 (by decide) ?_
    refine ob_iret hlocks hx hb hr d_T_sharers_25 hS.2.2 (fun t ht hW => ?_)
    exact ⟨rfl, by rw [ht]; exact hP, hD, hS.F ht⟩

set_option maxHeartbeats 4000000 in
set_option maxRecDepth 100000 in
/-- T_marked -/
theorem c_T_marked (l : Launch) (D : va_G) (tI tZ tA tJ : ClassId) (b : Nat → Nat) (F S sz : Nat) (tw : Int32) (g : Sg) (x : Int32) : ob_M l y_T_marked w_T_marked ({ frames := 0, cells := 0, slots := 0, locals := 0 }) (pW D tI tZ tA tJ [.ref (b 0), .int x] (tW b F S tI tZ tw g) sz (F ≤ 8)) (ob_qW D vcl (some (.int (m_marked F (sg_mk g) x))) (tW b F S tI tZ 0 g) (va_A (tW b F S tI tZ tw g) sz)) 0 0 (va_A (tW b F S tI tZ tw g) sz) := by
  refine ob_ofW (by decide +kernel) ?_
  intro p e s m args below meth c s₁ B hml htab hv
  obtain ⟨rfl, hT, hF, hsz, hP, hD0⟩ := hv
  have hx := B.exec
  have hb := B.bytes
  have hr := B.returns
  have hlocks := B.notSynchronized
  have hown : s.vm.findClass R_T = some m.cls := findClass_of_methodNamed B.named
  have hl := lv_entry ([.ref (b 0), .int x]) (n := 2) (Nat.le_of_ble_eq_true rfl)
  rw [lg_entry_eq]
  generalize (lg_sl ([.ref (b 0), .int x]) ++ List.replicate (2 - (lg_sl ([.ref (b 0), .int x])).length) Slot.unset).toArray = ls at hl ⊢
  have hl : lv_has ls 2 [(0, .ref (b 0)), (1, .int x)] := hl
  subst hsz
  have hD := hD0.self (sz := s.heap.size)
  generalize hAe : va_A (tW b F S tI tZ tw g) s.heap.size = A at hD ⊢
  have hA : ∀ q : Nat, s.heap.size ≤ q → A q := fun q h => by rw [← hAe]; exact Or.inr h
  have hS : va_S A s.heap s.heap [] := va_S.rf
  refine lv_aload_n hx hb d_T_marked_0 rfl (lv_at hl 0 rfl) ?_
  refine lv_iconst (v := 0) hx hb d_T_marked_1 (by decide) ?_
  refine va_put (D := D) (ci := 2) (v := .int 0) (ty := .int) hx hb hT.lays ly_T ty_T ty_T_ok n_T hown hT.1 hP hD hS 0 rfl rfl 0 (by decide) (hT.w k_T_33) (fun _ h => h) rfl (by decide +kernel) rfl rfl (Nat.le_of_ble_eq_true rfl) d_T_marked_2 (fun H locs hP hD hS => ?_)
  have hP : va_P D vcl (tW b F S tI tZ 0 g) H := hP
  have hD : va_D A (tW b F S tI tZ 0 g) := hD
  unfold m_marked
  refine lv_iload_n hx hb d_T_marked_5 rfl (lv_at hl 1 rfl) ?_
  refine lv_if_lt (tgt := 30) hx hb d_T_marked_6 (by decide) (fun hc => ?_) (fun hc => ?_)
  · rw [if_pos hc]
    refine lv_iconst (v := 0) hx hb d_T_marked_30 (by decide) ?_
    refine ob_zret hlocks hx hb hr d_T_marked_31 (rfl) hS.2.2 (fun t ht hW => ?_)
    exact ⟨rfl, by rw [ht]; exact hP, hD, hS.F ht⟩
  · rw [if_neg hc]
    have hc0 := hc
    refine lv_iload_n hx hb d_T_marked_9 rfl (lv_at hl 1 rfl) ?_
    refine lv_aload_n hx hb d_T_marked_10 rfl (lv_at hl 0 rfl) ?_
    refine va_get (D := D) (ci := 2) (v := .int (nI F)) hx hb hT.lays ly_T hown hT.1 hP 0 rfl rfl 1 (by decide) (hT.w k_T_26) (fun _ h => h) rfl d_T_marked_11 ?_
    refine lv_icmp_ge (tgt := 30) hx hb d_T_marked_14 (by decide) (fun hc => ?_) (fun hc => ?_)
    · rw [if_pos hc]
      refine lv_iconst (v := 0) hx hb d_T_marked_30 (by decide) ?_
      refine ob_zret hlocks hx hb hr d_T_marked_31 (rfl) hS.2.2 (fun t ht hW => ?_)
      exact ⟨rfl, by rw [ht]; exact hP, hD, hS.F ht⟩
    · rw [if_neg hc]
      have hin : vp_in x 8 := by obtain ⟨j, hj, e, -⟩ := pk_mu hc0 hc (by omega); rw [e]; exact vp_in_nI (by omega) (by omega)
      refine lv_aload_n hx hb d_T_marked_17 rfl (lv_at hl 0 rfl) ?_
      refine va_get (D := D) (ci := 2) (v := .ref (b 1)) hx hb hT.lays ly_T hown hT.1 hP 0 rfl rfl 3 (by decide) (hT.w k_T_7) (fun _ h => h) rfl d_T_marked_18 ?_
      refine lv_iload_n hx hb d_T_marked_21 rfl (lv_at hl 1 rfl) ?_
      refine va_zald hx hb hT.1 hP 1 1 rfl rfl (hin) d_T_marked_22 ?_
      refine lv_if_eq (tgt := 30) hx hb d_T_marked_23 (by decide) (fun hc => ?_) (fun hc => ?_)
      · rw [if_pos hc]
        refine lv_iconst (v := 0) hx hb d_T_marked_30 (by decide) ?_
        refine ob_zret hlocks hx hb hr d_T_marked_31 (rfl) hS.2.2 (fun t ht hW => ?_)
        exact ⟨rfl, by rw [ht]; exact hP, hD, hS.F ht⟩
      · rw [if_neg hc]
        refine lv_iconst (v := 1) hx hb d_T_marked_26 (by decide) ?_
        refine lv_goto (tgt := 31) hx hb d_T_marked_27 (by decide) ?_
        refine ob_zret hlocks hx hb hr d_T_marked_31 (rfl) hS.2.2 (fun t ht hW => ?_)
        exact ⟨rfl, by rw [ht]; exact hP, hD, hS.F ht⟩

set_option maxHeartbeats 4000000 in
set_option maxRecDepth 100000 in
/-- T_freeFrames -/
theorem c_T_freeFrames (l : Launch) (D : va_G) (tI tZ tA tJ : ClassId) (b : Nat → Nat) (F S sz : Nat) (tw : Int32) (g : Sg)  : ob_M l y_T_freeFrames w_T_freeFrames ({ frames := 1, cells := 0, slots := 0, locals := 22 }) (pW D tI tZ tA tJ [.ref (b 0)] (tW b F S tI tZ tw g) sz (F ≤ 10)) (ob_qW D vcl (some (.int (m_cntG (sg_li g) F 0 0))) (tW b F S tI tZ 0 g) (va_A (tW b F S tI tZ tw g) sz)) 0 0 (va_A (tW b F S tI tZ tw g) sz) := by
  refine ob_ofW (by decide +kernel) ?_
  intro p e s m args below meth c s₁ B hml htab hv
  obtain ⟨rfl, hT, hN, hsz, hP, hD0⟩ := hv
  have hx := B.exec
  have hb := B.bytes
  have hr := B.returns
  have hlocks := B.notSynchronized
  have hown : s.vm.findClass R_T = some m.cls := findClass_of_methodNamed B.named
  have hl := lv_entry ([.ref (b 0)]) (n := 3) (Nat.le_of_ble_eq_true rfl)
  rw [lg_entry_eq]
  generalize (lg_sl ([.ref (b 0)]) ++ List.replicate (3 - (lg_sl ([.ref (b 0)])).length) Slot.unset).toArray = ls at hl ⊢
  have hl : lv_has ls 3 [(0, .ref (b 0))] := hl
  subst hsz
  have hD := hD0.self (sz := s.heap.size)
  generalize hAe : va_A (tW b F S tI tZ tw g) s.heap.size = A at hD ⊢
  have hA : ∀ q : Nat, s.heap.size ≤ q → A q := fun q h => by rw [← hAe]; exact Or.inr h
  have hS : va_S A s.heap s.heap [] := va_S.rf
  refine lv_aload_n hx hb d_T_freeFrames_0 rfl (lv_at hl 0 rfl) ?_
  refine lv_iconst (v := 0) hx hb d_T_freeFrames_1 (by decide) ?_
  refine va_put (D := D) (ci := 2) (v := .int 0) (ty := .int) hx hb hT.lays ly_T ty_T ty_T_ok n_T hown hT.1 hP hD hS 0 rfl rfl 0 (by decide) (hT.w k_T_33) (fun _ h => h) rfl (by decide +kernel) rfl rfl (Nat.le_of_ble_eq_true rfl) d_T_freeFrames_2 (fun H locs hP hD hS => ?_)
  have hP : va_P D vcl (tW b F S tI tZ 0 g) H := hP
  have hD : va_D A (tW b F S tI tZ 0 g) := hD
  have loop : ∀ (n i : Nat) (x : Int32) (ls : Array Slot), i + n = F → m_cntG (sg_li g) n i x = m_cntG (sg_li g) F 0 0 → lv_has ls 3 [(2, .int (nI i)), (1, .int x), (0, .ref (b 0))] → W p l e ({ frames := 1, cells := 0, slots := 0, locals := 22 } : Room) s m ([.ref (b 0)] : List Value).toArray below meth c H locs 0 0 (ob_Q below (ob_qW D vcl (some (.int (m_cntG (sg_li g) F 0 0))) (tW b F S tI tZ 0 g) A) ([.ref (b 0)] : List Value).toArray s 0 0 A) (F0 m 9 ls []) := by
    intro n
    induction n with
    | zero =>
      intro i x ls hi hR hl
      refine lv_iload_n hx hb d_T_freeFrames_9 rfl (lv_at hl 0 rfl) ?_
      refine lv_aload_n hx hb d_T_freeFrames_10 rfl (lv_at hl 2 rfl) ?_
      refine va_get (D := D) (ci := 2) (v := .int (nI F)) hx hb hT.lays ly_T hown hT.1 hP 0 rfl rfl 1 (by decide) (hT.w k_T_26) (fun _ h => h) rfl d_T_freeFrames_11 ?_
      refine lv_icmp_ge (tgt := 39) hx hb d_T_freeFrames_14 (by decide) (fun hc => ?_) (fun hc => absurd (nI_le (by omega) (by omega)) hc)
      rw [← hR]
      refine lv_iload_n hx hb d_T_freeFrames_39 rfl (lv_at hl 1 rfl) ?_
      refine ob_iret hlocks hx hb hr d_T_freeFrames_40 hS.2.2 (fun t ht hW => ?_)
      exact ⟨rfl, by rw [ht]; exact hP, hD, hS.F ht⟩
    | succ n ih =>
      intro i x ls hi hR hl
      refine lv_iload_n hx hb d_T_freeFrames_9 rfl (lv_at hl 0 rfl) ?_
      refine lv_aload_n hx hb d_T_freeFrames_10 rfl (lv_at hl 2 rfl) ?_
      refine va_get (D := D) (ci := 2) (v := .int (nI F)) hx hb hT.lays ly_T hown hT.1 hP 0 rfl rfl 1 (by decide) (hT.w k_T_26) (fun _ h => h) rfl d_T_freeFrames_11 ?_
      refine lv_icmp_ge (tgt := 39) hx hb d_T_freeFrames_14 (by decide) (fun hc => absurd hc (nI_ge (by omega) (by omega))) (fun hc => ?_)
      refine lv_aload_n hx hb d_T_freeFrames_17 rfl (lv_at hl 2 rfl) ?_
      refine lv_iload_n hx hb d_T_freeFrames_18 rfl (lv_at hl 0 rfl) ?_
      refine ob_callR (v := (some (.int (m_sheetAt (sg_li g) (nI i))))) (ob_runV (n := 1) (As := [.int (nI i)]) (rest := []) (c_T_sheetAt l D tI tZ tA tJ b F S 0 g (nI i)) (hT.ok ob_cd_c (by decide +kernel) rfl rfl (Nat.le_of_ble_eq_true rfl) (Nat.le_of_ble_eq_true rfl) kn_T kc_T_sheetAt) hx hb hml hown (hT.w k_T_36) (hT.w ki_T_sheetAt) (hT.w kv_T_sheetAt) (va_recv (q0 := 0) (ci := 2) hT.1 hP rfl rfl) pR.blind (pR.at hT (trivial) hP) rfl rfl hl.1 rfl (lv_room (Nat.le_of_ble_eq_true rfl)) d_T_freeFrames_19 ⟨Nat.le_of_ble_eq_true rfl, Nat.le_of_ble_eq_true rfl⟩) ?_
      refine W.eq (g2 := F0 m 22 ls [.int (m_sheetAt (sg_li g) (nI i))]) rfl ?_
      refine lv_if_ge (tgt := 31) hx hb d_T_freeFrames_22 (by decide) (fun hc => ?_) (fun hc => ?_)
      · refine lv_iload_n hx hb d_T_freeFrames_31 rfl (lv_at hl 1 rfl) ?_
        refine lv_istore_n (lv' := [(1, .int x), (2, .int (nI i)), (0, .ref (b 0))]) hx hb d_T_freeFrames_32 rfl hl (by decide) rfl (fun ls hl => ?_)
        refine lv_iinc (k := 1) (v := nI (i + 1)) (lv' := [(2, .int (nI (i + 1))), (1, .int x), (0, .ref (b 0))]) hx hb d_T_freeFrames_33 hl rfl (nI_1 i) (by decide) rfl (fun ls hl => ?_)
        refine lv_goto (tgt := 9) hx hb d_T_freeFrames_36 (by decide) ?_
        have hl : lv_has ls 3 [(2, .int (nI (i + 1))), (1, .int (x)), (0, .ref (b 0))] := hl
        refine ih (i + 1) (x) ls (by omega) ?_ hl
        rw [← hR]
        show _ = m_cntG (sg_li g) n (i + 1) (if 0 ≤ m_sheetAt (sg_li g) (nI i) then x else x + 1)
        rw [if_pos hc]
      · refine lv_iload_n hx hb d_T_freeFrames_25 rfl (lv_at hl 1 rfl) ?_
        refine lv_iconst (v := 1) hx hb d_T_freeFrames_26 (by decide) ?_
        refine lv_iadd hx hb d_T_freeFrames_27 ?_
        refine lv_goto (tgt := 32) hx hb d_T_freeFrames_28 (by decide) ?_
        refine lv_istore_n (lv' := [(1, .int (x + 1)), (2, .int (nI i)), (0, .ref (b 0))]) hx hb d_T_freeFrames_32 rfl hl (by decide) rfl (fun ls hl => ?_)
        refine lv_iinc (k := 1) (v := nI (i + 1)) (lv' := [(2, .int (nI (i + 1))), (1, .int (x + 1)), (0, .ref (b 0))]) hx hb d_T_freeFrames_33 hl rfl (nI_1 i) (by decide) rfl (fun ls hl => ?_)
        refine lv_goto (tgt := 9) hx hb d_T_freeFrames_36 (by decide) ?_
        have hl : lv_has ls 3 [(2, .int (nI (i + 1))), (1, .int (x + 1)), (0, .ref (b 0))] := hl
        refine ih (i + 1) (x + 1) ls (by omega) ?_ hl
        rw [← hR]
        show _ = m_cntG (sg_li g) n (i + 1) (if 0 ≤ m_sheetAt (sg_li g) (nI i) then x else x + 1)
        rw [if_neg hc]
  refine lv_iconst (v := 0) hx hb d_T_freeFrames_5 (by decide) ?_
  refine lv_istore_n (lv' := [(1, .int 0), (0, .ref (b 0))]) hx hb d_T_freeFrames_6 rfl hl (by decide) rfl (fun ls hl => ?_)
  refine lv_iconst (v := 0) hx hb d_T_freeFrames_7 (by decide) ?_
  refine lv_istore_n (lv' := [(2, .int 0), (1, .int 0), (0, .ref (b 0))]) hx hb d_T_freeFrames_8 rfl hl (by decide) rfl (fun ls hl => ?_)
  exact loop F 0 0 ls (by omega) rfl hl

set_option maxHeartbeats 4000000 in
set_option maxRecDepth 100000 in
/-- T_freeSlots -/
theorem c_T_freeSlots (l : Launch) (D : va_G) (tI tZ tA tJ : ClassId) (b : Nat → Nat) (F S sz : Nat) (tw : Int32) (g : Sg)  : ob_M l y_T_freeSlots w_T_freeSlots ({ frames := 1, cells := 0, slots := 0, locals := 22 }) (pW D tI tZ tA tJ [.ref (b 0)] (tW b F S tI tZ tw g) sz (S ≤ 10)) (ob_qW D vcl (some (.int (m_cntF (sg_li g) 100 S 0 0))) (tW b F S tI tZ 0 g) (va_A (tW b F S tI tZ tw g) sz)) 0 0 (va_A (tW b F S tI tZ tw g) sz) := by
  refine ob_ofW (by decide +kernel) ?_
  intro p e s m args below meth c s₁ B hml htab hv
  obtain ⟨rfl, hT, hN, hsz, hP, hD0⟩ := hv
  have hx := B.exec
  have hb := B.bytes
  have hr := B.returns
  have hlocks := B.notSynchronized
  have hown : s.vm.findClass R_T = some m.cls := findClass_of_methodNamed B.named
  have hl := lv_entry ([.ref (b 0)]) (n := 3) (Nat.le_of_ble_eq_true rfl)
  rw [lg_entry_eq]
  generalize (lg_sl ([.ref (b 0)]) ++ List.replicate (3 - (lg_sl ([.ref (b 0)])).length) Slot.unset).toArray = ls at hl ⊢
  have hl : lv_has ls 3 [(0, .ref (b 0))] := hl
  subst hsz
  have hD := hD0.self (sz := s.heap.size)
  generalize hAe : va_A (tW b F S tI tZ tw g) s.heap.size = A at hD ⊢
  have hA : ∀ q : Nat, s.heap.size ≤ q → A q := fun q h => by rw [← hAe]; exact Or.inr h
  have hS : va_S A s.heap s.heap [] := va_S.rf
  refine lv_aload_n hx hb d_T_freeSlots_0 rfl (lv_at hl 0 rfl) ?_
  refine lv_iconst (v := 0) hx hb d_T_freeSlots_1 (by decide) ?_
  refine va_put (D := D) (ci := 2) (v := .int 0) (ty := .int) hx hb hT.lays ly_T ty_T ty_T_ok n_T hown hT.1 hP hD hS 0 rfl rfl 0 (by decide) (hT.w k_T_33) (fun _ h => h) rfl (by decide +kernel) rfl rfl (Nat.le_of_ble_eq_true rfl) d_T_freeSlots_2 (fun H locs hP hD hS => ?_)
  have hP : va_P D vcl (tW b F S tI tZ 0 g) H := hP
  have hD : va_D A (tW b F S tI tZ 0 g) := hD
  have loop : ∀ (n i : Nat) (x : Int32) (ls : Array Slot), i + n = S → m_cntF (sg_li g) 100 n i x = m_cntF (sg_li g) 100 S 0 0 → lv_has ls 3 [(2, .int (nI i)), (1, .int x), (0, .ref (b 0))] → W p l e ({ frames := 1, cells := 0, slots := 0, locals := 22 } : Room) s m ([.ref (b 0)] : List Value).toArray below meth c H locs 0 0 (ob_Q below (ob_qW D vcl (some (.int (m_cntF (sg_li g) 100 S 0 0))) (tW b F S tI tZ 0 g) A) ([.ref (b 0)] : List Value).toArray s 0 0 A) (F0 m 9 ls []) := by
    intro n
    induction n with
    | zero =>
      intro i x ls hi hR hl
      refine lv_iload_n hx hb d_T_freeSlots_9 rfl (lv_at hl 0 rfl) ?_
      refine lv_aload_n hx hb d_T_freeSlots_10 rfl (lv_at hl 2 rfl) ?_
      refine va_get (D := D) (ci := 2) (v := .int (nI S)) hx hb hT.lays ly_T hown hT.1 hP 0 rfl rfl 2 (by decide) (hT.w k_T_30) (fun _ h => h) rfl d_T_freeSlots_11 ?_
      refine lv_icmp_ge (tgt := 42) hx hb d_T_freeSlots_14 (by decide) (fun hc => ?_) (fun hc => absurd (nI_le (by omega) (by omega)) hc)
      rw [← hR]
      refine lv_iload_n hx hb d_T_freeSlots_42 rfl (lv_at hl 1 rfl) ?_
      refine ob_iret hlocks hx hb hr d_T_freeSlots_43 hS.2.2 (fun t ht hW => ?_)
      exact ⟨rfl, by rw [ht]; exact hP, hD, hS.F ht⟩
    | succ n ih =>
      intro i x ls hi hR hl
      refine lv_iload_n hx hb d_T_freeSlots_9 rfl (lv_at hl 0 rfl) ?_
      refine lv_aload_n hx hb d_T_freeSlots_10 rfl (lv_at hl 2 rfl) ?_
      refine va_get (D := D) (ci := 2) (v := .int (nI S)) hx hb hT.lays ly_T hown hT.1 hP 0 rfl rfl 2 (by decide) (hT.w k_T_30) (fun _ h => h) rfl d_T_freeSlots_11 ?_
      refine lv_icmp_ge (tgt := 42) hx hb d_T_freeSlots_14 (by decide) (fun hc => absurd hc (nI_ge (by omega) (by omega))) (fun hc => ?_)
      refine lv_aload_n hx hb d_T_freeSlots_17 rfl (lv_at hl 2 rfl) ?_
      refine lv_bipush (v := 100) hx hb d_T_freeSlots_18 (by decide) ?_
      refine lv_iload_n hx hb d_T_freeSlots_20 rfl (lv_at hl 0 rfl) ?_
      refine lv_iadd hx hb d_T_freeSlots_21 ?_
      refine ob_callR (v := (some (.int (m_sheetAt (sg_li g) (100 + nI i))))) (ob_runV (n := 1) (As := [.int (100 + nI i)]) (rest := []) (c_T_sheetAt l D tI tZ tA tJ b F S 0 g (100 + nI i)) (hT.ok ob_cd_c (by decide +kernel) rfl rfl (Nat.le_of_ble_eq_true rfl) (Nat.le_of_ble_eq_true rfl) kn_T kc_T_sheetAt) hx hb hml hown (hT.w k_T_36) (hT.w ki_T_sheetAt) (hT.w kv_T_sheetAt) (va_recv (q0 := 0) (ci := 2) hT.1 hP rfl rfl) pR.blind (pR.at hT (trivial) hP) rfl rfl hl.1 rfl (lv_room (Nat.le_of_ble_eq_true rfl)) d_T_freeSlots_22 ⟨Nat.le_of_ble_eq_true rfl, Nat.le_of_ble_eq_true rfl⟩) ?_
      refine W.eq (g2 := F0 m 25 ls [.int (m_sheetAt (sg_li g) (100 + nI i))]) rfl ?_
      refine lv_if_ge (tgt := 34) hx hb d_T_freeSlots_25 (by decide) (fun hc => ?_) (fun hc => ?_)
      · refine lv_iload_n hx hb d_T_freeSlots_34 rfl (lv_at hl 1 rfl) ?_
        refine lv_istore_n (lv' := [(1, .int x), (2, .int (nI i)), (0, .ref (b 0))]) hx hb d_T_freeSlots_35 rfl hl (by decide) rfl (fun ls hl => ?_)
        refine lv_iinc (k := 1) (v := nI (i + 1)) (lv' := [(2, .int (nI (i + 1))), (1, .int x), (0, .ref (b 0))]) hx hb d_T_freeSlots_36 hl rfl (nI_1 i) (by decide) rfl (fun ls hl => ?_)
        refine lv_goto (tgt := 9) hx hb d_T_freeSlots_39 (by decide) ?_
        have hl : lv_has ls 3 [(2, .int (nI (i + 1))), (1, .int (x)), (0, .ref (b 0))] := hl
        refine ih (i + 1) (x) ls (by omega) ?_ hl
        rw [← hR]
        show _ = m_cntF (sg_li g) 100 n (i + 1) (if 0 ≤ m_sheetAt (sg_li g) (100 + nI i) then x else x + 1)
        rw [if_pos hc]
      · refine lv_iload_n hx hb d_T_freeSlots_28 rfl (lv_at hl 1 rfl) ?_
        refine lv_iconst (v := 1) hx hb d_T_freeSlots_29 (by decide) ?_
        refine lv_iadd hx hb d_T_freeSlots_30 ?_
        refine lv_goto (tgt := 35) hx hb d_T_freeSlots_31 (by decide) ?_
        refine lv_istore_n (lv' := [(1, .int (x + 1)), (2, .int (nI i)), (0, .ref (b 0))]) hx hb d_T_freeSlots_35 rfl hl (by decide) rfl (fun ls hl => ?_)
        refine lv_iinc (k := 1) (v := nI (i + 1)) (lv' := [(2, .int (nI (i + 1))), (1, .int (x + 1)), (0, .ref (b 0))]) hx hb d_T_freeSlots_36 hl rfl (nI_1 i) (by decide) rfl (fun ls hl => ?_)
        refine lv_goto (tgt := 9) hx hb d_T_freeSlots_39 (by decide) ?_
        have hl : lv_has ls 3 [(2, .int (nI (i + 1))), (1, .int (x + 1)), (0, .ref (b 0))] := hl
        refine ih (i + 1) (x + 1) ls (by omega) ?_ hl
        rw [← hR]
        show _ = m_cntF (sg_li g) 100 n (i + 1) (if 0 ≤ m_sheetAt (sg_li g) (100 + nI i) then x else x + 1)
        rw [if_neg hc]
  refine lv_iconst (v := 0) hx hb d_T_freeSlots_5 (by decide) ?_
  refine lv_istore_n (lv' := [(1, .int 0), (0, .ref (b 0))]) hx hb d_T_freeSlots_6 rfl hl (by decide) rfl (fun ls hl => ?_)
  refine lv_iconst (v := 0) hx hb d_T_freeSlots_7 (by decide) ?_
  refine lv_istore_n (lv' := [(2, .int 0), (1, .int 0), (0, .ref (b 0))]) hx hb d_T_freeSlots_8 rfl hl (by decide) rfl (fun ls hl => ?_)
  exact loop S 0 0 ls (by omega) rfl hl
end
section
theorem xW_row {b : Nat → Nat} {F S : Nat} {tI tZ tA : ClassId} {q : KS} {i : Nat} {f : Nat → Int32} (hi : i < 6) : (xW b F S tI tZ tA q).set (3 + i) (b (3 + i), .inl (tI, 6, .inl f)) = xW b F S tI tZ tA (kv_pg q (up2 (ks_pg q) i f)) := pl_set (X := [_, _, _]) (Y := mW b F S tI tZ tA (ks_m q)) hi rfl
theorem page_in {g : Int32} (h1 : ¬ g < 0) (h2 : ¬ (6 : Int32) ≤ g) : vp_in g 6 := by
  obtain ⟨j, hj, e, -⟩ := pk_mu (L := 6) h1 h2 (by omega)
  rw [e]
  exact vp_in_nI hj (by omega)
def k_sheetOf (q : KS) (p g : Int32) : Int32 := if m_isP (ks_th q) p = 0 then -1 else if g < 0 then -1 else if 6 ≤ g then -1 else ks_pg q (ix p) (ix g)
def k_where (q : KS) (p g : Int32) : Int32 := if k_sheetOf q p g = -1 then -1 else km_pl (ks_m q) (ix (k_sheetOf q p g))
def k_sharers (q : KS) (p g : Int32) : Int32 := if k_sheetOf q p g = -1 then 0 else km_ct (ks_m q) (ix (k_sheetOf q p g))

set_option maxHeartbeats 4000000 in
set_option maxRecDepth 100000 in
/-- X_copied -/
theorem c_X_copied (l : Launch) (D : va_G) (tI tZ tA tJ : ClassId) (b : Nat → Nat) (F S : Nat) (q : KS)  : ob_M l y_X_copied w_X_copied ({ frames := 0, cells := 0, slots := 0, locals := 0 }) (pR D tI tZ tA tJ [.ref (b 0)] (xW b F S tI tZ tA q) (True)) (ob_qR (some (.int (ks_cp q)))) 0 0 (fun _ => False) := by
  refine ob_ofW (by decide +kernel) ?_
  intro p e s m args below meth c s₁ B hml htab hv
  obtain ⟨rfl, hT, -, hP⟩ := hv
  have hx := B.exec
  have hb := B.bytes
  have hr := B.returns
  have hlocks := B.notSynchronized
  have hown : s.vm.findClass R_X = some m.cls := findClass_of_methodNamed B.named
  have hl := lv_entry ([.ref (b 0)]) (n := 1) (Nat.le_of_ble_eq_true rfl)
  rw [lg_entry_eq]
  generalize (lg_sl ([.ref (b 0)]) ++ List.replicate (1 - (lg_sl ([.ref (b 0)])).length) Slot.unset).toArray = ls at hl ⊢
  have hl : lv_has ls 1 [(0, .ref (b 0))] := hl
  refine lv_aload_n hx hb d_X_copied_0 rfl (lv_at hl 0 rfl) ?_
  refine va_get (D := D) (ci := 0) (v := .int (ks_cp q)) hx hb hT.lays ly_X hown hT.1 hP 0 rfl rfl 3 (by decide) (hT.w k_X_82) (fun _ h => h) rfl d_X_copied_1 ?_
  refine ob_iret hlocks hx hb hr d_X_copied_4 (fun q hq => nomatch hq) (fun t ht hW => ?_)
  exact ⟨rfl, ht⟩

set_option maxHeartbeats 4000000 in
set_option maxRecDepth 100000 in
/-- X_hand -/
theorem c_X_hand (l : Launch) (D : va_G) (tI tZ tA tJ : ClassId) (b : Nat → Nat) (F S : Nat) (q : KS)  : ob_M l y_X_hand w_X_hand ({ frames := 0, cells := 0, slots := 0, locals := 0 }) (pR D tI tZ tA tJ [.ref (b 0)] (xW b F S tI tZ tA q) (True)) (ob_qR (some (.int (km_hd (ks_m q))))) 0 0 (fun _ => False) := by
  refine ob_ofW (by decide +kernel) ?_
  intro p e s m args below meth c s₁ B hml htab hv
  obtain ⟨rfl, hT, -, hP⟩ := hv
  have hx := B.exec
  have hb := B.bytes
  have hr := B.returns
  have hlocks := B.notSynchronized
  have hown : s.vm.findClass R_X = some m.cls := findClass_of_methodNamed B.named
  have hl := lv_entry ([.ref (b 0)]) (n := 1) (Nat.le_of_ble_eq_true rfl)
  rw [lg_entry_eq]
  generalize (lg_sl ([.ref (b 0)]) ++ List.replicate (1 - (lg_sl ([.ref (b 0)])).length) Slot.unset).toArray = ls at hl ⊢
  have hl : lv_has ls 1 [(0, .ref (b 0))] := hl
  refine lv_aload_n hx hb d_X_hand_0 rfl (lv_at hl 0 rfl) ?_
  refine va_get (D := D) (ci := 0) (v := .ref (b 9)) hx hb hT.lays ly_X hown hT.1 hP 0 rfl rfl 2 (by decide) (hT.w k_X_32) (fun _ h => h) rfl d_X_hand_1 ?_
  refine va_getN (D := D) (ci := 1) (v := .int (km_hd (ks_m q))) hx hb hT.lays ly_M hown hT.1 hP 9 rfl rfl 6 (by decide) (hT.w k_X_100) (fun _ h => h) rfl d_X_hand_4 ?_
  refine ob_iret hlocks hx hb hr d_X_hand_7 (fun q hq => nomatch hq) (fun t ht hW => ?_)
  exact ⟨rfl, ht⟩

set_option maxHeartbeats 4000000 in
set_option maxRecDepth 100000 in
/-- X_faults -/
theorem c_X_faults (l : Launch) (D : va_G) (tI tZ tA tJ : ClassId) (b : Nat → Nat) (F S : Nat) (q : KS)  : ob_M l y_X_faults w_X_faults ({ frames := 0, cells := 0, slots := 0, locals := 0 }) (pR D tI tZ tA tJ [.ref (b 0)] (xW b F S tI tZ tA q) (True)) (ob_qR (some (.int (km_fl (ks_m q))))) 0 0 (fun _ => False) := by
  refine ob_ofW (by decide +kernel) ?_
  intro p e s m args below meth c s₁ B hml htab hv
  obtain ⟨rfl, hT, -, hP⟩ := hv
  have hx := B.exec
  have hb := B.bytes
  have hr := B.returns
  have hlocks := B.notSynchronized
  have hown : s.vm.findClass R_X = some m.cls := findClass_of_methodNamed B.named
  have hl := lv_entry ([.ref (b 0)]) (n := 1) (Nat.le_of_ble_eq_true rfl)
  rw [lg_entry_eq]
  generalize (lg_sl ([.ref (b 0)]) ++ List.replicate (1 - (lg_sl ([.ref (b 0)])).length) Slot.unset).toArray = ls at hl ⊢
  have hl : lv_has ls 1 [(0, .ref (b 0))] := hl
  refine lv_aload_n hx hb d_X_faults_0 rfl (lv_at hl 0 rfl) ?_
  refine va_get (D := D) (ci := 0) (v := .ref (b 9)) hx hb hT.lays ly_X hown hT.1 hP 0 rfl rfl 2 (by decide) (hT.w k_X_32) (fun _ h => h) rfl d_X_faults_1 ?_
  refine va_getN (D := D) (ci := 1) (v := .int (km_fl (ks_m q))) hx hb hT.lays ly_M hown hT.1 hP 9 rfl rfl 7 (by decide) (hT.w k_X_114) (fun _ h => h) rfl d_X_faults_4 ?_
  refine ob_iret hlocks hx hb hr d_X_faults_7 (fun q hq => nomatch hq) (fun t ht hW => ?_)
  exact ⟨rfl, ht⟩

set_option maxHeartbeats 4000000 in
set_option maxRecDepth 100000 in
/-- X_evicted -/
theorem c_X_evicted (l : Launch) (D : va_G) (tI tZ tA tJ : ClassId) (b : Nat → Nat) (F S : Nat) (q : KS)  : ob_M l y_X_evicted w_X_evicted ({ frames := 0, cells := 0, slots := 0, locals := 0 }) (pR D tI tZ tA tJ [.ref (b 0)] (xW b F S tI tZ tA q) (True)) (ob_qR (some (.int (km_ev (ks_m q))))) 0 0 (fun _ => False) := by
  refine ob_ofW (by decide +kernel) ?_
  intro p e s m args below meth c s₁ B hml htab hv
  obtain ⟨rfl, hT, -, hP⟩ := hv
  have hx := B.exec
  have hb := B.bytes
  have hr := B.returns
  have hlocks := B.notSynchronized
  have hown : s.vm.findClass R_X = some m.cls := findClass_of_methodNamed B.named
  have hl := lv_entry ([.ref (b 0)]) (n := 1) (Nat.le_of_ble_eq_true rfl)
  rw [lg_entry_eq]
  generalize (lg_sl ([.ref (b 0)]) ++ List.replicate (1 - (lg_sl ([.ref (b 0)])).length) Slot.unset).toArray = ls at hl ⊢
  have hl : lv_has ls 1 [(0, .ref (b 0))] := hl
  refine lv_aload_n hx hb d_X_evicted_0 rfl (lv_at hl 0 rfl) ?_
  refine va_get (D := D) (ci := 0) (v := .ref (b 9)) hx hb hT.lays ly_X hown hT.1 hP 0 rfl rfl 2 (by decide) (hT.w k_X_32) (fun _ h => h) rfl d_X_evicted_1 ?_
  refine va_getN (D := D) (ci := 1) (v := .int (km_ev (ks_m q))) hx hb hT.lays ly_M hown hT.1 hP 9 rfl rfl 8 (by decide) (hT.w k_X_117) (fun _ h => h) rfl d_X_evicted_4 ?_
  refine ob_iret hlocks hx hb hr d_X_evicted_7 (fun q hq => nomatch hq) (fun t ht hW => ?_)
  exact ⟨rfl, ht⟩

set_option maxHeartbeats 4000000 in
set_option maxRecDepth 100000 in
/-- X_isThere -/
theorem c_X_isThere (l : Launch) (D : va_G) (tI tZ tA tJ : ClassId) (b : Nat → Nat) (F S : Nat) (q : KS) (p0 : Int32) : ob_M l y_X_isThere w_X_isThere ({ frames := 0, cells := 0, slots := 0, locals := 0 }) (pR D tI tZ tA tJ [.ref (b 0), .int p0] (xW b F S tI tZ tA q) (True)) (ob_qR (some (.int (m_isP (ks_th q) p0)))) 0 0 (fun _ => False) := by
  refine ob_ofW (by decide +kernel) ?_
  intro p e s m args below meth c s₁ B hml htab hv
  obtain ⟨rfl, hT, -, hP⟩ := hv
  have hx := B.exec
  have hb := B.bytes
  have hr := B.returns
  have hlocks := B.notSynchronized
  have hown : s.vm.findClass R_X = some m.cls := findClass_of_methodNamed B.named
  have hl := lv_entry ([.ref (b 0), .int p0]) (n := 2) (Nat.le_of_ble_eq_true rfl)
  rw [lg_entry_eq]
  generalize (lg_sl ([.ref (b 0), .int p0]) ++ List.replicate (2 - (lg_sl ([.ref (b 0), .int p0])).length) Slot.unset).toArray = ls at hl ⊢
  have hl : lv_has ls 2 [(0, .ref (b 0)), (1, .int p0)] := hl
  unfold m_isP
  refine lv_iload_n hx hb d_X_isThere_0 rfl (lv_at hl 1 rfl) ?_
  refine lv_if_lt (tgt := 23) hx hb d_X_isThere_1 (by decide) (fun hc => ?_) (fun hc => ?_)
  · rw [if_pos hc]
    refine lv_iconst (v := 0) hx hb d_X_isThere_23 (by decide) ?_
    refine ob_zret hlocks hx hb hr d_X_isThere_24 (rfl) (fun q hq => nomatch hq) (fun t ht hW => ?_)
    exact ⟨rfl, ht⟩
  · rw [if_neg hc]
    have hc0 := hc
    refine lv_iload_n hx hb d_X_isThere_4 rfl (lv_at hl 1 rfl) ?_
    refine lv_bipush (v := 6) hx hb d_X_isThere_5 (by decide) ?_
    refine lv_icmp_ge (tgt := 23) hx hb d_X_isThere_7 (by decide) (fun hc => ?_) (fun hc => ?_)
    · rw [if_pos hc]
      refine lv_iconst (v := 0) hx hb d_X_isThere_23 (by decide) ?_
      refine ob_zret hlocks hx hb hr d_X_isThere_24 (rfl) (fun q hq => nomatch hq) (fun t ht hW => ?_)
      exact ⟨rfl, ht⟩
    · rw [if_neg hc]
      refine lv_aload_n hx hb d_X_isThere_10 rfl (lv_at hl 0 rfl) ?_
      refine va_get (D := D) (ci := 0) (v := .ref (b 1)) hx hb hT.lays ly_X hown hT.1 hP 0 rfl rfl 0 (by decide) (hT.w k_X_9) (fun _ h => h) rfl d_X_isThere_11 ?_
      refine lv_iload_n hx hb d_X_isThere_14 rfl (lv_at hl 1 rfl) ?_
      refine va_zald hx hb hT.1 hP 1 1 rfl rfl (page_in hc0 hc) d_X_isThere_15 ?_
      refine lv_if_eq (tgt := 23) hx hb d_X_isThere_16 (by decide) (fun hc => ?_) (fun hc => ?_)
      · rw [if_pos hc]
        refine lv_iconst (v := 0) hx hb d_X_isThere_23 (by decide) ?_
        refine ob_zret hlocks hx hb hr d_X_isThere_24 (rfl) (fun q hq => nomatch hq) (fun t ht hW => ?_)
        exact ⟨rfl, ht⟩
      · rw [if_neg hc]
        refine lv_iconst (v := 1) hx hb d_X_isThere_19 (by decide) ?_
        refine lv_goto (tgt := 24) hx hb d_X_isThere_20 (by decide) ?_
        refine ob_zret hlocks hx hb hr d_X_isThere_24 (rfl) (fun q hq => nomatch hq) (fun t ht hW => ?_)
        exact ⟨rfl, ht⟩

set_option maxHeartbeats 4000000 in
set_option maxRecDepth 100000 in
/-- X_lowestNotThere -/
theorem c_X_lowestNotThere (l : Launch) (D : va_G) (tI tZ tA tJ : ClassId) (b : Nat → Nat) (F S : Nat) (q : KS)  : ob_M l y_X_lowestNotThere w_X_lowestNotThere ({ frames := 0, cells := 0, slots := 0, locals := 0 }) (pR D tI tZ tA tJ [.ref (b 0)] (xW b F S tI tZ tA q) (True)) (ob_qR (some (.int (m_lowP (ks_th q) 6 0)))) 0 0 (fun _ => False) := by
  refine ob_ofW (by decide +kernel) ?_
  intro p e s m args below meth c s₁ B hml htab hv
  obtain ⟨rfl, hT, -, hP⟩ := hv
  have hx := B.exec
  have hb := B.bytes
  have hr := B.returns
  have hlocks := B.notSynchronized
  have hown : s.vm.findClass R_X = some m.cls := findClass_of_methodNamed B.named
  have hl := lv_entry ([.ref (b 0)]) (n := 2) (Nat.le_of_ble_eq_true rfl)
  rw [lg_entry_eq]
  generalize (lg_sl ([.ref (b 0)]) ++ List.replicate (2 - (lg_sl ([.ref (b 0)])).length) Slot.unset).toArray = ls at hl ⊢
  have hl : lv_has ls 2 [(0, .ref (b 0))] := hl
  have loop : ∀ (n i : Nat) (ls : Array Slot), i + n = 6 → m_lowP (ks_th q) n i = m_lowP (ks_th q) 6 0 → lv_has ls 2 [(1, .int (nI i)), (0, .ref (b 0))] → W p l e ({ frames := 0, cells := 0, slots := 0, locals := 0 } : Room) s m ([.ref (b 0)] : List Value).toArray below meth c s.heap [] 0 0 (ob_Q below (ob_qR (some (.int (m_lowP (ks_th q) 6 0)))) ([.ref (b 0)] : List Value).toArray s 0 0 (fun _ => False)) (F0 m 2 ls []) := by
    intro n
    induction n with
    | zero =>
      intro i ls hi hR hl
      refine lv_iload_n hx hb d_X_lowestNotThere_2 rfl (lv_at hl 0 rfl) ?_
      refine lv_bipush (v := 6) hx hb d_X_lowestNotThere_3 (by decide) ?_
      refine lv_icmp_ge (tgt := 25) hx hb d_X_lowestNotThere_5 (by decide) (fun hc => ?_) (fun hc => absurd (nI_le (a := 6) (by omega) (by omega)) hc)
      rw [← hR]
      refine lv_iconst (v := -1) hx hb d_X_lowestNotThere_25 (by decide) ?_
      refine ob_iret hlocks hx hb hr d_X_lowestNotThere_26 (fun q hq => nomatch hq) (fun t ht hW => ?_)
      exact ⟨rfl, ht⟩
    | succ n ih =>
      intro i ls hi hR hl
      refine lv_iload_n hx hb d_X_lowestNotThere_2 rfl (lv_at hl 0 rfl) ?_
      refine lv_bipush (v := 6) hx hb d_X_lowestNotThere_3 (by decide) ?_
      refine lv_icmp_ge (tgt := 25) hx hb d_X_lowestNotThere_5 (by decide) (fun hc => absurd hc (nI_ge (b := 6) (by omega) (by omega))) (fun hc => ?_)
      have hv : ks_th q (ix (nI i)) = ks_th q i := by show ks_th q (nI i).toNatClampNeg = ks_th q i; rw [nI_clamp (by omega)]
      refine lv_aload_n hx hb d_X_lowestNotThere_8 rfl (lv_at hl 1 rfl) ?_
      refine va_get (D := D) (ci := 0) (v := .ref (b 1)) hx hb hT.lays ly_X hown hT.1 hP 0 rfl rfl 0 (by decide) (hT.w k_X_9) (fun _ h => h) rfl d_X_lowestNotThere_9 ?_
      refine lv_iload_n hx hb d_X_lowestNotThere_12 rfl (lv_at hl 0 rfl) ?_
      refine va_zald hx hb hT.1 hP 1 1 rfl rfl (vp_in_nI (by omega) (by omega)) d_X_lowestNotThere_13 ?_
      rw [hv]
      refine lv_if_ne (tgt := 19) hx hb d_X_lowestNotThere_14 (by decide) (fun hc => ?_) (fun hc => ?_)
      · refine lv_iinc (k := 0) (v := nI (i + 1)) (lv' := [(1, .int (nI (i + 1))), (0, .ref (b 0))]) hx hb d_X_lowestNotThere_19 hl rfl (nI_1 i) (by decide) rfl (fun ls hl => ?_)
        refine lv_goto (tgt := 2) hx hb d_X_lowestNotThere_22 (by decide) ?_
        refine ih (i + 1) ls (by omega) ?_ hl
        rw [← hR]
        exact (if_neg hc).symm
      · have e1 : m_lowP (ks_th q) (n + 1) i = nI i := if_pos hc
        rw [← hR, e1]
        refine lv_iload_n hx hb d_X_lowestNotThere_17 rfl (lv_at hl 0 rfl) ?_
        refine ob_iret hlocks hx hb hr d_X_lowestNotThere_18 (fun q hq => nomatch hq) (fun t ht hW => ?_)
        exact ⟨rfl, ht⟩
  refine lv_iconst (v := 0) hx hb d_X_lowestNotThere_0 (by decide) ?_
  refine lv_istore_n (lv' := [(1, .int 0), (0, .ref (b 0))]) hx hb d_X_lowestNotThere_1 rfl hl (by decide) rfl (fun ls hl => ?_)
  exact loop 6 0 ls rfl rfl hl

set_option maxHeartbeats 4000000 in
set_option maxRecDepth 100000 in
/-- X_sheetOf -/
theorem c_X_sheetOf (l : Launch) (D : va_G) (tI tZ tA tJ : ClassId) (b : Nat → Nat) (F S : Nat) (q : KS) (p0 x : Int32) : ob_M l y_X_sheetOf w_X_sheetOf ({ frames := 1, cells := 0, slots := 0, locals := 21 }) (pR D tI tZ tA tJ [.ref (b 0), .int p0, .int x] (xW b F S tI tZ tA q) (True)) (ob_qR (some (.int (k_sheetOf q p0 x)))) 0 0 (fun _ => False) := by
  refine ob_ofW (by decide +kernel) ?_
  intro p e s m args below meth c s₁ B hml htab hv
  obtain ⟨rfl, hT, -, hP⟩ := hv
  have hx := B.exec
  have hb := B.bytes
  have hr := B.returns
  have hlocks := B.notSynchronized
  have hown : s.vm.findClass R_X = some m.cls := findClass_of_methodNamed B.named
  have hl := lv_entry ([.ref (b 0), .int p0, .int x]) (n := 3) (Nat.le_of_ble_eq_true rfl)
  rw [lg_entry_eq]
  generalize (lg_sl ([.ref (b 0), .int p0, .int x]) ++ List.replicate (3 - (lg_sl ([.ref (b 0), .int p0, .int x])).length) Slot.unset).toArray = ls at hl ⊢
  have hl : lv_has ls 3 [(0, .ref (b 0)), (1, .int p0), (2, .int x)] := hl
  unfold k_sheetOf
  refine lv_aload_n hx hb d_X_sheetOf_0 rfl (lv_at hl 0 rfl) ?_
  refine lv_iload_n hx hb d_X_sheetOf_1 rfl (lv_at hl 1 rfl) ?_
  refine ob_callR (v := (some (.int (m_isP (ks_th q) p0)))) (ob_runV (n := 1) (As := [.int p0]) (rest := []) (c_X_isThere l D tI tZ tA tJ b F S q p0) (hT.ok ob_cd_c (by decide +kernel) rfl rfl (Nat.le_of_ble_eq_true rfl) (Nat.le_of_ble_eq_true rfl) kn_X kc_X_isThere) hx hb hml hown (hT.w k_X_120) (hT.w ki_X_isThere) (hT.w kv_X_isThere) (va_recv (q0 := 0) (ci := 0) hT.1 hP rfl rfl) pR.blind (pR.at hT (trivial) hP) rfl rfl hl.1 rfl (lv_room (Nat.le_of_ble_eq_true rfl)) d_X_sheetOf_2 ⟨Nat.le_of_ble_eq_true rfl, Nat.le_of_ble_eq_true rfl⟩) ?_
  refine W.eq (g2 := F0 m 5 ls [.int (m_isP (ks_th q) p0)]) rfl ?_
  refine lv_if_eq (tgt := 29) hx hb d_X_sheetOf_5 (by decide) (fun hc => ?_) (fun hc => ?_)
  · rw [if_pos hc]
    refine lv_iconst (v := -1) hx hb d_X_sheetOf_29 (by decide) ?_
    refine ob_iret hlocks hx hb hr d_X_sheetOf_30 (fun q hq => nomatch hq) (fun t ht hW => ?_)
    exact ⟨rfl, ht⟩
  · rw [if_neg hc]
    have hp6 := m_isP_in hc
    refine lv_iload_n hx hb d_X_sheetOf_8 rfl (lv_at hl 2 rfl) ?_
    refine lv_if_lt (tgt := 29) hx hb d_X_sheetOf_9 (by decide) (fun hc => ?_) (fun hc => ?_)
    · rw [if_pos hc]
      refine lv_iconst (v := -1) hx hb d_X_sheetOf_29 (by decide) ?_
      refine ob_iret hlocks hx hb hr d_X_sheetOf_30 (fun q hq => nomatch hq) (fun t ht hW => ?_)
      exact ⟨rfl, ht⟩
    · rw [if_neg hc]
      have hc0 := hc
      refine lv_iload_n hx hb d_X_sheetOf_12 rfl (lv_at hl 2 rfl) ?_
      refine lv_bipush (v := 6) hx hb d_X_sheetOf_13 (by decide) ?_
      refine lv_icmp_ge (tgt := 29) hx hb d_X_sheetOf_15 (by decide) (fun hc => ?_) (fun hc => ?_)
      · rw [if_pos hc]
        refine lv_iconst (v := -1) hx hb d_X_sheetOf_29 (by decide) ?_
        refine ob_iret hlocks hx hb hr d_X_sheetOf_30 (fun q hq => nomatch hq) (fun t ht hW => ?_)
        exact ⟨rfl, ht⟩
      · rw [if_neg hc]
        refine lv_aload_n hx hb d_X_sheetOf_18 rfl (lv_at hl 0 rfl) ?_
        refine va_get (D := D) (ci := 0) (v := .ref (b 2)) hx hb hT.lays ly_X hown hT.1 hP 0 rfl rfl 1 (by decide) (hT.w k_X_15) (fun _ h => h) rfl d_X_sheetOf_19 ?_
        refine lv_iload_n hx hb d_X_sheetOf_22 rfl (lv_at hl 1 rfl) ?_
        refine ob_aald hx hb hT.1 hP 2 2 rfl rfl (hp6) d_X_sheetOf_23 ?_
        refine lv_iload_n hx hb d_X_sheetOf_24 rfl (lv_at hl 2 rfl) ?_
        refine va_iald hx hb hT.1 hP (3 + ix p0) 0 (pl_get (vp_ix hp6) rfl) rfl (page_in hc0 hc) d_X_sheetOf_25 ?_
        refine lv_goto (tgt := 30) hx hb d_X_sheetOf_26 (by decide) ?_
        refine ob_iret hlocks hx hb hr d_X_sheetOf_30 (fun q hq => nomatch hq) (fun t ht hW => ?_)
        exact ⟨rfl, ht⟩

set_option maxHeartbeats 4000000 in
set_option maxRecDepth 100000 in
/-- X_where -/
theorem c_X_where (l : Launch) (D : va_G) (tI tZ tA tJ : ClassId) (b : Nat → Nat) (F S : Nat) (q : KS) (p0 x : Int32) : ob_M l y_X_where w_X_where ({ frames := 2, cells := 0, slots := 0, locals := 43 }) (pR D tI tZ tA tJ [.ref (b 0), .int p0, .int x] (xW b F S tI tZ tA q) (¬ k_sheetOf q p0 x = -1 → vp_in (k_sheetOf q p0 x) (F + S))) (ob_qR (some (.int (k_where q p0 x)))) 0 0 (fun _ => False) := by
  refine ob_ofW (by decide +kernel) ?_
  intro p e s m args below meth c s₁ B hml htab hv
  obtain ⟨rfl, hT, hin, hP⟩ := hv
  have hx := B.exec
  have hb := B.bytes
  have hr := B.returns
  have hlocks := B.notSynchronized
  have hown : s.vm.findClass R_X = some m.cls := findClass_of_methodNamed B.named
  have hl := lv_entry ([.ref (b 0), .int p0, .int x]) (n := 4) (Nat.le_of_ble_eq_true rfl)
  rw [lg_entry_eq]
  generalize (lg_sl ([.ref (b 0), .int p0, .int x]) ++ List.replicate (4 - (lg_sl ([.ref (b 0), .int p0, .int x])).length) Slot.unset).toArray = ls at hl ⊢
  have hl : lv_has ls 4 [(0, .ref (b 0)), (1, .int p0), (2, .int x)] := hl
  unfold k_where
  refine lv_aload_n hx hb d_X_where_0 rfl (lv_at hl 0 rfl) ?_
  refine lv_iload_n hx hb d_X_where_1 rfl (lv_at hl 1 rfl) ?_
  refine lv_iload_n hx hb d_X_where_2 rfl (lv_at hl 2 rfl) ?_
  refine ob_callR (v := (some (.int (k_sheetOf q p0 x)))) (ob_runV (n := 2) (As := [.int p0, .int x]) (rest := []) (c_X_sheetOf l D tI tZ tA tJ b F S q p0 x) (hT.ok ob_cd_c (by decide +kernel) rfl rfl (Nat.le_of_ble_eq_true rfl) (Nat.le_of_ble_eq_true rfl) kn_X kc_X_sheetOf) hx hb hml hown (hT.w k_X_86) (hT.w ki_X_sheetOf) (hT.w kv_X_sheetOf) (va_recv (q0 := 0) (ci := 0) hT.1 hP rfl rfl) pR.blind (pR.at hT (trivial) hP) rfl rfl hl.1 rfl (lv_room (Nat.le_of_ble_eq_true rfl)) d_X_where_3 ⟨Nat.le_of_ble_eq_true rfl, Nat.le_of_ble_eq_true rfl⟩) ?_
  refine W.eq (g2 := F0 m 6 ls [.int (k_sheetOf q p0 x)]) rfl ?_
  refine lv_istore_n (lv' := [(3, .int (k_sheetOf q p0 x)), (0, .ref (b 0)), (1, .int p0), (2, .int x)]) hx hb d_X_where_6 rfl hl (by decide) rfl (fun ls hl => ?_)
  refine lv_iload_n hx hb d_X_where_7 rfl (lv_at hl 0 rfl) ?_
  refine lv_iconst (v := -1) hx hb d_X_where_8 (by decide) ?_
  refine lv_icmp_ne (tgt := 16) hx hb d_X_where_9 (by decide) (fun hc => ?_) (fun hc => ?_)
  · rw [if_neg hc]
    refine lv_aload_n hx hb d_X_where_16 rfl (lv_at hl 1 rfl) ?_
    refine va_get (D := D) (ci := 0) (v := .ref (b 9)) hx hb hT.lays ly_X hown hT.1 hP 0 rfl rfl 2 (by decide) (hT.w k_X_32) (fun _ h => h) rfl d_X_where_17 ?_
    refine lv_iload_n hx hb d_X_where_20 rfl (lv_at hl 0 rfl) ?_
    refine ob_callR (v := (some (.int (km_pl (ks_m q) (ix (k_sheetOf q p0 x)))))) (ob_runV (n := 1) (As := [.int (k_sheetOf q p0 x)]) (rest := []) (c_M_placeOf l D tI tZ tA tJ b F S (ks_m q) (k_sheetOf q p0 x)) (hT.ok ob_cd_c (by decide +kernel) rfl rfl (Nat.le_of_ble_eq_true rfl) (Nat.le_of_ble_eq_true rfl) kn_M kc_M_placeOf) hx hb hml hown (hT.w k_X_89) (hT.w ki_M_placeOf) (hT.w kv_M_placeOf) (va_recv (q0 := 9) (ci := 1) hT.1 hP rfl rfl) pR.blind (pR.at hT (hin hc) (ob_Pr (ob_Pr hP))) rfl rfl hl.1 rfl (lv_room (Nat.le_of_ble_eq_true rfl)) d_X_where_21 ⟨Nat.le_of_ble_eq_true rfl, Nat.le_of_ble_eq_true rfl⟩) ?_
    refine W.eq (g2 := F0 m 24 ls [.int (km_pl (ks_m q) (ix (k_sheetOf q p0 x)))]) rfl ?_
    refine ob_iret hlocks hx hb hr d_X_where_24 (fun q hq => nomatch hq) (fun t ht hW => ?_)
    exact ⟨rfl, ht⟩
  · rw [if_pos hc]
    refine lv_iconst (v := -1) hx hb d_X_where_12 (by decide) ?_
    refine lv_goto (tgt := 24) hx hb d_X_where_13 (by decide) ?_
    refine ob_iret hlocks hx hb hr d_X_where_24 (fun q hq => nomatch hq) (fun t ht hW => ?_)
    exact ⟨rfl, ht⟩

set_option maxHeartbeats 4000000 in
set_option maxRecDepth 100000 in
/-- X_sharers -/
theorem c_X_sharers (l : Launch) (D : va_G) (tI tZ tA tJ : ClassId) (b : Nat → Nat) (F S : Nat) (q : KS) (p0 x : Int32) : ob_M l y_X_sharers w_X_sharers ({ frames := 2, cells := 0, slots := 0, locals := 43 }) (pR D tI tZ tA tJ [.ref (b 0), .int p0, .int x] (xW b F S tI tZ tA q) (¬ k_sheetOf q p0 x = -1 → vp_in (k_sheetOf q p0 x) (F + S))) (ob_qR (some (.int (k_sharers q p0 x)))) 0 0 (fun _ => False) := by
  refine ob_ofW (by decide +kernel) ?_
  intro p e s m args below meth c s₁ B hml htab hv
  obtain ⟨rfl, hT, hin, hP⟩ := hv
  have hx := B.exec
  have hb := B.bytes
  have hr := B.returns
  have hlocks := B.notSynchronized
  have hown : s.vm.findClass R_X = some m.cls := findClass_of_methodNamed B.named
  have hl := lv_entry ([.ref (b 0), .int p0, .int x]) (n := 4) (Nat.le_of_ble_eq_true rfl)
  rw [lg_entry_eq]
  generalize (lg_sl ([.ref (b 0), .int p0, .int x]) ++ List.replicate (4 - (lg_sl ([.ref (b 0), .int p0, .int x])).length) Slot.unset).toArray = ls at hl ⊢
  have hl : lv_has ls 4 [(0, .ref (b 0)), (1, .int p0), (2, .int x)] := hl
  unfold k_sharers
  refine lv_aload_n hx hb d_X_sharers_0 rfl (lv_at hl 0 rfl) ?_
  refine lv_iload_n hx hb d_X_sharers_1 rfl (lv_at hl 1 rfl) ?_
  refine lv_iload_n hx hb d_X_sharers_2 rfl (lv_at hl 2 rfl) ?_
  refine ob_callR (v := (some (.int (k_sheetOf q p0 x)))) (ob_runV (n := 2) (As := [.int p0, .int x]) (rest := []) (c_X_sheetOf l D tI tZ tA tJ b F S q p0 x) (hT.ok ob_cd_c (by decide +kernel) rfl rfl (Nat.le_of_ble_eq_true rfl) (Nat.le_of_ble_eq_true rfl) kn_X kc_X_sheetOf) hx hb hml hown (hT.w k_X_86) (hT.w ki_X_sheetOf) (hT.w kv_X_sheetOf) (va_recv (q0 := 0) (ci := 0) hT.1 hP rfl rfl) pR.blind (pR.at hT (trivial) hP) rfl rfl hl.1 rfl (lv_room (Nat.le_of_ble_eq_true rfl)) d_X_sharers_3 ⟨Nat.le_of_ble_eq_true rfl, Nat.le_of_ble_eq_true rfl⟩) ?_
  refine W.eq (g2 := F0 m 6 ls [.int (k_sheetOf q p0 x)]) rfl ?_
  refine lv_istore_n (lv' := [(3, .int (k_sheetOf q p0 x)), (0, .ref (b 0)), (1, .int p0), (2, .int x)]) hx hb d_X_sharers_6 rfl hl (by decide) rfl (fun ls hl => ?_)
  refine lv_iload_n hx hb d_X_sharers_7 rfl (lv_at hl 0 rfl) ?_
  refine lv_iconst (v := -1) hx hb d_X_sharers_8 (by decide) ?_
  refine lv_icmp_ne (tgt := 16) hx hb d_X_sharers_9 (by decide) (fun hc => ?_) (fun hc => ?_)
  · rw [if_neg hc]
    refine lv_aload_n hx hb d_X_sharers_16 rfl (lv_at hl 1 rfl) ?_
    refine va_get (D := D) (ci := 0) (v := .ref (b 9)) hx hb hT.lays ly_X hown hT.1 hP 0 rfl rfl 2 (by decide) (hT.w k_X_32) (fun _ h => h) rfl d_X_sharers_17 ?_
    refine lv_iload_n hx hb d_X_sharers_20 rfl (lv_at hl 0 rfl) ?_
    refine ob_callR (v := (some (.int (km_ct (ks_m q) (ix (k_sheetOf q p0 x)))))) (ob_runV (n := 1) (As := [.int (k_sheetOf q p0 x)]) (rest := []) (c_M_pagesOf l D tI tZ tA tJ b F S (ks_m q) (k_sheetOf q p0 x)) (hT.ok ob_cd_c (by decide +kernel) rfl rfl (Nat.le_of_ble_eq_true rfl) (Nat.le_of_ble_eq_true rfl) kn_M kc_M_pagesOf) hx hb hml hown (hT.w k_X_93) (hT.w ki_M_pagesOf) (hT.w kv_M_pagesOf) (va_recv (q0 := 9) (ci := 1) hT.1 hP rfl rfl) pR.blind (pR.at hT (hin hc) (ob_Pr (ob_Pr hP))) rfl rfl hl.1 rfl (lv_room (Nat.le_of_ble_eq_true rfl)) d_X_sharers_21 ⟨Nat.le_of_ble_eq_true rfl, Nat.le_of_ble_eq_true rfl⟩) ?_
    refine W.eq (g2 := F0 m 24 ls [.int (km_ct (ks_m q) (ix (k_sheetOf q p0 x)))]) rfl ?_
    refine ob_iret hlocks hx hb hr d_X_sharers_24 (fun q hq => nomatch hq) (fun t ht hW => ?_)
    exact ⟨rfl, ht⟩
  · rw [if_pos hc]
    refine lv_iconst (v := 0) hx hb d_X_sharers_12 (by decide) ?_
    refine lv_goto (tgt := 24) hx hb d_X_sharers_13 (by decide) ?_
    refine ob_iret hlocks hx hb hr d_X_sharers_24 (fun q hq => nomatch hq) (fun t ht hW => ?_)
    exact ⟨rfl, ht⟩

theorem k_hasMark_nar (F : Nat) (f : Nat → Int32) (x : Int32) : narrow .boolean (.int (k_hasMark F f x)) = .int (k_hasMark F f x) := by
  unfold k_hasMark
  split
  · rfl
  · split
    · rfl
    · split <;> rfl

set_option maxHeartbeats 4000000 in
set_option maxRecDepth 100000 in
/-- X_marked -/
theorem c_X_marked (l : Launch) (D : va_G) (tI tZ tA tJ : ClassId) (b : Nat → Nat) (F S : Nat) (q : KS) (x : Int32) : ob_M l y_X_marked w_X_marked ({ frames := 1, cells := 0, slots := 0, locals := 21 }) (pR D tI tZ tA tJ [.ref (b 0), .int x] (xW b F S tI tZ tA q) (F ≤ 8)) (ob_qR (some (.int (k_hasMark F (km_mk (ks_m q)) x)))) 0 0 (fun _ => False) := by
  refine ob_ofW (by decide +kernel) ?_
  intro p e s m args below meth c s₁ B hml htab hv
  obtain ⟨rfl, hT, hF, hP⟩ := hv
  have hx := B.exec
  have hb := B.bytes
  have hr := B.returns
  have hlocks := B.notSynchronized
  have hown : s.vm.findClass R_X = some m.cls := findClass_of_methodNamed B.named
  have hl := lv_entry ([.ref (b 0), .int x]) (n := 2) (Nat.le_of_ble_eq_true rfl)
  rw [lg_entry_eq]
  generalize (lg_sl ([.ref (b 0), .int x]) ++ List.replicate (2 - (lg_sl ([.ref (b 0), .int x])).length) Slot.unset).toArray = ls at hl ⊢
  have hl : lv_has ls 2 [(0, .ref (b 0)), (1, .int x)] := hl
  refine lv_aload_n hx hb d_X_marked_0 rfl (lv_at hl 0 rfl) ?_
  refine va_get (D := D) (ci := 0) (v := .ref (b 9)) hx hb hT.lays ly_X hown hT.1 hP 0 rfl rfl 2 (by decide) (hT.w k_X_32) (fun _ h => h) rfl d_X_marked_1 ?_
  refine lv_iload_n hx hb d_X_marked_4 rfl (lv_at hl 1 rfl) ?_
  refine ob_callR (v := (some (.int (k_hasMark F (km_mk (ks_m q)) x)))) (ob_runV (n := 1) (As := [.int x]) (rest := []) (c_M_hasMark l D tI tZ tA tJ b F S (ks_m q) x) (hT.ok ob_cd_c (by decide +kernel) rfl rfl (Nat.le_of_ble_eq_true rfl) (Nat.le_of_ble_eq_true rfl) kn_M kc_M_hasMark) hx hb hml hown (hT.w k_X_96) (hT.w ki_M_hasMark) (hT.w kv_M_hasMark) (va_recv (q0 := 9) (ci := 1) hT.1 hP rfl rfl) pR.blind (pR.at hT (hF) (ob_Pr (ob_Pr hP))) rfl rfl hl.1 rfl (lv_room (Nat.le_of_ble_eq_true rfl)) d_X_marked_5 ⟨Nat.le_of_ble_eq_true rfl, Nat.le_of_ble_eq_true rfl⟩) ?_
  refine W.eq (g2 := F0 m 8 ls [.int (k_hasMark F (km_mk (ks_m q)) x)]) rfl ?_
  refine ob_zret hlocks hx hb hr d_X_marked_8 (k_hasMark_nar _ _ _) (fun q hq => nomatch hq) (fun t ht hW => ?_)
  exact ⟨rfl, ht⟩

set_option maxHeartbeats 4000000 in
set_option maxRecDepth 100000 in
/-- X_freeFrames -/
theorem c_X_freeFrames (l : Launch) (D : va_G) (tI tZ tA tJ : ClassId) (b : Nat → Nat) (F S : Nat) (q : KS)  : ob_M l y_X_freeFrames w_X_freeFrames ({ frames := 1, cells := 0, slots := 0, locals := 22 }) (pR D tI tZ tA tJ [.ref (b 0)] (xW b F S tI tZ tA q) (F ≤ 10)) (ob_qR (some (.int (k_cnt (km_iF (ks_m q)) F 0 0)))) 0 0 (fun _ => False) := by
  refine ob_ofW (by decide +kernel) ?_
  intro p e s m args below meth c s₁ B hml htab hv
  obtain ⟨rfl, hT, hn, hP⟩ := hv
  have hx := B.exec
  have hb := B.bytes
  have hr := B.returns
  have hlocks := B.notSynchronized
  have hown : s.vm.findClass R_X = some m.cls := findClass_of_methodNamed B.named
  have hl := lv_entry ([.ref (b 0)]) (n := 1) (Nat.le_of_ble_eq_true rfl)
  rw [lg_entry_eq]
  generalize (lg_sl ([.ref (b 0)]) ++ List.replicate (1 - (lg_sl ([.ref (b 0)])).length) Slot.unset).toArray = ls at hl ⊢
  have hl : lv_has ls 1 [(0, .ref (b 0))] := hl
  refine lv_aload_n hx hb d_X_freeFrames_0 rfl (lv_at hl 0 rfl) ?_
  refine va_get (D := D) (ci := 0) (v := .ref (b 9)) hx hb hT.lays ly_X hown hT.1 hP 0 rfl rfl 2 (by decide) (hT.w k_X_32) (fun _ h => h) rfl d_X_freeFrames_1 ?_
  refine va_getN (D := D) (ci := 1) (v := .ref (b 10)) hx hb hT.lays ly_M hown hT.1 hP 9 rfl rfl 0 (by decide) (hT.w k_X_103) (fun _ h => h) rfl d_X_freeFrames_4 ?_
  refine ob_callR (v := (some (.int (k_cnt (km_iF (ks_m q)) F 0 0)))) (ob_runS (n := 1) (As := [.ref (b 10)]) (rest := []) (c_X_countFree l D tI tZ tA tJ (b 10) F (km_iF (ks_m q))) (hT.ok ob_cd_c (by decide +kernel) rfl rfl (Nat.le_of_ble_eq_true rfl) (Nat.le_of_ble_eq_true rfl) kn_X kc_X_countFree) hx hb hml hown (hT.w k_X_107) (hT.w ks_X_countFree) pR.blind (pR.at hT (by omega) (hP.sub [10] rfl)) rfl rfl hl.1 rfl (lv_room (Nat.le_of_ble_eq_true rfl)) d_X_freeFrames_7 ⟨Nat.le_of_ble_eq_true rfl, Nat.le_of_ble_eq_true rfl⟩) ?_
  refine W.eq (g2 := F0 m 10 ls [.int (k_cnt (km_iF (ks_m q)) F 0 0)]) rfl ?_
  refine ob_iret hlocks hx hb hr d_X_freeFrames_10 (fun q hq => nomatch hq) (fun t ht hW => ?_)
  exact ⟨rfl, ht⟩

set_option maxHeartbeats 4000000 in
set_option maxRecDepth 100000 in
/-- X_freeSlots -/
theorem c_X_freeSlots (l : Launch) (D : va_G) (tI tZ tA tJ : ClassId) (b : Nat → Nat) (F S : Nat) (q : KS)  : ob_M l y_X_freeSlots w_X_freeSlots ({ frames := 1, cells := 0, slots := 0, locals := 22 }) (pR D tI tZ tA tJ [.ref (b 0)] (xW b F S tI tZ tA q) (S ≤ 10)) (ob_qR (some (.int (k_cnt (km_iS (ks_m q)) S 0 0)))) 0 0 (fun _ => False) := by
  refine ob_ofW (by decide +kernel) ?_
  intro p e s m args below meth c s₁ B hml htab hv
  obtain ⟨rfl, hT, hn, hP⟩ := hv
  have hx := B.exec
  have hb := B.bytes
  have hr := B.returns
  have hlocks := B.notSynchronized
  have hown : s.vm.findClass R_X = some m.cls := findClass_of_methodNamed B.named
  have hl := lv_entry ([.ref (b 0)]) (n := 1) (Nat.le_of_ble_eq_true rfl)
  rw [lg_entry_eq]
  generalize (lg_sl ([.ref (b 0)]) ++ List.replicate (1 - (lg_sl ([.ref (b 0)])).length) Slot.unset).toArray = ls at hl ⊢
  have hl : lv_has ls 1 [(0, .ref (b 0))] := hl
  refine lv_aload_n hx hb d_X_freeSlots_0 rfl (lv_at hl 0 rfl) ?_
  refine va_get (D := D) (ci := 0) (v := .ref (b 9)) hx hb hT.lays ly_X hown hT.1 hP 0 rfl rfl 2 (by decide) (hT.w k_X_32) (fun _ h => h) rfl d_X_freeSlots_1 ?_
  refine va_getN (D := D) (ci := 1) (v := .ref (b 11)) hx hb hT.lays ly_M hown hT.1 hP 9 rfl rfl 1 (by decide) (hT.w k_X_111) (fun _ h => h) rfl d_X_freeSlots_4 ?_
  refine ob_callR (v := (some (.int (k_cnt (km_iS (ks_m q)) S 0 0)))) (ob_runS (n := 1) (As := [.ref (b 11)]) (rest := []) (c_X_countFree l D tI tZ tA tJ (b 11) S (km_iS (ks_m q))) (hT.ok ob_cd_c (by decide +kernel) rfl rfl (Nat.le_of_ble_eq_true rfl) (Nat.le_of_ble_eq_true rfl) kn_X kc_X_countFree) hx hb hml hown (hT.w k_X_107) (hT.w ks_X_countFree) pR.blind (pR.at hT (by omega) (hP.sub [11] rfl)) rfl rfl hl.1 rfl (lv_room (Nat.le_of_ble_eq_true rfl)) d_X_freeSlots_7 ⟨Nat.le_of_ble_eq_true rfl, Nat.le_of_ble_eq_true rfl⟩) ?_
  refine W.eq (g2 := F0 m 10 ls [.int (k_cnt (km_iS (ks_m q)) S 0 0)]) rfl ?_
  refine ob_iret hlocks hx hb hr d_X_freeSlots_10 (fun q hq => nomatch hq) (fun t ht hW => ?_)
  exact ⟨rfl, ht⟩
end
section
/-- the class's own cells, without the memory's -/
abbrev xX (b : Nat → Nat) (tI tZ tA : ClassId) (q : KS) : va_W := x3 b tZ tA q ++ pl_rows b 3 6 6 tI (ks_pg q)
theorem xP_to {D : va_G} {cl : List vw_C} {b : Nat → Nat} {F S : Nat} {tI tZ tA : ClassId} {q : KS} {H : Heap} (h : va_P D cl (xW b F S tI tZ tA q) H) : va_P D cl (xX b tI tZ tA q ++ mW b F S tI tZ tA (ks_m q)) H := by rw [List.append_assoc]; exact h
theorem xD_to {A : Nat → Prop} {b : Nat → Nat} {F S : Nat} {tI tZ tA : ClassId} {q : KS} (h : va_D A (xW b F S tI tZ tA q)) : va_D A (xX b tI tZ tA q ++ mW b F S tI tZ tA (ks_m q)) := by rw [List.append_assoc]; exact h
theorem xP_of {D : va_G} {cl : List vw_C} {b : Nat → Nat} {F S : Nat} {tI tZ tA : ClassId} {q : KS} {k : KM} {H : Heap} (h : va_P D cl (xX b tI tZ tA q ++ mW b F S tI tZ tA k) H) : va_P D cl (xW b F S tI tZ tA (kv_m q k)) H := by rw [List.append_assoc] at h; exact h
theorem xD_of {A : Nat → Prop} {b : Nat → Nat} {F S : Nat} {tI tZ tA : ClassId} {q : KS} {k : KM} (h : va_D A (xX b tI tZ tA q ++ mW b F S tI tZ tA k)) : va_D A (xW b F S tI tZ tA (kv_m q k)) := by rw [List.append_assoc] at h; exact h
def k_setp (q : KS) (p g a : Int32) : KS := kv_pg q (up2 (ks_pg q) (ix p) (upd (ks_pg q (ix p)) (ix g) a))
abbrev k_at (q : KS) (p g : Int32) : Int32 := ks_pg q (ix p) (ix g)
def k_empty (q : KS) (p g : Int32) : Int32 × KS :=
  if k_at q p g = -1 then (0, k_setp q p g (-1)) else
  if (k_leave (ks_m q) (k_at q p g)).1 = 0 then (0, kv_m (k_setp q p g (-1)) (k_leave (ks_m q) (k_at q p g)).2) else (1, kv_m (k_setp q p g (-1)) (k_leave (ks_m q) (k_at q p g)).2)
def xe_ok (F S : Nat) (q : KS) (p g : Int32) : Prop := vp_in p 6 ∧ vp_in g 6 ∧ (¬ k_at q p g = -1 → lv_ok F S (ks_m q) (k_at q p g))
abbrev wr (a : Int32) : Int32 := a - a / 4 * 4
def k_loadW (F S : Nat) (q : KS) (p a : Int32) : Int32 × KS :=
  if k_at q p (a / 4) = -1 then (0, q) else (km_wd (k_touch F S (ks_m q) (k_at q p (a / 4))) (ix (k_at q p (a / 4))) (ix (wr a)), kv_m q (k_touch F S (ks_m q) (k_at q p (a / 4))))
def xl_ok (F S : Nat) (q : KS) (p a : Int32) : Prop := vp_in p 6 ∧ vp_in (a / 4) 6 ∧ vp_in (wr a) 4 ∧ (¬ k_at q p (a / 4) = -1 → to_ok F S (ks_m q) (k_at q p (a / 4)))
/-- what giveOwnSheet does to the memory behind make -/
def k_ownM (k : KM) (old a : Int32) : KM := if old = -1 then k else (k_leave (k_cpw k old a) old).2
def k_own (F S : Nat) (q : KS) (p g : Int32) : Int32 × KS :=
  ((k_make F S (ks_m q)).1, k_setp (kv_m q (k_ownM (k_make F S (ks_m q)).2 (k_at q p g) (k_make F S (ks_m q)).1)) p g (k_make F S (ks_m q)).1)
def xo_ok (F S : Nat) (q : KS) (p g : Int32) : Prop := vp_in p 6 ∧ vp_in g 6 ∧ mk_ok F S (ks_m q) ∧ ¬ (k_make F S (ks_m q)).1 = -1 ∧ (¬ k_at q p g = -1 → vp_in (k_at q p g) (F + S) ∧ vp_in (k_make F S (ks_m q)).1 (F + S) ∧ lv_ok F S (k_cpw (k_make F S (ks_m q)).2 (k_at q p g) (k_make F S (ks_m q)).1) (k_at q p g))
def k_need (q : KS) (p g : Int32) : Int32 := if k_at q p g = -1 then 1 else if km_ct (ks_m q) (ix (k_at q p g)) ≤ 1 then 0 else 1
def k_sto (F S : Nat) (q : KS) (p g : Int32) : Int32 × KS := if k_need q p g = 0 then (k_at q p g, q) else k_own F S q p g
def k_storeW (F S : Nat) (q : KS) (p a x : Int32) : KS := kv_m (k_sto F S q p (a / 4)).2 (k_write F S (ks_m (k_sto F S q p (a / 4)).2) (k_sto F S q p (a / 4)).1 (wr a) x)
def xs_ok (F S : Nat) (q : KS) (p a : Int32) : Prop := vp_in p 6 ∧ vp_in (a / 4) 6 ∧ vp_in (wr a) 4 ∧ (¬ k_at q p (a / 4) = -1 → vp_in (k_at q p (a / 4)) (F + S)) ∧ (¬ k_need q p (a / 4) = 0 → xo_ok F S q p (a / 4)) ∧ to_ok F S (ks_m (k_sto F S q p (a / 4)).2) (k_sto F S q p (a / 4)).1

set_option maxHeartbeats 4000000 in
set_option maxRecDepth 100000 in
/-- X_emptyPage -/
theorem c_X_emptyPage (l : Launch) (D : va_G) (tI tZ tA tJ : ClassId) (b : Nat → Nat) (F S sz : Nat) (q : KS) (p0 x : Int32) : ob_M l y_X_emptyPage w_X_emptyPage ({ frames := 2, cells := 0, slots := 0, locals := 42 }) (pW D tI tZ tA tJ [.ref (b 0), .int p0, .int x] (xW b F S tI tZ tA q) sz (xe_ok F S q p0 x)) (ob_qW D vcl (some (.int ((k_empty q p0 x).1))) (xW b F S tI tZ tA ((k_empty q p0 x).2)) (va_A (xW b F S tI tZ tA q) sz)) 0 0 (va_A (xW b F S tI tZ tA q) sz) := by
  refine ob_ofW (by decide +kernel) ?_
  intro p e s m args below meth c s₁ B hml htab hv
  obtain ⟨rfl, hT, ⟨hp6, hg6, hq⟩, hsz, hP, hD0⟩ := hv
  have hx := B.exec
  have hb := B.bytes
  have hr := B.returns
  have hlocks := B.notSynchronized
  have hown : s.vm.findClass R_X = some m.cls := findClass_of_methodNamed B.named
  have hl := lv_entry ([.ref (b 0), .int p0, .int x]) (n := 4) (Nat.le_of_ble_eq_true rfl)
  rw [lg_entry_eq]
  generalize (lg_sl ([.ref (b 0), .int p0, .int x]) ++ List.replicate (4 - (lg_sl ([.ref (b 0), .int p0, .int x])).length) Slot.unset).toArray = ls at hl ⊢
  have hl : lv_has ls 4 [(0, .ref (b 0)), (1, .int p0), (2, .int x)] := hl
  subst hsz
  have hD := hD0.self (sz := s.heap.size)
  generalize hAe : va_A (xW b F S tI tZ tA q) s.heap.size = A at hD ⊢
  have hA : ∀ q : Nat, s.heap.size ≤ q → A q := fun q h => by rw [← hAe]; exact Or.inr h
  have hS : va_S A s.heap s.heap [] := va_S.rf
  refine lv_aload_n hx hb d_X_emptyPage_0 rfl (lv_at hl 0 rfl) ?_
  refine va_get (D := D) (ci := 0) (v := .ref (b 2)) hx hb hT.lays ly_X hown hT.1 hP 0 rfl rfl 1 (by decide) (hT.w k_X_15) (fun _ h => h) rfl d_X_emptyPage_1 ?_
  refine lv_iload_n hx hb d_X_emptyPage_4 rfl (lv_at hl 1 rfl) ?_
  refine ob_aald hx hb hT.1 hP 2 2 rfl rfl (hp6) d_X_emptyPage_5 ?_
  refine lv_iload_n hx hb d_X_emptyPage_6 rfl (lv_at hl 2 rfl) ?_
  refine va_iald hx hb hT.1 hP (3 + ix p0) 0 (pl_get (vp_ix hp6) rfl) rfl (hg6) d_X_emptyPage_7 ?_
  refine lv_istore_n (lv' := [(3, .int ((ks_pg q (ix p0)) (ix x))), (0, .ref (b 0)), (1, .int p0), (2, .int x)]) hx hb d_X_emptyPage_8 rfl hl (by decide) rfl (fun ls hl => ?_)
  refine lv_aload_n hx hb d_X_emptyPage_9 rfl (lv_at hl 1 rfl) ?_
  refine va_get (D := D) (ci := 0) (v := .ref (b 2)) hx hb hT.lays ly_X hown hT.1 hP 0 rfl rfl 1 (by decide) (hT.w k_X_15) (fun _ h => h) rfl d_X_emptyPage_10 ?_
  refine lv_iload_n hx hb d_X_emptyPage_13 rfl (lv_at hl 2 rfl) ?_
  refine ob_aald hx hb hT.1 hP 2 2 rfl rfl (hp6) d_X_emptyPage_14 ?_
  refine lv_iload_n hx hb d_X_emptyPage_15 rfl (lv_at hl 3 rfl) ?_
  refine lv_iconst (v := -1) hx hb d_X_emptyPage_16 (by decide) ?_
  refine va_iast hx hb hT.1 hP hD hS (3 + ix p0) 0 (pl_get (vp_ix hp6) rfl) rfl (hg6) d_X_emptyPage_17 (fun H locs hP hD hS => ?_)
  rw [xW_row (vp_ix hp6)] at hP hD
  have hP : va_P D vcl (xW b F S tI tZ tA (kv_pg q (up2 (ks_pg q) (ix p0) (upd (ks_pg q (ix p0)) (ix x) (-1))))) H := hP
  have hD : va_D A (xW b F S tI tZ tA (kv_pg q (up2 (ks_pg q) (ix p0) (upd (ks_pg q (ix p0)) (ix x) (-1))))) := hD
  refine lv_iload_n hx hb d_X_emptyPage_18 rfl (lv_at hl 0 rfl) ?_
  refine lv_iconst (v := -1) hx hb d_X_emptyPage_19 (by decide) ?_
  have hP : va_P D vcl (xW b F S tI tZ tA (k_setp q p0 x (-1))) H := hP
  have hD : va_D A (xW b F S tI tZ tA (k_setp q p0 x (-1))) := hD
  refine lv_icmp_eq (tgt := 38) hx hb d_X_emptyPage_20 (by decide) (fun hc => ?_) (fun hc => ?_)
  · have e1 : k_empty q p0 x = (0, k_setp q p0 x (-1)) := if_pos hc
    rw [e1]
    refine lv_iconst (v := 0) hx hb d_X_emptyPage_38 (by decide) ?_
    refine ob_zret hlocks hx hb hr d_X_emptyPage_39 (rfl) hS.2.2 (fun t ht hW => ?_)
    exact ⟨rfl, by rw [ht]; exact hP, hD, hS.F ht⟩
  · refine lv_aload_n hx hb d_X_emptyPage_23 rfl (lv_at hl 1 rfl) ?_
    refine va_get (D := D) (ci := 0) (v := .ref (b 9)) hx hb hT.lays ly_X hown hT.1 hP 0 rfl rfl 2 (by decide) (hT.w k_X_32) (fun _ h => h) rfl d_X_emptyPage_24 ?_
    refine lv_iload_n hx hb d_X_emptyPage_27 rfl (lv_at hl 0 rfl) ?_
    have hc0 := hc
    refine ob_callW (v := (some (.int ((k_leave (ks_m q) (k_at q p0 x)).1)))) (X := xX b tI tZ tA (k_setp q p0 x (-1))) (M := mW b F S tI tZ tA (ks_m (k_setp q p0 x (-1)))) (M' := mW b F S tI tZ tA ((k_leave (ks_m q) (k_at q p0 x)).2)) (ob_runV (n := 1) (As := [.int (k_at q p0 x)]) (rest := []) (c_M_leave l D tI tZ tA tJ b F S H.size (ks_m (k_setp q p0 x (-1))) (k_at q p0 x)) (hT.ok ob_cd_c (by decide +kernel) rfl rfl (Nat.le_of_ble_eq_true rfl) (Nat.le_of_ble_eq_true rfl) kn_M kc_M_leave) hx hb hml hown (hT.w k_X_132) (hT.w ki_M_leave) (hT.w kv_M_leave) (va_recv (q0 := 9) (ci := 1) hT.1 hP rfl rfl) pW.blind (pW.at hT (hq hc) (ob_Pr (xP_to hP)) (ob_Dr (xD_to hD))) rfl rfl hl.1 rfl (lv_room (Nat.le_of_ble_eq_true rfl)) d_X_emptyPage_28 ⟨Nat.le_of_ble_eq_true rfl, Nat.le_of_ble_eq_true rfl⟩) (xP_to hP) (xD_to hD) hS hA (fun H locs hP hD hS => ?_)
    have hP : va_P D vcl (xW b F S tI tZ tA (kv_m (k_setp q p0 x (-1)) ((k_leave (ks_m q) (k_at q p0 x)).2))) H := xP_of hP
    have hD : va_D A (xW b F S tI tZ tA (kv_m (k_setp q p0 x (-1)) ((k_leave (ks_m q) (k_at q p0 x)).2))) := xD_of hD
    refine W.eq (g2 := F0 m 31 ls [.int ((k_leave (ks_m q) (k_at q p0 x)).1)]) rfl ?_
    refine lv_if_eq (tgt := 38) hx hb d_X_emptyPage_31 (by decide) (fun hc => ?_) (fun hc => ?_)
    · have e1 : k_empty q p0 x = (0, kv_m (k_setp q p0 x (-1)) ((k_leave (ks_m q) (k_at q p0 x)).2)) := by unfold k_empty; rw [if_neg hc0, if_pos hc]
      rw [e1]
      refine lv_iconst (v := 0) hx hb d_X_emptyPage_38 (by decide) ?_
      refine ob_zret hlocks hx hb hr d_X_emptyPage_39 (rfl) hS.2.2 (fun t ht hW => ?_)
      exact ⟨rfl, by rw [ht]; exact hP, hD, hS.F ht⟩
    · have e1 : k_empty q p0 x = (1, kv_m (k_setp q p0 x (-1)) ((k_leave (ks_m q) (k_at q p0 x)).2)) := by unfold k_empty; rw [if_neg hc0, if_neg hc]
      rw [e1]
      refine lv_iconst (v := 1) hx hb d_X_emptyPage_34 (by decide) ?_
      refine lv_goto (tgt := 39) hx hb d_X_emptyPage_35 (by decide) ?_
      refine ob_zret hlocks hx hb hr d_X_emptyPage_39 (rfl) hS.2.2 (fun t ht hW => ?_)
      exact ⟨rfl, by rw [ht]; exact hP, hD, hS.F ht⟩

set_option maxHeartbeats 4000000 in
set_option maxRecDepth 100000 in
/-- X_loadWord -/
theorem c_X_loadWord (l : Launch) (D : va_G) (tI tZ tA tJ : ClassId) (b : Nat → Nat) (F S sz : Nat) (q : KS) (p0 a : Int32) : ob_M l y_X_loadWord w_X_loadWord ({ frames := 6, cells := 0, slots := 0, locals := 129 }) (pW D tI tZ tA tJ [.ref (b 0), .int p0, .int a] (xW b F S tI tZ tA q) sz (xl_ok F S q p0 a)) (ob_qW D vcl (some (.int ((k_loadW F S q p0 a).1))) (xW b F S tI tZ tA ((k_loadW F S q p0 a).2)) (va_A (xW b F S tI tZ tA q) sz)) 0 0 (va_A (xW b F S tI tZ tA q) sz) := by
  refine ob_ofW (by decide +kernel) ?_
  intro p e s m args below meth c s₁ B hml htab hv
  obtain ⟨rfl, hT, ⟨hp6, hg6, hw4, hq⟩, hsz, hP, hD0⟩ := hv
  have hx := B.exec
  have hb := B.bytes
  have hr := B.returns
  have hlocks := B.notSynchronized
  have hown : s.vm.findClass R_X = some m.cls := findClass_of_methodNamed B.named
  have hl := lv_entry ([.ref (b 0), .int p0, .int a]) (n := 4) (Nat.le_of_ble_eq_true rfl)
  rw [lg_entry_eq]
  generalize (lg_sl ([.ref (b 0), .int p0, .int a]) ++ List.replicate (4 - (lg_sl ([.ref (b 0), .int p0, .int a])).length) Slot.unset).toArray = ls at hl ⊢
  have hl : lv_has ls 4 [(0, .ref (b 0)), (1, .int p0), (2, .int a)] := hl
  subst hsz
  have hD := hD0.self (sz := s.heap.size)
  generalize hAe : va_A (xW b F S tI tZ tA q) s.heap.size = A at hD ⊢
  have hA : ∀ q : Nat, s.heap.size ≤ q → A q := fun q h => by rw [← hAe]; exact Or.inr h
  have hS : va_S A s.heap s.heap [] := va_S.rf
  refine lv_aload_n hx hb d_X_loadWord_0 rfl (lv_at hl 0 rfl) ?_
  refine va_get (D := D) (ci := 0) (v := .ref (b 2)) hx hb hT.lays ly_X hown hT.1 hP 0 rfl rfl 1 (by decide) (hT.w k_X_15) (fun _ h => h) rfl d_X_loadWord_1 ?_
  refine lv_iload_n hx hb d_X_loadWord_4 rfl (lv_at hl 1 rfl) ?_
  refine ob_aald hx hb hT.1 hP 2 2 rfl rfl (hp6) d_X_loadWord_5 ?_
  refine lv_iload_n hx hb d_X_loadWord_6 rfl (lv_at hl 2 rfl) ?_
  refine lv_iconst (v := 4) hx hb d_X_loadWord_7 (by decide) ?_
  refine lv_idiv hx hb d_X_loadWord_8 (by decide) ?_
  refine va_iald hx hb hT.1 hP (3 + ix p0) 0 (pl_get (vp_ix hp6) rfl) rfl (hg6) d_X_loadWord_9 ?_
  refine lv_istore_n (lv' := [(3, .int ((ks_pg q (ix p0)) (ix (a / 4)))), (0, .ref (b 0)), (1, .int p0), (2, .int a)]) hx hb d_X_loadWord_10 rfl hl (by decide) rfl (fun ls hl => ?_)
  refine lv_iload_n hx hb d_X_loadWord_11 rfl (lv_at hl 0 rfl) ?_
  refine lv_iconst (v := -1) hx hb d_X_loadWord_12 (by decide) ?_
  refine lv_icmp_ne (tgt := 20) hx hb d_X_loadWord_13 (by decide) (fun hc => ?_) (fun hc => ?_)
  · refine lv_aload_n hx hb d_X_loadWord_20 rfl (lv_at hl 1 rfl) ?_
    refine va_get (D := D) (ci := 0) (v := .ref (b 9)) hx hb hT.lays ly_X hown hT.1 hP 0 rfl rfl 2 (by decide) (hT.w k_X_32) (fun _ h => h) rfl d_X_loadWord_21 ?_
    refine lv_iload_n hx hb d_X_loadWord_24 rfl (lv_at hl 0 rfl) ?_
    refine lv_iload_n hx hb d_X_loadWord_25 rfl (lv_at hl 3 rfl) ?_
    refine lv_iconst (v := 4) hx hb d_X_loadWord_26 (by decide) ?_
    refine lv_irem hx hb d_X_loadWord_27 (by decide) ?_
    refine ob_callW (v := (some (.int (km_wd (k_touch F S (ks_m q) (k_at q p0 (a / 4))) (ix (k_at q p0 (a / 4))) (ix (wr a)))))) (X := xX b tI tZ tA q) (M := mW b F S tI tZ tA (ks_m q)) (M' := mW b F S tI tZ tA (k_touch F S (ks_m q) (k_at q p0 (a / 4)))) (ob_runV (n := 2) (As := [.int (k_at q p0 (a / 4)), .int (a - a / 4 * 4)]) (rest := []) (c_M_read l D tI tZ tA tJ b F S s.heap.size (ks_m q) (k_at q p0 (a / 4)) (a - a / 4 * 4)) (hT.ok ob_cd_c (by decide +kernel) rfl rfl (Nat.le_of_ble_eq_true rfl) (Nat.le_of_ble_eq_true rfl) kn_M kc_M_read) hx hb hml hown (hT.w k_X_135) (hT.w ki_M_read) (hT.w kv_M_read) (va_recv (q0 := 9) (ci := 1) hT.1 hP rfl rfl) pW.blind (pW.at hT (⟨hq hc, hw4⟩) (ob_Pr (xP_to hP)) (ob_Dr (xD_to hD))) rfl rfl hl.1 rfl (lv_room (Nat.le_of_ble_eq_true rfl)) d_X_loadWord_28 ⟨Nat.le_of_ble_eq_true rfl, Nat.le_of_ble_eq_true rfl⟩) (xP_to hP) (xD_to hD) hS hA (fun H locs hP hD hS => ?_)
    have hP : va_P D vcl (xW b F S tI tZ tA (kv_m q (k_touch F S (ks_m q) (k_at q p0 (a / 4))))) H := xP_of hP
    have hD : va_D A (xW b F S tI tZ tA (kv_m q (k_touch F S (ks_m q) (k_at q p0 (a / 4))))) := xD_of hD
    refine W.eq (g2 := F0 m 31 ls [.int (km_wd (k_touch F S (ks_m q) (k_at q p0 (a / 4))) (ix (k_at q p0 (a / 4))) (ix (wr a)))]) rfl ?_
    have e1 : k_loadW F S q p0 a = (km_wd (k_touch F S (ks_m q) (k_at q p0 (a / 4))) (ix (k_at q p0 (a / 4))) (ix (wr a)), kv_m q (k_touch F S (ks_m q) (k_at q p0 (a / 4)))) := if_neg hc
    rw [e1]
    refine ob_iret hlocks hx hb hr d_X_loadWord_31 hS.2.2 (fun t ht hW => ?_)
    exact ⟨rfl, by rw [ht]; exact hP, hD, hS.F ht⟩
  · have e1 : k_loadW F S q p0 a = (0, q) := if_pos hc
    rw [e1]
    refine lv_iconst (v := 0) hx hb d_X_loadWord_16 (by decide) ?_
    refine lv_goto (tgt := 31) hx hb d_X_loadWord_17 (by decide) ?_
    refine ob_iret hlocks hx hb hr d_X_loadWord_31 hS.2.2 (fun t ht hW => ?_)
    exact ⟨rfl, by rw [ht]; exact hP, hD, hS.F ht⟩

set_option maxHeartbeats 4000000 in
set_option maxRecDepth 100000 in
/-- X_giveOwnSheet -/
theorem c_X_giveOwnSheet (l : Launch) (D : va_G) (tI tZ tA tJ : ClassId) (b : Nat → Nat) (F S sz : Nat) (q : KS) (p0 x : Int32) : ob_M l y_X_giveOwnSheet w_X_giveOwnSheet ({ frames := 4, cells := 0, slots := 0, locals := 87 }) (pW D tI tZ tA tJ [.ref (b 0), .int p0, .int x] (xW b F S tI tZ tA q) sz (xo_ok F S q p0 x)) (ob_qW D vcl (some (.int ((k_own F S q p0 x).1))) (xW b F S tI tZ tA ((k_own F S q p0 x).2)) (va_A (xW b F S tI tZ tA q) sz)) 0 0 (va_A (xW b F S tI tZ tA q) sz) := by
  refine ob_ofW (by decide +kernel) ?_
  intro p e s m args below meth c s₁ B hml htab hv
  obtain ⟨rfl, hT, ⟨hp6, hg6, hmk, hno, hq⟩, hsz, hP, hD0⟩ := hv
  have hx := B.exec
  have hb := B.bytes
  have hr := B.returns
  have hlocks := B.notSynchronized
  have hown : s.vm.findClass R_X = some m.cls := findClass_of_methodNamed B.named
  have hl := lv_entry ([.ref (b 0), .int p0, .int x]) (n := 5) (Nat.le_of_ble_eq_true rfl)
  rw [lg_entry_eq]
  generalize (lg_sl ([.ref (b 0), .int p0, .int x]) ++ List.replicate (5 - (lg_sl ([.ref (b 0), .int p0, .int x])).length) Slot.unset).toArray = ls at hl ⊢
  have hl : lv_has ls 5 [(0, .ref (b 0)), (1, .int p0), (2, .int x)] := hl
  subst hsz
  have hD := hD0.self (sz := s.heap.size)
  generalize hAe : va_A (xW b F S tI tZ tA q) s.heap.size = A at hD ⊢
  have hA : ∀ q : Nat, s.heap.size ≤ q → A q := fun q h => by rw [← hAe]; exact Or.inr h
  have hS : va_S A s.heap s.heap [] := va_S.rf
  refine lv_aload_n hx hb d_X_giveOwnSheet_0 rfl (lv_at hl 0 rfl) ?_
  refine va_get (D := D) (ci := 0) (v := .ref (b 9)) hx hb hT.lays ly_X hown hT.1 hP 0 rfl rfl 2 (by decide) (hT.w k_X_32) (fun _ h => h) rfl d_X_giveOwnSheet_1 ?_
  refine ob_callW (v := (some (.int ((k_make F S (ks_m q)).1)))) (X := xX b tI tZ tA q) (M := mW b F S tI tZ tA (ks_m q)) (M' := mW b F S tI tZ tA ((k_make F S (ks_m q)).2)) (ob_runV (n := 0) (As := []) (rest := []) (c_M_make l D tI tZ tA tJ b F S s.heap.size (ks_m q)) (hT.ok ob_cd_c (by decide +kernel) rfl rfl (Nat.le_of_ble_eq_true rfl) (Nat.le_of_ble_eq_true rfl) kn_M kc_M_make) hx hb hml hown (hT.w k_X_144) (hT.w ki_M_make) (hT.w kv_M_make) (va_recv (q0 := 9) (ci := 1) hT.1 hP rfl rfl) pW.blind (pW.at hT (hmk) (ob_Pr (xP_to hP)) (ob_Dr (xD_to hD))) rfl rfl hl.1 rfl (lv_room (Nat.le_of_ble_eq_true rfl)) d_X_giveOwnSheet_4 ⟨Nat.le_of_ble_eq_true rfl, Nat.le_of_ble_eq_true rfl⟩) (xP_to hP) (xD_to hD) hS hA (fun H locs hP hD hS => ?_)
  have hP : va_P D vcl (xW b F S tI tZ tA (kv_m q ((k_make F S (ks_m q)).2))) H := xP_of hP
  have hD : va_D A (xW b F S tI tZ tA (kv_m q ((k_make F S (ks_m q)).2))) := xD_of hD
  refine W.eq (g2 := F0 m 7 ls [.int ((k_make F S (ks_m q)).1)]) rfl ?_
  refine lv_istore_n (lv' := [(3, .int ((k_make F S (ks_m q)).1)), (0, .ref (b 0)), (1, .int p0), (2, .int x)]) hx hb d_X_giveOwnSheet_7 rfl hl (by decide) rfl (fun ls hl => ?_)
  refine lv_iload_n hx hb d_X_giveOwnSheet_8 rfl (lv_at hl 0 rfl) ?_
  refine lv_iconst (v := -1) hx hb d_X_giveOwnSheet_9 (by decide) ?_
  refine lv_icmp_ne (tgt := 23) hx hb d_X_giveOwnSheet_10 (by decide) (fun hc => ?_) (fun hc => absurd hc hno)
  refine lv_aload_n hx hb d_X_giveOwnSheet_23 rfl (lv_at hl 1 rfl) ?_
  refine va_get (D := D) (ci := 0) (v := .ref (b 2)) hx hb hT.lays ly_X hown hT.1 hP 0 rfl rfl 1 (by decide) (hT.w k_X_15) (fun _ h => h) rfl d_X_giveOwnSheet_24 ?_
  refine lv_iload_n hx hb d_X_giveOwnSheet_27 rfl (lv_at hl 2 rfl) ?_
  refine ob_aald hx hb hT.1 hP 2 2 rfl rfl (hp6) d_X_giveOwnSheet_28 ?_
  refine lv_iload_n hx hb d_X_giveOwnSheet_29 rfl (lv_at hl 3 rfl) ?_
  refine va_iald hx hb hT.1 hP (3 + ix p0) 0 (pl_get (vp_ix hp6) rfl) rfl (hg6) d_X_giveOwnSheet_30 ?_
  refine lv_istore (lv' := [(4, .int (k_at q p0 x)), (3, .int ((k_make F S (ks_m q)).1)), (0, .ref (b 0)), (1, .int p0), (2, .int x)]) hx hb d_X_giveOwnSheet_31 hl (by decide) rfl (fun ls hl => ?_)
  have hl : lv_has ls 5 [(4, .int (k_at q p0 x)), (3, .int ((k_make F S (ks_m q)).1)), (0, .ref (b 0)), (1, .int p0), (2, .int x)] := lv_sub hl [0, 1, 2, 3, 4] rfl
  have hend : ∀ (H : Heap) (locs : List Loc), va_P D vcl (xW b F S tI tZ tA (kv_m q (k_ownM (k_make F S (ks_m q)).2 (k_at q p0 x) (k_make F S (ks_m q)).1))) H → va_D A (xW b F S tI tZ tA (kv_m q (k_ownM (k_make F S (ks_m q)).2 (k_at q p0 x) (k_make F S (ks_m q)).1))) → va_S A s.heap H locs → W p l e ({ frames := 4, cells := 0, slots := 0, locals := 87 } : Room) s m ([.ref (b 0), .int p0, .int x] : List Value).toArray below meth c H locs 0 0 (ob_Q below (ob_qW D vcl (some (.int ((k_own F S q p0 x).1))) (xW b F S tI tZ tA ((k_own F S q p0 x).2)) A) ([.ref (b 0), .int p0, .int x] : List Value).toArray s 0 0 A) (F0 m 59 ls []) := by
    intro H locs hP hD hS
    refine lv_aload_n hx hb d_X_giveOwnSheet_59 rfl (lv_at hl 2 rfl) ?_
    refine va_get (D := D) (ci := 0) (v := .ref (b 2)) hx hb hT.lays ly_X hown hT.1 hP 0 rfl rfl 1 (by decide) (hT.w k_X_15) (fun _ h => h) rfl d_X_giveOwnSheet_60 ?_
    refine lv_iload_n hx hb d_X_giveOwnSheet_63 rfl (lv_at hl 3 rfl) ?_
    refine ob_aald hx hb hT.1 hP 2 2 rfl rfl (hp6) d_X_giveOwnSheet_64 ?_
    refine lv_iload_n hx hb d_X_giveOwnSheet_65 rfl (lv_at hl 4 rfl) ?_
    refine lv_iload_n hx hb d_X_giveOwnSheet_66 rfl (lv_at hl 1 rfl) ?_
    refine va_iast hx hb hT.1 hP hD hS (3 + ix p0) 0 (pl_get (vp_ix hp6) rfl) rfl (hg6) d_X_giveOwnSheet_67 (fun H locs hP hD hS => ?_)
    rw [xW_row (vp_ix hp6)] at hP hD
    have hP : va_P D vcl (xW b F S tI tZ tA (kv_pg (kv_m q (k_ownM (k_make F S (ks_m q)).2 (k_at q p0 x) (k_make F S (ks_m q)).1)) (up2 (ks_pg (kv_m q (k_ownM (k_make F S (ks_m q)).2 (k_at q p0 x) (k_make F S (ks_m q)).1))) (ix p0) (upd (ks_pg (kv_m q (k_ownM (k_make F S (ks_m q)).2 (k_at q p0 x) (k_make F S (ks_m q)).1)) (ix p0)) (ix x) ((k_make F S (ks_m q)).1))))) H := hP
    have hD : va_D A (xW b F S tI tZ tA (kv_pg (kv_m q (k_ownM (k_make F S (ks_m q)).2 (k_at q p0 x) (k_make F S (ks_m q)).1)) (up2 (ks_pg (kv_m q (k_ownM (k_make F S (ks_m q)).2 (k_at q p0 x) (k_make F S (ks_m q)).1))) (ix p0) (upd (ks_pg (kv_m q (k_ownM (k_make F S (ks_m q)).2 (k_at q p0 x) (k_make F S (ks_m q)).1)) (ix p0)) (ix x) ((k_make F S (ks_m q)).1))))) := hD
    refine lv_iload_n hx hb d_X_giveOwnSheet_68 rfl (lv_at hl 1 rfl) ?_
    refine ob_iret hlocks hx hb hr d_X_giveOwnSheet_69 hS.2.2 (fun t ht hW => ?_)
    exact ⟨rfl, by rw [ht]; exact hP, hD, hS.F ht⟩
  refine lv_iload hx hb d_X_giveOwnSheet_33 (lv_at hl 0 rfl) ?_
  refine lv_iconst (v := -1) hx hb d_X_giveOwnSheet_35 (by decide) ?_
  refine lv_icmp_eq (tgt := 59) hx hb d_X_giveOwnSheet_36 (by decide) (fun hc => ?_) (fun hc => ?_)
  · have e1 : k_ownM (k_make F S (ks_m q)).2 (k_at q p0 x) (k_make F S (ks_m q)).1 = (k_make F S (ks_m q)).2 := if_pos hc
    rw [e1] at hend
    exact hend H locs hP hD hS
  · obtain ⟨ha, hd, hlv⟩ := hq hc
    refine lv_aload_n hx hb d_X_giveOwnSheet_39 rfl (lv_at hl 2 rfl) ?_
    refine va_get (D := D) (ci := 0) (v := .ref (b 9)) hx hb hT.lays ly_X hown hT.1 hP 0 rfl rfl 2 (by decide) (hT.w k_X_32) (fun _ h => h) rfl d_X_giveOwnSheet_40 ?_
    refine lv_iload hx hb d_X_giveOwnSheet_43 (lv_at hl 0 rfl) ?_
    refine lv_iload_n hx hb d_X_giveOwnSheet_45 rfl (lv_at hl 1 rfl) ?_
    refine ob_callW (v := none) (X := xX b tI tZ tA (kv_m q ((k_make F S (ks_m q)).2))) (M := mW b F S tI tZ tA (ks_m (kv_m q ((k_make F S (ks_m q)).2)))) (M' := mW b F S tI tZ tA (k_cpw (k_make F S (ks_m q)).2 (k_at q p0 x) (k_make F S (ks_m q)).1)) (ob_runV (n := 2) (As := [.int (k_at q p0 x), .int ((k_make F S (ks_m q)).1)]) (rest := []) (c_M_copyWords l D tI tZ tA tJ b F S H.size (ks_m (kv_m q ((k_make F S (ks_m q)).2))) (k_at q p0 x) ((k_make F S (ks_m q)).1)) (hT.ok ob_cd_c (by decide +kernel) rfl rfl (Nat.le_of_ble_eq_true rfl) (Nat.le_of_ble_eq_true rfl) kn_M kc_M_copyWords) hx hb hml hown (hT.w k_X_149) (hT.w ki_M_copyWords) (hT.w kv_M_copyWords) (va_recv (q0 := 9) (ci := 1) hT.1 hP rfl rfl) pW.blind (pW.at hT (⟨ha, hd⟩) (ob_Pr (xP_to hP)) (ob_Dr (xD_to hD))) rfl rfl hl.1 rfl (lv_room (Nat.le_of_ble_eq_true rfl)) d_X_giveOwnSheet_46 ⟨Nat.le_of_ble_eq_true rfl, Nat.le_of_ble_eq_true rfl⟩) (xP_to hP) (xD_to hD) hS hA (fun H locs hP hD hS => ?_)
    have hP : va_P D vcl (xW b F S tI tZ tA (kv_m (kv_m q ((k_make F S (ks_m q)).2)) (k_cpw (k_make F S (ks_m q)).2 (k_at q p0 x) (k_make F S (ks_m q)).1))) H := xP_of hP
    have hD : va_D A (xW b F S tI tZ tA (kv_m (kv_m q ((k_make F S (ks_m q)).2)) (k_cpw (k_make F S (ks_m q)).2 (k_at q p0 x) (k_make F S (ks_m q)).1))) := xD_of hD
    refine W.eq (g2 := F0 m 49 ls []) rfl ?_
    refine lv_aload_n hx hb d_X_giveOwnSheet_49 rfl (lv_at hl 2 rfl) ?_
    refine va_get (D := D) (ci := 0) (v := .ref (b 9)) hx hb hT.lays ly_X hown hT.1 hP 0 rfl rfl 2 (by decide) (hT.w k_X_32) (fun _ h => h) rfl d_X_giveOwnSheet_50 ?_
    refine lv_iload hx hb d_X_giveOwnSheet_53 (lv_at hl 0 rfl) ?_
    refine ob_callW (v := (some (.int ((k_leave (k_cpw (k_make F S (ks_m q)).2 (k_at q p0 x) (k_make F S (ks_m q)).1) (k_at q p0 x)).1)))) (X := xX b tI tZ tA (kv_m (kv_m q ((k_make F S (ks_m q)).2)) (k_cpw (k_make F S (ks_m q)).2 (k_at q p0 x) (k_make F S (ks_m q)).1))) (M := mW b F S tI tZ tA (ks_m (kv_m (kv_m q ((k_make F S (ks_m q)).2)) (k_cpw (k_make F S (ks_m q)).2 (k_at q p0 x) (k_make F S (ks_m q)).1)))) (M' := mW b F S tI tZ tA ((k_leave (k_cpw (k_make F S (ks_m q)).2 (k_at q p0 x) (k_make F S (ks_m q)).1) (k_at q p0 x)).2)) (ob_runV (n := 1) (As := [.int (k_at q p0 x)]) (rest := []) (c_M_leave l D tI tZ tA tJ b F S H.size (ks_m (kv_m (kv_m q ((k_make F S (ks_m q)).2)) (k_cpw (k_make F S (ks_m q)).2 (k_at q p0 x) (k_make F S (ks_m q)).1))) (k_at q p0 x)) (hT.ok ob_cd_c (by decide +kernel) rfl rfl (Nat.le_of_ble_eq_true rfl) (Nat.le_of_ble_eq_true rfl) kn_M kc_M_leave) hx hb hml hown (hT.w k_X_132) (hT.w ki_M_leave) (hT.w kv_M_leave) (va_recv (q0 := 9) (ci := 1) hT.1 hP rfl rfl) pW.blind (pW.at hT (hlv) (ob_Pr (xP_to hP)) (ob_Dr (xD_to hD))) rfl rfl hl.1 rfl (lv_room (Nat.le_of_ble_eq_true rfl)) d_X_giveOwnSheet_55 ⟨Nat.le_of_ble_eq_true rfl, Nat.le_of_ble_eq_true rfl⟩) (xP_to hP) (xD_to hD) hS hA (fun H locs hP hD hS => ?_)
    have hP : va_P D vcl (xW b F S tI tZ tA (kv_m (kv_m (kv_m q ((k_make F S (ks_m q)).2)) (k_cpw (k_make F S (ks_m q)).2 (k_at q p0 x) (k_make F S (ks_m q)).1)) ((k_leave (k_cpw (k_make F S (ks_m q)).2 (k_at q p0 x) (k_make F S (ks_m q)).1) (k_at q p0 x)).2))) H := xP_of hP
    have hD : va_D A (xW b F S tI tZ tA (kv_m (kv_m (kv_m q ((k_make F S (ks_m q)).2)) (k_cpw (k_make F S (ks_m q)).2 (k_at q p0 x) (k_make F S (ks_m q)).1)) ((k_leave (k_cpw (k_make F S (ks_m q)).2 (k_at q p0 x) (k_make F S (ks_m q)).1) (k_at q p0 x)).2))) := xD_of hD
    refine W.eq (g2 := F0 m 58 ls [.int ((k_leave (k_cpw (k_make F S (ks_m q)).2 (k_at q p0 x) (k_make F S (ks_m q)).1) (k_at q p0 x)).1)]) rfl ?_
    refine lv_pop hx hb d_X_giveOwnSheet_58 rfl ?_
    have e1 : k_ownM (k_make F S (ks_m q)).2 (k_at q p0 x) (k_make F S (ks_m q)).1 = (k_leave (k_cpw (k_make F S (ks_m q)).2 (k_at q p0 x) (k_make F S (ks_m q)).1) (k_at q p0 x)).2 := if_neg hc
    rw [e1] at hend
    exact hend H locs hP hD hS

set_option maxHeartbeats 4000000 in
set_option maxRecDepth 100000 in
/-- X_storeWord -/
theorem c_X_storeWord (l : Launch) (D : va_G) (tI tZ tA tJ : ClassId) (b : Nat → Nat) (F S sz : Nat) (q : KS) (p0 a v : Int32) : ob_M l y_X_storeWord w_X_storeWord ({ frames := 6, cells := 0, slots := 0, locals := 130 }) (pW D tI tZ tA tJ [.ref (b 0), .int p0, .int a, .int v] (xW b F S tI tZ tA q) sz (xs_ok F S q p0 a)) (ob_qW D vcl none (xW b F S tI tZ tA (k_storeW F S q p0 a v)) (va_A (xW b F S tI tZ tA q) sz)) 0 0 (va_A (xW b F S tI tZ tA q) sz) := by
  refine ob_ofW (by decide +kernel) ?_
  intro p e s m args below meth c s₁ B hml htab hv
  obtain ⟨rfl, hT, ⟨hp6, hg6, hw4, hin, hown6, hto⟩, hsz, hP, hD0⟩ := hv
  have hx := B.exec
  have hb := B.bytes
  have hr := B.returns
  have hlocks := B.notSynchronized
  have hown : s.vm.findClass R_X = some m.cls := findClass_of_methodNamed B.named
  have hl := lv_entry ([.ref (b 0), .int p0, .int a, .int v]) (n := 6) (Nat.le_of_ble_eq_true rfl)
  rw [lg_entry_eq]
  generalize (lg_sl ([.ref (b 0), .int p0, .int a, .int v]) ++ List.replicate (6 - (lg_sl ([.ref (b 0), .int p0, .int a, .int v])).length) Slot.unset).toArray = ls at hl ⊢
  have hl : lv_has ls 6 [(0, .ref (b 0)), (1, .int p0), (2, .int a), (3, .int v)] := hl
  subst hsz
  have hD := hD0.self (sz := s.heap.size)
  generalize hAe : va_A (xW b F S tI tZ tA q) s.heap.size = A at hD ⊢
  have hA : ∀ q : Nat, s.heap.size ≤ q → A q := fun q h => by rw [← hAe]; exact Or.inr h
  have hS : va_S A s.heap s.heap [] := va_S.rf
  have hend : ∀ (ls : Array Slot) (H : Heap) (locs : List Loc), lv_has ls 6 [(5, .int ((k_sto F S q p0 (a / 4)).1)), (4, .int (a / 4)), (0, .ref (b 0)), (1, .int p0), (2, .int a), (3, .int v)] → va_P D vcl (xW b F S tI tZ tA ((k_sto F S q p0 (a / 4)).2)) H → va_D A (xW b F S tI tZ tA ((k_sto F S q p0 (a / 4)).2)) → va_S A s.heap H locs → W p l e ({ frames := 6, cells := 0, slots := 0, locals := 130 } : Room) s m ([.ref (b 0), .int p0, .int a, .int v] : List Value).toArray below meth c H locs 0 0 (ob_Q below (ob_qW D vcl none (xW b F S tI tZ tA (k_storeW F S q p0 a v)) A) ([.ref (b 0), .int p0, .int a, .int v] : List Value).toArray s 0 0 A) (F0 m 44 ls []) := by
    intro ls H locs hl hP hD hS
    refine lv_aload_n hx hb d_X_storeWord_44 rfl (lv_at hl 2 rfl) ?_
    refine va_get (D := D) (ci := 0) (v := .ref (b 9)) hx hb hT.lays ly_X hown hT.1 hP 0 rfl rfl 2 (by decide) (hT.w k_X_32) (fun _ h => h) rfl d_X_storeWord_45 ?_
    refine lv_iload hx hb d_X_storeWord_48 (lv_at hl 0 rfl) ?_
    refine lv_iload_n hx hb d_X_storeWord_50 rfl (lv_at hl 4 rfl) ?_
    refine lv_iconst (v := 4) hx hb d_X_storeWord_51 (by decide) ?_
    refine lv_irem hx hb d_X_storeWord_52 (by decide) ?_
    refine lv_iload_n hx hb d_X_storeWord_53 rfl (lv_at hl 5 rfl) ?_
    refine ob_callW (v := none) (X := xX b tI tZ tA ((k_sto F S q p0 (a / 4)).2)) (M := mW b F S tI tZ tA (ks_m ((k_sto F S q p0 (a / 4)).2))) (M' := mW b F S tI tZ tA (k_write F S (ks_m (k_sto F S q p0 (a / 4)).2) (k_sto F S q p0 (a / 4)).1 (wr a) v)) (ob_runV (n := 3) (As := [.int ((k_sto F S q p0 (a / 4)).1), .int (a - a / 4 * 4), .int v]) (rest := []) (c_M_write l D tI tZ tA tJ b F S H.size (ks_m ((k_sto F S q p0 (a / 4)).2)) ((k_sto F S q p0 (a / 4)).1) (a - a / 4 * 4) v) (hT.ok ob_cd_c (by decide +kernel) rfl rfl (Nat.le_of_ble_eq_true rfl) (Nat.le_of_ble_eq_true rfl) kn_M kc_M_write) hx hb hml hown (hT.w k_X_141) (hT.w ki_M_write) (hT.w kv_M_write) (va_recv (q0 := 9) (ci := 1) hT.1 hP rfl rfl) pW.blind (pW.at hT (⟨hto, hw4⟩) (ob_Pr (xP_to hP)) (ob_Dr (xD_to hD))) rfl rfl hl.1 rfl (lv_room (Nat.le_of_ble_eq_true rfl)) d_X_storeWord_54 ⟨Nat.le_of_ble_eq_true rfl, Nat.le_of_ble_eq_true rfl⟩) (xP_to hP) (xD_to hD) hS hA (fun H locs hP hD hS => ?_)
    have hP : va_P D vcl (xW b F S tI tZ tA (kv_m ((k_sto F S q p0 (a / 4)).2) (k_write F S (ks_m (k_sto F S q p0 (a / 4)).2) (k_sto F S q p0 (a / 4)).1 (wr a) v))) H := xP_of hP
    have hD : va_D A (xW b F S tI tZ tA (kv_m ((k_sto F S q p0 (a / 4)).2) (k_write F S (ks_m (k_sto F S q p0 (a / 4)).2) (k_sto F S q p0 (a / 4)).1 (wr a) v))) := xD_of hD
    refine W.eq (g2 := F0 m 57 ls []) rfl ?_
    refine ob_vret hlocks hx hb hr d_X_storeWord_57 hS.2.2 (fun t ht hW => ?_)
    exact ⟨rfl, by rw [ht]; exact hP, hD, hS.F ht⟩
  refine lv_iload_n hx hb d_X_storeWord_0 rfl (lv_at hl 2 rfl) ?_
  refine lv_iconst (v := 4) hx hb d_X_storeWord_1 (by decide) ?_
  refine lv_idiv hx hb d_X_storeWord_2 (by decide) ?_
  refine lv_istore (lv' := [(4, .int (a / 4)), (0, .ref (b 0)), (1, .int p0), (2, .int a), (3, .int v)]) hx hb d_X_storeWord_3 hl (by decide) rfl (fun ls hl => ?_)
  refine lv_aload_n hx hb d_X_storeWord_5 rfl (lv_at hl 1 rfl) ?_
  refine va_get (D := D) (ci := 0) (v := .ref (b 2)) hx hb hT.lays ly_X hown hT.1 hP 0 rfl rfl 1 (by decide) (hT.w k_X_15) (fun _ h => h) rfl d_X_storeWord_6 ?_
  refine lv_iload_n hx hb d_X_storeWord_9 rfl (lv_at hl 2 rfl) ?_
  refine ob_aald hx hb hT.1 hP 2 2 rfl rfl (hp6) d_X_storeWord_10 ?_
  refine lv_iload hx hb d_X_storeWord_11 (lv_at hl 0 rfl) ?_
  refine va_iald hx hb hT.1 hP (3 + ix p0) 0 (pl_get (vp_ix hp6) rfl) rfl (hg6) d_X_storeWord_13 ?_
  refine lv_istore (lv' := [(5, .int ((ks_pg q (ix p0)) (ix (a / 4)))), (4, .int (a / 4)), (0, .ref (b 0)), (1, .int p0), (2, .int a), (3, .int v)]) hx hb d_X_storeWord_14 hl (by decide) rfl (fun ls hl => ?_)
  have hl : lv_has ls 6 [(5, .int (k_at q p0 (a / 4))), (4, .int (a / 4)), (0, .ref (b 0)), (1, .int p0), (2, .int a), (3, .int v)] := lv_sub hl [0, 1, 2, 3, 4, 5] rfl
  have hgo : ¬ k_need q p0 (a / 4) = 0 → W p l e ({ frames := 6, cells := 0, slots := 0, locals := 130 } : Room) s m ([.ref (b 0), .int p0, .int a, .int v] : List Value).toArray below meth c s.heap [] 0 0 (ob_Q below (ob_qW D vcl none (xW b F S tI tZ tA (k_storeW F S q p0 a v)) A) ([.ref (b 0), .int p0, .int a, .int v] : List Value).toArray s 0 0 A) (F0 m 35 ls []) := by
    intro hn
    have e1 : k_sto F S q p0 (a / 4) = k_own F S q p0 (a / 4) := if_neg hn
    rw [e1] at hend
    refine lv_aload_n hx hb d_X_storeWord_35 rfl (lv_at hl 2 rfl) ?_
    refine lv_iload_n hx hb d_X_storeWord_36 rfl (lv_at hl 3 rfl) ?_
    refine lv_iload hx hb d_X_storeWord_37 (lv_at hl 1 rfl) ?_
    refine ob_callW (v := (some (.int ((k_own F S q p0 (a / 4)).1)))) (X := []) (M := xW b F S tI tZ tA q) (M' := xW b F S tI tZ tA ((k_own F S q p0 (a / 4)).2)) (ob_runV (n := 2) (As := [.int p0, .int (a / 4)]) (rest := []) (c_X_giveOwnSheet l D tI tZ tA tJ b F S s.heap.size q p0 (a / 4)) (hT.ok ob_cd_c (by decide +kernel) rfl rfl (Nat.le_of_ble_eq_true rfl) (Nat.le_of_ble_eq_true rfl) kn_X kc_X_giveOwnSheet) hx hb hml hown (hT.w k_X_138) (hT.w ki_X_giveOwnSheet) (hT.w kv_X_giveOwnSheet) (va_recv (q0 := 0) (ci := 0) hT.1 hP rfl rfl) pW.blind (pW.at hT (hown6 hn) hP hD) rfl rfl hl.1 rfl (lv_room (Nat.le_of_ble_eq_true rfl)) d_X_storeWord_39 ⟨Nat.le_of_ble_eq_true rfl, Nat.le_of_ble_eq_true rfl⟩) hP hD hS hA (fun H locs hP hD hS => ?_)
    have hP : va_P D vcl (xW b F S tI tZ tA ((k_own F S q p0 (a / 4)).2)) H := hP
    have hD : va_D A (xW b F S tI tZ tA ((k_own F S q p0 (a / 4)).2)) := hD
    refine W.eq (g2 := F0 m 42 ls [.int ((k_own F S q p0 (a / 4)).1)]) rfl ?_
    refine lv_istore (lv' := [(5, .int ((k_own F S q p0 (a / 4)).1)), (4, .int (a / 4)), (0, .ref (b 0)), (1, .int p0), (2, .int a), (3, .int v)]) hx hb d_X_storeWord_42 hl (by decide) rfl (fun ls hl => ?_)
    exact hend ls H locs (lv_sub hl [0, 1, 2, 3, 4, 5] rfl) hP hD hS
  refine lv_iload hx hb d_X_storeWord_16 (lv_at hl 0 rfl) ?_
  refine lv_iconst (v := -1) hx hb d_X_storeWord_18 (by decide) ?_
  refine lv_icmp_eq (tgt := 35) hx hb d_X_storeWord_19 (by decide) (fun hc => ?_) (fun hc => ?_)
  · exact hgo (by unfold k_need; rw [if_pos hc]; decide)
  · have hc0 := hc
    refine lv_aload_n hx hb d_X_storeWord_22 rfl (lv_at hl 2 rfl) ?_
    refine va_get (D := D) (ci := 0) (v := .ref (b 9)) hx hb hT.lays ly_X hown hT.1 hP 0 rfl rfl 2 (by decide) (hT.w k_X_32) (fun _ h => h) rfl d_X_storeWord_23 ?_
    refine lv_iload hx hb d_X_storeWord_26 (lv_at hl 0 rfl) ?_
    refine ob_callR (v := (some (.int (km_ct (ks_m q) (ix (k_at q p0 (a / 4))))))) (ob_runV (n := 1) (As := [.int (k_at q p0 (a / 4))]) (rest := []) (c_M_pagesOf l D tI tZ tA tJ b F S (ks_m q) (k_at q p0 (a / 4))) (hT.ok ob_cd_c (by decide +kernel) rfl rfl (Nat.le_of_ble_eq_true rfl) (Nat.le_of_ble_eq_true rfl) kn_M kc_M_pagesOf) hx hb hml hown (hT.w k_X_93) (hT.w ki_M_pagesOf) (hT.w kv_M_pagesOf) (va_recv (q0 := 9) (ci := 1) hT.1 hP rfl rfl) pR.blind (pR.at hT (hin hc) (ob_Pr (ob_Pr hP))) rfl rfl hl.1 rfl (lv_room (Nat.le_of_ble_eq_true rfl)) d_X_storeWord_28 ⟨Nat.le_of_ble_eq_true rfl, Nat.le_of_ble_eq_true rfl⟩) ?_
    refine W.eq (g2 := F0 m 31 ls [.int (km_ct (ks_m q) (ix (k_at q p0 (a / 4))))]) rfl ?_
    refine lv_iconst (v := 1) hx hb d_X_storeWord_31 (by decide) ?_
    refine lv_icmp_le (tgt := 44) hx hb d_X_storeWord_32 (by decide) (fun hc => ?_) (fun hc => ?_)
    · have e1 : k_sto F S q p0 (a / 4) = (k_at q p0 (a / 4), q) := if_pos (by unfold k_need; rw [if_neg hc0, if_pos hc])
      rw [e1] at hend
      exact hend ls s.heap [] hl hP hD hS
    · exact hgo (by unfold k_need; rw [if_neg hc0, if_neg hc]; decide)
end
section
theorem lowP_in {th : Nat → Int32} (h : ¬ m_lowP th 6 0 = -1) : vp_in (m_lowP th 6 0) 6 := by
  rcases m_lowP_or th 6 0 with h1 | ⟨j, -, b, c, -⟩
  · exact absurd h1 h
  · rw [c]; exact vp_in_nI (by omega) (by omega)
def k_spawn (q : KS) : KS := kv_th q (upd (ks_th q) (ix (m_lowP (ks_th q) 6 0)) 1)
def k_fork1 (q : KS) (p c g : Int32) : KS := if k_at q p g = -1 then k_setp q c g (k_at q p g) else kv_m (k_setp q c g (k_at q p g)) (k_join (ks_m q) (k_at q p g))
def k_forkL (p c : Int32) : Nat → Nat → KS → KS
  | 0, _, q => q
  | n + 1, g, q => k_forkL p c n (g + 1) (k_fork1 q p c (nI g))
def kf_ok (F S : Nat) (p c : Int32) : Nat → Nat → KS → Prop
  | 0, _, _ => True
  | n + 1, g, q => (¬ k_at q p (nI g) = -1 → vp_in (k_at q p (nI g)) (F + S)) ∧ kf_ok F S p c n (g + 1) (k_fork1 q p c (nI g))
def k_exitL (p : Int32) : Nat → Nat → Int32 → KS → Int32 × KS
  | 0, _, x, q => (x, q)
  | n + 1, g, x, q => k_exitL p n (g + 1) (if (k_empty q p (nI g)).1 = 0 then x else x + 1) (k_empty q p (nI g)).2
def kx_ok (F S : Nat) (p : Int32) : Nat → Nat → KS → Prop
  | 0, _, _ => True
  | n + 1, g, q => xe_ok F S q p (nI g) ∧ kx_ok F S p n (g + 1) (k_empty q p (nI g)).2
/-- whether a store into the page is refused -/
def k_no (F S : Nat) (q : KS) (p g : Int32) : Int32 := if k_need q p g = 0 then 0 else if (k_make F S (ks_m q)).1 = -1 then 1 else 0
/-- refused (1) or not, and the state then -/
def k_copyL (F S : Nat) (p a d : Int32) : Nat → Nat → KS → Int32 × KS
  | 0, _, q => (0, q)
  | n + 1, i, q =>
    if k_no F S (k_loadW F S q p (a + nI i)).2 p ((d + nI i) / 4) = 0 then
      k_copyL F S p a d n (i + 1) (kv_cp (k_storeW F S (k_loadW F S q p (a + nI i)).2 p (d + nI i) (k_loadW F S q p (a + nI i)).1) (ks_cp (k_storeW F S (k_loadW F S q p (a + nI i)).2 p (d + nI i) (k_loadW F S q p (a + nI i)).1) + 1))
    else (1, kv_m (k_loadW F S q p (a + nI i)).2 (k_make F S (ks_m (k_loadW F S q p (a + nI i)).2)).2)
/-- what a refused store asks -/
def xt_ok (F S : Nat) (q : KS) (p a : Int32) : Prop := vp_in p 6 ∧ vp_in (a / 4) 6 ∧ (¬ k_at q p (a / 4) = -1 → vp_in (k_at q p (a / 4)) (F + S)) ∧ mk_ok F S (ks_m q)
def kc_ok (F S : Nat) (p a d : Int32) : Nat → Nat → KS → Prop
  | 0, _, _ => True
  | n + 1, i, q => xl_ok F S q p (a + nI i) ∧ (k_no F S (k_loadW F S q p (a + nI i)).2 p ((d + nI i) / 4) = 0 → xs_ok F S (k_loadW F S q p (a + nI i)).2 p (d + nI i) ∧
      kc_ok F S p a d n (i + 1) (kv_cp (k_storeW F S (k_loadW F S q p (a + nI i)).2 p (d + nI i) (k_loadW F S q p (a + nI i)).1) (ks_cp (k_storeW F S (k_loadW F S q p (a + nI i)).2 p (d + nI i) (k_loadW F S q p (a + nI i)).1) + 1))) ∧
    (¬ k_no F S (k_loadW F S q p (a + nI i)).2 p ((d + nI i) / 4) = 0 → xt_ok F S (k_loadW F S q p (a + nI i)).2 p (d + nI i))
def k_rng (a n : Int32) : Int32 := if 0 ≤ n then (if n ≤ 0 then 1 else if a < 0 then 0 else if 24 ≤ a then 0 else if n ≤ 24 - a then 1 else 0) else 0

set_option maxHeartbeats 4000000 in
set_option maxRecDepth 100000 in
/-- X_requireProcess -/
theorem c_X_requireProcess (l : Launch) (D : va_G) (tI tZ tA tJ : ClassId) (b : Nat → Nat) (F S : Nat) (q : KS) (p0 : Int32) : ob_M l y_X_requireProcess w_X_requireProcess ({ frames := 1, cells := 0, slots := 0, locals := 21 }) (pR D tI tZ tA tJ [.ref (b 0), .int p0] (xW b F S tI tZ tA q) (¬ m_isP (ks_th q) p0 = 0)) (ob_qR none) 0 0 (fun _ => False) := by
  refine ob_ofW (by decide +kernel) ?_
  intro p e s m args below meth c s₁ B hml htab hv
  obtain ⟨rfl, hT, hq, hP⟩ := hv
  have hx := B.exec
  have hb := B.bytes
  have hr := B.returns
  have hlocks := B.notSynchronized
  have hown : s.vm.findClass R_X = some m.cls := findClass_of_methodNamed B.named
  have hl := lv_entry ([.ref (b 0), .int p0]) (n := 2) (Nat.le_of_ble_eq_true rfl)
  rw [lg_entry_eq]
  generalize (lg_sl ([.ref (b 0), .int p0]) ++ List.replicate (2 - (lg_sl ([.ref (b 0), .int p0])).length) Slot.unset).toArray = ls at hl ⊢
  have hl : lv_has ls 2 [(0, .ref (b 0)), (1, .int p0)] := hl
  refine lv_aload_n hx hb d_X_requireProcess_0 rfl (lv_at hl 0 rfl) ?_
  refine lv_iload_n hx hb d_X_requireProcess_1 rfl (lv_at hl 1 rfl) ?_
  refine ob_callR (v := (some (.int (m_isP (ks_th q) p0)))) (ob_runV (n := 1) (As := [.int p0]) (rest := []) (c_X_isThere l D tI tZ tA tJ b F S q p0) (hT.ok ob_cd_c (by decide +kernel) rfl rfl (Nat.le_of_ble_eq_true rfl) (Nat.le_of_ble_eq_true rfl) kn_X kc_X_isThere) hx hb hml hown (hT.w k_X_120) (hT.w ki_X_isThere) (hT.w kv_X_isThere) (va_recv (q0 := 0) (ci := 0) hT.1 hP rfl rfl) pR.blind (pR.at hT (trivial) hP) rfl rfl hl.1 rfl (lv_room (Nat.le_of_ble_eq_true rfl)) d_X_requireProcess_2 ⟨Nat.le_of_ble_eq_true rfl, Nat.le_of_ble_eq_true rfl⟩) ?_
  refine W.eq (g2 := F0 m 5 ls [.int (m_isP (ks_th q) p0)]) rfl ?_
  refine lv_if_ne (tgt := 18) hx hb d_X_requireProcess_5 (by decide) (fun hc => ?_) (fun hc => absurd hc hq)
  refine ob_vret hlocks hx hb hr d_X_requireProcess_18 (fun q hq => nomatch hq) (fun t ht hW => ?_)
  exact ⟨rfl, ht⟩

set_option maxHeartbeats 4000000 in
set_option maxRecDepth 100000 in
/-- X_requireAddress -/
theorem c_X_requireAddress (l : Launch) (D : va_G) (tI tZ tA tJ : ClassId) (a : Int32) : ob_M l y_X_requireAddress w_X_requireAddress ({ frames := 0, cells := 0, slots := 0, locals := 0 }) (pR D tI tZ tA tJ [.int a] ([]) (¬ m_isA a = 0)) (ob_qR none) 0 0 (fun _ => False) := by
  refine ob_ofW (by decide +kernel) ?_
  intro p e s m args below meth c s₁ B hml htab hv
  obtain ⟨rfl, hT, hq, hP⟩ := hv
  have hx := B.exec
  have hb := B.bytes
  have hr := B.returns
  have hlocks := B.notSynchronized
  have hown : s.vm.findClass R_X = some m.cls := findClass_of_methodNamed B.named
  have hl := lv_entry ([.int a]) (n := 1) (Nat.le_of_ble_eq_true rfl)
  rw [lg_entry_eq]
  generalize (lg_sl ([.int a]) ++ List.replicate (1 - (lg_sl ([.int a])).length) Slot.unset).toArray = ls at hl ⊢
  have hl : lv_has ls 1 [(0, .int a)] := hl
  unfold m_isA at hq
  refine lv_iload_n hx hb d_X_requireAddress_0 rfl (lv_at hl 0 rfl) ?_
  refine lv_if_lt (tgt := 10) hx hb d_X_requireAddress_1 (by decide) (fun hc => absurd (if_pos hc) hq) (fun hc => ?_)
  rw [if_neg hc] at hq
  refine lv_iload_n hx hb d_X_requireAddress_4 rfl (lv_at hl 0 rfl) ?_
  refine lv_bipush (v := 24) hx hb d_X_requireAddress_5 (by decide) ?_
  refine lv_icmp_lt (tgt := 20) hx hb d_X_requireAddress_7 (by decide) (fun hc => ?_) (fun hc => absurd (if_pos (Int32.not_lt.mp hc)) hq)
  refine ob_vret hlocks hx hb hr d_X_requireAddress_20 (fun q hq => nomatch hq) (fun t ht hW => ?_)
  exact ⟨rfl, ht⟩

set_option maxHeartbeats 4000000 in
set_option maxRecDepth 100000 in
/-- X_requireRange -/
theorem c_X_requireRange (l : Launch) (D : va_G) (tI tZ tA tJ : ClassId) (a n : Int32) : ob_M l y_X_requireRange w_X_requireRange ({ frames := 0, cells := 0, slots := 0, locals := 0 }) (pR D tI tZ tA tJ [.int a, .int n] ([]) (¬ k_rng a n = 0)) (ob_qR none) 0 0 (fun _ => False) := by
  refine ob_ofW (by decide +kernel) ?_
  intro p e s m args below meth c s₁ B hml htab hv
  obtain ⟨rfl, hT, hq, hP⟩ := hv
  have hx := B.exec
  have hb := B.bytes
  have hr := B.returns
  have hlocks := B.notSynchronized
  have hown : s.vm.findClass R_X = some m.cls := findClass_of_methodNamed B.named
  have hl := lv_entry ([.int a, .int n]) (n := 2) (Nat.le_of_ble_eq_true rfl)
  rw [lg_entry_eq]
  generalize (lg_sl ([.int a, .int n]) ++ List.replicate (2 - (lg_sl ([.int a, .int n])).length) Slot.unset).toArray = ls at hl ⊢
  have hl : lv_has ls 2 [(0, .int a), (1, .int n)] := hl
  unfold k_rng at hq
  refine lv_iload_n hx hb d_X_requireRange_0 rfl (lv_at hl 1 rfl) ?_
  refine lv_if_ge (tgt := 14) hx hb d_X_requireRange_1 (by decide) (fun hc => ?_) (fun hc => absurd (if_neg hc) hq)
  rw [if_pos hc] at hq
  refine lv_iload_n hx hb d_X_requireRange_14 rfl (lv_at hl 1 rfl) ?_
  refine lv_if_le (tgt := 46) hx hb d_X_requireRange_15 (by decide) (fun hc => ?_) (fun hc => ?_)
  · refine ob_vret hlocks hx hb hr d_X_requireRange_46 (fun q hq => nomatch hq) (fun t ht hW => ?_)
    exact ⟨rfl, ht⟩
  · rw [if_neg hc] at hq
    refine lv_iload_n hx hb d_X_requireRange_18 rfl (lv_at hl 0 rfl) ?_
    refine lv_if_lt (tgt := 36) hx hb d_X_requireRange_19 (by decide) (fun hc => absurd (if_pos hc) hq) (fun hc => ?_)
    rw [if_neg hc] at hq
    refine lv_iload_n hx hb d_X_requireRange_22 rfl (lv_at hl 0 rfl) ?_
    refine lv_bipush (v := 24) hx hb d_X_requireRange_23 (by decide) ?_
    refine lv_icmp_ge (tgt := 36) hx hb d_X_requireRange_25 (by decide) (fun hc => absurd (if_pos hc) hq) (fun hc => ?_)
    rw [if_neg hc] at hq
    refine lv_iload_n hx hb d_X_requireRange_28 rfl (lv_at hl 1 rfl) ?_
    refine lv_bipush (v := 24) hx hb d_X_requireRange_29 (by decide) ?_
    refine lv_iload_n hx hb d_X_requireRange_31 rfl (lv_at hl 0 rfl) ?_
    refine lv_isub hx hb d_X_requireRange_32 ?_
    refine lv_icmp_le (tgt := 46) hx hb d_X_requireRange_33 (by decide) (fun hc => ?_) (fun hc => absurd (if_neg hc) hq)
    refine ob_vret hlocks hx hb hr d_X_requireRange_46 (fun q hq => nomatch hq) (fun t ht hW => ?_)
    exact ⟨rfl, ht⟩

set_option maxHeartbeats 4000000 in
set_option maxRecDepth 100000 in
/-- X_spawn -/
theorem c_X_spawn (l : Launch) (D : va_G) (tI tZ tA tJ : ClassId) (b : Nat → Nat) (F S sz : Nat) (q : KS)  : ob_M l y_X_spawn w_X_spawn ({ frames := 1, cells := 0, slots := 0, locals := 21 }) (pW D tI tZ tA tJ [.ref (b 0)] (xW b F S tI tZ tA q) sz (¬ m_lowP (ks_th q) 6 0 = -1)) (ob_qW D vcl (some (.int (m_lowP (ks_th q) 6 0))) (xW b F S tI tZ tA (k_spawn q)) (va_A (xW b F S tI tZ tA q) sz)) 0 0 (va_A (xW b F S tI tZ tA q) sz) := by
  refine ob_ofW (by decide +kernel) ?_
  intro p e s m args below meth c s₁ B hml htab hv
  obtain ⟨rfl, hT, hq, hsz, hP, hD0⟩ := hv
  have hx := B.exec
  have hb := B.bytes
  have hr := B.returns
  have hlocks := B.notSynchronized
  have hown : s.vm.findClass R_X = some m.cls := findClass_of_methodNamed B.named
  have hl := lv_entry ([.ref (b 0)]) (n := 2) (Nat.le_of_ble_eq_true rfl)
  rw [lg_entry_eq]
  generalize (lg_sl ([.ref (b 0)]) ++ List.replicate (2 - (lg_sl ([.ref (b 0)])).length) Slot.unset).toArray = ls at hl ⊢
  have hl : lv_has ls 2 [(0, .ref (b 0))] := hl
  subst hsz
  have hD := hD0.self (sz := s.heap.size)
  generalize hAe : va_A (xW b F S tI tZ tA q) s.heap.size = A at hD ⊢
  have hA : ∀ q : Nat, s.heap.size ≤ q → A q := fun q h => by rw [← hAe]; exact Or.inr h
  have hS : va_S A s.heap s.heap [] := va_S.rf
  have hin := lowP_in hq
  refine lv_aload_n hx hb d_X_spawn_0 rfl (lv_at hl 0 rfl) ?_
  refine ob_callR (v := (some (.int (m_lowP (ks_th q) 6 0)))) (ob_runV (n := 0) (As := []) (rest := []) (c_X_lowestNotThere l D tI tZ tA tJ b F S q) (hT.ok ob_cd_c (by decide +kernel) rfl rfl (Nat.le_of_ble_eq_true rfl) (Nat.le_of_ble_eq_true rfl) kn_X kc_X_lowestNotThere) hx hb hml hown (hT.w k_X_42) (hT.w ki_X_lowestNotThere) (hT.w kv_X_lowestNotThere) (va_recv (q0 := 0) (ci := 0) hT.1 hP rfl rfl) pR.blind (pR.at hT (trivial) hP) rfl rfl hl.1 rfl (lv_room (Nat.le_of_ble_eq_true rfl)) d_X_spawn_1 ⟨Nat.le_of_ble_eq_true rfl, Nat.le_of_ble_eq_true rfl⟩) ?_
  refine W.eq (g2 := F0 m 4 ls [.int (m_lowP (ks_th q) 6 0)]) rfl ?_
  refine lv_istore_n (lv' := [(1, .int (m_lowP (ks_th q) 6 0)), (0, .ref (b 0))]) hx hb d_X_spawn_4 rfl hl (by decide) rfl (fun ls hl => ?_)
  refine lv_iload_n hx hb d_X_spawn_5 rfl (lv_at hl 0 rfl) ?_
  refine lv_iconst (v := -1) hx hb d_X_spawn_6 (by decide) ?_
  refine lv_icmp_ne (tgt := 20) hx hb d_X_spawn_7 (by decide) (fun hc => ?_) (fun hc => absurd hc hq)
  refine lv_aload_n hx hb d_X_spawn_20 rfl (lv_at hl 1 rfl) ?_
  refine va_get (D := D) (ci := 0) (v := .ref (b 1)) hx hb hT.lays ly_X hown hT.1 hP 0 rfl rfl 0 (by decide) (hT.w k_X_9) (fun _ h => h) rfl d_X_spawn_21 ?_
  refine lv_iload_n hx hb d_X_spawn_24 rfl (lv_at hl 0 rfl) ?_
  refine lv_iconst (v := 1) hx hb d_X_spawn_25 (by decide) ?_
  refine va_zast hx hb hT.1 hP hD hS 1 1 rfl rfl (hin) d_X_spawn_26 (fun H locs hP hD hS => ?_)
  rw [nar1] at hP hD
  have hP : va_P D vcl (xW b F S tI tZ tA (kv_th q (upd (ks_th q) (ix (m_lowP (ks_th q) 6 0)) 1))) H := hP
  have hD : va_D A (xW b F S tI tZ tA (kv_th q (upd (ks_th q) (ix (m_lowP (ks_th q) 6 0)) 1))) := hD
  refine lv_iload_n hx hb d_X_spawn_27 rfl (lv_at hl 0 rfl) ?_
  refine ob_iret hlocks hx hb hr d_X_spawn_28 hS.2.2 (fun t ht hW => ?_)
  exact ⟨rfl, by rw [ht]; exact hP, hD, hS.F ht⟩

set_option maxHeartbeats 4000000 in
set_option maxRecDepth 100000 in
/-- X_fork -/
theorem c_X_fork (l : Launch) (D : va_G) (tI tZ tA tJ : ClassId) (b : Nat → Nat) (F S sz : Nat) (q : KS) (p0 : Int32) : ob_M l y_X_fork w_X_fork ({ frames := 2, cells := 0, slots := 0, locals := 42 }) (pW D tI tZ tA tJ [.ref (b 0), .int p0] (xW b F S tI tZ tA q) sz (¬ m_isP (ks_th q) p0 = 0 ∧ ¬ m_lowP (ks_th q) 6 0 = -1 ∧ kf_ok F S p0 (m_lowP (ks_th q) 6 0) 6 0 (k_spawn q))) (ob_qW D vcl (some (.int (m_lowP (ks_th q) 6 0))) (xW b F S tI tZ tA (k_forkL p0 (m_lowP (ks_th q) 6 0) 6 0 (k_spawn q))) (va_A (xW b F S tI tZ tA q) sz)) 0 0 (va_A (xW b F S tI tZ tA q) sz) := by
  refine ob_ofW (by decide +kernel) ?_
  intro p e s m args below meth c s₁ B hml htab hv
  obtain ⟨rfl, hT, ⟨hpr, hq, hok⟩, hsz, hP, hD0⟩ := hv
  have hx := B.exec
  have hb := B.bytes
  have hr := B.returns
  have hlocks := B.notSynchronized
  have hown : s.vm.findClass R_X = some m.cls := findClass_of_methodNamed B.named
  have hl := lv_entry ([.ref (b 0), .int p0]) (n := 5) (Nat.le_of_ble_eq_true rfl)
  rw [lg_entry_eq]
  generalize (lg_sl ([.ref (b 0), .int p0]) ++ List.replicate (5 - (lg_sl ([.ref (b 0), .int p0])).length) Slot.unset).toArray = ls at hl ⊢
  have hl : lv_has ls 5 [(0, .ref (b 0)), (1, .int p0)] := hl
  subst hsz
  have hD := hD0.self (sz := s.heap.size)
  generalize hAe : va_A (xW b F S tI tZ tA q) s.heap.size = A at hD ⊢
  have hA : ∀ q : Nat, s.heap.size ≤ q → A q := fun q h => by rw [← hAe]; exact Or.inr h
  have hS : va_S A s.heap s.heap [] := va_S.rf
  have hin := lowP_in hq
  have hp6 := m_isP_in hpr
  refine lv_aload_n hx hb d_X_fork_0 rfl (lv_at hl 0 rfl) ?_
  refine lv_iload_n hx hb d_X_fork_1 rfl (lv_at hl 1 rfl) ?_
  refine ob_callR (v := none) (ob_runV (n := 1) (As := [.int p0]) (rest := []) (c_X_requireProcess l D tI tZ tA tJ b F S q p0) (hT.ok ob_cd_c (by decide +kernel) rfl rfl (Nat.le_of_ble_eq_true rfl) (Nat.le_of_ble_eq_true rfl) kn_X kc_X_requireProcess) hx hb hml hown (hT.w k_X_53) (hT.w ki_X_requireProcess) (hT.w kv_X_requireProcess) (va_recv (q0 := 0) (ci := 0) hT.1 hP rfl rfl) pR.blind (pR.at hT (hpr) hP) rfl rfl hl.1 rfl (lv_room (Nat.le_of_ble_eq_true rfl)) d_X_fork_2 ⟨Nat.le_of_ble_eq_true rfl, Nat.le_of_ble_eq_true rfl⟩) ?_
  refine W.eq (g2 := F0 m 5 ls []) rfl ?_
  refine lv_aload_n hx hb d_X_fork_5 rfl (lv_at hl 0 rfl) ?_
  refine ob_callR (v := (some (.int (m_lowP (ks_th q) 6 0)))) (ob_runV (n := 0) (As := []) (rest := []) (c_X_lowestNotThere l D tI tZ tA tJ b F S q) (hT.ok ob_cd_c (by decide +kernel) rfl rfl (Nat.le_of_ble_eq_true rfl) (Nat.le_of_ble_eq_true rfl) kn_X kc_X_lowestNotThere) hx hb hml hown (hT.w k_X_42) (hT.w ki_X_lowestNotThere) (hT.w kv_X_lowestNotThere) (va_recv (q0 := 0) (ci := 0) hT.1 hP rfl rfl) pR.blind (pR.at hT (trivial) hP) rfl rfl hl.1 rfl (lv_room (Nat.le_of_ble_eq_true rfl)) d_X_fork_6 ⟨Nat.le_of_ble_eq_true rfl, Nat.le_of_ble_eq_true rfl⟩) ?_
  refine W.eq (g2 := F0 m 9 ls [.int (m_lowP (ks_th q) 6 0)]) rfl ?_
  refine lv_istore_n (lv' := [(2, .int (m_lowP (ks_th q) 6 0)), (0, .ref (b 0)), (1, .int p0)]) hx hb d_X_fork_9 rfl hl (by decide) rfl (fun ls hl => ?_)
  refine lv_iload_n hx hb d_X_fork_10 rfl (lv_at hl 0 rfl) ?_
  refine lv_iconst (v := -1) hx hb d_X_fork_11 (by decide) ?_
  refine lv_icmp_ne (tgt := 25) hx hb d_X_fork_12 (by decide) (fun hc => ?_) (fun hc => absurd hc hq)
  refine lv_aload_n hx hb d_X_fork_25 rfl (lv_at hl 1 rfl) ?_
  refine va_get (D := D) (ci := 0) (v := .ref (b 1)) hx hb hT.lays ly_X hown hT.1 hP 0 rfl rfl 0 (by decide) (hT.w k_X_9) (fun _ h => h) rfl d_X_fork_26 ?_
  refine lv_iload_n hx hb d_X_fork_29 rfl (lv_at hl 0 rfl) ?_
  refine lv_iconst (v := 1) hx hb d_X_fork_30 (by decide) ?_
  refine va_zast hx hb hT.1 hP hD hS 1 1 rfl rfl (hin) d_X_fork_31 (fun H locs hP hD hS => ?_)
  rw [nar1] at hP hD
  have hP : va_P D vcl (xW b F S tI tZ tA (kv_th q (upd (ks_th q) (ix (m_lowP (ks_th q) 6 0)) 1))) H := hP
  have hD : va_D A (xW b F S tI tZ tA (kv_th q (upd (ks_th q) (ix (m_lowP (ks_th q) 6 0)) 1))) := hD
  refine lv_iconst (v := 0) hx hb d_X_fork_32 (by decide) ?_
  refine lv_istore_n (lv' := [(3, .int 0), (2, .int (m_lowP (ks_th q) 6 0)), (0, .ref (b 0)), (1, .int p0)]) hx hb d_X_fork_33 rfl hl (by decide) rfl (fun ls hl => ?_)
  have hP : va_P D vcl (xW b F S tI tZ tA (k_spawn q)) H := hP
  have hD : va_D A (xW b F S tI tZ tA (k_spawn q)) := hD
  obtain ⟨RR, hRR⟩ : ∃ z, z = k_forkL p0 (m_lowP (ks_th q) 6 0) 6 0 (k_spawn q) := ⟨_, rfl⟩
  rw [← hRR]
  have loop : ∀ (n i : Nat) (k : KS) (ls : Array Slot) (H : Heap) (locs : List Loc), i + n = 6 → k_forkL p0 (m_lowP (ks_th q) 6 0) n i k = RR → kf_ok F S p0 (m_lowP (ks_th q) 6 0) n i k → lv_has ls 5 [(3, .int (nI i)), (2, .int (m_lowP (ks_th q) 6 0)), (0, .ref (b 0)), (1, .int p0)] → va_P D vcl (xW b F S tI tZ tA k) H → va_D A (xW b F S tI tZ tA k) → va_S A s.heap H locs → W p l e ({ frames := 2, cells := 0, slots := 0, locals := 42 } : Room) s m ([.ref (b 0), .int p0] : List Value).toArray below meth c H locs 0 0 (ob_Q below (ob_qW D vcl (some (.int (m_lowP (ks_th q) 6 0))) (xW b F S tI tZ tA RR) A) ([.ref (b 0), .int p0] : List Value).toArray s 0 0 A) (F0 m 34 ls []) := by
    intro n
    induction n with
    | zero =>
      intro i k ls H locs hi hR hok hl hP hD hS
      subst hR
      refine lv_iload_n hx hb d_X_fork_34 rfl (lv_at hl 0 rfl) ?_
      refine lv_bipush (v := 6) hx hb d_X_fork_35 (by decide) ?_
      refine lv_icmp_ge (tgt := 81) hx hb d_X_fork_37 (by decide) (fun hc => ?_) (fun hc => absurd (nI_le (a := 6) (by omega) (by omega)) hc)
      refine lv_iload_n hx hb d_X_fork_81 rfl (lv_at hl 1 rfl) ?_
      refine ob_iret hlocks hx hb hr d_X_fork_82 hS.2.2 (fun t ht hW => ?_)
      exact ⟨rfl, by rw [ht]; exact hP, hD, hS.F ht⟩
    | succ n ih =>
      intro i k ls H locs hi hR hok hl hP hD hS
      obtain ⟨hin2, hok2⟩ := hok
      have hi6 : vp_in (nI i) 6 := vp_in_nI (by omega) (by omega)
      refine lv_iload_n hx hb d_X_fork_34 rfl (lv_at hl 0 rfl) ?_
      refine lv_bipush (v := 6) hx hb d_X_fork_35 (by decide) ?_
      refine lv_icmp_ge (tgt := 81) hx hb d_X_fork_37 (by decide) (fun hc => absurd hc (nI_ge (b := 6) (by omega) (by omega))) (fun hc => ?_)
      refine lv_aload_n hx hb d_X_fork_40 rfl (lv_at hl 2 rfl) ?_
      refine va_get (D := D) (ci := 0) (v := .ref (b 2)) hx hb hT.lays ly_X hown hT.1 hP 0 rfl rfl 1 (by decide) (hT.w k_X_15) (fun _ h => h) rfl d_X_fork_41 ?_
      refine lv_iload_n hx hb d_X_fork_44 rfl (lv_at hl 3 rfl) ?_
      refine ob_aald hx hb hT.1 hP 2 2 rfl rfl (hp6) d_X_fork_45 ?_
      refine lv_iload_n hx hb d_X_fork_46 rfl (lv_at hl 0 rfl) ?_
      refine va_iald hx hb hT.1 hP (3 + ix p0) 0 (pl_get (vp_ix hp6) rfl) rfl (hi6) d_X_fork_47 ?_
      refine lv_istore (lv' := [(4, .int ((ks_pg k (ix p0)) (ix (nI i)))), (3, .int (nI i)), (2, .int (m_lowP (ks_th q) 6 0)), (0, .ref (b 0)), (1, .int p0)]) hx hb d_X_fork_48 hl (by decide) rfl (fun ls hl => ?_)
      refine lv_aload_n hx hb d_X_fork_50 rfl (lv_at hl 3 rfl) ?_
      refine va_get (D := D) (ci := 0) (v := .ref (b 2)) hx hb hT.lays ly_X hown hT.1 hP 0 rfl rfl 1 (by decide) (hT.w k_X_15) (fun _ h => h) rfl d_X_fork_51 ?_
      refine lv_iload_n hx hb d_X_fork_54 rfl (lv_at hl 2 rfl) ?_
      refine ob_aald hx hb hT.1 hP 2 2 rfl rfl (hin) d_X_fork_55 ?_
      refine lv_iload_n hx hb d_X_fork_56 rfl (lv_at hl 1 rfl) ?_
      refine lv_iload hx hb d_X_fork_57 (lv_at hl 0 rfl) ?_
      refine va_iast hx hb hT.1 hP hD hS (3 + ix (m_lowP (ks_th q) 6 0)) 0 (pl_get (vp_ix hin) rfl) rfl (hi6) d_X_fork_59 (fun H locs hP hD hS => ?_)
      rw [xW_row (vp_ix hin)] at hP hD
      have hP : va_P D vcl (xW b F S tI tZ tA (kv_pg k (up2 (ks_pg k) (ix (m_lowP (ks_th q) 6 0)) (upd (ks_pg k (ix (m_lowP (ks_th q) 6 0))) (ix (nI i)) ((ks_pg k (ix p0)) (ix (nI i))))))) H := hP
      have hD : va_D A (xW b F S tI tZ tA (kv_pg k (up2 (ks_pg k) (ix (m_lowP (ks_th q) 6 0)) (upd (ks_pg k (ix (m_lowP (ks_th q) 6 0))) (ix (nI i)) ((ks_pg k (ix p0)) (ix (nI i))))))) := hD
      have hP : va_P D vcl (xW b F S tI tZ tA (k_setp k (m_lowP (ks_th q) 6 0) (nI i) (k_at k p0 (nI i)))) H := hP
      have hD : va_D A (xW b F S tI tZ tA (k_setp k (m_lowP (ks_th q) 6 0) (nI i) (k_at k p0 (nI i)))) := hD
      refine lv_iload hx hb d_X_fork_60 (lv_at hl 0 rfl) ?_
      refine lv_iconst (v := -1) hx hb d_X_fork_62 (by decide) ?_
      refine lv_icmp_eq (tgt := 75) hx hb d_X_fork_63 (by decide) (fun hc => ?_) (fun hc => ?_)
      · have e1 : k_fork1 k p0 (m_lowP (ks_th q) 6 0) (nI i) = k_setp k (m_lowP (ks_th q) 6 0) (nI i) (k_at k p0 (nI i)) := if_pos hc
        rw [k_forkL, e1] at hR
        rw [e1] at hok2
        refine lv_iinc (k := 1) (v := nI (i + 1)) (lv' := [(3, .int (nI (i + 1))), (4, .int ((ks_pg k (ix p0)) (ix (nI i)))), (2, .int (m_lowP (ks_th q) 6 0)), (0, .ref (b 0)), (1, .int p0)]) hx hb d_X_fork_75 hl rfl (nI_1 i) (by decide) rfl (fun ls hl => ?_)
        refine lv_goto (tgt := 34) hx hb d_X_fork_78 (by decide) ?_
        exact ih (i + 1) _ ls H locs (by omega) hR hok2 (lv_sub hl [0, 2, 3, 4] rfl) hP hD hS
      · refine lv_aload_n hx hb d_X_fork_66 rfl (lv_at hl 3 rfl) ?_
        refine va_get (D := D) (ci := 0) (v := .ref (b 9)) hx hb hT.lays ly_X hown hT.1 hP 0 rfl rfl 2 (by decide) (hT.w k_X_32) (fun _ h => h) rfl d_X_fork_67 ?_
        refine lv_iload hx hb d_X_fork_70 (lv_at hl 0 rfl) ?_
        refine ob_callW (v := none) (X := xX b tI tZ tA (k_setp k (m_lowP (ks_th q) 6 0) (nI i) (k_at k p0 (nI i)))) (M := mW b F S tI tZ tA (ks_m (k_setp k (m_lowP (ks_th q) 6 0) (nI i) (k_at k p0 (nI i))))) (M' := mW b F S tI tZ tA (k_join (ks_m k) (k_at k p0 (nI i)))) (ob_runV (n := 1) (As := [.int (k_at k p0 (nI i))]) (rest := []) (c_M_join l D tI tZ tA tJ b F S H.size (ks_m (k_setp k (m_lowP (ks_th q) 6 0) (nI i) (k_at k p0 (nI i)))) (k_at k p0 (nI i))) (hT.ok ob_cd_c (by decide +kernel) rfl rfl (Nat.le_of_ble_eq_true rfl) (Nat.le_of_ble_eq_true rfl) kn_M kc_M_join) hx hb hml hown (hT.w k_X_57) (hT.w ki_M_join) (hT.w kv_M_join) (va_recv (q0 := 9) (ci := 1) hT.1 hP rfl rfl) pW.blind (pW.at hT (hin2 hc) (ob_Pr (xP_to hP)) (ob_Dr (xD_to hD))) rfl rfl hl.1 rfl (lv_room (Nat.le_of_ble_eq_true rfl)) d_X_fork_72 ⟨Nat.le_of_ble_eq_true rfl, Nat.le_of_ble_eq_true rfl⟩) (xP_to hP) (xD_to hD) hS hA (fun H locs hP hD hS => ?_)
        have hP : va_P D vcl (xW b F S tI tZ tA (kv_m (k_setp k (m_lowP (ks_th q) 6 0) (nI i) (k_at k p0 (nI i))) (k_join (ks_m k) (k_at k p0 (nI i))))) H := xP_of hP
        have hD : va_D A (xW b F S tI tZ tA (kv_m (k_setp k (m_lowP (ks_th q) 6 0) (nI i) (k_at k p0 (nI i))) (k_join (ks_m k) (k_at k p0 (nI i))))) := xD_of hD
        refine W.eq (g2 := F0 m 75 ls []) rfl ?_
        have e1 : k_fork1 k p0 (m_lowP (ks_th q) 6 0) (nI i) = kv_m (k_setp k (m_lowP (ks_th q) 6 0) (nI i) (k_at k p0 (nI i))) (k_join (ks_m k) (k_at k p0 (nI i))) := if_neg hc
        rw [k_forkL, e1] at hR
        rw [e1] at hok2
        refine lv_iinc (k := 1) (v := nI (i + 1)) (lv' := [(3, .int (nI (i + 1))), (4, .int ((ks_pg k (ix p0)) (ix (nI i)))), (2, .int (m_lowP (ks_th q) 6 0)), (0, .ref (b 0)), (1, .int p0)]) hx hb d_X_fork_75 hl rfl (nI_1 i) (by decide) rfl (fun ls hl => ?_)
        refine lv_goto (tgt := 34) hx hb d_X_fork_78 (by decide) ?_
        exact ih (i + 1) _ ls H locs (by omega) hR hok2 (lv_sub hl [0, 2, 3, 4] rfl) hP hD hS
  exact loop 6 0 (k_spawn q) ls H locs rfl hRR.symm hok (lv_sub hl [0, 1, 2, 3] rfl) hP hD hS

set_option maxHeartbeats 4000000 in
set_option maxRecDepth 100000 in
/-- X_exit -/
theorem c_X_exit (l : Launch) (D : va_G) (tI tZ tA tJ : ClassId) (b : Nat → Nat) (F S sz : Nat) (q : KS) (p0 : Int32) : ob_M l y_X_exit w_X_exit ({ frames := 3, cells := 0, slots := 0, locals := 65 }) (pW D tI tZ tA tJ [.ref (b 0), .int p0] (xW b F S tI tZ tA q) sz (¬ m_isP (ks_th q) p0 = 0 ∧ kx_ok F S p0 6 0 q)) (ob_qW D vcl (some (.int ((k_exitL p0 6 0 0 q).1))) (xW b F S tI tZ tA (kv_th (k_exitL p0 6 0 0 q).2 (upd (ks_th (k_exitL p0 6 0 0 q).2) (ix p0) 0))) (va_A (xW b F S tI tZ tA q) sz)) 0 0 (va_A (xW b F S tI tZ tA q) sz) := by
  refine ob_ofW (by decide +kernel) ?_
  intro p e s m args below meth c s₁ B hml htab hv
  obtain ⟨rfl, hT, ⟨hpr, hok⟩, hsz, hP, hD0⟩ := hv
  have hx := B.exec
  have hb := B.bytes
  have hr := B.returns
  have hlocks := B.notSynchronized
  have hown : s.vm.findClass R_X = some m.cls := findClass_of_methodNamed B.named
  have hl := lv_entry ([.ref (b 0), .int p0]) (n := 4) (Nat.le_of_ble_eq_true rfl)
  rw [lg_entry_eq]
  generalize (lg_sl ([.ref (b 0), .int p0]) ++ List.replicate (4 - (lg_sl ([.ref (b 0), .int p0])).length) Slot.unset).toArray = ls at hl ⊢
  have hl : lv_has ls 4 [(0, .ref (b 0)), (1, .int p0)] := hl
  subst hsz
  have hD := hD0.self (sz := s.heap.size)
  generalize hAe : va_A (xW b F S tI tZ tA q) s.heap.size = A at hD ⊢
  have hA : ∀ q : Nat, s.heap.size ≤ q → A q := fun q h => by rw [← hAe]; exact Or.inr h
  have hS : va_S A s.heap s.heap [] := va_S.rf
  have hp6 := m_isP_in hpr
  refine lv_aload_n hx hb d_X_exit_0 rfl (lv_at hl 0 rfl) ?_
  refine lv_iload_n hx hb d_X_exit_1 rfl (lv_at hl 1 rfl) ?_
  refine ob_callR (v := none) (ob_runV (n := 1) (As := [.int p0]) (rest := []) (c_X_requireProcess l D tI tZ tA tJ b F S q p0) (hT.ok ob_cd_c (by decide +kernel) rfl rfl (Nat.le_of_ble_eq_true rfl) (Nat.le_of_ble_eq_true rfl) kn_X kc_X_requireProcess) hx hb hml hown (hT.w k_X_53) (hT.w ki_X_requireProcess) (hT.w kv_X_requireProcess) (va_recv (q0 := 0) (ci := 0) hT.1 hP rfl rfl) pR.blind (pR.at hT (hpr) hP) rfl rfl hl.1 rfl (lv_room (Nat.le_of_ble_eq_true rfl)) d_X_exit_2 ⟨Nat.le_of_ble_eq_true rfl, Nat.le_of_ble_eq_true rfl⟩) ?_
  refine W.eq (g2 := F0 m 5 ls []) rfl ?_
  refine lv_iconst (v := 0) hx hb d_X_exit_5 (by decide) ?_
  refine lv_istore_n (lv' := [(2, .int 0), (0, .ref (b 0)), (1, .int p0)]) hx hb d_X_exit_6 rfl hl (by decide) rfl (fun ls hl => ?_)
  refine lv_iconst (v := 0) hx hb d_X_exit_7 (by decide) ?_
  refine lv_istore_n (lv' := [(3, .int 0), (2, .int 0), (0, .ref (b 0)), (1, .int p0)]) hx hb d_X_exit_8 rfl hl (by decide) rfl (fun ls hl => ?_)
  obtain ⟨RR, hRR⟩ : ∃ z, z = k_exitL p0 6 0 0 q := ⟨_, rfl⟩
  rw [← hRR]
  have loop : ∀ (n i : Nat) (x : Int32) (k : KS) (ls : Array Slot) (H : Heap) (locs : List Loc), i + n = 6 → k_exitL p0 n i x k = RR → kx_ok F S p0 n i k → lv_has ls 4 [(3, .int (nI i)), (2, .int x), (0, .ref (b 0)), (1, .int p0)] → va_P D vcl (xW b F S tI tZ tA k) H → va_D A (xW b F S tI tZ tA k) → va_S A s.heap H locs → W p l e ({ frames := 3, cells := 0, slots := 0, locals := 65 } : Room) s m ([.ref (b 0), .int p0] : List Value).toArray below meth c H locs 0 0 (ob_Q below (ob_qW D vcl (some (.int RR.1)) (xW b F S tI tZ tA (kv_th RR.2 (upd (ks_th RR.2) (ix p0) 0))) A) ([.ref (b 0), .int p0] : List Value).toArray s 0 0 A) (F0 m 9 ls []) := by
    intro n
    induction n with
    | zero =>
      intro i x k ls H locs hi hR hok hl hP hD hS
      subst hR
      refine lv_iload_n hx hb d_X_exit_9 rfl (lv_at hl 0 rfl) ?_
      refine lv_bipush (v := 6) hx hb d_X_exit_10 (by decide) ?_
      refine lv_icmp_ge (tgt := 33) hx hb d_X_exit_12 (by decide) (fun hc => ?_) (fun hc => absurd (nI_le (a := 6) (by omega) (by omega)) hc)
      refine lv_aload_n hx hb d_X_exit_33 rfl (lv_at hl 2 rfl) ?_
      refine va_get (D := D) (ci := 0) (v := .ref (b 1)) hx hb hT.lays ly_X hown hT.1 hP 0 rfl rfl 0 (by decide) (hT.w k_X_9) (fun _ h => h) rfl d_X_exit_34 ?_
      refine lv_iload_n hx hb d_X_exit_37 rfl (lv_at hl 3 rfl) ?_
      refine lv_iconst (v := 0) hx hb d_X_exit_38 (by decide) ?_
      refine va_zast hx hb hT.1 hP hD hS 1 1 rfl rfl (hp6) d_X_exit_39 (fun H locs hP hD hS => ?_)
      rw [nar0] at hP hD
      have hP : va_P D vcl (xW b F S tI tZ tA (kv_th k (upd (ks_th k) (ix p0) 0))) H := hP
      have hD : va_D A (xW b F S tI tZ tA (kv_th k (upd (ks_th k) (ix p0) 0))) := hD
      refine lv_iload_n hx hb d_X_exit_40 rfl (lv_at hl 1 rfl) ?_
      refine ob_iret hlocks hx hb hr d_X_exit_41 hS.2.2 (fun t ht hW => ?_)
      exact ⟨rfl, by rw [ht]; exact hP, hD, hS.F ht⟩
    | succ n ih =>
      intro i x k ls H locs hi hR hok hl hP hD hS
      obtain ⟨hxe, hok2⟩ := hok
      refine lv_iload_n hx hb d_X_exit_9 rfl (lv_at hl 0 rfl) ?_
      refine lv_bipush (v := 6) hx hb d_X_exit_10 (by decide) ?_
      refine lv_icmp_ge (tgt := 33) hx hb d_X_exit_12 (by decide) (fun hc => absurd hc (nI_ge (b := 6) (by omega) (by omega))) (fun hc => ?_)
      refine lv_aload_n hx hb d_X_exit_15 rfl (lv_at hl 2 rfl) ?_
      refine lv_iload_n hx hb d_X_exit_16 rfl (lv_at hl 3 rfl) ?_
      refine lv_iload_n hx hb d_X_exit_17 rfl (lv_at hl 0 rfl) ?_
      refine ob_callW (v := (some (.int ((k_empty k p0 (nI i)).1)))) (X := []) (M := xW b F S tI tZ tA k) (M' := xW b F S tI tZ tA ((k_empty k p0 (nI i)).2)) (ob_runV (n := 2) (As := [.int p0, .int (nI i)]) (rest := []) (c_X_emptyPage l D tI tZ tA tJ b F S H.size k p0 (nI i)) (hT.ok ob_cd_c (by decide +kernel) rfl rfl (Nat.le_of_ble_eq_true rfl) (Nat.le_of_ble_eq_true rfl) kn_X kc_X_emptyPage) hx hb hml hown (hT.w k_X_60) (hT.w ki_X_emptyPage) (hT.w kv_X_emptyPage) (va_recv (q0 := 0) (ci := 0) hT.1 hP rfl rfl) pW.blind (pW.at hT (hxe) hP hD) rfl rfl hl.1 rfl (lv_room (Nat.le_of_ble_eq_true rfl)) d_X_exit_18 ⟨Nat.le_of_ble_eq_true rfl, Nat.le_of_ble_eq_true rfl⟩) hP hD hS hA (fun H locs hP hD hS => ?_)
      have hP : va_P D vcl (xW b F S tI tZ tA ((k_empty k p0 (nI i)).2)) H := hP
      have hD : va_D A (xW b F S tI tZ tA ((k_empty k p0 (nI i)).2)) := hD
      refine W.eq (g2 := F0 m 21 ls [.int ((k_empty k p0 (nI i)).1)]) rfl ?_
      refine lv_if_eq (tgt := 27) hx hb d_X_exit_21 (by decide) (fun hc => ?_) (fun hc => ?_)
      · refine lv_iinc (k := 0) (v := nI (i + 1)) (lv' := [(3, .int (nI (i + 1))), (2, .int x), (0, .ref (b 0)), (1, .int p0)]) hx hb d_X_exit_27 hl rfl (nI_1 i) (by decide) rfl (fun ls hl => ?_)
        refine lv_goto (tgt := 9) hx hb d_X_exit_30 (by decide) ?_
        have e1 : k_exitL p0 (n + 1) i x k = k_exitL p0 n (i + 1) (x) (k_empty k p0 (nI i)).2 := by rw [k_exitL, if_pos hc]
        rw [e1] at hR
        exact ih (i + 1) (x) _ ls H locs (by omega) hR hok2 (lv_sub hl [0, 1, 2, 3] rfl) hP hD hS
      · refine lv_iinc (k := 1) (v := x + 1) (lv' := [(2, .int (x + 1)), (3, .int (nI i)), (0, .ref (b 0)), (1, .int p0)]) hx hb d_X_exit_24 hl rfl (rfl) (by decide) rfl (fun ls hl => ?_)
        refine lv_iinc (k := 1) (v := nI (i + 1)) (lv' := [(3, .int (nI (i + 1))), (2, .int (x + 1)), (0, .ref (b 0)), (1, .int p0)]) hx hb d_X_exit_27 hl rfl (nI_1 i) (by decide) rfl (fun ls hl => ?_)
        refine lv_goto (tgt := 9) hx hb d_X_exit_30 (by decide) ?_
        have e1 : k_exitL p0 (n + 1) i x k = k_exitL p0 n (i + 1) (x + 1) (k_empty k p0 (nI i)).2 := by rw [k_exitL, if_neg hc]
        rw [e1] at hR
        exact ih (i + 1) (x + 1) _ ls H locs (by omega) hR hok2 (lv_sub hl [0, 1, 2, 3] rfl) hP hD hS
  exact loop 6 0 0 q ls s.heap [] rfl hRR.symm hok (lv_sub hl [0, 1, 2, 3] rfl) hP hD hS

theorem k_empty_nar (q : KS) (p g : Int32) : narrow .boolean (.int (k_empty q p g).1) = .int (k_empty q p g).1 := by
  unfold k_empty
  split
  · exact (rfl : narrow .boolean (.int 0) = .int 0)
  · split
    · exact (rfl : narrow .boolean (.int 0) = .int 0)
    · exact (rfl : narrow .boolean (.int 1) = .int 1)

set_option maxHeartbeats 4000000 in
set_option maxRecDepth 100000 in
/-- X_drop -/
theorem c_X_drop (l : Launch) (D : va_G) (tI tZ tA tJ : ClassId) (b : Nat → Nat) (F S sz : Nat) (q : KS) (p0 x : Int32) : ob_M l y_X_drop w_X_drop ({ frames := 3, cells := 0, slots := 0, locals := 65 }) (pW D tI tZ tA tJ [.ref (b 0), .int p0, .int x] (xW b F S tI tZ tA q) sz (¬ m_isP (ks_th q) p0 = 0 ∧ ¬ x < 0 ∧ x < 6 ∧ xe_ok F S q p0 x)) (ob_qW D vcl (some (.int ((k_empty q p0 x).1))) (xW b F S tI tZ tA ((k_empty q p0 x).2)) (va_A (xW b F S tI tZ tA q) sz)) 0 0 (va_A (xW b F S tI tZ tA q) sz) := by
  refine ob_ofW (by decide +kernel) ?_
  intro p e s m args below meth c s₁ B hml htab hv
  obtain ⟨rfl, hT, ⟨hpr, h0, h6, hok⟩, hsz, hP, hD0⟩ := hv
  have hx := B.exec
  have hb := B.bytes
  have hr := B.returns
  have hlocks := B.notSynchronized
  have hown : s.vm.findClass R_X = some m.cls := findClass_of_methodNamed B.named
  have hl := lv_entry ([.ref (b 0), .int p0, .int x]) (n := 3) (Nat.le_of_ble_eq_true rfl)
  rw [lg_entry_eq]
  generalize (lg_sl ([.ref (b 0), .int p0, .int x]) ++ List.replicate (3 - (lg_sl ([.ref (b 0), .int p0, .int x])).length) Slot.unset).toArray = ls at hl ⊢
  have hl : lv_has ls 3 [(0, .ref (b 0)), (1, .int p0), (2, .int x)] := hl
  subst hsz
  have hD := hD0.self (sz := s.heap.size)
  generalize hAe : va_A (xW b F S tI tZ tA q) s.heap.size = A at hD ⊢
  have hA : ∀ q : Nat, s.heap.size ≤ q → A q := fun q h => by rw [← hAe]; exact Or.inr h
  have hS : va_S A s.heap s.heap [] := va_S.rf
  refine lv_aload_n hx hb d_X_drop_0 rfl (lv_at hl 0 rfl) ?_
  refine lv_iload_n hx hb d_X_drop_1 rfl (lv_at hl 1 rfl) ?_
  refine ob_callR (v := none) (ob_runV (n := 1) (As := [.int p0]) (rest := []) (c_X_requireProcess l D tI tZ tA tJ b F S q p0) (hT.ok ob_cd_c (by decide +kernel) rfl rfl (Nat.le_of_ble_eq_true rfl) (Nat.le_of_ble_eq_true rfl) kn_X kc_X_requireProcess) hx hb hml hown (hT.w k_X_53) (hT.w ki_X_requireProcess) (hT.w kv_X_requireProcess) (va_recv (q0 := 0) (ci := 0) hT.1 hP rfl rfl) pR.blind (pR.at hT (hpr) hP) rfl rfl hl.1 rfl (lv_room (Nat.le_of_ble_eq_true rfl)) d_X_drop_2 ⟨Nat.le_of_ble_eq_true rfl, Nat.le_of_ble_eq_true rfl⟩) ?_
  refine W.eq (g2 := F0 m 5 ls []) rfl ?_
  refine lv_iload_n hx hb d_X_drop_5 rfl (lv_at hl 2 rfl) ?_
  refine lv_if_lt (tgt := 15) hx hb d_X_drop_6 (by decide) (fun hc => absurd hc h0) (fun hc => ?_)
  refine lv_iload_n hx hb d_X_drop_9 rfl (lv_at hl 2 rfl) ?_
  refine lv_bipush (v := 6) hx hb d_X_drop_10 (by decide) ?_
  refine lv_icmp_lt (tgt := 25) hx hb d_X_drop_12 (by decide) (fun hc => ?_) (fun hc => absurd h6 hc)
  refine lv_aload_n hx hb d_X_drop_25 rfl (lv_at hl 0 rfl) ?_
  refine lv_iload_n hx hb d_X_drop_26 rfl (lv_at hl 1 rfl) ?_
  refine lv_iload_n hx hb d_X_drop_27 rfl (lv_at hl 2 rfl) ?_
  refine ob_callW (v := (some (.int ((k_empty q p0 x).1)))) (X := []) (M := xW b F S tI tZ tA q) (M' := xW b F S tI tZ tA ((k_empty q p0 x).2)) (ob_runV (n := 2) (As := [.int p0, .int x]) (rest := []) (c_X_emptyPage l D tI tZ tA tJ b F S s.heap.size q p0 x) (hT.ok ob_cd_c (by decide +kernel) rfl rfl (Nat.le_of_ble_eq_true rfl) (Nat.le_of_ble_eq_true rfl) kn_X kc_X_emptyPage) hx hb hml hown (hT.w k_X_60) (hT.w ki_X_emptyPage) (hT.w kv_X_emptyPage) (va_recv (q0 := 0) (ci := 0) hT.1 hP rfl rfl) pW.blind (pW.at hT (hok) hP hD) rfl rfl hl.1 rfl (lv_room (Nat.le_of_ble_eq_true rfl)) d_X_drop_28 ⟨Nat.le_of_ble_eq_true rfl, Nat.le_of_ble_eq_true rfl⟩) hP hD hS hA (fun H locs hP hD hS => ?_)
  have hP : va_P D vcl (xW b F S tI tZ tA ((k_empty q p0 x).2)) H := hP
  have hD : va_D A (xW b F S tI tZ tA ((k_empty q p0 x).2)) := hD
  refine W.eq (g2 := F0 m 31 ls [.int ((k_empty q p0 x).1)]) rfl ?_
  refine ob_zret hlocks hx hb hr d_X_drop_31 (k_empty_nar _ _ _) hS.2.2 (fun t ht hW => ?_)
  exact ⟨rfl, by rw [ht]; exact hP, hD, hS.F ht⟩

set_option maxHeartbeats 4000000 in
set_option maxRecDepth 100000 in
/-- X_load -/
theorem c_X_load (l : Launch) (D : va_G) (tI tZ tA tJ : ClassId) (b : Nat → Nat) (F S sz : Nat) (q : KS) (p0 a : Int32) : ob_M l y_X_load w_X_load ({ frames := 7, cells := 0, slots := 0, locals := 152 }) (pW D tI tZ tA tJ [.ref (b 0), .int p0, .int a] (xW b F S tI tZ tA q) sz (¬ m_isP (ks_th q) p0 = 0 ∧ ¬ m_isA a = 0 ∧ xl_ok F S q p0 a)) (ob_qW D vcl (some (.int ((k_loadW F S q p0 a).1))) (xW b F S tI tZ tA ((k_loadW F S q p0 a).2)) (va_A (xW b F S tI tZ tA q) sz)) 0 0 (va_A (xW b F S tI tZ tA q) sz) := by
  refine ob_ofW (by decide +kernel) ?_
  intro p e s m args below meth c s₁ B hml htab hv
  obtain ⟨rfl, hT, ⟨hpr, hpa, hok⟩, hsz, hP, hD0⟩ := hv
  have hx := B.exec
  have hb := B.bytes
  have hr := B.returns
  have hlocks := B.notSynchronized
  have hown : s.vm.findClass R_X = some m.cls := findClass_of_methodNamed B.named
  have hl := lv_entry ([.ref (b 0), .int p0, .int a]) (n := 3) (Nat.le_of_ble_eq_true rfl)
  rw [lg_entry_eq]
  generalize (lg_sl ([.ref (b 0), .int p0, .int a]) ++ List.replicate (3 - (lg_sl ([.ref (b 0), .int p0, .int a])).length) Slot.unset).toArray = ls at hl ⊢
  have hl : lv_has ls 3 [(0, .ref (b 0)), (1, .int p0), (2, .int a)] := hl
  subst hsz
  have hD := hD0.self (sz := s.heap.size)
  generalize hAe : va_A (xW b F S tI tZ tA q) s.heap.size = A at hD ⊢
  have hA : ∀ q : Nat, s.heap.size ≤ q → A q := fun q h => by rw [← hAe]; exact Or.inr h
  have hS : va_S A s.heap s.heap [] := va_S.rf
  refine lv_aload_n hx hb d_X_load_0 rfl (lv_at hl 0 rfl) ?_
  refine lv_iload_n hx hb d_X_load_1 rfl (lv_at hl 1 rfl) ?_
  refine ob_callR (v := none) (ob_runV (n := 1) (As := [.int p0]) (rest := []) (c_X_requireProcess l D tI tZ tA tJ b F S q p0) (hT.ok ob_cd_c (by decide +kernel) rfl rfl (Nat.le_of_ble_eq_true rfl) (Nat.le_of_ble_eq_true rfl) kn_X kc_X_requireProcess) hx hb hml hown (hT.w k_X_53) (hT.w ki_X_requireProcess) (hT.w kv_X_requireProcess) (va_recv (q0 := 0) (ci := 0) hT.1 hP rfl rfl) pR.blind (pR.at hT (hpr) hP) rfl rfl hl.1 rfl (lv_room (Nat.le_of_ble_eq_true rfl)) d_X_load_2 ⟨Nat.le_of_ble_eq_true rfl, Nat.le_of_ble_eq_true rfl⟩) ?_
  refine W.eq (g2 := F0 m 5 ls []) rfl ?_
  refine lv_iload_n hx hb d_X_load_5 rfl (lv_at hl 2 rfl) ?_
  refine ob_callR (v := none) (ob_runS (n := 1) (As := [.int a]) (rest := []) (c_X_requireAddress l D tI tZ tA tJ a) (hT.ok ob_cd_c (by decide +kernel) rfl rfl (Nat.le_of_ble_eq_true rfl) (Nat.le_of_ble_eq_true rfl) kn_X kc_X_requireAddress) hx hb hml hown (hT.w k_X_69) (hT.w ks_X_requireAddress) pR.blind (pR.at hT (hpa) (fun k q h => nomatch h)) rfl rfl hl.1 rfl (lv_room (Nat.le_of_ble_eq_true rfl)) d_X_load_6 ⟨Nat.le_of_ble_eq_true rfl, Nat.le_of_ble_eq_true rfl⟩) ?_
  refine W.eq (g2 := F0 m 9 ls []) rfl ?_
  refine lv_aload_n hx hb d_X_load_9 rfl (lv_at hl 0 rfl) ?_
  refine lv_iload_n hx hb d_X_load_10 rfl (lv_at hl 1 rfl) ?_
  refine lv_iload_n hx hb d_X_load_11 rfl (lv_at hl 2 rfl) ?_
  refine ob_callW (v := (some (.int ((k_loadW F S q p0 a).1)))) (X := []) (M := xW b F S tI tZ tA q) (M' := xW b F S tI tZ tA ((k_loadW F S q p0 a).2)) (ob_runV (n := 2) (As := [.int p0, .int a]) (rest := []) (c_X_loadWord l D tI tZ tA tJ b F S s.heap.size q p0 a) (hT.ok ob_cd_c (by decide +kernel) rfl rfl (Nat.le_of_ble_eq_true rfl) (Nat.le_of_ble_eq_true rfl) kn_X kc_X_loadWord) hx hb hml hown (hT.w k_X_72) (hT.w ki_X_loadWord) (hT.w kv_X_loadWord) (va_recv (q0 := 0) (ci := 0) hT.1 hP rfl rfl) pW.blind (pW.at hT (hok) hP hD) rfl rfl hl.1 rfl (lv_room (Nat.le_of_ble_eq_true rfl)) d_X_load_12 ⟨Nat.le_of_ble_eq_true rfl, Nat.le_of_ble_eq_true rfl⟩) hP hD hS hA (fun H locs hP hD hS => ?_)
  have hP : va_P D vcl (xW b F S tI tZ tA ((k_loadW F S q p0 a).2)) H := hP
  have hD : va_D A (xW b F S tI tZ tA ((k_loadW F S q p0 a).2)) := hD
  refine W.eq (g2 := F0 m 15 ls [.int ((k_loadW F S q p0 a).1)]) rfl ?_
  refine ob_iret hlocks hx hb hr d_X_load_15 hS.2.2 (fun t ht hW => ?_)
  exact ⟨rfl, by rw [ht]; exact hP, hD, hS.F ht⟩

set_option maxHeartbeats 4000000 in
set_option maxRecDepth 100000 in
/-- X_store -/
theorem c_X_store (l : Launch) (D : va_G) (tI tZ tA tJ : ClassId) (b : Nat → Nat) (F S sz : Nat) (q : KS) (p0 a v : Int32) : ob_M l y_X_store w_X_store ({ frames := 7, cells := 0, slots := 0, locals := 155 }) (pW D tI tZ tA tJ [.ref (b 0), .int p0, .int a, .int v] (xW b F S tI tZ tA q) sz (¬ m_isP (ks_th q) p0 = 0 ∧ ¬ m_isA a = 0 ∧ xs_ok F S q p0 a)) (ob_qW D vcl none (xW b F S tI tZ tA (k_storeW F S q p0 a v)) (va_A (xW b F S tI tZ tA q) sz)) 0 0 (va_A (xW b F S tI tZ tA q) sz) := by
  refine ob_ofW (by decide +kernel) ?_
  intro p e s m args below meth c s₁ B hml htab hv
  obtain ⟨rfl, hT, ⟨hpr, hpa, hok⟩, hsz, hP, hD0⟩ := hv
  have hx := B.exec
  have hb := B.bytes
  have hr := B.returns
  have hlocks := B.notSynchronized
  have hown : s.vm.findClass R_X = some m.cls := findClass_of_methodNamed B.named
  have hl := lv_entry ([.ref (b 0), .int p0, .int a, .int v]) (n := 4) (Nat.le_of_ble_eq_true rfl)
  rw [lg_entry_eq]
  generalize (lg_sl ([.ref (b 0), .int p0, .int a, .int v]) ++ List.replicate (4 - (lg_sl ([.ref (b 0), .int p0, .int a, .int v])).length) Slot.unset).toArray = ls at hl ⊢
  have hl : lv_has ls 4 [(0, .ref (b 0)), (1, .int p0), (2, .int a), (3, .int v)] := hl
  subst hsz
  have hD := hD0.self (sz := s.heap.size)
  generalize hAe : va_A (xW b F S tI tZ tA q) s.heap.size = A at hD ⊢
  have hA : ∀ q : Nat, s.heap.size ≤ q → A q := fun q h => by rw [← hAe]; exact Or.inr h
  have hS : va_S A s.heap s.heap [] := va_S.rf
  refine lv_aload_n hx hb d_X_store_0 rfl (lv_at hl 0 rfl) ?_
  refine lv_iload_n hx hb d_X_store_1 rfl (lv_at hl 1 rfl) ?_
  refine ob_callR (v := none) (ob_runV (n := 1) (As := [.int p0]) (rest := []) (c_X_requireProcess l D tI tZ tA tJ b F S q p0) (hT.ok ob_cd_c (by decide +kernel) rfl rfl (Nat.le_of_ble_eq_true rfl) (Nat.le_of_ble_eq_true rfl) kn_X kc_X_requireProcess) hx hb hml hown (hT.w k_X_53) (hT.w ki_X_requireProcess) (hT.w kv_X_requireProcess) (va_recv (q0 := 0) (ci := 0) hT.1 hP rfl rfl) pR.blind (pR.at hT (hpr) hP) rfl rfl hl.1 rfl (lv_room (Nat.le_of_ble_eq_true rfl)) d_X_store_2 ⟨Nat.le_of_ble_eq_true rfl, Nat.le_of_ble_eq_true rfl⟩) ?_
  refine W.eq (g2 := F0 m 5 ls []) rfl ?_
  refine lv_iload_n hx hb d_X_store_5 rfl (lv_at hl 2 rfl) ?_
  refine ob_callR (v := none) (ob_runS (n := 1) (As := [.int a]) (rest := []) (c_X_requireAddress l D tI tZ tA tJ a) (hT.ok ob_cd_c (by decide +kernel) rfl rfl (Nat.le_of_ble_eq_true rfl) (Nat.le_of_ble_eq_true rfl) kn_X kc_X_requireAddress) hx hb hml hown (hT.w k_X_69) (hT.w ks_X_requireAddress) pR.blind (pR.at hT (hpa) (fun k q h => nomatch h)) rfl rfl hl.1 rfl (lv_room (Nat.le_of_ble_eq_true rfl)) d_X_store_6 ⟨Nat.le_of_ble_eq_true rfl, Nat.le_of_ble_eq_true rfl⟩) ?_
  refine W.eq (g2 := F0 m 9 ls []) rfl ?_
  refine lv_aload_n hx hb d_X_store_9 rfl (lv_at hl 0 rfl) ?_
  refine lv_iload_n hx hb d_X_store_10 rfl (lv_at hl 1 rfl) ?_
  refine lv_iload_n hx hb d_X_store_11 rfl (lv_at hl 2 rfl) ?_
  refine lv_iload_n hx hb d_X_store_12 rfl (lv_at hl 3 rfl) ?_
  refine ob_callW (v := none) (X := []) (M := xW b F S tI tZ tA q) (M' := xW b F S tI tZ tA (k_storeW F S q p0 a v)) (ob_runV (n := 3) (As := [.int p0, .int a, .int v]) (rest := []) (c_X_storeWord l D tI tZ tA tJ b F S s.heap.size q p0 a v) (hT.ok ob_cd_c (by decide +kernel) rfl rfl (Nat.le_of_ble_eq_true rfl) (Nat.le_of_ble_eq_true rfl) kn_X kc_X_storeWord) hx hb hml hown (hT.w k_X_75) (hT.w ki_X_storeWord) (hT.w kv_X_storeWord) (va_recv (q0 := 0) (ci := 0) hT.1 hP rfl rfl) pW.blind (pW.at hT (hok) hP hD) rfl rfl hl.1 rfl (lv_room (Nat.le_of_ble_eq_true rfl)) d_X_store_13 ⟨Nat.le_of_ble_eq_true rfl, Nat.le_of_ble_eq_true rfl⟩) hP hD hS hA (fun H locs hP hD hS => ?_)
  have hP : va_P D vcl (xW b F S tI tZ tA (k_storeW F S q p0 a v)) H := hP
  have hD : va_D A (xW b F S tI tZ tA (k_storeW F S q p0 a v)) := hD
  refine W.eq (g2 := F0 m 16 ls []) rfl ?_
  refine ob_vret hlocks hx hb hr d_X_store_16 hS.2.2 (fun t ht hW => ?_)
  exact ⟨rfl, by rw [ht]; exact hP, hD, hS.F ht⟩
end
section
set_option maxHeartbeats 4000000 in
set_option maxRecDepth 100000 in
/-- X_copy -/
theorem c_X_copy (l : Launch) (D : va_G) (tI tZ tA tJ : ClassId) (b : Nat → Nat) (F S sz : Nat) (q : KS) (p0 a d n : Int32) : ob_M l y_X_copy w_X_copy ({ frames := 7, cells := 0, slots := 0, locals := 155 }) (pW D tI tZ tA tJ [.ref (b 0), .int p0, .int a, .int d, .int n] (xW b F S tI tZ tA q) sz (¬ m_isP (ks_th q) p0 = 0 ∧ ¬ k_rng a n = 0 ∧ ¬ k_rng d n = 0 ∧ vp_in n 25 ∧ (k_copyL F S p0 a d (ix n) 0 (kv_cp q 0)).1 = 0 ∧ kc_ok F S p0 a d (ix n) 0 (kv_cp q 0))) (ob_qW D vcl none (xW b F S tI tZ tA ((k_copyL F S p0 a d (ix n) 0 (kv_cp q 0)).2)) (va_A (xW b F S tI tZ tA q) sz)) 0 0 (va_A (xW b F S tI tZ tA q) sz) := by
  refine ob_ofW (by decide +kernel) ?_
  intro p e s m args below meth c s₁ B hml htab hv
  obtain ⟨rfl, hT, ⟨hpr, hra, hrd, hn25, hno, hok⟩, hsz, hP, hD0⟩ := hv
  have hx := B.exec
  have hb := B.bytes
  have hr := B.returns
  have hlocks := B.notSynchronized
  have hown : s.vm.findClass R_X = some m.cls := findClass_of_methodNamed B.named
  have hl := lv_entry ([.ref (b 0), .int p0, .int a, .int d, .int n]) (n := 6) (Nat.le_of_ble_eq_true rfl)
  rw [lg_entry_eq]
  generalize (lg_sl ([.ref (b 0), .int p0, .int a, .int d, .int n]) ++ List.replicate (6 - (lg_sl ([.ref (b 0), .int p0, .int a, .int d, .int n])).length) Slot.unset).toArray = ls at hl ⊢
  have hl : lv_has ls 6 [(0, .ref (b 0)), (1, .int p0), (2, .int a), (3, .int d), (4, .int n)] := hl
  subst hsz
  have hD := hD0.self (sz := s.heap.size)
  generalize hAe : va_A (xW b F S tI tZ tA q) s.heap.size = A at hD ⊢
  have hA : ∀ q : Nat, s.heap.size ≤ q → A q := fun q h => by rw [← hAe]; exact Or.inr h
  have hS : va_S A s.heap s.heap [] := va_S.rf
  refine lv_aload_n hx hb d_X_copy_0 rfl (lv_at hl 0 rfl) ?_
  refine lv_iload_n hx hb d_X_copy_1 rfl (lv_at hl 1 rfl) ?_
  refine ob_callR (v := none) (ob_runV (n := 1) (As := [.int p0]) (rest := []) (c_X_requireProcess l D tI tZ tA tJ b F S q p0) (hT.ok ob_cd_c (by decide +kernel) rfl rfl (Nat.le_of_ble_eq_true rfl) (Nat.le_of_ble_eq_true rfl) kn_X kc_X_requireProcess) hx hb hml hown (hT.w k_X_53) (hT.w ki_X_requireProcess) (hT.w kv_X_requireProcess) (va_recv (q0 := 0) (ci := 0) hT.1 hP rfl rfl) pR.blind (pR.at hT (hpr) hP) rfl rfl hl.1 rfl (lv_room (Nat.le_of_ble_eq_true rfl)) d_X_copy_2 ⟨Nat.le_of_ble_eq_true rfl, Nat.le_of_ble_eq_true rfl⟩) ?_
  refine W.eq (g2 := F0 m 5 ls []) rfl ?_
  refine lv_iload_n hx hb d_X_copy_5 rfl (lv_at hl 2 rfl) ?_
  refine lv_iload hx hb d_X_copy_6 (lv_at hl 4 rfl) ?_
  refine ob_callR (v := none) (ob_runS (n := 2) (As := [.int a, .int n]) (rest := []) (c_X_requireRange l D tI tZ tA tJ a n) (hT.ok ob_cd_c (by decide +kernel) rfl rfl (Nat.le_of_ble_eq_true rfl) (Nat.le_of_ble_eq_true rfl) kn_X kc_X_requireRange) hx hb hml hown (hT.w k_X_79) (hT.w ks_X_requireRange) pR.blind (pR.at hT (hra) (fun k q h => nomatch h)) rfl rfl hl.1 rfl (lv_room (Nat.le_of_ble_eq_true rfl)) d_X_copy_8 ⟨Nat.le_of_ble_eq_true rfl, Nat.le_of_ble_eq_true rfl⟩) ?_
  refine W.eq (g2 := F0 m 11 ls []) rfl ?_
  refine lv_iload_n hx hb d_X_copy_11 rfl (lv_at hl 3 rfl) ?_
  refine lv_iload hx hb d_X_copy_12 (lv_at hl 4 rfl) ?_
  refine ob_callR (v := none) (ob_runS (n := 2) (As := [.int d, .int n]) (rest := []) (c_X_requireRange l D tI tZ tA tJ d n) (hT.ok ob_cd_c (by decide +kernel) rfl rfl (Nat.le_of_ble_eq_true rfl) (Nat.le_of_ble_eq_true rfl) kn_X kc_X_requireRange) hx hb hml hown (hT.w k_X_79) (hT.w ks_X_requireRange) pR.blind (pR.at hT (hrd) (fun k q h => nomatch h)) rfl rfl hl.1 rfl (lv_room (Nat.le_of_ble_eq_true rfl)) d_X_copy_14 ⟨Nat.le_of_ble_eq_true rfl, Nat.le_of_ble_eq_true rfl⟩) ?_
  refine W.eq (g2 := F0 m 17 ls []) rfl ?_
  refine lv_aload_n hx hb d_X_copy_17 rfl (lv_at hl 0 rfl) ?_
  refine lv_iconst (v := 0) hx hb d_X_copy_18 (by decide) ?_
  refine va_put (D := D) (ci := 0) (v := .int 0) (ty := .int) hx hb hT.lays ly_X ty_X ty_X_ok n_X hown hT.1 hP hD hS 0 rfl rfl 3 (by decide) (hT.w k_X_82) (fun _ h => h) rfl (by decide +kernel) rfl rfl (Nat.le_of_ble_eq_true rfl) d_X_copy_19 (fun H locs hP hD hS => ?_)
  have hP : va_P D vcl (xW b F S tI tZ tA (kv_cp q 0)) H := hP
  have hD : va_D A (xW b F S tI tZ tA (kv_cp q 0)) := hD
  refine lv_iconst (v := 0) hx hb d_X_copy_22 (by decide) ?_
  refine lv_istore (lv' := [(5, .int 0), (0, .ref (b 0)), (1, .int p0), (2, .int a), (3, .int d), (4, .int n)]) hx hb d_X_copy_23 hl (by decide) rfl (fun ls hl => ?_)
  obtain ⟨N, hN, hnN⟩ := vp_in_of hn25 (by omega)
  have hixn : ix n = N := by rw [hnN]; exact nI_clamp (by omega)
  rw [hixn] at hok hno ⊢
  obtain ⟨RR, hRR⟩ : ∃ z, z = k_copyL F S p0 a d N 0 (kv_cp q 0) := ⟨_, rfl⟩
  rw [← hRR] at hno ⊢
  have loop : ∀ (f i : Nat) (k : KS) (ls : Array Slot) (H : Heap) (locs : List Loc), i + f = N → k_copyL F S p0 a d f i k = RR → kc_ok F S p0 a d f i k → lv_has ls 6 [(5, .int (nI i)), (0, .ref (b 0)), (1, .int p0), (2, .int a), (3, .int d), (4, .int n)] → va_P D vcl (xW b F S tI tZ tA k) H → va_D A (xW b F S tI tZ tA k) → va_S A s.heap H locs → W p l e ({ frames := 7, cells := 0, slots := 0, locals := 155 } : Room) s m ([.ref (b 0), .int p0, .int a, .int d, .int n] : List Value).toArray below meth c H locs 0 0 (ob_Q below (ob_qW D vcl none (xW b F S tI tZ tA RR.2) A) ([.ref (b 0), .int p0, .int a, .int d, .int n] : List Value).toArray s 0 0 A) (F0 m 25 ls []) := by
    intro f
    induction f with
    | zero =>
      intro i k ls H locs hi hR hok hl hP hD hS
      subst hR
      refine lv_iload hx hb d_X_copy_25 (lv_at hl 0 rfl) ?_
      refine lv_iload hx hb d_X_copy_27 (lv_at hl 5 rfl) ?_
      refine lv_icmp_ge (tgt := 66) hx hb d_X_copy_29 (by decide) (fun hc => ?_) (fun hc => absurd (by rw [hnN]; exact nI_le (by omega) (by omega)) hc)
      refine ob_vret hlocks hx hb hr d_X_copy_66 hS.2.2 (fun t ht hW => ?_)
      exact ⟨rfl, by rw [ht]; exact hP, hD, hS.F ht⟩
    | succ f ih =>
      intro i k ls H locs hi hR hok hl hP hD hS
      obtain ⟨hxl, hok2, -⟩ := hok
      have hn0 : k_no F S (k_loadW F S k p0 (a + nI i)).2 p0 ((d + nI i) / 4) = 0 := by
        refine Classical.byContradiction fun h => ?_
        rw [k_copyL, if_neg h] at hR
        rw [← hR] at hno
        exact absurd hno (show ¬ (1 : Int32) = 0 by decide)
      rw [k_copyL, if_pos hn0] at hR
      obtain ⟨hxs, hok3⟩ := hok2 hn0
      refine lv_iload hx hb d_X_copy_25 (lv_at hl 0 rfl) ?_
      refine lv_iload hx hb d_X_copy_27 (lv_at hl 5 rfl) ?_
      refine lv_icmp_ge (tgt := 66) hx hb d_X_copy_29 (by decide) (fun hc => absurd (by rw [hnN] at hc; exact hc) (nI_ge (by omega) (by omega))) (fun hc => ?_)
      refine lv_aload_n hx hb d_X_copy_32 rfl (lv_at hl 1 rfl) ?_
      refine lv_iload_n hx hb d_X_copy_33 rfl (lv_at hl 2 rfl) ?_
      refine lv_iload_n hx hb d_X_copy_34 rfl (lv_at hl 4 rfl) ?_
      refine lv_iload hx hb d_X_copy_35 (lv_at hl 0 rfl) ?_
      refine lv_iadd hx hb d_X_copy_37 ?_
      refine lv_aload_n hx hb d_X_copy_38 rfl (lv_at hl 1 rfl) ?_
      refine lv_iload_n hx hb d_X_copy_39 rfl (lv_at hl 2 rfl) ?_
      refine lv_iload_n hx hb d_X_copy_40 rfl (lv_at hl 3 rfl) ?_
      refine lv_iload hx hb d_X_copy_41 (lv_at hl 0 rfl) ?_
      refine lv_iadd hx hb d_X_copy_43 ?_
      refine ob_callW (v := (some (.int ((k_loadW F S k p0 (a + nI i)).1)))) (X := []) (M := xW b F S tI tZ tA k) (M' := xW b F S tI tZ tA ((k_loadW F S k p0 (a + nI i)).2)) (ob_runV (n := 2) (As := [.int p0, .int (a + nI i)]) (rest := [.int (d + (nI i)), .int p0, .ref (b 0)]) (c_X_loadWord l D tI tZ tA tJ b F S H.size k p0 (a + nI i)) (hT.ok ob_cd_c (by decide +kernel) rfl rfl (Nat.le_of_ble_eq_true rfl) (Nat.le_of_ble_eq_true rfl) kn_X kc_X_loadWord) hx hb hml hown (hT.w k_X_72) (hT.w ki_X_loadWord) (hT.w kv_X_loadWord) (va_recv (q0 := 0) (ci := 0) hT.1 hP rfl rfl) pW.blind (pW.at hT (hxl) hP hD) rfl rfl hl.1 rfl (lv_room (Nat.le_of_ble_eq_true rfl)) d_X_copy_44 ⟨Nat.le_of_ble_eq_true rfl, Nat.le_of_ble_eq_true rfl⟩) hP hD hS hA (fun H locs hP hD hS => ?_)
      have hP : va_P D vcl (xW b F S tI tZ tA ((k_loadW F S k p0 (a + nI i)).2)) H := hP
      have hD : va_D A (xW b F S tI tZ tA ((k_loadW F S k p0 (a + nI i)).2)) := hD
      refine W.eq (g2 := F0 m 47 ls [.int ((k_loadW F S k p0 (a + nI i)).1), .int (d + (nI i)), .int p0, .ref (b 0)]) rfl ?_
      refine ob_callW (v := none) (X := []) (M := xW b F S tI tZ tA ((k_loadW F S k p0 (a + nI i)).2)) (M' := xW b F S tI tZ tA (k_storeW F S (k_loadW F S k p0 (a + nI i)).2 p0 (d + nI i) (k_loadW F S k p0 (a + nI i)).1)) (ob_runV (n := 3) (As := [.int p0, .int (d + nI i), .int ((k_loadW F S k p0 (a + nI i)).1)]) (rest := []) (c_X_storeWord l D tI tZ tA tJ b F S H.size ((k_loadW F S k p0 (a + nI i)).2) p0 (d + nI i) ((k_loadW F S k p0 (a + nI i)).1)) (hT.ok ob_cd_c (by decide +kernel) rfl rfl (Nat.le_of_ble_eq_true rfl) (Nat.le_of_ble_eq_true rfl) kn_X kc_X_storeWord) hx hb hml hown (hT.w k_X_75) (hT.w ki_X_storeWord) (hT.w kv_X_storeWord) (va_recv (q0 := 0) (ci := 0) hT.1 hP rfl rfl) pW.blind (pW.at hT (hxs) hP hD) rfl rfl hl.1 rfl (lv_room (Nat.le_of_ble_eq_true rfl)) d_X_copy_47 ⟨Nat.le_of_ble_eq_true rfl, Nat.le_of_ble_eq_true rfl⟩) hP hD hS hA (fun H locs hP hD hS => ?_)
      have hP : va_P D vcl (xW b F S tI tZ tA (k_storeW F S (k_loadW F S k p0 (a + nI i)).2 p0 (d + nI i) (k_loadW F S k p0 (a + nI i)).1)) H := hP
      have hD : va_D A (xW b F S tI tZ tA (k_storeW F S (k_loadW F S k p0 (a + nI i)).2 p0 (d + nI i) (k_loadW F S k p0 (a + nI i)).1)) := hD
      refine W.eq (g2 := F0 m 50 ls []) rfl ?_
      refine lv_aload_n hx hb d_X_copy_50 rfl (lv_at hl 1 rfl) ?_
      refine lv_dup hx hb d_X_copy_51 rfl ?_
      refine va_get (D := D) (ci := 0) (v := .int (ks_cp (k_storeW F S (k_loadW F S k p0 (a + nI i)).2 p0 (d + nI i) (k_loadW F S k p0 (a + nI i)).1))) hx hb hT.lays ly_X hown hT.1 hP 0 rfl rfl 3 (by decide) (hT.w k_X_82) (fun _ h => h) rfl d_X_copy_52 ?_
      refine lv_iconst (v := 1) hx hb d_X_copy_55 (by decide) ?_
      refine lv_iadd hx hb d_X_copy_56 ?_
      refine va_put (D := D) (ci := 0) (v := .int ((ks_cp (k_storeW F S (k_loadW F S k p0 (a + nI i)).2 p0 (d + nI i) (k_loadW F S k p0 (a + nI i)).1)) + 1)) (ty := .int) hx hb hT.lays ly_X ty_X ty_X_ok n_X hown hT.1 hP hD hS 0 rfl rfl 3 (by decide) (hT.w k_X_82) (fun _ h => h) rfl (by decide +kernel) rfl rfl (Nat.le_of_ble_eq_true rfl) d_X_copy_57 (fun H locs hP hD hS => ?_)
      have hP : va_P D vcl (xW b F S tI tZ tA (kv_cp (k_storeW F S (k_loadW F S k p0 (a + nI i)).2 p0 (d + nI i) (k_loadW F S k p0 (a + nI i)).1) ((ks_cp (k_storeW F S (k_loadW F S k p0 (a + nI i)).2 p0 (d + nI i) (k_loadW F S k p0 (a + nI i)).1)) + 1))) H := hP
      have hD : va_D A (xW b F S tI tZ tA (kv_cp (k_storeW F S (k_loadW F S k p0 (a + nI i)).2 p0 (d + nI i) (k_loadW F S k p0 (a + nI i)).1) ((ks_cp (k_storeW F S (k_loadW F S k p0 (a + nI i)).2 p0 (d + nI i) (k_loadW F S k p0 (a + nI i)).1)) + 1))) := hD
      refine lv_iinc (k := 0) (v := nI (i + 1)) (lv' := [(5, .int (nI (i + 1))), (0, .ref (b 0)), (1, .int p0), (2, .int a), (3, .int d), (4, .int n)]) hx hb d_X_copy_60 hl rfl (nI_1 i) (by decide) rfl (fun ls hl => ?_)
      refine lv_goto (tgt := 25) hx hb d_X_copy_63 (by decide) ?_
      exact ih (i + 1) _ ls H locs (by omega) hR hok3 (lv_sub hl [0, 1, 2, 3, 4, 5] rfl) hP hD hS
  exact loop N 0 (kv_cp q 0) ls H locs (by omega) hRR.symm hok (lv_sub hl [0, 1, 2, 3, 4, 5] rfl) hP hD hS
end
section
/-! throw new E(text): the constructor's chain, whatever the entry of its first link; and how the two statics of Throwable are carried. -/
/-- what a throw asks of the tables of the class thrown -/
def th_own (own : String) (ic : Nat) (X : String) (bytes : ByteArray) : List Cond :=
  [.methodLink own ic (Bundle.initS X), .instanceMethod (Bundle.initS X), .code (Bundle.initS X) bytes 2 none, .instantiable X 6, .selects X Bundle.tFill0 Bundle.tFill0, .selects X Bundle.tFill Bundle.tFill,
   .lays X Bundle.tN "cause" "Ljava/lang/Throwable;", .lays X Bundle.tN "stackTrace" Bundle.steD, .lays X Bundle.tN "suppressedExceptions" Bundle.listD, .lays X Bundle.tN "detailMessage" "Ljava/lang/String;",
   .fieldLink Bundle.tN 198 Bundle.tN "backtrace" "Ljava/lang/Object;", .lays Bundle.tN Bundle.tN "backtrace" "Ljava/lang/Object;", .lays X Bundle.tN "backtrace" "Ljava/lang/Object;"]
def th_st : List Cond := [.isRef (.static Bundle.tN "UNASSIGNED_STACK" Bundle.steD), .isRef (.static Bundle.tN "SUPPRESSED_SENTINEL" Bundle.listD)]
def th_ch (e : Env) (s : State) (X : String) (k : Nat) : Prop := ∀ top, s.methodNamed? (Bundle.initS Bundle.tN) = some top → ∃ (P1 : PassC) (Ps : List PassC), Ps.length = k ∧ P1.LinksS e.platform s ∧ (∀ P, P ∈ Ps → P.LinksS e.platform s) ∧ s.methodNamed? (Bundle.initS X) = some P1.m ∧
        P1.sup = firstOf top (Ps.map (·.toPassT)) ∧ PassesOn top (Ps.map (·.toPassT))
section TH
variable {p : Program} {l : Launch} {e : Env} {R : Room} {s : State} {m : MethodId} {args : Array Value} {below : List Frame} {meth : Method} {c : Code} {V : State} {locs : List Loc} {cells slots : Nat}
set_option maxHeartbeats 2000000 in
theorem th_ctor (X : Stand p l e R s m args below meth c V locs cells slots) (hexec : p.tables.exec = Jvm.exec) (htr : e.platform.stackTraces = false) {own cls : String} {k ic : Nat} {bytes : ByteArray}
    (hown : s.vm.findClass own = some m.cls) (hcls : Bundle.fit cls = true) (h1 : ∀ w ∈ Bundle.throwableAtoms, w.before args s = true) (h2 : ∀ w ∈ Bundle.throwableSAtoms, w.before args s = true) (h3 : ∀ w ∈ th_own own ic cls bytes, w.before args s = true) (h4 : ∀ w ∈ th_st, w.before args s = true) (hch : th_ch e s cls k)
    (hlocs : ∀ x ∈ locs, ∀ cell, s.heap[x.base]? = some cell → cell.vm.isStatics = false)
    {a : Addr} {cX : ClassId} {kX : Class} (hfoundX : s.vm.findClass cls = some cX) (hkX : s.vm.classes[cX]? = some kX) (hcell : V.heap[a]? = some (freshCell cX kX)) (hnew : s.heap.size ≤ a)
    {msg : Value} (hmsg : msg.isRef = true)
    {g : JFrame} (hg : g.method = m) (hsize : g.locals.size = c.maxLocals) (hlocked : g.locked = none) (hentered : g.entered = []) {rest : List Value} (hstack : g.stack = msg :: .ref a :: .ref a :: rest)
    (hd6 : decode c.code g.pc = .ok (.invokespecial ic, 3)) (hd9 : decode c.code (g.pc + 3) = .ok (.athrow, 1)) (hout : ∀ x ∈ c.exceptionTable.toList, covers x (g.pc + 3) = false)
    (hRf : k + 3 < R.frames) (hRl : 2 * g.monitorRoom + ((Value.ref a :: rest).map fun v => v.category).sum + (13 * (k + 1) + 42) ≤ R.locals) (hlocks : meth.locks = false) :
    ∃ U : State, Steps p.tables e below (V.setTop g) U ∧ U.status = .running ∧ Ended U below (.threw a) ∧ s.WarmedH U.vm ∧ s.sameButNew ({ U with vm := s.vm } : State) locs cells slots ∧
      (∀ q : Nat, q ≠ a → U.heap[q]? = V.heap[q]?) ∧ U.heap.size = V.heap.size ∧ ∃ ce, U.heap[a]? = some ce ∧ ce.vm = .none ∧ s.vm.findClass cls = some ce.cls := by
  have howns : e.platform.frameOwnsMonitors = true := by rw [X.admits.platform]
  have hfin : e.platform.finalization = false := by rw [X.admits.platform]
  have hpl : e.platform.magicAccessors = ({} : Platform).magicAccessors := by rw [X.admits.platform]
  have hw : ∀ w, w ∈ th_own own ic cls bytes → w.holds args s none s [] = true := fun w hq => h3 w hq
  have hz : ∀ w, w ∈ th_st → w.holds args s none s [] = true := fun w hq => h4 w hq
  obtain ⟨T, Z0, L, -, Y⟩ := ThrowableC.of_atoms (args := args) howns hfin hpl h1
  obtain ⟨Z, M, LZ, LM, hnZ⟩ := Init0T.ofS_atoms (args := args) hpl L Y h2
  obtain ⟨P1, Ps, hlen, L1, hL, hP1m, hlink1, hlink⟩ := hch _ hnZ
  have hfound : s.vm.findClass cls = some P1.m.cls := findClass_of_methodNamed hP1m
  cases hfoundX.symm.trans hfound
  obtain ⟨c1, kX', hc1, hk, hord, -, -, -⟩ := Cond.instantiable_spec (hw (.instantiable cls 6) (by simp [th_own]))
  cases hc1.symm.trans hfound
  cases hkX.symm.trans hk
  have sel : ∀ (y : MethodName) (f : MethodId), s.methodNamed? y = some f → (y.cls ≠ "java/lang/invoke/MethodHandle" ∧ y.cls ≠ "java/lang/invoke/VarHandle") → (Cond.selects cls y y).holds args s none s [] = true → selectMethod e.platform s.vm P1.m.cls f = .method f := by
    intro y f hf hy hs
    obtain ⟨c2, r2, m2, q1, q2, q3, q4, -⟩ := Cond.selects_spec hs
    cases q1.symm.trans hfound
    cases q2.symm.trans (State.methodFound?_of_named hf hy)
    cases q3.symm.trans hf
    rw [Launch.admits_selectMethod X.admits]; exact q4
  have hsel0 := sel Bundle.tFill0 T.fill0 Y.fill0 (by decide) (hw _ (by simp [th_own]))
  have hselF := sel Bundle.tFill T.fill Y.fill (by decide) (hw _ (by simp [th_own]))
  obtain ⟨cellS0, hcS0, hiss⟩ := Y.statics
  obtain ⟨u0, hu0⟩ := Cond.staticRefV Y.unassigned L.unassignedStatic L.statics hcS0 hiss (hz (.isRef (.static Bundle.tN "UNASSIGNED_STACK" Bundle.steD)) (by simp [th_st]))
  obtain ⟨sen, hsen⟩ := Cond.staticRefV Y.sentinel L.sentinelStatic L.statics hcS0 hiss (hz (.isRef (.static Bundle.tN "SUPPRESSED_SENTINEL" Bundle.listD)) (by simp [th_st]))
  obtain ⟨ci198, i198, fB, hk198, hg198, ha198, hsB, -, hnB, htB, hffB⟩ := Cond.ownField (t := .object "java/lang/Object") Y.found L.cls (by decide +kernel) (hw (.fieldLink Bundle.tN 198 Bundle.tN "backtrace" "Ljava/lang/Object;") (by simp [th_own])) (hw (.lays Bundle.tN Bundle.tN "backtrace" "Ljava/lang/Object;") (by simp [th_own])) e.platform hpl
  obtain ⟨cellS, hcellS, heS, -, hkeep⟩ := X.same.2.2.2.2.2 T.aS cellS0 hcS0
  have hcellS : V.heap[T.aS]? = some cellS := hcellS
  have hout' : ∀ i, (⟨T.aS, i⟩ : Loc) ∉ locs := fun i hmem => by
    have := hlocs _ hmem cellS0 hcS0
    rw [hiss] at this; cases this
  have hknownS : cellS.vm ≠ .unknown := by
    rw [heS]; intro hu
    rw [show cellS0.vm = .unknown from hu] at hiss
    cases hiss
  have hneS : T.aS ≠ a := Nat.ne_of_lt (Nat.lt_of_lt_of_le (Array.getElem?_eq_some_iff.mp hcS0).1 hnew)
  obtain ⟨iM, hffM⟩ := Y.msg
  obtain ⟨tyC, dC, hdC, hdnC⟩ := Cond.laysAt hfound hk Y.cause (hw (.lays cls Bundle.tN "cause" "Ljava/lang/Throwable;") (by simp [th_own]))
  obtain ⟨tyS, dS, hdS, hdnS⟩ := Cond.laysAt hfound hk Y.stack (hw (.lays cls Bundle.tN "stackTrace" Bundle.steD) (by simp [th_own]))
  obtain ⟨tyP, dP, hdP, hdnP⟩ := Cond.laysAt hfound hk Y.supp (hw (.lays cls Bundle.tN "suppressedExceptions" Bundle.listD) (by simp [th_own]))
  obtain ⟨tyM, dM, hdM, hdnM⟩ := Cond.laysAt hfound hk hffM (hw (.lays cls Bundle.tN "detailMessage" "Ljava/lang/String;") (by simp [th_own]))
  obtain ⟨tyB, dB, hdB, hdnB⟩ := Cond.laysAt hfound hk hffB (hw (.lays cls Bundle.tN "backtrace" "Ljava/lang/Object;") (by simp [th_own]))
  have bC := Cond.laysApart hdB hdC hdnB hdnC (by rw [hnB, Y.causeName]; decide)
  have bS := Cond.laysApart hdB hdS hdnB hdnS (by rw [hnB, Y.stackName]; decide)
  have bP := Cond.laysApart hdB hdP hdnB hdnP (by rw [hnB, Y.suppName]; decide)
  have hskip : SkipFacts T e.platform s (fun u => u) u0 ((preparedCellV T.toThrowableT (freshCell P1.m.cls kX) a u0 sen).withEntry V.cur) :=
    ⟨{ ci198 := ci198, i198 := i198, fBack := fB }, ⟨hk198, hg198, ha198, hsB⟩, by
      have := fresh_default (c := P1.m.cls) tyB
      rw [htB] at this
      simpa [preparedCellV, Cell.setSlot, Cell.withEntry, Array.getElem?_setIfInBounds, bC, bS, bP, bC.symm, bS.symm, bP.symm, defaultValue] using this, fun _ _ => rfl⟩
  obtain ⟨tm, methC, cdC, kC, vm₁, hnC, -, -, -, -, -, -, -, hW₁, st1⟩ := Steps.initColdS (tb := p.tables) (e := e) (below := below) (s := s) (U := V) X.here hexec X.warmed hpl hown (t := Bundle.initS cls) rfl rfl (Bundle.fit_spec hcls).2
    (hw (.methodLink own ic (Bundle.initS cls)) (by simp [th_own])) (h3 (.instanceMethod (Bundle.initS cls)) (by simp [th_own])) (bytes := bytes) (maxL := 2) (h3 (.code (Bundle.initS cls) bytes 2 none) (by simp [th_own]))
    (f := g) hg (a := a) (msg := msg) (rest := .ref a :: rest) hstack hd6
  cases hnC.symm.trans hP1m
  have X₁ := X.noted hW₁
  obtain ⟨vm₂, X₂, st2⟩ := X₁.ctorMessageOffV hexec (g := { g with stack := .ref a :: rest }) hg hsize T L Z LZ M LM (P1 :: Ps)
    (fun P hP => by rcases List.mem_cons.mp hP with rfl | hP; exact L1; exact hL P hP) ⟨hlink1, hlink⟩ (u0 := u0) (sen := sen) (self := a) hmsg (cell := freshCell P1.m.cls kX) (cellS := cellS)
    hcell (fun _ => by simp) (by simp) rfl rfl hsel0 hselF hcellS hneS hknownS (by rw [hkeep _ (hout' _)]; exact hu0) (by rw [hkeep _ (hout' _)]; exact hsen)
    (Takes.of_laid hk hord tyC (by rw [Y.causeType]; rfl)) (Takes.of_laid hk hord tyS (by rw [Y.stackType]; exact fits_refV_array _ u0)) (Takes.of_laid hk hord tyP (by rw [Y.suppType]; exact fits_refV_object _ sen))
    (Takes.of_laid hk hord tyM (by rw [Y.msgType]; exact fits_refV_object _ ⟨msg, hmsg⟩)) Y.objLocals hskip htr [] hd6
    (by simp only [List.length_cons, hlen]; omega) (by simp only [List.length_cons, hlen]; exact hRl)
  obtain ⟨hwalk, hrun, hended, hWU, hsame⟩ := X₂.athrowLeaves hexec (g := { g with stack := .ref a :: rest, pc := g.pc + 3 }) hg hlocked hentered hout (a := a) (rest := rest) rfl hd9
  have hlt : a < ((V.setVm vm₁).setVm vm₂).heap.size := (Array.getElem?_eq_some_iff.mp hcell).1
  have hU := heapAt_setCell_self (s := (V.setVm vm₁).setVm vm₂) (plainBareV T.toThrowableT (freshCell P1.m.cls kX) a u0 sen msg) hlt
  refine ⟨_, st1 _ (fun acts => ?_), hrun, hended, hWU, hsame.weaken (fun y hy hlt' => ?_) (Nat.le_refl _) (Nat.le_refl _), (fun q hq => ?_), ?_, _, hU, rfl, hfound⟩
  · rw [doInvoke_state]
    exact st2 _ hwalk
  · rcases List.mem_append.mp hy with q1 | q1
    · exact q1
    · exfalso
      have hb : y.base = a := by
        simp only [List.mem_cons, List.not_mem_nil, or_false] at q1
        rcases q1 with rfl | rfl | rfl | rfl | rfl <;> rfl
      rw [hb] at hlt'
      exact Nat.not_lt.mpr hnew hlt'
  · show (V.heap.setIfInBounds a _)[q]? = V.heap[q]?
    rw [Array.getElem?_setIfInBounds_ne (Ne.symm hq)]
  · show (V.heap.setIfInBounds a _).size = V.heap.size
    simp
end TH

/-- a static of Throwable's: where it lies, and that it holds a reference or null -/
def zs_1 (n d : String) (U : State) (H : Heap) : Prop := ∃ (c : ClassId) (k : Class) (i : Nat) (f : Field) (a : Nat) (cell : Cell) (v : Value), U.vm.findClass Bundle.tN = some c ∧ U.fieldFound? Bundle.tN n d = some (c, k, i, f) ∧ f.isStatic = true ∧ k.statics = some a ∧ H[a]? = some cell ∧ cell.vm.isStatics = true ∧ cell.cls = c ∧ f.slot < cell.slots.size ∧ k.staticTypes[f.slot]? = some f.type ∧ cell.slots[f.slot]? = some v ∧ v.isRef = true
theorem zs_1.moved {n d : String} {u U : State} {H : Heap} (hvm : u.vm.Alike U.vm) (h : zs_1 n d u H) : zs_1 n d U H := by
  obtain ⟨c, k, i, f, a, cell, v, h1, h2, h3, h4, h5, h6, h7, h8, h9, h10⟩ := h
  obtain ⟨k', hi', he⟩ := State.fieldFound?_setVm hvm h2
  exact ⟨c, k', i, f, a, cell, v, by rw [hvm.findClass]; exact h1, hi', h3, by rw [he]; exact h4, h5, h6, h7, h8, by rw [he]; exact h9, h10⟩
theorem zs_1.kept {n d : String} {U : State} {H H1 : Heap} (h : zs_1 n d U H) (hq : ∀ (a : Nat) (cell : Cell), H[a]? = some cell → cell.vm.isStatics = true → H1[a]? = some cell) : zs_1 n d U H1 := by
  obtain ⟨c, k, i, f, a, cell, v, h1, h2, h3, h4, h5, h6, h7⟩ := h
  exact ⟨c, k, i, f, a, cell, v, h1, h2, h3, h4, hq a cell h5 h6, h6, h7⟩
theorem zs_1.lay {n d : String} {s : State} {args : Array Value} (h : zs_1 n d s s.heap) : (Cond.laysStatic Bundle.tN n d).before args s = true := by
  obtain ⟨c, k, i, f, a, cell, v, h1, h2, h3, h4, h5, h6, h7, h8, h9, -⟩ := h
  show (Cond.laysStatic Bundle.tN n d).holds args s none s [] = true
  exact Cond.laysStatic_of h1 h2 h3 h4 h5 h6 h7 h8 h9
theorem zs_1.ref {n d : String} {s : State} {args : Array Value} (h : zs_1 n d s s.heap) : (Cond.isRef (.static Bundle.tN n d)).before args s = true := by
  obtain ⟨c, k, i, f, a, cell, v, h1, h2, h3, h4, h5, h6, h7, h8, h9, h10, h11⟩ := h
  have he : (Term.static Bundle.tN n d).eval args s none [] s = some v := by
    simp [Term.eval, State.fieldNamed?, h2, h3, h4, h5, h6, h10]
  simp only [Cond.before, Cond.holds, Cond.value, he]
  cases v <;> simp_all [Value.isRef]
theorem zs_1.of {n d : String} {s : State} {args : Array Value} (hl : (Cond.laysStatic Bundle.tN n d).before args s = true) (hr : (Cond.isRef (.static Bundle.tN n d)).before args s = true) : zs_1 n d s s.heap := by
  obtain ⟨c, k, i, f, a, cell, h1, h2, h3, h4, h5, h6, h7, h8, h9⟩ := Cond.laysStatic_spec hl
  have h10 : cell.slots[f.slot]? = some cell.slots[f.slot] := Array.getElem?_eq_getElem h8
  refine ⟨c, k, i, f, a, cell, _, h1, h2, h3, h4, h5, h6, h7, h8, h9, h10, ?_⟩
  have he : (Term.static Bundle.tN n d).eval args s none [] s = some cell.slots[f.slot] := by
    simp [Term.eval, State.fieldNamed?, h2, h3, h4, h5, h6, h10]
  simp only [Cond.before, Cond.holds, Cond.value, he] at hr
  generalize cell.slots[f.slot] = v at hr
  cases v <;> simp_all [Value.isRef]
def ZS (U : State) (H : Heap) : Prop := zs_1 "UNASSIGNED_STACK" Bundle.steD U H ∧ zs_1 "SUPPRESSED_SENTINEL" Bundle.listD U H
theorem ZS.moved {u U : State} {H : Heap} (hvm : u.vm.Alike U.vm) (h : ZS u H) : ZS U H := ⟨h.1.moved hvm, h.2.moved hvm⟩
theorem ZS.kept {U : State} {H H1 : Heap} (h : ZS U H) (hq : ∀ (a : Nat) (cell : Cell), H[a]? = some cell → cell.vm.isStatics = true → H1[a]? = some cell) : ZS U H1 := ⟨h.1.kept hq, h.2.kept hq⟩
/-- no cell of a world is a class's statics -/
theorem va_P.plain {D : va_G} {cl : List vw_C} {ws : va_W} {H : Heap} (hP : va_P D cl ws H) {k : Nat} {q : Nat × va_E} (hk : ws[k]? = some q) {cell : Cell} (hc : H[q.1]? = some cell) : cell.vm.isStatics = false := by
  have h := hP k q hk
  obtain ⟨a, e⟩ := q
  cases e with
  | inl x =>
    have h1 : H[a]? = some (vp_cell x.1 x.2) := h
    cases hc.symm.trans h1
    obtain ⟨cA, n, v⟩ := x
    rcases v with f | f | f | f | f <;> rfl
  | inr o =>
    obtain ⟨r, h1, cell', g1, g2, g3, -⟩ := h
    cases hc.symm.trans g1
    rw [g3]; rfl
theorem va_A.plain {D : va_G} {cl : List vw_C} {ws : va_W} {H : Heap} (hP : va_P D cl ws H) (a : Nat) (ha : va_A ws H.size a) (cell : Cell) (hc : H[a]? = some cell) : cell.vm.isStatics = false := by
  rcases ha with ⟨k, e, h⟩ | h
  · exact hP.plain h hc
  · exact absurd (Array.getElem?_eq_some_iff.mp hc).1 (by omega)
/-- .. so the statics stay behind what writes into the world alone -/
theorem ZS.past {D : va_G} {cl : List vw_C} {ws : va_W} {U : State} {H H1 : Heap} (h : ZS U H) (hP : va_P D cl ws H) (hk : ∀ q : Nat, q < H.size → ¬ va_A ws H.size q → H1[q]? = H[q]?) : ZS U H1 := by
  refine h.kept fun a cell hc hs => ?_
  rw [hk a (Array.getElem?_eq_some_iff.mp hc).1 (fun z => by rw [va_A.plain hP a z cell hc] at hs; cases hs)]
  exact hc
section TH2
variable {p : Program} {l : Launch} {e : Env} {R : Room} {s : State} {m : MethodId} {args : Array Value} {below : List Frame} {meth : Method} {c : Code} {H : Heap} {locs : List Loc} {cells slots : Nat} {free : Addr → Prop} {ls : Array Slot} {rest : List Value} {pc : Nat}
theorem th_throw {cc : ByteArray} {Qc : Array Value → State → Outcome → State → Prop} {own E tx : String} {k ic ie it q : Nat} {bytes : ByteArray} {A : Nat → Prop} (hlocks : meth.locks = false) (hexec : p.tables.exec = Jvm.exec) (hb : c.code = cc) (hml : c.maxLocals = ls.size) (htr : l.stackTraces = false) (hown : s.vm.findClass own = some m.cls)
    (hcls : Bundle.fit E = true) (h1 : ∀ w ∈ Bundle.throwableAtoms, w.before args s = true) (h2 : ∀ w ∈ Bundle.throwableSAtoms, w.before args s = true) (h3 : ∀ w ∈ th_own own ic E bytes, w.before args s = true) (h4 : ∀ w ∈ th_st, w.before args s = true) (hch : e.platform.magicAccessors = ({} : Platform).magicAccessors → th_ch e s E k)
    (hcl : (Cond.classLink own ie E).before args s = true) (hini : (Cond.initialized E).before args s = true) (hZ : vk_R own it tx q s)
    (hS : va_S A s.heap H locs) (hpl : ∀ a, A a → ∀ cell, s.heap[a]? = some cell → cell.vm.isStatics = false)
    (hd0 : decode cc pc = .ok (.new ie, 3)) (hd3 : decode cc (pc + 3) = .ok (.dup, 1)) (hd4 : decode cc (pc + 4) = .ok (.ldc it, 2)) (hd6 : decode cc (pc + 6) = .ok (.invokespecial ic, 3)) (hd9 : decode cc (pc + 9) = .ok (.athrow, 1)) (hout : ∀ y ∈ c.exceptionTable.toList, covers y (pc + 9) = false)
    (hRc : cells + 1 ≤ R.cells) (hRs : slots + 6 ≤ R.slots) (hRf : k + 3 < R.frames) (hRl : (rest.map fun v => v.category).sum + (13 * (k + 1) + 43) ≤ R.locals) (hf : ∀ x ∈ locs, free x.base)
    (hq : ∀ (x : Addr) (t : State), ob_ex E x s t.heap → H.size ≤ t.heap.size → (∀ q : Nat, q < H.size → t.heap[q]? = H[q]?) → s.WarmedH t.vm → Qc args s (.threw x) t) :
    W p l e R s m args below meth c H locs cells slots (ob_Q below Qc args s (cells + 1) (slots + 6) free) (F0 m pc ls rest) := by
  refine W.newc hexec hb hown hcl (h3 (.instantiable E 6) (by simp [th_own])) hini rfl hd0 hRc hRs fun cC kC g1 g2 g3 g4 => ?_
  refine lv_dup hexec hb hd3 rfl ?_
  refine va_ldcS hexec hb hown hZ hd4 ?_
  intro T hT X
  subst hb
  have htr' : e.platform.stackTraces = false := (show e.platform.stackTraces = l.stackTraces by rw [X.admits.platform]).trans htr
  have hx : T.heap[H.size]? = some (freshCell cC kC) := by rw [hT]; simp
  obtain ⟨U, u1, u2, u3, u4, u5, u6, u7, ce, u8, u9, u10⟩ := th_ctor X hexec htr' hown hcls h1 h2 h3 h4 (hch (by rw [X.admits.platform])) (fun x hx cell hc => hpl _ (hS.2.2 x hx) cell hc) g1 g2 (a := H.size) hx hS.1 (msg := .ref q) rfl (g := F0 m (pc + 6) ls (.ref q :: .ref H.size :: .ref H.size :: rest)) rfl hml.symm rfl rfl (rest := rest) rfl hd6 hd9 hout hRf (by
    show 2 * 0 + ((Value.ref H.size :: rest).map fun v => v.category).sum + _ ≤ _
    have hcat : (Value.ref H.size).category = 1 := rfl
    simp only [List.map_cons, List.sum_cons, hcat]
    omega) hlocks
  have hTs : T.heap.size = H.size + 1 := by rw [hT]; simp
  refine ⟨U, u1, .threw H.size, u2, u3, hq _ U ⟨ce, u8, u9, u10⟩ (by rw [u7, hTs]; omega) (fun z hz => ?_) u4, locs, ⟨u4, u5⟩, hf⟩
  rw [u6 z (by omega), hT, Array.getElem?_push_lt hz, Array.getElem?_eq_getElem hz]
end TH2
theorem th_ok1 : ∀ w ∈ Bundle.throwableAtoms, w ∈ lw_tbl ∧ (tb_ok w = true ∨ w = .laysStatic Bundle.tN "UNASSIGNED_STACK" Bundle.steD ∨ w = .laysStatic Bundle.tN "SUPPRESSED_SENTINEL" Bundle.listD) := by decide +kernel
theorem th_ok2 : ∀ w ∈ Bundle.throwableSAtoms, w ∈ lw_tbl ∧ tb_ok w = true := by decide +kernel
def th_b13 : ByteArray := ⟨#[0x2a, 0x2b, 0xb7, 0x00, 0x0d, 0xb1]⟩
theorem th_okEs : ∀ w ∈ th_own R_X 50 R_Es Bundle.six ++ Bundle.chainSAtoms R_Es ["java/lang/RuntimeException", "java/lang/Exception"], w ∈ lw_tbl ∧ tb_ok w = true := by decide +kernel
theorem th_okEi : ∀ w ∈ th_own R_X 68 R_Ei Bundle.six ++ Bundle.chainSAtoms R_Ei ["java/lang/RuntimeException", "java/lang/Exception"], w ∈ lw_tbl ∧ tb_ok w = true := by decide +kernel
theorem th_okEn : ∀ w ∈ th_own R_X 127 R_En th_b13 ++ (Bundle.passSAtoms R_En "java/lang/RuntimeException" 13 th_b13 ++ Bundle.chainSAtoms "java/lang/RuntimeException" ["java/lang/Exception"]), w ∈ lw_tbl ∧ tb_ok w = true := by decide +kernel
section TH3
variable {D : va_G} {tI tZ tA tJ : ClassId} {s : State} {a : Array Value}
theorem TB.h1 (h : TB D tI tZ tA tJ s) (hz : ZS s s.heap) : ∀ w ∈ Bundle.throwableAtoms, w.before a s = true := by
  intro w hw
  obtain ⟨q1, q2 | q2 | q2⟩ := th_ok1 w hw
  · exact h.2.1 w q1 q2 a
  · rw [q2]; exact hz.1.lay
  · rw [q2]; exact hz.2.lay
theorem TB.h2 (h : TB D tI tZ tA tJ s) : ∀ w ∈ Bundle.throwableSAtoms, w.before a s = true := fun w hw => h.2.1 w (th_ok2 w hw).1 (th_ok2 w hw).2 a
theorem ZS.h4 (hz : ZS s s.heap) : ∀ w ∈ th_st, w.before a s = true := by
  intro w hw
  rcases List.mem_cons.mp hw with q | q
  · rw [q]; exact hz.1.ref
  · rw [List.mem_singleton.mp q]; exact hz.2.ref
theorem TB.chS (h : TB D tI tZ tA tJ s) {e : Env} {X : String} {names : List String} (hX : Bundle.fit X = true) (hn : ∀ n ∈ names, Bundle.fit n = true) (hok : ∀ w ∈ Bundle.chainSAtoms X names, w ∈ lw_tbl ∧ tb_ok w = true) (hpl : e.platform.magicAccessors = ({} : Platform).magicAccessors) : th_ch e s X names.length := by
  intro top htop
  exact Bundle.chainS (args := #[]) hpl htop names X hX hn (fun w hw => h.2.1 w (hok w hw).1 (hok w hw).2 _)
theorem TB.chEn (h : TB D tI tZ tA tJ s) {e : Env} (hpl : e.platform.magicAccessors = ({} : Platform).magicAccessors) : th_ch e s R_En 2 := by
  intro top htop
  obtain ⟨P', Ps, hlen, L', hL, hm', hsup, hpass⟩ := h.chS (X := "java/lang/RuntimeException") (names := ["java/lang/Exception"]) (by decide +kernel) (by decide +kernel) (fun w hw => th_okEn w (List.mem_append_right _ (List.mem_append_right _ hw))) hpl top htop
  obtain ⟨P, L, hm, hs⟩ := PassC.ofS_atoms (args := #[]) (s := s) hpl (X := R_En) (Y := "java/lang/RuntimeException") (index := 13) (bytes := th_b13) (by decide +kernel) (by decide +kernel) (by decide +kernel) (by decide +kernel) (by decide +kernel) (by decide +kernel)
    (fun w hw => h.2.1 w (th_okEn w (List.mem_append_right _ (List.mem_append_left _ hw))).1 (th_okEn w (List.mem_append_right _ (List.mem_append_left _ hw))).2 _)
  refine ⟨P, P' :: Ps, by rw [List.length_cons, hlen]; rfl, L, ?_, hm, Option.some.inj (hs.symm.trans hm'), hsup, hpass⟩
  intro Q hQ
  rcases List.mem_cons.mp hQ with rfl | hQ
  · exact L'
  · exact hL Q hQ
end TH3
/-- what a method is given that throws -/
abbrev pT (D : va_G) (tI tZ tA tJ : ClassId) (av : List Value) (ws : va_W) (sz : Nat) (B : Prop) : Array Value → State → Prop := va_Pc av (fun U => TB D tI tZ tA tJ U ∧ ZS U U.heap ∧ B ∧ U.heap.size = sz ∧ va_P D vcl ws U.heap ∧ va_D (fun _ => True) ws)
theorem pT.blind {D : va_G} {tI tZ tA tJ : ClassId} {av : List Value} {ws : va_W} {sz : Nat} {B : Prop} : FrameBlind (pT D tI tZ tA tJ av ws sz B) := fun _ U g mk h => ⟨h.1, h.2.1.same (U := U.calling g mk _) rfl, h.2.2.1.moved (U := U.calling g mk _) (State.WarmedH.refl U).alike, h.2.2.2.1, h.2.2.2.2.1, h.2.2.2.2.2⟩
theorem pT.at {D : va_G} {tI tZ tA tJ : ClassId} {av : List Value} {ws : va_W} {B : Prop} {s : State} {H : Heap} {A : Nat → Prop} (hT : TB D tI tZ tA tJ s) (hz : ZS s H) (hB : B) (hP : va_P D vcl ws H) (hD : va_D A ws) : ∀ U : State, U.heap = H → s.WarmedH U.vm → pT D tI tZ tA tJ av ws H.size B av.toArray U := fun U hU hW => ⟨rfl, hT.warm hW, by rw [hU]; exact hz.moved hW.alike, hB, by rw [hU], by rw [hU]; exact hP, hD.weaken (fun _ _ _ _ => trivial)⟩
/-- the statics at this point of the body -/
theorem ZS.on {s : State} {A : Nat → Prop} {H : Heap} {locs : List Loc} (hz : ZS s s.heap) (hS : va_S A s.heap H locs) (hpl : ∀ a, A a → ∀ cell, s.heap[a]? = some cell → cell.vm.isStatics = false) : ZS s H := hz.kept fun a cell hc hs => by
  rw [hS.2.1 a (Array.getElem?_eq_some_iff.mp hc).1 (fun z => by rw [hpl a z cell hc] at hs; cases hs)]
  exact hc
theorem th_end {D : va_G} {cl : List vw_C} {E : String} {ws : va_W} {A : Nat → Prop} {H : Heap} {locs : List Loc} {s : State} {args : Array Value} (hP : va_P D cl ws H) (hD : va_D A ws) (hS : va_S A s.heap H locs) (x : Addr) (t : State) (hx : ob_ex E x s t.heap) (hz : H.size ≤ t.heap.size) (hk : ∀ q : Nat, q < H.size → t.heap[q]? = H[q]?) (_hW : s.WarmedH t.vm) : ob_qT D cl E ws A args s (.threw x) t :=
  ⟨x, rfl, hx, fun k q hq => (hP k q hq).kept (hk q.1 (hP k q hq).lt), hD, Nat.le_trans hS.1 hz, fun q h1 h2 => by rw [hk q (Nat.lt_of_lt_of_le h1 hS.1)]; exact hS.2.1 q h1 h2⟩
theorem th_out {c : Code} {pc : Nat} (h : c.exceptionTable.toList = []) : ∀ y ∈ c.exceptionTable.toList, covers y pc = false := by
  rw [h]
  intro y hy
  cases hy
theorem xN_to {D : va_G} {cl : List vw_C} {ws : va_W} {H : Heap} (h : va_P D cl ws H) : va_P D cl (ws ++ []) H := by rw [List.append_nil]; exact h
theorem xN_of {D : va_G} {cl : List vw_C} {ws : va_W} {H : Heap} (h : va_P D cl (ws ++ []) H) : va_P D cl ws H := by rw [List.append_nil] at h; exact h
theorem xM_to {A : Nat → Prop} {ws : va_W} (h : va_D A ws) : va_D A (ws ++ []) := by rw [List.append_nil]; exact h
theorem xM_of {A : Nat → Prop} {ws : va_W} (h : va_D A (ws ++ [])) : va_D A ws := by rw [List.append_nil] at h; exact h
end
section
theorem xE_D {A : Nat → Prop} : va_D A [] := ⟨fun i j p q h => by simp at h, fun k q h => by simp at h⟩
theorem k_make_no {F S : Nat} {k : KM} (h : (k_make F S k).1 = -1) : (k_make F S k).2 = k ∨ (k_make F S k).2 = (k_getFrame F S k).2 := by
  unfold k_make at h ⊢
  by_cases h1 : k_low (km_pl k) (F + S) 0 = -1
  · rw [if_pos h1]; exact Or.inl rfl
  · rw [if_neg h1] at h ⊢
    by_cases h2 : (k_getFrame F S k).1 = -1
    · rw [if_pos h2]; exact Or.inr rfl
    · rw [if_neg h2] at h
      exact absurd h h1

set_option maxHeartbeats 4000000 in
set_option maxRecDepth 100000 in
/-- t_X_requireProcess -/
theorem t_X_requireProcess (l : Launch) (D : va_G) (tI tZ tA tJ : ClassId) (htr : l.stackTraces = false) (b : Nat → Nat) (F S sz : Nat) (q : KS) (p0 : Int32) : ob_M l y_X_requireProcess w_X_requireProcess ({ frames := 6, cells := 1, slots := 6, locals := 90 }) (pT D tI tZ tA tJ [.ref (b 0), .int p0] (xW b F S tI tZ tA q) sz (m_isP (ks_th q) p0 = 0)) (ob_qT D vcl R_En (xW b F S tI tZ tA q) (va_A (xW b F S tI tZ tA q) sz)) 1 6 (va_A (xW b F S tI tZ tA q) sz) := by
  refine ob_ofW (by decide +kernel) ?_
  intro p e s m args below meth c s₁ B hml htab hv
  obtain ⟨rfl, hT, hz, hq, hsz, hP, hD0⟩ := hv
  have hx := B.exec
  have hb := B.bytes
  have hr := B.returns
  have hlocks := B.notSynchronized
  have hown : s.vm.findClass R_X = some m.cls := findClass_of_methodNamed B.named
  have hl := lv_entry ([.ref (b 0), .int p0]) (n := 2) (Nat.le_of_ble_eq_true rfl)
  rw [lg_entry_eq]
  generalize (lg_sl ([.ref (b 0), .int p0]) ++ List.replicate (2 - (lg_sl ([.ref (b 0), .int p0])).length) Slot.unset).toArray = ls at hl ⊢
  have hl : lv_has ls 2 [(0, .ref (b 0)), (1, .int p0)] := hl
  subst hsz
  have hD := hD0.self (sz := s.heap.size)
  have hpl : ∀ a, va_A (xW b F S tI tZ tA q) s.heap.size a → ∀ cell, s.heap[a]? = some cell → cell.vm.isStatics = false := va_A.plain hP
  generalize hAe : va_A (xW b F S tI tZ tA q) s.heap.size = A at hD hpl ⊢
  have hA : ∀ q : Nat, s.heap.size ≤ q → A q := fun q h => by rw [← hAe]; exact Or.inr h
  have hS : va_S A s.heap s.heap [] := va_S.rf
  refine lv_aload_n hx hb d_X_requireProcess_0 rfl (lv_at hl 0 rfl) ?_
  refine lv_iload_n hx hb d_X_requireProcess_1 rfl (lv_at hl 1 rfl) ?_
  refine ob_callR (v := (some (.int (m_isP (ks_th q) p0)))) (ob_runV (n := 1) (As := [.int p0]) (rest := []) (c_X_isThere l D tI tZ tA tJ b F S q p0) (hT.ok ob_cd_c (by decide +kernel) rfl rfl (Nat.le_of_ble_eq_true rfl) (Nat.le_of_ble_eq_true rfl) kn_X kc_X_isThere) hx hb hml hown (hT.w k_X_120) (hT.w ki_X_isThere) (hT.w kv_X_isThere) (va_recv (q0 := 0) (ci := 0) hT.1 hP rfl rfl) pR.blind (pR.at hT (trivial) hP) rfl rfl hl.1 rfl (lv_room (Nat.le_of_ble_eq_true rfl)) d_X_requireProcess_2 ⟨Nat.le_of_ble_eq_true rfl, Nat.le_of_ble_eq_true rfl⟩) ?_
  refine W.eq (g2 := F0 m 5 ls [.int (m_isP (ks_th q) p0)]) rfl ?_
  refine lv_if_ne (tgt := 18) hx hb d_X_requireProcess_5 (by decide) (fun hc => absurd hq hc) (fun hc => ?_)
  obtain ⟨zt, hzt⟩ := hT.2.2.1 (125, "no such process") (by decide +kernel)
  refine th_throw (E := R_En) (k := 2) (bytes := th_b13) hlocks hx hb (hml.trans hl.1.symm) htr hown (by decide +kernel) (hT.h1 hz) hT.h2 (fun w hw => hT.2.1 w (th_okEn w (List.mem_append_left _ hw)).1 (th_okEn w (List.mem_append_left _ hw)).2 _) hz.h4 (fun hpl => hT.chEn hpl) (hT.w k_X_123) (hT.w kn_En) hzt hS hpl d_X_requireProcess_8 d_X_requireProcess_11 d_X_requireProcess_12 d_X_requireProcess_14 d_X_requireProcess_17 (th_out htab) (Nat.le_of_ble_eq_true rfl) (Nat.le_of_ble_eq_true rfl) (show 2 + 3 < _ from Nat.le_of_ble_eq_true rfl) (Nat.le_of_ble_eq_true rfl) hS.2.2 (th_end hP hD hS)

set_option maxHeartbeats 4000000 in
set_option maxRecDepth 100000 in
/-- t_X_requireAddress -/
theorem t_X_requireAddress (l : Launch) (D : va_G) (tI tZ tA tJ : ClassId) (htr : l.stackTraces = false) (sz : Nat) (a : Int32) : ob_M l y_X_requireAddress w_X_requireAddress ({ frames := 6, cells := 1, slots := 6, locals := 90 }) (pT D tI tZ tA tJ [.int a] ([]) sz (m_isA a = 0)) (ob_qT D vcl R_Ei ([]) (va_A ([]) sz)) 1 6 (va_A ([]) sz) := by
  refine ob_ofW (by decide +kernel) ?_
  intro p e s m args below meth c s₁ B hml htab hv
  obtain ⟨rfl, hT, hz, hq, hsz, hP, hD0⟩ := hv
  have hx := B.exec
  have hb := B.bytes
  have hr := B.returns
  have hlocks := B.notSynchronized
  have hown : s.vm.findClass R_X = some m.cls := findClass_of_methodNamed B.named
  have hl := lv_entry ([.int a]) (n := 1) (Nat.le_of_ble_eq_true rfl)
  rw [lg_entry_eq]
  generalize (lg_sl ([.int a]) ++ List.replicate (1 - (lg_sl ([.int a])).length) Slot.unset).toArray = ls at hl ⊢
  have hl : lv_has ls 1 [(0, .int a)] := hl
  subst hsz
  have hD := hD0.self (sz := s.heap.size)
  have hpl : ∀ a, va_A ([]) s.heap.size a → ∀ cell, s.heap[a]? = some cell → cell.vm.isStatics = false := va_A.plain hP
  generalize hAe : va_A ([]) s.heap.size = A at hD hpl ⊢
  have hA : ∀ q : Nat, s.heap.size ≤ q → A q := fun q h => by rw [← hAe]; exact Or.inr h
  have hS : va_S A s.heap s.heap [] := va_S.rf
  unfold m_isA at hq
  refine lv_iload_n hx hb d_X_requireAddress_0 rfl (lv_at hl 0 rfl) ?_
  refine lv_if_lt (tgt := 10) hx hb d_X_requireAddress_1 (by decide) (fun hc => ?_) (fun hc => ?_)
  · obtain ⟨zt, hzt⟩ := hT.2.2.1 (128, "no such address") (by decide +kernel)
    refine th_throw (E := R_Ei) (k := 2) (bytes := Bundle.six) hlocks hx hb (hml.trans hl.1.symm) htr hown (by decide +kernel) (hT.h1 hz) hT.h2 (fun w hw => hT.2.1 w (th_okEi w (List.mem_append_left _ hw)).1 (th_okEi w (List.mem_append_left _ hw)).2 _) hz.h4 (fun hpl => hT.chS (names := ["java/lang/RuntimeException", "java/lang/Exception"]) (by decide +kernel) (by decide +kernel) (fun w hw => th_okEi w (List.mem_append_right _ hw)) hpl) (hT.w k_X_64) (hT.w kn_Ei) hzt hS hpl d_X_requireAddress_10 d_X_requireAddress_13 d_X_requireAddress_14 d_X_requireAddress_16 d_X_requireAddress_19 (th_out htab) (Nat.le_of_ble_eq_true rfl) (Nat.le_of_ble_eq_true rfl) (show 2 + 3 < _ from Nat.le_of_ble_eq_true rfl) (Nat.le_of_ble_eq_true rfl) hS.2.2 (th_end hP hD hS)
  · rw [if_neg hc] at hq
    refine lv_iload_n hx hb d_X_requireAddress_4 rfl (lv_at hl 0 rfl) ?_
    refine lv_bipush (v := 24) hx hb d_X_requireAddress_5 (by decide) ?_
    refine lv_icmp_lt (tgt := 20) hx hb d_X_requireAddress_7 (by decide) (fun hc => absurd (show (1 : Int32) = 0 by rw [if_neg (Int32.not_le.mpr hc)] at hq; exact hq) (by decide)) (fun hc => ?_)
    obtain ⟨zt, hzt⟩ := hT.2.2.1 (128, "no such address") (by decide +kernel)
    refine th_throw (E := R_Ei) (k := 2) (bytes := Bundle.six) hlocks hx hb (hml.trans hl.1.symm) htr hown (by decide +kernel) (hT.h1 hz) hT.h2 (fun w hw => hT.2.1 w (th_okEi w (List.mem_append_left _ hw)).1 (th_okEi w (List.mem_append_left _ hw)).2 _) hz.h4 (fun hpl => hT.chS (names := ["java/lang/RuntimeException", "java/lang/Exception"]) (by decide +kernel) (by decide +kernel) (fun w hw => th_okEi w (List.mem_append_right _ hw)) hpl) (hT.w k_X_64) (hT.w kn_Ei) hzt hS hpl d_X_requireAddress_10 d_X_requireAddress_13 d_X_requireAddress_14 d_X_requireAddress_16 d_X_requireAddress_19 (th_out htab) (Nat.le_of_ble_eq_true rfl) (Nat.le_of_ble_eq_true rfl) (show 2 + 3 < _ from Nat.le_of_ble_eq_true rfl) (Nat.le_of_ble_eq_true rfl) hS.2.2 (th_end hP hD hS)

set_option maxHeartbeats 4000000 in
set_option maxRecDepth 100000 in
/-- t_X_requireRange -/
theorem t_X_requireRange (l : Launch) (D : va_G) (tI tZ tA tJ : ClassId) (htr : l.stackTraces = false) (sz : Nat) (a n : Int32) : ob_M l y_X_requireRange w_X_requireRange ({ frames := 6, cells := 1, slots := 6, locals := 90 }) (pT D tI tZ tA tJ [.int a, .int n] ([]) sz (k_rng a n = 0)) (ob_qT D vcl R_Ei ([]) (va_A ([]) sz)) 1 6 (va_A ([]) sz) := by
  refine ob_ofW (by decide +kernel) ?_
  intro p e s m args below meth c s₁ B hml htab hv
  obtain ⟨rfl, hT, hz, hq, hsz, hP, hD0⟩ := hv
  have hx := B.exec
  have hb := B.bytes
  have hr := B.returns
  have hlocks := B.notSynchronized
  have hown : s.vm.findClass R_X = some m.cls := findClass_of_methodNamed B.named
  have hl := lv_entry ([.int a, .int n]) (n := 2) (Nat.le_of_ble_eq_true rfl)
  rw [lg_entry_eq]
  generalize (lg_sl ([.int a, .int n]) ++ List.replicate (2 - (lg_sl ([.int a, .int n])).length) Slot.unset).toArray = ls at hl ⊢
  have hl : lv_has ls 2 [(0, .int a), (1, .int n)] := hl
  subst hsz
  have hD := hD0.self (sz := s.heap.size)
  have hpl : ∀ a, va_A ([]) s.heap.size a → ∀ cell, s.heap[a]? = some cell → cell.vm.isStatics = false := va_A.plain hP
  generalize hAe : va_A ([]) s.heap.size = A at hD hpl ⊢
  have hA : ∀ q : Nat, s.heap.size ≤ q → A q := fun q h => by rw [← hAe]; exact Or.inr h
  have hS : va_S A s.heap s.heap [] := va_S.rf
  unfold k_rng at hq
  refine lv_iload_n hx hb d_X_requireRange_0 rfl (lv_at hl 1 rfl) ?_
  refine lv_if_ge (tgt := 14) hx hb d_X_requireRange_1 (by decide) (fun hc => ?_) (fun hc => ?_)
  · rw [if_pos hc] at hq
    refine lv_iload_n hx hb d_X_requireRange_14 rfl (lv_at hl 1 rfl) ?_
    refine lv_if_le (tgt := 46) hx hb d_X_requireRange_15 (by decide) (fun hc => absurd (show (1 : Int32) = 0 by rw [if_pos hc] at hq; exact hq) (by decide)) (fun hc => ?_)
    rw [if_neg hc] at hq
    refine lv_iload_n hx hb d_X_requireRange_18 rfl (lv_at hl 0 rfl) ?_
    refine lv_if_lt (tgt := 36) hx hb d_X_requireRange_19 (by decide) (fun hc => ?_) (fun hc => ?_)
    · obtain ⟨zt, hzt⟩ := hT.2.2.1 (128, "no such address") (by decide +kernel)
      refine th_throw (E := R_Ei) (k := 2) (bytes := Bundle.six) hlocks hx hb (hml.trans hl.1.symm) htr hown (by decide +kernel) (hT.h1 hz) hT.h2 (fun w hw => hT.2.1 w (th_okEi w (List.mem_append_left _ hw)).1 (th_okEi w (List.mem_append_left _ hw)).2 _) hz.h4 (fun hpl => hT.chS (names := ["java/lang/RuntimeException", "java/lang/Exception"]) (by decide +kernel) (by decide +kernel) (fun w hw => th_okEi w (List.mem_append_right _ hw)) hpl) (hT.w k_X_64) (hT.w kn_Ei) hzt hS hpl d_X_requireRange_36 d_X_requireRange_39 d_X_requireRange_40 d_X_requireRange_42 d_X_requireRange_45 (th_out htab) (Nat.le_of_ble_eq_true rfl) (Nat.le_of_ble_eq_true rfl) (show 2 + 3 < _ from Nat.le_of_ble_eq_true rfl) (Nat.le_of_ble_eq_true rfl) hS.2.2 (th_end hP hD hS)
    · rw [if_neg hc] at hq
      refine lv_iload_n hx hb d_X_requireRange_22 rfl (lv_at hl 0 rfl) ?_
      refine lv_bipush (v := 24) hx hb d_X_requireRange_23 (by decide) ?_
      refine lv_icmp_ge (tgt := 36) hx hb d_X_requireRange_25 (by decide) (fun hc => ?_) (fun hc => ?_)
      · obtain ⟨zt, hzt⟩ := hT.2.2.1 (128, "no such address") (by decide +kernel)
        refine th_throw (E := R_Ei) (k := 2) (bytes := Bundle.six) hlocks hx hb (hml.trans hl.1.symm) htr hown (by decide +kernel) (hT.h1 hz) hT.h2 (fun w hw => hT.2.1 w (th_okEi w (List.mem_append_left _ hw)).1 (th_okEi w (List.mem_append_left _ hw)).2 _) hz.h4 (fun hpl => hT.chS (names := ["java/lang/RuntimeException", "java/lang/Exception"]) (by decide +kernel) (by decide +kernel) (fun w hw => th_okEi w (List.mem_append_right _ hw)) hpl) (hT.w k_X_64) (hT.w kn_Ei) hzt hS hpl d_X_requireRange_36 d_X_requireRange_39 d_X_requireRange_40 d_X_requireRange_42 d_X_requireRange_45 (th_out htab) (Nat.le_of_ble_eq_true rfl) (Nat.le_of_ble_eq_true rfl) (show 2 + 3 < _ from Nat.le_of_ble_eq_true rfl) (Nat.le_of_ble_eq_true rfl) hS.2.2 (th_end hP hD hS)
      · rw [if_neg hc] at hq
        refine lv_iload_n hx hb d_X_requireRange_28 rfl (lv_at hl 1 rfl) ?_
        refine lv_bipush (v := 24) hx hb d_X_requireRange_29 (by decide) ?_
        refine lv_iload_n hx hb d_X_requireRange_31 rfl (lv_at hl 0 rfl) ?_
        refine lv_isub hx hb d_X_requireRange_32 ?_
        refine lv_icmp_le (tgt := 46) hx hb d_X_requireRange_33 (by decide) (fun hc => absurd (show (1 : Int32) = 0 by rw [if_pos hc] at hq; exact hq) (by decide)) (fun hc => ?_)
        obtain ⟨zt, hzt⟩ := hT.2.2.1 (128, "no such address") (by decide +kernel)
        refine th_throw (E := R_Ei) (k := 2) (bytes := Bundle.six) hlocks hx hb (hml.trans hl.1.symm) htr hown (by decide +kernel) (hT.h1 hz) hT.h2 (fun w hw => hT.2.1 w (th_okEi w (List.mem_append_left _ hw)).1 (th_okEi w (List.mem_append_left _ hw)).2 _) hz.h4 (fun hpl => hT.chS (names := ["java/lang/RuntimeException", "java/lang/Exception"]) (by decide +kernel) (by decide +kernel) (fun w hw => th_okEi w (List.mem_append_right _ hw)) hpl) (hT.w k_X_64) (hT.w kn_Ei) hzt hS hpl d_X_requireRange_36 d_X_requireRange_39 d_X_requireRange_40 d_X_requireRange_42 d_X_requireRange_45 (th_out htab) (Nat.le_of_ble_eq_true rfl) (Nat.le_of_ble_eq_true rfl) (show 2 + 3 < _ from Nat.le_of_ble_eq_true rfl) (Nat.le_of_ble_eq_true rfl) hS.2.2 (th_end hP hD hS)
  · obtain ⟨zt, hzt⟩ := hT.2.2.1 (130, "fewer words than none") (by decide +kernel)
    refine th_throw (E := R_Ei) (k := 2) (bytes := Bundle.six) hlocks hx hb (hml.trans hl.1.symm) htr hown (by decide +kernel) (hT.h1 hz) hT.h2 (fun w hw => hT.2.1 w (th_okEi w (List.mem_append_left _ hw)).1 (th_okEi w (List.mem_append_left _ hw)).2 _) hz.h4 (fun hpl => hT.chS (names := ["java/lang/RuntimeException", "java/lang/Exception"]) (by decide +kernel) (by decide +kernel) (fun w hw => th_okEi w (List.mem_append_right _ hw)) hpl) (hT.w k_X_64) (hT.w kn_Ei) hzt hS hpl d_X_requireRange_4 d_X_requireRange_7 d_X_requireRange_8 d_X_requireRange_10 d_X_requireRange_13 (th_out htab) (Nat.le_of_ble_eq_true rfl) (Nat.le_of_ble_eq_true rfl) (show 2 + 3 < _ from Nat.le_of_ble_eq_true rfl) (Nat.le_of_ble_eq_true rfl) hS.2.2 (th_end hP hD hS)

set_option maxHeartbeats 4000000 in
set_option maxRecDepth 100000 in
/-- t_X_spawn -/
theorem t_X_spawn (l : Launch) (D : va_G) (tI tZ tA tJ : ClassId) (htr : l.stackTraces = false) (b : Nat → Nat) (F S sz : Nat) (q : KS)  : ob_M l y_X_spawn w_X_spawn ({ frames := 6, cells := 1, slots := 6, locals := 90 }) (pT D tI tZ tA tJ [.ref (b 0)] (xW b F S tI tZ tA q) sz (m_lowP (ks_th q) 6 0 = -1)) (ob_qT D vcl R_Es (xW b F S tI tZ tA q) (va_A (xW b F S tI tZ tA q) sz)) 1 6 (va_A (xW b F S tI tZ tA q) sz) := by
  refine ob_ofW (by decide +kernel) ?_
  intro p e s m args below meth c s₁ B hml htab hv
  obtain ⟨rfl, hT, hz, hq, hsz, hP, hD0⟩ := hv
  have hx := B.exec
  have hb := B.bytes
  have hr := B.returns
  have hlocks := B.notSynchronized
  have hown : s.vm.findClass R_X = some m.cls := findClass_of_methodNamed B.named
  have hl := lv_entry ([.ref (b 0)]) (n := 2) (Nat.le_of_ble_eq_true rfl)
  rw [lg_entry_eq]
  generalize (lg_sl ([.ref (b 0)]) ++ List.replicate (2 - (lg_sl ([.ref (b 0)])).length) Slot.unset).toArray = ls at hl ⊢
  have hl : lv_has ls 2 [(0, .ref (b 0))] := hl
  subst hsz
  have hD := hD0.self (sz := s.heap.size)
  have hpl : ∀ a, va_A (xW b F S tI tZ tA q) s.heap.size a → ∀ cell, s.heap[a]? = some cell → cell.vm.isStatics = false := va_A.plain hP
  generalize hAe : va_A (xW b F S tI tZ tA q) s.heap.size = A at hD hpl ⊢
  have hA : ∀ q : Nat, s.heap.size ≤ q → A q := fun q h => by rw [← hAe]; exact Or.inr h
  have hS : va_S A s.heap s.heap [] := va_S.rf
  refine lv_aload_n hx hb d_X_spawn_0 rfl (lv_at hl 0 rfl) ?_
  refine ob_callR (v := (some (.int (m_lowP (ks_th q) 6 0)))) (ob_runV (n := 0) (As := []) (rest := []) (c_X_lowestNotThere l D tI tZ tA tJ b F S q) (hT.ok ob_cd_c (by decide +kernel) rfl rfl (Nat.le_of_ble_eq_true rfl) (Nat.le_of_ble_eq_true rfl) kn_X kc_X_lowestNotThere) hx hb hml hown (hT.w k_X_42) (hT.w ki_X_lowestNotThere) (hT.w kv_X_lowestNotThere) (va_recv (q0 := 0) (ci := 0) hT.1 hP rfl rfl) pR.blind (pR.at hT (trivial) hP) rfl rfl hl.1 rfl (lv_room (Nat.le_of_ble_eq_true rfl)) d_X_spawn_1 ⟨Nat.le_of_ble_eq_true rfl, Nat.le_of_ble_eq_true rfl⟩) ?_
  refine W.eq (g2 := F0 m 4 ls [.int (m_lowP (ks_th q) 6 0)]) rfl ?_
  refine lv_istore_n (lv' := [(1, .int (m_lowP (ks_th q) 6 0)), (0, .ref (b 0))]) hx hb d_X_spawn_4 rfl hl (by decide) rfl (fun ls hl => ?_)
  refine lv_iload_n hx hb d_X_spawn_5 rfl (lv_at hl 0 rfl) ?_
  refine lv_iconst (v := -1) hx hb d_X_spawn_6 (by decide) ?_
  refine lv_icmp_ne (tgt := 20) hx hb d_X_spawn_7 (by decide) (fun hc => absurd hq hc) (fun hc => ?_)
  obtain ⟨zt, hzt⟩ := hT.2.2.1 (48, "all processes are there") (by decide +kernel)
  refine th_throw (E := R_Es) (k := 2) (bytes := Bundle.six) hlocks hx hb (hml.trans hl.1.symm) htr hown (by decide +kernel) (hT.h1 hz) hT.h2 (fun w hw => hT.2.1 w (th_okEs w (List.mem_append_left _ hw)).1 (th_okEs w (List.mem_append_left _ hw)).2 _) hz.h4 (fun hpl => hT.chS (names := ["java/lang/RuntimeException", "java/lang/Exception"]) (by decide +kernel) (by decide +kernel) (fun w hw => th_okEs w (List.mem_append_right _ hw)) hpl) (hT.w k_X_46) (hT.w kn_Es) hzt hS hpl d_X_spawn_10 d_X_spawn_13 d_X_spawn_14 d_X_spawn_16 d_X_spawn_19 (th_out htab) (Nat.le_of_ble_eq_true rfl) (Nat.le_of_ble_eq_true rfl) (show 2 + 3 < _ from Nat.le_of_ble_eq_true rfl) (Nat.le_of_ble_eq_true rfl) hS.2.2 (th_end hP hD hS)

set_option maxHeartbeats 4000000 in
set_option maxRecDepth 100000 in
/-- t_X_fork1 -/
theorem t_X_fork1 (l : Launch) (D : va_G) (tI tZ tA tJ : ClassId) (htr : l.stackTraces = false) (b : Nat → Nat) (F S sz : Nat) (q : KS) (p0 : Int32) : ob_M l y_X_fork w_X_fork ({ frames := 7, cells := 1, slots := 6, locals := 111 }) (pT D tI tZ tA tJ [.ref (b 0), .int p0] (xW b F S tI tZ tA q) sz (m_isP (ks_th q) p0 = 0)) (ob_qT D vcl R_En (xW b F S tI tZ tA q) (va_A (xW b F S tI tZ tA q) sz)) 1 6 (va_A (xW b F S tI tZ tA q) sz) := by
  refine ob_ofW (by decide +kernel) ?_
  intro p e s m args below meth c s₁ B hml htab hv
  obtain ⟨rfl, hT, hz, hq, hsz, hP, hD0⟩ := hv
  have hx := B.exec
  have hb := B.bytes
  have hr := B.returns
  have hlocks := B.notSynchronized
  have hown : s.vm.findClass R_X = some m.cls := findClass_of_methodNamed B.named
  have hl := lv_entry ([.ref (b 0), .int p0]) (n := 5) (Nat.le_of_ble_eq_true rfl)
  rw [lg_entry_eq]
  generalize (lg_sl ([.ref (b 0), .int p0]) ++ List.replicate (5 - (lg_sl ([.ref (b 0), .int p0])).length) Slot.unset).toArray = ls at hl ⊢
  have hl : lv_has ls 5 [(0, .ref (b 0)), (1, .int p0)] := hl
  subst hsz
  have hD := hD0.self (sz := s.heap.size)
  have hpl : ∀ a, va_A (xW b F S tI tZ tA q) s.heap.size a → ∀ cell, s.heap[a]? = some cell → cell.vm.isStatics = false := va_A.plain hP
  generalize hAe : va_A (xW b F S tI tZ tA q) s.heap.size = A at hD hpl ⊢
  have hA : ∀ q : Nat, s.heap.size ≤ q → A q := fun q h => by rw [← hAe]; exact Or.inr h
  have hS : va_S A s.heap s.heap [] := va_S.rf
  refine lv_aload_n hx hb d_X_fork_0 rfl (lv_at hl 0 rfl) ?_
  refine lv_iload_n hx hb d_X_fork_1 rfl (lv_at hl 1 rfl) ?_
  refine ob_callT (E := R_En) (X := []) (M := xW b F S tI tZ tA q) (M' := xW b F S tI tZ tA q) (ob_runV (n := 1) (As := [.int p0]) (rest := []) (t_X_requireProcess l D tI tZ tA tJ htr b F S s.heap.size q p0) (hT.ok ob_cd_c (by decide +kernel) rfl rfl (Nat.le_of_ble_eq_true rfl) (Nat.le_of_ble_eq_true rfl) kn_X kc_X_requireProcess) hx hb hml hown (hT.w k_X_53) (hT.w ki_X_requireProcess) (hT.w kv_X_requireProcess) (va_recv (q0 := 0) (ci := 0) hT.1 hP rfl rfl) pT.blind (pT.at hT (hz.on hS hpl) (hq) hP hD) rfl rfl hl.1 rfl (lv_room (Nat.le_of_ble_eq_true rfl)) d_X_fork_2 ⟨Nat.le_of_ble_eq_true rfl, Nat.le_of_ble_eq_true rfl⟩) hP hD hS hA (fun x H locs hex hP hD hS => ?_)
  exact ob_leave hlocks (th_out htab) (fun t ht hW => ⟨x, rfl, by rw [ht]; exact hex, by rw [ht]; exact hP, hD, hS.F ht⟩) hS.2.2

set_option maxHeartbeats 4000000 in
set_option maxRecDepth 100000 in
/-- t_X_exit1 -/
theorem t_X_exit1 (l : Launch) (D : va_G) (tI tZ tA tJ : ClassId) (htr : l.stackTraces = false) (b : Nat → Nat) (F S sz : Nat) (q : KS) (p0 : Int32) : ob_M l y_X_exit w_X_exit ({ frames := 7, cells := 1, slots := 6, locals := 111 }) (pT D tI tZ tA tJ [.ref (b 0), .int p0] (xW b F S tI tZ tA q) sz (m_isP (ks_th q) p0 = 0)) (ob_qT D vcl R_En (xW b F S tI tZ tA q) (va_A (xW b F S tI tZ tA q) sz)) 1 6 (va_A (xW b F S tI tZ tA q) sz) := by
  refine ob_ofW (by decide +kernel) ?_
  intro p e s m args below meth c s₁ B hml htab hv
  obtain ⟨rfl, hT, hz, hq, hsz, hP, hD0⟩ := hv
  have hx := B.exec
  have hb := B.bytes
  have hr := B.returns
  have hlocks := B.notSynchronized
  have hown : s.vm.findClass R_X = some m.cls := findClass_of_methodNamed B.named
  have hl := lv_entry ([.ref (b 0), .int p0]) (n := 4) (Nat.le_of_ble_eq_true rfl)
  rw [lg_entry_eq]
  generalize (lg_sl ([.ref (b 0), .int p0]) ++ List.replicate (4 - (lg_sl ([.ref (b 0), .int p0])).length) Slot.unset).toArray = ls at hl ⊢
  have hl : lv_has ls 4 [(0, .ref (b 0)), (1, .int p0)] := hl
  subst hsz
  have hD := hD0.self (sz := s.heap.size)
  have hpl : ∀ a, va_A (xW b F S tI tZ tA q) s.heap.size a → ∀ cell, s.heap[a]? = some cell → cell.vm.isStatics = false := va_A.plain hP
  generalize hAe : va_A (xW b F S tI tZ tA q) s.heap.size = A at hD hpl ⊢
  have hA : ∀ q : Nat, s.heap.size ≤ q → A q := fun q h => by rw [← hAe]; exact Or.inr h
  have hS : va_S A s.heap s.heap [] := va_S.rf
  refine lv_aload_n hx hb d_X_exit_0 rfl (lv_at hl 0 rfl) ?_
  refine lv_iload_n hx hb d_X_exit_1 rfl (lv_at hl 1 rfl) ?_
  refine ob_callT (E := R_En) (X := []) (M := xW b F S tI tZ tA q) (M' := xW b F S tI tZ tA q) (ob_runV (n := 1) (As := [.int p0]) (rest := []) (t_X_requireProcess l D tI tZ tA tJ htr b F S s.heap.size q p0) (hT.ok ob_cd_c (by decide +kernel) rfl rfl (Nat.le_of_ble_eq_true rfl) (Nat.le_of_ble_eq_true rfl) kn_X kc_X_requireProcess) hx hb hml hown (hT.w k_X_53) (hT.w ki_X_requireProcess) (hT.w kv_X_requireProcess) (va_recv (q0 := 0) (ci := 0) hT.1 hP rfl rfl) pT.blind (pT.at hT (hz.on hS hpl) (hq) hP hD) rfl rfl hl.1 rfl (lv_room (Nat.le_of_ble_eq_true rfl)) d_X_exit_2 ⟨Nat.le_of_ble_eq_true rfl, Nat.le_of_ble_eq_true rfl⟩) hP hD hS hA (fun x H locs hex hP hD hS => ?_)
  exact ob_leave hlocks (th_out htab) (fun t ht hW => ⟨x, rfl, by rw [ht]; exact hex, by rw [ht]; exact hP, hD, hS.F ht⟩) hS.2.2

set_option maxHeartbeats 4000000 in
set_option maxRecDepth 100000 in
/-- t_X_drop1 -/
theorem t_X_drop1 (l : Launch) (D : va_G) (tI tZ tA tJ : ClassId) (htr : l.stackTraces = false) (b : Nat → Nat) (F S sz : Nat) (q : KS) (p0 x : Int32) : ob_M l y_X_drop w_X_drop ({ frames := 7, cells := 1, slots := 6, locals := 111 }) (pT D tI tZ tA tJ [.ref (b 0), .int p0, .int x] (xW b F S tI tZ tA q) sz (m_isP (ks_th q) p0 = 0)) (ob_qT D vcl R_En (xW b F S tI tZ tA q) (va_A (xW b F S tI tZ tA q) sz)) 1 6 (va_A (xW b F S tI tZ tA q) sz) := by
  refine ob_ofW (by decide +kernel) ?_
  intro p e s m args below meth c s₁ B hml htab hv
  obtain ⟨rfl, hT, hz, hq, hsz, hP, hD0⟩ := hv
  have hx := B.exec
  have hb := B.bytes
  have hr := B.returns
  have hlocks := B.notSynchronized
  have hown : s.vm.findClass R_X = some m.cls := findClass_of_methodNamed B.named
  have hl := lv_entry ([.ref (b 0), .int p0, .int x]) (n := 3) (Nat.le_of_ble_eq_true rfl)
  rw [lg_entry_eq]
  generalize (lg_sl ([.ref (b 0), .int p0, .int x]) ++ List.replicate (3 - (lg_sl ([.ref (b 0), .int p0, .int x])).length) Slot.unset).toArray = ls at hl ⊢
  have hl : lv_has ls 3 [(0, .ref (b 0)), (1, .int p0), (2, .int x)] := hl
  subst hsz
  have hD := hD0.self (sz := s.heap.size)
  have hpl : ∀ a, va_A (xW b F S tI tZ tA q) s.heap.size a → ∀ cell, s.heap[a]? = some cell → cell.vm.isStatics = false := va_A.plain hP
  generalize hAe : va_A (xW b F S tI tZ tA q) s.heap.size = A at hD hpl ⊢
  have hA : ∀ q : Nat, s.heap.size ≤ q → A q := fun q h => by rw [← hAe]; exact Or.inr h
  have hS : va_S A s.heap s.heap [] := va_S.rf
  refine lv_aload_n hx hb d_X_drop_0 rfl (lv_at hl 0 rfl) ?_
  refine lv_iload_n hx hb d_X_drop_1 rfl (lv_at hl 1 rfl) ?_
  refine ob_callT (E := R_En) (X := []) (M := xW b F S tI tZ tA q) (M' := xW b F S tI tZ tA q) (ob_runV (n := 1) (As := [.int p0]) (rest := []) (t_X_requireProcess l D tI tZ tA tJ htr b F S s.heap.size q p0) (hT.ok ob_cd_c (by decide +kernel) rfl rfl (Nat.le_of_ble_eq_true rfl) (Nat.le_of_ble_eq_true rfl) kn_X kc_X_requireProcess) hx hb hml hown (hT.w k_X_53) (hT.w ki_X_requireProcess) (hT.w kv_X_requireProcess) (va_recv (q0 := 0) (ci := 0) hT.1 hP rfl rfl) pT.blind (pT.at hT (hz.on hS hpl) (hq) hP hD) rfl rfl hl.1 rfl (lv_room (Nat.le_of_ble_eq_true rfl)) d_X_drop_2 ⟨Nat.le_of_ble_eq_true rfl, Nat.le_of_ble_eq_true rfl⟩) hP hD hS hA (fun x H locs hex hP hD hS => ?_)
  exact ob_leave hlocks (th_out htab) (fun t ht hW => ⟨x, rfl, by rw [ht]; exact hex, by rw [ht]; exact hP, hD, hS.F ht⟩) hS.2.2

set_option maxHeartbeats 4000000 in
set_option maxRecDepth 100000 in
/-- t_X_load1 -/
theorem t_X_load1 (l : Launch) (D : va_G) (tI tZ tA tJ : ClassId) (htr : l.stackTraces = false) (b : Nat → Nat) (F S sz : Nat) (q : KS) (p0 a : Int32) : ob_M l y_X_load w_X_load ({ frames := 7, cells := 1, slots := 6, locals := 111 }) (pT D tI tZ tA tJ [.ref (b 0), .int p0, .int a] (xW b F S tI tZ tA q) sz (m_isP (ks_th q) p0 = 0)) (ob_qT D vcl R_En (xW b F S tI tZ tA q) (va_A (xW b F S tI tZ tA q) sz)) 1 6 (va_A (xW b F S tI tZ tA q) sz) := by
  refine ob_ofW (by decide +kernel) ?_
  intro p e s m args below meth c s₁ B hml htab hv
  obtain ⟨rfl, hT, hz, hq, hsz, hP, hD0⟩ := hv
  have hx := B.exec
  have hb := B.bytes
  have hr := B.returns
  have hlocks := B.notSynchronized
  have hown : s.vm.findClass R_X = some m.cls := findClass_of_methodNamed B.named
  have hl := lv_entry ([.ref (b 0), .int p0, .int a]) (n := 3) (Nat.le_of_ble_eq_true rfl)
  rw [lg_entry_eq]
  generalize (lg_sl ([.ref (b 0), .int p0, .int a]) ++ List.replicate (3 - (lg_sl ([.ref (b 0), .int p0, .int a])).length) Slot.unset).toArray = ls at hl ⊢
  have hl : lv_has ls 3 [(0, .ref (b 0)), (1, .int p0), (2, .int a)] := hl
  subst hsz
  have hD := hD0.self (sz := s.heap.size)
  have hpl : ∀ a, va_A (xW b F S tI tZ tA q) s.heap.size a → ∀ cell, s.heap[a]? = some cell → cell.vm.isStatics = false := va_A.plain hP
  generalize hAe : va_A (xW b F S tI tZ tA q) s.heap.size = A at hD hpl ⊢
  have hA : ∀ q : Nat, s.heap.size ≤ q → A q := fun q h => by rw [← hAe]; exact Or.inr h
  have hS : va_S A s.heap s.heap [] := va_S.rf
  refine lv_aload_n hx hb d_X_load_0 rfl (lv_at hl 0 rfl) ?_
  refine lv_iload_n hx hb d_X_load_1 rfl (lv_at hl 1 rfl) ?_
  refine ob_callT (E := R_En) (X := []) (M := xW b F S tI tZ tA q) (M' := xW b F S tI tZ tA q) (ob_runV (n := 1) (As := [.int p0]) (rest := []) (t_X_requireProcess l D tI tZ tA tJ htr b F S s.heap.size q p0) (hT.ok ob_cd_c (by decide +kernel) rfl rfl (Nat.le_of_ble_eq_true rfl) (Nat.le_of_ble_eq_true rfl) kn_X kc_X_requireProcess) hx hb hml hown (hT.w k_X_53) (hT.w ki_X_requireProcess) (hT.w kv_X_requireProcess) (va_recv (q0 := 0) (ci := 0) hT.1 hP rfl rfl) pT.blind (pT.at hT (hz.on hS hpl) (hq) hP hD) rfl rfl hl.1 rfl (lv_room (Nat.le_of_ble_eq_true rfl)) d_X_load_2 ⟨Nat.le_of_ble_eq_true rfl, Nat.le_of_ble_eq_true rfl⟩) hP hD hS hA (fun x H locs hex hP hD hS => ?_)
  exact ob_leave hlocks (th_out htab) (fun t ht hW => ⟨x, rfl, by rw [ht]; exact hex, by rw [ht]; exact hP, hD, hS.F ht⟩) hS.2.2

set_option maxHeartbeats 4000000 in
set_option maxRecDepth 100000 in
/-- t_X_store1 -/
theorem t_X_store1 (l : Launch) (D : va_G) (tI tZ tA tJ : ClassId) (htr : l.stackTraces = false) (b : Nat → Nat) (F S sz : Nat) (q : KS) (p0 a v : Int32) : ob_M l y_X_store w_X_store ({ frames := 7, cells := 1, slots := 6, locals := 111 }) (pT D tI tZ tA tJ [.ref (b 0), .int p0, .int a, .int v] (xW b F S tI tZ tA q) sz (m_isP (ks_th q) p0 = 0)) (ob_qT D vcl R_En (xW b F S tI tZ tA q) (va_A (xW b F S tI tZ tA q) sz)) 1 6 (va_A (xW b F S tI tZ tA q) sz) := by
  refine ob_ofW (by decide +kernel) ?_
  intro p e s m args below meth c s₁ B hml htab hv
  obtain ⟨rfl, hT, hz, hq, hsz, hP, hD0⟩ := hv
  have hx := B.exec
  have hb := B.bytes
  have hr := B.returns
  have hlocks := B.notSynchronized
  have hown : s.vm.findClass R_X = some m.cls := findClass_of_methodNamed B.named
  have hl := lv_entry ([.ref (b 0), .int p0, .int a, .int v]) (n := 4) (Nat.le_of_ble_eq_true rfl)
  rw [lg_entry_eq]
  generalize (lg_sl ([.ref (b 0), .int p0, .int a, .int v]) ++ List.replicate (4 - (lg_sl ([.ref (b 0), .int p0, .int a, .int v])).length) Slot.unset).toArray = ls at hl ⊢
  have hl : lv_has ls 4 [(0, .ref (b 0)), (1, .int p0), (2, .int a), (3, .int v)] := hl
  subst hsz
  have hD := hD0.self (sz := s.heap.size)
  have hpl : ∀ a, va_A (xW b F S tI tZ tA q) s.heap.size a → ∀ cell, s.heap[a]? = some cell → cell.vm.isStatics = false := va_A.plain hP
  generalize hAe : va_A (xW b F S tI tZ tA q) s.heap.size = A at hD hpl ⊢
  have hA : ∀ q : Nat, s.heap.size ≤ q → A q := fun q h => by rw [← hAe]; exact Or.inr h
  have hS : va_S A s.heap s.heap [] := va_S.rf
  refine lv_aload_n hx hb d_X_store_0 rfl (lv_at hl 0 rfl) ?_
  refine lv_iload_n hx hb d_X_store_1 rfl (lv_at hl 1 rfl) ?_
  refine ob_callT (E := R_En) (X := []) (M := xW b F S tI tZ tA q) (M' := xW b F S tI tZ tA q) (ob_runV (n := 1) (As := [.int p0]) (rest := []) (t_X_requireProcess l D tI tZ tA tJ htr b F S s.heap.size q p0) (hT.ok ob_cd_c (by decide +kernel) rfl rfl (Nat.le_of_ble_eq_true rfl) (Nat.le_of_ble_eq_true rfl) kn_X kc_X_requireProcess) hx hb hml hown (hT.w k_X_53) (hT.w ki_X_requireProcess) (hT.w kv_X_requireProcess) (va_recv (q0 := 0) (ci := 0) hT.1 hP rfl rfl) pT.blind (pT.at hT (hz.on hS hpl) (hq) hP hD) rfl rfl hl.1 rfl (lv_room (Nat.le_of_ble_eq_true rfl)) d_X_store_2 ⟨Nat.le_of_ble_eq_true rfl, Nat.le_of_ble_eq_true rfl⟩) hP hD hS hA (fun x H locs hex hP hD hS => ?_)
  exact ob_leave hlocks (th_out htab) (fun t ht hW => ⟨x, rfl, by rw [ht]; exact hex, by rw [ht]; exact hP, hD, hS.F ht⟩) hS.2.2

set_option maxHeartbeats 4000000 in
set_option maxRecDepth 100000 in
/-- t_X_copy1 -/
theorem t_X_copy1 (l : Launch) (D : va_G) (tI tZ tA tJ : ClassId) (htr : l.stackTraces = false) (b : Nat → Nat) (F S sz : Nat) (q : KS) (p0 a d n : Int32) : ob_M l y_X_copy w_X_copy ({ frames := 7, cells := 1, slots := 6, locals := 111 }) (pT D tI tZ tA tJ [.ref (b 0), .int p0, .int a, .int d, .int n] (xW b F S tI tZ tA q) sz (m_isP (ks_th q) p0 = 0)) (ob_qT D vcl R_En (xW b F S tI tZ tA q) (va_A (xW b F S tI tZ tA q) sz)) 1 6 (va_A (xW b F S tI tZ tA q) sz) := by
  refine ob_ofW (by decide +kernel) ?_
  intro p e s m args below meth c s₁ B hml htab hv
  obtain ⟨rfl, hT, hz, hq, hsz, hP, hD0⟩ := hv
  have hx := B.exec
  have hb := B.bytes
  have hr := B.returns
  have hlocks := B.notSynchronized
  have hown : s.vm.findClass R_X = some m.cls := findClass_of_methodNamed B.named
  have hl := lv_entry ([.ref (b 0), .int p0, .int a, .int d, .int n]) (n := 6) (Nat.le_of_ble_eq_true rfl)
  rw [lg_entry_eq]
  generalize (lg_sl ([.ref (b 0), .int p0, .int a, .int d, .int n]) ++ List.replicate (6 - (lg_sl ([.ref (b 0), .int p0, .int a, .int d, .int n])).length) Slot.unset).toArray = ls at hl ⊢
  have hl : lv_has ls 6 [(0, .ref (b 0)), (1, .int p0), (2, .int a), (3, .int d), (4, .int n)] := hl
  subst hsz
  have hD := hD0.self (sz := s.heap.size)
  have hpl : ∀ a, va_A (xW b F S tI tZ tA q) s.heap.size a → ∀ cell, s.heap[a]? = some cell → cell.vm.isStatics = false := va_A.plain hP
  generalize hAe : va_A (xW b F S tI tZ tA q) s.heap.size = A at hD hpl ⊢
  have hA : ∀ q : Nat, s.heap.size ≤ q → A q := fun q h => by rw [← hAe]; exact Or.inr h
  have hS : va_S A s.heap s.heap [] := va_S.rf
  refine lv_aload_n hx hb d_X_copy_0 rfl (lv_at hl 0 rfl) ?_
  refine lv_iload_n hx hb d_X_copy_1 rfl (lv_at hl 1 rfl) ?_
  refine ob_callT (E := R_En) (X := []) (M := xW b F S tI tZ tA q) (M' := xW b F S tI tZ tA q) (ob_runV (n := 1) (As := [.int p0]) (rest := []) (t_X_requireProcess l D tI tZ tA tJ htr b F S s.heap.size q p0) (hT.ok ob_cd_c (by decide +kernel) rfl rfl (Nat.le_of_ble_eq_true rfl) (Nat.le_of_ble_eq_true rfl) kn_X kc_X_requireProcess) hx hb hml hown (hT.w k_X_53) (hT.w ki_X_requireProcess) (hT.w kv_X_requireProcess) (va_recv (q0 := 0) (ci := 0) hT.1 hP rfl rfl) pT.blind (pT.at hT (hz.on hS hpl) (hq) hP hD) rfl rfl hl.1 rfl (lv_room (Nat.le_of_ble_eq_true rfl)) d_X_copy_2 ⟨Nat.le_of_ble_eq_true rfl, Nat.le_of_ble_eq_true rfl⟩) hP hD hS hA (fun x H locs hex hP hD hS => ?_)
  exact ob_leave hlocks (th_out htab) (fun t ht hW => ⟨x, rfl, by rw [ht]; exact hex, by rw [ht]; exact hP, hD, hS.F ht⟩) hS.2.2

set_option maxHeartbeats 4000000 in
set_option maxRecDepth 100000 in
/-- t_X_fork2 -/
theorem t_X_fork2 (l : Launch) (D : va_G) (tI tZ tA tJ : ClassId) (htr : l.stackTraces = false) (b : Nat → Nat) (F S sz : Nat) (q : KS) (p0 : Int32) : ob_M l y_X_fork w_X_fork ({ frames := 6, cells := 1, slots := 6, locals := 90 }) (pT D tI tZ tA tJ [.ref (b 0), .int p0] (xW b F S tI tZ tA q) sz (¬ m_isP (ks_th q) p0 = 0 ∧ m_lowP (ks_th q) 6 0 = -1)) (ob_qT D vcl R_Es (xW b F S tI tZ tA q) (va_A (xW b F S tI tZ tA q) sz)) 1 6 (va_A (xW b F S tI tZ tA q) sz) := by
  refine ob_ofW (by decide +kernel) ?_
  intro p e s m args below meth c s₁ B hml htab hv
  obtain ⟨rfl, hT, hz, ⟨hpr, hq⟩, hsz, hP, hD0⟩ := hv
  have hx := B.exec
  have hb := B.bytes
  have hr := B.returns
  have hlocks := B.notSynchronized
  have hown : s.vm.findClass R_X = some m.cls := findClass_of_methodNamed B.named
  have hl := lv_entry ([.ref (b 0), .int p0]) (n := 5) (Nat.le_of_ble_eq_true rfl)
  rw [lg_entry_eq]
  generalize (lg_sl ([.ref (b 0), .int p0]) ++ List.replicate (5 - (lg_sl ([.ref (b 0), .int p0])).length) Slot.unset).toArray = ls at hl ⊢
  have hl : lv_has ls 5 [(0, .ref (b 0)), (1, .int p0)] := hl
  subst hsz
  have hD := hD0.self (sz := s.heap.size)
  have hpl : ∀ a, va_A (xW b F S tI tZ tA q) s.heap.size a → ∀ cell, s.heap[a]? = some cell → cell.vm.isStatics = false := va_A.plain hP
  generalize hAe : va_A (xW b F S tI tZ tA q) s.heap.size = A at hD hpl ⊢
  have hA : ∀ q : Nat, s.heap.size ≤ q → A q := fun q h => by rw [← hAe]; exact Or.inr h
  have hS : va_S A s.heap s.heap [] := va_S.rf
  refine lv_aload_n hx hb d_X_fork_0 rfl (lv_at hl 0 rfl) ?_
  refine lv_iload_n hx hb d_X_fork_1 rfl (lv_at hl 1 rfl) ?_
  refine ob_callR (v := none) (ob_runV (n := 1) (As := [.int p0]) (rest := []) (c_X_requireProcess l D tI tZ tA tJ b F S q p0) (hT.ok ob_cd_c (by decide +kernel) rfl rfl (Nat.le_of_ble_eq_true rfl) (Nat.le_of_ble_eq_true rfl) kn_X kc_X_requireProcess) hx hb hml hown (hT.w k_X_53) (hT.w ki_X_requireProcess) (hT.w kv_X_requireProcess) (va_recv (q0 := 0) (ci := 0) hT.1 hP rfl rfl) pR.blind (pR.at hT (hpr) hP) rfl rfl hl.1 rfl (lv_room (Nat.le_of_ble_eq_true rfl)) d_X_fork_2 ⟨Nat.le_of_ble_eq_true rfl, Nat.le_of_ble_eq_true rfl⟩) ?_
  refine W.eq (g2 := F0 m 5 ls []) rfl ?_
  refine lv_aload_n hx hb d_X_fork_5 rfl (lv_at hl 0 rfl) ?_
  refine ob_callR (v := (some (.int (m_lowP (ks_th q) 6 0)))) (ob_runV (n := 0) (As := []) (rest := []) (c_X_lowestNotThere l D tI tZ tA tJ b F S q) (hT.ok ob_cd_c (by decide +kernel) rfl rfl (Nat.le_of_ble_eq_true rfl) (Nat.le_of_ble_eq_true rfl) kn_X kc_X_lowestNotThere) hx hb hml hown (hT.w k_X_42) (hT.w ki_X_lowestNotThere) (hT.w kv_X_lowestNotThere) (va_recv (q0 := 0) (ci := 0) hT.1 hP rfl rfl) pR.blind (pR.at hT (trivial) hP) rfl rfl hl.1 rfl (lv_room (Nat.le_of_ble_eq_true rfl)) d_X_fork_6 ⟨Nat.le_of_ble_eq_true rfl, Nat.le_of_ble_eq_true rfl⟩) ?_
  refine W.eq (g2 := F0 m 9 ls [.int (m_lowP (ks_th q) 6 0)]) rfl ?_
  refine lv_istore_n (lv' := [(2, .int (m_lowP (ks_th q) 6 0)), (0, .ref (b 0)), (1, .int p0)]) hx hb d_X_fork_9 rfl hl (by decide) rfl (fun ls hl => ?_)
  refine lv_iload_n hx hb d_X_fork_10 rfl (lv_at hl 0 rfl) ?_
  refine lv_iconst (v := -1) hx hb d_X_fork_11 (by decide) ?_
  refine lv_icmp_ne (tgt := 25) hx hb d_X_fork_12 (by decide) (fun hc => absurd hq hc) (fun hc => ?_)
  obtain ⟨zt, hzt⟩ := hT.2.2.1 (48, "all processes are there") (by decide +kernel)
  refine th_throw (E := R_Es) (k := 2) (bytes := Bundle.six) hlocks hx hb (hml.trans hl.1.symm) htr hown (by decide +kernel) (hT.h1 hz) hT.h2 (fun w hw => hT.2.1 w (th_okEs w (List.mem_append_left _ hw)).1 (th_okEs w (List.mem_append_left _ hw)).2 _) hz.h4 (fun hpl => hT.chS (names := ["java/lang/RuntimeException", "java/lang/Exception"]) (by decide +kernel) (by decide +kernel) (fun w hw => th_okEs w (List.mem_append_right _ hw)) hpl) (hT.w k_X_46) (hT.w kn_Es) hzt hS hpl d_X_fork_15 d_X_fork_18 d_X_fork_19 d_X_fork_21 d_X_fork_24 (th_out htab) (Nat.le_of_ble_eq_true rfl) (Nat.le_of_ble_eq_true rfl) (show 2 + 3 < _ from Nat.le_of_ble_eq_true rfl) (Nat.le_of_ble_eq_true rfl) hS.2.2 (th_end hP hD hS)

set_option maxHeartbeats 4000000 in
set_option maxRecDepth 100000 in
/-- t_X_drop2 -/
theorem t_X_drop2 (l : Launch) (D : va_G) (tI tZ tA tJ : ClassId) (htr : l.stackTraces = false) (b : Nat → Nat) (F S sz : Nat) (q : KS) (p0 x : Int32) : ob_M l y_X_drop w_X_drop ({ frames := 6, cells := 1, slots := 6, locals := 90 }) (pT D tI tZ tA tJ [.ref (b 0), .int p0, .int x] (xW b F S tI tZ tA q) sz (¬ m_isP (ks_th q) p0 = 0 ∧ (¬ x < 0 → 6 ≤ x))) (ob_qT D vcl R_Ei (xW b F S tI tZ tA q) (va_A (xW b F S tI tZ tA q) sz)) 1 6 (va_A (xW b F S tI tZ tA q) sz) := by
  refine ob_ofW (by decide +kernel) ?_
  intro p e s m args below meth c s₁ B hml htab hv
  obtain ⟨rfl, hT, hz, ⟨hpr, hq⟩, hsz, hP, hD0⟩ := hv
  have hx := B.exec
  have hb := B.bytes
  have hr := B.returns
  have hlocks := B.notSynchronized
  have hown : s.vm.findClass R_X = some m.cls := findClass_of_methodNamed B.named
  have hl := lv_entry ([.ref (b 0), .int p0, .int x]) (n := 3) (Nat.le_of_ble_eq_true rfl)
  rw [lg_entry_eq]
  generalize (lg_sl ([.ref (b 0), .int p0, .int x]) ++ List.replicate (3 - (lg_sl ([.ref (b 0), .int p0, .int x])).length) Slot.unset).toArray = ls at hl ⊢
  have hl : lv_has ls 3 [(0, .ref (b 0)), (1, .int p0), (2, .int x)] := hl
  subst hsz
  have hD := hD0.self (sz := s.heap.size)
  have hpl : ∀ a, va_A (xW b F S tI tZ tA q) s.heap.size a → ∀ cell, s.heap[a]? = some cell → cell.vm.isStatics = false := va_A.plain hP
  generalize hAe : va_A (xW b F S tI tZ tA q) s.heap.size = A at hD hpl ⊢
  have hA : ∀ q : Nat, s.heap.size ≤ q → A q := fun q h => by rw [← hAe]; exact Or.inr h
  have hS : va_S A s.heap s.heap [] := va_S.rf
  refine lv_aload_n hx hb d_X_drop_0 rfl (lv_at hl 0 rfl) ?_
  refine lv_iload_n hx hb d_X_drop_1 rfl (lv_at hl 1 rfl) ?_
  refine ob_callR (v := none) (ob_runV (n := 1) (As := [.int p0]) (rest := []) (c_X_requireProcess l D tI tZ tA tJ b F S q p0) (hT.ok ob_cd_c (by decide +kernel) rfl rfl (Nat.le_of_ble_eq_true rfl) (Nat.le_of_ble_eq_true rfl) kn_X kc_X_requireProcess) hx hb hml hown (hT.w k_X_53) (hT.w ki_X_requireProcess) (hT.w kv_X_requireProcess) (va_recv (q0 := 0) (ci := 0) hT.1 hP rfl rfl) pR.blind (pR.at hT (hpr) hP) rfl rfl hl.1 rfl (lv_room (Nat.le_of_ble_eq_true rfl)) d_X_drop_2 ⟨Nat.le_of_ble_eq_true rfl, Nat.le_of_ble_eq_true rfl⟩) ?_
  refine W.eq (g2 := F0 m 5 ls []) rfl ?_
  refine lv_iload_n hx hb d_X_drop_5 rfl (lv_at hl 2 rfl) ?_
  refine lv_if_lt (tgt := 15) hx hb d_X_drop_6 (by decide) (fun hc => ?_) (fun hc => ?_)
  · obtain ⟨zt, hzt⟩ := hT.2.2.1 (66, "no such page") (by decide +kernel)
    refine th_throw (E := R_Ei) (k := 2) (bytes := Bundle.six) hlocks hx hb (hml.trans hl.1.symm) htr hown (by decide +kernel) (hT.h1 hz) hT.h2 (fun w hw => hT.2.1 w (th_okEi w (List.mem_append_left _ hw)).1 (th_okEi w (List.mem_append_left _ hw)).2 _) hz.h4 (fun hpl => hT.chS (names := ["java/lang/RuntimeException", "java/lang/Exception"]) (by decide +kernel) (by decide +kernel) (fun w hw => th_okEi w (List.mem_append_right _ hw)) hpl) (hT.w k_X_64) (hT.w kn_Ei) hzt hS hpl d_X_drop_15 d_X_drop_18 d_X_drop_19 d_X_drop_21 d_X_drop_24 (th_out htab) (Nat.le_of_ble_eq_true rfl) (Nat.le_of_ble_eq_true rfl) (show 2 + 3 < _ from Nat.le_of_ble_eq_true rfl) (Nat.le_of_ble_eq_true rfl) hS.2.2 (th_end hP hD hS)
  · have hc0 := hc
    refine lv_iload_n hx hb d_X_drop_9 rfl (lv_at hl 2 rfl) ?_
    refine lv_bipush (v := 6) hx hb d_X_drop_10 (by decide) ?_
    refine lv_icmp_lt (tgt := 25) hx hb d_X_drop_12 (by decide) (fun hc => absurd (hq hc0) (Int32.not_le.mpr hc)) (fun hc => ?_)
    obtain ⟨zt, hzt⟩ := hT.2.2.1 (66, "no such page") (by decide +kernel)
    refine th_throw (E := R_Ei) (k := 2) (bytes := Bundle.six) hlocks hx hb (hml.trans hl.1.symm) htr hown (by decide +kernel) (hT.h1 hz) hT.h2 (fun w hw => hT.2.1 w (th_okEi w (List.mem_append_left _ hw)).1 (th_okEi w (List.mem_append_left _ hw)).2 _) hz.h4 (fun hpl => hT.chS (names := ["java/lang/RuntimeException", "java/lang/Exception"]) (by decide +kernel) (by decide +kernel) (fun w hw => th_okEi w (List.mem_append_right _ hw)) hpl) (hT.w k_X_64) (hT.w kn_Ei) hzt hS hpl d_X_drop_15 d_X_drop_18 d_X_drop_19 d_X_drop_21 d_X_drop_24 (th_out htab) (Nat.le_of_ble_eq_true rfl) (Nat.le_of_ble_eq_true rfl) (show 2 + 3 < _ from Nat.le_of_ble_eq_true rfl) (Nat.le_of_ble_eq_true rfl) hS.2.2 (th_end hP hD hS)

set_option maxHeartbeats 4000000 in
set_option maxRecDepth 100000 in
/-- t_X_load2 -/
theorem t_X_load2 (l : Launch) (D : va_G) (tI tZ tA tJ : ClassId) (htr : l.stackTraces = false) (b : Nat → Nat) (F S sz : Nat) (q : KS) (p0 a : Int32) : ob_M l y_X_load w_X_load ({ frames := 7, cells := 1, slots := 6, locals := 110 }) (pT D tI tZ tA tJ [.ref (b 0), .int p0, .int a] (xW b F S tI tZ tA q) sz (¬ m_isP (ks_th q) p0 = 0 ∧ m_isA a = 0)) (ob_qT D vcl R_Ei (xW b F S tI tZ tA q) (va_A (xW b F S tI tZ tA q) sz)) 1 6 (va_A (xW b F S tI tZ tA q) sz) := by
  refine ob_ofW (by decide +kernel) ?_
  intro p e s m args below meth c s₁ B hml htab hv
  obtain ⟨rfl, hT, hz, ⟨hpr, hq⟩, hsz, hP, hD0⟩ := hv
  have hx := B.exec
  have hb := B.bytes
  have hr := B.returns
  have hlocks := B.notSynchronized
  have hown : s.vm.findClass R_X = some m.cls := findClass_of_methodNamed B.named
  have hl := lv_entry ([.ref (b 0), .int p0, .int a]) (n := 3) (Nat.le_of_ble_eq_true rfl)
  rw [lg_entry_eq]
  generalize (lg_sl ([.ref (b 0), .int p0, .int a]) ++ List.replicate (3 - (lg_sl ([.ref (b 0), .int p0, .int a])).length) Slot.unset).toArray = ls at hl ⊢
  have hl : lv_has ls 3 [(0, .ref (b 0)), (1, .int p0), (2, .int a)] := hl
  subst hsz
  have hD := hD0.self (sz := s.heap.size)
  have hpl : ∀ a, va_A (xW b F S tI tZ tA q) s.heap.size a → ∀ cell, s.heap[a]? = some cell → cell.vm.isStatics = false := va_A.plain hP
  generalize hAe : va_A (xW b F S tI tZ tA q) s.heap.size = A at hD hpl ⊢
  have hA : ∀ q : Nat, s.heap.size ≤ q → A q := fun q h => by rw [← hAe]; exact Or.inr h
  have hS : va_S A s.heap s.heap [] := va_S.rf
  refine lv_aload_n hx hb d_X_load_0 rfl (lv_at hl 0 rfl) ?_
  refine lv_iload_n hx hb d_X_load_1 rfl (lv_at hl 1 rfl) ?_
  refine ob_callR (v := none) (ob_runV (n := 1) (As := [.int p0]) (rest := []) (c_X_requireProcess l D tI tZ tA tJ b F S q p0) (hT.ok ob_cd_c (by decide +kernel) rfl rfl (Nat.le_of_ble_eq_true rfl) (Nat.le_of_ble_eq_true rfl) kn_X kc_X_requireProcess) hx hb hml hown (hT.w k_X_53) (hT.w ki_X_requireProcess) (hT.w kv_X_requireProcess) (va_recv (q0 := 0) (ci := 0) hT.1 hP rfl rfl) pR.blind (pR.at hT (hpr) hP) rfl rfl hl.1 rfl (lv_room (Nat.le_of_ble_eq_true rfl)) d_X_load_2 ⟨Nat.le_of_ble_eq_true rfl, Nat.le_of_ble_eq_true rfl⟩) ?_
  refine W.eq (g2 := F0 m 5 ls []) rfl ?_
  refine lv_iload_n hx hb d_X_load_5 rfl (lv_at hl 2 rfl) ?_
  refine ob_callT (E := R_Ei) (X := xW b F S tI tZ tA q) (M := []) (M' := []) (ob_runS (n := 1) (As := [.int a]) (rest := []) (t_X_requireAddress l D tI tZ tA tJ htr s.heap.size a) (hT.ok ob_cd_c (by decide +kernel) rfl rfl (Nat.le_of_ble_eq_true rfl) (Nat.le_of_ble_eq_true rfl) kn_X kc_X_requireAddress) hx hb hml hown (hT.w k_X_69) (hT.w ks_X_requireAddress) pT.blind (pT.at hT (hz.on hS hpl) (hq) (fun k q h => nomatch h) (xE_D : va_D A [])) rfl rfl hl.1 rfl (lv_room (Nat.le_of_ble_eq_true rfl)) d_X_load_6 ⟨Nat.le_of_ble_eq_true rfl, Nat.le_of_ble_eq_true rfl⟩) (xN_to hP) (xM_to hD) hS hA (fun x H locs hex hP hD hS => ?_)
  have hP : va_P D vcl (xW b F S tI tZ tA q) H := xN_of hP
  have hD : va_D A (xW b F S tI tZ tA q) := xM_of hD
  exact ob_leave hlocks (th_out htab) (fun t ht hW => ⟨x, rfl, by rw [ht]; exact hex, by rw [ht]; exact hP, hD, hS.F ht⟩) hS.2.2

set_option maxHeartbeats 4000000 in
set_option maxRecDepth 100000 in
/-- t_X_store2 -/
theorem t_X_store2 (l : Launch) (D : va_G) (tI tZ tA tJ : ClassId) (htr : l.stackTraces = false) (b : Nat → Nat) (F S sz : Nat) (q : KS) (p0 a v : Int32) : ob_M l y_X_store w_X_store ({ frames := 7, cells := 1, slots := 6, locals := 110 }) (pT D tI tZ tA tJ [.ref (b 0), .int p0, .int a, .int v] (xW b F S tI tZ tA q) sz (¬ m_isP (ks_th q) p0 = 0 ∧ m_isA a = 0)) (ob_qT D vcl R_Ei (xW b F S tI tZ tA q) (va_A (xW b F S tI tZ tA q) sz)) 1 6 (va_A (xW b F S tI tZ tA q) sz) := by
  refine ob_ofW (by decide +kernel) ?_
  intro p e s m args below meth c s₁ B hml htab hv
  obtain ⟨rfl, hT, hz, ⟨hpr, hq⟩, hsz, hP, hD0⟩ := hv
  have hx := B.exec
  have hb := B.bytes
  have hr := B.returns
  have hlocks := B.notSynchronized
  have hown : s.vm.findClass R_X = some m.cls := findClass_of_methodNamed B.named
  have hl := lv_entry ([.ref (b 0), .int p0, .int a, .int v]) (n := 4) (Nat.le_of_ble_eq_true rfl)
  rw [lg_entry_eq]
  generalize (lg_sl ([.ref (b 0), .int p0, .int a, .int v]) ++ List.replicate (4 - (lg_sl ([.ref (b 0), .int p0, .int a, .int v])).length) Slot.unset).toArray = ls at hl ⊢
  have hl : lv_has ls 4 [(0, .ref (b 0)), (1, .int p0), (2, .int a), (3, .int v)] := hl
  subst hsz
  have hD := hD0.self (sz := s.heap.size)
  have hpl : ∀ a, va_A (xW b F S tI tZ tA q) s.heap.size a → ∀ cell, s.heap[a]? = some cell → cell.vm.isStatics = false := va_A.plain hP
  generalize hAe : va_A (xW b F S tI tZ tA q) s.heap.size = A at hD hpl ⊢
  have hA : ∀ q : Nat, s.heap.size ≤ q → A q := fun q h => by rw [← hAe]; exact Or.inr h
  have hS : va_S A s.heap s.heap [] := va_S.rf
  refine lv_aload_n hx hb d_X_store_0 rfl (lv_at hl 0 rfl) ?_
  refine lv_iload_n hx hb d_X_store_1 rfl (lv_at hl 1 rfl) ?_
  refine ob_callR (v := none) (ob_runV (n := 1) (As := [.int p0]) (rest := []) (c_X_requireProcess l D tI tZ tA tJ b F S q p0) (hT.ok ob_cd_c (by decide +kernel) rfl rfl (Nat.le_of_ble_eq_true rfl) (Nat.le_of_ble_eq_true rfl) kn_X kc_X_requireProcess) hx hb hml hown (hT.w k_X_53) (hT.w ki_X_requireProcess) (hT.w kv_X_requireProcess) (va_recv (q0 := 0) (ci := 0) hT.1 hP rfl rfl) pR.blind (pR.at hT (hpr) hP) rfl rfl hl.1 rfl (lv_room (Nat.le_of_ble_eq_true rfl)) d_X_store_2 ⟨Nat.le_of_ble_eq_true rfl, Nat.le_of_ble_eq_true rfl⟩) ?_
  refine W.eq (g2 := F0 m 5 ls []) rfl ?_
  refine lv_iload_n hx hb d_X_store_5 rfl (lv_at hl 2 rfl) ?_
  refine ob_callT (E := R_Ei) (X := xW b F S tI tZ tA q) (M := []) (M' := []) (ob_runS (n := 1) (As := [.int a]) (rest := []) (t_X_requireAddress l D tI tZ tA tJ htr s.heap.size a) (hT.ok ob_cd_c (by decide +kernel) rfl rfl (Nat.le_of_ble_eq_true rfl) (Nat.le_of_ble_eq_true rfl) kn_X kc_X_requireAddress) hx hb hml hown (hT.w k_X_69) (hT.w ks_X_requireAddress) pT.blind (pT.at hT (hz.on hS hpl) (hq) (fun k q h => nomatch h) (xE_D : va_D A [])) rfl rfl hl.1 rfl (lv_room (Nat.le_of_ble_eq_true rfl)) d_X_store_6 ⟨Nat.le_of_ble_eq_true rfl, Nat.le_of_ble_eq_true rfl⟩) (xN_to hP) (xM_to hD) hS hA (fun x H locs hex hP hD hS => ?_)
  have hP : va_P D vcl (xW b F S tI tZ tA q) H := xN_of hP
  have hD : va_D A (xW b F S tI tZ tA q) := xM_of hD
  exact ob_leave hlocks (th_out htab) (fun t ht hW => ⟨x, rfl, by rw [ht]; exact hex, by rw [ht]; exact hP, hD, hS.F ht⟩) hS.2.2

set_option maxHeartbeats 4000000 in
set_option maxRecDepth 100000 in
/-- t_X_copy2 -/
theorem t_X_copy2 (l : Launch) (D : va_G) (tI tZ tA tJ : ClassId) (htr : l.stackTraces = false) (b : Nat → Nat) (F S sz : Nat) (q : KS) (p0 a d n : Int32) : ob_M l y_X_copy w_X_copy ({ frames := 7, cells := 1, slots := 6, locals := 111 }) (pT D tI tZ tA tJ [.ref (b 0), .int p0, .int a, .int d, .int n] (xW b F S tI tZ tA q) sz (¬ m_isP (ks_th q) p0 = 0 ∧ (k_rng a n = 0 ∨ k_rng d n = 0))) (ob_qT D vcl R_Ei (xW b F S tI tZ tA q) (va_A (xW b F S tI tZ tA q) sz)) 1 6 (va_A (xW b F S tI tZ tA q) sz) := by
  refine ob_ofW (by decide +kernel) ?_
  intro p e s m args below meth c s₁ B hml htab hv
  obtain ⟨rfl, hT, hz, ⟨hpr, hq⟩, hsz, hP, hD0⟩ := hv
  have hx := B.exec
  have hb := B.bytes
  have hr := B.returns
  have hlocks := B.notSynchronized
  have hown : s.vm.findClass R_X = some m.cls := findClass_of_methodNamed B.named
  have hl := lv_entry ([.ref (b 0), .int p0, .int a, .int d, .int n]) (n := 6) (Nat.le_of_ble_eq_true rfl)
  rw [lg_entry_eq]
  generalize (lg_sl ([.ref (b 0), .int p0, .int a, .int d, .int n]) ++ List.replicate (6 - (lg_sl ([.ref (b 0), .int p0, .int a, .int d, .int n])).length) Slot.unset).toArray = ls at hl ⊢
  have hl : lv_has ls 6 [(0, .ref (b 0)), (1, .int p0), (2, .int a), (3, .int d), (4, .int n)] := hl
  subst hsz
  have hD := hD0.self (sz := s.heap.size)
  have hpl : ∀ a, va_A (xW b F S tI tZ tA q) s.heap.size a → ∀ cell, s.heap[a]? = some cell → cell.vm.isStatics = false := va_A.plain hP
  generalize hAe : va_A (xW b F S tI tZ tA q) s.heap.size = A at hD hpl ⊢
  have hA : ∀ q : Nat, s.heap.size ≤ q → A q := fun q h => by rw [← hAe]; exact Or.inr h
  have hS : va_S A s.heap s.heap [] := va_S.rf
  refine lv_aload_n hx hb d_X_copy_0 rfl (lv_at hl 0 rfl) ?_
  refine lv_iload_n hx hb d_X_copy_1 rfl (lv_at hl 1 rfl) ?_
  refine ob_callR (v := none) (ob_runV (n := 1) (As := [.int p0]) (rest := []) (c_X_requireProcess l D tI tZ tA tJ b F S q p0) (hT.ok ob_cd_c (by decide +kernel) rfl rfl (Nat.le_of_ble_eq_true rfl) (Nat.le_of_ble_eq_true rfl) kn_X kc_X_requireProcess) hx hb hml hown (hT.w k_X_53) (hT.w ki_X_requireProcess) (hT.w kv_X_requireProcess) (va_recv (q0 := 0) (ci := 0) hT.1 hP rfl rfl) pR.blind (pR.at hT (hpr) hP) rfl rfl hl.1 rfl (lv_room (Nat.le_of_ble_eq_true rfl)) d_X_copy_2 ⟨Nat.le_of_ble_eq_true rfl, Nat.le_of_ble_eq_true rfl⟩) ?_
  refine W.eq (g2 := F0 m 5 ls []) rfl ?_
  refine lv_iload_n hx hb d_X_copy_5 rfl (lv_at hl 2 rfl) ?_
  refine lv_iload hx hb d_X_copy_6 (lv_at hl 4 rfl) ?_
  by_cases hc : k_rng a n = 0
  · refine ob_callT (E := R_Ei) (X := xW b F S tI tZ tA q) (M := []) (M' := []) (ob_runS (n := 2) (As := [.int a, .int n]) (rest := []) (t_X_requireRange l D tI tZ tA tJ htr s.heap.size a n) (hT.ok ob_cd_c (by decide +kernel) rfl rfl (Nat.le_of_ble_eq_true rfl) (Nat.le_of_ble_eq_true rfl) kn_X kc_X_requireRange) hx hb hml hown (hT.w k_X_79) (hT.w ks_X_requireRange) pT.blind (pT.at hT (hz.on hS hpl) (hc) (fun k q h => nomatch h) (xE_D : va_D A [])) rfl rfl hl.1 rfl (lv_room (Nat.le_of_ble_eq_true rfl)) d_X_copy_8 ⟨Nat.le_of_ble_eq_true rfl, Nat.le_of_ble_eq_true rfl⟩) (xN_to hP) (xM_to hD) hS hA (fun x H locs hex hP hD hS => ?_)
    have hP : va_P D vcl (xW b F S tI tZ tA q) H := xN_of hP
    have hD : va_D A (xW b F S tI tZ tA q) := xM_of hD
    exact ob_leave hlocks (th_out htab) (fun t ht hW => ⟨x, rfl, by rw [ht]; exact hex, by rw [ht]; exact hP, hD, hS.F ht⟩) hS.2.2
  · refine ob_callR (v := none) (ob_runS (n := 2) (As := [.int a, .int n]) (rest := []) (c_X_requireRange l D tI tZ tA tJ a n) (hT.ok ob_cd_c (by decide +kernel) rfl rfl (Nat.le_of_ble_eq_true rfl) (Nat.le_of_ble_eq_true rfl) kn_X kc_X_requireRange) hx hb hml hown (hT.w k_X_79) (hT.w ks_X_requireRange) pR.blind (pR.at hT (hc) (fun k q h => nomatch h)) rfl rfl hl.1 rfl (lv_room (Nat.le_of_ble_eq_true rfl)) d_X_copy_8 ⟨Nat.le_of_ble_eq_true rfl, Nat.le_of_ble_eq_true rfl⟩) ?_
    refine W.eq (g2 := F0 m 11 ls []) rfl ?_
    refine lv_iload_n hx hb d_X_copy_11 rfl (lv_at hl 3 rfl) ?_
    refine lv_iload hx hb d_X_copy_12 (lv_at hl 4 rfl) ?_
    refine ob_callT (E := R_Ei) (X := xW b F S tI tZ tA q) (M := []) (M' := []) (ob_runS (n := 2) (As := [.int d, .int n]) (rest := []) (t_X_requireRange l D tI tZ tA tJ htr s.heap.size d n) (hT.ok ob_cd_c (by decide +kernel) rfl rfl (Nat.le_of_ble_eq_true rfl) (Nat.le_of_ble_eq_true rfl) kn_X kc_X_requireRange) hx hb hml hown (hT.w k_X_79) (hT.w ks_X_requireRange) pT.blind (pT.at hT (hz.on hS hpl) (hq.elim (fun z => absurd z hc) id) (fun k q h => nomatch h) (xE_D : va_D A [])) rfl rfl hl.1 rfl (lv_room (Nat.le_of_ble_eq_true rfl)) d_X_copy_14 ⟨Nat.le_of_ble_eq_true rfl, Nat.le_of_ble_eq_true rfl⟩) (xN_to hP) (xM_to hD) hS hA (fun x H locs hex hP hD hS => ?_)
    have hP : va_P D vcl (xW b F S tI tZ tA q) H := xN_of hP
    have hD : va_D A (xW b F S tI tZ tA q) := xM_of hD
    exact ob_leave hlocks (th_out htab) (fun t ht hW => ⟨x, rfl, by rw [ht]; exact hex, by rw [ht]; exact hP, hD, hS.F ht⟩) hS.2.2

set_option maxHeartbeats 4000000 in
set_option maxRecDepth 100000 in
/-- t_X_giveOwnSheet -/
theorem t_X_giveOwnSheet (l : Launch) (D : va_G) (tI tZ tA tJ : ClassId) (htr : l.stackTraces = false) (b : Nat → Nat) (F S sz : Nat) (q : KS) (p0 x : Int32) : ob_M l y_X_giveOwnSheet w_X_giveOwnSheet ({ frames := 6, cells := 1, slots := 6, locals := 90 }) (pT D tI tZ tA tJ [.ref (b 0), .int p0, .int x] (xW b F S tI tZ tA q) sz (mk_ok F S (ks_m q) ∧ (k_make F S (ks_m q)).1 = -1)) (ob_qT D vcl R_Es (xW b F S tI tZ tA (kv_m q (k_make F S (ks_m q)).2)) (va_A (xW b F S tI tZ tA q) sz)) 1 6 (va_A (xW b F S tI tZ tA q) sz) := by
  refine ob_ofW (by decide +kernel) ?_
  intro p e s m args below meth c s₁ B hml htab hv
  obtain ⟨rfl, hT, hz, ⟨hmk, hq⟩, hsz, hP, hD0⟩ := hv
  have hx := B.exec
  have hb := B.bytes
  have hr := B.returns
  have hlocks := B.notSynchronized
  have hown : s.vm.findClass R_X = some m.cls := findClass_of_methodNamed B.named
  have hl := lv_entry ([.ref (b 0), .int p0, .int x]) (n := 5) (Nat.le_of_ble_eq_true rfl)
  rw [lg_entry_eq]
  generalize (lg_sl ([.ref (b 0), .int p0, .int x]) ++ List.replicate (5 - (lg_sl ([.ref (b 0), .int p0, .int x])).length) Slot.unset).toArray = ls at hl ⊢
  have hl : lv_has ls 5 [(0, .ref (b 0)), (1, .int p0), (2, .int x)] := hl
  subst hsz
  have hD := hD0.self (sz := s.heap.size)
  have hpl : ∀ a, va_A (xW b F S tI tZ tA q) s.heap.size a → ∀ cell, s.heap[a]? = some cell → cell.vm.isStatics = false := va_A.plain hP
  generalize hAe : va_A (xW b F S tI tZ tA q) s.heap.size = A at hD hpl ⊢
  have hA : ∀ q : Nat, s.heap.size ≤ q → A q := fun q h => by rw [← hAe]; exact Or.inr h
  have hS : va_S A s.heap s.heap [] := va_S.rf
  refine lv_aload_n hx hb d_X_giveOwnSheet_0 rfl (lv_at hl 0 rfl) ?_
  refine va_get (D := D) (ci := 0) (v := .ref (b 9)) hx hb hT.lays ly_X hown hT.1 hP 0 rfl rfl 2 (by decide) (hT.w k_X_32) (fun _ h => h) rfl d_X_giveOwnSheet_1 ?_
  refine ob_callW (v := (some (.int ((k_make F S (ks_m q)).1)))) (X := xX b tI tZ tA q) (M := mW b F S tI tZ tA (ks_m q)) (M' := mW b F S tI tZ tA ((k_make F S (ks_m q)).2)) (ob_runV (n := 0) (As := []) (rest := []) (c_M_make l D tI tZ tA tJ b F S s.heap.size (ks_m q)) (hT.ok ob_cd_c (by decide +kernel) rfl rfl (Nat.le_of_ble_eq_true rfl) (Nat.le_of_ble_eq_true rfl) kn_M kc_M_make) hx hb hml hown (hT.w k_X_144) (hT.w ki_M_make) (hT.w kv_M_make) (va_recv (q0 := 9) (ci := 1) hT.1 hP rfl rfl) pW.blind (pW.at hT (hmk) (ob_Pr (xP_to hP)) (ob_Dr (xD_to hD))) rfl rfl hl.1 rfl (lv_room (Nat.le_of_ble_eq_true rfl)) d_X_giveOwnSheet_4 ⟨Nat.le_of_ble_eq_true rfl, Nat.le_of_ble_eq_true rfl⟩) (xP_to hP) (xD_to hD) hS hA (fun H locs hP hD hS => ?_)
  have hP : va_P D vcl (xW b F S tI tZ tA (kv_m q ((k_make F S (ks_m q)).2))) H := xP_of hP
  have hD : va_D A (xW b F S tI tZ tA (kv_m q ((k_make F S (ks_m q)).2))) := xD_of hD
  refine W.eq (g2 := F0 m 7 ls [.int ((k_make F S (ks_m q)).1)]) rfl ?_
  refine lv_istore_n (lv' := [(3, .int ((k_make F S (ks_m q)).1)), (0, .ref (b 0)), (1, .int p0), (2, .int x)]) hx hb d_X_giveOwnSheet_7 rfl hl (by decide) rfl (fun ls hl => ?_)
  refine lv_iload_n hx hb d_X_giveOwnSheet_8 rfl (lv_at hl 0 rfl) ?_
  refine lv_iconst (v := -1) hx hb d_X_giveOwnSheet_9 (by decide) ?_
  refine lv_icmp_ne (tgt := 23) hx hb d_X_giveOwnSheet_10 (by decide) (fun hc => absurd hq hc) (fun hc => ?_)
  obtain ⟨zt, hzt⟩ := hT.2.2.1 (147, "no frame and no slot is free") (by decide +kernel)
  refine th_throw (E := R_Es) (k := 2) (bytes := Bundle.six) hlocks hx hb (hml.trans hl.1.symm) htr hown (by decide +kernel) (hT.h1 hz) hT.h2 (fun w hw => hT.2.1 w (th_okEs w (List.mem_append_left _ hw)).1 (th_okEs w (List.mem_append_left _ hw)).2 _) hz.h4 (fun hpl => hT.chS (names := ["java/lang/RuntimeException", "java/lang/Exception"]) (by decide +kernel) (by decide +kernel) (fun w hw => th_okEs w (List.mem_append_right _ hw)) hpl) (hT.w k_X_46) (hT.w kn_Es) hzt hS hpl d_X_giveOwnSheet_13 d_X_giveOwnSheet_16 d_X_giveOwnSheet_17 d_X_giveOwnSheet_19 d_X_giveOwnSheet_22 (th_out htab) (Nat.le_of_ble_eq_true rfl) (Nat.le_of_ble_eq_true rfl) (show 2 + 3 < _ from Nat.le_of_ble_eq_true rfl) (Nat.le_of_ble_eq_true rfl) hS.2.2 (th_end hP hD hS)

set_option maxHeartbeats 4000000 in
set_option maxRecDepth 100000 in
/-- t_X_storeWord -/
theorem t_X_storeWord (l : Launch) (D : va_G) (tI tZ tA tJ : ClassId) (htr : l.stackTraces = false) (b : Nat → Nat) (F S sz : Nat) (q : KS) (p0 a v : Int32) : ob_M l y_X_storeWord w_X_storeWord ({ frames := 7, cells := 1, slots := 6, locals := 114 }) (pT D tI tZ tA tJ [.ref (b 0), .int p0, .int a, .int v] (xW b F S tI tZ tA q) sz (xt_ok F S q p0 a ∧ ¬ k_no F S q p0 (a / 4) = 0)) (ob_qT D vcl R_Es (xW b F S tI tZ tA (kv_m q (k_make F S (ks_m q)).2)) (va_A (xW b F S tI tZ tA q) sz)) 1 6 (va_A (xW b F S tI tZ tA q) sz) := by
  refine ob_ofW (by decide +kernel) ?_
  intro p e s m args below meth c s₁ B hml htab hv
  obtain ⟨rfl, hT, hz, ⟨⟨hp6, hg6, hin, hmk⟩, hq⟩, hsz, hP, hD0⟩ := hv
  have hx := B.exec
  have hb := B.bytes
  have hr := B.returns
  have hlocks := B.notSynchronized
  have hown : s.vm.findClass R_X = some m.cls := findClass_of_methodNamed B.named
  have hl := lv_entry ([.ref (b 0), .int p0, .int a, .int v]) (n := 6) (Nat.le_of_ble_eq_true rfl)
  rw [lg_entry_eq]
  generalize (lg_sl ([.ref (b 0), .int p0, .int a, .int v]) ++ List.replicate (6 - (lg_sl ([.ref (b 0), .int p0, .int a, .int v])).length) Slot.unset).toArray = ls at hl ⊢
  have hl : lv_has ls 6 [(0, .ref (b 0)), (1, .int p0), (2, .int a), (3, .int v)] := hl
  subst hsz
  have hD := hD0.self (sz := s.heap.size)
  have hpl : ∀ a, va_A (xW b F S tI tZ tA q) s.heap.size a → ∀ cell, s.heap[a]? = some cell → cell.vm.isStatics = false := va_A.plain hP
  generalize hAe : va_A (xW b F S tI tZ tA q) s.heap.size = A at hD hpl ⊢
  have hA : ∀ q : Nat, s.heap.size ≤ q → A q := fun q h => by rw [← hAe]; exact Or.inr h
  have hS : va_S A s.heap s.heap [] := va_S.rf
  unfold k_no at hq
  have hn : ¬ k_need q p0 (a / 4) = 0 := fun z => hq (if_pos z)
  rw [if_neg hn] at hq
  have hm1 : (k_make F S (ks_m q)).1 = -1 := Classical.byContradiction fun z => hq (if_neg z)
  refine lv_iload_n hx hb d_X_storeWord_0 rfl (lv_at hl 2 rfl) ?_
  refine lv_iconst (v := 4) hx hb d_X_storeWord_1 (by decide) ?_
  refine lv_idiv hx hb d_X_storeWord_2 (by decide) ?_
  refine lv_istore (lv' := [(4, .int (a / 4)), (0, .ref (b 0)), (1, .int p0), (2, .int a), (3, .int v)]) hx hb d_X_storeWord_3 hl (by decide) rfl (fun ls hl => ?_)
  refine lv_aload_n hx hb d_X_storeWord_5 rfl (lv_at hl 1 rfl) ?_
  refine va_get (D := D) (ci := 0) (v := .ref (b 2)) hx hb hT.lays ly_X hown hT.1 hP 0 rfl rfl 1 (by decide) (hT.w k_X_15) (fun _ h => h) rfl d_X_storeWord_6 ?_
  refine lv_iload_n hx hb d_X_storeWord_9 rfl (lv_at hl 2 rfl) ?_
  refine ob_aald hx hb hT.1 hP 2 2 rfl rfl (hp6) d_X_storeWord_10 ?_
  refine lv_iload hx hb d_X_storeWord_11 (lv_at hl 0 rfl) ?_
  refine va_iald hx hb hT.1 hP (3 + ix p0) 0 (pl_get (vp_ix hp6) rfl) rfl (hg6) d_X_storeWord_13 ?_
  refine lv_istore (lv' := [(5, .int ((ks_pg q (ix p0)) (ix (a / 4)))), (4, .int (a / 4)), (0, .ref (b 0)), (1, .int p0), (2, .int a), (3, .int v)]) hx hb d_X_storeWord_14 hl (by decide) rfl (fun ls hl => ?_)
  have hgo : W p l e ({ frames := 7, cells := 1, slots := 6, locals := 114 } : Room) s m ([.ref (b 0), .int p0, .int a, .int v] : List Value).toArray below meth c s.heap [] 0 0 (ob_Q below (ob_qT D vcl R_Es (xW b F S tI tZ tA (kv_m q (k_make F S (ks_m q)).2)) A) ([.ref (b 0), .int p0, .int a, .int v] : List Value).toArray s 1 6 A) (F0 m 35 ls []) := by
    refine lv_aload_n hx hb d_X_storeWord_35 rfl (lv_at hl 2 rfl) ?_
    refine lv_iload_n hx hb d_X_storeWord_36 rfl (lv_at hl 3 rfl) ?_
    refine lv_iload hx hb d_X_storeWord_37 (lv_at hl 1 rfl) ?_
    refine ob_callT (E := R_Es) (X := []) (M := xW b F S tI tZ tA q) (M' := xW b F S tI tZ tA (kv_m q (k_make F S (ks_m q)).2)) (ob_runV (n := 2) (As := [.int p0, .int (a / 4)]) (rest := []) (t_X_giveOwnSheet l D tI tZ tA tJ htr b F S s.heap.size q p0 (a / 4)) (hT.ok ob_cd_c (by decide +kernel) rfl rfl (Nat.le_of_ble_eq_true rfl) (Nat.le_of_ble_eq_true rfl) kn_X kc_X_giveOwnSheet) hx hb hml hown (hT.w k_X_138) (hT.w ki_X_giveOwnSheet) (hT.w kv_X_giveOwnSheet) (va_recv (q0 := 0) (ci := 0) hT.1 hP rfl rfl) pT.blind (pT.at hT (hz.on hS hpl) (⟨hmk, hm1⟩) hP hD) rfl rfl hl.1 rfl (lv_room (Nat.le_of_ble_eq_true rfl)) d_X_storeWord_39 ⟨Nat.le_of_ble_eq_true rfl, Nat.le_of_ble_eq_true rfl⟩) hP hD hS hA (fun x H locs hex hP hD hS => ?_)
    exact ob_leave hlocks (th_out htab) (fun t ht hW => ⟨x, rfl, by rw [ht]; exact hex, by rw [ht]; exact hP, hD, hS.F ht⟩) hS.2.2
  refine lv_iload hx hb d_X_storeWord_16 (lv_at hl 0 rfl) ?_
  refine lv_iconst (v := -1) hx hb d_X_storeWord_18 (by decide) ?_
  refine lv_icmp_eq (tgt := 35) hx hb d_X_storeWord_19 (by decide) (fun hc => ?_) (fun hc => ?_)
  · exact hgo
  · have hc0 := hc
    refine lv_aload_n hx hb d_X_storeWord_22 rfl (lv_at hl 2 rfl) ?_
    refine va_get (D := D) (ci := 0) (v := .ref (b 9)) hx hb hT.lays ly_X hown hT.1 hP 0 rfl rfl 2 (by decide) (hT.w k_X_32) (fun _ h => h) rfl d_X_storeWord_23 ?_
    refine lv_iload hx hb d_X_storeWord_26 (lv_at hl 0 rfl) ?_
    refine ob_callR (v := (some (.int (km_ct (ks_m q) (ix (k_at q p0 (a / 4))))))) (ob_runV (n := 1) (As := [.int (k_at q p0 (a / 4))]) (rest := []) (c_M_pagesOf l D tI tZ tA tJ b F S (ks_m q) (k_at q p0 (a / 4))) (hT.ok ob_cd_c (by decide +kernel) rfl rfl (Nat.le_of_ble_eq_true rfl) (Nat.le_of_ble_eq_true rfl) kn_M kc_M_pagesOf) hx hb hml hown (hT.w k_X_93) (hT.w ki_M_pagesOf) (hT.w kv_M_pagesOf) (va_recv (q0 := 9) (ci := 1) hT.1 hP rfl rfl) pR.blind (pR.at hT (hin hc) (ob_Pr (ob_Pr hP))) rfl rfl hl.1 rfl (lv_room (Nat.le_of_ble_eq_true rfl)) d_X_storeWord_28 ⟨Nat.le_of_ble_eq_true rfl, Nat.le_of_ble_eq_true rfl⟩) ?_
    refine W.eq (g2 := F0 m 31 ls [.int (km_ct (ks_m q) (ix (k_at q p0 (a / 4))))]) rfl ?_
    refine lv_iconst (v := 1) hx hb d_X_storeWord_31 (by decide) ?_
    refine lv_icmp_le (tgt := 44) hx hb d_X_storeWord_32 (by decide) (fun hc => absurd (show k_need q p0 (a / 4) = 0 by unfold k_need; rw [if_neg hc0, if_pos hc]) hn) (fun hc => hgo)

set_option maxHeartbeats 4000000 in
set_option maxRecDepth 100000 in
/-- t_X_store3 -/
theorem t_X_store3 (l : Launch) (D : va_G) (tI tZ tA tJ : ClassId) (htr : l.stackTraces = false) (b : Nat → Nat) (F S sz : Nat) (q : KS) (p0 a v : Int32) : ob_M l y_X_store w_X_store ({ frames := 8, cells := 1, slots := 6, locals := 139 }) (pT D tI tZ tA tJ [.ref (b 0), .int p0, .int a, .int v] (xW b F S tI tZ tA q) sz (¬ m_isP (ks_th q) p0 = 0 ∧ ¬ m_isA a = 0 ∧ xt_ok F S q p0 a ∧ ¬ k_no F S q p0 (a / 4) = 0)) (ob_qT D vcl R_Es (xW b F S tI tZ tA (kv_m q (k_make F S (ks_m q)).2)) (va_A (xW b F S tI tZ tA q) sz)) 1 6 (va_A (xW b F S tI tZ tA q) sz) := by
  refine ob_ofW (by decide +kernel) ?_
  intro p e s m args below meth c s₁ B hml htab hv
  obtain ⟨rfl, hT, hz, ⟨hpr, hpa, hxt, hq⟩, hsz, hP, hD0⟩ := hv
  have hx := B.exec
  have hb := B.bytes
  have hr := B.returns
  have hlocks := B.notSynchronized
  have hown : s.vm.findClass R_X = some m.cls := findClass_of_methodNamed B.named
  have hl := lv_entry ([.ref (b 0), .int p0, .int a, .int v]) (n := 4) (Nat.le_of_ble_eq_true rfl)
  rw [lg_entry_eq]
  generalize (lg_sl ([.ref (b 0), .int p0, .int a, .int v]) ++ List.replicate (4 - (lg_sl ([.ref (b 0), .int p0, .int a, .int v])).length) Slot.unset).toArray = ls at hl ⊢
  have hl : lv_has ls 4 [(0, .ref (b 0)), (1, .int p0), (2, .int a), (3, .int v)] := hl
  subst hsz
  have hD := hD0.self (sz := s.heap.size)
  have hpl : ∀ a, va_A (xW b F S tI tZ tA q) s.heap.size a → ∀ cell, s.heap[a]? = some cell → cell.vm.isStatics = false := va_A.plain hP
  generalize hAe : va_A (xW b F S tI tZ tA q) s.heap.size = A at hD hpl ⊢
  have hA : ∀ q : Nat, s.heap.size ≤ q → A q := fun q h => by rw [← hAe]; exact Or.inr h
  have hS : va_S A s.heap s.heap [] := va_S.rf
  refine lv_aload_n hx hb d_X_store_0 rfl (lv_at hl 0 rfl) ?_
  refine lv_iload_n hx hb d_X_store_1 rfl (lv_at hl 1 rfl) ?_
  refine ob_callR (v := none) (ob_runV (n := 1) (As := [.int p0]) (rest := []) (c_X_requireProcess l D tI tZ tA tJ b F S q p0) (hT.ok ob_cd_c (by decide +kernel) rfl rfl (Nat.le_of_ble_eq_true rfl) (Nat.le_of_ble_eq_true rfl) kn_X kc_X_requireProcess) hx hb hml hown (hT.w k_X_53) (hT.w ki_X_requireProcess) (hT.w kv_X_requireProcess) (va_recv (q0 := 0) (ci := 0) hT.1 hP rfl rfl) pR.blind (pR.at hT (hpr) hP) rfl rfl hl.1 rfl (lv_room (Nat.le_of_ble_eq_true rfl)) d_X_store_2 ⟨Nat.le_of_ble_eq_true rfl, Nat.le_of_ble_eq_true rfl⟩) ?_
  refine W.eq (g2 := F0 m 5 ls []) rfl ?_
  refine lv_iload_n hx hb d_X_store_5 rfl (lv_at hl 2 rfl) ?_
  refine ob_callR (v := none) (ob_runS (n := 1) (As := [.int a]) (rest := []) (c_X_requireAddress l D tI tZ tA tJ a) (hT.ok ob_cd_c (by decide +kernel) rfl rfl (Nat.le_of_ble_eq_true rfl) (Nat.le_of_ble_eq_true rfl) kn_X kc_X_requireAddress) hx hb hml hown (hT.w k_X_69) (hT.w ks_X_requireAddress) pR.blind (pR.at hT (hpa) (fun k q h => nomatch h)) rfl rfl hl.1 rfl (lv_room (Nat.le_of_ble_eq_true rfl)) d_X_store_6 ⟨Nat.le_of_ble_eq_true rfl, Nat.le_of_ble_eq_true rfl⟩) ?_
  refine W.eq (g2 := F0 m 9 ls []) rfl ?_
  refine lv_aload_n hx hb d_X_store_9 rfl (lv_at hl 0 rfl) ?_
  refine lv_iload_n hx hb d_X_store_10 rfl (lv_at hl 1 rfl) ?_
  refine lv_iload_n hx hb d_X_store_11 rfl (lv_at hl 2 rfl) ?_
  refine lv_iload_n hx hb d_X_store_12 rfl (lv_at hl 3 rfl) ?_
  refine ob_callT (E := R_Es) (X := []) (M := xW b F S tI tZ tA q) (M' := xW b F S tI tZ tA (kv_m q (k_make F S (ks_m q)).2)) (ob_runV (n := 3) (As := [.int p0, .int a, .int v]) (rest := []) (t_X_storeWord l D tI tZ tA tJ htr b F S s.heap.size q p0 a v) (hT.ok ob_cd_c (by decide +kernel) rfl rfl (Nat.le_of_ble_eq_true rfl) (Nat.le_of_ble_eq_true rfl) kn_X kc_X_storeWord) hx hb hml hown (hT.w k_X_75) (hT.w ki_X_storeWord) (hT.w kv_X_storeWord) (va_recv (q0 := 0) (ci := 0) hT.1 hP rfl rfl) pT.blind (pT.at hT (hz.on hS hpl) (⟨hxt, hq⟩) hP hD) rfl rfl hl.1 rfl (lv_room (Nat.le_of_ble_eq_true rfl)) d_X_store_13 ⟨Nat.le_of_ble_eq_true rfl, Nat.le_of_ble_eq_true rfl⟩) hP hD hS hA (fun x H locs hex hP hD hS => ?_)
  exact ob_leave hlocks (th_out htab) (fun t ht hW => ⟨x, rfl, by rw [ht]; exact hex, by rw [ht]; exact hP, hD, hS.F ht⟩) hS.2.2
end
section
set_option maxHeartbeats 4000000 in
set_option maxRecDepth 100000 in
/-- t_X_copy3 -/
theorem t_X_copy3 (l : Launch) (D : va_G) (tI tZ tA tJ : ClassId) (htr : l.stackTraces = false) (b : Nat → Nat) (F S sz : Nat) (q : KS) (p0 a d n : Int32) : ob_M l y_X_copy w_X_copy ({ frames := 8, cells := 1, slots := 6, locals := 155 }) (pT D tI tZ tA tJ [.ref (b 0), .int p0, .int a, .int d, .int n] (xW b F S tI tZ tA q) sz (¬ m_isP (ks_th q) p0 = 0 ∧ ¬ k_rng a n = 0 ∧ ¬ k_rng d n = 0 ∧ vp_in n 25 ∧ ¬ (k_copyL F S p0 a d (ix n) 0 (kv_cp q 0)).1 = 0 ∧ kc_ok F S p0 a d (ix n) 0 (kv_cp q 0))) (ob_qT D vcl R_Es (xW b F S tI tZ tA ((k_copyL F S p0 a d (ix n) 0 (kv_cp q 0)).2)) (va_A (xW b F S tI tZ tA q) sz)) 1 6 (va_A (xW b F S tI tZ tA q) sz) := by
  refine ob_ofW (by decide +kernel) ?_
  intro p e s m args below meth c s₁ B hml htab hv
  obtain ⟨rfl, hT, hz, ⟨hpr, hra, hrd, hn25, hno, hok⟩, hsz, hP, hD0⟩ := hv
  have hx := B.exec
  have hb := B.bytes
  have hr := B.returns
  have hlocks := B.notSynchronized
  have hown : s.vm.findClass R_X = some m.cls := findClass_of_methodNamed B.named
  have hl := lv_entry ([.ref (b 0), .int p0, .int a, .int d, .int n]) (n := 6) (Nat.le_of_ble_eq_true rfl)
  rw [lg_entry_eq]
  generalize (lg_sl ([.ref (b 0), .int p0, .int a, .int d, .int n]) ++ List.replicate (6 - (lg_sl ([.ref (b 0), .int p0, .int a, .int d, .int n])).length) Slot.unset).toArray = ls at hl ⊢
  have hl : lv_has ls 6 [(0, .ref (b 0)), (1, .int p0), (2, .int a), (3, .int d), (4, .int n)] := hl
  subst hsz
  have hD := hD0.self (sz := s.heap.size)
  have hpl : ∀ a, va_A (xW b F S tI tZ tA q) s.heap.size a → ∀ cell, s.heap[a]? = some cell → cell.vm.isStatics = false := va_A.plain hP
  generalize hAe : va_A (xW b F S tI tZ tA q) s.heap.size = A at hD hpl ⊢
  have hA : ∀ q : Nat, s.heap.size ≤ q → A q := fun q h => by rw [← hAe]; exact Or.inr h
  have hS : va_S A s.heap s.heap [] := va_S.rf
  refine lv_aload_n hx hb d_X_copy_0 rfl (lv_at hl 0 rfl) ?_
  refine lv_iload_n hx hb d_X_copy_1 rfl (lv_at hl 1 rfl) ?_
  refine ob_callR (v := none) (ob_runV (n := 1) (As := [.int p0]) (rest := []) (c_X_requireProcess l D tI tZ tA tJ b F S q p0) (hT.ok ob_cd_c (by decide +kernel) rfl rfl (Nat.le_of_ble_eq_true rfl) (Nat.le_of_ble_eq_true rfl) kn_X kc_X_requireProcess) hx hb hml hown (hT.w k_X_53) (hT.w ki_X_requireProcess) (hT.w kv_X_requireProcess) (va_recv (q0 := 0) (ci := 0) hT.1 hP rfl rfl) pR.blind (pR.at hT (hpr) hP) rfl rfl hl.1 rfl (lv_room (Nat.le_of_ble_eq_true rfl)) d_X_copy_2 ⟨Nat.le_of_ble_eq_true rfl, Nat.le_of_ble_eq_true rfl⟩) ?_
  refine W.eq (g2 := F0 m 5 ls []) rfl ?_
  refine lv_iload_n hx hb d_X_copy_5 rfl (lv_at hl 2 rfl) ?_
  refine lv_iload hx hb d_X_copy_6 (lv_at hl 4 rfl) ?_
  refine ob_callR (v := none) (ob_runS (n := 2) (As := [.int a, .int n]) (rest := []) (c_X_requireRange l D tI tZ tA tJ a n) (hT.ok ob_cd_c (by decide +kernel) rfl rfl (Nat.le_of_ble_eq_true rfl) (Nat.le_of_ble_eq_true rfl) kn_X kc_X_requireRange) hx hb hml hown (hT.w k_X_79) (hT.w ks_X_requireRange) pR.blind (pR.at hT (hra) (fun k q h => nomatch h)) rfl rfl hl.1 rfl (lv_room (Nat.le_of_ble_eq_true rfl)) d_X_copy_8 ⟨Nat.le_of_ble_eq_true rfl, Nat.le_of_ble_eq_true rfl⟩) ?_
  refine W.eq (g2 := F0 m 11 ls []) rfl ?_
  refine lv_iload_n hx hb d_X_copy_11 rfl (lv_at hl 3 rfl) ?_
  refine lv_iload hx hb d_X_copy_12 (lv_at hl 4 rfl) ?_
  refine ob_callR (v := none) (ob_runS (n := 2) (As := [.int d, .int n]) (rest := []) (c_X_requireRange l D tI tZ tA tJ d n) (hT.ok ob_cd_c (by decide +kernel) rfl rfl (Nat.le_of_ble_eq_true rfl) (Nat.le_of_ble_eq_true rfl) kn_X kc_X_requireRange) hx hb hml hown (hT.w k_X_79) (hT.w ks_X_requireRange) pR.blind (pR.at hT (hrd) (fun k q h => nomatch h)) rfl rfl hl.1 rfl (lv_room (Nat.le_of_ble_eq_true rfl)) d_X_copy_14 ⟨Nat.le_of_ble_eq_true rfl, Nat.le_of_ble_eq_true rfl⟩) ?_
  refine W.eq (g2 := F0 m 17 ls []) rfl ?_
  refine lv_aload_n hx hb d_X_copy_17 rfl (lv_at hl 0 rfl) ?_
  refine lv_iconst (v := 0) hx hb d_X_copy_18 (by decide) ?_
  refine va_put (D := D) (ci := 0) (v := .int 0) (ty := .int) hx hb hT.lays ly_X ty_X ty_X_ok n_X hown hT.1 hP hD hS 0 rfl rfl 3 (by decide) (hT.w k_X_82) (fun _ h => h) rfl (by decide +kernel) rfl rfl (Nat.le_of_ble_eq_true rfl) d_X_copy_19 (fun H locs hP hD hS => ?_)
  have hP : va_P D vcl (xW b F S tI tZ tA (kv_cp q 0)) H := hP
  have hD : va_D A (xW b F S tI tZ tA (kv_cp q 0)) := hD
  refine lv_iconst (v := 0) hx hb d_X_copy_22 (by decide) ?_
  refine lv_istore (lv' := [(5, .int 0), (0, .ref (b 0)), (1, .int p0), (2, .int a), (3, .int d), (4, .int n)]) hx hb d_X_copy_23 hl (by decide) rfl (fun ls hl => ?_)
  obtain ⟨N, hN, hnN⟩ := vp_in_of hn25 (by omega)
  have hixn : ix n = N := by rw [hnN]; exact nI_clamp (by omega)
  rw [hixn] at hok hno ⊢
  obtain ⟨RR, hRR⟩ : ∃ z, z = k_copyL F S p0 a d N 0 (kv_cp q 0) := ⟨_, rfl⟩
  rw [← hRR] at hno ⊢
  have loop : ∀ (f i : Nat) (k : KS) (ls : Array Slot) (H : Heap) (locs : List Loc), i + f = N → k_copyL F S p0 a d f i k = RR → kc_ok F S p0 a d f i k → lv_has ls 6 [(5, .int (nI i)), (0, .ref (b 0)), (1, .int p0), (2, .int a), (3, .int d), (4, .int n)] → va_P D vcl (xW b F S tI tZ tA k) H → va_D A (xW b F S tI tZ tA k) → va_S A s.heap H locs → W p l e ({ frames := 8, cells := 1, slots := 6, locals := 155 } : Room) s m ([.ref (b 0), .int p0, .int a, .int d, .int n] : List Value).toArray below meth c H locs 0 0 (ob_Q below (ob_qT D vcl R_Es (xW b F S tI tZ tA RR.2) A) ([.ref (b 0), .int p0, .int a, .int d, .int n] : List Value).toArray s 1 6 A) (F0 m 25 ls []) := by
    intro f
    induction f with
    | zero =>
      intro i k ls H locs hi hR hok hl hP hD hS
      exact absurd (show RR.1 = 0 by rw [← hR]; rfl) hno
    | succ f ih =>
      intro i k ls H locs hi hR hok hl hP hD hS
      obtain ⟨hxl, hok2, hok4⟩ := hok
      rw [k_copyL] at hR
      obtain ⟨r, hr0⟩ : ∃ z, z = k_loadW F S k p0 (a + nI i) := ⟨_, rfl⟩
      rw [← hr0] at hR hok2 hok4
      have hcL := c_X_loadWord l D tI tZ tA tJ b F S H.size k p0 (a + nI i)
      rw [← hr0] at hcL
      refine lv_iload hx hb d_X_copy_25 (lv_at hl 0 rfl) ?_
      refine lv_iload hx hb d_X_copy_27 (lv_at hl 5 rfl) ?_
      refine lv_icmp_ge (tgt := 66) hx hb d_X_copy_29 (by decide) (fun hc => absurd (by rw [hnN] at hc; exact hc) (nI_ge (by omega) (by omega))) (fun hc => ?_)
      refine lv_aload_n hx hb d_X_copy_32 rfl (lv_at hl 1 rfl) ?_
      refine lv_iload_n hx hb d_X_copy_33 rfl (lv_at hl 2 rfl) ?_
      refine lv_iload_n hx hb d_X_copy_34 rfl (lv_at hl 4 rfl) ?_
      refine lv_iload hx hb d_X_copy_35 (lv_at hl 0 rfl) ?_
      refine lv_iadd hx hb d_X_copy_37 ?_
      refine lv_aload_n hx hb d_X_copy_38 rfl (lv_at hl 1 rfl) ?_
      refine lv_iload_n hx hb d_X_copy_39 rfl (lv_at hl 2 rfl) ?_
      refine lv_iload_n hx hb d_X_copy_40 rfl (lv_at hl 3 rfl) ?_
      refine lv_iload hx hb d_X_copy_41 (lv_at hl 0 rfl) ?_
      refine lv_iadd hx hb d_X_copy_43 ?_
      refine ob_callW (v := (some (.int r.1))) (X := []) (M := xW b F S tI tZ tA k) (M' := xW b F S tI tZ tA r.2) (ob_runV (n := 2) (As := [.int p0, .int (a + nI i)]) (rest := [.int (d + (nI i)), .int p0, .ref (b 0)]) (hcL) (hT.ok ob_cd_c (by decide +kernel) rfl rfl (Nat.le_of_ble_eq_true rfl) (Nat.le_of_ble_eq_true rfl) kn_X kc_X_loadWord) hx hb hml hown (hT.w k_X_72) (hT.w ki_X_loadWord) (hT.w kv_X_loadWord) (va_recv (q0 := 0) (ci := 0) hT.1 hP rfl rfl) pW.blind (pW.at hT (hxl) hP hD) rfl rfl hl.1 rfl (lv_room (Nat.le_of_ble_eq_true rfl)) d_X_copy_44 ⟨Nat.le_of_ble_eq_true rfl, Nat.le_of_ble_eq_true rfl⟩) hP hD hS hA (fun H locs hP hD hS => ?_)
      have hP : va_P D vcl (xW b F S tI tZ tA r.2) H := hP
      have hD : va_D A (xW b F S tI tZ tA r.2) := hD
      refine W.eq (g2 := F0 m 47 ls [.int r.1, .int (d + (nI i)), .int p0, .ref (b 0)]) rfl ?_
      by_cases hn0 : k_no F S r.2 p0 ((d + nI i) / 4) = 0
      · rw [if_pos hn0] at hR
        obtain ⟨hxs, hok3⟩ := hok2 hn0
        refine ob_callW (v := none) (X := []) (M := xW b F S tI tZ tA r.2) (M' := xW b F S tI tZ tA (k_storeW F S r.2 p0 (d + nI i) r.1)) (ob_runV (n := 3) (As := [.int p0, .int (d + nI i), .int r.1]) (rest := []) (c_X_storeWord l D tI tZ tA tJ b F S H.size r.2 p0 (d + nI i) r.1) (hT.ok ob_cd_c (by decide +kernel) rfl rfl (Nat.le_of_ble_eq_true rfl) (Nat.le_of_ble_eq_true rfl) kn_X kc_X_storeWord) hx hb hml hown (hT.w k_X_75) (hT.w ki_X_storeWord) (hT.w kv_X_storeWord) (va_recv (q0 := 0) (ci := 0) hT.1 hP rfl rfl) pW.blind (pW.at hT (hxs) hP hD) rfl rfl hl.1 rfl (lv_room (Nat.le_of_ble_eq_true rfl)) d_X_copy_47 ⟨Nat.le_of_ble_eq_true rfl, Nat.le_of_ble_eq_true rfl⟩) hP hD hS hA (fun H locs hP hD hS => ?_)
        have hP : va_P D vcl (xW b F S tI tZ tA (k_storeW F S r.2 p0 (d + nI i) r.1)) H := hP
        have hD : va_D A (xW b F S tI tZ tA (k_storeW F S r.2 p0 (d + nI i) r.1)) := hD
        refine W.eq (g2 := F0 m 50 ls []) rfl ?_
        refine lv_aload_n hx hb d_X_copy_50 rfl (lv_at hl 1 rfl) ?_
        refine lv_dup hx hb d_X_copy_51 rfl ?_
        refine va_get (D := D) (ci := 0) (v := .int (ks_cp (k_storeW F S r.2 p0 (d + nI i) r.1))) hx hb hT.lays ly_X hown hT.1 hP 0 rfl rfl 3 (by decide) (hT.w k_X_82) (fun _ h => h) rfl d_X_copy_52 ?_
        refine lv_iconst (v := 1) hx hb d_X_copy_55 (by decide) ?_
        refine lv_iadd hx hb d_X_copy_56 ?_
        refine va_put (D := D) (ci := 0) (v := .int ((ks_cp (k_storeW F S r.2 p0 (d + nI i) r.1)) + 1)) (ty := .int) hx hb hT.lays ly_X ty_X ty_X_ok n_X hown hT.1 hP hD hS 0 rfl rfl 3 (by decide) (hT.w k_X_82) (fun _ h => h) rfl (by decide +kernel) rfl rfl (Nat.le_of_ble_eq_true rfl) d_X_copy_57 (fun H locs hP hD hS => ?_)
        have hP : va_P D vcl (xW b F S tI tZ tA (kv_cp (k_storeW F S r.2 p0 (d + nI i) r.1) ((ks_cp (k_storeW F S r.2 p0 (d + nI i) r.1)) + 1))) H := hP
        have hD : va_D A (xW b F S tI tZ tA (kv_cp (k_storeW F S r.2 p0 (d + nI i) r.1) ((ks_cp (k_storeW F S r.2 p0 (d + nI i) r.1)) + 1))) := hD
        refine lv_iinc (k := 0) (v := nI (i + 1)) (lv' := [(5, .int (nI (i + 1))), (0, .ref (b 0)), (1, .int p0), (2, .int a), (3, .int d), (4, .int n)]) hx hb d_X_copy_60 hl rfl (nI_1 i) (by decide) rfl (fun ls hl => ?_)
        refine lv_goto (tgt := 25) hx hb d_X_copy_63 (by decide) ?_
        exact ih (i + 1) _ ls H locs (by omega) hR hok3 (lv_sub hl [0, 1, 2, 3, 4, 5] rfl) hP hD hS
      · rw [if_neg hn0] at hR
        subst hR
        refine ob_callT (E := R_Es) (X := []) (M := xW b F S tI tZ tA r.2) (M' := xW b F S tI tZ tA (kv_m r.2 (k_make F S (ks_m r.2)).2)) (ob_runV (n := 3) (As := [.int p0, .int (d + nI i), .int r.1]) (rest := []) (t_X_storeWord l D tI tZ tA tJ htr b F S H.size r.2 p0 (d + nI i) r.1) (hT.ok ob_cd_c (by decide +kernel) rfl rfl (Nat.le_of_ble_eq_true rfl) (Nat.le_of_ble_eq_true rfl) kn_X kc_X_storeWord) hx hb hml hown (hT.w k_X_75) (hT.w ki_X_storeWord) (hT.w kv_X_storeWord) (va_recv (q0 := 0) (ci := 0) hT.1 hP rfl rfl) pT.blind (pT.at hT (hz.on hS hpl) (⟨hok4 hn0, hn0⟩) hP hD) rfl rfl hl.1 rfl (lv_room (Nat.le_of_ble_eq_true rfl)) d_X_copy_47 ⟨Nat.le_of_ble_eq_true rfl, Nat.le_of_ble_eq_true rfl⟩) hP hD hS hA (fun x H locs hex hP hD hS => ?_)
        exact ob_leave hlocks (th_out htab) (fun t ht hW => ⟨x, rfl, by rw [ht]; exact hex, by rw [ht]; exact hP, hD, hS.F ht⟩) hS.2.2
  exact loop N 0 (kv_cp q 0) ls H locs (by omega) hRR.symm hok (lv_sub hl [0, 1, 2, 3, 4, 5] rfl) hP hD hS
end
section
/-! a handler that is found by a class that is only linked so far -/
/-- the search gives h, and leaves the tables vm' -/
def ct_F (e : Env) (s : State) (f : JFrame) (a : Addr) (h : Handler) (vm' : Vm) : Prop :=
  ∀ (Q : Handler → Pre) (E : CtlPost) (d : Bool) (acts : List Action), wp (findHandler f a) Q E e d acts s ↔ Q h d acts (s.setVm vm')
theorem ct_step {e : Env} {s : State} {a : Addr} {f : JFrame} {r : List Frame} {pc : Nat} {vm' : Vm} (hfind : ct_F e s f a (.found pc) vm') :
    (stepThrowing e s a (.java f :: r)).Is ((s.setVm vm').setFrames (.java { f with pc := pc, stack := [.ref a] } :: r)) [] := by
  simp only [stepThrowing, searchFrame, vmDo]
  generalize hr : Sem.go _ e false [] s = res
  obtain ⟨as, rfl, ha⟩ := Sem.eq_ok_of hr (a := Handler.found pc) (s' := s.setVm vm') (acts' := []) (by simp [hfind _ _ _ _])
  exact ⟨rfl, ha⟩
theorem ct_caught {tb : Tables} {e : Env} {s target : State} {g : JFrame} {c : Code} {below : List Frame} {a : Addr} {vm' : Vm} (h : At s g.method c below) {pc : Nat} (hfind : ct_F e ((s.setTop g).pushFrame (.throwing a)) g a (.found pc) vm')
    (hrest : Steps tb e below ((s.setVm vm').setTop { g with pc := pc, stack := [.ref a] }) target) :
    Steps tb e below ((s.setTop g).pushFrame (.throwing a)) target := by
  obtain ⟨hgo, hw⟩ := h.throwing a
  refine Steps.head hgo hw ?_
  rw [stepThread_throwing (frames_entered h.top _), (ct_step (s := (s.setTop g).pushFrame (.throwing a)) hfind).1]
  obtain ⟨g₀, hg⟩ := Option.isSome_iff_exists.mp h.top
  obtain ⟨r, hr⟩ := State.topJava?_eq_some.mp hg
  have hr' : (s.setVm vm').frames = .java g₀ :: r := hr
  rw [State.setTop_of_frames _ hr'] at hrest
  rw [State.pushFrame, State.setTop_of_frames _ hr, hr]
  show Steps tb e below ((((s.setVm vm').setFrames _).setFrames _).setFrames _) target
  rw [State.setFrames_setFrames, State.setFrames_setFrames]
  exact hrest
/-- one entry of the table, that covers the place: it names a class that is linked; the object is of it, or is not -/
theorem ct_go {Q : Handler → Pre} {E : CtlPost} {e : Env} {d : Bool} {acts : List Action} {s : State} {f : JFrame} {a : Addr} {x : ExceptionTableEntry} {t : List ExceptionTableEntry} {c : ClassId} {cell : Cell} {yes : Bool} (hx : covers x f.pc = true) (h0 : x.catchType ≠ 0)
    (hl : s.vm.ClassLinks e.platform f.method.cls x.catchType c) (hcell : s.heap[a]? = some cell) (hobj : ∀ k, cell.vm ≠ .statics k)
    (hk : ∃ k, s.vm.classes[cell.cls]? = some k) (hc : ∃ k, s.vm.classes[c]? = some k) (hno : s.vm.assignable cell.cls c = yes) :
    wp (findHandler.go f a (x :: t)) Q E e d acts s ↔ (match yes with | true => Q (.found x.handlerPc) d acts (s.setVm (s.vm.noted f.method.cls x.catchType (.cls c))) | false => wp (findHandler.go f a t) Q E e d acts (s.setVm (s.vm.noted f.method.cls x.catchType (.cls c)))) := by
  simp only [covers] at hx
  obtain ⟨ha, ht⟩ := (resolveClass_links e.toSetting hl).op (op := VmOp.resolveClass f.method.cls x.catchType) rfl
  have hal : s.vm.Alike (s.vm.noted f.method.cls x.catchType (.cls c)) := (Vm.Alike.refl s.vm).noted _ _ _
  obtain ⟨k1, hk1⟩ := hk
  obtain ⟨k2, hk2⟩ := hc
  obtain ⟨k1', hk1', -⟩ := hal.2.2 _ _ hk1
  obtain ⟨k2', hk2', -⟩ := hal.2.2 _ _ hk2
  have hno' : (s.vm.noted f.method.cls x.catchType (.cls c)).assignable cell.cls c = yes := by rw [hal.assignable]; exact hno
  cases yes <;> simp [findHandler.go, hx, h0, ha, ht, hcell, hobj, hk1', hk2', hno', VmOp.dirties, VmOp.acts]
section CT
variable {p : Program} {l : Launch} {e : Env} {R : Room} {s : State} {m : MethodId} {args : Array Value} {below : List Frame} {meth : Method} {c : Code} {H : Heap} {locs : List Loc} {cells slots : Nat} {Q : State → Prop} {pc : Nat} {ls : Array Slot} {rest : List Value}
/-- the entries ahead of it are passed: the class named there isn't the object's -/
theorem ct_walk {own E : String} {cX : ClassId} {f : JFrame} {a : Addr} {cell : Cell} (hpl : e.platform.magicAccessors = ({} : Platform).magicAccessors) (hf : f.method = m) (hown : s.vm.findClass own = some m.cls) (hcX : s.vm.findClass E = some cX) (hcc : cell.cls = cX) (hobj : ∀ k, cell.vm ≠ .statics k)
    (x : ExceptionTableEntry) (suf : List ExceptionTableEntry) (hx : covers x f.pc = true) (h0 : x.catchType ≠ 0) {name : String} (hlink : (Cond.classLink own x.catchType name).before args s = true) (hcast : (Cond.castable E name).before args s = true) :
    ∀ (pre : List ExceptionTableEntry) (S : State), s.WarmedH S.vm → S.heap[a]? = some cell → (∀ y ∈ pre, covers y f.pc = true ∧ y.catchType ≠ 0 ∧ ∃ nm : String, (Cond.classLink own y.catchType nm).before args s = true ∧ va_Nc E nm s) →
      ∃ vm', s.WarmedH vm' ∧ ∀ (Q : Handler → Pre) (E : CtlPost) (d : Bool) (acts : List Action), wp (findHandler.go f a (pre ++ x :: suf)) Q E e d acts S ↔ Q (.found x.handlerPc) d acts (S.setVm vm') := by
  subst hf
  subst hcc
  obtain ⟨k0, hk0, -⟩ := Vm.findClass_spec hcX
  intro pre
  induction pre with
  | nil =>
    intro S hW hcell _
    obtain ⟨k0', hk0', -⟩ := hW.alike.2.2 _ _ hk0
    obtain ⟨c3, c4, hc3, hc4, hasg⟩ := Cond.castable_spec hcast
    cases hc3.symm.trans hcX
    obtain ⟨c5, hc5, hl⟩ := Cond.classLink_spec hown hlink e.platform hpl
    cases hc4.symm.trans hc5
    obtain ⟨dk, _, _, kt, hd, _, _, _, _, hkt, _, hopen⟩ := hl.here
    obtain ⟨kt', hkt', -⟩ := hW.alike.2.2 _ _ hkt
    refine ⟨_, hW.noted hd hopen (State.rightAt_cls hl), fun Q E d acts => ?_⟩
    rw [List.nil_append]
    exact ct_go (yes := true) hx h0 (hW.classLinks hl) hcell hobj ⟨k0', hk0'⟩ ⟨kt', hkt'⟩ (by rw [hW.alike.assignable]; exact hasg)
  | cons y ys ih =>
    intro S hW hcell hpass
    obtain ⟨k0', hk0', -⟩ := hW.alike.2.2 _ _ hk0
    obtain ⟨hcov, hy0, nm, hln, c8, c9, h1, h2, h3⟩ := hpass y List.mem_cons_self
    cases h1.symm.trans hcX
    obtain ⟨c5, hc5, hl⟩ := Cond.classLink_spec hown hln e.platform hpl
    cases h2.symm.trans hc5
    obtain ⟨dk, _, _, kt, hd, _, _, _, _, hkt, _, hopen⟩ := hl.here
    obtain ⟨kt', hkt', -⟩ := hW.alike.2.2 _ _ hkt
    obtain ⟨vm', hW', hq⟩ := ih (S.setVm (S.vm.noted f.method.cls y.catchType (.cls c9))) (hW.noted hd hopen (State.rightAt_cls hl)) hcell (fun z hz => hpass z (List.mem_cons_of_mem _ hz))
    refine ⟨vm', hW', fun Q E d acts => ?_⟩
    rw [List.cons_append]
    exact (ct_go (yes := false) hcov hy0 (hW.classLinks hl) hcell hobj ⟨k0', hk0'⟩ ⟨kt', hkt'⟩ (by rw [hW.alike.assignable]; exact h3)).trans (hq Q E d acts)
/-- into a handler -/
theorem ct_catch {own name E : String} {q : Addr} (hown : s.vm.findClass own = some m.cls) (pre : List ExceptionTableEntry) (x : ExceptionTableEntry) (suf : List ExceptionTableEntry) (hsplit : c.exceptionTable.toList = pre ++ x :: suf)
    (hpass : ∀ y ∈ pre, covers y pc = true ∧ y.catchType ≠ 0 ∧ ∃ nm : String, (Cond.classLink own y.catchType nm).before args s = true ∧ va_Nc E nm s) (hx : covers x pc = true) (h0 : x.catchType ≠ 0)
    (hlink : (Cond.classLink own x.catchType name).before args s = true) (hcast : (Cond.castable E name).before args s = true) (hex : ob_ex E q s H)
    (kk : W p l e R s m args below meth c H locs cells slots Q (F0 m x.handlerPc ls [.ref q])) : ob_T p l e R s m args below meth c H locs cells slots Q (F0 m pc ls rest) q := by
  intro T hT X
  have hpl : e.platform.magicAccessors = ({} : Platform).magicAccessors := by rw [X.admits.platform]
  obtain ⟨cell, hc1, hc2, hc3⟩ := hex
  obtain ⟨vm', hW', hq⟩ := ct_walk (e := e) (args := args) (f := F0 m pc ls rest) (a := q) (cell := cell) hpl rfl hown hc3 rfl (VmData.ne_statics_of (by rw [hc2]; rfl)) x suf hx h0 hlink hcast pre ((T.setTop (F0 m pc ls rest)).pushFrame (.throwing q)) X.warmed (by show T.heap[q]? = some cell; rw [hT]; exact hc1) hpass
  have hf : ct_F e ((T.setTop (F0 m pc ls rest)).pushFrame (.throwing q)) (F0 m pc ls rest) q (.found x.handlerPc) vm' := fun Q E d acts => by
    rw [W.findHandler_eq X.method' X.code, hsplit]
    exact hq Q E d acts
  obtain ⟨t, a1, b1⟩ := kk (T.setVm vm') hT (X.noted hW')
  exact ⟨t, ct_caught X.here hf a1, b1⟩
end CT
end
section
/-- what the law's own array of one long holds behind a call: the answer, where nothing was thrown -/
def k_ans (thr : Int32) (v : Nat → Int64) (x : Int64) : Nat → Int64 := if thr = 0 then vp_updL v 0 x else v
theorem k_ans_0 {v : Nat → Int64} {x : Int64} : k_ans 0 v x = vp_updL v 0 x := if_pos rfl
theorem k_ans_no {thr : Int32} {v : Nat → Int64} {x : Int64} (h : ¬ thr = 0) : k_ans thr v x = v := if_neg h
theorem cs_Es : Cond.castable R_Es R_Es ∈ lw_tbl := by decide +kernel
theorem cs_En : Cond.castable R_En R_En ∈ lw_tbl := by decide +kernel
theorem cs_Ei : Cond.castable R_Ei R_Ei ∈ lw_tbl := by decide +kernel
/-- the class's calls, with what they throw: answer, thrown, state -/
def kk_spawn (q : KS) : Int32 × Int32 × KS := if m_lowP (ks_th q) 6 0 = -1 then (0, 1, q) else (m_lowP (ks_th q) 6 0, 0, k_spawn q)
def kk_fork (q : KS) (p : Int32) : Int32 × Int32 × KS := if m_isP (ks_th q) p = 0 then (0, 1, q) else if m_lowP (ks_th q) 6 0 = -1 then (0, 2, q) else (m_lowP (ks_th q) 6 0, 0, k_forkL p (m_lowP (ks_th q) 6 0) 6 0 (k_spawn q))
def kk_exit (q : KS) (p : Int32) : Int32 × Int32 × KS := if m_isP (ks_th q) p = 0 then (0, 1, q) else ((k_exitL p 6 0 0 q).1, 0, kv_th (k_exitL p 6 0 0 q).2 (upd (ks_th (k_exitL p 6 0 0 q).2) (ix p) 0))
def kk_drop (q : KS) (p x : Int32) : Int32 × Int32 × KS := if m_isP (ks_th q) p = 0 then (0, 1, q) else if x < 0 then (0, 2, q) else if x < 6 then ((k_empty q p x).1, 0, (k_empty q p x).2) else (0, 2, q)
def kk_load (F S : Nat) (q : KS) (p a : Int32) : Int32 × Int32 × KS := if m_isP (ks_th q) p = 0 then (0, 1, q) else if m_isA a = 0 then (0, 2, q) else ((k_loadW F S q p a).1, 0, (k_loadW F S q p a).2)
def kk_store (F S : Nat) (q : KS) (p a x : Int32) : Int32 × KS := if m_isP (ks_th q) p = 0 then (1, q) else if m_isA a = 0 then (2, q) else if k_no F S q p (a / 4) = 0 then (0, k_storeW F S q p a x) else (3, kv_m q (k_make F S (ks_m q)).2)
def kk_copy (F S : Nat) (q : KS) (p a d n : Int32) : Int32 × KS := if m_isP (ks_th q) p = 0 then (1, q) else if k_rng a n = 0 then (2, q) else if k_rng d n = 0 then (2, q) else
  if (k_copyL F S p a d (ix n) 0 (kv_cp q 0)).1 = 0 then (0, (k_copyL F S p a d (ix n) 0 (kv_cp q 0)).2) else (3, (k_copyL F S p a d (ix n) 0 (kv_cp q 0)).2)

set_option maxHeartbeats 4000000 in
set_option maxRecDepth 100000 in
/-- L_spawn -/
theorem c_L_spawn (l : Launch) (D : va_G) (tI tZ tA tJ : ClassId) (htr : l.stackTraces = false) (b : Nat → Nat) (F S sz : Nat) (q : KS) (j : Nat) (v : Nat → Int64)  : ob_M l y_L_spawn w_L_spawn ({ frames := 7, cells := 1, slots := 6, locals := 111 }) (pT D tI tZ tA tJ [.ref (b 0), .ref j] ([(j, .inl (tJ, 1, .inr (.inl v)))] ++ xW b F S tI tZ tA q) sz (True)) (ob_qW D vcl (some (.int ((kk_spawn q).2.1))) ([(j, .inl (tJ, 1, .inr (.inl (k_ans ((kk_spawn q).2.1) v (((kk_spawn q).1).toInt64)))))] ++ xW b F S tI tZ tA ((kk_spawn q).2.2)) (va_A ([(j, .inl (tJ, 1, .inr (.inl v)))] ++ xW b F S tI tZ tA q) sz)) 1 6 (va_A ([(j, .inl (tJ, 1, .inr (.inl v)))] ++ xW b F S tI tZ tA q) sz) := by
  refine ob_ofWH (by decide +kernel) ?_
  intro p e s m args below meth c s₁ B hml htab hv
  obtain ⟨rfl, hT, hz, -, hsz, hP, hD0⟩ := hv
  have hx := B.exec
  have hb := B.bytes
  have hr := B.returns
  have hlocks := B.notSynchronized
  have hown : s.vm.findClass R_L = some m.cls := findClass_of_methodNamed B.named
  have hl := lv_entry ([.ref (b 0), .ref j]) (n := 3) (Nat.le_of_ble_eq_true rfl)
  rw [lg_entry_eq]
  generalize (lg_sl ([.ref (b 0), .ref j]) ++ List.replicate (3 - (lg_sl ([.ref (b 0), .ref j])).length) Slot.unset).toArray = ls at hl ⊢
  have hl : lv_has ls 3 [(0, .ref (b 0)), (1, .ref j)] := hl
  subst hsz
  have hD := hD0.self (sz := s.heap.size)
  have hpl : ∀ a, va_A ([(j, .inl (tJ, 1, .inr (.inl v)))] ++ xW b F S tI tZ tA q) s.heap.size a → ∀ cell, s.heap[a]? = some cell → cell.vm.isStatics = false := va_A.plain hP
  generalize hAe : va_A ([(j, .inl (tJ, 1, .inr (.inl v)))] ++ xW b F S tI tZ tA q) s.heap.size = A at hD hpl ⊢
  have hA : ∀ q : Nat, s.heap.size ≤ q → A q := fun q h => by rw [← hAe]; exact Or.inr h
  have hS : va_S A s.heap s.heap [] := va_S.rf
  refine lv_aload_n hx hb d_L_spawn_0 rfl (lv_at hl 1 rfl) ?_
  refine lv_iconst (v := 0) hx hb d_L_spawn_1 (by decide) ?_
  refine lv_aload_n hx hb d_L_spawn_2 rfl (lv_at hl 0 rfl) ?_
  by_cases hc : m_lowP (ks_th q) 6 0 = -1
  · have e1 : kk_spawn q = (0, 1, q) := if_pos hc
    rw [show (kk_spawn q).1 = 0 by rw [e1]]
    rw [show (kk_spawn q).2.1 = 1 by rw [e1]]
    rw [show (kk_spawn q).2.2 = q by rw [e1]]
    rw [k_ans_no (by decide)]
    refine ob_callT (E := R_Es) (X := [(j, .inl (tJ, 1, .inr (.inl v)))]) (M := xW b F S tI tZ tA q) (M' := xW b F S tI tZ tA q) (ob_runV (n := 0) (As := []) (rest := [.int 0, .ref j]) (t_X_spawn l D tI tZ tA tJ htr b F S s.heap.size q) (hT.ok ob_cd_c (by decide +kernel) rfl rfl (Nat.le_of_ble_eq_true rfl) (Nat.le_of_ble_eq_true rfl) kn_X kc_X_spawn) hx hb hml hown (hT.w k_L_7) (hT.w ki_X_spawn) (hT.w kv_X_spawn) (va_recv (q0 := 1) (ci := 0) hT.1 hP rfl rfl) pT.blind (pT.at hT (hz.on hS hpl) (hc) (ob_Pr hP) (ob_Dr hD)) rfl rfl hl.1 rfl (lv_room (Nat.le_of_ble_eq_true rfl)) d_L_spawn_3 ⟨Nat.le_of_ble_eq_true rfl, Nat.le_of_ble_eq_true rfl⟩) hP hD hS hA (fun xc H locs hex hP hD hS => ?_)
    have hP : va_P D vcl ([(j, .inl (tJ, 1, .inr (.inl v)))] ++ xW b F S tI tZ tA q) H := hP
    have hD : va_D A ([(j, .inl (tJ, 1, .inr (.inl v)))] ++ xW b F S tI tZ tA q) := hD
    refine ct_catch (own := R_L) (name := R_Es) (E := R_Es) hown [] ⟨0, 8, 11, 13⟩ [] (by rw [htab]; rfl) (fun y hy => nomatch hy) rfl (by decide) (hT.w k_L_13) (hT.2.1 (.castable R_Es R_Es) cs_Es rfl _) hex ?_
    refine lv_astore_n (lv' := [(2, .ref xc), (0, .ref (b 0)), (1, .ref j)]) hx hb d_L_spawn_11 rfl hl (by decide) rfl (fun ls hl => ?_)
    refine lv_iconst (v := 1) hx hb d_L_spawn_12 (by decide) ?_
    refine ob_iret hlocks hx hb hr d_L_spawn_13 hS.2.2 (fun t ht hW => ?_)
    exact ⟨rfl, by rw [ht]; exact hP, hD, hS.F ht⟩
  · have e1 : kk_spawn q = (m_lowP (ks_th q) 6 0, 0, k_spawn q) := if_neg hc
    rw [show (kk_spawn q).1 = m_lowP (ks_th q) 6 0 by rw [e1]]
    rw [show (kk_spawn q).2.1 = 0 by rw [e1]]
    rw [show (kk_spawn q).2.2 = k_spawn q by rw [e1]]
    rw [k_ans_0]
    refine ob_callW (v := (some (.int (m_lowP (ks_th q) 6 0)))) (X := [(j, .inl (tJ, 1, .inr (.inl v)))]) (M := xW b F S tI tZ tA q) (M' := xW b F S tI tZ tA (k_spawn q)) (ob_runV (n := 0) (As := []) (rest := [.int 0, .ref j]) (c_X_spawn l D tI tZ tA tJ b F S s.heap.size q) (hT.ok ob_cd_c (by decide +kernel) rfl rfl (Nat.le_of_ble_eq_true rfl) (Nat.le_of_ble_eq_true rfl) kn_X kc_X_spawn) hx hb hml hown (hT.w k_L_7) (hT.w ki_X_spawn) (hT.w kv_X_spawn) (va_recv (q0 := 1) (ci := 0) hT.1 hP rfl rfl) pW.blind (pW.at hT (hc) (ob_Pr hP) (ob_Dr hD)) rfl rfl hl.1 rfl (lv_room (Nat.le_of_ble_eq_true rfl)) d_L_spawn_3 ⟨Nat.le_of_ble_eq_true rfl, Nat.le_of_ble_eq_true rfl⟩) hP hD hS hA (fun H locs hP hD hS => ?_)
    have hP : va_P D vcl ([(j, .inl (tJ, 1, .inr (.inl v)))] ++ xW b F S tI tZ tA (k_spawn q)) H := hP
    have hD : va_D A ([(j, .inl (tJ, 1, .inr (.inl v)))] ++ xW b F S tI tZ tA (k_spawn q)) := hD
    refine W.eq (g2 := F0 m 6 ls [.int (m_lowP (ks_th q) 6 0), .int 0, .ref j]) rfl ?_
    refine W.widen (k := 1) (n := 6) (Nat.le_of_ble_eq_true rfl) (Nat.le_of_ble_eq_true rfl) ?_
    refine lv_i2l hx hb d_L_spawn_6 rfl ?_
    refine va_last hx hb hT.1 hP hD hS 0 3 rfl rfl (vp_in_nI (n := 0) (N := 1) (by omega) (by omega)) d_L_spawn_7 (fun H locs hP hD hS => ?_)
    have hP : va_P D vcl ([(j, .inl (tJ, 1, .inr (.inl (vp_updL v 0 ((m_lowP (ks_th q) 6 0).toInt64)))))] ++ xW b F S tI tZ tA (k_spawn q)) H := hP
    have hD : va_D A ([(j, .inl (tJ, 1, .inr (.inl (vp_updL v 0 ((m_lowP (ks_th q) 6 0).toInt64)))))] ++ xW b F S tI tZ tA (k_spawn q)) := hD
    refine lv_goto (tgt := 14) hx hb d_L_spawn_8 (by decide) ?_
    refine lv_iconst (v := 0) hx hb d_L_spawn_14 (by decide) ?_
    refine ob_iret hlocks hx hb hr d_L_spawn_15 hS.2.2 (fun t ht hW => ?_)
    exact ⟨rfl, by rw [ht]; exact hP, hD, hS.F ht⟩

set_option maxHeartbeats 4000000 in
set_option maxRecDepth 100000 in
/-- L_fork -/
theorem c_L_fork (l : Launch) (D : va_G) (tI tZ tA tJ : ClassId) (htr : l.stackTraces = false) (b : Nat → Nat) (F S sz : Nat) (q : KS) (j : Nat) (v : Nat → Int64) (p0 : Int32) : ob_M l y_L_fork w_L_fork ({ frames := 8, cells := 1, slots := 6, locals := 135 }) (pT D tI tZ tA tJ [.ref (b 0), .int p0, .ref j] ([(j, .inl (tJ, 1, .inr (.inl v)))] ++ xW b F S tI tZ tA q) sz (¬ m_isP (ks_th q) p0 = 0 → ¬ m_lowP (ks_th q) 6 0 = -1 → kf_ok F S p0 (m_lowP (ks_th q) 6 0) 6 0 (k_spawn q))) (ob_qW D vcl (some (.int ((kk_fork q p0).2.1))) ([(j, .inl (tJ, 1, .inr (.inl (k_ans ((kk_fork q p0).2.1) v (((kk_fork q p0).1).toInt64)))))] ++ xW b F S tI tZ tA ((kk_fork q p0).2.2)) (va_A ([(j, .inl (tJ, 1, .inr (.inl v)))] ++ xW b F S tI tZ tA q) sz)) 1 6 (va_A ([(j, .inl (tJ, 1, .inr (.inl v)))] ++ xW b F S tI tZ tA q) sz) := by
  refine ob_ofWH (by decide +kernel) ?_
  intro p e s m args below meth c s₁ B hml htab hv
  obtain ⟨rfl, hT, hz, hok, hsz, hP, hD0⟩ := hv
  have hx := B.exec
  have hb := B.bytes
  have hr := B.returns
  have hlocks := B.notSynchronized
  have hown : s.vm.findClass R_L = some m.cls := findClass_of_methodNamed B.named
  have hl := lv_entry ([.ref (b 0), .int p0, .ref j]) (n := 4) (Nat.le_of_ble_eq_true rfl)
  rw [lg_entry_eq]
  generalize (lg_sl ([.ref (b 0), .int p0, .ref j]) ++ List.replicate (4 - (lg_sl ([.ref (b 0), .int p0, .ref j])).length) Slot.unset).toArray = ls at hl ⊢
  have hl : lv_has ls 4 [(0, .ref (b 0)), (1, .int p0), (2, .ref j)] := hl
  subst hsz
  have hD := hD0.self (sz := s.heap.size)
  have hpl : ∀ a, va_A ([(j, .inl (tJ, 1, .inr (.inl v)))] ++ xW b F S tI tZ tA q) s.heap.size a → ∀ cell, s.heap[a]? = some cell → cell.vm.isStatics = false := va_A.plain hP
  generalize hAe : va_A ([(j, .inl (tJ, 1, .inr (.inl v)))] ++ xW b F S tI tZ tA q) s.heap.size = A at hD hpl ⊢
  have hA : ∀ q : Nat, s.heap.size ≤ q → A q := fun q h => by rw [← hAe]; exact Or.inr h
  have hS : va_S A s.heap s.heap [] := va_S.rf
  refine lv_aload_n hx hb d_L_fork_0 rfl (lv_at hl 2 rfl) ?_
  refine lv_iconst (v := 0) hx hb d_L_fork_1 (by decide) ?_
  refine lv_aload_n hx hb d_L_fork_2 rfl (lv_at hl 0 rfl) ?_
  refine lv_iload_n hx hb d_L_fork_3 rfl (lv_at hl 1 rfl) ?_
  by_cases hc : m_isP (ks_th q) p0 = 0
  · have e1 : kk_fork q p0 = (0, 1, q) := if_pos hc
    rw [show (kk_fork q p0).1 = 0 by rw [e1]]
    rw [show (kk_fork q p0).2.1 = 1 by rw [e1]]
    rw [show (kk_fork q p0).2.2 = q by rw [e1]]
    rw [k_ans_no (by decide)]
    refine ob_callT (E := R_En) (X := [(j, .inl (tJ, 1, .inr (.inl v)))]) (M := xW b F S tI tZ tA q) (M' := xW b F S tI tZ tA q) (ob_runV (n := 1) (As := [.int p0]) (rest := [.int 0, .ref j]) (t_X_fork1 l D tI tZ tA tJ htr b F S s.heap.size q p0) (hT.ok ob_cd_c (by decide +kernel) rfl rfl (Nat.le_of_ble_eq_true rfl) (Nat.le_of_ble_eq_true rfl) kn_X kc_X_fork) hx hb hml hown (hT.w k_L_15) (hT.w ki_X_fork) (hT.w kv_X_fork) (va_recv (q0 := 1) (ci := 0) hT.1 hP rfl rfl) pT.blind (pT.at hT (hz.on hS hpl) (hc) (ob_Pr hP) (ob_Dr hD)) rfl rfl hl.1 rfl (lv_room (Nat.le_of_ble_eq_true rfl)) d_L_fork_4 ⟨Nat.le_of_ble_eq_true rfl, Nat.le_of_ble_eq_true rfl⟩) hP hD hS hA (fun xc H locs hex hP hD hS => ?_)
    have hP : va_P D vcl ([(j, .inl (tJ, 1, .inr (.inl v)))] ++ xW b F S tI tZ tA q) H := hP
    have hD : va_D A ([(j, .inl (tJ, 1, .inr (.inl v)))] ++ xW b F S tI tZ tA q) := hD
    refine ct_catch (own := R_L) (name := R_En) (E := R_En) hown [] ⟨0, 9, 12, 19⟩ [⟨0, 9, 15, 13⟩] (by rw [htab]; rfl) (fun y hy => nomatch hy) rfl (by decide) (hT.w k_L_19) (hT.2.1 (.castable R_En R_En) cs_En rfl _) hex ?_
    refine lv_astore_n (lv' := [(3, .ref xc), (0, .ref (b 0)), (1, .int p0), (2, .ref j)]) hx hb d_L_fork_12 rfl hl (by decide) rfl (fun ls hl => ?_)
    refine lv_iconst (v := 1) hx hb d_L_fork_13 (by decide) ?_
    refine ob_iret hlocks hx hb hr d_L_fork_14 hS.2.2 (fun t ht hW => ?_)
    exact ⟨rfl, by rw [ht]; exact hP, hD, hS.F ht⟩
  · have hc0 := hc
    by_cases hc : m_lowP (ks_th q) 6 0 = -1
    · have e1 : kk_fork q p0 = (0, 2, q) := by unfold kk_fork; rw [if_neg hc0, if_pos hc]
      rw [show (kk_fork q p0).1 = 0 by rw [e1]]
      rw [show (kk_fork q p0).2.1 = 2 by rw [e1]]
      rw [show (kk_fork q p0).2.2 = q by rw [e1]]
      rw [k_ans_no (by decide)]
      refine ob_callT (E := R_Es) (X := [(j, .inl (tJ, 1, .inr (.inl v)))]) (M := xW b F S tI tZ tA q) (M' := xW b F S tI tZ tA q) (ob_runV (n := 1) (As := [.int p0]) (rest := [.int 0, .ref j]) (t_X_fork2 l D tI tZ tA tJ htr b F S s.heap.size q p0) (hT.ok ob_cd_c (by decide +kernel) rfl rfl (Nat.le_of_ble_eq_true rfl) (Nat.le_of_ble_eq_true rfl) kn_X kc_X_fork) hx hb hml hown (hT.w k_L_15) (hT.w ki_X_fork) (hT.w kv_X_fork) (va_recv (q0 := 1) (ci := 0) hT.1 hP rfl rfl) pT.blind (pT.at hT (hz.on hS hpl) (⟨hc0, hc⟩) (ob_Pr hP) (ob_Dr hD)) rfl rfl hl.1 rfl (lv_room (Nat.le_of_ble_eq_true rfl)) d_L_fork_4 ⟨Nat.le_of_ble_eq_true rfl, Nat.le_of_ble_eq_true rfl⟩) hP hD hS hA (fun xc H locs hex hP hD hS => ?_)
      have hP : va_P D vcl ([(j, .inl (tJ, 1, .inr (.inl v)))] ++ xW b F S tI tZ tA q) H := hP
      have hD : va_D A ([(j, .inl (tJ, 1, .inr (.inl v)))] ++ xW b F S tI tZ tA q) := hD
      refine ct_catch (own := R_L) (name := R_Es) (E := R_Es) hown [⟨0, 9, 12, 19⟩] ⟨0, 9, 15, 13⟩ [] (by rw [htab]; rfl) (fun y hy => by rw [List.mem_singleton.mp hy]; exact ⟨rfl, (by decide), R_En, hT.w k_L_19, hT.2.2.2 (R_Es, R_En) (by decide +kernel)⟩) rfl (by decide) (hT.w k_L_13) (hT.2.1 (.castable R_Es R_Es) cs_Es rfl _) hex ?_
      refine lv_astore_n (lv' := [(3, .ref xc), (0, .ref (b 0)), (1, .int p0), (2, .ref j)]) hx hb d_L_fork_15 rfl hl (by decide) rfl (fun ls hl => ?_)
      refine lv_iconst (v := 2) hx hb d_L_fork_16 (by decide) ?_
      refine ob_iret hlocks hx hb hr d_L_fork_17 hS.2.2 (fun t ht hW => ?_)
      exact ⟨rfl, by rw [ht]; exact hP, hD, hS.F ht⟩
    · have e1 : kk_fork q p0 = (m_lowP (ks_th q) 6 0, 0, k_forkL p0 (m_lowP (ks_th q) 6 0) 6 0 (k_spawn q)) := by unfold kk_fork; rw [if_neg hc0, if_neg hc]
      rw [show (kk_fork q p0).1 = m_lowP (ks_th q) 6 0 by rw [e1]]
      rw [show (kk_fork q p0).2.1 = 0 by rw [e1]]
      rw [show (kk_fork q p0).2.2 = k_forkL p0 (m_lowP (ks_th q) 6 0) 6 0 (k_spawn q) by rw [e1]]
      rw [k_ans_0]
      refine ob_callW (v := (some (.int (m_lowP (ks_th q) 6 0)))) (X := [(j, .inl (tJ, 1, .inr (.inl v)))]) (M := xW b F S tI tZ tA q) (M' := xW b F S tI tZ tA (k_forkL p0 (m_lowP (ks_th q) 6 0) 6 0 (k_spawn q))) (ob_runV (n := 1) (As := [.int p0]) (rest := [.int 0, .ref j]) (c_X_fork l D tI tZ tA tJ b F S s.heap.size q p0) (hT.ok ob_cd_c (by decide +kernel) rfl rfl (Nat.le_of_ble_eq_true rfl) (Nat.le_of_ble_eq_true rfl) kn_X kc_X_fork) hx hb hml hown (hT.w k_L_15) (hT.w ki_X_fork) (hT.w kv_X_fork) (va_recv (q0 := 1) (ci := 0) hT.1 hP rfl rfl) pW.blind (pW.at hT (⟨hc0, hc, hok hc0 hc⟩) (ob_Pr hP) (ob_Dr hD)) rfl rfl hl.1 rfl (lv_room (Nat.le_of_ble_eq_true rfl)) d_L_fork_4 ⟨Nat.le_of_ble_eq_true rfl, Nat.le_of_ble_eq_true rfl⟩) hP hD hS hA (fun H locs hP hD hS => ?_)
      have hP : va_P D vcl ([(j, .inl (tJ, 1, .inr (.inl v)))] ++ xW b F S tI tZ tA (k_forkL p0 (m_lowP (ks_th q) 6 0) 6 0 (k_spawn q))) H := hP
      have hD : va_D A ([(j, .inl (tJ, 1, .inr (.inl v)))] ++ xW b F S tI tZ tA (k_forkL p0 (m_lowP (ks_th q) 6 0) 6 0 (k_spawn q))) := hD
      refine W.eq (g2 := F0 m 7 ls [.int (m_lowP (ks_th q) 6 0), .int 0, .ref j]) rfl ?_
      refine W.widen (k := 1) (n := 6) (Nat.le_of_ble_eq_true rfl) (Nat.le_of_ble_eq_true rfl) ?_
      refine lv_i2l hx hb d_L_fork_7 rfl ?_
      refine va_last hx hb hT.1 hP hD hS 0 3 rfl rfl (vp_in_nI (n := 0) (N := 1) (by omega) (by omega)) d_L_fork_8 (fun H locs hP hD hS => ?_)
      have hP : va_P D vcl ([(j, .inl (tJ, 1, .inr (.inl (vp_updL v 0 ((m_lowP (ks_th q) 6 0).toInt64)))))] ++ xW b F S tI tZ tA (k_forkL p0 (m_lowP (ks_th q) 6 0) 6 0 (k_spawn q))) H := hP
      have hD : va_D A ([(j, .inl (tJ, 1, .inr (.inl (vp_updL v 0 ((m_lowP (ks_th q) 6 0).toInt64)))))] ++ xW b F S tI tZ tA (k_forkL p0 (m_lowP (ks_th q) 6 0) 6 0 (k_spawn q))) := hD
      refine lv_goto (tgt := 18) hx hb d_L_fork_9 (by decide) ?_
      refine lv_iconst (v := 0) hx hb d_L_fork_18 (by decide) ?_
      refine ob_iret hlocks hx hb hr d_L_fork_19 hS.2.2 (fun t ht hW => ?_)
      exact ⟨rfl, by rw [ht]; exact hP, hD, hS.F ht⟩

set_option maxHeartbeats 4000000 in
set_option maxRecDepth 100000 in
/-- L_exit -/
theorem c_L_exit (l : Launch) (D : va_G) (tI tZ tA tJ : ClassId) (htr : l.stackTraces = false) (b : Nat → Nat) (F S sz : Nat) (q : KS) (j : Nat) (v : Nat → Int64) (p0 : Int32) : ob_M l y_L_exit w_L_exit ({ frames := 8, cells := 1, slots := 6, locals := 134 }) (pT D tI tZ tA tJ [.ref (b 0), .int p0, .ref j] ([(j, .inl (tJ, 1, .inr (.inl v)))] ++ xW b F S tI tZ tA q) sz (¬ m_isP (ks_th q) p0 = 0 → kx_ok F S p0 6 0 q)) (ob_qW D vcl (some (.int ((kk_exit q p0).2.1))) ([(j, .inl (tJ, 1, .inr (.inl (k_ans ((kk_exit q p0).2.1) v (((kk_exit q p0).1).toInt64)))))] ++ xW b F S tI tZ tA ((kk_exit q p0).2.2)) (va_A ([(j, .inl (tJ, 1, .inr (.inl v)))] ++ xW b F S tI tZ tA q) sz)) 1 6 (va_A ([(j, .inl (tJ, 1, .inr (.inl v)))] ++ xW b F S tI tZ tA q) sz) := by
  refine ob_ofWH (by decide +kernel) ?_
  intro p e s m args below meth c s₁ B hml htab hv
  obtain ⟨rfl, hT, hz, hok, hsz, hP, hD0⟩ := hv
  have hx := B.exec
  have hb := B.bytes
  have hr := B.returns
  have hlocks := B.notSynchronized
  have hown : s.vm.findClass R_L = some m.cls := findClass_of_methodNamed B.named
  have hl := lv_entry ([.ref (b 0), .int p0, .ref j]) (n := 4) (Nat.le_of_ble_eq_true rfl)
  rw [lg_entry_eq]
  generalize (lg_sl ([.ref (b 0), .int p0, .ref j]) ++ List.replicate (4 - (lg_sl ([.ref (b 0), .int p0, .ref j])).length) Slot.unset).toArray = ls at hl ⊢
  have hl : lv_has ls 4 [(0, .ref (b 0)), (1, .int p0), (2, .ref j)] := hl
  subst hsz
  have hD := hD0.self (sz := s.heap.size)
  have hpl : ∀ a, va_A ([(j, .inl (tJ, 1, .inr (.inl v)))] ++ xW b F S tI tZ tA q) s.heap.size a → ∀ cell, s.heap[a]? = some cell → cell.vm.isStatics = false := va_A.plain hP
  generalize hAe : va_A ([(j, .inl (tJ, 1, .inr (.inl v)))] ++ xW b F S tI tZ tA q) s.heap.size = A at hD hpl ⊢
  have hA : ∀ q : Nat, s.heap.size ≤ q → A q := fun q h => by rw [← hAe]; exact Or.inr h
  have hS : va_S A s.heap s.heap [] := va_S.rf
  refine lv_aload_n hx hb d_L_exit_0 rfl (lv_at hl 2 rfl) ?_
  refine lv_iconst (v := 0) hx hb d_L_exit_1 (by decide) ?_
  refine lv_aload_n hx hb d_L_exit_2 rfl (lv_at hl 0 rfl) ?_
  refine lv_iload_n hx hb d_L_exit_3 rfl (lv_at hl 1 rfl) ?_
  by_cases hc : m_isP (ks_th q) p0 = 0
  · have e1 : kk_exit q p0 = (0, 1, q) := if_pos hc
    rw [show (kk_exit q p0).1 = 0 by rw [e1]]
    rw [show (kk_exit q p0).2.1 = 1 by rw [e1]]
    rw [show (kk_exit q p0).2.2 = q by rw [e1]]
    rw [k_ans_no (by decide)]
    refine ob_callT (E := R_En) (X := [(j, .inl (tJ, 1, .inr (.inl v)))]) (M := xW b F S tI tZ tA q) (M' := xW b F S tI tZ tA q) (ob_runV (n := 1) (As := [.int p0]) (rest := [.int 0, .ref j]) (t_X_exit1 l D tI tZ tA tJ htr b F S s.heap.size q p0) (hT.ok ob_cd_c (by decide +kernel) rfl rfl (Nat.le_of_ble_eq_true rfl) (Nat.le_of_ble_eq_true rfl) kn_X kc_X_exit) hx hb hml hown (hT.w k_L_21) (hT.w ki_X_exit) (hT.w kv_X_exit) (va_recv (q0 := 1) (ci := 0) hT.1 hP rfl rfl) pT.blind (pT.at hT (hz.on hS hpl) (hc) (ob_Pr hP) (ob_Dr hD)) rfl rfl hl.1 rfl (lv_room (Nat.le_of_ble_eq_true rfl)) d_L_exit_4 ⟨Nat.le_of_ble_eq_true rfl, Nat.le_of_ble_eq_true rfl⟩) hP hD hS hA (fun xc H locs hex hP hD hS => ?_)
    have hP : va_P D vcl ([(j, .inl (tJ, 1, .inr (.inl v)))] ++ xW b F S tI tZ tA q) H := hP
    have hD : va_D A ([(j, .inl (tJ, 1, .inr (.inl v)))] ++ xW b F S tI tZ tA q) := hD
    refine ct_catch (own := R_L) (name := R_En) (E := R_En) hown [] ⟨0, 9, 12, 19⟩ [] (by rw [htab]; rfl) (fun y hy => nomatch hy) rfl (by decide) (hT.w k_L_19) (hT.2.1 (.castable R_En R_En) cs_En rfl _) hex ?_
    refine lv_astore_n (lv' := [(3, .ref xc), (0, .ref (b 0)), (1, .int p0), (2, .ref j)]) hx hb d_L_exit_12 rfl hl (by decide) rfl (fun ls hl => ?_)
    refine lv_iconst (v := 1) hx hb d_L_exit_13 (by decide) ?_
    refine ob_iret hlocks hx hb hr d_L_exit_14 hS.2.2 (fun t ht hW => ?_)
    exact ⟨rfl, by rw [ht]; exact hP, hD, hS.F ht⟩
  · have e1 : kk_exit q p0 = ((k_exitL p0 6 0 0 q).1, 0, kv_th (k_exitL p0 6 0 0 q).2 (upd (ks_th (k_exitL p0 6 0 0 q).2) (ix p0) 0)) := if_neg hc
    rw [show (kk_exit q p0).1 = (k_exitL p0 6 0 0 q).1 by rw [e1]]
    rw [show (kk_exit q p0).2.1 = 0 by rw [e1]]
    rw [show (kk_exit q p0).2.2 = kv_th (k_exitL p0 6 0 0 q).2 (upd (ks_th (k_exitL p0 6 0 0 q).2) (ix p0) 0) by rw [e1]]
    rw [k_ans_0]
    refine ob_callW (v := (some (.int ((k_exitL p0 6 0 0 q).1)))) (X := [(j, .inl (tJ, 1, .inr (.inl v)))]) (M := xW b F S tI tZ tA q) (M' := xW b F S tI tZ tA (kv_th (k_exitL p0 6 0 0 q).2 (upd (ks_th (k_exitL p0 6 0 0 q).2) (ix p0) 0))) (ob_runV (n := 1) (As := [.int p0]) (rest := [.int 0, .ref j]) (c_X_exit l D tI tZ tA tJ b F S s.heap.size q p0) (hT.ok ob_cd_c (by decide +kernel) rfl rfl (Nat.le_of_ble_eq_true rfl) (Nat.le_of_ble_eq_true rfl) kn_X kc_X_exit) hx hb hml hown (hT.w k_L_21) (hT.w ki_X_exit) (hT.w kv_X_exit) (va_recv (q0 := 1) (ci := 0) hT.1 hP rfl rfl) pW.blind (pW.at hT (⟨hc, hok hc⟩) (ob_Pr hP) (ob_Dr hD)) rfl rfl hl.1 rfl (lv_room (Nat.le_of_ble_eq_true rfl)) d_L_exit_4 ⟨Nat.le_of_ble_eq_true rfl, Nat.le_of_ble_eq_true rfl⟩) hP hD hS hA (fun H locs hP hD hS => ?_)
    have hP : va_P D vcl ([(j, .inl (tJ, 1, .inr (.inl v)))] ++ xW b F S tI tZ tA (kv_th (k_exitL p0 6 0 0 q).2 (upd (ks_th (k_exitL p0 6 0 0 q).2) (ix p0) 0))) H := hP
    have hD : va_D A ([(j, .inl (tJ, 1, .inr (.inl v)))] ++ xW b F S tI tZ tA (kv_th (k_exitL p0 6 0 0 q).2 (upd (ks_th (k_exitL p0 6 0 0 q).2) (ix p0) 0))) := hD
    refine W.eq (g2 := F0 m 7 ls [.int ((k_exitL p0 6 0 0 q).1), .int 0, .ref j]) rfl ?_
    refine W.widen (k := 1) (n := 6) (Nat.le_of_ble_eq_true rfl) (Nat.le_of_ble_eq_true rfl) ?_
    refine lv_i2l hx hb d_L_exit_7 rfl ?_
    refine va_last hx hb hT.1 hP hD hS 0 3 rfl rfl (vp_in_nI (n := 0) (N := 1) (by omega) (by omega)) d_L_exit_8 (fun H locs hP hD hS => ?_)
    have hP : va_P D vcl ([(j, .inl (tJ, 1, .inr (.inl (vp_updL v 0 (((k_exitL p0 6 0 0 q).1).toInt64)))))] ++ xW b F S tI tZ tA (kv_th (k_exitL p0 6 0 0 q).2 (upd (ks_th (k_exitL p0 6 0 0 q).2) (ix p0) 0))) H := hP
    have hD : va_D A ([(j, .inl (tJ, 1, .inr (.inl (vp_updL v 0 (((k_exitL p0 6 0 0 q).1).toInt64)))))] ++ xW b F S tI tZ tA (kv_th (k_exitL p0 6 0 0 q).2 (upd (ks_th (k_exitL p0 6 0 0 q).2) (ix p0) 0))) := hD
    refine lv_goto (tgt := 15) hx hb d_L_exit_9 (by decide) ?_
    refine lv_iconst (v := 0) hx hb d_L_exit_15 (by decide) ?_
    refine ob_iret hlocks hx hb hr d_L_exit_16 hS.2.2 (fun t ht hW => ?_)
    exact ⟨rfl, by rw [ht]; exact hP, hD, hS.F ht⟩

set_option maxHeartbeats 4000000 in
set_option maxRecDepth 100000 in
/-- L_drop -/
theorem c_L_drop (l : Launch) (D : va_G) (tI tZ tA tJ : ClassId) (htr : l.stackTraces = false) (b : Nat → Nat) (F S sz : Nat) (q : KS) (j : Nat) (v : Nat → Int64) (p0 x : Int32) : ob_M l y_L_drop w_L_drop ({ frames := 8, cells := 1, slots := 6, locals := 133 }) (pT D tI tZ tA tJ [.ref (b 0), .int p0, .int x, .ref j] ([(j, .inl (tJ, 1, .inr (.inl v)))] ++ xW b F S tI tZ tA q) sz (¬ m_isP (ks_th q) p0 = 0 → ¬ x < 0 → x < 6 → xe_ok F S q p0 x)) (ob_qW D vcl (some (.int ((kk_drop q p0 x).2.1))) ([(j, .inl (tJ, 1, .inr (.inl (k_ans ((kk_drop q p0 x).2.1) v (if (kk_drop q p0 x).1 = 0 then 0 else 1)))))] ++ xW b F S tI tZ tA ((kk_drop q p0 x).2.2)) (va_A ([(j, .inl (tJ, 1, .inr (.inl v)))] ++ xW b F S tI tZ tA q) sz)) 1 6 (va_A ([(j, .inl (tJ, 1, .inr (.inl v)))] ++ xW b F S tI tZ tA q) sz) := by
  refine ob_ofWH (by decide +kernel) ?_
  intro p e s m args below meth c s₁ B hml htab hv
  obtain ⟨rfl, hT, hz, hok, hsz, hP, hD0⟩ := hv
  have hx := B.exec
  have hb := B.bytes
  have hr := B.returns
  have hlocks := B.notSynchronized
  have hown : s.vm.findClass R_L = some m.cls := findClass_of_methodNamed B.named
  have hl := lv_entry ([.ref (b 0), .int p0, .int x, .ref j]) (n := 5) (Nat.le_of_ble_eq_true rfl)
  rw [lg_entry_eq]
  generalize (lg_sl ([.ref (b 0), .int p0, .int x, .ref j]) ++ List.replicate (5 - (lg_sl ([.ref (b 0), .int p0, .int x, .ref j])).length) Slot.unset).toArray = ls at hl ⊢
  have hl : lv_has ls 5 [(0, .ref (b 0)), (1, .int p0), (2, .int x), (3, .ref j)] := hl
  subst hsz
  have hD := hD0.self (sz := s.heap.size)
  have hpl : ∀ a, va_A ([(j, .inl (tJ, 1, .inr (.inl v)))] ++ xW b F S tI tZ tA q) s.heap.size a → ∀ cell, s.heap[a]? = some cell → cell.vm.isStatics = false := va_A.plain hP
  generalize hAe : va_A ([(j, .inl (tJ, 1, .inr (.inl v)))] ++ xW b F S tI tZ tA q) s.heap.size = A at hD hpl ⊢
  have hA : ∀ q : Nat, s.heap.size ≤ q → A q := fun q h => by rw [← hAe]; exact Or.inr h
  have hS : va_S A s.heap s.heap [] := va_S.rf
  refine lv_aload_n hx hb d_L_drop_0 rfl (lv_at hl 3 rfl) ?_
  refine lv_iconst (v := 0) hx hb d_L_drop_1 (by decide) ?_
  refine lv_aload_n hx hb d_L_drop_2 rfl (lv_at hl 0 rfl) ?_
  refine lv_iload_n hx hb d_L_drop_3 rfl (lv_at hl 1 rfl) ?_
  refine lv_iload_n hx hb d_L_drop_4 rfl (lv_at hl 2 rfl) ?_
  by_cases hc : m_isP (ks_th q) p0 = 0
  · have e1 : kk_drop q p0 x = (0, 1, q) := if_pos hc
    rw [show (kk_drop q p0 x).1 = 0 by rw [e1]]
    rw [show (kk_drop q p0 x).2.1 = 1 by rw [e1]]
    rw [show (kk_drop q p0 x).2.2 = q by rw [e1]]
    rw [k_ans_no (by decide)]
    refine ob_callT (E := R_En) (X := [(j, .inl (tJ, 1, .inr (.inl v)))]) (M := xW b F S tI tZ tA q) (M' := xW b F S tI tZ tA q) (ob_runV (n := 2) (As := [.int p0, .int x]) (rest := [.int 0, .ref j]) (t_X_drop1 l D tI tZ tA tJ htr b F S s.heap.size q p0 x) (hT.ok ob_cd_c (by decide +kernel) rfl rfl (Nat.le_of_ble_eq_true rfl) (Nat.le_of_ble_eq_true rfl) kn_X kc_X_drop) hx hb hml hown (hT.w k_L_24) (hT.w ki_X_drop) (hT.w kv_X_drop) (va_recv (q0 := 1) (ci := 0) hT.1 hP rfl rfl) pT.blind (pT.at hT (hz.on hS hpl) (hc) (ob_Pr hP) (ob_Dr hD)) rfl rfl hl.1 rfl (lv_room (Nat.le_of_ble_eq_true rfl)) d_L_drop_5 ⟨Nat.le_of_ble_eq_true rfl, Nat.le_of_ble_eq_true rfl⟩) hP hD hS hA (fun xc H locs hex hP hD hS => ?_)
    have hP : va_P D vcl ([(j, .inl (tJ, 1, .inr (.inl v)))] ++ xW b F S tI tZ tA q) H := hP
    have hD : va_D A ([(j, .inl (tJ, 1, .inr (.inl v)))] ++ xW b F S tI tZ tA q) := hD
    refine ct_catch (own := R_L) (name := R_En) (E := R_En) hown [] ⟨0, 17, 20, 19⟩ [⟨0, 17, 24, 28⟩] (by rw [htab]; rfl) (fun y hy => nomatch hy) rfl (by decide) (hT.w k_L_19) (hT.2.1 (.castable R_En R_En) cs_En rfl _) hex ?_
    refine lv_astore (lv' := [(4, .ref xc), (0, .ref (b 0)), (1, .int p0), (2, .int x), (3, .ref j)]) hx hb d_L_drop_20 hl (by decide) rfl (fun ls hl => ?_)
    refine lv_iconst (v := 1) hx hb d_L_drop_22 (by decide) ?_
    refine ob_iret hlocks hx hb hr d_L_drop_23 hS.2.2 (fun t ht hW => ?_)
    exact ⟨rfl, by rw [ht]; exact hP, hD, hS.F ht⟩
  · have hc0 := hc
    by_cases hc : x < 0
    · have e1 : kk_drop q p0 x = (0, 2, q) := by unfold kk_drop; rw [if_neg hc0, if_pos hc]
      rw [show (kk_drop q p0 x).1 = 0 by rw [e1]]
      rw [show (kk_drop q p0 x).2.1 = 2 by rw [e1]]
      rw [show (kk_drop q p0 x).2.2 = q by rw [e1]]
      rw [k_ans_no (by decide)]
      refine ob_callT (E := R_Ei) (X := [(j, .inl (tJ, 1, .inr (.inl v)))]) (M := xW b F S tI tZ tA q) (M' := xW b F S tI tZ tA q) (ob_runV (n := 2) (As := [.int p0, .int x]) (rest := [.int 0, .ref j]) (t_X_drop2 l D tI tZ tA tJ htr b F S s.heap.size q p0 x) (hT.ok ob_cd_c (by decide +kernel) rfl rfl (Nat.le_of_ble_eq_true rfl) (Nat.le_of_ble_eq_true rfl) kn_X kc_X_drop) hx hb hml hown (hT.w k_L_24) (hT.w ki_X_drop) (hT.w kv_X_drop) (va_recv (q0 := 1) (ci := 0) hT.1 hP rfl rfl) pT.blind (pT.at hT (hz.on hS hpl) (⟨hc0, fun z => absurd hc z⟩) (ob_Pr hP) (ob_Dr hD)) rfl rfl hl.1 rfl (lv_room (Nat.le_of_ble_eq_true rfl)) d_L_drop_5 ⟨Nat.le_of_ble_eq_true rfl, Nat.le_of_ble_eq_true rfl⟩) hP hD hS hA (fun xc H locs hex hP hD hS => ?_)
      have hP : va_P D vcl ([(j, .inl (tJ, 1, .inr (.inl v)))] ++ xW b F S tI tZ tA q) H := hP
      have hD : va_D A ([(j, .inl (tJ, 1, .inr (.inl v)))] ++ xW b F S tI tZ tA q) := hD
      refine ct_catch (own := R_L) (name := R_Ei) (E := R_Ei) hown [⟨0, 17, 20, 19⟩] ⟨0, 17, 24, 28⟩ [] (by rw [htab]; rfl) (fun y hy => by rw [List.mem_singleton.mp hy]; exact ⟨rfl, (by decide), R_En, hT.w k_L_19, hT.2.2.2 (R_Ei, R_En) (by decide +kernel)⟩) rfl (by decide) (hT.w k_L_28) (hT.2.1 (.castable R_Ei R_Ei) cs_Ei rfl _) hex ?_
      refine lv_astore (lv' := [(4, .ref xc), (0, .ref (b 0)), (1, .int p0), (2, .int x), (3, .ref j)]) hx hb d_L_drop_24 hl (by decide) rfl (fun ls hl => ?_)
      refine lv_iconst (v := 2) hx hb d_L_drop_26 (by decide) ?_
      refine ob_iret hlocks hx hb hr d_L_drop_27 hS.2.2 (fun t ht hW => ?_)
      exact ⟨rfl, by rw [ht]; exact hP, hD, hS.F ht⟩
    · have hc1 := hc
      by_cases hc : x < 6
      · have e1 : kk_drop q p0 x = ((k_empty q p0 x).1, 0, (k_empty q p0 x).2) := by unfold kk_drop; rw [if_neg hc0, if_neg hc1, if_pos hc]
        rw [show (kk_drop q p0 x).1 = (k_empty q p0 x).1 by rw [e1]]
        rw [show (kk_drop q p0 x).2.1 = 0 by rw [e1]]
        rw [show (kk_drop q p0 x).2.2 = (k_empty q p0 x).2 by rw [e1]]
        rw [k_ans_0]
        refine ob_callW (v := (some (.int ((k_empty q p0 x).1)))) (X := [(j, .inl (tJ, 1, .inr (.inl v)))]) (M := xW b F S tI tZ tA q) (M' := xW b F S tI tZ tA ((k_empty q p0 x).2)) (ob_runV (n := 2) (As := [.int p0, .int x]) (rest := [.int 0, .ref j]) (c_X_drop l D tI tZ tA tJ b F S s.heap.size q p0 x) (hT.ok ob_cd_c (by decide +kernel) rfl rfl (Nat.le_of_ble_eq_true rfl) (Nat.le_of_ble_eq_true rfl) kn_X kc_X_drop) hx hb hml hown (hT.w k_L_24) (hT.w ki_X_drop) (hT.w kv_X_drop) (va_recv (q0 := 1) (ci := 0) hT.1 hP rfl rfl) pW.blind (pW.at hT (⟨hc0, hc1, hc, hok hc0 hc1 hc⟩) (ob_Pr hP) (ob_Dr hD)) rfl rfl hl.1 rfl (lv_room (Nat.le_of_ble_eq_true rfl)) d_L_drop_5 ⟨Nat.le_of_ble_eq_true rfl, Nat.le_of_ble_eq_true rfl⟩) hP hD hS hA (fun H locs hP hD hS => ?_)
        have hP : va_P D vcl ([(j, .inl (tJ, 1, .inr (.inl v)))] ++ xW b F S tI tZ tA ((k_empty q p0 x).2)) H := hP
        have hD : va_D A ([(j, .inl (tJ, 1, .inr (.inl v)))] ++ xW b F S tI tZ tA ((k_empty q p0 x).2)) := hD
        refine W.eq (g2 := F0 m 8 ls [.int ((k_empty q p0 x).1), .int 0, .ref j]) rfl ?_
        refine W.widen (k := 1) (n := 6) (Nat.le_of_ble_eq_true rfl) (Nat.le_of_ble_eq_true rfl) ?_
        refine lv_if_eq (tgt := 15) hx hb d_L_drop_8 (by decide) (fun hc => ?_) (fun hc => ?_)
        · rw [if_pos hc]
          refine lv_lconst (v := 0) hx hb d_L_drop_15 rfl ?_
          refine va_last hx hb hT.1 hP hD hS 0 3 rfl rfl (vp_in_nI (n := 0) (N := 1) (by omega) (by omega)) d_L_drop_16 (fun H locs hP hD hS => ?_)
          have hP : va_P D vcl ([(j, .inl (tJ, 1, .inr (.inl (vp_updL v 0 0))))] ++ xW b F S tI tZ tA ((k_empty q p0 x).2)) H := hP
          have hD : va_D A ([(j, .inl (tJ, 1, .inr (.inl (vp_updL v 0 0))))] ++ xW b F S tI tZ tA ((k_empty q p0 x).2)) := hD
          refine lv_goto (tgt := 28) hx hb d_L_drop_17 (by decide) ?_
          refine lv_iconst (v := 0) hx hb d_L_drop_28 (by decide) ?_
          refine ob_iret hlocks hx hb hr d_L_drop_29 hS.2.2 (fun t ht hW => ?_)
          exact ⟨rfl, by rw [ht]; exact hP, hD, hS.F ht⟩
        · rw [if_neg hc]
          refine lv_lconst (v := 1) hx hb d_L_drop_11 rfl ?_
          refine lv_goto (tgt := 16) hx hb d_L_drop_12 (by decide) ?_
          refine va_last hx hb hT.1 hP hD hS 0 3 rfl rfl (vp_in_nI (n := 0) (N := 1) (by omega) (by omega)) d_L_drop_16 (fun H locs hP hD hS => ?_)
          have hP : va_P D vcl ([(j, .inl (tJ, 1, .inr (.inl (vp_updL v 0 1))))] ++ xW b F S tI tZ tA ((k_empty q p0 x).2)) H := hP
          have hD : va_D A ([(j, .inl (tJ, 1, .inr (.inl (vp_updL v 0 1))))] ++ xW b F S tI tZ tA ((k_empty q p0 x).2)) := hD
          refine lv_goto (tgt := 28) hx hb d_L_drop_17 (by decide) ?_
          refine lv_iconst (v := 0) hx hb d_L_drop_28 (by decide) ?_
          refine ob_iret hlocks hx hb hr d_L_drop_29 hS.2.2 (fun t ht hW => ?_)
          exact ⟨rfl, by rw [ht]; exact hP, hD, hS.F ht⟩
      · have e1 : kk_drop q p0 x = (0, 2, q) := by unfold kk_drop; rw [if_neg hc0, if_neg hc1, if_neg hc]
        rw [show (kk_drop q p0 x).1 = 0 by rw [e1]]
        rw [show (kk_drop q p0 x).2.1 = 2 by rw [e1]]
        rw [show (kk_drop q p0 x).2.2 = q by rw [e1]]
        rw [k_ans_no (by decide)]
        refine ob_callT (E := R_Ei) (X := [(j, .inl (tJ, 1, .inr (.inl v)))]) (M := xW b F S tI tZ tA q) (M' := xW b F S tI tZ tA q) (ob_runV (n := 2) (As := [.int p0, .int x]) (rest := [.int 0, .ref j]) (t_X_drop2 l D tI tZ tA tJ htr b F S s.heap.size q p0 x) (hT.ok ob_cd_c (by decide +kernel) rfl rfl (Nat.le_of_ble_eq_true rfl) (Nat.le_of_ble_eq_true rfl) kn_X kc_X_drop) hx hb hml hown (hT.w k_L_24) (hT.w ki_X_drop) (hT.w kv_X_drop) (va_recv (q0 := 1) (ci := 0) hT.1 hP rfl rfl) pT.blind (pT.at hT (hz.on hS hpl) (⟨hc0, fun _ => Int32.not_lt.mp hc⟩) (ob_Pr hP) (ob_Dr hD)) rfl rfl hl.1 rfl (lv_room (Nat.le_of_ble_eq_true rfl)) d_L_drop_5 ⟨Nat.le_of_ble_eq_true rfl, Nat.le_of_ble_eq_true rfl⟩) hP hD hS hA (fun xc H locs hex hP hD hS => ?_)
        have hP : va_P D vcl ([(j, .inl (tJ, 1, .inr (.inl v)))] ++ xW b F S tI tZ tA q) H := hP
        have hD : va_D A ([(j, .inl (tJ, 1, .inr (.inl v)))] ++ xW b F S tI tZ tA q) := hD
        refine ct_catch (own := R_L) (name := R_Ei) (E := R_Ei) hown [⟨0, 17, 20, 19⟩] ⟨0, 17, 24, 28⟩ [] (by rw [htab]; rfl) (fun y hy => by rw [List.mem_singleton.mp hy]; exact ⟨rfl, (by decide), R_En, hT.w k_L_19, hT.2.2.2 (R_Ei, R_En) (by decide +kernel)⟩) rfl (by decide) (hT.w k_L_28) (hT.2.1 (.castable R_Ei R_Ei) cs_Ei rfl _) hex ?_
        refine lv_astore (lv' := [(4, .ref xc), (0, .ref (b 0)), (1, .int p0), (2, .int x), (3, .ref j)]) hx hb d_L_drop_24 hl (by decide) rfl (fun ls hl => ?_)
        refine lv_iconst (v := 2) hx hb d_L_drop_26 (by decide) ?_
        refine ob_iret hlocks hx hb hr d_L_drop_27 hS.2.2 (fun t ht hW => ?_)
        exact ⟨rfl, by rw [ht]; exact hP, hD, hS.F ht⟩

set_option maxHeartbeats 4000000 in
set_option maxRecDepth 100000 in
/-- L_load -/
theorem c_L_load (l : Launch) (D : va_G) (tI tZ tA tJ : ClassId) (htr : l.stackTraces = false) (b : Nat → Nat) (F S sz : Nat) (q : KS) (j : Nat) (v : Nat → Int64) (p0 a : Int32) : ob_M l y_L_load w_L_load ({ frames := 8, cells := 1, slots := 6, locals := 174 }) (pT D tI tZ tA tJ [.ref (b 0), .int p0, .int a, .ref j] ([(j, .inl (tJ, 1, .inr (.inl v)))] ++ xW b F S tI tZ tA q) sz (¬ m_isP (ks_th q) p0 = 0 → ¬ m_isA a = 0 → xl_ok F S q p0 a)) (ob_qW D vcl (some (.int ((kk_load F S q p0 a).2.1))) ([(j, .inl (tJ, 1, .inr (.inl (k_ans ((kk_load F S q p0 a).2.1) v (((kk_load F S q p0 a).1).toInt64)))))] ++ xW b F S tI tZ tA ((kk_load F S q p0 a).2.2)) (va_A ([(j, .inl (tJ, 1, .inr (.inl v)))] ++ xW b F S tI tZ tA q) sz)) 1 6 (va_A ([(j, .inl (tJ, 1, .inr (.inl v)))] ++ xW b F S tI tZ tA q) sz) := by
  refine ob_ofWH (by decide +kernel) ?_
  intro p e s m args below meth c s₁ B hml htab hv
  obtain ⟨rfl, hT, hz, hok, hsz, hP, hD0⟩ := hv
  have hx := B.exec
  have hb := B.bytes
  have hr := B.returns
  have hlocks := B.notSynchronized
  have hown : s.vm.findClass R_L = some m.cls := findClass_of_methodNamed B.named
  have hl := lv_entry ([.ref (b 0), .int p0, .int a, .ref j]) (n := 5) (Nat.le_of_ble_eq_true rfl)
  rw [lg_entry_eq]
  generalize (lg_sl ([.ref (b 0), .int p0, .int a, .ref j]) ++ List.replicate (5 - (lg_sl ([.ref (b 0), .int p0, .int a, .ref j])).length) Slot.unset).toArray = ls at hl ⊢
  have hl : lv_has ls 5 [(0, .ref (b 0)), (1, .int p0), (2, .int a), (3, .ref j)] := hl
  subst hsz
  have hD := hD0.self (sz := s.heap.size)
  have hpl : ∀ a, va_A ([(j, .inl (tJ, 1, .inr (.inl v)))] ++ xW b F S tI tZ tA q) s.heap.size a → ∀ cell, s.heap[a]? = some cell → cell.vm.isStatics = false := va_A.plain hP
  generalize hAe : va_A ([(j, .inl (tJ, 1, .inr (.inl v)))] ++ xW b F S tI tZ tA q) s.heap.size = A at hD hpl ⊢
  have hA : ∀ q : Nat, s.heap.size ≤ q → A q := fun q h => by rw [← hAe]; exact Or.inr h
  have hS : va_S A s.heap s.heap [] := va_S.rf
  refine lv_aload_n hx hb d_L_load_0 rfl (lv_at hl 3 rfl) ?_
  refine lv_iconst (v := 0) hx hb d_L_load_1 (by decide) ?_
  refine lv_aload_n hx hb d_L_load_2 rfl (lv_at hl 0 rfl) ?_
  refine lv_iload_n hx hb d_L_load_3 rfl (lv_at hl 1 rfl) ?_
  refine lv_iload_n hx hb d_L_load_4 rfl (lv_at hl 2 rfl) ?_
  by_cases hc : m_isP (ks_th q) p0 = 0
  · have e1 : kk_load F S q p0 a = (0, 1, q) := if_pos hc
    rw [show (kk_load F S q p0 a).1 = 0 by rw [e1]]
    rw [show (kk_load F S q p0 a).2.1 = 1 by rw [e1]]
    rw [show (kk_load F S q p0 a).2.2 = q by rw [e1]]
    rw [k_ans_no (by decide)]
    refine ob_callT (E := R_En) (X := [(j, .inl (tJ, 1, .inr (.inl v)))]) (M := xW b F S tI tZ tA q) (M' := xW b F S tI tZ tA q) (ob_runV (n := 2) (As := [.int p0, .int a]) (rest := [.int 0, .ref j]) (t_X_load1 l D tI tZ tA tJ htr b F S s.heap.size q p0 a) (hT.ok ob_cd_c (by decide +kernel) rfl rfl (Nat.le_of_ble_eq_true rfl) (Nat.le_of_ble_eq_true rfl) kn_X kc_X_load) hx hb hml hown (hT.w k_L_30) (hT.w ki_X_load) (hT.w kv_X_load) (va_recv (q0 := 1) (ci := 0) hT.1 hP rfl rfl) pT.blind (pT.at hT (hz.on hS hpl) (hc) (ob_Pr hP) (ob_Dr hD)) rfl rfl hl.1 rfl (lv_room (Nat.le_of_ble_eq_true rfl)) d_L_load_5 ⟨Nat.le_of_ble_eq_true rfl, Nat.le_of_ble_eq_true rfl⟩) hP hD hS hA (fun xc H locs hex hP hD hS => ?_)
    have hP : va_P D vcl ([(j, .inl (tJ, 1, .inr (.inl v)))] ++ xW b F S tI tZ tA q) H := hP
    have hD : va_D A ([(j, .inl (tJ, 1, .inr (.inl v)))] ++ xW b F S tI tZ tA q) := hD
    refine ct_catch (own := R_L) (name := R_En) (E := R_En) hown [] ⟨0, 10, 13, 19⟩ [⟨0, 10, 17, 28⟩] (by rw [htab]; rfl) (fun y hy => nomatch hy) rfl (by decide) (hT.w k_L_19) (hT.2.1 (.castable R_En R_En) cs_En rfl _) hex ?_
    refine lv_astore (lv' := [(4, .ref xc), (0, .ref (b 0)), (1, .int p0), (2, .int a), (3, .ref j)]) hx hb d_L_load_13 hl (by decide) rfl (fun ls hl => ?_)
    refine lv_iconst (v := 1) hx hb d_L_load_15 (by decide) ?_
    refine ob_iret hlocks hx hb hr d_L_load_16 hS.2.2 (fun t ht hW => ?_)
    exact ⟨rfl, by rw [ht]; exact hP, hD, hS.F ht⟩
  · have hc0 := hc
    by_cases hc : m_isA a = 0
    · have e1 : kk_load F S q p0 a = (0, 2, q) := by unfold kk_load; rw [if_neg hc0, if_pos hc]
      rw [show (kk_load F S q p0 a).1 = 0 by rw [e1]]
      rw [show (kk_load F S q p0 a).2.1 = 2 by rw [e1]]
      rw [show (kk_load F S q p0 a).2.2 = q by rw [e1]]
      rw [k_ans_no (by decide)]
      refine ob_callT (E := R_Ei) (X := [(j, .inl (tJ, 1, .inr (.inl v)))]) (M := xW b F S tI tZ tA q) (M' := xW b F S tI tZ tA q) (ob_runV (n := 2) (As := [.int p0, .int a]) (rest := [.int 0, .ref j]) (t_X_load2 l D tI tZ tA tJ htr b F S s.heap.size q p0 a) (hT.ok ob_cd_c (by decide +kernel) rfl rfl (Nat.le_of_ble_eq_true rfl) (Nat.le_of_ble_eq_true rfl) kn_X kc_X_load) hx hb hml hown (hT.w k_L_30) (hT.w ki_X_load) (hT.w kv_X_load) (va_recv (q0 := 1) (ci := 0) hT.1 hP rfl rfl) pT.blind (pT.at hT (hz.on hS hpl) (⟨hc0, hc⟩) (ob_Pr hP) (ob_Dr hD)) rfl rfl hl.1 rfl (lv_room (Nat.le_of_ble_eq_true rfl)) d_L_load_5 ⟨Nat.le_of_ble_eq_true rfl, Nat.le_of_ble_eq_true rfl⟩) hP hD hS hA (fun xc H locs hex hP hD hS => ?_)
      have hP : va_P D vcl ([(j, .inl (tJ, 1, .inr (.inl v)))] ++ xW b F S tI tZ tA q) H := hP
      have hD : va_D A ([(j, .inl (tJ, 1, .inr (.inl v)))] ++ xW b F S tI tZ tA q) := hD
      refine ct_catch (own := R_L) (name := R_Ei) (E := R_Ei) hown [⟨0, 10, 13, 19⟩] ⟨0, 10, 17, 28⟩ [] (by rw [htab]; rfl) (fun y hy => by rw [List.mem_singleton.mp hy]; exact ⟨rfl, (by decide), R_En, hT.w k_L_19, hT.2.2.2 (R_Ei, R_En) (by decide +kernel)⟩) rfl (by decide) (hT.w k_L_28) (hT.2.1 (.castable R_Ei R_Ei) cs_Ei rfl _) hex ?_
      refine lv_astore (lv' := [(4, .ref xc), (0, .ref (b 0)), (1, .int p0), (2, .int a), (3, .ref j)]) hx hb d_L_load_17 hl (by decide) rfl (fun ls hl => ?_)
      refine lv_iconst (v := 2) hx hb d_L_load_19 (by decide) ?_
      refine ob_iret hlocks hx hb hr d_L_load_20 hS.2.2 (fun t ht hW => ?_)
      exact ⟨rfl, by rw [ht]; exact hP, hD, hS.F ht⟩
    · have e1 : kk_load F S q p0 a = ((k_loadW F S q p0 a).1, 0, (k_loadW F S q p0 a).2) := by unfold kk_load; rw [if_neg hc0, if_neg hc]
      rw [show (kk_load F S q p0 a).1 = (k_loadW F S q p0 a).1 by rw [e1]]
      rw [show (kk_load F S q p0 a).2.1 = 0 by rw [e1]]
      rw [show (kk_load F S q p0 a).2.2 = (k_loadW F S q p0 a).2 by rw [e1]]
      rw [k_ans_0]
      refine ob_callW (v := (some (.int ((k_loadW F S q p0 a).1)))) (X := [(j, .inl (tJ, 1, .inr (.inl v)))]) (M := xW b F S tI tZ tA q) (M' := xW b F S tI tZ tA ((k_loadW F S q p0 a).2)) (ob_runV (n := 2) (As := [.int p0, .int a]) (rest := [.int 0, .ref j]) (c_X_load l D tI tZ tA tJ b F S s.heap.size q p0 a) (hT.ok ob_cd_c (by decide +kernel) rfl rfl (Nat.le_of_ble_eq_true rfl) (Nat.le_of_ble_eq_true rfl) kn_X kc_X_load) hx hb hml hown (hT.w k_L_30) (hT.w ki_X_load) (hT.w kv_X_load) (va_recv (q0 := 1) (ci := 0) hT.1 hP rfl rfl) pW.blind (pW.at hT (⟨hc0, hc, hok hc0 hc⟩) (ob_Pr hP) (ob_Dr hD)) rfl rfl hl.1 rfl (lv_room (Nat.le_of_ble_eq_true rfl)) d_L_load_5 ⟨Nat.le_of_ble_eq_true rfl, Nat.le_of_ble_eq_true rfl⟩) hP hD hS hA (fun H locs hP hD hS => ?_)
      have hP : va_P D vcl ([(j, .inl (tJ, 1, .inr (.inl v)))] ++ xW b F S tI tZ tA ((k_loadW F S q p0 a).2)) H := hP
      have hD : va_D A ([(j, .inl (tJ, 1, .inr (.inl v)))] ++ xW b F S tI tZ tA ((k_loadW F S q p0 a).2)) := hD
      refine W.eq (g2 := F0 m 8 ls [.int ((k_loadW F S q p0 a).1), .int 0, .ref j]) rfl ?_
      refine W.widen (k := 1) (n := 6) (Nat.le_of_ble_eq_true rfl) (Nat.le_of_ble_eq_true rfl) ?_
      refine lv_i2l hx hb d_L_load_8 rfl ?_
      refine va_last hx hb hT.1 hP hD hS 0 3 rfl rfl (vp_in_nI (n := 0) (N := 1) (by omega) (by omega)) d_L_load_9 (fun H locs hP hD hS => ?_)
      have hP : va_P D vcl ([(j, .inl (tJ, 1, .inr (.inl (vp_updL v 0 (((k_loadW F S q p0 a).1).toInt64)))))] ++ xW b F S tI tZ tA ((k_loadW F S q p0 a).2)) H := hP
      have hD : va_D A ([(j, .inl (tJ, 1, .inr (.inl (vp_updL v 0 (((k_loadW F S q p0 a).1).toInt64)))))] ++ xW b F S tI tZ tA ((k_loadW F S q p0 a).2)) := hD
      refine lv_goto (tgt := 21) hx hb d_L_load_10 (by decide) ?_
      refine lv_iconst (v := 0) hx hb d_L_load_21 (by decide) ?_
      refine ob_iret hlocks hx hb hr d_L_load_22 hS.2.2 (fun t ht hW => ?_)
      exact ⟨rfl, by rw [ht]; exact hP, hD, hS.F ht⟩

set_option maxHeartbeats 4000000 in
set_option maxRecDepth 100000 in
/-- L_store -/
theorem c_L_store (l : Launch) (D : va_G) (tI tZ tA tJ : ClassId) (htr : l.stackTraces = false) (b : Nat → Nat) (F S sz : Nat) (q : KS) (p0 a v : Int32) : ob_M l y_L_store w_L_store ({ frames := 9, cells := 1, slots := 6, locals := 178 }) (pT D tI tZ tA tJ [.ref (b 0), .int p0, .int a, .int v] (xW b F S tI tZ tA q) sz (¬ m_isP (ks_th q) p0 = 0 → ¬ m_isA a = 0 → (k_no F S q p0 (a / 4) = 0 → xs_ok F S q p0 a) ∧ (¬ k_no F S q p0 (a / 4) = 0 → xt_ok F S q p0 a))) (ob_qW D vcl (some (.int ((kk_store F S q p0 a v).1))) (xW b F S tI tZ tA ((kk_store F S q p0 a v).2)) (va_A (xW b F S tI tZ tA q) sz)) 1 6 (va_A (xW b F S tI tZ tA q) sz) := by
  refine ob_ofWH (by decide +kernel) ?_
  intro p e s m args below meth c s₁ B hml htab hv
  obtain ⟨rfl, hT, hz, hok, hsz, hP, hD0⟩ := hv
  have hx := B.exec
  have hb := B.bytes
  have hr := B.returns
  have hlocks := B.notSynchronized
  have hown : s.vm.findClass R_L = some m.cls := findClass_of_methodNamed B.named
  have hl := lv_entry ([.ref (b 0), .int p0, .int a, .int v]) (n := 5) (Nat.le_of_ble_eq_true rfl)
  rw [lg_entry_eq]
  generalize (lg_sl ([.ref (b 0), .int p0, .int a, .int v]) ++ List.replicate (5 - (lg_sl ([.ref (b 0), .int p0, .int a, .int v])).length) Slot.unset).toArray = ls at hl ⊢
  have hl : lv_has ls 5 [(0, .ref (b 0)), (1, .int p0), (2, .int a), (3, .int v)] := hl
  subst hsz
  have hD := hD0.self (sz := s.heap.size)
  have hpl : ∀ a, va_A (xW b F S tI tZ tA q) s.heap.size a → ∀ cell, s.heap[a]? = some cell → cell.vm.isStatics = false := va_A.plain hP
  generalize hAe : va_A (xW b F S tI tZ tA q) s.heap.size = A at hD hpl ⊢
  have hA : ∀ q : Nat, s.heap.size ≤ q → A q := fun q h => by rw [← hAe]; exact Or.inr h
  have hS : va_S A s.heap s.heap [] := va_S.rf
  refine lv_aload_n hx hb d_L_store_0 rfl (lv_at hl 0 rfl) ?_
  refine lv_iload_n hx hb d_L_store_1 rfl (lv_at hl 1 rfl) ?_
  refine lv_iload_n hx hb d_L_store_2 rfl (lv_at hl 2 rfl) ?_
  refine lv_iload_n hx hb d_L_store_3 rfl (lv_at hl 3 rfl) ?_
  by_cases hc : m_isP (ks_th q) p0 = 0
  · have e1 : kk_store F S q p0 a v = (1, q) := if_pos hc
    rw [show (kk_store F S q p0 a v).1 = 1 by rw [e1]]
    rw [show (kk_store F S q p0 a v).2 = q by rw [e1]]
    refine ob_callT (E := R_En) (X := []) (M := xW b F S tI tZ tA q) (M' := xW b F S tI tZ tA q) (ob_runV (n := 3) (As := [.int p0, .int a, .int v]) (rest := []) (t_X_store1 l D tI tZ tA tJ htr b F S s.heap.size q p0 a v) (hT.ok ob_cd_c (by decide +kernel) rfl rfl (Nat.le_of_ble_eq_true rfl) (Nat.le_of_ble_eq_true rfl) kn_X kc_X_store) hx hb hml hown (hT.w k_L_34) (hT.w ki_X_store) (hT.w kv_X_store) (va_recv (q0 := 0) (ci := 0) hT.1 hP rfl rfl) pT.blind (pT.at hT (hz.on hS hpl) (hc) hP hD) rfl rfl hl.1 rfl (lv_room (Nat.le_of_ble_eq_true rfl)) d_L_store_4 ⟨Nat.le_of_ble_eq_true rfl, Nat.le_of_ble_eq_true rfl⟩) hP hD hS hA (fun xc H locs hex hP hD hS => ?_)
    have hP : va_P D vcl (xW b F S tI tZ tA q) H := hP
    have hD : va_D A (xW b F S tI tZ tA q) := hD
    refine ct_catch (own := R_L) (name := R_En) (E := R_En) hown [] ⟨0, 7, 10, 19⟩ [⟨0, 7, 14, 28⟩, ⟨0, 7, 18, 13⟩] (by rw [htab]; rfl) (fun y hy => nomatch hy) rfl (by decide) (hT.w k_L_19) (hT.2.1 (.castable R_En R_En) cs_En rfl _) hex ?_
    refine lv_astore (lv' := [(4, .ref xc), (0, .ref (b 0)), (1, .int p0), (2, .int a), (3, .int v)]) hx hb d_L_store_10 hl (by decide) rfl (fun ls hl => ?_)
    refine lv_iconst (v := 1) hx hb d_L_store_12 (by decide) ?_
    refine ob_iret hlocks hx hb hr d_L_store_13 hS.2.2 (fun t ht hW => ?_)
    exact ⟨rfl, by rw [ht]; exact hP, hD, hS.F ht⟩
  · have hc0 := hc
    by_cases hc : m_isA a = 0
    · have e1 : kk_store F S q p0 a v = (2, q) := by unfold kk_store; rw [if_neg hc0, if_pos hc]
      rw [show (kk_store F S q p0 a v).1 = 2 by rw [e1]]
      rw [show (kk_store F S q p0 a v).2 = q by rw [e1]]
      refine ob_callT (E := R_Ei) (X := []) (M := xW b F S tI tZ tA q) (M' := xW b F S tI tZ tA q) (ob_runV (n := 3) (As := [.int p0, .int a, .int v]) (rest := []) (t_X_store2 l D tI tZ tA tJ htr b F S s.heap.size q p0 a v) (hT.ok ob_cd_c (by decide +kernel) rfl rfl (Nat.le_of_ble_eq_true rfl) (Nat.le_of_ble_eq_true rfl) kn_X kc_X_store) hx hb hml hown (hT.w k_L_34) (hT.w ki_X_store) (hT.w kv_X_store) (va_recv (q0 := 0) (ci := 0) hT.1 hP rfl rfl) pT.blind (pT.at hT (hz.on hS hpl) (⟨hc0, hc⟩) hP hD) rfl rfl hl.1 rfl (lv_room (Nat.le_of_ble_eq_true rfl)) d_L_store_4 ⟨Nat.le_of_ble_eq_true rfl, Nat.le_of_ble_eq_true rfl⟩) hP hD hS hA (fun xc H locs hex hP hD hS => ?_)
      have hP : va_P D vcl (xW b F S tI tZ tA q) H := hP
      have hD : va_D A (xW b F S tI tZ tA q) := hD
      refine ct_catch (own := R_L) (name := R_Ei) (E := R_Ei) hown [⟨0, 7, 10, 19⟩] ⟨0, 7, 14, 28⟩ [⟨0, 7, 18, 13⟩] (by rw [htab]; rfl) (fun y hy => by rw [List.mem_singleton.mp hy]; exact ⟨rfl, (by decide), R_En, hT.w k_L_19, hT.2.2.2 (R_Ei, R_En) (by decide +kernel)⟩) rfl (by decide) (hT.w k_L_28) (hT.2.1 (.castable R_Ei R_Ei) cs_Ei rfl _) hex ?_
      refine lv_astore (lv' := [(4, .ref xc), (0, .ref (b 0)), (1, .int p0), (2, .int a), (3, .int v)]) hx hb d_L_store_14 hl (by decide) rfl (fun ls hl => ?_)
      refine lv_iconst (v := 2) hx hb d_L_store_16 (by decide) ?_
      refine ob_iret hlocks hx hb hr d_L_store_17 hS.2.2 (fun t ht hW => ?_)
      exact ⟨rfl, by rw [ht]; exact hP, hD, hS.F ht⟩
    · have hc1 := hc
      by_cases hc : k_no F S q p0 (a / 4) = 0
      · have e1 : kk_store F S q p0 a v = (0, k_storeW F S q p0 a v) := by unfold kk_store; rw [if_neg hc0, if_neg hc1, if_pos hc]
        rw [show (kk_store F S q p0 a v).1 = 0 by rw [e1]]
        rw [show (kk_store F S q p0 a v).2 = k_storeW F S q p0 a v by rw [e1]]
        refine ob_callW (v := none) (X := []) (M := xW b F S tI tZ tA q) (M' := xW b F S tI tZ tA (k_storeW F S q p0 a v)) (ob_runV (n := 3) (As := [.int p0, .int a, .int v]) (rest := []) (c_X_store l D tI tZ tA tJ b F S s.heap.size q p0 a v) (hT.ok ob_cd_c (by decide +kernel) rfl rfl (Nat.le_of_ble_eq_true rfl) (Nat.le_of_ble_eq_true rfl) kn_X kc_X_store) hx hb hml hown (hT.w k_L_34) (hT.w ki_X_store) (hT.w kv_X_store) (va_recv (q0 := 0) (ci := 0) hT.1 hP rfl rfl) pW.blind (pW.at hT (⟨hc0, hc1, (hok hc0 hc1).1 hc⟩) hP hD) rfl rfl hl.1 rfl (lv_room (Nat.le_of_ble_eq_true rfl)) d_L_store_4 ⟨Nat.le_of_ble_eq_true rfl, Nat.le_of_ble_eq_true rfl⟩) hP hD hS hA (fun H locs hP hD hS => ?_)
        have hP : va_P D vcl (xW b F S tI tZ tA (k_storeW F S q p0 a v)) H := hP
        have hD : va_D A (xW b F S tI tZ tA (k_storeW F S q p0 a v)) := hD
        refine W.eq (g2 := F0 m 7 ls []) rfl ?_
        refine W.widen (k := 1) (n := 6) (Nat.le_of_ble_eq_true rfl) (Nat.le_of_ble_eq_true rfl) ?_
        refine lv_goto (tgt := 22) hx hb d_L_store_7 (by decide) ?_
        refine lv_iconst (v := 0) hx hb d_L_store_22 (by decide) ?_
        refine ob_iret hlocks hx hb hr d_L_store_23 hS.2.2 (fun t ht hW => ?_)
        exact ⟨rfl, by rw [ht]; exact hP, hD, hS.F ht⟩
      · have e1 : kk_store F S q p0 a v = (3, kv_m q (k_make F S (ks_m q)).2) := by unfold kk_store; rw [if_neg hc0, if_neg hc1, if_neg hc]
        rw [show (kk_store F S q p0 a v).1 = 3 by rw [e1]]
        rw [show (kk_store F S q p0 a v).2 = kv_m q (k_make F S (ks_m q)).2 by rw [e1]]
        refine ob_callT (E := R_Es) (X := []) (M := xW b F S tI tZ tA q) (M' := xW b F S tI tZ tA (kv_m q (k_make F S (ks_m q)).2)) (ob_runV (n := 3) (As := [.int p0, .int a, .int v]) (rest := []) (t_X_store3 l D tI tZ tA tJ htr b F S s.heap.size q p0 a v) (hT.ok ob_cd_c (by decide +kernel) rfl rfl (Nat.le_of_ble_eq_true rfl) (Nat.le_of_ble_eq_true rfl) kn_X kc_X_store) hx hb hml hown (hT.w k_L_34) (hT.w ki_X_store) (hT.w kv_X_store) (va_recv (q0 := 0) (ci := 0) hT.1 hP rfl rfl) pT.blind (pT.at hT (hz.on hS hpl) (⟨hc0, hc1, (hok hc0 hc1).2 hc, hc⟩) hP hD) rfl rfl hl.1 rfl (lv_room (Nat.le_of_ble_eq_true rfl)) d_L_store_4 ⟨Nat.le_of_ble_eq_true rfl, Nat.le_of_ble_eq_true rfl⟩) hP hD hS hA (fun xc H locs hex hP hD hS => ?_)
        have hP : va_P D vcl (xW b F S tI tZ tA (kv_m q (k_make F S (ks_m q)).2)) H := hP
        have hD : va_D A (xW b F S tI tZ tA (kv_m q (k_make F S (ks_m q)).2)) := hD
        refine ct_catch (own := R_L) (name := R_Es) (E := R_Es) hown [⟨0, 7, 10, 19⟩, ⟨0, 7, 14, 28⟩] ⟨0, 7, 18, 13⟩ [] (by rw [htab]; rfl) (fun y hy => (List.mem_cons.mp hy).elim (fun z => by rw [z]; exact ⟨rfl, (by decide), R_En, hT.w k_L_19, hT.2.2.2 (R_Es, R_En) (by decide +kernel)⟩) (fun z => by rw [List.mem_singleton.mp z]; exact ⟨rfl, (by decide), R_Ei, hT.w k_L_28, hT.2.2.2 (R_Es, R_Ei) (by decide +kernel)⟩)) rfl (by decide) (hT.w k_L_13) (hT.2.1 (.castable R_Es R_Es) cs_Es rfl _) hex ?_
        refine lv_astore (lv' := [(4, .ref xc), (0, .ref (b 0)), (1, .int p0), (2, .int a), (3, .int v)]) hx hb d_L_store_18 hl (by decide) rfl (fun ls hl => ?_)
        refine lv_iconst (v := 3) hx hb d_L_store_20 (by decide) ?_
        refine ob_iret hlocks hx hb hr d_L_store_21 hS.2.2 (fun t ht hW => ?_)
        exact ⟨rfl, by rw [ht]; exact hP, hD, hS.F ht⟩

set_option maxHeartbeats 4000000 in
set_option maxRecDepth 100000 in
/-- L_copy -/
theorem c_L_copy (l : Launch) (D : va_G) (tI tZ tA tJ : ClassId) (htr : l.stackTraces = false) (b : Nat → Nat) (F S sz : Nat) (q : KS) (p0 a d n : Int32) : ob_M l y_L_copy w_L_copy ({ frames := 9, cells := 1, slots := 6, locals := 180 }) (pT D tI tZ tA tJ [.ref (b 0), .int p0, .int a, .int d, .int n] (xW b F S tI tZ tA q) sz (¬ m_isP (ks_th q) p0 = 0 → ¬ k_rng a n = 0 → ¬ k_rng d n = 0 → vp_in n 25 ∧ kc_ok F S p0 a d (ix n) 0 (kv_cp q 0))) (ob_qW D vcl (some (.int ((kk_copy F S q p0 a d n).1))) (xW b F S tI tZ tA ((kk_copy F S q p0 a d n).2)) (va_A (xW b F S tI tZ tA q) sz)) 1 6 (va_A (xW b F S tI tZ tA q) sz) := by
  refine ob_ofWH (by decide +kernel) ?_
  intro p e s m args below meth c s₁ B hml htab hv
  obtain ⟨rfl, hT, hz, hok, hsz, hP, hD0⟩ := hv
  have hx := B.exec
  have hb := B.bytes
  have hr := B.returns
  have hlocks := B.notSynchronized
  have hown : s.vm.findClass R_L = some m.cls := findClass_of_methodNamed B.named
  have hl := lv_entry ([.ref (b 0), .int p0, .int a, .int d, .int n]) (n := 6) (Nat.le_of_ble_eq_true rfl)
  rw [lg_entry_eq]
  generalize (lg_sl ([.ref (b 0), .int p0, .int a, .int d, .int n]) ++ List.replicate (6 - (lg_sl ([.ref (b 0), .int p0, .int a, .int d, .int n])).length) Slot.unset).toArray = ls at hl ⊢
  have hl : lv_has ls 6 [(0, .ref (b 0)), (1, .int p0), (2, .int a), (3, .int d), (4, .int n)] := hl
  subst hsz
  have hD := hD0.self (sz := s.heap.size)
  have hpl : ∀ a, va_A (xW b F S tI tZ tA q) s.heap.size a → ∀ cell, s.heap[a]? = some cell → cell.vm.isStatics = false := va_A.plain hP
  generalize hAe : va_A (xW b F S tI tZ tA q) s.heap.size = A at hD hpl ⊢
  have hA : ∀ q : Nat, s.heap.size ≤ q → A q := fun q h => by rw [← hAe]; exact Or.inr h
  have hS : va_S A s.heap s.heap [] := va_S.rf
  refine lv_aload_n hx hb d_L_copy_0 rfl (lv_at hl 0 rfl) ?_
  refine lv_iload_n hx hb d_L_copy_1 rfl (lv_at hl 1 rfl) ?_
  refine lv_iload_n hx hb d_L_copy_2 rfl (lv_at hl 2 rfl) ?_
  refine lv_iload_n hx hb d_L_copy_3 rfl (lv_at hl 3 rfl) ?_
  refine lv_iload hx hb d_L_copy_4 (lv_at hl 4 rfl) ?_
  by_cases hc : m_isP (ks_th q) p0 = 0
  · have e1 : kk_copy F S q p0 a d n = (1, q) := if_pos hc
    rw [show (kk_copy F S q p0 a d n).1 = 1 by rw [e1]]
    rw [show (kk_copy F S q p0 a d n).2 = q by rw [e1]]
    refine ob_callT (E := R_En) (X := []) (M := xW b F S tI tZ tA q) (M' := xW b F S tI tZ tA q) (ob_runV (n := 4) (As := [.int p0, .int a, .int d, .int n]) (rest := []) (t_X_copy1 l D tI tZ tA tJ htr b F S s.heap.size q p0 a d n) (hT.ok ob_cd_c (by decide +kernel) rfl rfl (Nat.le_of_ble_eq_true rfl) (Nat.le_of_ble_eq_true rfl) kn_X kc_X_copy) hx hb hml hown (hT.w k_L_38) (hT.w ki_X_copy) (hT.w kv_X_copy) (va_recv (q0 := 0) (ci := 0) hT.1 hP rfl rfl) pT.blind (pT.at hT (hz.on hS hpl) (hc) hP hD) rfl rfl hl.1 rfl (lv_room (Nat.le_of_ble_eq_true rfl)) d_L_copy_6 ⟨Nat.le_of_ble_eq_true rfl, Nat.le_of_ble_eq_true rfl⟩) hP hD hS hA (fun xc H locs hex hP hD hS => ?_)
    have hP : va_P D vcl (xW b F S tI tZ tA q) H := hP
    have hD : va_D A (xW b F S tI tZ tA q) := hD
    refine ct_catch (own := R_L) (name := R_En) (E := R_En) hown [] ⟨0, 9, 12, 19⟩ [⟨0, 9, 16, 28⟩, ⟨0, 9, 20, 13⟩] (by rw [htab]; rfl) (fun y hy => nomatch hy) rfl (by decide) (hT.w k_L_19) (hT.2.1 (.castable R_En R_En) cs_En rfl _) hex ?_
    refine lv_astore (lv' := [(5, .ref xc), (0, .ref (b 0)), (1, .int p0), (2, .int a), (3, .int d), (4, .int n)]) hx hb d_L_copy_12 hl (by decide) rfl (fun ls hl => ?_)
    refine lv_iconst (v := 1) hx hb d_L_copy_14 (by decide) ?_
    refine ob_iret hlocks hx hb hr d_L_copy_15 hS.2.2 (fun t ht hW => ?_)
    exact ⟨rfl, by rw [ht]; exact hP, hD, hS.F ht⟩
  · have hc0 := hc
    by_cases hc : k_rng a n = 0
    · have e1 : kk_copy F S q p0 a d n = (2, q) := by unfold kk_copy; rw [if_neg hc0, if_pos hc]
      rw [show (kk_copy F S q p0 a d n).1 = 2 by rw [e1]]
      rw [show (kk_copy F S q p0 a d n).2 = q by rw [e1]]
      refine ob_callT (E := R_Ei) (X := []) (M := xW b F S tI tZ tA q) (M' := xW b F S tI tZ tA q) (ob_runV (n := 4) (As := [.int p0, .int a, .int d, .int n]) (rest := []) (t_X_copy2 l D tI tZ tA tJ htr b F S s.heap.size q p0 a d n) (hT.ok ob_cd_c (by decide +kernel) rfl rfl (Nat.le_of_ble_eq_true rfl) (Nat.le_of_ble_eq_true rfl) kn_X kc_X_copy) hx hb hml hown (hT.w k_L_38) (hT.w ki_X_copy) (hT.w kv_X_copy) (va_recv (q0 := 0) (ci := 0) hT.1 hP rfl rfl) pT.blind (pT.at hT (hz.on hS hpl) (⟨hc0, Or.inl hc⟩) hP hD) rfl rfl hl.1 rfl (lv_room (Nat.le_of_ble_eq_true rfl)) d_L_copy_6 ⟨Nat.le_of_ble_eq_true rfl, Nat.le_of_ble_eq_true rfl⟩) hP hD hS hA (fun xc H locs hex hP hD hS => ?_)
      have hP : va_P D vcl (xW b F S tI tZ tA q) H := hP
      have hD : va_D A (xW b F S tI tZ tA q) := hD
      refine ct_catch (own := R_L) (name := R_Ei) (E := R_Ei) hown [⟨0, 9, 12, 19⟩] ⟨0, 9, 16, 28⟩ [⟨0, 9, 20, 13⟩] (by rw [htab]; rfl) (fun y hy => by rw [List.mem_singleton.mp hy]; exact ⟨rfl, (by decide), R_En, hT.w k_L_19, hT.2.2.2 (R_Ei, R_En) (by decide +kernel)⟩) rfl (by decide) (hT.w k_L_28) (hT.2.1 (.castable R_Ei R_Ei) cs_Ei rfl _) hex ?_
      refine lv_astore (lv' := [(5, .ref xc), (0, .ref (b 0)), (1, .int p0), (2, .int a), (3, .int d), (4, .int n)]) hx hb d_L_copy_16 hl (by decide) rfl (fun ls hl => ?_)
      refine lv_iconst (v := 2) hx hb d_L_copy_18 (by decide) ?_
      refine ob_iret hlocks hx hb hr d_L_copy_19 hS.2.2 (fun t ht hW => ?_)
      exact ⟨rfl, by rw [ht]; exact hP, hD, hS.F ht⟩
    · have hc1 := hc
      by_cases hc : k_rng d n = 0
      · have e1 : kk_copy F S q p0 a d n = (2, q) := by unfold kk_copy; rw [if_neg hc0, if_neg hc1, if_pos hc]
        rw [show (kk_copy F S q p0 a d n).1 = 2 by rw [e1]]
        rw [show (kk_copy F S q p0 a d n).2 = q by rw [e1]]
        refine ob_callT (E := R_Ei) (X := []) (M := xW b F S tI tZ tA q) (M' := xW b F S tI tZ tA q) (ob_runV (n := 4) (As := [.int p0, .int a, .int d, .int n]) (rest := []) (t_X_copy2 l D tI tZ tA tJ htr b F S s.heap.size q p0 a d n) (hT.ok ob_cd_c (by decide +kernel) rfl rfl (Nat.le_of_ble_eq_true rfl) (Nat.le_of_ble_eq_true rfl) kn_X kc_X_copy) hx hb hml hown (hT.w k_L_38) (hT.w ki_X_copy) (hT.w kv_X_copy) (va_recv (q0 := 0) (ci := 0) hT.1 hP rfl rfl) pT.blind (pT.at hT (hz.on hS hpl) (⟨hc0, Or.inr hc⟩) hP hD) rfl rfl hl.1 rfl (lv_room (Nat.le_of_ble_eq_true rfl)) d_L_copy_6 ⟨Nat.le_of_ble_eq_true rfl, Nat.le_of_ble_eq_true rfl⟩) hP hD hS hA (fun xc H locs hex hP hD hS => ?_)
        have hP : va_P D vcl (xW b F S tI tZ tA q) H := hP
        have hD : va_D A (xW b F S tI tZ tA q) := hD
        refine ct_catch (own := R_L) (name := R_Ei) (E := R_Ei) hown [⟨0, 9, 12, 19⟩] ⟨0, 9, 16, 28⟩ [⟨0, 9, 20, 13⟩] (by rw [htab]; rfl) (fun y hy => by rw [List.mem_singleton.mp hy]; exact ⟨rfl, (by decide), R_En, hT.w k_L_19, hT.2.2.2 (R_Ei, R_En) (by decide +kernel)⟩) rfl (by decide) (hT.w k_L_28) (hT.2.1 (.castable R_Ei R_Ei) cs_Ei rfl _) hex ?_
        refine lv_astore (lv' := [(5, .ref xc), (0, .ref (b 0)), (1, .int p0), (2, .int a), (3, .int d), (4, .int n)]) hx hb d_L_copy_16 hl (by decide) rfl (fun ls hl => ?_)
        refine lv_iconst (v := 2) hx hb d_L_copy_18 (by decide) ?_
        refine ob_iret hlocks hx hb hr d_L_copy_19 hS.2.2 (fun t ht hW => ?_)
        exact ⟨rfl, by rw [ht]; exact hP, hD, hS.F ht⟩
      · have hc2 := hc
        obtain ⟨hn25, hkc⟩ := hok hc0 hc1 hc2
        by_cases hc : (k_copyL F S p0 a d (ix n) 0 (kv_cp q 0)).1 = 0
        · have e1 : kk_copy F S q p0 a d n = (0, (k_copyL F S p0 a d (ix n) 0 (kv_cp q 0)).2) := by unfold kk_copy; rw [if_neg hc0, if_neg hc1, if_neg hc2, if_pos hc]
          rw [show (kk_copy F S q p0 a d n).1 = 0 by rw [e1]]
          rw [show (kk_copy F S q p0 a d n).2 = (k_copyL F S p0 a d (ix n) 0 (kv_cp q 0)).2 by rw [e1]]
          refine ob_callW (v := none) (X := []) (M := xW b F S tI tZ tA q) (M' := xW b F S tI tZ tA ((k_copyL F S p0 a d (ix n) 0 (kv_cp q 0)).2)) (ob_runV (n := 4) (As := [.int p0, .int a, .int d, .int n]) (rest := []) (c_X_copy l D tI tZ tA tJ b F S s.heap.size q p0 a d n) (hT.ok ob_cd_c (by decide +kernel) rfl rfl (Nat.le_of_ble_eq_true rfl) (Nat.le_of_ble_eq_true rfl) kn_X kc_X_copy) hx hb hml hown (hT.w k_L_38) (hT.w ki_X_copy) (hT.w kv_X_copy) (va_recv (q0 := 0) (ci := 0) hT.1 hP rfl rfl) pW.blind (pW.at hT (⟨hc0, hc1, hc2, hn25, hc, hkc⟩) hP hD) rfl rfl hl.1 rfl (lv_room (Nat.le_of_ble_eq_true rfl)) d_L_copy_6 ⟨Nat.le_of_ble_eq_true rfl, Nat.le_of_ble_eq_true rfl⟩) hP hD hS hA (fun H locs hP hD hS => ?_)
          have hP : va_P D vcl (xW b F S tI tZ tA ((k_copyL F S p0 a d (ix n) 0 (kv_cp q 0)).2)) H := hP
          have hD : va_D A (xW b F S tI tZ tA ((k_copyL F S p0 a d (ix n) 0 (kv_cp q 0)).2)) := hD
          refine W.eq (g2 := F0 m 9 ls []) rfl ?_
          refine W.widen (k := 1) (n := 6) (Nat.le_of_ble_eq_true rfl) (Nat.le_of_ble_eq_true rfl) ?_
          refine lv_goto (tgt := 24) hx hb d_L_copy_9 (by decide) ?_
          refine lv_iconst (v := 0) hx hb d_L_copy_24 (by decide) ?_
          refine ob_iret hlocks hx hb hr d_L_copy_25 hS.2.2 (fun t ht hW => ?_)
          exact ⟨rfl, by rw [ht]; exact hP, hD, hS.F ht⟩
        · have e1 : kk_copy F S q p0 a d n = (3, (k_copyL F S p0 a d (ix n) 0 (kv_cp q 0)).2) := by unfold kk_copy; rw [if_neg hc0, if_neg hc1, if_neg hc2, if_neg hc]
          rw [show (kk_copy F S q p0 a d n).1 = 3 by rw [e1]]
          rw [show (kk_copy F S q p0 a d n).2 = (k_copyL F S p0 a d (ix n) 0 (kv_cp q 0)).2 by rw [e1]]
          refine ob_callT (E := R_Es) (X := []) (M := xW b F S tI tZ tA q) (M' := xW b F S tI tZ tA ((k_copyL F S p0 a d (ix n) 0 (kv_cp q 0)).2)) (ob_runV (n := 4) (As := [.int p0, .int a, .int d, .int n]) (rest := []) (t_X_copy3 l D tI tZ tA tJ htr b F S s.heap.size q p0 a d n) (hT.ok ob_cd_c (by decide +kernel) rfl rfl (Nat.le_of_ble_eq_true rfl) (Nat.le_of_ble_eq_true rfl) kn_X kc_X_copy) hx hb hml hown (hT.w k_L_38) (hT.w ki_X_copy) (hT.w kv_X_copy) (va_recv (q0 := 0) (ci := 0) hT.1 hP rfl rfl) pT.blind (pT.at hT (hz.on hS hpl) (⟨hc0, hc1, hc2, hn25, hc, hkc⟩) hP hD) rfl rfl hl.1 rfl (lv_room (Nat.le_of_ble_eq_true rfl)) d_L_copy_6 ⟨Nat.le_of_ble_eq_true rfl, Nat.le_of_ble_eq_true rfl⟩) hP hD hS hA (fun xc H locs hex hP hD hS => ?_)
          have hP : va_P D vcl (xW b F S tI tZ tA ((k_copyL F S p0 a d (ix n) 0 (kv_cp q 0)).2)) H := hP
          have hD : va_D A (xW b F S tI tZ tA ((k_copyL F S p0 a d (ix n) 0 (kv_cp q 0)).2)) := hD
          refine ct_catch (own := R_L) (name := R_Es) (E := R_Es) hown [⟨0, 9, 12, 19⟩, ⟨0, 9, 16, 28⟩] ⟨0, 9, 20, 13⟩ [] (by rw [htab]; rfl) (fun y hy => (List.mem_cons.mp hy).elim (fun z => by rw [z]; exact ⟨rfl, (by decide), R_En, hT.w k_L_19, hT.2.2.2 (R_Es, R_En) (by decide +kernel)⟩) (fun z => by rw [List.mem_singleton.mp z]; exact ⟨rfl, (by decide), R_Ei, hT.w k_L_28, hT.2.2.2 (R_Es, R_Ei) (by decide +kernel)⟩)) rfl (by decide) (hT.w k_L_13) (hT.2.1 (.castable R_Es R_Es) cs_Es rfl _) hex ?_
          refine lv_astore (lv' := [(5, .ref xc), (0, .ref (b 0)), (1, .int p0), (2, .int a), (3, .int d), (4, .int n)]) hx hb d_L_copy_20 hl (by decide) rfl (fun ls hl => ?_)
          refine lv_iconst (v := 3) hx hb d_L_copy_22 (by decide) ?_
          refine ob_iret hlocks hx hb hr d_L_copy_23 hS.2.2 (fun t ht hW => ?_)
          exact ⟨rfl, by rw [ht]; exact hP, hD, hS.F ht⟩
end
