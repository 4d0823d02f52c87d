section
-- ===== PART A: goes FIRST, ahead of the names: the tables' words, and 'selects' of the private methods out of them =====
/-- a private method of a class that the tables say can be made, by its rows of tables_1 -/
def lw_okq (q : MethodName × Nat) : Prop := (q.1.cls ≠ "java/lang/invoke/MethodHandle" ∧ q.1.cls ≠ "java/lang/invoke/VarHandle") ∧ Cond.instantiable q.1.cls q.2 ∈ tables_1 ∧ Cond.privateMethod q.1 ∈ tables_1 ∧ Cond.instanceMethod q.1 ∈ tables_1
theorem lw_p0 : lw_okq (⟨"ForkedSheets", "sheetOf", "(II)I"⟩, 4) := ⟨⟨by decide +kernel, by decide +kernel⟩, List.mem_of_getElem? (i := 14) (by decide +kernel), List.mem_of_getElem? (i := 99) (by decide +kernel), List.mem_of_getElem? (i := 100) (by decide +kernel)⟩
theorem lw_p1 : lw_okq (⟨"ForkedSheets", "lowestNotThere", "()I"⟩, 4) := ⟨⟨by decide +kernel, by decide +kernel⟩, List.mem_of_getElem? (i := 14) (by decide +kernel), List.mem_of_getElem? (i := 162) (by decide +kernel), List.mem_of_getElem? (i := 163) (by decide +kernel)⟩
theorem lw_p2 : lw_okq (⟨"java/lang/Throwable", "fillInStackTrace", "(I)Ljava/lang/Throwable;"⟩, 6) := ⟨⟨by decide +kernel, by decide +kernel⟩, List.mem_of_getElem? (i := 204) (by decide +kernel), List.mem_of_getElem? (i := 202) (by decide +kernel), List.mem_of_getElem? (i := 203) (by decide +kernel)⟩
theorem lw_p3 : lw_okq (⟨"ForkedSheets", "requireProcess", "(I)V"⟩, 4) := ⟨⟨by decide +kernel, by decide +kernel⟩, List.mem_of_getElem? (i := 14) (by decide +kernel), List.mem_of_getElem? (i := 242) (by decide +kernel), List.mem_of_getElem? (i := 243) (by decide +kernel)⟩
theorem lw_p4 : lw_okq (⟨"ForkedSheets", "emptyPage", "(II)Z"⟩, 4) := ⟨⟨by decide +kernel, by decide +kernel⟩, List.mem_of_getElem? (i := 14) (by decide +kernel), List.mem_of_getElem? (i := 273) (by decide +kernel), List.mem_of_getElem? (i := 274) (by decide +kernel)⟩
theorem lw_p5 : lw_okq (⟨"ForkedSheets$Memory", "freePlace", "(I)V"⟩, 9) := ⟨⟨by decide +kernel, by decide +kernel⟩, List.mem_of_getElem? (i := 24) (by decide +kernel), List.mem_of_getElem? (i := 281) (by decide +kernel), List.mem_of_getElem? (i := 282) (by decide +kernel)⟩
theorem lw_p6 : lw_okq (⟨"ForkedSheets", "loadWord", "(II)I"⟩, 4) := ⟨⟨by decide +kernel, by decide +kernel⟩, List.mem_of_getElem? (i := 14) (by decide +kernel), List.mem_of_getElem? (i := 320) (by decide +kernel), List.mem_of_getElem? (i := 321) (by decide +kernel)⟩
theorem lw_p7 : lw_okq (⟨"ForkedSheets$Memory", "touch", "(I)V"⟩, 9) := ⟨⟨by decide +kernel, by decide +kernel⟩, List.mem_of_getElem? (i := 24) (by decide +kernel), List.mem_of_getElem? (i := 328) (by decide +kernel), List.mem_of_getElem? (i := 329) (by decide +kernel)⟩
theorem lw_p8 : lw_okq (⟨"ForkedSheets$Memory", "bringIn", "(I)V"⟩, 9) := ⟨⟨by decide +kernel, by decide +kernel⟩, List.mem_of_getElem? (i := 24) (by decide +kernel), List.mem_of_getElem? (i := 332) (by decide +kernel), List.mem_of_getElem? (i := 333) (by decide +kernel)⟩
theorem lw_p9 : lw_okq (⟨"ForkedSheets$Memory", "getFrame", "()I"⟩, 9) := ⟨⟨by decide +kernel, by decide +kernel⟩, List.mem_of_getElem? (i := 24) (by decide +kernel), List.mem_of_getElem? (i := 336) (by decide +kernel), List.mem_of_getElem? (i := 337) (by decide +kernel)⟩
theorem lw_p10 : lw_okq (⟨"ForkedSheets$Memory", "evictInto", "(I)I"⟩, 9) := ⟨⟨by decide +kernel, by decide +kernel⟩, List.mem_of_getElem? (i := 24) (by decide +kernel), List.mem_of_getElem? (i := 343) (by decide +kernel), List.mem_of_getElem? (i := 344) (by decide +kernel)⟩
theorem lw_p11 : lw_okq (⟨"ForkedSheets$Memory", "moveHand", "()V"⟩, 9) := ⟨⟨by decide +kernel, by decide +kernel⟩, List.mem_of_getElem? (i := 24) (by decide +kernel), List.mem_of_getElem? (i := 347) (by decide +kernel), List.mem_of_getElem? (i := 348) (by decide +kernel)⟩
theorem lw_p12 : lw_okq (⟨"ForkedSheets$Memory", "layIntoFrame", "(II)V"⟩, 9) := ⟨⟨by decide +kernel, by decide +kernel⟩, List.mem_of_getElem? (i := 24) (by decide +kernel), List.mem_of_getElem? (i := 351) (by decide +kernel), List.mem_of_getElem? (i := 352) (by decide +kernel)⟩
theorem lw_p13 : lw_okq (⟨"ForkedSheets", "storeWord", "(III)V"⟩, 4) := ⟨⟨by decide +kernel, by decide +kernel⟩, List.mem_of_getElem? (i := 14) (by decide +kernel), List.mem_of_getElem? (i := 362) (by decide +kernel), List.mem_of_getElem? (i := 363) (by decide +kernel)⟩
theorem lw_p14 : lw_okq (⟨"ForkedSheets", "giveOwnSheet", "(II)I"⟩, 4) := ⟨⟨by decide +kernel, by decide +kernel⟩, List.mem_of_getElem? (i := 14) (by decide +kernel), List.mem_of_getElem? (i := 366) (by decide +kernel), List.mem_of_getElem? (i := 367) (by decide +kernel)⟩
theorem lw_p15 : lw_okq (⟨"ForkedSheetsModel", "lowestProcess", "()I"⟩, 12) := ⟨⟨by decide +kernel, by decide +kernel⟩, List.mem_of_getElem? (i := 398) (by decide +kernel), List.mem_of_getElem? (i := 449) (by decide +kernel), List.mem_of_getElem? (i := 450) (by decide +kernel)⟩
def lw_privs_1 : List (MethodName × Nat) := [(⟨"ForkedSheets", "sheetOf", "(II)I"⟩, 4), (⟨"ForkedSheets", "lowestNotThere", "()I"⟩, 4), (⟨"java/lang/Throwable", "fillInStackTrace", "(I)Ljava/lang/Throwable;"⟩, 6), (⟨"ForkedSheets", "requireProcess", "(I)V"⟩, 4), (⟨"ForkedSheets", "emptyPage", "(II)Z"⟩, 4), (⟨"ForkedSheets$Memory", "freePlace", "(I)V"⟩, 9), (⟨"ForkedSheets", "loadWord", "(II)I"⟩, 4), (⟨"ForkedSheets$Memory", "touch", "(I)V"⟩, 9), (⟨"ForkedSheets$Memory", "bringIn", "(I)V"⟩, 9), (⟨"ForkedSheets$Memory", "getFrame", "()I"⟩, 9), (⟨"ForkedSheets$Memory", "evictInto", "(I)I"⟩, 9), (⟨"ForkedSheets$Memory", "moveHand", "()V"⟩, 9), (⟨"ForkedSheets$Memory", "layIntoFrame", "(II)V"⟩, 9), (⟨"ForkedSheets", "storeWord", "(III)V"⟩, 4), (⟨"ForkedSheets", "giveOwnSheet", "(II)I"⟩, 4), (⟨"ForkedSheetsModel", "lowestProcess", "()I"⟩, 12)]
theorem lw_r1 : ∀ q ∈ lw_privs_1, lw_okq q := List.forall_mem_cons.mpr ⟨lw_p0, List.forall_mem_cons.mpr ⟨lw_p1, List.forall_mem_cons.mpr ⟨lw_p2, List.forall_mem_cons.mpr ⟨lw_p3, List.forall_mem_cons.mpr ⟨lw_p4, List.forall_mem_cons.mpr ⟨lw_p5, List.forall_mem_cons.mpr ⟨lw_p6, List.forall_mem_cons.mpr ⟨lw_p7, List.forall_mem_cons.mpr ⟨lw_p8, List.forall_mem_cons.mpr ⟨lw_p9, List.forall_mem_cons.mpr ⟨lw_p10, List.forall_mem_cons.mpr ⟨lw_p11, List.forall_mem_cons.mpr ⟨lw_p12, List.forall_mem_cons.mpr ⟨lw_p13, List.forall_mem_cons.mpr ⟨lw_p14, List.forall_mem_cons.mpr ⟨lw_p15, fun _ h => absurd h List.not_mem_nil⟩⟩⟩⟩⟩⟩⟩⟩⟩⟩⟩⟩⟩⟩⟩⟩
theorem lw_p16 : lw_okq (⟨"ForkedSheetsModel", "isProcess", "(I)Z"⟩, 12) := ⟨⟨by decide +kernel, by decide +kernel⟩, List.mem_of_getElem? (i := 398) (by decide +kernel), List.mem_of_getElem? (i := 457) (by decide +kernel), List.mem_of_getElem? (i := 458) (by decide +kernel)⟩
theorem lw_p17 : lw_okq (⟨"ForkedSheetsModel", "empty", "(I)Z"⟩, 12) := ⟨⟨by decide +kernel, by decide +kernel⟩, List.mem_of_getElem? (i := 398) (by decide +kernel), List.mem_of_getElem? (i := 465) (by decide +kernel), List.mem_of_getElem? (i := 466) (by decide +kernel)⟩
theorem lw_p18 : lw_okq (⟨"ForkedSheetsModel", "owners", "(I)I"⟩, 12) := ⟨⟨by decide +kernel, by decide +kernel⟩, List.mem_of_getElem? (i := 398) (by decide +kernel), List.mem_of_getElem? (i := 469) (by decide +kernel), List.mem_of_getElem? (i := 470) (by decide +kernel)⟩
theorem lw_p19 : lw_okq (⟨"ForkedSheetsModel", "loaded", "(II)I"⟩, 12) := ⟨⟨by decide +kernel, by decide +kernel⟩, List.mem_of_getElem? (i := 398) (by decide +kernel), List.mem_of_getElem? (i := 484) (by decide +kernel), List.mem_of_getElem? (i := 485) (by decide +kernel)⟩
theorem lw_p20 : lw_okq (⟨"ForkedSheetsModel", "bringIn", "(I)V"⟩, 12) := ⟨⟨by decide +kernel, by decide +kernel⟩, List.mem_of_getElem? (i := 398) (by decide +kernel), List.mem_of_getElem? (i := 488) (by decide +kernel), List.mem_of_getElem? (i := 489) (by decide +kernel)⟩
theorem lw_p21 : lw_okq (⟨"ForkedSheetsModel", "getFrame", "()I"⟩, 12) := ⟨⟨by decide +kernel, by decide +kernel⟩, List.mem_of_getElem? (i := 398) (by decide +kernel), List.mem_of_getElem? (i := 492) (by decide +kernel), List.mem_of_getElem? (i := 493) (by decide +kernel)⟩
theorem lw_p22 : lw_okq (⟨"ForkedSheetsModel", "lowestFrame", "()I"⟩, 12) := ⟨⟨by decide +kernel, by decide +kernel⟩, List.mem_of_getElem? (i := 398) (by decide +kernel), List.mem_of_getElem? (i := 496) (by decide +kernel), List.mem_of_getElem? (i := 497) (by decide +kernel)⟩
theorem lw_p23 : lw_okq (⟨"ForkedSheetsModel", "sheetAt", "(I)I"⟩, 12) := ⟨⟨by decide +kernel, by decide +kernel⟩, List.mem_of_getElem? (i := 398) (by decide +kernel), List.mem_of_getElem? (i := 500) (by decide +kernel), List.mem_of_getElem? (i := 501) (by decide +kernel)⟩
theorem lw_p24 : lw_okq (⟨"ForkedSheetsModel", "turn", "()V"⟩, 12) := ⟨⟨by decide +kernel, by decide +kernel⟩, List.mem_of_getElem? (i := 398) (by decide +kernel), List.mem_of_getElem? (i := 504) (by decide +kernel), List.mem_of_getElem? (i := 505) (by decide +kernel)⟩
theorem lw_p25 : lw_okq (⟨"ForkedSheetsModel", "lowestSlot", "()I"⟩, 12) := ⟨⟨by decide +kernel, by decide +kernel⟩, List.mem_of_getElem? (i := 398) (by decide +kernel), List.mem_of_getElem? (i := 508) (by decide +kernel), List.mem_of_getElem? (i := 509) (by decide +kernel)⟩
theorem lw_p26 : lw_okq (⟨"ForkedSheetsModel", "needs", "(II)Z"⟩, 12) := ⟨⟨by decide +kernel, by decide +kernel⟩, List.mem_of_getElem? (i := 398) (by decide +kernel), List.mem_of_getElem? (i := 516) (by decide +kernel), List.mem_of_getElem? (i := 517) (by decide +kernel)⟩
theorem lw_p27 : lw_okq (⟨"ForkedSheetsModel", "canMake", "()Z"⟩, 12) := ⟨⟨by decide +kernel, by decide +kernel⟩, List.mem_of_getElem? (i := 398) (by decide +kernel), List.mem_of_getElem? (i := 520) (by decide +kernel), List.mem_of_getElem? (i := 521) (by decide +kernel)⟩
theorem lw_p28 : lw_okq (⟨"ForkedSheetsModel", "stored", "(III)V"⟩, 12) := ⟨⟨by decide +kernel, by decide +kernel⟩, List.mem_of_getElem? (i := 398) (by decide +kernel), List.mem_of_getElem? (i := 524) (by decide +kernel), List.mem_of_getElem? (i := 525) (by decide +kernel)⟩
theorem lw_p29 : lw_okq (⟨"ForkedSheetsModel", "make", "(II)V"⟩, 12) := ⟨⟨by decide +kernel, by decide +kernel⟩, List.mem_of_getElem? (i := 398) (by decide +kernel), List.mem_of_getElem? (i := 528) (by decide +kernel), List.mem_of_getElem? (i := 529) (by decide +kernel)⟩
theorem lw_p30 : lw_okq (⟨"ForkedSheetsModel", "sheetOf", "(II)I"⟩, 12) := ⟨⟨by decide +kernel, by decide +kernel⟩, List.mem_of_getElem? (i := 398) (by decide +kernel), List.mem_of_getElem? (i := 544) (by decide +kernel), List.mem_of_getElem? (i := 545) (by decide +kernel)⟩
def lw_privs_2 : List (MethodName × Nat) := [(⟨"ForkedSheetsModel", "isProcess", "(I)Z"⟩, 12), (⟨"ForkedSheetsModel", "empty", "(I)Z"⟩, 12), (⟨"ForkedSheetsModel", "owners", "(I)I"⟩, 12), (⟨"ForkedSheetsModel", "loaded", "(II)I"⟩, 12), (⟨"ForkedSheetsModel", "bringIn", "(I)V"⟩, 12), (⟨"ForkedSheetsModel", "getFrame", "()I"⟩, 12), (⟨"ForkedSheetsModel", "lowestFrame", "()I"⟩, 12), (⟨"ForkedSheetsModel", "sheetAt", "(I)I"⟩, 12), (⟨"ForkedSheetsModel", "turn", "()V"⟩, 12), (⟨"ForkedSheetsModel", "lowestSlot", "()I"⟩, 12), (⟨"ForkedSheetsModel", "needs", "(II)Z"⟩, 12), (⟨"ForkedSheetsModel", "canMake", "()Z"⟩, 12), (⟨"ForkedSheetsModel", "stored", "(III)V"⟩, 12), (⟨"ForkedSheetsModel", "make", "(II)V"⟩, 12), (⟨"ForkedSheetsModel", "sheetOf", "(II)I"⟩, 12)]
theorem lw_r2 : ∀ q ∈ lw_privs_2, lw_okq q := List.forall_mem_cons.mpr ⟨lw_p16, List.forall_mem_cons.mpr ⟨lw_p17, List.forall_mem_cons.mpr ⟨lw_p18, List.forall_mem_cons.mpr ⟨lw_p19, List.forall_mem_cons.mpr ⟨lw_p20, List.forall_mem_cons.mpr ⟨lw_p21, List.forall_mem_cons.mpr ⟨lw_p22, List.forall_mem_cons.mpr ⟨lw_p23, List.forall_mem_cons.mpr ⟨lw_p24, List.forall_mem_cons.mpr ⟨lw_p25, List.forall_mem_cons.mpr ⟨lw_p26, List.forall_mem_cons.mpr ⟨lw_p27, List.forall_mem_cons.mpr ⟨lw_p28, List.forall_mem_cons.mpr ⟨lw_p29, List.forall_mem_cons.mpr ⟨lw_p30, fun _ h => absurd h List.not_mem_nil⟩⟩⟩⟩⟩⟩⟩⟩⟩⟩⟩⟩⟩⟩⟩
def lw_privs : List (MethodName × Nat) := lw_privs_1 ++ (lw_privs_2)
def lw_tbl : List Cond := k2_sels lw_privs ++ tables_1
theorem lw_privs_ok : ∀ q ∈ lw_privs, lw_okq q := by
  show ∀ q ∈ lw_privs_1 ++ (lw_privs_2), lw_okq q
  exact List.forall_mem_append.mpr ⟨lw_r1, lw_r2⟩
end
section
/-! The base: contracts whose outcome may be an exception; calls both ways; a catch; reads of arrays of arrays. -/
section OB1
variable {p : Program} {l : Launch} {e : Env} {R : Room} {s : State} {m : MethodId} {args : Array Value} {below : List Frame} {meth : Method} {c : Code} {H : Heap} {locs : List Loc} {cells slots : Nat}
theorem ob_mono {Q Q' : State → Prop} {g : JFrame} (h : ∀ t, Q t → Q' t) (k : W p l e R s m args below meth c H locs cells slots Q g) : W p l e R s m args below meth c H locs cells slots Q' g := by
  intro T hT X
  obtain ⟨t, a, b⟩ := k T hT X
  exact ⟨t, a, h t b⟩
/-- the end of an invocation, whatever its outcome -/
def ob_Fr (st t : State) (L : List Loc) (k n : Nat) : Prop := st.WarmedH t.vm ∧ st.sameButNew ({ t with vm := st.vm } : State) L k n
def ob_Q (below : List Frame) (Qc : Array Value → State → Outcome → State → Prop) (a : Array Value) (s : State) (mc ms : Nat) (free : Addr → Prop) : State → Prop := fun t =>
  ∃ o, t.status = .running ∧ Ended t below o ∧ Qc a s o t ∧ ∃ L, ob_Fr s t L mc ms ∧ ∀ q ∈ L, free q.base
theorem ob_of_MQ {Qc : Array Value → State → Outcome → State → Prop} {a : Array Value} {mc ms : Nat} {free : Addr → Prop} (t : State) (h : MQ below Qc a s mc ms free t) : ob_Q below Qc a s mc ms free t := by
  obtain ⟨o, h1, h2, h3, L, ⟨-, hW, hS⟩, hL⟩ := h
  exact ⟨o, h1, h2, h3, L, ⟨hW, hS⟩, hL⟩
/-- a method's contract: one word says its code (with or without handlers) -/
def ob_M (l : Launch) (y : MethodName) (w : Cond) (rm : Room) (Pc : Array Value → State → Prop) (Qc : Array Value → State → Outcome → State → Prop) (mc ms : Nat) (free : Addr → Prop) : Prop :=
  MetFree l y (headSpec [w] rm) Pc (fun _ _ _ _ _ => True) (fun a st o t => Qc a st o t ∧ ∃ L, ob_Fr st t L mc ms ∧ ∀ q ∈ L, free q.base)
end OB1
section OB2
variable {l : Launch} {y : MethodName} {cc : ByteArray} {maxL : Nat} {ret : Option FieldType} {rm : Room} {Pc : Array Value → State → Prop} {Qc : Array Value → State → Outcome → State → Prop} {mc ms : Nat} {free : Addr → Prop}
theorem ob_ofW (hy : plainName y.cls = true)
    (body : ∀ p e s m args below meth c s₁, BodyLoose p l y (headSpec [Cond.code y cc maxL ret] rm) cc maxL ret e s m args below meth c s₁ → c.maxLocals = maxL → c.exceptionTable.toList = [] → Pc args s →
      W p l e rm s m args below meth c s.heap [] 0 0 (ob_Q below Qc args s mc ms free) (entryFrame m args maxL)) : ob_M l y (.code y cc maxL ret) rm Pc Qc mc ms free := by
  refine MetFree.of_bodyS (code := cc) (maxLocals := maxL) (ret := ret) hy ?_ ?_
  · intro args s m h hn
    obtain ⟨meth, c, h1, h2, h3, h4, h5, h6, -, -⟩ := Cond.code_spec hn (atoms_spec (ws := [Cond.code y cc maxL ret]) h _ List.mem_cons_self)
    exact ⟨meth, c, h1, h2, h3, h4, h5, h6⟩
  · intro p e s m args below meth c s₁ B hml hP _
    have hh0 : s₁.heap = s.heap := by rw [B.state]; rfl
    have hcd : (Cond.code y cc maxL ret).before args s = true := atoms_spec (ws := [Cond.code y cc maxL ret]) B.pre _ List.mem_cons_self
    have h0 : c.exceptionTable.isEmpty = true := B.noHandlers hcd
    have h1 : c.exceptionTable.toList = [] := List.eq_nil_of_length_eq_zero (by simpa [Array.isEmpty] using h0)
    obtain ⟨t, a1, o, b1, b2, b3⟩ := body p e s m args below meth c s₁ B hml h1 hP s₁ hh0 (Stand.of_body B)
    exact ⟨t, o, a1, b1, b2, ⟨b3.1, b3.2⟩⟩
theorem ob_ofWH {hs : List (Nat × Nat × Nat × Nat)} (hy : plainName y.cls = true)
    (body : ∀ p e s m args below meth c s₁, BodyLoose p l y (headSpec [Cond.codeWith y cc maxL ret hs] rm) cc maxL ret e s m args below meth c s₁ → c.maxLocals = maxL → c.exceptionTable.toList = tableOf hs → Pc args s →
      W p l e rm s m args below meth c s.heap [] 0 0 (ob_Q below Qc args s mc ms free) (entryFrame m args maxL)) : ob_M l y (.codeWith y cc maxL ret hs) rm Pc Qc mc ms free := by
  refine MetFree.of_bodyS (code := cc) (maxLocals := maxL) (ret := ret) hy ?_ ?_
  · intro args s m h hn
    obtain ⟨m', meth, c, h0, h1, h2, h3, h4, -, h5, h6, -⟩ := Cond.codeWith_spec (atoms_spec (ws := [Cond.codeWith y cc maxL ret hs]) h _ List.mem_cons_self)
    cases hn.symm.trans h0
    exact ⟨meth, c, h1, h2, h3, h4, h5, h6⟩
  · intro p e s m args below meth c s₁ B hml hP _
    have hh0 : s₁.heap = s.heap := by rw [B.state]; rfl
    have X0 := Stand.of_body B
    obtain ⟨m', meth', c', h0, h1, h2, h3, h4, h7, h5, h6, -⟩ := Cond.codeWith_spec (atoms_spec (ws := [Cond.codeWith y cc maxL ret hs]) B.pre _ List.mem_cons_self)
    cases B.named.symm.trans h0
    cases B.method.symm.trans h1
    cases X0.code.symm.trans h2
    have ht : c.exceptionTable.toList = tableOf hs := by rw [← h7, table_eq]
    obtain ⟨t, a1, o, b1, b2, b3⟩ := body p e s m args below meth c s₁ B hml ht hP s₁ hh0 X0
    exact ⟨t, o, a1, b1, b2, ⟨b3.1, b3.2⟩⟩
end OB2
section OB3
variable {p : Program} {l : Launch} {e : Env} {R : Room} {s : State} {m : MethodId} {args : Array Value} {below : List Frame} {meth : Method} {c : Code} {U : State} {Ls : List Loc} {c0 s0 len : Nat}
variable {y : MethodName} {w : Cond} {rm : Room} {Pc : Array Value → State → Prop} {Qc : Array Value → State → Outcome → State → Prop} {mc ms : Nat} {free : Addr → Prop}
/-- the call itself, behind the invoking instruction's own step -/
theorem ob_back (hM : ob_M l y w rm Pc Qc mc ms free) (hrc : rm.cells = mc) (hrs : rm.slots = ms) (hframes : rm.frames + 1 ≤ R.frames)
    {g : JFrame} {ig : Instr} {mk : MethodId} {a : Array Value} (X : Stand p l e R s m args below meth c U Ls c0 s0) (hg : g.method = m) (hsize : g.locals.size = c.maxLocals) (hdg : decode c.code g.pc = .ok (ig, len))
    (hn : U.methodNamed? y = some mk) {methY : Method} {cY : Code} (hmY : U.vm.method? mk = some methY) (hcY : methY.code = some cY)
    (hlocals : 2 * g.monitorRoom + (g.stack.map fun v => v.category).sum + (cY.maxLocals + 11) + rm.locals ≤ R.locals)
    (hini : (Cond.initialized y.cls).before a U = true) (hw : w.before a U = true) (hcells : c0 + mc ≤ R.cells) (hslots : s0 + ms ≤ R.slots) (hP : Pc a (U.calling g mk a)) :
    ∃ (o : Outcome) (t T' : State) (L : List Loc), Stand p l e R s m args below meth c T' (Ls ++ L) (c0 + mc) (s0 + ms) ∧ (∀ q ∈ L, free q.base) ∧ T'.heap = t.heap ∧ T'.vm = t.vm ∧ Qc a (U.calling g mk a) o t ∧
      (∀ v, o = .returned v → Steps p.tables e below (doInvoke e (U.setTop g) [] mk a).1 (T'.setTop { g with pc := g.pc + len, stack := v.toList ++ g.stack })) ∧
      (∀ x, o = .threw x → Steps p.tables e below (doInvoke e (U.setTop g) [] mk a).1 ((T'.setTop g).pushFrame (.throwing x))) := by
  obtain ⟨kY, hkY, -⟩ := className_of_methodNamed hn
  have hinitY : kY.init = .initialized := Cond.initialized_spec (findClass_of_methodNamed hn) hkY hini
  have h : At U g.method c below := by rw [hg]; exact X.here
  have happ : (headSpec [w] rm).appliesLoose y e.platform (U.calling g mk a) = true :=
    Spec.appliesLoose_calling (g := g) h hdg hn hkY hinitY
      (X.room_calling (g := g) (R' := rm) hsize hmY hcY hframes hlocals (by rw [hrc]; exact hcells) (by rw [hrs]; exact hslots))
      (atoms_intro (ws := [w]) fun w' hw' => by rw [List.mem_singleton.mp hw']; exact hw)
  obtain ⟨mid, hmid⟩ := h.above
  have hfr : (U.setTop g).frames = (.java g :: mid) ++ below := by rw [State.frames_setTop' g h.top, hmid]; rfl
  obtain ⟨o, s₂, hsteps, -, hend, hq⟩ := Steps.callFree hM p X.admits X.cas X.clock (acts := []) hfr happ hP trivial
  have hq0 : Qc a (U.calling g mk a) o s₂ ∧ ∃ L, ob_Fr (U.calling g mk a) s₂ L mc ms ∧ ∀ q ∈ L, free q.base := hq
  obtain ⟨hq', L, ⟨hW₂, e2, q2, q3, q4, q5, q6⟩, hL⟩ := hq0
  rw [State.frames_setTop' g h.top] at hend
  have hW' : U.WarmedH s₂.vm := hW₂
  have e3 : s₂ = ({ (U.calling g mk a).setFrames s₂.frames with heap := s₂.heap, slotsUsed := s₂.slotsUsed } : State).setVm s₂.vm := by
    have : s₂ = ({ s₂ with vm := (U.calling g mk a).vm } : State).setVm s₂.vm := rfl
    rw [e2] at this
    exact this
  obtain ⟨g₀, hg0⟩ := Option.isSome_iff_exists.mp h.top
  obtain ⟨r, hr⟩ := State.topJava?_eq_some.mp hg0
  have hr' : (({ U with heap := s₂.heap, slotsUsed := s₂.slotsUsed } : State).setVm s₂.vm).frames = .java g₀ :: r := hr
  have hsame : U.sameButNew ({ U with heap := s₂.heap, slotsUsed := s₂.slotsUsed } : State) L mc ms := by
    refine ⟨?_, q2, q3, q4, q5, q6⟩
    obtain ⟨t, ht, -⟩ := State.frames_cons hr
    show ({ U with heap := s₂.heap, slotsUsed := s₂.slotsUsed } : State) = { U.setFrames U.frames with heap := s₂.heap, slotsUsed := s₂.slotsUsed }
    rw [State.setFrames_self ht]
  refine ⟨o, s₂, ({ U with heap := s₂.heap, slotsUsed := s₂.slotsUsed } : State).setVm s₂.vm, L,
    ⟨X.admits, X.cas, X.clock, X.frames, X.room, X.hears, X.method, X.code, (X.here.setHeapUsed s₂.heap s₂.slotsUsed).setVm hW'.alike, X.tail, State.WarmedH.trans X.warmed hW', X.limits, X.bytes, X.same.trans (hsame.setVm s.vm)⟩,
    hL, rfl, rfl, hq', ?_, ?_⟩
  · intro v hv
    subst hv
    obtain ⟨c₂, i₂, len₂, hc₂, hd₂, hf₂⟩ := hend
    have hcc : c₂ = c := by
      have h1 : s₂.code? g.method = U.code? g.method := by
        rw [State.code?_eq, State.code?_eq, hW'.alike.method?]
      exact Option.some.inj (hc₂.symm.trans (h1.trans h.code))
    subst hcc
    have hlen : len₂ = len := by rw [hdg] at hd₂; cases hd₂; rfl
    subst hlen
    have hs₂ : s₂ = (({ U with heap := s₂.heap, slotsUsed := s₂.slotsUsed } : State).setVm s₂.vm).setTop { g with pc := g.pc + len₂, stack := v.toList ++ g.stack } := by
      refine e3.trans ?_
      rw [hf₂, State.calling_eq h.top, State.setFrames_setFrames, State.setTop_of_frames _ hr', hr]
      rfl
    rw [← hs₂]
    exact hsteps
  · intro x hx
    subst hx
    have hf₂ : s₂.frames = .throwing x :: .java g :: U.frames.tail := hend
    have hs₂ : s₂ = ((({ U with heap := s₂.heap, slotsUsed := s₂.slotsUsed } : State).setVm s₂.vm).setTop g).pushFrame (.throwing x) := by
      refine e3.trans ?_
      rw [hf₂, State.calling_eq h.top, State.setFrames_setFrames, State.pushFrame, State.frames_setTop _ hr', State.setTop_of_frames _ hr', State.setFrames_setFrames, hr]
      rfl
    rw [← hs₂]
    exact hsteps
end OB3
/-- a word that says a method's code -/
def ob_cd (w : Cond) (y : MethodName) (maxL : Nat) : Prop := ∀ (a : Array Value) (U : State) (mk : MethodId), U.methodNamed? y = some mk → w.before a U = true → ∃ meth c, U.vm.method? mk = some meth ∧ meth.code = some c ∧ c.maxLocals = maxL ∧ parseMethodDescriptor y.desc = some meth.sig
theorem ob_cd_c {y : MethodName} {cc : ByteArray} {maxL : Nat} {ret : Option FieldType} : ob_cd (.code y cc maxL ret) y maxL := by
  intro a U mk hn hw
  obtain ⟨meth, c, h1, h2, h3, h4, -, -, -, h5⟩ := Cond.code_spec hn hw
  exact ⟨meth, c, h1, h2, h4, h5⟩
theorem ob_cd_h {y : MethodName} {cc : ByteArray} {maxL : Nat} {ret : Option FieldType} {hs : List (Nat × Nat × Nat × Nat)} : ob_cd (.codeWith y cc maxL ret hs) y maxL := by
  intro a U mk hn hw
  obtain ⟨m', meth, c, h0, h1, h2, h3, h4, -, -, -, h5⟩ := Cond.codeWith_spec hw
  cases hn.symm.trans h0
  exact ⟨meth, c, h1, h2, h4, h5⟩
/-- behind a call: both ways -/
def ob_Run (p : Program) (l : Launch) (e : Env) (R : Room) (s : State) (m : MethodId) (args : Array Value) (below : List Frame) (meth : Method) (c : Code) (H : Heap) (locs : List Loc) (cells slots mc ms : Nat) (g : JFrame) (rest : List Value) (Qa : State → Outcome → State → Prop) (free : Addr → Prop) : Prop :=
  ∀ T : State, T.heap = H → Stand p l e R s m args below meth c T locs cells slots → ∃ (o : Outcome) (st₀ t T' : State) (L : List Loc), st₀.heap = H ∧ s.vm.Alike st₀.vm ∧ Stand p l e R s m args below meth c T' (locs ++ L) (cells + mc) (slots + ms) ∧ (∀ q ∈ L, free q.base) ∧ T'.heap = t.heap ∧ T'.vm = t.vm ∧ Qa st₀ o t ∧
    (∀ v, o = .returned v → ∀ tg, Steps p.tables e below (T'.setTop { g with pc := g.pc + 3, stack := v.toList ++ rest }) tg → Steps p.tables e below (T.setTop g) tg) ∧
    (∀ x, o = .threw x → ∀ tg, Steps p.tables e below ((T'.setTop { g with stack := rest }).pushFrame (.throwing x)) tg → Steps p.tables e below (T.setTop g) tg)
section OB4
variable {p : Program} {l : Launch} {e : Env} {R : Room} {s : State} {m : MethodId} {args : Array Value} {below : List Frame} {meth : Method} {c : Code} {H : Heap} {locs : List Loc} {cells slots : Nat}
variable {y : MethodName} {w : Cond} {rm : Room} {Pc : Array Value → State → Prop} {Qc : Array Value → State → Outcome → State → Prop} {mc ms : Nat} {free : Addr → Prop} {cc : ByteArray} {nL maxL n index : Nat} {own C host : String} {b : Addr} {As rest : List Value} {g : JFrame}
/-- what every call asks of its callee's words, of the room, and of the arguments -/
def ob_ok (R : Room) (s : State) (y : MethodName) (w : Cond) (rm : Room) (mc ms maxL n : Nat) : Prop :=
  ob_cd w y maxL ∧ (y.cls ≠ "java/lang/invoke/MethodHandle" ∧ y.cls ≠ "java/lang/invoke/VarHandle" ∧ (parseMethodDescriptor y.desc).map (fun d => d.parameters.length) = some n) ∧ rm.cells = mc ∧ rm.slots = ms ∧ rm.frames + 1 ≤ R.frames ∧ 8 + (maxL + 11) + rm.locals ≤ R.locals ∧
  (∀ (a : Array Value) (U : State), s.WarmedH U.vm → (Cond.initialized y.cls).before a U = true ∧ w.before a U = true)
theorem ob_len {y : MethodName} {n : Nat} (h : (parseMethodDescriptor y.desc).map (fun d => d.parameters.length) = some n) {sig : MethodDescriptor} (hs : parseMethodDescriptor y.desc = some sig) : n = sig.parameters.length := by
  rw [hs] at h
  exact (Option.some.inj h).symm
theorem ob_fin {mk : MethodId} {methM : Method} {cM : Code} {T : State} {vm₁ : Vm} {ig : Instr} {As' : List Value} (hM : ob_M l y w rm Pc Qc mc ms free) (hrc : rm.cells = mc) (hrs : rm.slots = ms) (hfr : rm.frames + 1 ≤ R.frames) (hlo : 8 + (maxL + 11) + rm.locals ≤ R.locals)
    (hws : ∀ (a : Array Value) (U : State), s.WarmedH U.vm → (Cond.initialized y.cls).before a U = true ∧ w.before a U = true) (hnamed : s.methodNamed? y = some mk) (hmethM : s.vm.method? mk = some methM) (hcM : methM.code = some cM) (hlM : cM.maxLocals = maxL)
    (hT : T.heap = H) (X₁ : Stand p l e R s m args below meth c (T.setVm vm₁) locs cells slots) (hg : g.method = m) (hsize : g.locals.size = c.maxLocals) (hW : 2 * g.monitorRoom + (rest.map fun v => v.category).sum ≤ 8) (hdg : decode c.code g.pc = .ok (ig, 3)) (hf : cells + mc ≤ R.cells ∧ slots + ms ≤ R.slots)
    (hbl : FrameBlind Pc) (hPc : ∀ U : State, U.heap = H → s.WarmedH U.vm → Pc As'.toArray U)
    (hstep₁ : ∀ target, (∀ acts, Steps p.tables e below (doInvoke e ((T.setVm vm₁).setTop { g with stack := rest }) acts mk As'.toArray).1 target) → Steps p.tables e below (T.setTop g) target) :
    ∃ (o : Outcome) (st₀ t T' : State) (L : List Loc), st₀.heap = H ∧ s.vm.Alike st₀.vm ∧ Stand p l e R s m args below meth c T' (locs ++ L) (cells + mc) (slots + ms) ∧ (∀ q ∈ L, free q.base) ∧ T'.heap = t.heap ∧ T'.vm = t.vm ∧ Qc As'.toArray st₀ o t ∧
    (∀ v, o = .returned v → ∀ tg, Steps p.tables e below (T'.setTop { g with pc := g.pc + 3, stack := v.toList ++ rest }) tg → Steps p.tables e below (T.setTop g) tg) ∧
    (∀ x, o = .threw x → ∀ tg, Steps p.tables e below ((T'.setTop { g with stack := rest }).pushFrame (.throwing x)) tg → Steps p.tables e below (T.setTop g) tg) := by
  obtain ⟨hini₁, hwd₁⟩ := hws As'.toArray (T.setVm vm₁) X₁.warmed
  obtain ⟨o, t, T', L, X', hL, e1, e2, hq, hret, hthr⟩ := ob_back (g := { g with stack := rest }) (ig := ig) (len := 3) (mk := mk) (a := As'.toArray) hM hrc hrs hfr X₁ hg hsize hdg (X₁.named hnamed) (methY := methM) (cY := cM) (by
      have h1 : (T.setVm vm₁).vm.method? mk = s.vm.method? mk := X₁.warmed.alike.method? mk
      rw [h1]; exact hmethM) hcM (by rw [hlM]; show 2 * g.monitorRoom + (rest.map fun v => v.category).sum + (maxL + 11) + rm.locals ≤ R.locals; omega) hini₁ hwd₁ hf.1 hf.2 (hbl _ _ _ _ (hPc (T.setVm vm₁) hT X₁.warmed))
  refine ⟨o, (T.setVm vm₁).calling { g with stack := rest } mk As'.toArray, t, T', L, hT, X₁.warmed.alike, X', hL, e1, e2, hq, fun v hv tg h => hstep₁ _ fun acts => ?_, fun x hx tg h => hstep₁ _ fun acts => ?_⟩
  · rw [doInvoke_state]
    exact (hret v hv).trans h
  · rw [doInvoke_state]
    exact (hthr x hx).trans h
theorem ob_runS (hM : ob_M l y w rm Pc Qc mc ms free) (ok : ob_ok R s y w rm mc ms maxL n) (hx : p.tables.exec = Jvm.exec) (hb : c.code = cc) (hml : c.maxLocals = nL) (hown : s.vm.findClass own = some m.cls)
    (hlink : (Cond.methodLink own index y).before args s = true) (hstat : (Cond.static y).before args s = true) (hbl : FrameBlind Pc) (hPc : ∀ U : State, U.heap = H → s.WarmedH U.vm → Pc As.toArray U)
    (hg : g.method = m) (hn : As.length = n) (hsize : g.locals.size = nL) (hstack : g.stack = As.reverse ++ rest) (hW : 2 * g.monitorRoom + (rest.map fun v => v.category).sum ≤ 8) (hdg : decode cc g.pc = .ok (.invokestatic index, 3)) (hf : cells + mc ≤ R.cells ∧ slots + ms ≤ R.slots) :
    ob_Run p l e R s m args below meth c H locs cells slots mc ms g rest (Qc As.toArray) free := by
  obtain ⟨hcd, ⟨hy1, hy2, hpar⟩, hrc, hrs, hfr, hlo, hws⟩ := ok
  intro T hT X
  obtain ⟨hini, hwd⟩ := hws args s (State.WarmedH.refl s)
  obtain ⟨mk, methM, hnamed, hmethM, hstatic⟩ : ∃ mk methM, s.methodNamed? y = some mk ∧ s.vm.method? mk = some methM ∧ methM.isStatic = true := by
    cases hn0 : s.methodNamed? y with
    | none => simp [Cond.before, Cond.holds, Cond.value, hn0] at hstat
    | some mk =>
      obtain ⟨methM, cM, h1, -, -, -⟩ := hcd args s mk hn0 hwd
      exact ⟨mk, methM, rfl, h1, Cond.static_spec hn0 h1 hstat⟩
  obtain ⟨methM', cM, hmethM', hcM, hlM, hsig⟩ := hcd args s mk hnamed hwd
  cases hmethM.symm.trans hmethM'
  obtain ⟨kP, hkP, -⟩ := className_of_methodNamed hnamed
  have hinitP : kP.init = .initialized := Cond.initialized_spec (findClass_of_methodNamed hnamed) hkP hini
  subst hb
  obtain ⟨vm₁, X₁, hstep₁⟩ := X.invokestatic hx hown hlink hnamed hmethM hstatic hkP hinitP ⟨hy1, hy2⟩ (g := g) hg (argsL := As) (rest := rest) (by rw [hn]; exact ob_len hpar hsig) hstack hdg
  exact ob_fin hM hrc hrs hfr hlo hws hnamed hmethM hcM hlM hT X₁ hg (hsize.trans hml.symm) hW hdg hf hbl hPc hstep₁
theorem ob_runSN (hM : ob_M l y w rm Pc Qc mc ms free) (ok : ob_ok R s y w rm mc ms maxL n) (hx : p.tables.exec = Jvm.exec) (hb : c.code = cc) (hml : c.maxLocals = nL) (hown : s.vm.findClass own = some m.cls)
    (hlink : (Cond.methodLinkNest own index y host).before args s = true) (hstat : (Cond.static y).before args s = true) (hbl : FrameBlind Pc) (hPc : ∀ U : State, U.heap = H → s.WarmedH U.vm → Pc As.toArray U)
    (hg : g.method = m) (hn : As.length = n) (hsize : g.locals.size = nL) (hstack : g.stack = As.reverse ++ rest) (hW : 2 * g.monitorRoom + (rest.map fun v => v.category).sum ≤ 8) (hdg : decode cc g.pc = .ok (.invokestatic index, 3)) (hf : cells + mc ≤ R.cells ∧ slots + ms ≤ R.slots) :
    ob_Run p l e R s m args below meth c H locs cells slots mc ms g rest (Qc As.toArray) free := by
  obtain ⟨hcd, ⟨hy1, hy2, hpar⟩, hrc, hrs, hfr, hlo, hws⟩ := ok
  intro T hT X
  obtain ⟨hini, hwd⟩ := hws args s (State.WarmedH.refl s)
  obtain ⟨mk, methM, hnamed, hmethM, hstatic⟩ : ∃ mk methM, s.methodNamed? y = some mk ∧ s.vm.method? mk = some methM ∧ methM.isStatic = true := by
    cases hn0 : s.methodNamed? y with
    | none => simp [Cond.before, Cond.holds, Cond.value, hn0] at hstat
    | some mk =>
      obtain ⟨methM, cM, h1, -, -, -⟩ := hcd args s mk hn0 hwd
      exact ⟨mk, methM, rfl, h1, Cond.static_spec hn0 h1 hstat⟩
  obtain ⟨methM', cM, hmethM', hcM, hlM, hsig⟩ := hcd args s mk hnamed hwd
  cases hmethM.symm.trans hmethM'
  obtain ⟨kP, hkP, -⟩ := className_of_methodNamed hnamed
  have hinitP : kP.init = .initialized := Cond.initialized_spec (findClass_of_methodNamed hnamed) hkP hini
  subst hb
  obtain ⟨vm₁, X₁, hstep₁⟩ := X.invokestaticNest hx hown hlink hnamed hmethM hstatic hkP hinitP ⟨hy1, hy2⟩ (g := g) hg (argsL := As) (rest := rest) (by rw [hn]; exact ob_len hpar hsig) hstack hdg
  exact ob_fin hM hrc hrs hfr hlo hws hnamed hmethM hcM hlM hT X₁ hg (hsize.trans hml.symm) hW hdg hf hbl hPc hstep₁
theorem ob_runV (hM : ob_M l y w rm Pc Qc mc ms free) (ok : ob_ok R s y w rm mc ms maxL n) (hx : p.tables.exec = Jvm.exec) (hb : c.code = cc) (hml : c.maxLocals = nL) (hown : s.vm.findClass own = some m.cls)
    (hlink : (Cond.methodLink own index y).before args s = true) (hinst : (Cond.instanceMethod y).before args s = true) (hsel : (Cond.selects C y y).before args s = true) (hrecv : ∃ cellB : Cell, H[b]? = some cellB ∧ cellB.vm.isStatics = false ∧ s.vm.findClass C = some cellB.cls)
    (hbl : FrameBlind Pc) (hPc : ∀ U : State, U.heap = H → s.WarmedH U.vm → Pc (Value.ref b :: As).toArray U)
    (hg : g.method = m) (hn : As.length = n) (hsize : g.locals.size = nL) (hstack : g.stack = As.reverse ++ .ref b :: rest) (hW : 2 * g.monitorRoom + (rest.map fun v => v.category).sum ≤ 8) (hdg : decode cc g.pc = .ok (.invokevirtual index, 3)) (hf : cells + mc ≤ R.cells ∧ slots + ms ≤ R.slots) :
    ob_Run p l e R s m args below meth c H locs cells slots mc ms g rest (Qc (Value.ref b :: As).toArray) free := by
  obtain ⟨hcd, ⟨hy1, hy2, hpar⟩, hrc, hrs, hfr, hlo, hws⟩ := ok
  intro T hT X
  obtain ⟨hini, hwd⟩ := hws args s (State.WarmedH.refl s)
  obtain ⟨cellB, hcB, hoB, hclB⟩ := hrecv
  obtain ⟨mk, methM, hnamed, hmethM, hstM, habM⟩ := Cond.instanceMethod_spec hinst
  obtain ⟨methM', cM, hmethM', hcM, hlM, hsig⟩ := hcd args s mk hnamed hwd
  cases hmethM.symm.trans hmethM'
  obtain ⟨c2, r2, m2, q1, q2, q3, q4, kP, hkP, hkPi⟩ := Cond.selects_spec hsel
  cases hclB.symm.trans q1
  cases (State.methodFound?_of_named hnamed ⟨hy1, hy2⟩).symm.trans q2
  cases hnamed.symm.trans q3
  have hselP : selectMethod e.platform s.vm cellB.cls mk = .method mk := by rw [Launch.admits_selectMethod X.admits]; exact q4
  subst hb
  obtain ⟨vm₁, X₁, hstep₁⟩ := X.invokevirtual hx hown hlink hnamed hmethM hstM hkP hkPi ⟨hy1, hy2⟩ (a := b) (cell := cellB) (by rw [hT]; exact hcB)
    (fun z h => by rw [h] at hoB; cases hoB) hselP hmethM habM hkP hkPi (g := g) hg (argsL := As) (rest := rest) (by rw [hn]; exact ob_len hpar hsig) hstack hdg
  exact ob_fin hM hrc hrs hfr hlo hws hnamed hmethM hcM hlM hT X₁ hg (hsize.trans hml.symm) hW hdg hf hbl hPc hstep₁
theorem ob_runVN (hM : ob_M l y w rm Pc Qc mc ms free) (ok : ob_ok R s y w rm mc ms maxL n) (hx : p.tables.exec = Jvm.exec) (hb : c.code = cc) (hml : c.maxLocals = nL) (hown : s.vm.findClass own = some m.cls)
    (hlink : (Cond.methodLinkNest own index y host).before args s = true) (hinst : (Cond.instanceMethod y).before args s = true) (hsel : (Cond.selects C y y).before args s = true) (hrecv : ∃ cellB : Cell, H[b]? = some cellB ∧ cellB.vm.isStatics = false ∧ s.vm.findClass C = some cellB.cls)
    (hbl : FrameBlind Pc) (hPc : ∀ U : State, U.heap = H → s.WarmedH U.vm → Pc (Value.ref b :: As).toArray U)
    (hg : g.method = m) (hn : As.length = n) (hsize : g.locals.size = nL) (hstack : g.stack = As.reverse ++ .ref b :: rest) (hW : 2 * g.monitorRoom + (rest.map fun v => v.category).sum ≤ 8) (hdg : decode cc g.pc = .ok (.invokevirtual index, 3)) (hf : cells + mc ≤ R.cells ∧ slots + ms ≤ R.slots) :
    ob_Run p l e R s m args below meth c H locs cells slots mc ms g rest (Qc (Value.ref b :: As).toArray) free := by
  obtain ⟨hcd, ⟨hy1, hy2, hpar⟩, hrc, hrs, hfr, hlo, hws⟩ := ok
  intro T hT X
  obtain ⟨hini, hwd⟩ := hws args s (State.WarmedH.refl s)
  obtain ⟨cellB, hcB, hoB, hclB⟩ := hrecv
  obtain ⟨mk, methM, hnamed, hmethM, hstM, habM⟩ := Cond.instanceMethod_spec hinst
  obtain ⟨methM', cM, hmethM', hcM, hlM, hsig⟩ := hcd args s mk hnamed hwd
  cases hmethM.symm.trans hmethM'
  obtain ⟨c2, r2, m2, q1, q2, q3, q4, kP, hkP, hkPi⟩ := Cond.selects_spec hsel
  cases hclB.symm.trans q1
  cases (State.methodFound?_of_named hnamed ⟨hy1, hy2⟩).symm.trans q2
  cases hnamed.symm.trans q3
  have hselP : selectMethod e.platform s.vm cellB.cls mk = .method mk := by rw [Launch.admits_selectMethod X.admits]; exact q4
  subst hb
  obtain ⟨vm₁, X₁, hstep₁⟩ := X.invokevirtualNest hx hown hlink hnamed hmethM hstM hkP hkPi ⟨hy1, hy2⟩ (a := b) (cell := cellB) (by rw [hT]; exact hcB)
    (fun z h => by rw [h] at hoB; cases hoB) hselP hmethM habM hkP hkPi (g := g) hg (argsL := As) (rest := rest) (by rw [hn]; exact ob_len hpar hsig) hstack hdg
  exact ob_fin hM hrc hrs hfr hlo hws hnamed hmethM hcM hlM hT X₁ hg (hsize.trans hml.symm) hW hdg hf hbl hPc hstep₁
theorem ob_runI (hM : ob_M l y w rm Pc Qc mc ms free) (ok : ob_ok R s y w rm mc ms maxL n) {bytes : ByteArray} (hwc : w = Cond.code y bytes maxL none) (hx : p.tables.exec = Jvm.exec) (hb : c.code = cc) (hml : c.maxLocals = nL) (hown : s.vm.findClass own = some m.cls) (hy0 : y.name = "<init>")
    (hlink : (Cond.methodLink own index y).before args s = true) (hinst : (Cond.instanceMethod y).before args s = true)
    (hbl : FrameBlind Pc) (hPc : ∀ U : State, U.heap = H → s.WarmedH U.vm → Pc (Value.ref b :: As).toArray U)
    (hg : g.method = m) (hn : As.length = n) (hsize : g.locals.size = nL) (hstack : g.stack = As.reverse ++ .ref b :: rest) (hW : 2 * g.monitorRoom + (rest.map fun v => v.category).sum ≤ 8) (hdg : decode cc g.pc = .ok (.invokespecial index, 3)) (hf : cells + mc ≤ R.cells ∧ slots + ms ≤ R.slots) :
    ob_Run p l e R s m args below meth c H locs cells slots mc ms g rest (Qc (Value.ref b :: As).toArray) free := by
  obtain ⟨hcd, ⟨hy1, hy2, hpar⟩, hrc, hrs, hfr, hlo, hws⟩ := ok
  intro T hT X
  obtain ⟨hini, hwd⟩ := hws args s (State.WarmedH.refl s)
  subst hb
  subst hg
  have hpl : e.platform.magicAccessors = ({} : Platform).magicAccessors := by rw [X.admits.platform]
  obtain ⟨mk, methM, cM, kP, vm₁, hnamed, hmethM, hcodeM, -, hlocalsM, -, hkP, -, hW₁, hstep₁⟩ := Steps.initColdArgs (e := e) X.here hx X.warmed hpl hown hy0 ⟨hy1, hy2⟩ hlink hinst (hwc ▸ hwd) (f := g) rfl (a := b) (argsL := As) (rest := rest) (fun sig h => by rw [hn]; exact ob_len hpar h) hstack hdg
  have X₁ := X.noted hW₁
  exact ob_fin hM hrc hrs hfr hlo hws hnamed hmethM hcodeM hlocalsM hT X₁ rfl (hsize.trans hml.symm) hW hdg hf hbl hPc hstep₁
end OB4
end
section
/-! The base, second half: what comes behind a call; leaving by an exception; a catch; throw new E(text); worlds side by side; pools of rows. -/
def ob_T (p : Program) (l : Launch) (e : Env) (R : Room) (s : State) (m : MethodId) (args : Array Value) (below : List Frame) (meth : Method) (c : Code) (H : Heap) (locs : List Loc) (cells slots : Nat) (Q : State → Prop) (g : JFrame) (x : Addr) : Prop :=
  ∀ T : State, T.heap = H → Stand p l e R s m args below meth c T locs cells slots → ∃ t, Steps p.tables e below ((T.setTop g).pushFrame (.throwing x)) t ∧ Q t
/-- a method that reads alone -/
def ob_qR (v : Option Value) : Array Value → State → Outcome → State → Prop := fun _ st o t => o = .returned v ∧ t.heap = st.heap
/-- a method that leaves the world ws -/
def ob_qW (D : va_G) (cl : List vw_C) (v : Option Value) (ws : va_W) (A : Nat → Prop) : Array Value → State → Outcome → State → Prop := fun _ st o t => o = .returned v ∧ va_P D cl ws t.heap ∧ va_D A ws ∧ va_F A st t
/-- the object at x is a new one of the class E -/
def ob_ex (E : String) (x : Addr) (U : State) (H : Heap) : Prop := ∃ cell : Cell, H[x]? = some cell ∧ cell.vm = .none ∧ U.vm.findClass E = some cell.cls
/-- a method that throws a new E, and leaves the world ws -/
def ob_qT (D : va_G) (cl : List vw_C) (E : String) (ws : va_W) (A : Nat → Prop) : Array Value → State → Outcome → State → Prop := fun _ st o t => ∃ x, o = .threw x ∧ ob_ex E x st t.heap ∧ va_P D cl ws t.heap ∧ va_D A ws ∧ va_F A st t
theorem ob_ex.moved {E : String} {x : Addr} {u U : State} {H : Heap} (h : ob_ex E x u H) (hv : u.vm.Alike U.vm) : ob_ex E x U H := by
  obtain ⟨cell, h1, h2, h3⟩ := h
  exact ⟨cell, h1, h2, by rw [hv.findClass]; exact h3⟩
/-- worlds side by side, behind a call that had the second -/
theorem ob_join {A : Nat → Prop} {D : va_G} {cl : List vw_C} {X M M' : va_W} {H H1 : Heap} (hP : va_P D cl (X ++ M) H) (hD : va_D A (X ++ M)) (hk : ∀ q : Nat, q < H.size → ¬ va_A M H.size q → H1[q]? = H[q]?) (hF : ∀ q, va_A M H.size q → A q) (hP1 : va_P D cl M' H1) (hD1 : va_D (va_A M H.size) M') : va_P D cl (X ++ M') H1 ∧ va_D A (X ++ M') := by
  have left : ∀ (k : Nat) (q : Nat × va_E), X[k]? = some q → (X ++ M)[k]? = some q := fun k q hq => by
    rw [List.getElem?_append_left (List.getElem?_eq_some_iff.mp hq).1]; exact hq
  have right : ∀ (k : Nat) (q : Nat × va_E), M[k]? = some q → (X ++ M)[X.length + k]? = some q := fun k q hq => by
    rw [List.getElem?_append_right (Nat.le_add_right _ _), Nat.add_sub_cancel_left]; exact hq
  have apart : ∀ (k : Nat) (q : Nat × va_E), X[k]? = some q → q.1 < H.size ∧ ¬ va_A M H.size q.1 := by
    intro k q hq
    have hl := (hP k q (left k q hq)).lt
    refine ⟨hl, fun h => ?_⟩
    rcases h with ⟨k2, e, h⟩ | h
    · have := hD.1 k (X.length + k2) q (q.1, e) (left k q hq) (right k2 _ h) rfl
      have := (List.getElem?_eq_some_iff.mp hq).1
      omega
    · omega
  have hDX : va_D A X := ⟨fun i j x y hi hj h => hD.1 i j x y (left i x hi) (left j y hj) h, fun k q hq => hD.2 k q (left k q hq)⟩
  refine ⟨va_P.app (fun k q hq => ?_) hP1, va_D.app hDX (hD1.weaken (fun k q _ h => hF q.1 h)) (fun i j x y hx hy hxy => ?_)⟩
  · obtain ⟨g1, g2⟩ := apart k q hq
    exact (hP k q (left k q hq)).kept (hk q.1 g1 g2)
  · exact (apart i x hx).2 (by rw [hxy]; exact hD1.2 j y hy)
theorem ob_Pr {D : va_G} {cl : List vw_C} {X M : va_W} {H : Heap} (hP : va_P D cl (X ++ M) H) : va_P D cl M H := fun k q hq => hP (X.length + k) q (by rw [List.getElem?_append_right (Nat.le_add_right _ _), Nat.add_sub_cancel_left]; exact hq)
theorem ob_Pl {D : va_G} {cl : List vw_C} {X M : va_W} {H : Heap} (hP : va_P D cl (X ++ M) H) : va_P D cl X H := fun k q hq => hP k q (by rw [List.getElem?_append_left (List.getElem?_eq_some_iff.mp hq).1]; exact hq)
theorem ob_Dr {A : Nat → Prop} {X M : va_W} (hD : va_D A (X ++ M)) : va_D A M :=
  ⟨fun i j x y hi hj h => by
    have := hD.1 (X.length + i) (X.length + j) x y (by rw [List.getElem?_append_right (Nat.le_add_right _ _), Nat.add_sub_cancel_left]; exact hi) (by rw [List.getElem?_append_right (Nat.le_add_right _ _), Nat.add_sub_cancel_left]; exact hj) h
    omega, fun k q hq => hD.2 (X.length + k) q (by rw [List.getElem?_append_right (Nat.le_add_right _ _), Nat.add_sub_cancel_left]; exact hq)⟩
theorem ob_Fr_in {A : Nat → Prop} {X M : va_W} {H0 H : Heap} {locs : List Loc} (hD : va_D A (X ++ M)) (hS : va_S A H0 H locs) (hA : ∀ q, H0.size ≤ q → A q) : ∀ q, va_A M H.size q → A q := by
  intro q h
  rcases h with ⟨k, e, h⟩ | h
  · exact (ob_Dr hD).2 k (q, e) h
  · exact hA q (Nat.le_trans hS.1 h)
section OB5
variable {p : Program} {l : Launch} {e : Env} {R : Room} {s : State} {m : MethodId} {args : Array Value} {below : List Frame} {meth : Method} {c : Code} {H : Heap} {locs : List Loc} {cells slots : Nat} {Q : State → Prop}
variable {pc : Nat} {ls : Array Slot} {rest st0 : List Value} {a : Array Value} {mc ms : Nat} {free : Addr → Prop} {D : va_G} {cl : List vw_C} {A : Nat → Prop} {H0 : Heap} {X M M' : va_W}
theorem ob_callR {v : Option Value} (hr : ob_Run p l e R s m args below meth c H locs cells slots 0 0 (F0 m pc ls st0) rest (ob_qR v a) (fun _ => False))
    (kk : W p l e R s m args below meth c H locs cells slots Q (F0 m (pc + 3) ls (v.toList ++ rest))) : W p l e R s m args below meth c H locs cells slots Q (F0 m pc ls st0) := by
  intro T hT X
  obtain ⟨o, st₀, t, T', L, h0, hal, X', hL, e1, e2, ⟨ho, hh⟩, hret, -⟩ := hr T hT X
  have hLn : L = [] := by
    cases L with
    | nil => rfl
    | cons q r => exact absurd (hL q List.mem_cons_self) id
  subst hLn
  rw [List.append_nil] at X'
  obtain ⟨t2, a1, b1⟩ := kk T' (e1.trans (hh.trans h0)) X'
  exact ⟨t2, hret v ho t2 a1, b1⟩
theorem ob_callW {v : Option Value} (hr : ob_Run p l e R s m args below meth c H locs cells slots mc ms (F0 m pc ls st0) rest (ob_qW D cl v M' (va_A M H.size) a) (va_A M H.size)) (hP : va_P D cl (X ++ M) H) (hD : va_D A (X ++ M)) (hS : va_S A H0 H locs) (hA : ∀ q, H0.size ≤ q → A q)
    (kk : ∀ (H1 : Heap) (locs1 : List Loc), va_P D cl (X ++ M') H1 → va_D A (X ++ M') → va_S A H0 H1 locs1 → W p l e R s m args below meth c H1 locs1 (cells + mc) (slots + ms) Q (F0 m (pc + 3) ls (v.toList ++ rest))) : W p l e R s m args below meth c H locs cells slots Q (F0 m pc ls st0) := by
  intro T hT Xs
  obtain ⟨o, st₀, t, T', L, h0, hal, X', hL, e1, e2, ⟨ho, hP1, hD1, hz, hk⟩, hret, -⟩ := hr T hT Xs
  rw [h0] at hz hk
  have hF := ob_Fr_in hD hS hA
  obtain ⟨hP2, hD2⟩ := ob_join hP hD (H1 := t.heap) hk hF hP1 hD1
  obtain ⟨t2, a1, b1⟩ := kk t.heap (locs ++ L) hP2 hD2 ⟨Nat.le_trans hS.1 hz, fun q h1 h2 => by rw [hk q (Nat.lt_of_lt_of_le h1 hS.1) (fun z => h2 (hF q z))]; exact hS.2.1 q h1 h2, fun q hq => by
      rcases List.mem_append.mp hq with h | h
      · exact hS.2.2 q h
      · exact hF _ (hL q h)⟩ T' e1 X'
  exact ⟨t2, hret v ho t2 a1, b1⟩
theorem ob_callT {E : String} (hr : ob_Run p l e R s m args below meth c H locs cells slots mc ms (F0 m pc ls st0) rest (ob_qT D cl E M' (va_A M H.size) a) (va_A M H.size)) (hP : va_P D cl (X ++ M) H) (hD : va_D A (X ++ M)) (hS : va_S A H0 H locs) (hA : ∀ q, H0.size ≤ q → A q)
    (kk : ∀ (x : Addr) (H1 : Heap) (locs1 : List Loc), ob_ex E x s H1 → va_P D cl (X ++ M') H1 → va_D A (X ++ M') → va_S A H0 H1 locs1 → ob_T p l e R s m args below meth c H1 locs1 (cells + mc) (slots + ms) Q (F0 m pc ls rest) x) : W p l e R s m args below meth c H locs cells slots Q (F0 m pc ls st0) := by
  intro T hT Xs
  obtain ⟨o, st₀, t, T', L, h0, hal, X', hL, e1, e2, ⟨x, ho, ⟨cell, hx1, hx2, hx3⟩, hP1, hD1, hz, hk⟩, -, hthr⟩ := hr T hT Xs
  rw [h0] at hz hk
  have hF := ob_Fr_in hD hS hA
  obtain ⟨hP2, hD2⟩ := ob_join hP hD (H1 := t.heap) hk hF hP1 hD1
  obtain ⟨t2, a1, b1⟩ := kk x t.heap (locs ++ L) ⟨cell, hx1, hx2, by rw [← hal.findClass]; exact hx3⟩ hP2 hD2 ⟨Nat.le_trans hS.1 hz, fun q h1 h2 => by rw [hk q (Nat.lt_of_lt_of_le h1 hS.1) (fun z => h2 (hF q z))]; exact hS.2.1 q h1 h2, fun q hq => by
      rcases List.mem_append.mp hq with h | h
      · exact hS.2.2 q h
      · exact hF _ (hL q h)⟩ T' e1 X'
  exact ⟨t2, hthr x ho t2 a1, b1⟩
/-- out of the method by the exception -/
theorem ob_leave {Qc : Array Value → State → Outcome → State → Prop} {x : Addr} (hlocks : meth.locks = false) (hout : ∀ y ∈ c.exceptionTable.toList, covers y pc = false) (hq : ∀ t : State, t.heap = H → s.WarmedH t.vm → Qc args s (.threw x) t) (hf : ∀ q ∈ locs, free q.base) :
    ob_T p l e R s m args below meth c H locs cells slots (ob_Q below Qc args s cells slots free) (F0 m pc ls rest) x := by
  intro T hT X
  obtain ⟨h1, h2, h3, h4, h5⟩ := X.leaveThrown x (g := F0 m pc ls rest) rfl rfl rfl hout hlocks
  exact ⟨_, h1, .threw x, h2, h3, hq _ hT h4, locs, ⟨h4, h5⟩, hf⟩
/-- into a handler of the method's own -/
theorem ob_caught {x : Addr} {tgt : Nat} (hfind : ∀ T : State, T.heap = H → Stand p l e R s m args below meth c T locs cells slots → Finds e ((T.setTop (F0 m pc ls rest)).pushFrame (.throwing x)) (F0 m pc ls rest) x (.found tgt))
    (kk : W p l e R s m args below meth c H locs cells slots Q (F0 m tgt ls [.ref x])) : ob_T p l e R s m args below meth c H locs cells slots Q (F0 m pc ls rest) x := by
  intro T hT X
  obtain ⟨t, a1, b1⟩ := kk T hT X
  exact ⟨t, X.catchAt x rfl (hfind T hT X) a1, b1⟩
theorem ob_iret {cc : ByteArray} {Qc : Array Value → State → Outcome → State → Prop} {v : Int32} (hlocks : meth.locks = false) (hexec : p.tables.exec = Jvm.exec) (hb : c.code = cc) (hr : meth.sig.returnType = some .int)
    (hdg : decode cc pc = .ok (.ireturn, 1)) (hf : ∀ q ∈ locs, free q.base) (hq : ∀ t : State, t.heap = H → s.WarmedH t.vm → Qc args s (.returned (some (.int v))) t) : W p l e R s m args below meth c H locs cells slots (ob_Q below Qc args s cells slots free) (F0 m pc ls [.int v]) :=
  ob_mono ob_of_MQ (W.iret hexec hb hr hq hf hdg hlocks)
theorem ob_zret {cc : ByteArray} {Qc : Array Value → State → Outcome → State → Prop} {v : Int32} (hlocks : meth.locks = false) (hexec : p.tables.exec = Jvm.exec) (hb : c.code = cc) (hr : meth.sig.returnType = some .boolean)
    (hdg : decode cc pc = .ok (.ireturn, 1)) (hn : narrow .boolean (.int v) = .int v) (hf : ∀ q ∈ locs, free q.base) (hq : ∀ t : State, t.heap = H → s.WarmedH t.vm → Qc args s (.returned (some (.int v))) t) : W p l e R s m args below meth c H locs cells slots (ob_Q below Qc args s cells slots free) (F0 m pc ls [.int v]) :=
  ob_mono ob_of_MQ (W.zret hexec hb hr hn hq hf hdg hlocks)
theorem ob_vret {cc : ByteArray} {Qc : Array Value → State → Outcome → State → Prop} (hlocks : meth.locks = false) (hexec : p.tables.exec = Jvm.exec) (hb : c.code = cc) (hr : meth.sig.returnType = none)
    (hdg : decode cc pc = .ok (.return_, 1)) (hf : ∀ q ∈ locs, free q.base) (hq : ∀ t : State, t.heap = H → s.WarmedH t.vm → Qc args s (.returned none) t) : W p l e R s m args below meth c H locs cells slots (ob_Q below Qc args s cells slots free) (F0 m pc ls []) :=
  ob_mono ob_of_MQ (W.vret hexec hb hr hq hf hdg hlocks)
/-- nothing that was there has changed, where no slot is named -/
theorem ob_old {st t : State} {k n : Nat} (h : st.sameButNew ({ t with vm := st.vm } : State) [] k n) : st.heap.size ≤ t.heap.size ∧ ∀ q : Nat, q < st.heap.size → t.heap[q]? = st.heap[q]? := by
  obtain ⟨-, h1, -, -, -, h2⟩ := h
  refine ⟨h1, fun q hq => ?_⟩
  have h3 : st.heap[q]? = some st.heap[q] := Array.getElem?_eq_getElem hq
  obtain ⟨c', g1, g2, -, g3⟩ := h2 q _ h3
  have g4 : c'.slots = (st.heap[q]).slots := Array.ext_getElem? fun i => g3 i (by simp)
  rw [g4] at g2
  have g5 : t.heap[q]? = some c' := g1
  rw [g5, h3, g2]
/-- throw new E(text), whole: new, dup, ldc, invokespecial, athrow; nothing was written before -/
theorem ob_throwNew {cc : ByteArray} {Qc : Array Value → State → Outcome → State → Prop} {own E tx : String} {names : List String} {ic ie it q : Nat} (hlocks : meth.locks = false) (hexec : p.tables.exec = Jvm.exec) (hb : c.code = cc) (hml : c.maxLocals = ls.size) (htr : e.platform.stackTraces = false) (hown : s.vm.findClass own = some m.cls)
    (hcls : Bundle.fit E = true) (hnames : ∀ n ∈ names, Bundle.fit n = true) (h : ∀ w ∈ Bundle.ownAtoms own ic E names, w.before args s = true) (hcl : (Cond.classLink own ie E).before args s = true) (hins : (Cond.instantiable E 6).before args s = true) (hini : (Cond.initialized E).before args s = true) (hZ : vk_R own it tx q s)
    (hd0 : decode cc pc = .ok (.new ie, 3)) (hd3 : decode cc (pc + 3) = .ok (.dup, 1)) (hd4 : decode cc (pc + 4) = .ok (.ldc it, 2)) (hd6 : decode cc (pc + 6) = .ok (.invokespecial ic, 3)) (hd9 : decode cc (pc + 9) = .ok (.athrow, 1)) (hout : ∀ y ∈ c.exceptionTable.toList, covers y (pc + 9) = false)
    (hRc : cells + 1 ≤ R.cells) (hRs : slots + 6 ≤ R.slots) (hRf : names.length + 3 < R.frames) (hRl : (rest.map fun v => v.category).sum + (13 * (names.length + 1) + 43) ≤ R.locals)
    (hq : ∀ (x : Addr) (t : State), ob_ex E x s t.heap → s.heap.size ≤ t.heap.size → (∀ q : Nat, q < s.heap.size → t.heap[q]? = s.heap[q]?) → s.WarmedH t.vm → Qc args s (.threw x) t) :
    W p l e R s m args below meth c s.heap [] cells slots (ob_Q below Qc args s (cells + 1) (slots + 6) free) (F0 m pc ls rest) := by
  refine W.newc hexec hb hown hcl hins hini rfl hd0 hRc hRs fun cC kC h1 h2 h3 h4 => ?_
  refine lv_dup hexec hb hd3 rfl ?_
  refine va_ldcS hexec hb hown hZ hd4 ?_
  intro T hT X
  subst hb
  have hx : T.heap[s.heap.size]? = some (freshCell cC kC) := by rw [hT]; simp
  obtain ⟨U, g1, g2, g3, g4, g5, ce, g6, g7⟩ := X.ctorThrowS hexec htr hown hcls hnames h (fun x hx => by cases hx) h1 h2 (a := s.heap.size) hx (Nat.le_refl _) (msg := .ref q) rfl (g := F0 m (pc + 6) ls (.ref q :: .ref s.heap.size :: .ref s.heap.size :: rest)) rfl hml.symm rfl rfl (rest := rest) rfl hd6 hd9 hout hRf (by
    show 2 * 0 + ((Value.ref s.heap.size :: rest).map fun v => v.category).sum + _ ≤ _
    have hcat : (Value.ref s.heap.size).category = 1 := rfl
    simp only [List.map_cons, List.sum_cons, hcat]
    omega) hlocks
  obtain ⟨o1, o2⟩ := ob_old g5
  exact ⟨U, g1, .threw s.heap.size, g2, g3, hq _ U ⟨ce, g6, g7.vm, g7.cls⟩ o1 o2 g4, [], ⟨g4, g5⟩, fun x hx => by cases hx⟩
/-- a row of an array of arrays -/
theorem ob_aald {cc : ByteArray} {tys : List (ClassId × FieldType)} {ws : va_W} {b : Nat} (hexec : p.tables.exec = Jvm.exec) (hb : c.code = cc) (hK : va_K D cl tys s) (hP : va_P D cl ws H) (q0 t0 : Nat) {cA : ClassId} {n : Nat} {f : Nat → Option Nat} {ty : FieldType} (ha : ws[q0]? = some (b, .inl (cA, n, .inr (.inr (.inr (.inr f)))))) (ht : tys[t0]? = some (cA, .array ty)) {i : Int32} (hin : vp_in i n) (hdg : decode cc pc = .ok (.aaload, 1))
    (kk : W p l e R s m args below meth c H locs cells slots Q (F0 m (pc + 1) ls (va_rf (f i.toNatClampNeg) :: rest))) : W p l e R s m args below meth c H locs cells slots Q (F0 m pc ls (.int i :: .ref b :: rest)) := by
  have hlt : i.toNatClampNeg < n := Nat.not_le.mp fun q => hin (Or.inr q)
  exact W.aald (v := va_rf (f i.toNatClampNeg)) (ty := .array ty) hexec hb (hP q0 _ ha) ((hK.2 t0 _ ht).1 n (fun j => va_rf (f j))) rfl (fun q => by cases q) (by show ¬ (i < 0 ∨ (arrV _ _ _).slots.size ≤ _); rw [arrV_size]; exact hin) (by show (arrV _ _ _).slots[_]? = _; rw [arrV_read _ _ hlt]) rfl rfl hdg kk
end OB5
/-! pools: rows at the addresses b (o + i), i < n -/
def pl_rows (b : Nat → Nat) (o n k : Nat) (cI : ClassId) (r : Nat → Nat → Int32) : va_W := (List.range n).map fun i => (b (o + i), .inl (cI, k, .inl (r i)))
theorem pl_len {b : Nat → Nat} {o n k : Nat} {cI : ClassId} {r : Nat → Nat → Int32} : (pl_rows b o n k cI r).length = n := by simp [pl_rows]
theorem pl_get {b : Nat → Nat} {o n k : Nat} {cI : ClassId} {r : Nat → Nat → Int32} {X Y : va_W} {i j : Nat} (hi : i < n) (hj : j = X.length + i) : (X ++ (pl_rows b o n k cI r ++ Y))[j]? = some (b (o + i), .inl (cI, k, .inl (r i))) := by
  subst hj
  rw [List.getElem?_append_right (Nat.le_add_right _ _), Nat.add_sub_cancel_left, List.getElem?_append_left (by rw [pl_len]; exact hi)]
  simp [pl_rows, hi]
def up2 (r : Nat → Nat → Int32) (i : Nat) (f : Nat → Int32) : Nat → Nat → Int32 := fun j => if j = i then f else r j
theorem pl_set {b : Nat → Nat} {o n k : Nat} {cI : ClassId} {r : Nat → Nat → Int32} {X Y : va_W} {i j : Nat} {f : Nat → Int32} (hi : i < n) (hj : j = X.length + i) : (X ++ (pl_rows b o n k cI r ++ Y)).set j (b (o + i), .inl (cI, k, .inl f)) = X ++ (pl_rows b o n k cI (up2 r i f) ++ Y) := by
  subst hj
  rw [List.set_append_right _ _ (Nat.le_add_right _ _), Nat.add_sub_cancel_left, List.set_append_left _ _ (by rw [pl_len]; exact hi)]
  congr 2
  apply List.ext_getElem?
  intro z
  rw [List.getElem?_set]
  by_cases hz : i = z
  · subst hz
    simp [pl_rows, up2, hi]
  · rw [if_neg hz]
    by_cases hzn : z < n
    · simp [pl_rows, up2, hzn, Ne.symm hz]
    · simp [pl_rows, hzn]
end
