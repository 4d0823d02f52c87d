/-! What every method is given of the tables, and how it moves on. -/
/-- a word that stays, on warmer tables -/
def tb_ok : Cond → Bool
  | .fieldLinkNest .. => true
  | .methodLinkNest .. => true
  | .castable .. => true
  | .declares .. => true
  | .privateMethod .. => true
  | w => goodWord w
theorem tb_warm {w : Cond} (h : tb_ok w = true) {s U : State} (hW : s.WarmedH U.vm) {a a' : Array Value} (hb : w.before a s = true) : w.before a' U = true := by
  cases w with
  | fieldLinkNest c i r n d h => exact va_tabs rfl (rfl : (s.setVm U.vm).vm = U.vm) (Cond.fieldLinkNest_warmed (args := a) hW hb)
  | methodLinkNest c i y h => exact va_tabs rfl (rfl : (s.setVm U.vm).vm = U.vm) (Cond.methodLinkNest_warmed (args := a) hW hb)
  | castable c t => exact va_tabs rfl (rfl : (s.setVm U.vm).vm = U.vm) (by rw [Cond.castable_setVm hW.alike]; exact hb)
  | declares y => exact va_tabs rfl (rfl : (s.setVm U.vm).vm = U.vm) (by rw [Cond.declares_setVm hW.alike]; exact hb)
  | privateMethod y => exact va_tabs rfl (rfl : (s.setVm U.vm).vm = U.vm) (by rw [Cond.privateMethod_setVm hW.alike]; exact hb)
  | _ => exact word_at hW (good_of_word h) hb
def tb_texts : List (Nat × String) := [(48, "all processes are there"), (125, "no such process"), (66, "no such page"), (128, "no such address"), (147, "no frame and no slot is free"), (130, "fewer words than none")]
def tb_apart : List (String × String) := [(R_En, R_Es), (R_Ei, R_Es), (R_Es, R_En), (R_Ei, R_En), (R_Es, R_Ei), (R_En, R_Ei)]
abbrev tyl (tI tZ tA tJ : ClassId) : List (ClassId × FieldType) := [(tI, .int), (tZ, .boolean), (tA, .array .int), (tJ, .long)]
def TB (D : va_G) (tI tZ tA tJ : ClassId) (U : State) : Prop :=
  va_K D vcl (tyl tI tZ tA tJ) U ∧ (∀ w ∈ lw_tbl, tb_ok w = true → ∀ a : Array Value, w.before a U = true) ∧ (∀ q ∈ tb_texts, ∃ z : Nat, vk_R R_X q.1 q.2 z U) ∧ ∀ q ∈ tb_apart, va_Nc q.1 q.2 U
theorem TB.warm {D : va_G} {tI tZ tA tJ : ClassId} {s U : State} (h : TB D tI tZ tA tJ s) (hW : s.WarmedH U.vm) : TB D tI tZ tA tJ U := by
  obtain ⟨h1, h2, h3, h4⟩ := h
  refine ⟨va_K.moved hW.alike h1, fun w hw ok a => tb_warm ok hW (h2 w hw ok a), fun q hq => ?_, fun q hq => va_Nc.moved hW.alike (h4 q hq)⟩
  obtain ⟨z, hz⟩ := h3 q hq
  exact ⟨z, vk_R.warm hW hz⟩
theorem TB.same {D : va_G} {tI tZ tA tJ : ClassId} {s U : State} (h : TB D tI tZ tA tJ s) (hv : s.vm = U.vm) : TB D tI tZ tA tJ U := h.warm (by rw [← hv]; exact State.WarmedH.refl s)
theorem TB.w {D : va_G} {tI tZ tA tJ : ClassId} {s : State} (h : TB D tI tZ tA tJ s) {w : Cond} (hw : w ∈ lw_tbl) (ok : tb_ok w = true := by rfl) {a : Array Value} : w.before a s = true := h.2.1 w hw ok a
/-- the words of the fields of the three classes, as the field rows ask them -/
def tb_lays : List Cond := u_ws R_X F_X 4 ++ (u_ws R_M F_M 9 ++ u_ws R_T F_T 12)
theorem tb_lays_ok : ∀ w ∈ tb_lays, tb_ok w = true := by decide +kernel
theorem tb_lays_in : ∀ w ∈ tb_lays, w ∈ lw_tbl := fun w h => (List.mem_append.mp h).elim (in_X w) (fun h => (List.mem_append.mp h).elim (in_M w) (in_T w))
theorem TB.lays {D : va_G} {tI tZ tA tJ : ClassId} {s : State} (h : TB D tI tZ tA tJ s) {a : Array Value} : ∀ w ∈ tb_lays, w.before a s = true := fun w hw => h.2.1 w (tb_lays_in w hw) (tb_lays_ok w hw) a
theorem ly_X : ∀ w ∈ u_ws R_X F_X 4, w ∈ tb_lays := fun _ h => List.mem_append_left _ h
theorem ly_M : ∀ w ∈ u_ws R_M F_M 9, w ∈ tb_lays := fun _ h => List.mem_append_right _ (List.mem_append_left _ h)
theorem ly_T : ∀ w ∈ u_ws R_T F_T 12, w ∈ tb_lays := fun _ h => List.mem_append_right _ (List.mem_append_right _ h)
/-- a call's common part, out of the tables -/
theorem TB.ok {D : va_G} {tI tZ tA tJ : ClassId} {s : State} (h : TB D tI tZ tA tJ s) {R : Room} {y : MethodName} {w : Cond} {rm : Room} {mc ms maxL n : Nat} (hcd : ob_cd w y maxL) (hd : y.cls ≠ "java/lang/invoke/MethodHandle" ∧ y.cls ≠ "java/lang/invoke/VarHandle" ∧ (parseMethodDescriptor y.desc).map (fun d => d.parameters.length) = some n)
    (hrc : rm.cells = mc) (hrs : rm.slots = ms) (hfr : rm.frames + 1 ≤ R.frames) (hlo : 8 + (maxL + 11) + rm.locals ≤ R.locals) (hini : Cond.initialized y.cls ∈ lw_tbl) (hw : w ∈ lw_tbl) (okw : tb_ok w = true := by rfl) : ob_ok R s y w rm mc ms maxL n :=
  ⟨hcd, hd, hrc, hrs, hfr, hlo, fun a U hW => ⟨tb_warm rfl hW (h.2.1 _ hini rfl a), tb_warm okw hW (h.2.1 _ hw okw a)⟩⟩
