/-! The law: its first method, its world, its reads of the script. -/
/-- the script's word k, or 0 -/
def lw_w (L : Nat) (xs : Nat → Int32) (k : Nat) : Int32 := if k < L then xs k else 0
set_option maxHeartbeats 4000000 in
set_option maxRecDepth 100000 in
/-- L_cell -/
theorem c_L_cell (l : Launch) (sb L : Nat) (xs : Nat → Int32) (k : Nat) (hk : k < 2 ^ 31) (hL : L < 2 ^ 31) : ob_M l y_L_cell w_L_cell ({ frames := 0, cells := 0, slots := 0, locals := 0 }) (va_Pc [.ref sb, .int (nI k)] (fun U => va_X sb L xs U U.heap)) (ob_qR (some (.int (lw_w L xs k)))) 0 0 (fun _ => False) := by
  refine ob_ofW (by decide +kernel) ?_
  intro p e s m args below meth c s₁ B hml htab hv
  obtain ⟨rfl, hX⟩ := hv
  have hx := B.exec
  have hb := B.bytes
  have hr := B.returns
  have hlocks := B.notSynchronized
  have hbl : sb < s.heap.size := by
    obtain ⟨scr, h1, -⟩ := hX
    exact (Array.getElem?_eq_some_iff.mp h1).1
  have hl := lv_entry ([.ref sb, .int (nI k)]) (n := 2) (Nat.le_of_ble_eq_true rfl)
  rw [lg_entry_eq]
  generalize (lg_sl ([.ref sb, .int (nI k)]) ++ List.replicate (2 - (lg_sl ([.ref sb, .int (nI k)])).length) Slot.unset).toArray = ls at hl ⊢
  have hl : lv_has ls 2 [(0, .ref sb), (1, .int (nI k))] := hl
  have hS : va_S (fun _ => False) s.heap s.heap [] := va_S.rf
  refine lv_iload_n hx hb d_L_cell_0 rfl (lv_at hl 1 rfl) ?_
  refine lv_aload_n hx hb d_L_cell_1 rfl (lv_at hl 0 rfl) ?_
  refine va_slen hx hb hX hbl (fun h => h) hS d_L_cell_2 ?_
  refine lv_icmp_ge (tgt := 12) hx hb d_L_cell_3 (by decide) (fun hc => ?_) (fun hc => ?_)
  · have h : ¬ k < L := Nat.not_lt.mpr ((nI_leI hL hk).mp hc)
    have e1 : lw_w L xs k = 0 := if_neg h
    rw [e1]
    refine lv_iconst (v := 0) hx hb d_L_cell_12 (by decide) ?_
    exact ob_iret hlocks hx hb hr d_L_cell_13 (fun q h => nomatch h) (fun t ht hW => ⟨rfl, ht⟩)
  · have h : k < L := Nat.not_le.mp fun z => hc ((nI_leI hL hk).mpr z)
    have e1 : lw_w L xs k = xs k := if_pos h
    rw [e1]
    refine lv_aload_n hx hb d_L_cell_6 rfl (lv_at hl 0 rfl) ?_
    refine lv_iload_n hx hb d_L_cell_7 rfl (lv_at hl 1 rfl) ?_
    refine va_sld hx hb hX hbl (fun h => h) hS (vp_in_nI h hL) d_L_cell_8 ?_
    rw [nI_clamp hk]
    refine lv_goto (tgt := 13) hx hb d_L_cell_9 (by decide) ?_
    exact ob_iret hlocks hx hb hr d_L_cell_13 (fun q h => nomatch h) (fun t ht hW => ⟨rfl, ht⟩)
theorem pC.blind {av : List Value} {sb L : Nat} {xs : Nat → Int32} : FrameBlind (va_Pc av (fun U => va_X sb L xs U U.heap)) := fun _ U g mk h => ⟨h.1, va_X.moved (u := U) (U := U.calling g mk _) (H := U.heap) (State.WarmedH.refl U).alike h.2⟩
theorem pC.at {av : List Value} {sb L : Nat} {xs : Nat → Int32} {s : State} {H : Heap} (hX : va_X sb L xs s H) : ∀ U : State, U.heap = H → s.WarmedH U.vm → va_Pc av (fun U => va_X sb L xs U U.heap) av.toArray U := fun U hU hW => ⟨rfl, by show va_X sb L xs U U.heap; rw [hU]; exact hX.moved hW.alike⟩
/-- worlds change places -/
theorem lw_sP {D : va_G} {cl : List vw_C} {X Y : va_W} {H : Heap} (h : va_P D cl (X ++ Y) H) : va_P D cl (Y ++ X) H := va_P.app (ob_Pr h) (ob_Pl h)
theorem ob_Dl {A : Nat → Prop} {X M : va_W} (hD : va_D A (X ++ M)) : va_D A X :=
  have left : ∀ (k : Nat) (q : Nat × va_E), X[k]? = some q → (X ++ M)[k]? = some q := fun k q hq => by
    rw [List.getElem?_append_left (List.getElem?_eq_some_iff.mp hq).1]; exact hq
  ⟨fun i j x y hi hj h => hD.1 i j x y (left i x hi) (left j y hj) h, fun k q hq => hD.2 k q (left k q hq)⟩
theorem lw_sD {A : Nat → Prop} {X Y : va_W} (h : va_D A (X ++ Y)) : va_D A (Y ++ X) := va_D.app (ob_Dr h) (ob_Dl h) (fun i j x y hx hy hxy => by
  have left : (X ++ Y)[j]? = some y := by rw [List.getElem?_append_left (List.getElem?_eq_some_iff.mp hy).1]; exact hy
  have right : (X ++ Y)[X.length + i]? = some x := by rw [List.getElem?_append_right (Nat.le_add_right _ _), Nat.add_sub_cancel_left]; exact hx
  have := h.1 j (X.length + i) y x left right hxy.symm
  have := (List.getElem?_eq_some_iff.mp hy).1
  omega)
/-- the law's context -/
def LC (p : Program) (l : Launch) (s : State) (m : MethodId) (meth : Method) (c : Code) (sb L : Nat) (xs : Nat → Int32) (D : va_G) (tI tZ tA tJ : ClassId) : Prop :=
  p.tables.exec = Jvm.exec ∧ c.code = code ∧ meth.sig.returnType = ret ∧ c.maxLocals = 7 ∧ s.vm.findClass R_L = some m.cls ∧ va_X sb L xs s s.heap ∧ sb < s.heap.size ∧ meth.locks = false ∧ TB D tI tZ tA tJ s ∧ ZS s s.heap ∧ gm_OV s ∧ l.stackTraces = false ∧ L ≤ 2562
abbrev lwl (sb : Nat) (b bt : Nat → Nat) (j i : Nat) : List (Nat × Value) := [(0, .ref sb), (1, .ref (b 0)), (2, .ref (bt 0)), (3, .ref j), (4, .int (nI i))]
abbrev lJ (tJ : ClassId) (j : Nat) (v : Nat → Int64) : va_W := [(j, .inl (tJ, 1, .inr (.inl v)))]
/-- the law's world: the reference, its own long, the class -/
abbrev LW (tI tZ tA tJ : ClassId) (b bt : Nat → Nat) (F S j : Nat) (v : Nat → Int64) (tw : Int32) (q : KS) : va_W := tW bt F S tI tZ tw (cv q) ++ (lJ tJ j v ++ xW b F S tI tZ tA q)
abbrev lA (s : State) : Nat → Prop := fun a => s.heap.size ≤ a
theorem lA_plain {s : State} : ∀ a, lA s a → ∀ cell, s.heap[a]? = some cell → cell.vm.isStatics = false := fun a h cell hc => by
  have := (Array.getElem?_eq_some_iff.mp hc).1
  exact absurd h (Nat.not_le.mpr this)
section LR
variable {p : Program} {l : Launch} {e : Env} {R : Room} {s : State} {m : MethodId} {args : Array Value} {below : List Frame} {meth : Method} {c : Code} {H : Heap} {locs : List Loc} {cells slots : Nat} {Q : State → Prop}
variable {pc : Nat} {ls : Array Slot} {rest : List Value}
/-- script[i + K] -/
theorem lw_rd (hx : p.tables.exec = Jvm.exec) (hb : c.code = code) {sb L i K : Nat} {xs : Nat → Int32} {k0 : Int} (hX : va_X sb L xs s s.heap) (hbl : sb < s.heap.size) (hL : L ≤ 2562) (hS : va_S (lA s) s.heap H locs) (hi : i + 5 ≤ L) (hK : K ≤ 4) (hk : Int32.ofInt k0 = nI K) (h0 : ls[0]? = some (.val (.ref sb))) (h4 : ls[4]? = some (.val (.int (nI i))))
    (d0 : decode code pc = .ok (.aload_n 0, 1)) (d1 : decode code (pc + 1) = .ok (.iload 4, 2)) (d3 : decode code (pc + 3) = .ok (.iconst k0, 1)) (d4 : decode code (pc + 4) = .ok (.iadd, 1)) (d5 : decode code (pc + 5) = .ok (.iaload, 1))
    (kk : W p l e R s m args below meth c H locs cells slots Q (F0 m (pc + 6) ls (.int (xs (i + K)) :: rest))) : W p l e R s m args below meth c H locs cells slots Q (F0 m pc ls rest) := by
  refine lv_aload_n hx hb d0 rfl h0 ?_
  refine lv_iload hx hb d1 h4 ?_
  refine lv_iconst (v := nI K) hx hb d3 hk ?_
  refine lv_iadd hx hb d4 ?_
  rw [nI_add]
  refine va_sld hx hb hX hbl (A := lA s) (Nat.not_le.mpr hbl) hS (vp_in_nI (by omega) (by omega)) d5 ?_
  rw [nI_clamp (by omega)]
  exact kk
end LR
