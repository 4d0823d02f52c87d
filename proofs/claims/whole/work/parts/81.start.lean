/-! What the law's start gives of the tables. -/
theorem lw_arr {s : State} {args : Array Value} {ty : FieldType} (h : (Cond.arrayClass ty).before args s = true) : ∃ t : ClassId, ArrOfT s t ty ∧ s.vm.findClass ("[" ++ ty.toString) = some t := by
  obtain ⟨c, k, comp, h1, h2, h3⟩ := Cond.arrayClass_spec h
  exact ⟨c, fun n z => ⟨fun k h => (by cases h), k, h2, comp, h3⟩, h1⟩
theorem lw_str {s : State} {args : Array Value} {own tx : String} {k : Nat} {C : String} (h1 : (Cond.stringRef own k tx).before args s = true) (h2 : (Cond.exactly (.string own k) C).before args s = true) : ∃ z : Nat, vk_R own k tx z s := by
  obtain ⟨a, c, cell, kk, h, -⟩ := Cond.exactly_spec h2
  exact ⟨a, vk_R.of h1 h⟩
section TBS
variable {s : State} {b : Nat}
theorem lw_K (hts : ∀ w ∈ lw_tbl, w.before #[Value.ref b] s = true) : ∃ (D : va_G) (tI tZ tA tJ : ClassId), va_K D vcl (tyl tI tZ tA tJ) s := by
  obtain ⟨cX, iX, kX⟩ := u_known (T := F_X) (N := 4) hts in_X (hts _ kt_X)
  obtain ⟨cM, iM, kM⟩ := u_known (T := F_M) (N := 9) hts in_M (hts _ kt_M)
  obtain ⟨cT, iT, kT⟩ := u_known (T := F_T) (N := 12) hts in_T (hts _ kt_T)
  obtain ⟨tI, i1, i2⟩ := lw_arr (hts _ ka_int)
  obtain ⟨tZ, z1, z2⟩ := lw_arr (hts _ ka_boolean)
  obtain ⟨tJ, j1, j2⟩ := lw_arr (hts _ ka_long)
  obtain ⟨cI, tA, k, -, a2, a3, a4⟩ := gm_over (hts _ ka_over)
  refine ⟨(fun c => if c = 0 then cX else if c = 1 then cM else cT, fun c => if c = 0 then iX else if c = 1 then iM else iT), tI, tZ, tA, tJ, fun c q h => ?_, fun c q h => ?_⟩
  · match c, h with
    | 0, h => cases Option.some.inj h; exact kX
    | 1, h => cases Option.some.inj h; exact kM
    | 2, h => cases Option.some.inj h; exact kT
    | _ + 3, h => exact nomatch h
  · match c, h with
    | 0, h => cases Option.some.inj h; exact ⟨i1, i2⟩
    | 1, h => cases Option.some.inj h; exact ⟨z1, z2⟩
    | 2, h => cases Option.some.inj h; exact ⟨fun n z => ⟨fun k h => (by cases h), k, a2, cI, a3⟩, a4⟩
    | 3, h => cases Option.some.inj h; exact ⟨j1, j2⟩
    | _ + 4, h => exact nomatch h
theorem lw_s0 (hts : ∀ w ∈ lw_tbl, w.before #[Value.ref b] s = true) (hgv : (Jvm.Cond.and given_1 narrow_1).before #[Value.ref b] s = true) : ∃ z : Nat, vk_R R_X 48 "all processes are there" z s := lw_str (C := "java/lang/String") (hts (.stringRef R_X 48 "all processes are there") (by decide +kernel)) (flat_of_before _ hgv (.exactly (.string R_X 48) "java/lang/String") (by decide +kernel))
theorem lw_s1 (hts : ∀ w ∈ lw_tbl, w.before #[Value.ref b] s = true) (hgv : (Jvm.Cond.and given_1 narrow_1).before #[Value.ref b] s = true) : ∃ z : Nat, vk_R R_X 125 "no such process" z s := lw_str (C := "java/lang/String") (hts (.stringRef R_X 125 "no such process") (by decide +kernel)) (flat_of_before _ hgv (.exactly (.string R_X 125) "java/lang/String") (by decide +kernel))
theorem lw_s2 (hts : ∀ w ∈ lw_tbl, w.before #[Value.ref b] s = true) (hgv : (Jvm.Cond.and given_1 narrow_1).before #[Value.ref b] s = true) : ∃ z : Nat, vk_R R_X 66 "no such page" z s := lw_str (C := "java/lang/String") (hts (.stringRef R_X 66 "no such page") (by decide +kernel)) (flat_of_before _ hgv (.exactly (.string R_X 66) "java/lang/String") (by decide +kernel))
theorem lw_s3 (hts : ∀ w ∈ lw_tbl, w.before #[Value.ref b] s = true) (hgv : (Jvm.Cond.and given_1 narrow_1).before #[Value.ref b] s = true) : ∃ z : Nat, vk_R R_X 128 "no such address" z s := lw_str (C := "java/lang/String") (hts (.stringRef R_X 128 "no such address") (by decide +kernel)) (flat_of_before _ hgv (.exactly (.string R_X 128) "java/lang/String") (by decide +kernel))
theorem lw_s4 (hts : ∀ w ∈ lw_tbl, w.before #[Value.ref b] s = true) (hgv : (Jvm.Cond.and given_1 narrow_1).before #[Value.ref b] s = true) : ∃ z : Nat, vk_R R_X 147 "no frame and no slot is free" z s := lw_str (C := "java/lang/String") (hts (.stringRef R_X 147 "no frame and no slot is free") (by decide +kernel)) (flat_of_before _ hgv (.exactly (.string R_X 147) "java/lang/String") (by decide +kernel))
theorem lw_s5 (hts : ∀ w ∈ lw_tbl, w.before #[Value.ref b] s = true) (hgv : (Jvm.Cond.and given_1 narrow_1).before #[Value.ref b] s = true) : ∃ z : Nat, vk_R R_X 130 "fewer words than none" z s := lw_str (C := "java/lang/String") (hts (.stringRef R_X 130 "fewer words than none") (by decide +kernel)) (flat_of_before _ hgv (.exactly (.string R_X 130) "java/lang/String") (by decide +kernel))
theorem lw_n0 (hgv : (Jvm.Cond.and given_1 narrow_1).before #[Value.ref b] s = true) : va_Nc R_En R_Es s := va_Nc.of (flat_of_before _ hgv (.not (.castable R_En R_Es)) (by decide +kernel))
theorem lw_n1 (hgv : (Jvm.Cond.and given_1 narrow_1).before #[Value.ref b] s = true) : va_Nc R_Ei R_Es s := va_Nc.of (flat_of_before _ hgv (.not (.castable R_Ei R_Es)) (by decide +kernel))
theorem lw_n2 (hgv : (Jvm.Cond.and given_1 narrow_1).before #[Value.ref b] s = true) : va_Nc R_Es R_En s := va_Nc.of (flat_of_before _ hgv (.not (.castable R_Es R_En)) (by decide +kernel))
theorem lw_n3 (hgv : (Jvm.Cond.and given_1 narrow_1).before #[Value.ref b] s = true) : va_Nc R_Ei R_En s := va_Nc.of (flat_of_before _ hgv (.not (.castable R_Ei R_En)) (by decide +kernel))
theorem lw_n4 (hgv : (Jvm.Cond.and given_1 narrow_1).before #[Value.ref b] s = true) : va_Nc R_Es R_Ei s := va_Nc.of (flat_of_before _ hgv (.not (.castable R_Es R_Ei)) (by decide +kernel))
theorem lw_n5 (hgv : (Jvm.Cond.and given_1 narrow_1).before #[Value.ref b] s = true) : va_Nc R_En R_Ei s := va_Nc.of (flat_of_before _ hgv (.not (.castable R_En R_Ei)) (by decide +kernel))
theorem lw_TB (hts : ∀ w ∈ lw_tbl, w.before #[Value.ref b] s = true) (hgv : (Jvm.Cond.and given_1 narrow_1).before #[Value.ref b] s = true) : ∃ (D : va_G) (tI tZ tA tJ : ClassId), TB D tI tZ tA tJ s := by
  obtain ⟨D, tI, tZ, tA, tJ, hK⟩ := lw_K hts
  refine ⟨D, tI, tZ, tA, tJ, hK, fun w hw ok a => tb_warm ok (State.WarmedH.refl s) (hts w hw), ?_, ?_⟩
  · intro q hq
    simp only [tb_texts, List.mem_cons, List.not_mem_nil, or_false] at hq
    rcases hq with rfl | rfl | rfl | rfl | rfl | rfl
    · exact lw_s0 hts hgv
    · exact lw_s1 hts hgv
    · exact lw_s2 hts hgv
    · exact lw_s3 hts hgv
    · exact lw_s4 hts hgv
    · exact lw_s5 hts hgv
  · intro q hq
    simp only [tb_apart, List.mem_cons, List.not_mem_nil, or_false] at hq
    rcases hq with rfl | rfl | rfl | rfl | rfl | rfl
    · exact lw_n0 hgv
    · exact lw_n1 hgv
    · exact lw_n2 hgv
    · exact lw_n3 hgv
    · exact lw_n4 hgv
    · exact lw_n5 hgv
theorem lw_ZS (hts : ∀ w ∈ lw_tbl, w.before #[Value.ref b] s = true) (hgv : (Jvm.Cond.and given_1 narrow_1).before #[Value.ref b] s = true) : ZS s s.heap :=
  ⟨zs_1.of (hts (.laysStatic Bundle.tN "UNASSIGNED_STACK" Bundle.steD) (by decide +kernel)) (flat_of_before _ hgv (.isRef (.static Bundle.tN "UNASSIGNED_STACK" Bundle.steD)) (by decide +kernel)), zs_1.of (hts (.laysStatic Bundle.tN "SUPPRESSED_SENTINEL" Bundle.listD) (by decide +kernel)) (flat_of_before _ hgv (.isRef (.static Bundle.tN "SUPPRESSED_SENTINEL" Bundle.listD)) (by decide +kernel))⟩
end TBS
theorem lw_traces {l : Launch} (h : l.flags = flags0) : l.stackTraces = false := by
  unfold Launch.stackTraces
  rw [h]
  decide +kernel
