theorem m_getFrame_cp (F S : Nat) (s : Sg) : sg_cp (m_getFrame F S s).2 = sg_cp s := by
  unfold m_getFrame
  split <;> rfl
theorem m_bringIn_cp (F S : Nat) (s : Sg) (a : Int32) : sg_cp (m_bringIn F S s a) = sg_cp s := by
  unfold m_bringIn
  split
  · rfl
  · exact m_getFrame_cp F S _
theorem m_make_cp (F S : Nat) (s : Sg) (k x : Int32) : sg_cp (m_make F S s k x) = sg_cp s := m_getFrame_cp F S s
theorem m_loaded_cp (F S : Nat) (s : Sg) (p a : Int32) : sg_cp (m_loaded F S s p a).2 = sg_cp s := by
  unfold m_loaded
  split
  · exact m_bringIn_cp F S s _
  · rfl
theorem m_stored_cp (F S : Nat) (s : Sg) (p a x : Int32) : sg_cp (m_stored F S s p a x) = sg_cp s := by
  show sg_cp (m_sto1 F S s p a) = sg_cp s
  unfold m_sto1
  split
  · exact m_bringIn_cp F S s _
  · exact m_make_cp F S s _ _
/-- one turn of the copying -/
abbrev mc_q (F S : Nat) (s : Sg) (p a : Int32) : Int32 × Sg := m_loaded F S s p (a + sg_cp s)
def mc_ok (F S : Nat) (p a d : Int32) : Nat → Sg → Prop
  | 0, _ => True
  | n + 1, s => ml_ok F S s p (a + sg_cp s) ∧ vp_in (6 * p + (d + sg_cp (mc_q F S s p a).2) / 4) 36 ∧
      (m_needs (sg_pg (mc_q F S s p a).2) p (d + sg_cp (mc_q F S s p a).2) = 0 ∨ ¬ m_canMake F S (sg_li (mc_q F S s p a).2) = 0 → ms_ok F S (mc_q F S s p a).2 p (d + sg_cp (mc_q F S s p a).2) ∧
        mc_ok F S p a d n (su_cp (m_stored F S (mc_q F S s p a).2 p (d + sg_cp (mc_q F S s p a).2) (mc_q F S s p a).1) (sg_cp (m_stored F S (mc_q F S s p a).2 p (d + sg_cp (mc_q F S s p a).2) (mc_q F S s p a).1) + 1)))

set_option maxHeartbeats 4000000 in
set_option maxRecDepth 100000 in
/-- T_loaded -/
theorem c_T_loaded (l : Launch) (D : va_G) (tI tZ tA tJ : ClassId) (b : Nat → Nat) (F S sz : Nat) (tw : Int32) (g : Sg) (p0 x : Int32) : ob_M l y_T_loaded w_T_loaded ({ frames := 4, cells := 0, slots := 0, locals := 88 }) (pW D tI tZ tA tJ [.ref (b 0), .int p0, .int x] (tW b F S tI tZ tw g) sz (ml_ok F S g p0 x)) (ob_qW D vcl (some (.int ((m_loaded F S g p0 x).1))) (tW b F S tI tZ tw ((m_loaded F S g p0 x).2)) (va_A (tW b F S tI tZ tw g) sz)) 0 0 (va_A (tW b F S tI tZ tw g) sz) := by
  refine ob_ofW (by decide +kernel) ?_
  intro p e s m args below meth c s₁ B hml htab hv
  obtain ⟨rfl, hT, ⟨hin, hq⟩, hsz, hP, hD0⟩ := hv
  have hx := B.exec
  have hb := B.bytes
  have hr := B.returns
  have hlocks := B.notSynchronized
  have hown : s.vm.findClass R_T = some m.cls := findClass_of_methodNamed B.named
  have hl := lv_entry ([.ref (b 0), .int p0, .int x]) (n := 4) (Nat.le_of_ble_eq_true rfl)
  rw [lg_entry_eq]
  generalize (lg_sl ([.ref (b 0), .int p0, .int x]) ++ List.replicate (4 - (lg_sl ([.ref (b 0), .int p0, .int x])).length) Slot.unset).toArray = ls at hl ⊢
  have hl : lv_has ls 4 [(0, .ref (b 0)), (1, .int p0), (2, .int x)] := hl
  subst hsz
  have hD := hD0.self (sz := s.heap.size)
  generalize hAe : va_A (tW b F S tI tZ tw g) s.heap.size = A at hD ⊢
  have hA : ∀ q : Nat, s.heap.size ≤ q → A q := fun q h => by rw [← hAe]; exact Or.inr h
  have hS : va_S A s.heap s.heap [] := va_S.rf
  refine lv_aload_n hx hb d_T_loaded_0 rfl (lv_at hl 0 rfl) ?_
  refine va_get (D := D) (ci := 2) (v := .ref (b 5)) hx hb hT.lays ly_T hown hT.1 hP 0 rfl rfl 8 (by decide) (hT.w k_T_23) (fun _ h => h) rfl d_T_loaded_1 ?_
  refine lv_bipush (v := 6) hx hb d_T_loaded_4 (by decide) ?_
  refine lv_iload_n hx hb d_T_loaded_6 rfl (lv_at hl 1 rfl) ?_
  refine lv_imul hx hb d_T_loaded_7 ?_
  refine lv_iload_n hx hb d_T_loaded_8 rfl (lv_at hl 2 rfl) ?_
  refine lv_iconst (v := 4) hx hb d_T_loaded_9 (by decide) ?_
  refine lv_idiv hx hb d_T_loaded_10 (by decide) ?_
  refine lv_iadd hx hb d_T_loaded_11 ?_
  refine va_iald hx hb hT.1 hP 5 0 rfl rfl (hin) d_T_loaded_12 ?_
  refine lv_istore_n (lv' := [(3, .int ((sg_pg g) (ix ((6 * p0) + (x / 4))))), (0, .ref (b 0)), (1, .int p0), (2, .int x)]) hx hb d_T_loaded_13 rfl hl (by decide) rfl (fun ls hl => ?_)
  refine lv_iload_n hx hb d_T_loaded_14 rfl (lv_at hl 0 rfl) ?_
  refine lv_if_ge (tgt := 20) hx hb d_T_loaded_15 (by decide) (fun hc => ?_) (fun hc => ?_)
  · obtain ⟨hb1, h18, h8, h72⟩ := hq hc
    have e1 : m_loaded F S g p0 x = (sg_wd (m_bringIn F S g (sg_pg g (ix (6 * p0 + x / 4)))) (ix (4 * (sg_pg g (ix (6 * p0 + x / 4))) + (x - x / 4 * 4))), su_mk (m_bringIn F S g (sg_pg g (ix (6 * p0 + x / 4)))) (upd (sg_mk (m_bringIn F S g (sg_pg g (ix (6 * p0 + x / 4))))) (ix (sg_li (m_bringIn F S g (sg_pg g (ix (6 * p0 + x / 4)))) (ix (sg_pg g (ix (6 * p0 + x / 4)))))) 1)) := if_pos hc
    rw [e1]
    refine lv_aload_n hx hb d_T_loaded_20 rfl (lv_at hl 1 rfl) ?_
    refine lv_iload_n hx hb d_T_loaded_21 rfl (lv_at hl 0 rfl) ?_
    refine ob_callW (v := none) (X := []) (M := tW b F S tI tZ tw g) (M' := tW b F S tI tZ tw (m_bringIn F S g (sg_pg g (ix (6 * p0 + x / 4))))) (ob_runV (n := 1) (As := [.int (sg_pg g (ix (6 * p0 + x / 4)))]) (rest := []) (c_T_bringIn l D tI tZ tA tJ b F S s.heap.size tw g (sg_pg g (ix (6 * p0 + x / 4)))) (hT.ok ob_cd_c (by decide +kernel) rfl rfl (Nat.le_of_ble_eq_true rfl) (Nat.le_of_ble_eq_true rfl) kn_T kc_T_bringIn) hx hb hml hown (hT.w k_T_75) (hT.w ki_T_bringIn) (hT.w kv_T_bringIn) (va_recv (q0 := 0) (ci := 2) hT.1 hP rfl rfl) pW.blind (pW.at hT (hb1) hP hD) rfl rfl hl.1 rfl (lv_room (Nat.le_of_ble_eq_true rfl)) d_T_loaded_22 ⟨Nat.le_of_ble_eq_true rfl, Nat.le_of_ble_eq_true rfl⟩) hP hD hS hA (fun H locs hP hD hS => ?_)
    have hP : va_P D vcl (tW b F S tI tZ tw (m_bringIn F S g (sg_pg g (ix (6 * p0 + x / 4))))) H := hP
    have hD : va_D A (tW b F S tI tZ tw (m_bringIn F S g (sg_pg g (ix (6 * p0 + x / 4))))) := hD
    refine W.eq (g2 := F0 m 25 ls []) rfl ?_
    refine lv_aload_n hx hb d_T_loaded_25 rfl (lv_at hl 1 rfl) ?_
    refine va_get (D := D) (ci := 2) (v := .ref (b 1)) hx hb hT.lays ly_T hown hT.1 hP 0 rfl rfl 3 (by decide) (hT.w k_T_7) (fun _ h => h) rfl d_T_loaded_26 ?_
    refine lv_aload_n hx hb d_T_loaded_29 rfl (lv_at hl 1 rfl) ?_
    refine va_get (D := D) (ci := 2) (v := .ref (b 2)) hx hb hT.lays ly_T hown hT.1 hP 0 rfl rfl 5 (by decide) (hT.w k_T_13) (fun _ h => h) rfl d_T_loaded_30 ?_
    refine lv_iload_n hx hb d_T_loaded_33 rfl (lv_at hl 0 rfl) ?_
    refine va_iald hx hb hT.1 hP 2 0 rfl rfl (h18) d_T_loaded_34 ?_
    refine lv_iconst (v := 1) hx hb d_T_loaded_35 (by decide) ?_
    refine va_zast hx hb hT.1 hP hD hS 1 1 rfl rfl (h8) d_T_loaded_36 (fun H locs hP hD hS => ?_)
    rw [nar1] at hP hD
    have hP : va_P D vcl (tW b F S tI tZ tw (su_mk (m_bringIn F S g (sg_pg g (ix (6 * p0 + x / 4)))) (upd (sg_mk (m_bringIn F S g (sg_pg g (ix (6 * p0 + x / 4))))) (ix ((sg_li (m_bringIn F S g (sg_pg g (ix (6 * p0 + x / 4))))) (ix ((sg_pg g) (ix ((6 * p0) + (x / 4))))))) 1))) H := hP
    have hD : va_D A (tW b F S tI tZ tw (su_mk (m_bringIn F S g (sg_pg g (ix (6 * p0 + x / 4)))) (upd (sg_mk (m_bringIn F S g (sg_pg g (ix (6 * p0 + x / 4))))) (ix ((sg_li (m_bringIn F S g (sg_pg g (ix (6 * p0 + x / 4))))) (ix ((sg_pg g) (ix ((6 * p0) + (x / 4))))))) 1))) := hD
    refine lv_aload_n hx hb d_T_loaded_37 rfl (lv_at hl 1 rfl) ?_
    refine va_get (D := D) (ci := 2) (v := .ref (b 3)) hx hb hT.lays ly_T hown hT.1 hP 0 rfl rfl 6 (by decide) (hT.w k_T_17) (fun _ h => h) rfl d_T_loaded_38 ?_
    refine lv_iconst (v := 4) hx hb d_T_loaded_41 (by decide) ?_
    refine lv_iload_n hx hb d_T_loaded_42 rfl (lv_at hl 0 rfl) ?_
    refine lv_imul hx hb d_T_loaded_43 ?_
    refine lv_iload_n hx hb d_T_loaded_44 rfl (lv_at hl 3 rfl) ?_
    refine lv_iconst (v := 4) hx hb d_T_loaded_45 (by decide) ?_
    refine lv_irem hx hb d_T_loaded_46 (by decide) ?_
    refine lv_iadd hx hb d_T_loaded_47 ?_
    refine va_iald hx hb hT.1 hP 3 0 rfl rfl (h72) d_T_loaded_48 ?_
    refine ob_iret hlocks hx hb hr d_T_loaded_49 hS.2.2 (fun t ht hW => ?_)
    exact ⟨rfl, by rw [ht]; exact hP, hD, hS.F ht⟩
  · have e1 : m_loaded F S g p0 x = (0, g) := if_neg hc
    rw [e1]
    refine lv_iconst (v := 0) hx hb d_T_loaded_18 (by decide) ?_
    refine ob_iret hlocks hx hb hr d_T_loaded_19 hS.2.2 (fun t ht hW => ?_)
    exact ⟨rfl, by rw [ht]; exact hP, hD, hS.F ht⟩

set_option maxHeartbeats 4000000 in
set_option maxRecDepth 100000 in
/-- T_stored -/
theorem c_T_stored (l : Launch) (D : va_G) (tI tZ tA tJ : ClassId) (b : Nat → Nat) (F S sz : Nat) (tw : Int32) (g : Sg) (p0 x v : Int32) : ob_M l y_T_stored w_T_stored ({ frames := 4, cells := 0, slots := 0, locals := 91 }) (pW D tI tZ tA tJ [.ref (b 0), .int p0, .int x, .int v] (tW b F S tI tZ tw g) sz (ms_ok F S g p0 x)) (ob_qW D vcl none (tW b F S tI tZ tw (m_stored F S g p0 x v)) (va_A (tW b F S tI tZ tw g) sz)) 0 0 (va_A (tW b F S tI tZ tw g) sz) := by
  refine ob_ofW (by decide +kernel) ?_
  intro p e s m args below meth c s₁ B hml htab hv
  obtain ⟨rfl, hT, ⟨hin, hb1, hm1, h18, h8, h72⟩, hsz, hP, hD0⟩ := hv
  have hx := B.exec
  have hb := B.bytes
  have hr := B.returns
  have hlocks := B.notSynchronized
  have hown : s.vm.findClass R_T = some m.cls := findClass_of_methodNamed B.named
  have hl := lv_entry ([.ref (b 0), .int p0, .int x, .int v]) (n := 6) (Nat.le_of_ble_eq_true rfl)
  rw [lg_entry_eq]
  generalize (lg_sl ([.ref (b 0), .int p0, .int x, .int v]) ++ List.replicate (6 - (lg_sl ([.ref (b 0), .int p0, .int x, .int v])).length) Slot.unset).toArray = ls at hl ⊢
  have hl : lv_has ls 6 [(0, .ref (b 0)), (1, .int p0), (2, .int x), (3, .int v)] := hl
  subst hsz
  have hD := hD0.self (sz := s.heap.size)
  generalize hAe : va_A (tW b F S tI tZ tw g) s.heap.size = A at hD ⊢
  have hA : ∀ q : Nat, s.heap.size ≤ q → A q := fun q h => by rw [← hAe]; exact Or.inr h
  have hS : va_S A s.heap s.heap [] := va_S.rf
  refine lv_bipush (v := 6) hx hb d_T_stored_0 (by decide) ?_
  refine lv_iload_n hx hb d_T_stored_2 rfl (lv_at hl 1 rfl) ?_
  refine lv_imul hx hb d_T_stored_3 ?_
  refine lv_iload_n hx hb d_T_stored_4 rfl (lv_at hl 2 rfl) ?_
  refine lv_iconst (v := 4) hx hb d_T_stored_5 (by decide) ?_
  refine lv_idiv hx hb d_T_stored_6 (by decide) ?_
  refine lv_iadd hx hb d_T_stored_7 ?_
  refine lv_istore (lv' := [(4, .int ((6 * p0) + (x / 4))), (0, .ref (b 0)), (1, .int p0), (2, .int x), (3, .int v)]) hx hb d_T_stored_8 hl (by decide) rfl (fun ls hl => ?_)
  have hend : ∀ (ls : Array Slot) (H : Heap) (locs : List Loc), lv_has ls 6 [(4, .int (6 * p0 + x / 4)), (0, .ref (b 0)), (1, .int p0), (2, .int x), (3, .int v)] → va_P D vcl (tW b F S tI tZ tw (m_sto1 F S g p0 x)) H → va_D A (tW b F S tI tZ tw (m_sto1 F S g p0 x)) → va_S A s.heap H locs → W p l e ({ frames := 4, cells := 0, slots := 0, locals := 91 } : Room) s m ([.ref (b 0), .int p0, .int x, .int v] : List Value).toArray below meth c H locs 0 0 (ob_Q below (ob_qW D vcl none (tW b F S tI tZ tw (m_stored F S g p0 x v)) A) ([.ref (b 0), .int p0, .int x, .int v] : List Value).toArray s 0 0 A) (F0 m 46 ls []) := by
    intro ls H locs hl hP hD hS
    refine lv_aload_n hx hb d_T_stored_46 rfl (lv_at hl 1 rfl) ?_
    refine va_get (D := D) (ci := 2) (v := .ref (b 5)) hx hb hT.lays ly_T hown hT.1 hP 0 rfl rfl 8 (by decide) (hT.w k_T_23) (fun _ h => h) rfl d_T_stored_47 ?_
    refine lv_iload hx hb d_T_stored_50 (lv_at hl 0 rfl) ?_
    refine va_iald hx hb hT.1 hP 5 0 rfl rfl (hin) d_T_stored_52 ?_
    refine lv_istore (lv' := [(5, .int ((sg_pg (m_sto1 F S g p0 x)) (ix (6 * p0 + x / 4)))), (4, .int (6 * p0 + x / 4)), (0, .ref (b 0)), (1, .int p0), (2, .int x), (3, .int v)]) hx hb d_T_stored_53 hl (by decide) rfl (fun ls hl => ?_)
    refine lv_aload_n hx hb d_T_stored_55 rfl (lv_at hl 2 rfl) ?_
    refine va_get (D := D) (ci := 2) (v := .ref (b 1)) hx hb hT.lays ly_T hown hT.1 hP 0 rfl rfl 3 (by decide) (hT.w k_T_7) (fun _ h => h) rfl d_T_stored_56 ?_
    refine lv_aload_n hx hb d_T_stored_59 rfl (lv_at hl 2 rfl) ?_
    refine va_get (D := D) (ci := 2) (v := .ref (b 2)) hx hb hT.lays ly_T hown hT.1 hP 0 rfl rfl 5 (by decide) (hT.w k_T_13) (fun _ h => h) rfl d_T_stored_60 ?_
    refine lv_iload hx hb d_T_stored_63 (lv_at hl 0 rfl) ?_
    refine va_iald hx hb hT.1 hP 2 0 rfl rfl (h18) d_T_stored_65 ?_
    refine lv_iconst (v := 1) hx hb d_T_stored_66 (by decide) ?_
    refine va_zast hx hb hT.1 hP hD hS 1 1 rfl rfl (h8) d_T_stored_67 (fun H locs hP hD hS => ?_)
    rw [nar1] at hP hD
    have hP : va_P D vcl (tW b F S tI tZ tw (su_mk (m_sto1 F S g p0 x) (upd (sg_mk (m_sto1 F S g p0 x)) (ix ((sg_li (m_sto1 F S g p0 x)) (ix ((sg_pg (m_sto1 F S g p0 x)) (ix (6 * p0 + x / 4)))))) 1))) H := hP
    have hD : va_D A (tW b F S tI tZ tw (su_mk (m_sto1 F S g p0 x) (upd (sg_mk (m_sto1 F S g p0 x)) (ix ((sg_li (m_sto1 F S g p0 x)) (ix ((sg_pg (m_sto1 F S g p0 x)) (ix (6 * p0 + x / 4)))))) 1))) := hD
    refine lv_aload_n hx hb d_T_stored_68 rfl (lv_at hl 2 rfl) ?_
    refine va_get (D := D) (ci := 2) (v := .ref (b 3)) hx hb hT.lays ly_T hown hT.1 hP 0 rfl rfl 6 (by decide) (hT.w k_T_17) (fun _ h => h) rfl d_T_stored_69 ?_
    refine lv_iconst (v := 4) hx hb d_T_stored_72 (by decide) ?_
    refine lv_iload hx hb d_T_stored_73 (lv_at hl 0 rfl) ?_
    refine lv_imul hx hb d_T_stored_75 ?_
    refine lv_iload_n hx hb d_T_stored_76 rfl (lv_at hl 4 rfl) ?_
    refine lv_iconst (v := 4) hx hb d_T_stored_77 (by decide) ?_
    refine lv_irem hx hb d_T_stored_78 (by decide) ?_
    refine lv_iadd hx hb d_T_stored_79 ?_
    refine lv_iload_n hx hb d_T_stored_80 rfl (lv_at hl 5 rfl) ?_
    refine va_iast hx hb hT.1 hP hD hS 3 0 rfl rfl (h72) d_T_stored_81 (fun H locs hP hD hS => ?_)
    have hP : va_P D vcl (tW b F S tI tZ tw (su_wd (su_mk (m_sto1 F S g p0 x) (upd (sg_mk (m_sto1 F S g p0 x)) (ix ((sg_li (m_sto1 F S g p0 x)) (ix ((sg_pg (m_sto1 F S g p0 x)) (ix (6 * p0 + x / 4)))))) 1)) (upd (sg_wd (su_mk (m_sto1 F S g p0 x) (upd (sg_mk (m_sto1 F S g p0 x)) (ix ((sg_li (m_sto1 F S g p0 x)) (ix ((sg_pg (m_sto1 F S g p0 x)) (ix (6 * p0 + x / 4)))))) 1))) (ix ((4 * ((sg_pg (m_sto1 F S g p0 x)) (ix (6 * p0 + x / 4)))) + (x - x / 4 * 4))) v))) H := hP
    have hD : va_D A (tW b F S tI tZ tw (su_wd (su_mk (m_sto1 F S g p0 x) (upd (sg_mk (m_sto1 F S g p0 x)) (ix ((sg_li (m_sto1 F S g p0 x)) (ix ((sg_pg (m_sto1 F S g p0 x)) (ix (6 * p0 + x / 4)))))) 1)) (upd (sg_wd (su_mk (m_sto1 F S g p0 x) (upd (sg_mk (m_sto1 F S g p0 x)) (ix ((sg_li (m_sto1 F S g p0 x)) (ix ((sg_pg (m_sto1 F S g p0 x)) (ix (6 * p0 + x / 4)))))) 1))) (ix ((4 * ((sg_pg (m_sto1 F S g p0 x)) (ix (6 * p0 + x / 4)))) + (x - x / 4 * 4))) v))) := hD
    refine ob_vret hlocks hx hb hr d_T_stored_82 hS.2.2 (fun t ht hW => ?_)
    exact ⟨rfl, by rw [ht]; exact hP, hD, hS.F ht⟩
  refine lv_aload_n hx hb d_T_stored_10 rfl (lv_at hl 1 rfl) ?_
  refine lv_iload_n hx hb d_T_stored_11 rfl (lv_at hl 2 rfl) ?_
  refine lv_iload_n hx hb d_T_stored_12 rfl (lv_at hl 3 rfl) ?_
  refine ob_callR (v := (some (.int (m_needs (sg_pg g) p0 x)))) (ob_runV (n := 2) (As := [.int p0, .int x]) (rest := []) (c_T_needs l D tI tZ tA tJ b F S tw g p0 x) (hT.ok ob_cd_c (by decide +kernel) rfl rfl (Nat.le_of_ble_eq_true rfl) (Nat.le_of_ble_eq_true rfl) kn_T kc_T_needs) hx hb hml hown (hT.w k_T_79) (hT.w ki_T_needs) (hT.w kv_T_needs) (va_recv (q0 := 0) (ci := 2) hT.1 hP rfl rfl) pR.blind (pR.at hT (hin) hP) rfl rfl hl.1 rfl (lv_room (Nat.le_of_ble_eq_true rfl)) d_T_stored_13 ⟨Nat.le_of_ble_eq_true rfl, Nat.le_of_ble_eq_true rfl⟩) ?_
  refine W.eq (g2 := F0 m 16 ls [.int (m_needs (sg_pg g) p0 x)]) rfl ?_
  refine lv_if_eq (tgt := 35) hx hb d_T_stored_16 (by decide) (fun hc => ?_) (fun hc => ?_)
  · have e1 : m_sto1 F S g p0 x = m_bringIn F S g (sg_pg g (ix (6 * p0 + x / 4))) := if_pos hc
    rw [e1] at hend
    refine lv_aload_n hx hb d_T_stored_35 rfl (lv_at hl 1 rfl) ?_
    refine lv_aload_n hx hb d_T_stored_36 rfl (lv_at hl 1 rfl) ?_
    refine va_get (D := D) (ci := 2) (v := .ref (b 5)) hx hb hT.lays ly_T hown hT.1 hP 0 rfl rfl 8 (by decide) (hT.w k_T_23) (fun _ h => h) rfl d_T_stored_37 ?_
    refine lv_iload hx hb d_T_stored_40 (lv_at hl 0 rfl) ?_
    refine va_iald hx hb hT.1 hP 5 0 rfl rfl (hin) d_T_stored_42 ?_
    refine ob_callW (v := none) (X := []) (M := tW b F S tI tZ tw g) (M' := tW b F S tI tZ tw (m_bringIn F S g (sg_pg g (ix (6 * p0 + x / 4))))) (ob_runV (n := 1) (As := [.int (sg_pg g (ix (6 * p0 + x / 4)))]) (rest := []) (c_T_bringIn l D tI tZ tA tJ b F S s.heap.size tw g (sg_pg g (ix (6 * p0 + x / 4)))) (hT.ok ob_cd_c (by decide +kernel) rfl rfl (Nat.le_of_ble_eq_true rfl) (Nat.le_of_ble_eq_true rfl) kn_T kc_T_bringIn) hx hb hml hown (hT.w k_T_75) (hT.w ki_T_bringIn) (hT.w kv_T_bringIn) (va_recv (q0 := 0) (ci := 2) hT.1 hP rfl rfl) pW.blind (pW.at hT (hb1 hc) hP hD) rfl rfl hl.1 rfl (lv_room (Nat.le_of_ble_eq_true rfl)) d_T_stored_43 ⟨Nat.le_of_ble_eq_true rfl, Nat.le_of_ble_eq_true rfl⟩) hP hD hS hA (fun H locs hP hD hS => ?_)
    have hP : va_P D vcl (tW b F S tI tZ tw (m_bringIn F S g (sg_pg g (ix (6 * p0 + x / 4))))) H := hP
    have hD : va_D A (tW b F S tI tZ tw (m_bringIn F S g (sg_pg g (ix (6 * p0 + x / 4))))) := hD
    refine W.eq (g2 := F0 m 46 ls []) rfl ?_
    exact hend ls H locs hl hP hD hS
  · have e1 : m_sto1 F S g p0 x = m_make F S g (6 * p0 + x / 4) (sg_pg g (ix (6 * p0 + x / 4))) := if_neg hc
    rw [e1] at hend
    refine lv_aload_n hx hb d_T_stored_19 rfl (lv_at hl 1 rfl) ?_
    refine lv_iload hx hb d_T_stored_20 (lv_at hl 0 rfl) ?_
    refine lv_aload_n hx hb d_T_stored_22 rfl (lv_at hl 1 rfl) ?_
    refine va_get (D := D) (ci := 2) (v := .ref (b 5)) hx hb hT.lays ly_T hown hT.1 hP 0 rfl rfl 8 (by decide) (hT.w k_T_23) (fun _ h => h) rfl d_T_stored_23 ?_
    refine lv_iload hx hb d_T_stored_26 (lv_at hl 0 rfl) ?_
    refine va_iald hx hb hT.1 hP 5 0 rfl rfl (hin) d_T_stored_28 ?_
    refine ob_callW (v := none) (X := []) (M := tW b F S tI tZ tw g) (M' := tW b F S tI tZ tw (m_make F S g (6 * p0 + x / 4) (sg_pg g (ix (6 * p0 + x / 4))))) (ob_runV (n := 2) (As := [.int (6 * p0 + x / 4), .int (sg_pg g (ix (6 * p0 + x / 4)))]) (rest := []) (c_T_make l D tI tZ tA tJ b F S s.heap.size tw g (6 * p0 + x / 4) (sg_pg g (ix (6 * p0 + x / 4)))) (hT.ok ob_cd_c (by decide +kernel) rfl rfl (Nat.le_of_ble_eq_true rfl) (Nat.le_of_ble_eq_true rfl) kn_T kc_T_make) hx hb hml hown (hT.w k_T_83) (hT.w ki_T_make) (hT.w kv_T_make) (va_recv (q0 := 0) (ci := 2) hT.1 hP rfl rfl) pW.blind (pW.at hT (hm1 hc) hP hD) rfl rfl hl.1 rfl (lv_room (Nat.le_of_ble_eq_true rfl)) d_T_stored_29 ⟨Nat.le_of_ble_eq_true rfl, Nat.le_of_ble_eq_true rfl⟩) hP hD hS hA (fun H locs hP hD hS => ?_)
    have hP : va_P D vcl (tW b F S tI tZ tw (m_make F S g (6 * p0 + x / 4) (sg_pg g (ix (6 * p0 + x / 4))))) H := hP
    have hD : va_D A (tW b F S tI tZ tw (m_make F S g (6 * p0 + x / 4) (sg_pg g (ix (6 * p0 + x / 4))))) := hD
    refine W.eq (g2 := F0 m 32 ls []) rfl ?_
    refine lv_goto (tgt := 46) hx hb d_T_stored_32 (by decide) ?_
    exact hend ls H locs hl hP hD hS

set_option maxHeartbeats 4000000 in
set_option maxRecDepth 100000 in
/-- T_load -/
theorem c_T_load (l : Launch) (D : va_G) (tI tZ tA tJ : ClassId) (b : Nat → Nat) (F S sz : Nat) (tw : Int32) (g : Sg) (p0 x : Int32) : ob_M l y_T_load w_T_load ({ frames := 5, cells := 0, slots := 0, locals := 111 }) (pW D tI tZ tA tJ [.ref (b 0), .int p0, .int x] (tW b F S tI tZ tw g) sz (¬ m_isP (sg_th g) p0 = 0 → ¬ m_isA x = 0 → ml_ok F S g p0 x)) (ob_qW D vcl (some (.int ((m_load F S g p0 x).1))) (tW b F S tI tZ ((m_load F S g p0 x).2.1) ((m_load F S g p0 x).2.2)) (va_A (tW b F S tI tZ tw g) sz)) 0 0 (va_A (tW b F S tI tZ tw g) sz) := by
  refine ob_ofW (by decide +kernel) ?_
  intro p e s m args below meth c s₁ B hml htab hv
  obtain ⟨rfl, hT, hq, hsz, hP, hD0⟩ := hv
  have hx := B.exec
  have hb := B.bytes
  have hr := B.returns
  have hlocks := B.notSynchronized
  have hown : s.vm.findClass R_T = some m.cls := findClass_of_methodNamed B.named
  have hl := lv_entry ([.ref (b 0), .int p0, .int x]) (n := 3) (Nat.le_of_ble_eq_true rfl)
  rw [lg_entry_eq]
  generalize (lg_sl ([.ref (b 0), .int p0, .int x]) ++ List.replicate (3 - (lg_sl ([.ref (b 0), .int p0, .int x])).length) Slot.unset).toArray = ls at hl ⊢
  have hl : lv_has ls 3 [(0, .ref (b 0)), (1, .int p0), (2, .int x)] := hl
  subst hsz
  have hD := hD0.self (sz := s.heap.size)
  generalize hAe : va_A (tW b F S tI tZ tw g) s.heap.size = A at hD ⊢
  have hA : ∀ q : Nat, s.heap.size ≤ q → A q := fun q h => by rw [← hAe]; exact Or.inr h
  have hS : va_S A s.heap s.heap [] := va_S.rf
  refine lv_aload_n hx hb d_T_load_0 rfl (lv_at hl 0 rfl) ?_
  refine lv_aload_n hx hb d_T_load_1 rfl (lv_at hl 0 rfl) ?_
  refine lv_iload_n hx hb d_T_load_2 rfl (lv_at hl 1 rfl) ?_
  refine ob_callR (v := (some (.int (m_isP (sg_th g) p0)))) (ob_runV (n := 1) (As := [.int p0]) (rest := [.ref (b 0)]) (c_T_isProcess l D tI tZ tA tJ b F S tw g p0) (hT.ok ob_cd_c (by decide +kernel) rfl rfl (Nat.le_of_ble_eq_true rfl) (Nat.le_of_ble_eq_true rfl) kn_T kc_T_isProcess) hx hb hml hown (hT.w k_T_68) (hT.w ki_T_isProcess) (hT.w kv_T_isProcess) (va_recv (q0 := 0) (ci := 2) hT.1 hP rfl rfl) pR.blind (pR.at hT (trivial) hP) rfl rfl hl.1 rfl (lv_room (Nat.le_of_ble_eq_true rfl)) d_T_load_3 ⟨Nat.le_of_ble_eq_true rfl, Nat.le_of_ble_eq_true rfl⟩) ?_
  refine W.eq (g2 := F0 m 6 ls [.int (m_isP (sg_th g) p0), .ref (b 0)]) rfl ?_
  refine lv_if_ne (tgt := 13) hx hb d_T_load_6 (by decide) (fun hc => ?_) (fun hc => ?_)
  · have hc0 := hc
    refine lv_iload_n hx hb d_T_load_13 rfl (lv_at hl 2 rfl) ?_
    refine ob_callR (v := (some (.int (m_isA x)))) (ob_runS (n := 1) (As := [.int x]) (rest := [.ref (b 0)]) (c_T_isAddress l D tI tZ tA tJ x) (hT.ok ob_cd_c (by decide +kernel) rfl rfl (Nat.le_of_ble_eq_true rfl) (Nat.le_of_ble_eq_true rfl) kn_T kc_T_isAddress) hx hb hml hown (hT.w k_T_87) (hT.w ks_T_isAddress) pR.blind (pR.at hT (trivial) (hP.sub [] rfl)) rfl rfl hl.1 rfl (lv_room (Nat.le_of_ble_eq_true rfl)) d_T_load_14 ⟨Nat.le_of_ble_eq_true rfl, Nat.le_of_ble_eq_true rfl⟩) ?_
    refine W.eq (g2 := F0 m 17 ls [.int (m_isA x), .ref (b 0)]) rfl ?_
    refine lv_if_ne (tgt := 24) hx hb d_T_load_17 (by decide) (fun hc => ?_) (fun hc => ?_)
    · have e1 : m_load F S g p0 x = ((m_loaded F S g p0 x).1, 0, (m_loaded F S g p0 x).2) := by unfold m_load; rw [if_neg hc0, if_neg hc]
      rw [e1]
      have hc1 := hc
      refine lv_iconst (v := 0) hx hb d_T_load_24 (by decide) ?_
      refine va_put (D := D) (ci := 2) (v := .int 0) (ty := .int) hx hb hT.lays ly_T ty_T ty_T_ok n_T hown hT.1 hP hD hS 0 rfl rfl 0 (by decide) (hT.w k_T_33) (fun _ h => h) rfl (by decide +kernel) rfl rfl (Nat.le_of_ble_eq_true rfl) d_T_load_25 (fun H locs hP hD hS => ?_)
      have hP : va_P D vcl (tW b F S tI tZ 0 g) H := hP
      have hD : va_D A (tW b F S tI tZ 0 g) := hD
      refine lv_aload_n hx hb d_T_load_28 rfl (lv_at hl 0 rfl) ?_
      refine va_get (D := D) (ci := 2) (v := .int 0) hx hb hT.lays ly_T hown hT.1 hP 0 rfl rfl 0 (by decide) (hT.w k_T_33) (fun _ h => h) rfl d_T_load_29 ?_
      refine lv_if_le (tgt := 39) hx hb d_T_load_32 (by decide) (fun hc => ?_) (fun hc => absurd (by decide) hc)
      refine lv_aload_n hx hb d_T_load_39 rfl (lv_at hl 0 rfl) ?_
      refine lv_iload_n hx hb d_T_load_40 rfl (lv_at hl 1 rfl) ?_
      refine lv_iload_n hx hb d_T_load_41 rfl (lv_at hl 2 rfl) ?_
      refine ob_callW (v := (some (.int ((m_loaded F S g p0 x).1)))) (X := []) (M := tW b F S tI tZ 0 g) (M' := tW b F S tI tZ 0 ((m_loaded F S g p0 x).2)) (ob_runV (n := 2) (As := [.int p0, .int x]) (rest := []) (c_T_loaded l D tI tZ tA tJ b F S H.size 0 g p0 x) (hT.ok ob_cd_c (by decide +kernel) rfl rfl (Nat.le_of_ble_eq_true rfl) (Nat.le_of_ble_eq_true rfl) kn_T kc_T_loaded) hx hb hml hown (hT.w k_T_90) (hT.w ki_T_loaded) (hT.w kv_T_loaded) (va_recv (q0 := 0) (ci := 2) hT.1 hP rfl rfl) pW.blind (pW.at hT (hq hc0 hc1) hP hD) rfl rfl hl.1 rfl (lv_room (Nat.le_of_ble_eq_true rfl)) d_T_load_42 ⟨Nat.le_of_ble_eq_true rfl, Nat.le_of_ble_eq_true rfl⟩) hP hD hS hA (fun H locs hP hD hS => ?_)
      have hP : va_P D vcl (tW b F S tI tZ 0 ((m_loaded F S g p0 x).2)) H := hP
      have hD : va_D A (tW b F S tI tZ 0 ((m_loaded F S g p0 x).2)) := hD
      refine W.eq (g2 := F0 m 45 ls [.int ((m_loaded F S g p0 x).1)]) rfl ?_
      refine ob_iret hlocks hx hb hr d_T_load_45 hS.2.2 (fun t ht hW => ?_)
      exact ⟨rfl, by rw [ht]; exact hP, hD, hS.F ht⟩
    · have e1 : m_load F S g p0 x = (0, 2, g) := by unfold m_load; rw [if_neg hc0, if_pos hc]
      rw [e1]
      refine lv_iconst (v := 2) hx hb d_T_load_20 (by decide) ?_
      refine lv_goto (tgt := 25) hx hb d_T_load_21 (by decide) ?_
      refine va_put (D := D) (ci := 2) (v := .int 2) (ty := .int) hx hb hT.lays ly_T ty_T ty_T_ok n_T hown hT.1 hP hD hS 0 rfl rfl 0 (by decide) (hT.w k_T_33) (fun _ h => h) rfl (by decide +kernel) rfl rfl (Nat.le_of_ble_eq_true rfl) d_T_load_25 (fun H locs hP hD hS => ?_)
      have hP : va_P D vcl (tW b F S tI tZ 2 g) H := hP
      have hD : va_D A (tW b F S tI tZ 2 g) := hD
      refine lv_aload_n hx hb d_T_load_28 rfl (lv_at hl 0 rfl) ?_
      refine va_get (D := D) (ci := 2) (v := .int 2) hx hb hT.lays ly_T hown hT.1 hP 0 rfl rfl 0 (by decide) (hT.w k_T_33) (fun _ h => h) rfl d_T_load_29 ?_
      refine lv_if_le (tgt := 39) hx hb d_T_load_32 (by decide) (fun hc => absurd hc (by decide)) (fun hc => ?_)
      refine lv_iconst (v := 0) hx hb d_T_load_35 (by decide) ?_
      refine lv_goto (tgt := 45) hx hb d_T_load_36 (by decide) ?_
      refine ob_iret hlocks hx hb hr d_T_load_45 hS.2.2 (fun t ht hW => ?_)
      exact ⟨rfl, by rw [ht]; exact hP, hD, hS.F ht⟩
  · have e1 : m_load F S g p0 x = (0, 1, g) := if_pos hc
    rw [e1]
    refine lv_iconst (v := 1) hx hb d_T_load_9 (by decide) ?_
    refine lv_goto (tgt := 25) hx hb d_T_load_10 (by decide) ?_
    refine va_put (D := D) (ci := 2) (v := .int 1) (ty := .int) hx hb hT.lays ly_T ty_T ty_T_ok n_T hown hT.1 hP hD hS 0 rfl rfl 0 (by decide) (hT.w k_T_33) (fun _ h => h) rfl (by decide +kernel) rfl rfl (Nat.le_of_ble_eq_true rfl) d_T_load_25 (fun H locs hP hD hS => ?_)
    have hP : va_P D vcl (tW b F S tI tZ 1 g) H := hP
    have hD : va_D A (tW b F S tI tZ 1 g) := hD
    refine lv_aload_n hx hb d_T_load_28 rfl (lv_at hl 0 rfl) ?_
    refine va_get (D := D) (ci := 2) (v := .int 1) hx hb hT.lays ly_T hown hT.1 hP 0 rfl rfl 0 (by decide) (hT.w k_T_33) (fun _ h => h) rfl d_T_load_29 ?_
    refine lv_if_le (tgt := 39) hx hb d_T_load_32 (by decide) (fun hc => absurd hc (by decide)) (fun hc => ?_)
    refine lv_iconst (v := 0) hx hb d_T_load_35 (by decide) ?_
    refine lv_goto (tgt := 45) hx hb d_T_load_36 (by decide) ?_
    refine ob_iret hlocks hx hb hr d_T_load_45 hS.2.2 (fun t ht hW => ?_)
    exact ⟨rfl, by rw [ht]; exact hP, hD, hS.F ht⟩

set_option maxHeartbeats 4000000 in
set_option maxRecDepth 100000 in
/-- T_store -/
theorem c_T_store (l : Launch) (D : va_G) (tI tZ tA tJ : ClassId) (b : Nat → Nat) (F S sz : Nat) (tw : Int32) (g : Sg) (p0 x v : Int32) : ob_M l y_T_store w_T_store ({ frames := 5, cells := 0, slots := 0, locals := 116 }) (pW D tI tZ tA tJ [.ref (b 0), .int p0, .int x, .int v] (tW b F S tI tZ tw g) sz (F ≤ 8 ∧ S ≤ 10 ∧ (¬ m_isP (sg_th g) p0 = 0 → ¬ m_isA x = 0 → vp_in (6 * p0 + x / 4) 36 ∧ (m_needs (sg_pg g) p0 x = 0 ∨ ¬ m_canMake F S (sg_li g) = 0 → ms_ok F S g p0 x)))) (ob_qW D vcl none (tW b F S tI tZ ((m_store F S g p0 x v).1) ((m_store F S g p0 x v).2)) (va_A (tW b F S tI tZ tw g) sz)) 0 0 (va_A (tW b F S tI tZ tw g) sz) := by
  refine ob_ofW (by decide +kernel) ?_
  intro p e s m args below meth c s₁ B hml htab hv
  obtain ⟨rfl, hT, ⟨hF, hS10, hq⟩, hsz, hP, hD0⟩ := hv
  have hx := B.exec
  have hb := B.bytes
  have hr := B.returns
  have hlocks := B.notSynchronized
  have hown : s.vm.findClass R_T = some m.cls := findClass_of_methodNamed B.named
  have hl := lv_entry ([.ref (b 0), .int p0, .int x, .int v]) (n := 4) (Nat.le_of_ble_eq_true rfl)
  rw [lg_entry_eq]
  generalize (lg_sl ([.ref (b 0), .int p0, .int x, .int v]) ++ List.replicate (4 - (lg_sl ([.ref (b 0), .int p0, .int x, .int v])).length) Slot.unset).toArray = ls at hl ⊢
  have hl : lv_has ls 4 [(0, .ref (b 0)), (1, .int p0), (2, .int x), (3, .int v)] := hl
  subst hsz
  have hD := hD0.self (sz := s.heap.size)
  generalize hAe : va_A (tW b F S tI tZ tw g) s.heap.size = A at hD ⊢
  have hA : ∀ q : Nat, s.heap.size ≤ q → A q := fun q h => by rw [← hAe]; exact Or.inr h
  have hS : va_S A s.heap s.heap [] := va_S.rf
  refine lv_aload_n hx hb d_T_store_0 rfl (lv_at hl 0 rfl) ?_
  refine lv_aload_n hx hb d_T_store_1 rfl (lv_at hl 0 rfl) ?_
  refine lv_iload_n hx hb d_T_store_2 rfl (lv_at hl 1 rfl) ?_
  refine ob_callR (v := (some (.int (m_isP (sg_th g) p0)))) (ob_runV (n := 1) (As := [.int p0]) (rest := [.ref (b 0)]) (c_T_isProcess l D tI tZ tA tJ b F S tw g p0) (hT.ok ob_cd_c (by decide +kernel) rfl rfl (Nat.le_of_ble_eq_true rfl) (Nat.le_of_ble_eq_true rfl) kn_T kc_T_isProcess) hx hb hml hown (hT.w k_T_68) (hT.w ki_T_isProcess) (hT.w kv_T_isProcess) (va_recv (q0 := 0) (ci := 2) hT.1 hP rfl rfl) pR.blind (pR.at hT (trivial) hP) rfl rfl hl.1 rfl (lv_room (Nat.le_of_ble_eq_true rfl)) d_T_store_3 ⟨Nat.le_of_ble_eq_true rfl, Nat.le_of_ble_eq_true rfl⟩) ?_
  refine W.eq (g2 := F0 m 6 ls [.int (m_isP (sg_th g) p0), .ref (b 0)]) rfl ?_
  refine lv_if_ne (tgt := 13) hx hb d_T_store_6 (by decide) (fun hc => ?_) (fun hc => ?_)
  · have hc0 := hc
    refine lv_iload_n hx hb d_T_store_13 rfl (lv_at hl 2 rfl) ?_
    refine ob_callR (v := (some (.int (m_isA x)))) (ob_runS (n := 1) (As := [.int x]) (rest := [.ref (b 0)]) (c_T_isAddress l D tI tZ tA tJ x) (hT.ok ob_cd_c (by decide +kernel) rfl rfl (Nat.le_of_ble_eq_true rfl) (Nat.le_of_ble_eq_true rfl) kn_T kc_T_isAddress) hx hb hml hown (hT.w k_T_87) (hT.w ks_T_isAddress) pR.blind (pR.at hT (trivial) (hP.sub [] rfl)) rfl rfl hl.1 rfl (lv_room (Nat.le_of_ble_eq_true rfl)) d_T_store_14 ⟨Nat.le_of_ble_eq_true rfl, Nat.le_of_ble_eq_true rfl⟩) ?_
    refine W.eq (g2 := F0 m 17 ls [.int (m_isA x), .ref (b 0)]) rfl ?_
    refine lv_if_ne (tgt := 24) hx hb d_T_store_17 (by decide) (fun hc => ?_) (fun hc => ?_)
    · have hc1 := hc
      obtain ⟨hin, hok⟩ := hq hc0 hc1
      refine lv_iconst (v := 0) hx hb d_T_store_24 (by decide) ?_
      refine va_put (D := D) (ci := 2) (v := .int 0) (ty := .int) hx hb hT.lays ly_T ty_T ty_T_ok n_T hown hT.1 hP hD hS 0 rfl rfl 0 (by decide) (hT.w k_T_33) (fun _ h => h) rfl (by decide +kernel) rfl rfl (Nat.le_of_ble_eq_true rfl) d_T_store_25 (fun H locs hP hD hS => ?_)
      have hP : va_P D vcl (tW b F S tI tZ 0 g) H := hP
      have hD : va_D A (tW b F S tI tZ 0 g) := hD
      refine lv_aload_n hx hb d_T_store_28 rfl (lv_at hl 0 rfl) ?_
      refine va_get (D := D) (ci := 2) (v := .int 0) hx hb hT.lays ly_T hown hT.1 hP 0 rfl rfl 0 (by decide) (hT.w k_T_33) (fun _ h => h) rfl d_T_store_29 ?_
      refine lv_if_le (tgt := 36) hx hb d_T_store_32 (by decide) (fun hc => ?_) (fun hc => absurd (by decide) hc)
      refine lv_aload_n hx hb d_T_store_36 rfl (lv_at hl 0 rfl) ?_
      refine lv_iload_n hx hb d_T_store_37 rfl (lv_at hl 1 rfl) ?_
      refine lv_iload_n hx hb d_T_store_38 rfl (lv_at hl 2 rfl) ?_
      refine ob_callR (v := (some (.int (m_needs (sg_pg g) p0 x)))) (ob_runV (n := 2) (As := [.int p0, .int x]) (rest := []) (c_T_needs l D tI tZ tA tJ b F S 0 g p0 x) (hT.ok ob_cd_c (by decide +kernel) rfl rfl (Nat.le_of_ble_eq_true rfl) (Nat.le_of_ble_eq_true rfl) kn_T kc_T_needs) hx hb hml hown (hT.w k_T_79) (hT.w ki_T_needs) (hT.w kv_T_needs) (va_recv (q0 := 0) (ci := 2) hT.1 hP rfl rfl) pR.blind (pR.at hT (hin) hP) rfl rfl hl.1 rfl (lv_room (Nat.le_of_ble_eq_true rfl)) d_T_store_39 ⟨Nat.le_of_ble_eq_true rfl, Nat.le_of_ble_eq_true rfl⟩) ?_
      refine W.eq (g2 := F0 m 42 ls [.int (m_needs (sg_pg g) p0 x)]) rfl ?_
      refine lv_if_eq (tgt := 58) hx hb d_T_store_42 (by decide) (fun hc => ?_) (fun hc => ?_)
      · have e1 : m_store F S g p0 x v = (0, m_stored F S g p0 x v) := by unfold m_store; rw [if_neg hc0, if_neg hc1, if_pos hc]
        rw [e1]
        refine lv_aload_n hx hb d_T_store_58 rfl (lv_at hl 0 rfl) ?_
        refine lv_iload_n hx hb d_T_store_59 rfl (lv_at hl 1 rfl) ?_
        refine lv_iload_n hx hb d_T_store_60 rfl (lv_at hl 2 rfl) ?_
        refine lv_iload_n hx hb d_T_store_61 rfl (lv_at hl 3 rfl) ?_
        refine ob_callW (v := none) (X := []) (M := tW b F S tI tZ 0 g) (M' := tW b F S tI tZ 0 (m_stored F S g p0 x v)) (ob_runV (n := 3) (As := [.int p0, .int x, .int v]) (rest := []) (c_T_stored l D tI tZ tA tJ b F S H.size 0 g p0 x v) (hT.ok ob_cd_c (by decide +kernel) rfl rfl (Nat.le_of_ble_eq_true rfl) (Nat.le_of_ble_eq_true rfl) kn_T kc_T_stored) hx hb hml hown (hT.w k_T_98) (hT.w ki_T_stored) (hT.w kv_T_stored) (va_recv (q0 := 0) (ci := 2) hT.1 hP rfl rfl) pW.blind (pW.at hT (hok (Or.inl hc)) hP hD) rfl rfl hl.1 rfl (lv_room (Nat.le_of_ble_eq_true rfl)) d_T_store_62 ⟨Nat.le_of_ble_eq_true rfl, Nat.le_of_ble_eq_true rfl⟩) hP hD hS hA (fun H locs hP hD hS => ?_)
        have hP : va_P D vcl (tW b F S tI tZ 0 (m_stored F S g p0 x v)) H := hP
        have hD : va_D A (tW b F S tI tZ 0 (m_stored F S g p0 x v)) := hD
        refine W.eq (g2 := F0 m 65 ls []) rfl ?_
        refine ob_vret hlocks hx hb hr d_T_store_65 hS.2.2 (fun t ht hW => ?_)
        exact ⟨rfl, by rw [ht]; exact hP, hD, hS.F ht⟩
      · have hc2 := hc
        refine lv_aload_n hx hb d_T_store_45 rfl (lv_at hl 0 rfl) ?_
        refine ob_callR (v := (some (.int (m_canMake F S (sg_li g))))) (ob_runV (n := 0) (As := []) (rest := []) (c_T_canMake l D tI tZ tA tJ b F S 0 g) (hT.ok ob_cd_c (by decide +kernel) rfl rfl (Nat.le_of_ble_eq_true rfl) (Nat.le_of_ble_eq_true rfl) kn_T kc_T_canMake) hx hb hml hown (hT.w k_T_94) (hT.w ki_T_canMake) (hT.w kv_T_canMake) (va_recv (q0 := 0) (ci := 2) hT.1 hP rfl rfl) pR.blind (pR.at hT (⟨hF, hS10⟩) hP) rfl rfl hl.1 rfl (lv_room (Nat.le_of_ble_eq_true rfl)) d_T_store_46 ⟨Nat.le_of_ble_eq_true rfl, Nat.le_of_ble_eq_true rfl⟩) ?_
        refine W.eq (g2 := F0 m 49 ls [.int (m_canMake F S (sg_li g))]) rfl ?_
        refine lv_if_ne (tgt := 58) hx hb d_T_store_49 (by decide) (fun hc => ?_) (fun hc => ?_)
        · have e1 : m_store F S g p0 x v = (0, m_stored F S g p0 x v) := by unfold m_store; rw [if_neg hc0, if_neg hc1, if_neg hc2, if_neg hc]
          rw [e1]
          refine lv_aload_n hx hb d_T_store_58 rfl (lv_at hl 0 rfl) ?_
          refine lv_iload_n hx hb d_T_store_59 rfl (lv_at hl 1 rfl) ?_
          refine lv_iload_n hx hb d_T_store_60 rfl (lv_at hl 2 rfl) ?_
          refine lv_iload_n hx hb d_T_store_61 rfl (lv_at hl 3 rfl) ?_
          refine ob_callW (v := none) (X := []) (M := tW b F S tI tZ 0 g) (M' := tW b F S tI tZ 0 (m_stored F S g p0 x v)) (ob_runV (n := 3) (As := [.int p0, .int x, .int v]) (rest := []) (c_T_stored l D tI tZ tA tJ b F S H.size 0 g p0 x v) (hT.ok ob_cd_c (by decide +kernel) rfl rfl (Nat.le_of_ble_eq_true rfl) (Nat.le_of_ble_eq_true rfl) kn_T kc_T_stored) hx hb hml hown (hT.w k_T_98) (hT.w ki_T_stored) (hT.w kv_T_stored) (va_recv (q0 := 0) (ci := 2) hT.1 hP rfl rfl) pW.blind (pW.at hT (hok (Or.inr hc)) hP hD) rfl rfl hl.1 rfl (lv_room (Nat.le_of_ble_eq_true rfl)) d_T_store_62 ⟨Nat.le_of_ble_eq_true rfl, Nat.le_of_ble_eq_true rfl⟩) hP hD hS hA (fun H locs hP hD hS => ?_)
          have hP : va_P D vcl (tW b F S tI tZ 0 (m_stored F S g p0 x v)) H := hP
          have hD : va_D A (tW b F S tI tZ 0 (m_stored F S g p0 x v)) := hD
          refine W.eq (g2 := F0 m 65 ls []) rfl ?_
          refine ob_vret hlocks hx hb hr d_T_store_65 hS.2.2 (fun t ht hW => ?_)
          exact ⟨rfl, by rw [ht]; exact hP, hD, hS.F ht⟩
        · have e1 : m_store F S g p0 x v = (3, g) := by unfold m_store; rw [if_neg hc0, if_neg hc1, if_neg hc2, if_pos hc]
          rw [e1]
          refine lv_aload_n hx hb d_T_store_52 rfl (lv_at hl 0 rfl) ?_
          refine lv_iconst (v := 3) hx hb d_T_store_53 (by decide) ?_
          refine va_put (D := D) (ci := 2) (v := .int 3) (ty := .int) hx hb hT.lays ly_T ty_T ty_T_ok n_T hown hT.1 hP hD hS 0 rfl rfl 0 (by decide) (hT.w k_T_33) (fun _ h => h) rfl (by decide +kernel) rfl rfl (Nat.le_of_ble_eq_true rfl) d_T_store_54 (fun H locs hP hD hS => ?_)
          have hP : va_P D vcl (tW b F S tI tZ 3 g) H := hP
          have hD : va_D A (tW b F S tI tZ 3 g) := hD
          refine ob_vret hlocks hx hb hr d_T_store_57 hS.2.2 (fun t ht hW => ?_)
          exact ⟨rfl, by rw [ht]; exact hP, hD, hS.F ht⟩
    · have e1 : m_store F S g p0 x v = (2, g) := by unfold m_store; rw [if_neg hc0, if_pos hc]
      rw [e1]
      refine lv_iconst (v := 2) hx hb d_T_store_20 (by decide) ?_
      refine lv_goto (tgt := 25) hx hb d_T_store_21 (by decide) ?_
      refine va_put (D := D) (ci := 2) (v := .int 2) (ty := .int) hx hb hT.lays ly_T ty_T ty_T_ok n_T hown hT.1 hP hD hS 0 rfl rfl 0 (by decide) (hT.w k_T_33) (fun _ h => h) rfl (by decide +kernel) rfl rfl (Nat.le_of_ble_eq_true rfl) d_T_store_25 (fun H locs hP hD hS => ?_)
      have hP : va_P D vcl (tW b F S tI tZ 2 g) H := hP
      have hD : va_D A (tW b F S tI tZ 2 g) := hD
      refine lv_aload_n hx hb d_T_store_28 rfl (lv_at hl 0 rfl) ?_
      refine va_get (D := D) (ci := 2) (v := .int 2) hx hb hT.lays ly_T hown hT.1 hP 0 rfl rfl 0 (by decide) (hT.w k_T_33) (fun _ h => h) rfl d_T_store_29 ?_
      refine lv_if_le (tgt := 36) hx hb d_T_store_32 (by decide) (fun hc => absurd hc (by decide)) (fun hc => ?_)
      refine ob_vret hlocks hx hb hr d_T_store_35 hS.2.2 (fun t ht hW => ?_)
      exact ⟨rfl, by rw [ht]; exact hP, hD, hS.F ht⟩
  · have e1 : m_store F S g p0 x v = (1, g) := if_pos hc
    rw [e1]
    refine lv_iconst (v := 1) hx hb d_T_store_9 (by decide) ?_
    refine lv_goto (tgt := 25) hx hb d_T_store_10 (by decide) ?_
    refine va_put (D := D) (ci := 2) (v := .int 1) (ty := .int) hx hb hT.lays ly_T ty_T ty_T_ok n_T hown hT.1 hP hD hS 0 rfl rfl 0 (by decide) (hT.w k_T_33) (fun _ h => h) rfl (by decide +kernel) rfl rfl (Nat.le_of_ble_eq_true rfl) d_T_store_25 (fun H locs hP hD hS => ?_)
    have hP : va_P D vcl (tW b F S tI tZ 1 g) H := hP
    have hD : va_D A (tW b F S tI tZ 1 g) := hD
    refine lv_aload_n hx hb d_T_store_28 rfl (lv_at hl 0 rfl) ?_
    refine va_get (D := D) (ci := 2) (v := .int 1) hx hb hT.lays ly_T hown hT.1 hP 0 rfl rfl 0 (by decide) (hT.w k_T_33) (fun _ h => h) rfl d_T_store_29 ?_
    refine lv_if_le (tgt := 36) hx hb d_T_store_32 (by decide) (fun hc => absurd hc (by decide)) (fun hc => ?_)
    refine ob_vret hlocks hx hb hr d_T_store_35 hS.2.2 (fun t ht hW => ?_)
    exact ⟨rfl, by rw [ht]; exact hP, hD, hS.F ht⟩
