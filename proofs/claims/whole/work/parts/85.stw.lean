/-! words of the tables by their places: what the law starts with -/
set_option maxRecDepth 20000 in
theorem st_strW : ∀ w ∈ strL.map (fun q => Cond.stringRef RX5 q.1 q.2), w ∈ lw_tbl := in_of_pos [236, 272, 293, 312, 313, 325, 362, 363, 440, 462, 475, 489, 539, 540, 570, 578, 586, 594, 595, 611, 361, 349] (by decide +kernel)
set_option maxRecDepth 20000 in
theorem st_strE : ∀ w ∈ strL.map (fun q => Cond.exactly (.string RX5 q.1) "java/lang/String"), w ∈ flatC (Jvm.Cond.and given_1 narrow_1) := in_of_pos [75, 101, 126, 141, 166, 191, 264, 296, 340, 382, 416, 462, 523, 558, 609, 655, 704, 751, 796, 841, 241, 218] (by decide +kernel)
set_option maxRecDepth 20000 in
theorem st_nw : ∀ w ∈ nwL, w ∈ lw_tbl := in_of_pos [67, 68, 70, 71, 83, 88, 89, 90, 92, 93, 95, 96, 98, 99, 116, 118, 120, 122, 124, 126] (by decide +kernel)
theorem st_nwT : ∀ w ∈ nwL, w.onTables = true := by
  intro w hw
  simp only [nwL, List.mem_cons, List.not_mem_nil, or_false] at hw
  rcases hw with rfl | rfl | rfl | rfl | rfl | rfl | rfl | rfl | rfl | rfl | rfl | rfl | rfl | rfl | rfl | rfl | rfl | rfl | rfl | rfl <;> rfl
set_option maxRecDepth 20000 in
theorem st_exW : ∀ w ∈ exL.flatMap exB, w ∈ lw_tbl := in_of_pos [198, 200, 202, 196, 198, 200, 202, 265, 198, 200, 202, 433, 198, 200, 202, 482] (by decide +kernel)
theorem st_exT : ∀ X ∈ exL, ∀ w ∈ exB X, w.onTables = true := by
  intro X _ w hw
  simp only [exB, List.mem_cons, List.not_mem_nil, or_false] at hw
  rcases hw with rfl | rfl | rfl | rfl <;> rfl
set_option maxRecDepth 20000 in
theorem st_aI : Cond.arrayClass .int ∈ lw_tbl := List.mem_of_getElem? (i := 77) (by decide +kernel)
set_option maxRecDepth 20000 in
theorem st_aZ : Cond.arrayClass .boolean ∈ lw_tbl := List.mem_of_getElem? (i := 700) (by decide +kernel)
set_option maxRecDepth 20000 in
theorem st_aJ : Cond.arrayClass .long ∈ lw_tbl := List.mem_of_getElem? (i := 850) (by decide +kernel)
set_option maxRecDepth 20000 in
theorem st_oK : Cond.arrayOver (.object RX1) ∈ lw_tbl := List.mem_of_getElem? (i := 78) (by decide +kernel)
set_option maxRecDepth 20000 in
theorem st_oS : Cond.arrayOver (.object RX3) ∈ lw_tbl := List.mem_of_getElem? (i := 115) (by decide +kernel)
set_option maxRecDepth 20000 in
theorem st_oT : Cond.arrayOver (.object RX4) ∈ lw_tbl := List.mem_of_getElem? (i := 80) (by decide +kernel)
set_option maxRecDepth 20000 in
theorem st_lU : Cond.laysStatic Bundle.tN "UNASSIGNED_STACK" Bundle.steD ∈ lw_tbl := List.mem_of_getElem? (i := 221) (by decide +kernel)
set_option maxRecDepth 20000 in
theorem st_lN : Cond.laysStatic Bundle.tN "SUPPRESSED_SENTINEL" Bundle.listD ∈ lw_tbl := List.mem_of_getElem? (i := 223) (by decide +kernel)
set_option maxRecDepth 20000 in
theorem st_iT : Cond.initialized Bundle.tN ∈ lw_tbl := List.mem_of_getElem? (i := 41) (by decide +kernel)
set_option maxRecDepth 20000 in
theorem st_i0 : Cond.instantiable RX0 4 ∈ lw_tbl := List.mem_of_getElem? (i := 365) (by decide +kernel)
set_option maxRecDepth 20000 in
theorem st_i1 : Cond.instantiable RX1 2 ∈ lw_tbl := List.mem_of_getElem? (i := 61) (by decide +kernel)
set_option maxRecDepth 20000 in
theorem st_i3 : Cond.instantiable RX3 4 ∈ lw_tbl := List.mem_of_getElem? (i := 82) (by decide +kernel)
set_option maxRecDepth 20000 in
theorem st_i4 : Cond.instantiable RX4 5 ∈ lw_tbl := List.mem_of_getElem? (i := 109) (by decide +kernel)
set_option maxRecDepth 20000 in
theorem st_i5 : Cond.instantiable RX5 11 ∈ lw_tbl := List.mem_of_getElem? (i := 53) (by decide +kernel)
set_option maxRecDepth 20000 in
theorem st_i6 : Cond.instantiable RX6 27 ∈ lw_tbl := List.mem_of_getElem? (i := 613) (by decide +kernel)
set_option maxRecDepth 20000 in
theorem st_c5 : Cond.classLink RL 8 RX5 ∈ lw_tbl := List.mem_of_getElem? (i := 52) (by decide +kernel)
set_option maxRecDepth 20000 in
theorem st_c6 : Cond.classLink RL 83 RX6 ∈ lw_tbl := List.mem_of_getElem? (i := 612) (by decide +kernel)
set_option maxRecDepth 20000 in
theorem st_z5 : Cond.initialized RX5 ∈ lw_tbl := List.mem_of_getElem? (i := 35) (by decide +kernel)
set_option maxRecDepth 20000 in
theorem st_z6 : Cond.initialized RX6 ∈ lw_tbl := List.mem_of_getElem? (i := 39) (by decide +kernel)
set_option maxRecDepth 20000 in
theorem st_m5 : Cond.methodLink RL 82 yX5_init ∈ lw_tbl := List.mem_of_getElem? (i := 54) (by decide +kernel)
set_option maxRecDepth 20000 in
theorem st_m6 : Cond.methodLink RL 85 yX6_init ∈ lw_tbl := List.mem_of_getElem? (i := 614) (by decide +kernel)
set_option maxRecDepth 20000 in
theorem st_n5 : Cond.instanceMethod yX5_init ∈ lw_tbl := List.mem_of_getElem? (i := 55) (by decide +kernel)
set_option maxRecDepth 20000 in
theorem st_n6 : Cond.instanceMethod yX6_init ∈ lw_tbl := List.mem_of_getElem? (i := 615) (by decide +kernel)
set_option maxRecDepth 20000 in
theorem st_nc1 : Cond.not (.castable "java/lang/IllegalStateException" "java/lang/IllegalArgumentException") ∈ flatC (Jvm.Cond.and given_1 narrow_1) := List.mem_of_getElem? (i := 11) (by decide +kernel)
set_option maxRecDepth 20000 in
theorem st_nc2 : Cond.not (.castable "java/lang/UnsupportedOperationException" "java/lang/IllegalArgumentException") ∈ flatC (Jvm.Cond.and given_1 narrow_1) := List.mem_of_getElem? (i := 14) (by decide +kernel)
set_option maxRecDepth 20000 in
theorem st_nc3 : Cond.not (.castable "java/lang/UnsupportedOperationException" "java/lang/IllegalStateException") ∈ flatC (Jvm.Cond.and given_1 narrow_1) := List.mem_of_getElem? (i := 23) (by decide +kernel)
set_option maxRecDepth 20000 in
theorem st_nc4 : Cond.not (.castable "java/lang/IndexOutOfBoundsException" "java/lang/IllegalArgumentException") ∈ flatC (Jvm.Cond.and given_1 narrow_1) := List.mem_of_getElem? (i := 13) (by decide +kernel)
set_option maxRecDepth 20000 in
theorem st_rU : Cond.isRef (.static Bundle.tN "UNASSIGNED_STACK" Bundle.steD) ∈ flatC (Jvm.Cond.and given_1 narrow_1) := List.mem_of_getElem? (i := 4) (by decide +kernel)
set_option maxRecDepth 20000 in
theorem st_rN : Cond.isRef (.static Bundle.tN "SUPPRESSED_SENTINEL" Bundle.listD) ∈ flatC (Jvm.Cond.and given_1 narrow_1) := List.mem_of_getElem? (i := 5) (by decide +kernel)
section STW
variable {args : Array Value} {s : State}
theorem st_ar {ty : FieldType} (h : (Cond.arrayClass ty).before args s = true) : ∃ cA : ClassId, ArrOfT s cA ty ∧ s.vm.findClass ("[" ++ ty.toString) = some cA := by
  obtain ⟨cA, kA, comp, h1, h2, h3⟩ := Cond.arrayClass_spec (args := args) (first := s) (o := none) (s := s) (idx := []) h
  exact ⟨cA, fun n z => ⟨fun k h => (by cases h), kA, h2, comp, h3⟩, h1⟩
theorem st_ao {C : String} (h : (Cond.arrayOver (.object C)).before args s = true) : ∃ cA : ClassId, ArrOfT s cA (.object C) ∧ va_RA s cA (.object C) := by
  obtain ⟨comp, cA, kA, h1, h2, h3, h4, h5⟩ := Cond.arrayOver_spec (args := args) (first := s) (o := none) (s := s) (idx := []) h
  exact ⟨cA, fun n z => ⟨fun k h => (by cases h), kA, h3, comp, h4⟩, kA, comp, h3, h4, h1, h5⟩
theorem st_str (h1 : ∀ w ∈ lw_tbl, w.before args s = true) (h2 : ∀ w ∈ flatC (Jvm.Cond.and given_1 narrow_1), w.before args s = true) : ∀ q ∈ strL, ∃ sa, vk_R RX5 q.1 q.2 sa s := by
  intro q hq
  have g1 : (Cond.stringRef RX5 q.1 q.2).before args s = true := h1 _ (st_strW _ (List.mem_map.mpr ⟨q, hq, rfl⟩))
  have g2 : (Cond.exactly (.string RX5 q.1) "java/lang/String").before args s = true := h2 _ (st_strE _ (List.mem_map.mpr ⟨q, hq, rfl⟩))
  obtain ⟨sa, _, _, _, e1, _⟩ := Cond.exactly_spec (args := args) (first := s) (o := none) (s := s) (idx := []) (t := .string RX5 q.1) (cls := "java/lang/String") g2
  exact ⟨sa, vk_R.of g1 e1⟩
theorem st_XF (h1 : ∀ w ∈ lw_tbl, w.before args s = true) (h2 : ∀ w ∈ flatC (Jvm.Cond.and given_1 narrow_1), w.before args s = true) : XF (AL s) s := by
  refine ⟨vx_Zqof (h1 _ st_lU) (h1 _ st_iT) (h2 _ st_rU) (fun a ha => Nat.not_le.mpr ha), vx_Zqof (h1 _ st_lN) (h1 _ st_iT) (h2 _ st_rN) (fun a ha => Nat.not_le.mpr ha), st_str h1 h2, fun X hX w hw => ?_⟩
  exact va_Nw.of (st_exT X hX w hw) (h1 w (st_exW w (List.mem_flatMap.mpr ⟨X, hX, hw⟩)))
theorem st_NW (h1 : ∀ w ∈ lw_tbl, w.before args s = true) : NW s := fun w hw => va_Nw.of (st_nwT w hw) (h1 w (st_nw w hw))
theorem st_AO (h1 : ∀ w ∈ lw_tbl, w.before args s = true) : AO3 s := ⟨va_AO.of (h1 _ st_oK), va_AO.of (h1 _ st_oS), va_AO.of (h1 _ st_oT)⟩
theorem st_K (h1 : ∀ w ∈ lw_tbl, w.before args s = true) : ∃ (D : va_G) (cy : Nat → Nat), va_K D vwCl (tyL cy) s := by
  obtain ⟨c0, i0, k0⟩ := u_known (C := RX0) (T := TX0) (N := 4) (n := 4) h1 inX0 (h1 _ st_i0)
  obtain ⟨c1, i1, k1⟩ := u_known (C := RX1) (T := TX1) (N := 2) (n := 2) h1 inX1 (h1 _ st_i1)
  obtain ⟨c3, i3, k3⟩ := u_known (C := RX3) (T := TX3) (N := 4) (n := 4) h1 inX3 (h1 _ st_i3)
  obtain ⟨c4, i4, k4⟩ := u_known (C := RX4) (T := TX4) (N := 5) (n := 5) h1 inX4 (h1 _ st_i4)
  obtain ⟨c5, i5, k5⟩ := u_known (C := RX5) (T := TX5) (N := 11) (n := 11) h1 inX5 (h1 _ st_i5)
  obtain ⟨c6, i6, k6⟩ := u_known (C := RX6) (T := TX6) (N := 27) (n := 27) h1 inX6 (h1 _ st_i6)
  obtain ⟨a0, p0, r0⟩ := st_ar (h1 _ st_aI)
  obtain ⟨a1, p1, r1⟩ := st_ar (h1 _ st_aZ)
  obtain ⟨a2, p2, r2⟩ := st_ar (h1 _ st_aJ)
  obtain ⟨a3, p3, r3⟩ := st_ao (h1 _ st_oK)
  obtain ⟨a4, p4, r4⟩ := st_ao (h1 _ st_oS)
  obtain ⟨a5, p5, r5⟩ := st_ao (h1 _ st_oT)
  refine ⟨(fun k => if k = 0 then c0 else if k = 1 then c1 else if k = 2 then c3 else if k = 3 then c4 else if k = 4 then c5 else c6, fun k => if k = 0 then i0 else if k = 1 then i1 else if k = 2 then i3 else if k = 3 then i4 else if k = 4 then i5 else i6), fun k => if k = 0 then a0 else if k = 1 then a1 else if k = 2 then a2 else if k = 3 then a3 else if k = 4 then a4 else a5, fun k q hq => ?_, fun k q hq => ?_⟩
  · have hk : k < 6 := (List.getElem?_eq_some_iff.mp hq).1
    rcases (show k = 0 ∨ k = 1 ∨ k = 2 ∨ k = 3 ∨ k = 4 ∨ k = 5 by omega) with rfl | rfl | rfl | rfl | rfl | rfl
    · cases hq; exact k0
    · cases hq; exact k1
    · cases hq; exact k3
    · cases hq; exact k4
    · cases hq; exact k5
    · cases hq; exact k6
  · have hk : k < 6 := (List.getElem?_eq_some_iff.mp hq).1
    rcases (show k = 0 ∨ k = 1 ∨ k = 2 ∨ k = 3 ∨ k = 4 ∨ k = 5 by omega) with rfl | rfl | rfl | rfl | rfl | rfl
    · cases hq; exact ⟨p0, r0⟩
    · cases hq; exact ⟨p1, r1⟩
    · cases hq; exact ⟨p2, r2⟩
    · cases hq; exact ⟨p3, r3⟩
    · cases hq; exact ⟨p4, r4⟩
    · cases hq; exact ⟨p5, r5⟩
theorem st_lt {l : Launch} (h : l.flags = flags0) : l.stackTraces = false := by
  unfold Launch.stackTraces
  rw [h]
  decide +kernel
end STW
