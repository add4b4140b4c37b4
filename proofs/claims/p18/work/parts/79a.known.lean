theorem arr_cls {args : Array Value} {s : State} {ty : FieldType} (h : (Cond.arrayClass ty).before args s = true) : ∃ cA : ClassId, ArrOfT s cA ty ∧ s.vm.findClass ("[" ++ ty.toString) = some cA := by
  obtain ⟨c, k, comp, h1, h2, h3⟩ := Cond.arrayClass_spec h
  exact ⟨c, fun n z => ⟨fun k h => (by cases h), k, h2, comp, h3⟩, h1⟩
theorem arr_over {args : Array Value} {s : State} {C : String} (h : (Cond.arrayOver (.object C)).before args s = true) : ∃ cA : ClassId, ArrOfT s cA (.object C) ∧ va_RA s cA (.object C) := by
  obtain ⟨comp, c, k, h1, h2, h3, h4, h5⟩ := Cond.arrayOver_spec h
  exact ⟨c, fun n z => ⟨fun k h => (by cases h), k, h3, comp, h4⟩, k, comp, h3, h4, h1, h5⟩
/-- the classes of the system, the arrays, the nest: what every contract stands on -/
theorem known_start {p : Program} {s : State} {m : MethodId} {meth : Method} {c : Code} {b L : Nat} {xs : Nat → Int32} (C0 : lw_At p s m meth c b L xs) : ∃ (D : va_G) (K : Nat → ClassId), va_K D vwCl (KT K) s ∧ lw_N s := by
  obtain ⟨hx, hb, hr, hml, hown, hts, hX, hbl, hlocks, hgv⟩ := C0
  obtain ⟨c0, iS0, hKn0⟩ := u_known (C := RX0) (T := TX0) (N := 2) (n := 2) hts i_X0 (hts (.instantiable RX0 2) (List.mem_of_getElem? (i := 331) (by decide +kernel)))
  obtain ⟨c1, iS1, hKn1⟩ := u_known (C := RX1) (T := TX1) (N := 8) (n := 8) hts i_X1 (hts (.instantiable RX1 8) (List.mem_of_getElem? (i := 319) (by decide +kernel)))
  obtain ⟨c2, iS2, hKn2⟩ := u_known (C := RX2) (T := TX2) (N := 3) (n := 3) hts i_X2 (hts (.instantiable RX2 3) (List.mem_of_getElem? (i := 368) (by decide +kernel)))
  obtain ⟨c3, iS3, hKn3⟩ := u_known (C := RX3) (T := TX3) (N := 2) (n := 2) hts i_X3 (hts (.instantiable RX3 2) (List.mem_of_getElem? (i := 337) (by decide +kernel)))
  obtain ⟨c4, iS4, hKn4⟩ := u_known (C := RX4) (T := TX4) (N := 5) (n := 5) hts i_X4 (hts (.instantiable RX4 5) (List.mem_of_getElem? (i := 441) (by decide +kernel)))
  obtain ⟨c5, iS5, hKn5⟩ := u_known (C := RX5) (T := TX5) (N := 6) (n := 6) hts i_X5 (hts (.instantiable RX5 6) (List.mem_of_getElem? (i := 414) (by decide +kernel)))
  obtain ⟨c6, iS6, hKn6⟩ := u_known (C := RX6) (T := TX6) (N := 5) (n := 5) hts i_X6 (hts (.instantiable RX6 5) (List.mem_of_getElem? (i := 237) (by decide +kernel)))
  obtain ⟨c7, iS7, hKn7⟩ := u_known (C := RX7) (T := TX7) (N := 4) (n := 4) hts i_X7 (hts (.instantiable RX7 4) (List.mem_of_getElem? (i := 275) (by decide +kernel)))
  obtain ⟨c8, iS8, hKn8⟩ := u_known (C := RX8) (T := TX8) (N := 6) (n := 6) hts i_X8 (hts (.instantiable RX8 6) (List.mem_of_getElem? (i := 243) (by decide +kernel)))
  obtain ⟨c9, iS9, hKn9⟩ := u_known (C := RX9) (T := TX9) (N := 10) (n := 10) hts i_X9 (hts (.instantiable RX9 10) (List.mem_of_getElem? (i := 174) (by decide +kernel)))
  obtain ⟨c10, iS10, hKn10⟩ := u_known (C := RX10) (T := TX10) (N := 1) (n := 1) hts i_X10 (hts (.instantiable RX10 1) (List.mem_of_getElem? (i := 325) (by decide +kernel)))
  obtain ⟨c11, iS11, hKn11⟩ := u_known (C := RX11) (T := TX11) (N := 17) (n := 17) hts i_X11 (hts (.instantiable RX11 17) (List.mem_of_getElem? (i := 166) (by decide +kernel)))
  obtain ⟨c12, iS12, hKn12⟩ := u_known (C := RX12) (T := TX12) (N := 60) (n := 60) hts i_X12 (hts (.instantiable RX12 60) (List.mem_of_getElem? (i := 1141) (by decide +kernel)))
  obtain ⟨k0, a0, b0⟩ := arr_cls (hts (.arrayClass .int) (List.mem_of_getElem? (i := 234) (by decide +kernel)))
  obtain ⟨k1, a1, b1⟩ := arr_cls (hts (.arrayClass .boolean) (List.mem_of_getElem? (i := 273) (by decide +kernel)))
  obtain ⟨k2, a2, b2⟩ := arr_cls (hts (.arrayClass .long) (List.mem_of_getElem? (i := 1347) (by decide +kernel)))
  obtain ⟨k3, a3, b3⟩ := arr_over (hts (.arrayOver (.object "SmokeTune$Town")) (List.mem_of_getElem? (i := 235) (by decide +kernel)))
  obtain ⟨k4, a4, b4⟩ := arr_over (hts (.arrayOver (.object "SmokeTune$Script")) (List.mem_of_getElem? (i := 180) (by decide +kernel)))
  refine ⟨(fun k => ([c0, c1, c2, c3, c4, c5, c6, c7, c8, c9, c10, c11, c12] : List ClassId).getD k c0, fun k => ([iS0, iS1, iS2, iS3, iS4, iS5, iS6, iS7, iS8, iS9, iS10, iS11, iS12] : List (Nat → Nat)).getD k iS0), fun k => ([k0, k1, k2, k3, k4] : List ClassId).getD k k0, ⟨?_, ?_⟩, ?_⟩
  · intro k q hq
    match k, hq with
    | 0, hq => cases hq; exact hKn0
    | 1, hq => cases hq; exact hKn1
    | 2, hq => cases hq; exact hKn2
    | 3, hq => cases hq; exact hKn3
    | 4, hq => cases hq; exact hKn4
    | 5, hq => cases hq; exact hKn5
    | 6, hq => cases hq; exact hKn6
    | 7, hq => cases hq; exact hKn7
    | 8, hq => cases hq; exact hKn8
    | 9, hq => cases hq; exact hKn9
    | 10, hq => cases hq; exact hKn10
    | 11, hq => cases hq; exact hKn11
    | 12, hq => cases hq; exact hKn12
    | k + 13, hq => simp [vwCl] at hq
  · intro k q hq
    match k, hq with
    | 0, hq => cases hq; exact ⟨a0, b0⟩
    | 1, hq => cases hq; exact ⟨a1, b1⟩
    | 2, hq => cases hq; exact ⟨a2, b2⟩
    | 3, hq => cases hq; exact ⟨a3, b3⟩
    | 4, hq => cases hq; exact ⟨a4, b4⟩
    | k + 5, hq => simp [KT] at hq
  · exact ⟨fun w hw => va_Nw.of (by have := List.all_eq_true.mp nst_all w hw; cases w <;> first | rfl | exact absurd this (by simp [isNest])) (hts w (nst_in w hw)), va_AO.of (hts (.arrayOver (.object "SmokeTune$Town")) (List.mem_of_getElem? (i := 235) (by decide +kernel))), va_AO.of (hts (.arrayOver (.object "SmokeTune$Script")) (List.mem_of_getElem? (i := 180) (by decide +kernel)))⟩
