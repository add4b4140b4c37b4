theorem arr_cls {args : Array Value} {s : State} {ty : FieldType} (h : (Cond.arrayClass ty).before args s = true) : ∃ cA : ClassId, ArrOfT s cA ty ∧ s.vm.findClass ("[" ++ ty.toString) = some cA := by
  obtain ⟨c, k, comp, h1, h2, h3⟩ := Cond.arrayClass_spec h
  exact ⟨c, fun n z => ⟨fun k h => (by cases h), k, h2, comp, h3⟩, h1⟩
theorem arr_over {args : Array Value} {s : State} {C : String} (h : (Cond.arrayOver (.object C)).before args s = true) : ∃ cA : ClassId, ArrOfT s cA (.object C) ∧ va_RA s cA (.object C) := by
  obtain ⟨comp, c, k, h1, h2, h3, h4, h5⟩ := Cond.arrayOver_spec h
  exact ⟨c, fun n z => ⟨fun k h => (by cases h), k, h3, comp, h4⟩, k, comp, h3, h4, h1, h5⟩
abbrev tmS : Nat → Term := fun i => match i with | 0 => .string "SmokeTune$Reader" 63 | _ => .string "SmokeTune$Reader" 65
abbrev lnS : List Nat := [23, 19]
abbrev byS : List (List Int32) := [[98, 117, 114, 110, 115, 32, 102, 108, 97, 114, 101, 115, 32, 102, 105, 110, 101, 115, 32, 98, 97, 114, 115], [115, 116, 111, 107, 101, 32, 100, 97, 109, 112, 32, 98, 117, 121, 32, 112, 97, 115, 115]]
set_option maxHeartbeats 4000000 in
set_option maxRecDepth 100000 in
theorem gl_start {p : Program} {s : State} {m : MethodId} {meth : Method} {c : Code} {b L : Nat} {xs : Nat → Int32} (C0 : lw_At p s m meth c b L xs) {A : Nat → Prop} (hA : ∀ a : Nat, a < s.heap.size → ¬ A a) : ∃ g : Nat → Nat, Gl g A s s.heap := by
  obtain ⟨hx, hb, hr, hml, hown, hts, hX, hbl, hlocks, hgv⟩ := C0
  have hf := flat_of_before _ hgv
  obtain ⟨t0, ht0, hT0⟩ := va_Tof (args := #[Value.ref b]) (s := s) (tm := .static "SmokeTune" "TERM_LEAST" "[I") (ty := .int) (N := 6) (f := fun j => .int (tl0 j)) (A := A) (by decide) (hf (Cond.arrayOf (.static "SmokeTune" "TERM_LEAST" "[I") .int) (by decide +kernel)) (va_eqt (hf (Cond.eq (.length (.static "SmokeTune" "TERM_LEAST" "[I")) (.int 6)) (by decide +kernel))) (fun j hj => by
    rcases (show j = 0 ∨ j = 1 ∨ j = 2 ∨ j = 3 ∨ j = 4 ∨ j = 5 by omega) with rfl | rfl | rfl | rfl | rfl | rfl
    · exact va_eqt (z := 0) (hf (Cond.eq (.elem (.static "SmokeTune" "TERM_LEAST" "[I") (.int 0)) (.int 0)) (by decide +kernel))
    · exact va_eqt (z := 0) (hf (Cond.eq (.elem (.static "SmokeTune" "TERM_LEAST" "[I") (.int 1)) (.int 0)) (by decide +kernel))
    · exact va_eqt (z := 1) (hf (Cond.eq (.elem (.static "SmokeTune" "TERM_LEAST" "[I") (.int 2)) (.int 1)) (by decide +kernel))
    · exact va_eqt (z := 1) (hf (Cond.eq (.elem (.static "SmokeTune" "TERM_LEAST" "[I") (.int 3)) (.int 1)) (by decide +kernel))
    · exact va_eqt (z := 0) (hf (Cond.eq (.elem (.static "SmokeTune" "TERM_LEAST" "[I") (.int 4)) (.int 0)) (by decide +kernel))
    · exact va_eqt (z := 0) (hf (Cond.eq (.elem (.static "SmokeTune" "TERM_LEAST" "[I") (.int 5)) (.int 0)) (by decide +kernel))
    ) hA
  obtain ⟨t1, ht1, hT1⟩ := va_Tof (args := #[Value.ref b]) (s := s) (tm := .static "SmokeTune" "TERM_MOST" "[I") (ty := .int) (N := 6) (f := fun j => .int (tl1 j)) (A := A) (by decide) (hf (Cond.arrayOf (.static "SmokeTune" "TERM_MOST" "[I") .int) (by decide +kernel)) (va_eqt (hf (Cond.eq (.length (.static "SmokeTune" "TERM_MOST" "[I")) (.int 6)) (by decide +kernel))) (fun j hj => by
    rcases (show j = 0 ∨ j = 1 ∨ j = 2 ∨ j = 3 ∨ j = 4 ∨ j = 5 by omega) with rfl | rfl | rfl | rfl | rfl | rfl
    · exact va_eqt (z := 23) (hf (Cond.eq (.elem (.static "SmokeTune" "TERM_MOST" "[I") (.int 0)) (.int 23)) (by decide +kernel))
    · exact va_eqt (z := 999) (hf (Cond.eq (.elem (.static "SmokeTune" "TERM_MOST" "[I") (.int 1)) (.int 999)) (by decide +kernel))
    · exact va_eqt (z := 20) (hf (Cond.eq (.elem (.static "SmokeTune" "TERM_MOST" "[I") (.int 2)) (.int 20)) (by decide +kernel))
    · exact va_eqt (z := 20) (hf (Cond.eq (.elem (.static "SmokeTune" "TERM_MOST" "[I") (.int 3)) (.int 20)) (by decide +kernel))
    · exact va_eqt (z := 10) (hf (Cond.eq (.elem (.static "SmokeTune" "TERM_MOST" "[I") (.int 4)) (.int 10)) (by decide +kernel))
    · exact va_eqt (z := 9) (hf (Cond.eq (.elem (.static "SmokeTune" "TERM_MOST" "[I") (.int 5)) (.int 9)) (by decide +kernel))
    ) hA
  obtain ⟨adK, adV, hSS, hev⟩ := vk_Sof (args := #[Value.ref b]) (s := s) (N := 2) (tm := tmS) (len := lnS) (byt := byS) (A := A) (fun i hi => by rcases (show i = 0 ∨ i = 1 by omega) with rfl | rfl <;> decide)
    (fun i hi => by
      rcases (show i = 0 ∨ i = 1 by omega) with rfl | rfl
      · exact hf (Cond.exactly (.string "SmokeTune$Reader" 63) "java/lang/String") (by decide +kernel)
      · exact hf (Cond.exactly (.string "SmokeTune$Reader" 65) "java/lang/String") (by decide +kernel)
      )
    (fun i hi => by
      rcases (show i = 0 ∨ i = 1 by omega) with rfl | rfl
      · exact hf (Cond.eq (.field (.string "SmokeTune$Reader" 63) "java/lang/String" "coder" "B") (.int 0)) (by decide +kernel)
      · exact hf (Cond.eq (.field (.string "SmokeTune$Reader" 65) "java/lang/String" "coder" "B") (.int 0)) (by decide +kernel)
      )
    (fun i hi => by
      rcases (show i = 0 ∨ i = 1 by omega) with rfl | rfl
      · exact hf (Cond.arrayOf (.field (.string "SmokeTune$Reader" 63) "java/lang/String" "value" "[B") .byte) (by decide +kernel)
      · exact hf (Cond.arrayOf (.field (.string "SmokeTune$Reader" 65) "java/lang/String" "value" "[B") .byte) (by decide +kernel)
      )
    (fun i hi => by
      rcases (show i = 0 ∨ i = 1 by omega) with rfl | rfl
      · exact hf (Cond.eq (.length (.field (.string "SmokeTune$Reader" 63) "java/lang/String" "value" "[B")) (.int 23)) (by decide +kernel)
      · exact hf (Cond.eq (.length (.field (.string "SmokeTune$Reader" 65) "java/lang/String" "value" "[B")) (.int 19)) (by decide +kernel)
      )
    (fun i hi => by
      rcases (show i = 0 ∨ i = 1 by omega) with rfl | rfl
      · intro j hj
        have hj : j < 23 := hj
        rcases (show j = 0 ∨ j = 1 ∨ j = 2 ∨ j = 3 ∨ j = 4 ∨ j = 5 ∨ j = 6 ∨ j = 7 ∨ j = 8 ∨ j = 9 ∨ j = 10 ∨ j = 11 ∨ j = 12 ∨ j = 13 ∨ j = 14 ∨ j = 15 ∨ j = 16 ∨ j = 17 ∨ j = 18 ∨ j = 19 ∨ j = 20 ∨ j = 21 ∨ j = 22 by omega) with rfl | rfl | rfl | rfl | rfl | rfl | rfl | rfl | rfl | rfl | rfl | rfl | rfl | rfl | rfl | rfl | rfl | rfl | rfl | rfl | rfl | rfl | rfl
        · exact hf (Cond.eq (.elem (.field (.string "SmokeTune$Reader" 63) "java/lang/String" "value" "[B") (.int 0)) (.int 98)) (by decide +kernel)
        · exact hf (Cond.eq (.elem (.field (.string "SmokeTune$Reader" 63) "java/lang/String" "value" "[B") (.int 1)) (.int 117)) (by decide +kernel)
        · exact hf (Cond.eq (.elem (.field (.string "SmokeTune$Reader" 63) "java/lang/String" "value" "[B") (.int 2)) (.int 114)) (by decide +kernel)
        · exact hf (Cond.eq (.elem (.field (.string "SmokeTune$Reader" 63) "java/lang/String" "value" "[B") (.int 3)) (.int 110)) (by decide +kernel)
        · exact hf (Cond.eq (.elem (.field (.string "SmokeTune$Reader" 63) "java/lang/String" "value" "[B") (.int 4)) (.int 115)) (by decide +kernel)
        · exact hf (Cond.eq (.elem (.field (.string "SmokeTune$Reader" 63) "java/lang/String" "value" "[B") (.int 5)) (.int 32)) (by decide +kernel)
        · exact hf (Cond.eq (.elem (.field (.string "SmokeTune$Reader" 63) "java/lang/String" "value" "[B") (.int 6)) (.int 102)) (by decide +kernel)
        · exact hf (Cond.eq (.elem (.field (.string "SmokeTune$Reader" 63) "java/lang/String" "value" "[B") (.int 7)) (.int 108)) (by decide +kernel)
        · exact hf (Cond.eq (.elem (.field (.string "SmokeTune$Reader" 63) "java/lang/String" "value" "[B") (.int 8)) (.int 97)) (by decide +kernel)
        · exact hf (Cond.eq (.elem (.field (.string "SmokeTune$Reader" 63) "java/lang/String" "value" "[B") (.int 9)) (.int 114)) (by decide +kernel)
        · exact hf (Cond.eq (.elem (.field (.string "SmokeTune$Reader" 63) "java/lang/String" "value" "[B") (.int 10)) (.int 101)) (by decide +kernel)
        · exact hf (Cond.eq (.elem (.field (.string "SmokeTune$Reader" 63) "java/lang/String" "value" "[B") (.int 11)) (.int 115)) (by decide +kernel)
        · exact hf (Cond.eq (.elem (.field (.string "SmokeTune$Reader" 63) "java/lang/String" "value" "[B") (.int 12)) (.int 32)) (by decide +kernel)
        · exact hf (Cond.eq (.elem (.field (.string "SmokeTune$Reader" 63) "java/lang/String" "value" "[B") (.int 13)) (.int 102)) (by decide +kernel)
        · exact hf (Cond.eq (.elem (.field (.string "SmokeTune$Reader" 63) "java/lang/String" "value" "[B") (.int 14)) (.int 105)) (by decide +kernel)
        · exact hf (Cond.eq (.elem (.field (.string "SmokeTune$Reader" 63) "java/lang/String" "value" "[B") (.int 15)) (.int 110)) (by decide +kernel)
        · exact hf (Cond.eq (.elem (.field (.string "SmokeTune$Reader" 63) "java/lang/String" "value" "[B") (.int 16)) (.int 101)) (by decide +kernel)
        · exact hf (Cond.eq (.elem (.field (.string "SmokeTune$Reader" 63) "java/lang/String" "value" "[B") (.int 17)) (.int 115)) (by decide +kernel)
        · exact hf (Cond.eq (.elem (.field (.string "SmokeTune$Reader" 63) "java/lang/String" "value" "[B") (.int 18)) (.int 32)) (by decide +kernel)
        · exact hf (Cond.eq (.elem (.field (.string "SmokeTune$Reader" 63) "java/lang/String" "value" "[B") (.int 19)) (.int 98)) (by decide +kernel)
        · exact hf (Cond.eq (.elem (.field (.string "SmokeTune$Reader" 63) "java/lang/String" "value" "[B") (.int 20)) (.int 97)) (by decide +kernel)
        · exact hf (Cond.eq (.elem (.field (.string "SmokeTune$Reader" 63) "java/lang/String" "value" "[B") (.int 21)) (.int 114)) (by decide +kernel)
        · exact hf (Cond.eq (.elem (.field (.string "SmokeTune$Reader" 63) "java/lang/String" "value" "[B") (.int 22)) (.int 115)) (by decide +kernel)
      · intro j hj
        have hj : j < 19 := hj
        rcases (show j = 0 ∨ j = 1 ∨ j = 2 ∨ j = 3 ∨ j = 4 ∨ j = 5 ∨ j = 6 ∨ j = 7 ∨ j = 8 ∨ j = 9 ∨ j = 10 ∨ j = 11 ∨ j = 12 ∨ j = 13 ∨ j = 14 ∨ j = 15 ∨ j = 16 ∨ j = 17 ∨ j = 18 by omega) with rfl | rfl | rfl | rfl | rfl | rfl | rfl | rfl | rfl | rfl | rfl | rfl | rfl | rfl | rfl | rfl | rfl | rfl | rfl
        · exact hf (Cond.eq (.elem (.field (.string "SmokeTune$Reader" 65) "java/lang/String" "value" "[B") (.int 0)) (.int 115)) (by decide +kernel)
        · exact hf (Cond.eq (.elem (.field (.string "SmokeTune$Reader" 65) "java/lang/String" "value" "[B") (.int 1)) (.int 116)) (by decide +kernel)
        · exact hf (Cond.eq (.elem (.field (.string "SmokeTune$Reader" 65) "java/lang/String" "value" "[B") (.int 2)) (.int 111)) (by decide +kernel)
        · exact hf (Cond.eq (.elem (.field (.string "SmokeTune$Reader" 65) "java/lang/String" "value" "[B") (.int 3)) (.int 107)) (by decide +kernel)
        · exact hf (Cond.eq (.elem (.field (.string "SmokeTune$Reader" 65) "java/lang/String" "value" "[B") (.int 4)) (.int 101)) (by decide +kernel)
        · exact hf (Cond.eq (.elem (.field (.string "SmokeTune$Reader" 65) "java/lang/String" "value" "[B") (.int 5)) (.int 32)) (by decide +kernel)
        · exact hf (Cond.eq (.elem (.field (.string "SmokeTune$Reader" 65) "java/lang/String" "value" "[B") (.int 6)) (.int 100)) (by decide +kernel)
        · exact hf (Cond.eq (.elem (.field (.string "SmokeTune$Reader" 65) "java/lang/String" "value" "[B") (.int 7)) (.int 97)) (by decide +kernel)
        · exact hf (Cond.eq (.elem (.field (.string "SmokeTune$Reader" 65) "java/lang/String" "value" "[B") (.int 8)) (.int 109)) (by decide +kernel)
        · exact hf (Cond.eq (.elem (.field (.string "SmokeTune$Reader" 65) "java/lang/String" "value" "[B") (.int 9)) (.int 112)) (by decide +kernel)
        · exact hf (Cond.eq (.elem (.field (.string "SmokeTune$Reader" 65) "java/lang/String" "value" "[B") (.int 10)) (.int 32)) (by decide +kernel)
        · exact hf (Cond.eq (.elem (.field (.string "SmokeTune$Reader" 65) "java/lang/String" "value" "[B") (.int 11)) (.int 98)) (by decide +kernel)
        · exact hf (Cond.eq (.elem (.field (.string "SmokeTune$Reader" 65) "java/lang/String" "value" "[B") (.int 12)) (.int 117)) (by decide +kernel)
        · exact hf (Cond.eq (.elem (.field (.string "SmokeTune$Reader" 65) "java/lang/String" "value" "[B") (.int 13)) (.int 121)) (by decide +kernel)
        · exact hf (Cond.eq (.elem (.field (.string "SmokeTune$Reader" 65) "java/lang/String" "value" "[B") (.int 14)) (.int 32)) (by decide +kernel)
        · exact hf (Cond.eq (.elem (.field (.string "SmokeTune$Reader" 65) "java/lang/String" "value" "[B") (.int 15)) (.int 112)) (by decide +kernel)
        · exact hf (Cond.eq (.elem (.field (.string "SmokeTune$Reader" 65) "java/lang/String" "value" "[B") (.int 16)) (.int 97)) (by decide +kernel)
        · exact hf (Cond.eq (.elem (.field (.string "SmokeTune$Reader" 65) "java/lang/String" "value" "[B") (.int 17)) (.int 115)) (by decide +kernel)
        · exact hf (Cond.eq (.elem (.field (.string "SmokeTune$Reader" 65) "java/lang/String" "value" "[B") (.int 18)) (.int 115)) (by decide +kernel)
      )
    (fun i j hi hj hij => by
      rcases (show (i = 0 ∧ j = 1) ∨ (i = 1 ∧ j = 0) by omega) with ⟨rfl, rfl⟩ | ⟨rfl, rfl⟩
      · first | exact Or.inl (hf (Cond.not (Cond.eq (.string "SmokeTune$Reader" 63) (.string "SmokeTune$Reader" 65))) (by decide +kernel)) | exact Or.inr (hf (Cond.not (Cond.eq (.string "SmokeTune$Reader" 65) (.string "SmokeTune$Reader" 63))) (by decide +kernel))
      · first | exact Or.inl (hf (Cond.not (Cond.eq (.string "SmokeTune$Reader" 65) (.string "SmokeTune$Reader" 63))) (by decide +kernel)) | exact Or.inr (hf (Cond.not (Cond.eq (.string "SmokeTune$Reader" 63) (.string "SmokeTune$Reader" 65))) (by decide +kernel))
      ) hA
  refine ⟨fun i => ([t0, t1, adK 0, adV 0, adK 1, adV 1] : List Nat).getD i 0, ⟨va_Zref (hts (.laysStatic "SmokeTune" "TERM_LEAST" "[I") (List.mem_of_getElem? (i := 626) (by decide +kernel))) (hts (.initialized "SmokeTune") (List.mem_of_getElem? (i := 145) (by decide +kernel))) ht0 hA, hT0, va_Zref (hts (.laysStatic "SmokeTune" "TERM_MOST" "[I") (List.mem_of_getElem? (i := 628) (by decide +kernel))) (hts (.initialized "SmokeTune") (List.mem_of_getElem? (i := 145) (by decide +kernel))) ht1 hA, hT1⟩, ⟨va_Zof (hts (.laysStatic "java/lang/String" "COMPACT_STRINGS" "Z") (List.mem_of_getElem? (i := 686) (by decide +kernel))) (hts (.initialized "java/lang/String") (List.mem_of_getElem? (i := 159) (by decide +kernel))) (va_eqi (hf (Cond.eq (.static "java/lang/String" "COMPACT_STRINGS" "Z") (.int 1)) (by decide +kernel))) hA, va_Zqof (hts (.laysStatic "jdk/internal/util/Preconditions" "SIOOBE_FORMATTER" "Ljava/util/function/BiFunction;") (List.mem_of_getElem? (i := 702) (by decide +kernel))) (hts (.initialized "jdk/internal/util/Preconditions") (List.mem_of_getElem? (i := 161) (by decide +kernel))) (hf (Cond.isRef (.static "jdk/internal/util/Preconditions" SIO SIOd)) (by decide +kernel)) hA⟩, ⟨vk_R.of (A := #[Value.ref b]) (hts (.stringRef "SmokeTune$Reader" 63 "burns flares fines bars") (List.mem_of_getElem? (i := 671) (by decide +kernel))) (hev 0 (by decide)), hSS.1 0 (by decide)⟩, ⟨vk_R.of (A := #[Value.ref b]) (hts (.stringRef "SmokeTune$Reader" 65 "stoke damp buy pass") (List.mem_of_getElem? (i := 672) (by decide +kernel))) (hev 1 (by decide)), hSS.1 1 (by decide)⟩⟩
/-- the classes of the system, the arrays, the nest: what every contract stands on -/
theorem known_start {p : Program} {s : State} {m : MethodId} {meth : Method} {c : Code} {b L : Nat} {xs : Nat → Int32} (C0 : lw_At p s m meth c b L xs) : ∃ (D : va_G) (K : Nat → ClassId), va_K D vwCl (KT K) s ∧ lw_N s := by
  obtain ⟨hx, hb, hr, hml, hown, hts, hX, hbl, hlocks, hgv⟩ := C0
  obtain ⟨c0, iS0, hKn0⟩ := u_known (C := RX0) (T := TX0) (N := 2) (n := 2) hts i_X0 (hts (.instantiable RX0 2) (List.mem_of_getElem? (i := 331) (by decide +kernel)))
  obtain ⟨c1, iS1, hKn1⟩ := u_known (C := RX1) (T := TX1) (N := 8) (n := 8) hts i_X1 (hts (.instantiable RX1 8) (List.mem_of_getElem? (i := 319) (by decide +kernel)))
  obtain ⟨c2, iS2, hKn2⟩ := u_known (C := RX2) (T := TX2) (N := 3) (n := 3) hts i_X2 (hts (.instantiable RX2 3) (List.mem_of_getElem? (i := 368) (by decide +kernel)))
  obtain ⟨c3, iS3, hKn3⟩ := u_known (C := RX3) (T := TX3) (N := 2) (n := 2) hts i_X3 (hts (.instantiable RX3 2) (List.mem_of_getElem? (i := 337) (by decide +kernel)))
  obtain ⟨c4, iS4, hKn4⟩ := u_known (C := RX4) (T := TX4) (N := 5) (n := 5) hts i_X4 (hts (.instantiable RX4 5) (List.mem_of_getElem? (i := 441) (by decide +kernel)))
  obtain ⟨c5, iS5, hKn5⟩ := u_known (C := RX5) (T := TX5) (N := 6) (n := 6) hts i_X5 (hts (.instantiable RX5 6) (List.mem_of_getElem? (i := 414) (by decide +kernel)))
  obtain ⟨c6, iS6, hKn6⟩ := u_known (C := RX6) (T := TX6) (N := 5) (n := 5) hts i_X6 (hts (.instantiable RX6 5) (List.mem_of_getElem? (i := 237) (by decide +kernel)))
  obtain ⟨c7, iS7, hKn7⟩ := u_known (C := RX7) (T := TX7) (N := 4) (n := 4) hts i_X7 (hts (.instantiable RX7 4) (List.mem_of_getElem? (i := 275) (by decide +kernel)))
  obtain ⟨c8, iS8, hKn8⟩ := u_known (C := RX8) (T := TX8) (N := 6) (n := 6) hts i_X8 (hts (.instantiable RX8 6) (List.mem_of_getElem? (i := 243) (by decide +kernel)))
  obtain ⟨c9, iS9, hKn9⟩ := u_known (C := RX9) (T := TX9) (N := 10) (n := 10) hts i_X9 (hts (.instantiable RX9 10) (List.mem_of_getElem? (i := 174) (by decide +kernel)))
  obtain ⟨c10, iS10, hKn10⟩ := u_known (C := RX10) (T := TX10) (N := 1) (n := 1) hts i_X10 (hts (.instantiable RX10 1) (List.mem_of_getElem? (i := 325) (by decide +kernel)))
  obtain ⟨c11, iS11, hKn11⟩ := u_known (C := RX11) (T := TX11) (N := 17) (n := 17) hts i_X11 (hts (.instantiable RX11 17) (List.mem_of_getElem? (i := 166) (by decide +kernel)))
  obtain ⟨c12, iS12, hKn12⟩ := u_known (C := RX12) (T := TX12) (N := 60) (n := 60) hts i_X12 (hts (.instantiable RX12 60) (List.mem_of_getElem? (i := 1141) (by decide +kernel)))
  obtain ⟨k0, a0, b0⟩ := arr_cls (hts (.arrayClass .int) (List.mem_of_getElem? (i := 234) (by decide +kernel)))
  obtain ⟨k1, a1, b1⟩ := arr_cls (hts (.arrayClass .boolean) (List.mem_of_getElem? (i := 273) (by decide +kernel)))
  obtain ⟨k2, a2, b2⟩ := arr_cls (hts (.arrayClass .long) (List.mem_of_getElem? (i := 1347) (by decide +kernel)))
  obtain ⟨k3, a3, b3⟩ := arr_over (hts (.arrayOver (.object "SmokeTune$Town")) (List.mem_of_getElem? (i := 235) (by decide +kernel)))
  obtain ⟨k4, a4, b4⟩ := arr_over (hts (.arrayOver (.object "SmokeTune$Script")) (List.mem_of_getElem? (i := 180) (by decide +kernel)))
  refine ⟨(fun k => ([c0, c1, c2, c3, c4, c5, c6, c7, c8, c9, c10, c11, c12] : List ClassId).getD k c0, fun k => ([iS0, iS1, iS2, iS3, iS4, iS5, iS6, iS7, iS8, iS9, iS10, iS11, iS12] : List (Nat → Nat)).getD k iS0), fun k => ([k0, k1, k2, k3, k4] : List ClassId).getD k k0, ⟨?_, ?_⟩, ?_⟩
  · intro k q hq
    match k, hq with
    | 0, hq => cases hq; exact hKn0
    | 1, hq => cases hq; exact hKn1
    | 2, hq => cases hq; exact hKn2
    | 3, hq => cases hq; exact hKn3
    | 4, hq => cases hq; exact hKn4
    | 5, hq => cases hq; exact hKn5
    | 6, hq => cases hq; exact hKn6
    | 7, hq => cases hq; exact hKn7
    | 8, hq => cases hq; exact hKn8
    | 9, hq => cases hq; exact hKn9
    | 10, hq => cases hq; exact hKn10
    | 11, hq => cases hq; exact hKn11
    | 12, hq => cases hq; exact hKn12
    | k + 13, hq => simp [vwCl] at hq
  · intro k q hq
    match k, hq with
    | 0, hq => cases hq; exact ⟨a0, b0⟩
    | 1, hq => cases hq; exact ⟨a1, b1⟩
    | 2, hq => cases hq; exact ⟨a2, b2⟩
    | 3, hq => cases hq; exact ⟨a3, b3⟩
    | 4, hq => cases hq; exact ⟨a4, b4⟩
    | k + 5, hq => simp [KT] at hq
  · exact ⟨fun w hw => va_Nw.of (by have := List.all_eq_true.mp nst_all w hw; cases w <;> first | rfl | exact absurd this (by simp [isNest])) (hts w (nst_in w hw)), va_AO.of (hts (.arrayOver (.object "SmokeTune$Town")) (List.mem_of_getElem? (i := 235) (by decide +kernel))), va_AO.of (hts (.arrayOver (.object "SmokeTune$Script")) (List.mem_of_getElem? (i := 180) (by decide +kernel)))⟩
