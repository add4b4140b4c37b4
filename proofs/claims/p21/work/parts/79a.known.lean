section
theorem arr_cls {args : Array Value} {s : State} {ty : FieldType} (h : (Cond.arrayClass ty).before args s = true) : ∃ cA : ClassId, ArrOfT s cA ty ∧ s.vm.findClass ("[" ++ ty.toString) = some cA := by
  obtain ⟨c, k, comp, h1, h2, h3⟩ := Cond.arrayClass_spec h
  exact ⟨c, fun n z => ⟨fun k h => (by cases h), k, h2, comp, h3⟩, h1⟩
theorem arr_over {args : Array Value} {s : State} {C : String} (h : (Cond.arrayOver (.object C)).before args s = true) : ∃ cA : ClassId, ArrOfT s cA (.object C) ∧ va_RA s cA (.object C) := by
  obtain ⟨comp, c, k, h1, h2, h3, h4, h5⟩ := Cond.arrayOver_spec h
  exact ⟨c, fun n z => ⟨fun k h => (by cases h), k, h3, comp, h4⟩, k, comp, h3, h4, h1, h5⟩
/-- the classes of the system, the arrays, the nest: what every contract stands on -/
theorem known_start {p : Program} {s : State} {m : MethodId} {meth : Method} {c : Code} {b L : Nat} {xs : Nat → Int32} (C0 : lw_At p s m meth c b L xs) : ∃ (D : va_G) (K : Nat → ClassId), va_K D vwCl (KT K) s ∧ lw_N s := by
  obtain ⟨hx, hb, hr, hml, hown, hts, hX, hbl, hlocks, hgv⟩ := C0
  obtain ⟨c0, iS0, hKn0⟩ := u_known (C := RX0) (T := TX0) (N := 2) (n := 2) hts i_X0 (hts (.instantiable RX0 2) (List.mem_of_getElem? (i := 331) (by decide +kernel)))
  obtain ⟨c1, iS1, hKn1⟩ := u_known (C := RX1) (T := TX1) (N := 8) (n := 8) hts i_X1 (hts (.instantiable RX1 8) (List.mem_of_getElem? (i := 319) (by decide +kernel)))
  obtain ⟨c2, iS2, hKn2⟩ := u_known (C := RX2) (T := TX2) (N := 3) (n := 3) hts i_X2 (hts (.instantiable RX2 3) (List.mem_of_getElem? (i := 368) (by decide +kernel)))
  obtain ⟨c3, iS3, hKn3⟩ := u_known (C := RX3) (T := TX3) (N := 2) (n := 2) hts i_X3 (hts (.instantiable RX3 2) (List.mem_of_getElem? (i := 337) (by decide +kernel)))
  obtain ⟨c4, iS4, hKn4⟩ := u_known (C := RX4) (T := TX4) (N := 5) (n := 5) hts i_X4 (hts (.instantiable RX4 5) (List.mem_of_getElem? (i := 441) (by decide +kernel)))
  obtain ⟨c5, iS5, hKn5⟩ := u_known (C := RX5) (T := TX5) (N := 6) (n := 6) hts i_X5 (hts (.instantiable RX5 6) (List.mem_of_getElem? (i := 414) (by decide +kernel)))
  obtain ⟨c6, iS6, hKn6⟩ := u_known (C := RX6) (T := TX6) (N := 5) (n := 5) hts i_X6 (hts (.instantiable RX6 5) (List.mem_of_getElem? (i := 237) (by decide +kernel)))
  obtain ⟨c7, iS7, hKn7⟩ := u_known (C := RX7) (T := TX7) (N := 4) (n := 4) hts i_X7 (hts (.instantiable RX7 4) (List.mem_of_getElem? (i := 275) (by decide +kernel)))
  obtain ⟨c8, iS8, hKn8⟩ := u_known (C := RX8) (T := TX8) (N := 6) (n := 6) hts i_X8 (hts (.instantiable RX8 6) (List.mem_of_getElem? (i := 243) (by decide +kernel)))
  obtain ⟨c9, iS9, hKn9⟩ := u_known (C := RX9) (T := TX9) (N := 10) (n := 10) hts i_X9 (hts (.instantiable RX9 10) (List.mem_of_getElem? (i := 174) (by decide +kernel)))
  obtain ⟨c10, iS10, hKn10⟩ := u_known (C := RX10) (T := TX10) (N := 1) (n := 1) hts i_X10 (hts (.instantiable RX10 1) (List.mem_of_getElem? (i := 325) (by decide +kernel)))
  obtain ⟨c11, iS11, hKn11⟩ := u_known (C := RX11) (T := TX11) (N := 17) (n := 17) hts i_X11 (hts (.instantiable RX11 17) (List.mem_of_getElem? (i := 166) (by decide +kernel)))
  obtain ⟨c12, iS12, hKn12⟩ := u_known (C := RX12) (T := TX12) (N := 60) (n := 60) hts i_X12 (hts (.instantiable RX12 60) (List.mem_of_getElem? (i := 1141) (by decide +kernel)))
  obtain ⟨k0, a0, b0⟩ := arr_cls (hts (.arrayClass .int) (List.mem_of_getElem? (i := 234) (by decide +kernel)))
  obtain ⟨k1, a1, b1⟩ := arr_cls (hts (.arrayClass .boolean) (List.mem_of_getElem? (i := 273) (by decide +kernel)))
  obtain ⟨k2, a2, b2⟩ := arr_cls (hts (.arrayClass .long) (List.mem_of_getElem? (i := 1347) (by decide +kernel)))
  obtain ⟨k3, a3, b3⟩ := arr_over (hts (.arrayOver (.object "SmokeTune$Town")) (List.mem_of_getElem? (i := 235) (by decide +kernel)))
  obtain ⟨k4, a4, b4⟩ := arr_over (hts (.arrayOver (.object "SmokeTune$Script")) (List.mem_of_getElem? (i := 180) (by decide +kernel)))
  refine ⟨(fun k => ([c0, c1, c2, c3, c4, c5, c6, c7, c8, c9, c10, c11, c12] : List ClassId).getD k c0, fun k => ([iS0, iS1, iS2, iS3, iS4, iS5, iS6, iS7, iS8, iS9, iS10, iS11, iS12] : List (Nat → Nat)).getD k iS0), fun k => ([k0, k1, k2, k3, k4] : List ClassId).getD k k0, ⟨?_, ?_⟩, ?_⟩
  · intro k q hq
    match k, hq with
    | 0, hq => cases hq; exact hKn0
    | 1, hq => cases hq; exact hKn1
    | 2, hq => cases hq; exact hKn2
    | 3, hq => cases hq; exact hKn3
    | 4, hq => cases hq; exact hKn4
    | 5, hq => cases hq; exact hKn5
    | 6, hq => cases hq; exact hKn6
    | 7, hq => cases hq; exact hKn7
    | 8, hq => cases hq; exact hKn8
    | 9, hq => cases hq; exact hKn9
    | 10, hq => cases hq; exact hKn10
    | 11, hq => cases hq; exact hKn11
    | 12, hq => cases hq; exact hKn12
    | k + 13, hq => simp [vwCl] at hq
  · intro k q hq
    match k, hq with
    | 0, hq => cases hq; exact ⟨a0, b0⟩
    | 1, hq => cases hq; exact ⟨a1, b1⟩
    | 2, hq => cases hq; exact ⟨a2, b2⟩
    | 3, hq => cases hq; exact ⟨a3, b3⟩
    | 4, hq => cases hq; exact ⟨a4, b4⟩
    | k + 5, hq => simp [KT] at hq
  · exact ⟨fun w hw => va_Nw.of (by have := List.all_eq_true.mp nst_all w hw; cases w <;> first | rfl | exact absurd this (by simp [isNest])) (hts w (nst_in w hw)), va_AO.of (hts (.arrayOver (.object "SmokeTune$Town")) (List.mem_of_getElem? (i := 235) (by decide +kernel))), va_AO.of (hts (.arrayOver (.object "SmokeTune$Script")) (List.mem_of_getElem? (i := 180) (by decide +kernel)))⟩
end
section
noncomputable def zpick79 : List Cond → List Nat → List Cond
  | _, [] => []
  | l, n :: ns => match l.drop n with
    | [] => []
    | c :: t => c :: zpick79 t ns
theorem zpick79_mem : ∀ (ns : List Nat) (l : List Cond) (w : Cond), w ∈ zpick79 l ns → w ∈ l
  | [], l, w, h => by simp [zpick79] at h
  | n :: ns, l, w, h => by
    unfold zpick79 at h
    split at h
    · simp at h
    · rename_i c t e
      have hs : ∀ x, x ∈ c :: t → x ∈ l := fun x hx => List.mem_of_mem_drop (by rw [e]; exact hx)
      rcases List.mem_cons.mp h with h | h
      · subst h; exact hs _ List.mem_cons_self
      · exact hs _ (List.mem_cons_of_mem _ (zpick79_mem ns t w h))
noncomputable def zl79_0 : List Cond := [Cond.arrayOf (.static "SmokeTune" "WITHOUT_LAW" "[I") .int, Cond.eq (.length (.static "SmokeTune" "WITHOUT_LAW" "[I")) (.int 4), Cond.eq (.elem (.static "SmokeTune" "WITHOUT_LAW" "[I") (.int 0)) (.int 1), Cond.eq (.elem (.static "SmokeTune" "WITHOUT_LAW" "[I") (.int 1)) (.int 4), Cond.eq (.elem (.static "SmokeTune" "WITHOUT_LAW" "[I") (.int 2)) (.int 1), Cond.eq (.elem (.static "SmokeTune" "WITHOUT_LAW" "[I") (.int 3)) (.int 0), Cond.arrayOf (.static "SmokeTune" "MOST_BY_LAW" "[I") .int, Cond.eq (.length (.static "SmokeTune" "MOST_BY_LAW" "[I")) (.int 4), Cond.eq (.elem (.static "SmokeTune" "MOST_BY_LAW" "[I") (.int 0)) (.int 20), Cond.eq (.elem (.static "SmokeTune" "MOST_BY_LAW" "[I") (.int 1)) (.int 20), Cond.eq (.elem (.static "SmokeTune" "MOST_BY_LAW" "[I") (.int 2)) (.int 999), Cond.eq (.elem (.static "SmokeTune" "MOST_BY_LAW" "[I") (.int 3)) (.int 1), Cond.arrayOf (.static "SmokeTune" "TERM_LEAST" "[I") .int, Cond.eq (.length (.static "SmokeTune" "TERM_LEAST" "[I")) (.int 6), Cond.eq (.elem (.static "SmokeTune" "TERM_LEAST" "[I") (.int 0)) (.int 0), Cond.eq (.elem (.static "SmokeTune" "TERM_LEAST" "[I") (.int 1)) (.int 0), Cond.eq (.elem (.static "SmokeTune" "TERM_LEAST" "[I") (.int 2)) (.int 1), Cond.eq (.elem (.static "SmokeTune" "TERM_LEAST" "[I") (.int 3)) (.int 1), Cond.eq (.elem (.static "SmokeTune" "TERM_LEAST" "[I") (.int 4)) (.int 0), Cond.eq (.elem (.static "SmokeTune" "TERM_LEAST" "[I") (.int 5)) (.int 0), Cond.arrayOf (.static "SmokeTune" "TERM_MOST" "[I") .int, Cond.eq (.length (.static "SmokeTune" "TERM_MOST" "[I")) (.int 6), Cond.eq (.elem (.static "SmokeTune" "TERM_MOST" "[I") (.int 0)) (.int 23), Cond.eq (.elem (.static "SmokeTune" "TERM_MOST" "[I") (.int 1)) (.int 999), Cond.eq (.elem (.static "SmokeTune" "TERM_MOST" "[I") (.int 2)) (.int 20), Cond.eq (.elem (.static "SmokeTune" "TERM_MOST" "[I") (.int 3)) (.int 20), Cond.eq (.elem (.static "SmokeTune" "TERM_MOST" "[I") (.int 4)) (.int 10), Cond.eq (.elem (.static "SmokeTune" "TERM_MOST" "[I") (.int 5)) (.int 9), Cond.eq (.static "java/lang/String" "COMPACT_STRINGS" "Z") (.int 1), Cond.arrayOf (.static "SmokeTune$Reader" "LAW_SUMS" "[I") .int, Cond.eq (.length (.static "SmokeTune$Reader" "LAW_SUMS" "[I")) (.int 4), Cond.eq (.elem (.static "SmokeTune$Reader" "LAW_SUMS" "[I") (.int 0)) (.int 1), Cond.eq (.elem (.static "SmokeTune$Reader" "LAW_SUMS" "[I") (.int 1)) (.int 1), Cond.eq (.elem (.static "SmokeTune$Reader" "LAW_SUMS" "[I") (.int 2)) (.int 1), Cond.eq (.elem (.static "SmokeTune$Reader" "LAW_SUMS" "[I") (.int 3)) (.int 0), Cond.arrayOf (.static "SmokeTune$Reader" "ORDER_SUMS" "[I") .int, Cond.eq (.length (.static "SmokeTune$Reader" "ORDER_SUMS" "[I")) (.int 4), Cond.eq (.elem (.static "SmokeTune$Reader" "ORDER_SUMS" "[I") (.int 0)) (.int 1), Cond.eq (.elem (.static "SmokeTune$Reader" "ORDER_SUMS" "[I") (.int 1)) (.int 2), Cond.eq (.elem (.static "SmokeTune$Reader" "ORDER_SUMS" "[I") (.int 2)) (.int 2), Cond.eq (.elem (.static "SmokeTune$Reader" "ORDER_SUMS" "[I") (.int 3)) (.int 0), Cond.arrayOf (.static "SmokeTune$Reader" "TELLING_FROM" "[I") .int, Cond.eq (.length (.static "SmokeTune$Reader" "TELLING_FROM" "[I")) (.int 3), Cond.eq (.elem (.static "SmokeTune$Reader" "TELLING_FROM" "[I") (.int 0)) (.int 5), Cond.eq (.elem (.static "SmokeTune$Reader" "TELLING_FROM" "[I") (.int 1)) (.int 13), Cond.eq (.elem (.static "SmokeTune$Reader" "TELLING_FROM" "[I") (.int 2)) (.int 21), Cond.arrayOf (.static "SmokeTune$Reader" "TELLING_MOST" "[I") .int, Cond.eq (.length (.static "SmokeTune$Reader" "TELLING_MOST" "[I")) (.int 3)]
set_option maxRecDepth 100000 in
set_option maxHeartbeats 4000000 in
theorem zw79_0 : zl79_0 = zpick79 ((flatC (Jvm.Cond.and given_1 narrow_1)).drop 5) [0, 0, 0, 0, 0, 0, 1, 0, 0, 0, 0, 0, 1, 0, 0, 0, 0, 0, 0, 0, 1, 0, 0, 0, 0, 0, 0, 0, 0, 5, 0, 0, 0, 0, 0, 1, 0, 0, 0, 0, 0, 1, 0, 0, 0, 0, 1, 0] := by decide +kernel
theorem zm79_0 (w : Cond) (h : w ∈ zl79_0) : w ∈ flatC (Jvm.Cond.and given_1 narrow_1) := by
  rw [zw79_0] at h
  exact List.mem_of_mem_drop (zpick79_mem _ _ w h)
noncomputable def zl79_1 : List Cond := [Cond.eq (.elem (.static "SmokeTune$Reader" "TELLING_MOST" "[I") (.int 0)) (.int 7), Cond.eq (.elem (.static "SmokeTune$Reader" "TELLING_MOST" "[I") (.int 1)) (.int 7), Cond.eq (.elem (.static "SmokeTune$Reader" "TELLING_MOST" "[I") (.int 2)) (.int 6), Cond.exactly (.string "SmokeTune$Reader" 63) "java/lang/String", Cond.eq (.field (.string "SmokeTune$Reader" 63) "java/lang/String" "coder" "B") (.int 0), Cond.arrayOf (.field (.string "SmokeTune$Reader" 63) "java/lang/String" "value" "[B") .byte, Cond.eq (.length (.field (.string "SmokeTune$Reader" 63) "java/lang/String" "value" "[B")) (.int 23), Cond.eq (.elem (.field (.string "SmokeTune$Reader" 63) "java/lang/String" "value" "[B") (.int 0)) (.int 98), Cond.eq (.elem (.field (.string "SmokeTune$Reader" 63) "java/lang/String" "value" "[B") (.int 1)) (.int 117), Cond.eq (.elem (.field (.string "SmokeTune$Reader" 63) "java/lang/String" "value" "[B") (.int 2)) (.int 114), Cond.eq (.elem (.field (.string "SmokeTune$Reader" 63) "java/lang/String" "value" "[B") (.int 3)) (.int 110), Cond.eq (.elem (.field (.string "SmokeTune$Reader" 63) "java/lang/String" "value" "[B") (.int 4)) (.int 115), Cond.eq (.elem (.field (.string "SmokeTune$Reader" 63) "java/lang/String" "value" "[B") (.int 5)) (.int 32), Cond.eq (.elem (.field (.string "SmokeTune$Reader" 63) "java/lang/String" "value" "[B") (.int 6)) (.int 102), Cond.eq (.elem (.field (.string "SmokeTune$Reader" 63) "java/lang/String" "value" "[B") (.int 7)) (.int 108), Cond.eq (.elem (.field (.string "SmokeTune$Reader" 63) "java/lang/String" "value" "[B") (.int 8)) (.int 97), Cond.eq (.elem (.field (.string "SmokeTune$Reader" 63) "java/lang/String" "value" "[B") (.int 9)) (.int 114), Cond.eq (.elem (.field (.string "SmokeTune$Reader" 63) "java/lang/String" "value" "[B") (.int 10)) (.int 101), Cond.eq (.elem (.field (.string "SmokeTune$Reader" 63) "java/lang/String" "value" "[B") (.int 11)) (.int 115), Cond.eq (.elem (.field (.string "SmokeTune$Reader" 63) "java/lang/String" "value" "[B") (.int 12)) (.int 32), Cond.eq (.elem (.field (.string "SmokeTune$Reader" 63) "java/lang/String" "value" "[B") (.int 13)) (.int 102), Cond.eq (.elem (.field (.string "SmokeTune$Reader" 63) "java/lang/String" "value" "[B") (.int 14)) (.int 105), Cond.eq (.elem (.field (.string "SmokeTune$Reader" 63) "java/lang/String" "value" "[B") (.int 15)) (.int 110), Cond.eq (.elem (.field (.string "SmokeTune$Reader" 63) "java/lang/String" "value" "[B") (.int 16)) (.int 101), Cond.eq (.elem (.field (.string "SmokeTune$Reader" 63) "java/lang/String" "value" "[B") (.int 17)) (.int 115), Cond.eq (.elem (.field (.string "SmokeTune$Reader" 63) "java/lang/String" "value" "[B") (.int 18)) (.int 32), Cond.eq (.elem (.field (.string "SmokeTune$Reader" 63) "java/lang/String" "value" "[B") (.int 19)) (.int 98), Cond.eq (.elem (.field (.string "SmokeTune$Reader" 63) "java/lang/String" "value" "[B") (.int 20)) (.int 97), Cond.eq (.elem (.field (.string "SmokeTune$Reader" 63) "java/lang/String" "value" "[B") (.int 21)) (.int 114), Cond.eq (.elem (.field (.string "SmokeTune$Reader" 63) "java/lang/String" "value" "[B") (.int 22)) (.int 115), Cond.exactly (.string "SmokeTune$Reader" 65) "java/lang/String", Cond.eq (.field (.string "SmokeTune$Reader" 65) "java/lang/String" "coder" "B") (.int 0), Cond.arrayOf (.field (.string "SmokeTune$Reader" 65) "java/lang/String" "value" "[B") .byte, Cond.eq (.length (.field (.string "SmokeTune$Reader" 65) "java/lang/String" "value" "[B")) (.int 19), Cond.eq (.elem (.field (.string "SmokeTune$Reader" 65) "java/lang/String" "value" "[B") (.int 0)) (.int 115), Cond.eq (.elem (.field (.string "SmokeTune$Reader" 65) "java/lang/String" "value" "[B") (.int 1)) (.int 116), Cond.eq (.elem (.field (.string "SmokeTune$Reader" 65) "java/lang/String" "value" "[B") (.int 2)) (.int 111), Cond.eq (.elem (.field (.string "SmokeTune$Reader" 65) "java/lang/String" "value" "[B") (.int 3)) (.int 107), Cond.eq (.elem (.field (.string "SmokeTune$Reader" 65) "java/lang/String" "value" "[B") (.int 4)) (.int 101), Cond.eq (.elem (.field (.string "SmokeTune$Reader" 65) "java/lang/String" "value" "[B") (.int 5)) (.int 32), Cond.eq (.elem (.field (.string "SmokeTune$Reader" 65) "java/lang/String" "value" "[B") (.int 6)) (.int 100), Cond.eq (.elem (.field (.string "SmokeTune$Reader" 65) "java/lang/String" "value" "[B") (.int 7)) (.int 97), Cond.eq (.elem (.field (.string "SmokeTune$Reader" 65) "java/lang/String" "value" "[B") (.int 8)) (.int 109), Cond.eq (.elem (.field (.string "SmokeTune$Reader" 65) "java/lang/String" "value" "[B") (.int 9)) (.int 112), Cond.eq (.elem (.field (.string "SmokeTune$Reader" 65) "java/lang/String" "value" "[B") (.int 10)) (.int 32), Cond.eq (.elem (.field (.string "SmokeTune$Reader" 65) "java/lang/String" "value" "[B") (.int 11)) (.int 98), Cond.eq (.elem (.field (.string "SmokeTune$Reader" 65) "java/lang/String" "value" "[B") (.int 12)) (.int 117), Cond.eq (.elem (.field (.string "SmokeTune$Reader" 65) "java/lang/String" "value" "[B") (.int 13)) (.int 121)]
set_option maxRecDepth 100000 in
set_option maxHeartbeats 4000000 in
theorem zw79_1 : zl79_1 = zpick79 ((flatC (Jvm.Cond.and given_1 narrow_1)).drop 64) [0, 0, 0, 26, 0, 0, 0, 0, 0, 0, 0, 0, 0, 0, 0, 0, 0, 0, 0, 0, 0, 0, 0, 0, 0, 0, 0, 0, 0, 0, 0, 0, 0, 0, 0, 0, 0, 0, 0, 0, 0, 0, 0, 0, 0, 0, 0, 0] := by decide +kernel
theorem zm79_1 (w : Cond) (h : w ∈ zl79_1) : w ∈ flatC (Jvm.Cond.and given_1 narrow_1) := by
  rw [zw79_1] at h
  exact List.mem_of_mem_drop (zpick79_mem _ _ w h)
noncomputable def zl79_2 : List Cond := [Cond.eq (.elem (.field (.string "SmokeTune$Reader" 65) "java/lang/String" "value" "[B") (.int 14)) (.int 32), Cond.eq (.elem (.field (.string "SmokeTune$Reader" 65) "java/lang/String" "value" "[B") (.int 15)) (.int 112), Cond.eq (.elem (.field (.string "SmokeTune$Reader" 65) "java/lang/String" "value" "[B") (.int 16)) (.int 97), Cond.eq (.elem (.field (.string "SmokeTune$Reader" 65) "java/lang/String" "value" "[B") (.int 17)) (.int 115), Cond.eq (.elem (.field (.string "SmokeTune$Reader" 65) "java/lang/String" "value" "[B") (.int 18)) (.int 115), Cond.exactly (.string "SmokeTune$Reader" 82) "java/lang/String", Cond.eq (.field (.string "SmokeTune$Reader" 82) "java/lang/String" "coder" "B") (.int 0), Cond.arrayOf (.field (.string "SmokeTune$Reader" 82) "java/lang/String" "value" "[B") .byte, Cond.eq (.length (.field (.string "SmokeTune$Reader" 82) "java/lang/String" "value" "[B")) (.int 2), Cond.eq (.elem (.field (.string "SmokeTune$Reader" 82) "java/lang/String" "value" "[B") (.int 0)) (.int 98), Cond.eq (.elem (.field (.string "SmokeTune$Reader" 82) "java/lang/String" "value" "[B") (.int 1)) (.int 121), Cond.exactly (.string "SmokeTune$Reader" 144) "java/lang/String", Cond.eq (.field (.string "SmokeTune$Reader" 144) "java/lang/String" "coder" "B") (.int 0), Cond.arrayOf (.field (.string "SmokeTune$Reader" 144) "java/lang/String" "value" "[B") .byte, Cond.eq (.length (.field (.string "SmokeTune$Reader" 144) "java/lang/String" "value" "[B")) (.int 47), Cond.eq (.elem (.field (.string "SmokeTune$Reader" 144) "java/lang/String" "value" "[B") (.int 0)) (.int 104), Cond.eq (.elem (.field (.string "SmokeTune$Reader" 144) "java/lang/String" "value" "[B") (.int 1)) (.int 111), Cond.eq (.elem (.field (.string "SmokeTune$Reader" 144) "java/lang/String" "value" "[B") (.int 2)) (.int 117), Cond.eq (.elem (.field (.string "SmokeTune$Reader" 144) "java/lang/String" "value" "[B") (.int 3)) (.int 115), Cond.eq (.elem (.field (.string "SmokeTune$Reader" 144) "java/lang/String" "value" "[B") (.int 4)) (.int 101), Cond.eq (.elem (.field (.string "SmokeTune$Reader" 144) "java/lang/String" "value" "[B") (.int 5)) (.int 32), Cond.eq (.elem (.field (.string "SmokeTune$Reader" 144) "java/lang/String" "value" "[B") (.int 6)) (.int 110), Cond.eq (.elem (.field (.string "SmokeTune$Reader" 144) "java/lang/String" "value" "[B") (.int 7)) (.int 111), Cond.eq (.elem (.field (.string "SmokeTune$Reader" 144) "java/lang/String" "value" "[B") (.int 8)) (.int 116), Cond.eq (.elem (.field (.string "SmokeTune$Reader" 144) "java/lang/String" "value" "[B") (.int 9)) (.int 101), Cond.eq (.elem (.field (.string "SmokeTune$Reader" 144) "java/lang/String" "value" "[B") (.int 10)) (.int 32), Cond.eq (.elem (.field (.string "SmokeTune$Reader" 144) "java/lang/String" "value" "[B") (.int 11)) (.int 115), Cond.eq (.elem (.field (.string "SmokeTune$Reader" 144) "java/lang/String" "value" "[B") (.int 12)) (.int 116), Cond.eq (.elem (.field (.string "SmokeTune$Reader" 144) "java/lang/String" "value" "[B") (.int 13)) (.int 114), Cond.eq (.elem (.field (.string "SmokeTune$Reader" 144) "java/lang/String" "value" "[B") (.int 14)) (.int 101), Cond.eq (.elem (.field (.string "SmokeTune$Reader" 144) "java/lang/String" "value" "[B") (.int 15)) (.int 101), Cond.eq (.elem (.field (.string "SmokeTune$Reader" 144) "java/lang/String" "value" "[B") (.int 16)) (.int 116), Cond.eq (.elem (.field (.string "SmokeTune$Reader" 144) "java/lang/String" "value" "[B") (.int 17)) (.int 32), Cond.eq (.elem (.field (.string "SmokeTune$Reader" 144) "java/lang/String" "value" "[B") (.int 18)) (.int 102), Cond.eq (.elem (.field (.string "SmokeTune$Reader" 144) "java/lang/String" "value" "[B") (.int 19)) (.int 105), Cond.eq (.elem (.field (.string "SmokeTune$Reader" 144) "java/lang/String" "value" "[B") (.int 20)) (.int 114), Cond.eq (.elem (.field (.string "SmokeTune$Reader" 144) "java/lang/String" "value" "[B") (.int 21)) (.int 101), Cond.eq (.elem (.field (.string "SmokeTune$Reader" 144) "java/lang/String" "value" "[B") (.int 22)) (.int 32), Cond.eq (.elem (.field (.string "SmokeTune$Reader" 144) "java/lang/String" "value" "[B") (.int 23)) (.int 99), Cond.eq (.elem (.field (.string "SmokeTune$Reader" 144) "java/lang/String" "value" "[B") (.int 24)) (.int 111), Cond.eq (.elem (.field (.string "SmokeTune$Reader" 144) "java/lang/String" "value" "[B") (.int 25)) (.int 97), Cond.eq (.elem (.field (.string "SmokeTune$Reader" 144) "java/lang/String" "value" "[B") (.int 26)) (.int 108), Cond.eq (.elem (.field (.string "SmokeTune$Reader" 144) "java/lang/String" "value" "[B") (.int 27)) (.int 32), Cond.eq (.elem (.field (.string "SmokeTune$Reader" 144) "java/lang/String" "value" "[B") (.int 28)) (.int 104), Cond.eq (.elem (.field (.string "SmokeTune$Reader" 144) "java/lang/String" "value" "[B") (.int 29)) (.int 111), Cond.eq (.elem (.field (.string "SmokeTune$Reader" 144) "java/lang/String" "value" "[B") (.int 30)) (.int 117), Cond.eq (.elem (.field (.string "SmokeTune$Reader" 144) "java/lang/String" "value" "[B") (.int 31)) (.int 114), Cond.eq (.elem (.field (.string "SmokeTune$Reader" 144) "java/lang/String" "value" "[B") (.int 32)) (.int 32)]
set_option maxRecDepth 100000 in
set_option maxHeartbeats 4000000 in
theorem zw79_2 : zl79_2 = zpick79 ((flatC (Jvm.Cond.and given_1 narrow_1)).drop 138) [0, 0, 0, 0, 0, 1, 0, 0, 0, 0, 0, 2, 0, 0, 0, 0, 0, 0, 0, 0, 0, 0, 0, 0, 0, 0, 0, 0, 0, 0, 0, 0, 0, 0, 0, 0, 0, 0, 0, 0, 0, 0, 0, 0, 0, 0, 0, 0] := by decide +kernel
theorem zm79_2 (w : Cond) (h : w ∈ zl79_2) : w ∈ flatC (Jvm.Cond.and given_1 narrow_1) := by
  rw [zw79_2] at h
  exact List.mem_of_mem_drop (zpick79_mem _ _ w h)
noncomputable def zl79_3 : List Cond := [Cond.eq (.elem (.field (.string "SmokeTune$Reader" 144) "java/lang/String" "value" "[B") (.int 33)) (.int 100), Cond.eq (.elem (.field (.string "SmokeTune$Reader" 144) "java/lang/String" "value" "[B") (.int 34)) (.int 97), Cond.eq (.elem (.field (.string "SmokeTune$Reader" 144) "java/lang/String" "value" "[B") (.int 35)) (.int 121), Cond.eq (.elem (.field (.string "SmokeTune$Reader" 144) "java/lang/String" "value" "[B") (.int 36)) (.int 32), Cond.eq (.elem (.field (.string "SmokeTune$Reader" 144) "java/lang/String" "value" "[B") (.int 37)) (.int 109), Cond.eq (.elem (.field (.string "SmokeTune$Reader" 144) "java/lang/String" "value" "[B") (.int 38)) (.int 111), Cond.eq (.elem (.field (.string "SmokeTune$Reader" 144) "java/lang/String" "value" "[B") (.int 39)) (.int 111), Cond.eq (.elem (.field (.string "SmokeTune$Reader" 144) "java/lang/String" "value" "[B") (.int 40)) (.int 100), Cond.eq (.elem (.field (.string "SmokeTune$Reader" 144) "java/lang/String" "value" "[B") (.int 41)) (.int 32), Cond.eq (.elem (.field (.string "SmokeTune$Reader" 144) "java/lang/String" "value" "[B") (.int 42)) (.int 111), Cond.eq (.elem (.field (.string "SmokeTune$Reader" 144) "java/lang/String" "value" "[B") (.int 43)) (.int 116), Cond.eq (.elem (.field (.string "SmokeTune$Reader" 144) "java/lang/String" "value" "[B") (.int 44)) (.int 104), Cond.eq (.elem (.field (.string "SmokeTune$Reader" 144) "java/lang/String" "value" "[B") (.int 45)) (.int 101), Cond.eq (.elem (.field (.string "SmokeTune$Reader" 144) "java/lang/String" "value" "[B") (.int 46)) (.int 114), Cond.exactly (.string "SmokeTune$Reader" 146) "java/lang/String", Cond.eq (.field (.string "SmokeTune$Reader" 146) "java/lang/String" "coder" "B") (.int 0), Cond.arrayOf (.field (.string "SmokeTune$Reader" 146) "java/lang/String" "value" "[B") .byte, Cond.eq (.length (.field (.string "SmokeTune$Reader" 146) "java/lang/String" "value" "[B")) (.int 40), Cond.eq (.elem (.field (.string "SmokeTune$Reader" 146) "java/lang/String" "value" "[B") (.int 0)) (.int 104), Cond.eq (.elem (.field (.string "SmokeTune$Reader" 146) "java/lang/String" "value" "[B") (.int 1)) (.int 111), Cond.eq (.elem (.field (.string "SmokeTune$Reader" 146) "java/lang/String" "value" "[B") (.int 2)) (.int 117), Cond.eq (.elem (.field (.string "SmokeTune$Reader" 146) "java/lang/String" "value" "[B") (.int 3)) (.int 114), Cond.eq (.elem (.field (.string "SmokeTune$Reader" 146) "java/lang/String" "value" "[B") (.int 4)) (.int 32), Cond.eq (.elem (.field (.string "SmokeTune$Reader" 146) "java/lang/String" "value" "[B") (.int 5)) (.int 100), Cond.eq (.elem (.field (.string "SmokeTune$Reader" 146) "java/lang/String" "value" "[B") (.int 6)) (.int 97), Cond.eq (.elem (.field (.string "SmokeTune$Reader" 146) "java/lang/String" "value" "[B") (.int 7)) (.int 121), Cond.eq (.elem (.field (.string "SmokeTune$Reader" 146) "java/lang/String" "value" "[B") (.int 8)) (.int 32), Cond.eq (.elem (.field (.string "SmokeTune$Reader" 146) "java/lang/String" "value" "[B") (.int 9)) (.int 102), Cond.eq (.elem (.field (.string "SmokeTune$Reader" 146) "java/lang/String" "value" "[B") (.int 10)) (.int 105), Cond.eq (.elem (.field (.string "SmokeTune$Reader" 146) "java/lang/String" "value" "[B") (.int 11)) (.int 110), Cond.eq (.elem (.field (.string "SmokeTune$Reader" 146) "java/lang/String" "value" "[B") (.int 12)) (.int 101), Cond.eq (.elem (.field (.string "SmokeTune$Reader" 146) "java/lang/String" "value" "[B") (.int 13)) (.int 115), Cond.eq (.elem (.field (.string "SmokeTune$Reader" 146) "java/lang/String" "value" "[B") (.int 14)) (.int 32), Cond.eq (.elem (.field (.string "SmokeTune$Reader" 146) "java/lang/String" "value" "[B") (.int 15)) (.int 100), Cond.eq (.elem (.field (.string "SmokeTune$Reader" 146) "java/lang/String" "value" "[B") (.int 16)) (.int 111), Cond.eq (.elem (.field (.string "SmokeTune$Reader" 146) "java/lang/String" "value" "[B") (.int 17)) (.int 110), Cond.eq (.elem (.field (.string "SmokeTune$Reader" 146) "java/lang/String" "value" "[B") (.int 18)) (.int 101), Cond.eq (.elem (.field (.string "SmokeTune$Reader" 146) "java/lang/String" "value" "[B") (.int 19)) (.int 32), Cond.eq (.elem (.field (.string "SmokeTune$Reader" 146) "java/lang/String" "value" "[B") (.int 20)) (.int 109), Cond.eq (.elem (.field (.string "SmokeTune$Reader" 146) "java/lang/String" "value" "[B") (.int 21)) (.int 101), Cond.eq (.elem (.field (.string "SmokeTune$Reader" 146) "java/lang/String" "value" "[B") (.int 22)) (.int 116), Cond.eq (.elem (.field (.string "SmokeTune$Reader" 146) "java/lang/String" "value" "[B") (.int 23)) (.int 32), Cond.eq (.elem (.field (.string "SmokeTune$Reader" 146) "java/lang/String" "value" "[B") (.int 24)) (.int 102), Cond.eq (.elem (.field (.string "SmokeTune$Reader" 146) "java/lang/String" "value" "[B") (.int 25)) (.int 105), Cond.eq (.elem (.field (.string "SmokeTune$Reader" 146) "java/lang/String" "value" "[B") (.int 26)) (.int 114), Cond.eq (.elem (.field (.string "SmokeTune$Reader" 146) "java/lang/String" "value" "[B") (.int 27)) (.int 101), Cond.eq (.elem (.field (.string "SmokeTune$Reader" 146) "java/lang/String" "value" "[B") (.int 28)) (.int 32), Cond.eq (.elem (.field (.string "SmokeTune$Reader" 146) "java/lang/String" "value" "[B") (.int 29)) (.int 99)]
set_option maxRecDepth 100000 in
set_option maxHeartbeats 4000000 in
theorem zw79_3 : zl79_3 = zpick79 ((flatC (Jvm.Cond.and given_1 narrow_1)).drop 189) [0, 0, 0, 0, 0, 0, 0, 0, 0, 0, 0, 0, 0, 0, 3, 0, 0, 0, 0, 0, 0, 0, 0, 0, 0, 0, 0, 0, 0, 0, 0, 0, 0, 0, 0, 0, 0, 0, 0, 0, 0, 0, 0, 0, 0, 0, 0, 0] := by decide +kernel
theorem zm79_3 (w : Cond) (h : w ∈ zl79_3) : w ∈ flatC (Jvm.Cond.and given_1 narrow_1) := by
  rw [zw79_3] at h
  exact List.mem_of_mem_drop (zpick79_mem _ _ w h)
noncomputable def zl79_4 : List Cond := [Cond.eq (.elem (.field (.string "SmokeTune$Reader" 146) "java/lang/String" "value" "[B") (.int 30)) (.int 111), Cond.eq (.elem (.field (.string "SmokeTune$Reader" 146) "java/lang/String" "value" "[B") (.int 31)) (.int 97), Cond.eq (.elem (.field (.string "SmokeTune$Reader" 146) "java/lang/String" "value" "[B") (.int 32)) (.int 108), Cond.eq (.elem (.field (.string "SmokeTune$Reader" 146) "java/lang/String" "value" "[B") (.int 33)) (.int 32), Cond.eq (.elem (.field (.string "SmokeTune$Reader" 146) "java/lang/String" "value" "[B") (.int 34)) (.int 115), Cond.eq (.elem (.field (.string "SmokeTune$Reader" 146) "java/lang/String" "value" "[B") (.int 35)) (.int 111), Cond.eq (.elem (.field (.string "SmokeTune$Reader" 146) "java/lang/String" "value" "[B") (.int 36)) (.int 117), Cond.eq (.elem (.field (.string "SmokeTune$Reader" 146) "java/lang/String" "value" "[B") (.int 37)) (.int 110), Cond.eq (.elem (.field (.string "SmokeTune$Reader" 146) "java/lang/String" "value" "[B") (.int 38)) (.int 100), Cond.eq (.elem (.field (.string "SmokeTune$Reader" 146) "java/lang/String" "value" "[B") (.int 39)) (.int 115), Cond.exactly (.string "SmokeTune$Reader" 140) "java/lang/String", Cond.eq (.field (.string "SmokeTune$Reader" 140) "java/lang/String" "coder" "B") (.int 0), Cond.arrayOf (.field (.string "SmokeTune$Reader" 140) "java/lang/String" "value" "[B") .byte, Cond.eq (.length (.field (.string "SmokeTune$Reader" 140) "java/lang/String" "value" "[B")) (.int 3), Cond.eq (.elem (.field (.string "SmokeTune$Reader" 140) "java/lang/String" "value" "[B") (.int 0)) (.int 42), Cond.eq (.elem (.field (.string "SmokeTune$Reader" 140) "java/lang/String" "value" "[B") (.int 1)) (.int 47), Cond.eq (.elem (.field (.string "SmokeTune$Reader" 140) "java/lang/String" "value" "[B") (.int 2)) (.int 37), Cond.exactly (.string "SmokeTune$Reader" 142) "java/lang/String", Cond.eq (.field (.string "SmokeTune$Reader" 142) "java/lang/String" "coder" "B") (.int 0), Cond.arrayOf (.field (.string "SmokeTune$Reader" 142) "java/lang/String" "value" "[B") .byte, Cond.eq (.length (.field (.string "SmokeTune$Reader" 142) "java/lang/String" "value" "[B")) (.int 2), Cond.eq (.elem (.field (.string "SmokeTune$Reader" 142) "java/lang/String" "value" "[B") (.int 0)) (.int 43), Cond.eq (.elem (.field (.string "SmokeTune$Reader" 142) "java/lang/String" "value" "[B") (.int 1)) (.int 45), Cond.exactly (.string "SmokeTune$Reader" 99) "java/lang/String", Cond.eq (.field (.string "SmokeTune$Reader" 99) "java/lang/String" "coder" "B") (.int 0), Cond.arrayOf (.field (.string "SmokeTune$Reader" 99) "java/lang/String" "value" "[B") .byte, Cond.eq (.length (.field (.string "SmokeTune$Reader" 99) "java/lang/String" "value" "[B")) (.int 5), Cond.eq (.elem (.field (.string "SmokeTune$Reader" 99) "java/lang/String" "value" "[B") (.int 0)) (.int 116), Cond.eq (.elem (.field (.string "SmokeTune$Reader" 99) "java/lang/String" "value" "[B") (.int 1)) (.int 105), Cond.eq (.elem (.field (.string "SmokeTune$Reader" 99) "java/lang/String" "value" "[B") (.int 2)) (.int 109), Cond.eq (.elem (.field (.string "SmokeTune$Reader" 99) "java/lang/String" "value" "[B") (.int 3)) (.int 101), Cond.eq (.elem (.field (.string "SmokeTune$Reader" 99) "java/lang/String" "value" "[B") (.int 4)) (.int 115), Cond.exactly (.string "SmokeTune$Reader" 104) "java/lang/String", Cond.eq (.field (.string "SmokeTune$Reader" 104) "java/lang/String" "coder" "B") (.int 0), Cond.arrayOf (.field (.string "SmokeTune$Reader" 104) "java/lang/String" "value" "[B") .byte, Cond.eq (.length (.field (.string "SmokeTune$Reader" 104) "java/lang/String" "value" "[B")) (.int 2), Cond.eq (.elem (.field (.string "SmokeTune$Reader" 104) "java/lang/String" "value" "[B") (.int 0)) (.int 105), Cond.eq (.elem (.field (.string "SmokeTune$Reader" 104) "java/lang/String" "value" "[B") (.int 1)) (.int 102), Cond.exactly (.string "SmokeTune$Reader" 129) "java/lang/String", Cond.eq (.field (.string "SmokeTune$Reader" 129) "java/lang/String" "coder" "B") (.int 0), Cond.arrayOf (.field (.string "SmokeTune$Reader" 129) "java/lang/String" "value" "[B") .byte, Cond.eq (.length (.field (.string "SmokeTune$Reader" 129) "java/lang/String" "value" "[B")) (.int 3), Cond.eq (.elem (.field (.string "SmokeTune$Reader" 129) "java/lang/String" "value" "[B") (.int 0)) (.int 110), Cond.eq (.elem (.field (.string "SmokeTune$Reader" 129) "java/lang/String" "value" "[B") (.int 1)) (.int 111), Cond.eq (.elem (.field (.string "SmokeTune$Reader" 129) "java/lang/String" "value" "[B") (.int 2)) (.int 116), Cond.exactly (.string "SmokeTune$Reader" 131) "java/lang/String", Cond.eq (.field (.string "SmokeTune$Reader" 131) "java/lang/String" "coder" "B") (.int 0), Cond.arrayOf (.field (.string "SmokeTune$Reader" 131) "java/lang/String" "value" "[B") .byte]
set_option maxRecDepth 100000 in
set_option maxHeartbeats 4000000 in
theorem zw79_4 : zl79_4 = zpick79 ((flatC (Jvm.Cond.and given_1 narrow_1)).drop 240) [0, 0, 0, 0, 0, 0, 0, 0, 0, 0, 4, 0, 0, 0, 0, 0, 0, 5, 0, 0, 0, 0, 0, 6, 0, 0, 0, 0, 0, 0, 0, 0, 7, 0, 0, 0, 0, 0, 8, 0, 0, 0, 0, 0, 0, 9, 0, 0] := by decide +kernel
theorem zm79_4 (w : Cond) (h : w ∈ zl79_4) : w ∈ flatC (Jvm.Cond.and given_1 narrow_1) := by
  rw [zw79_4] at h
  exact List.mem_of_mem_drop (zpick79_mem _ _ w h)
noncomputable def zl79_5 : List Cond := [Cond.eq (.length (.field (.string "SmokeTune$Reader" 131) "java/lang/String" "value" "[B")) (.int 3), Cond.eq (.elem (.field (.string "SmokeTune$Reader" 131) "java/lang/String" "value" "[B") (.int 0)) (.int 60), Cond.eq (.elem (.field (.string "SmokeTune$Reader" 131) "java/lang/String" "value" "[B") (.int 1)) (.int 62), Cond.eq (.elem (.field (.string "SmokeTune$Reader" 131) "java/lang/String" "value" "[B") (.int 2)) (.int 61), Cond.exactly (.string "SmokeTune$Reader" 125) "java/lang/String", Cond.eq (.field (.string "SmokeTune$Reader" 125) "java/lang/String" "coder" "B") (.int 0), Cond.arrayOf (.field (.string "SmokeTune$Reader" 125) "java/lang/String" "value" "[B") .byte, Cond.eq (.length (.field (.string "SmokeTune$Reader" 125) "java/lang/String" "value" "[B")) (.int 3), Cond.eq (.elem (.field (.string "SmokeTune$Reader" 125) "java/lang/String" "value" "[B") (.int 0)) (.int 97), Cond.eq (.elem (.field (.string "SmokeTune$Reader" 125) "java/lang/String" "value" "[B") (.int 1)) (.int 110), Cond.eq (.elem (.field (.string "SmokeTune$Reader" 125) "java/lang/String" "value" "[B") (.int 2)) (.int 100), Cond.exactly (.string "SmokeTune$Reader" 127) "java/lang/String", Cond.eq (.field (.string "SmokeTune$Reader" 127) "java/lang/String" "coder" "B") (.int 0), Cond.arrayOf (.field (.string "SmokeTune$Reader" 127) "java/lang/String" "value" "[B") .byte, Cond.eq (.length (.field (.string "SmokeTune$Reader" 127) "java/lang/String" "value" "[B")) (.int 2), Cond.eq (.elem (.field (.string "SmokeTune$Reader" 127) "java/lang/String" "value" "[B") (.int 0)) (.int 111), Cond.eq (.elem (.field (.string "SmokeTune$Reader" 127) "java/lang/String" "value" "[B") (.int 1)) (.int 114)]
set_option maxRecDepth 100000 in
set_option maxHeartbeats 4000000 in
theorem zw79_5 : zl79_5 = zpick79 ((flatC (Jvm.Cond.and given_1 narrow_1)).drop 327) [0, 0, 0, 0, 10, 0, 0, 0, 0, 0, 0, 11, 0, 0, 0, 0, 0] := by decide +kernel
theorem zm79_5 (w : Cond) (h : w ∈ zl79_5) : w ∈ flatC (Jvm.Cond.and given_1 narrow_1) := by
  rw [zw79_5] at h
  exact List.mem_of_mem_drop (zpick79_mem _ _ w h)
set_option maxHeartbeats 4000000 in
set_option maxRecDepth 100000 in
theorem gl_a0 {p : Program} {s : State} {m : MethodId} {meth : Method} {c : Code} {b L : Nat} {xs : Nat → Int32} (C0 : lw_At p s m meth c b L xs) {A : Nat → Prop} (hA : ∀ a : Nat, a < s.heap.size → ¬ A a) : ∃ t : Nat, va_Z (aC 0) (aN 0) "[I" (.ref t) A s s.heap ∧ va_T .int t (aL 0) (fun j => .int (aF 0 j)) A s s.heap := by
  obtain ⟨hx, hb, hr, hml, hown, hts, hX, hbl, hlocks, hgv⟩ := C0
  have hf := flat_of_before _ hgv
  obtain ⟨t, ht, hT⟩ := va_Tof (args := #[Value.ref b]) (s := s) (tm := .static "SmokeTune" "TERM_LEAST" "[I") (ty := .int) (N := 6) (f := fun j => .int (aF 0 j)) (A := A) (by decide +kernel) (hf (Cond.arrayOf (.static "SmokeTune" "TERM_LEAST" "[I") .int) (zm79_0 _ (List.mem_of_getElem? (i := 12) rfl))) (va_eqt (hf (Cond.eq (.length (.static "SmokeTune" "TERM_LEAST" "[I")) (.int 6)) (zm79_0 _ (List.mem_of_getElem? (i := 13) rfl)))) (fun j hj => by
    rcases (show j = 0 ∨ j = 1 ∨ j = 2 ∨ j = 3 ∨ j = 4 ∨ j = 5 by omega) with rfl | rfl | rfl | rfl | rfl | rfl
    · exact va_eqt (z := 0) (hf (Cond.eq (.elem (.static "SmokeTune" "TERM_LEAST" "[I") (.int 0)) (.int 0)) (zm79_0 _ (List.mem_of_getElem? (i := 14) rfl)))
    · exact va_eqt (z := 0) (hf (Cond.eq (.elem (.static "SmokeTune" "TERM_LEAST" "[I") (.int 1)) (.int 0)) (zm79_0 _ (List.mem_of_getElem? (i := 15) rfl)))
    · exact va_eqt (z := 1) (hf (Cond.eq (.elem (.static "SmokeTune" "TERM_LEAST" "[I") (.int 2)) (.int 1)) (zm79_0 _ (List.mem_of_getElem? (i := 16) rfl)))
    · exact va_eqt (z := 1) (hf (Cond.eq (.elem (.static "SmokeTune" "TERM_LEAST" "[I") (.int 3)) (.int 1)) (zm79_0 _ (List.mem_of_getElem? (i := 17) rfl)))
    · exact va_eqt (z := 0) (hf (Cond.eq (.elem (.static "SmokeTune" "TERM_LEAST" "[I") (.int 4)) (.int 0)) (zm79_0 _ (List.mem_of_getElem? (i := 18) rfl)))
    · exact va_eqt (z := 0) (hf (Cond.eq (.elem (.static "SmokeTune" "TERM_LEAST" "[I") (.int 5)) (.int 0)) (zm79_0 _ (List.mem_of_getElem? (i := 19) rfl)))
    ) hA
  exact ⟨t, va_Zref (hts (.laysStatic "SmokeTune" "TERM_LEAST" "[I") (List.mem_of_getElem? (i := 626) (by decide +kernel))) (hts (.initialized "SmokeTune") (List.mem_of_getElem? (i := 145) (by decide +kernel))) ht hA, hT⟩
set_option maxHeartbeats 4000000 in
set_option maxRecDepth 100000 in
theorem gl_a1 {p : Program} {s : State} {m : MethodId} {meth : Method} {c : Code} {b L : Nat} {xs : Nat → Int32} (C0 : lw_At p s m meth c b L xs) {A : Nat → Prop} (hA : ∀ a : Nat, a < s.heap.size → ¬ A a) : ∃ t : Nat, va_Z (aC 1) (aN 1) "[I" (.ref t) A s s.heap ∧ va_T .int t (aL 1) (fun j => .int (aF 1 j)) A s s.heap := by
  obtain ⟨hx, hb, hr, hml, hown, hts, hX, hbl, hlocks, hgv⟩ := C0
  have hf := flat_of_before _ hgv
  obtain ⟨t, ht, hT⟩ := va_Tof (args := #[Value.ref b]) (s := s) (tm := .static "SmokeTune" "TERM_MOST" "[I") (ty := .int) (N := 6) (f := fun j => .int (aF 1 j)) (A := A) (by decide +kernel) (hf (Cond.arrayOf (.static "SmokeTune" "TERM_MOST" "[I") .int) (zm79_0 _ (List.mem_of_getElem? (i := 20) rfl))) (va_eqt (hf (Cond.eq (.length (.static "SmokeTune" "TERM_MOST" "[I")) (.int 6)) (zm79_0 _ (List.mem_of_getElem? (i := 21) rfl)))) (fun j hj => by
    rcases (show j = 0 ∨ j = 1 ∨ j = 2 ∨ j = 3 ∨ j = 4 ∨ j = 5 by omega) with rfl | rfl | rfl | rfl | rfl | rfl
    · exact va_eqt (z := 23) (hf (Cond.eq (.elem (.static "SmokeTune" "TERM_MOST" "[I") (.int 0)) (.int 23)) (zm79_0 _ (List.mem_of_getElem? (i := 22) rfl)))
    · exact va_eqt (z := 999) (hf (Cond.eq (.elem (.static "SmokeTune" "TERM_MOST" "[I") (.int 1)) (.int 999)) (zm79_0 _ (List.mem_of_getElem? (i := 23) rfl)))
    · exact va_eqt (z := 20) (hf (Cond.eq (.elem (.static "SmokeTune" "TERM_MOST" "[I") (.int 2)) (.int 20)) (zm79_0 _ (List.mem_of_getElem? (i := 24) rfl)))
    · exact va_eqt (z := 20) (hf (Cond.eq (.elem (.static "SmokeTune" "TERM_MOST" "[I") (.int 3)) (.int 20)) (zm79_0 _ (List.mem_of_getElem? (i := 25) rfl)))
    · exact va_eqt (z := 10) (hf (Cond.eq (.elem (.static "SmokeTune" "TERM_MOST" "[I") (.int 4)) (.int 10)) (zm79_0 _ (List.mem_of_getElem? (i := 26) rfl)))
    · exact va_eqt (z := 9) (hf (Cond.eq (.elem (.static "SmokeTune" "TERM_MOST" "[I") (.int 5)) (.int 9)) (zm79_0 _ (List.mem_of_getElem? (i := 27) rfl)))
    ) hA
  exact ⟨t, va_Zref (hts (.laysStatic "SmokeTune" "TERM_MOST" "[I") (List.mem_of_getElem? (i := 628) (by decide +kernel))) (hts (.initialized "SmokeTune") (List.mem_of_getElem? (i := 145) (by decide +kernel))) ht hA, hT⟩
set_option maxHeartbeats 4000000 in
set_option maxRecDepth 100000 in
theorem gl_a2 {p : Program} {s : State} {m : MethodId} {meth : Method} {c : Code} {b L : Nat} {xs : Nat → Int32} (C0 : lw_At p s m meth c b L xs) {A : Nat → Prop} (hA : ∀ a : Nat, a < s.heap.size → ¬ A a) : ∃ t : Nat, va_Z (aC 2) (aN 2) "[I" (.ref t) A s s.heap ∧ va_T .int t (aL 2) (fun j => .int (aF 2 j)) A s s.heap := by
  obtain ⟨hx, hb, hr, hml, hown, hts, hX, hbl, hlocks, hgv⟩ := C0
  have hf := flat_of_before _ hgv
  obtain ⟨t, ht, hT⟩ := va_Tof (args := #[Value.ref b]) (s := s) (tm := .static "SmokeTune" "WITHOUT_LAW" "[I") (ty := .int) (N := 4) (f := fun j => .int (aF 2 j)) (A := A) (by decide +kernel) (hf (Cond.arrayOf (.static "SmokeTune" "WITHOUT_LAW" "[I") .int) (zm79_0 _ (List.mem_of_getElem? (i := 0) rfl))) (va_eqt (hf (Cond.eq (.length (.static "SmokeTune" "WITHOUT_LAW" "[I")) (.int 4)) (zm79_0 _ (List.mem_of_getElem? (i := 1) rfl)))) (fun j hj => by
    rcases (show j = 0 ∨ j = 1 ∨ j = 2 ∨ j = 3 by omega) with rfl | rfl | rfl | rfl
    · exact va_eqt (z := 1) (hf (Cond.eq (.elem (.static "SmokeTune" "WITHOUT_LAW" "[I") (.int 0)) (.int 1)) (zm79_0 _ (List.mem_of_getElem? (i := 2) rfl)))
    · exact va_eqt (z := 4) (hf (Cond.eq (.elem (.static "SmokeTune" "WITHOUT_LAW" "[I") (.int 1)) (.int 4)) (zm79_0 _ (List.mem_of_getElem? (i := 3) rfl)))
    · exact va_eqt (z := 1) (hf (Cond.eq (.elem (.static "SmokeTune" "WITHOUT_LAW" "[I") (.int 2)) (.int 1)) (zm79_0 _ (List.mem_of_getElem? (i := 4) rfl)))
    · exact va_eqt (z := 0) (hf (Cond.eq (.elem (.static "SmokeTune" "WITHOUT_LAW" "[I") (.int 3)) (.int 0)) (zm79_0 _ (List.mem_of_getElem? (i := 5) rfl)))
    ) hA
  exact ⟨t, va_Zref (hts (.laysStatic "SmokeTune" "WITHOUT_LAW" "[I") (List.mem_of_getElem? (i := 585) (by decide +kernel))) (hts (.initialized "SmokeTune") (List.mem_of_getElem? (i := 145) (by decide +kernel))) ht hA, hT⟩
set_option maxHeartbeats 4000000 in
set_option maxRecDepth 100000 in
theorem gl_a3 {p : Program} {s : State} {m : MethodId} {meth : Method} {c : Code} {b L : Nat} {xs : Nat → Int32} (C0 : lw_At p s m meth c b L xs) {A : Nat → Prop} (hA : ∀ a : Nat, a < s.heap.size → ¬ A a) : ∃ t : Nat, va_Z (aC 3) (aN 3) "[I" (.ref t) A s s.heap ∧ va_T .int t (aL 3) (fun j => .int (aF 3 j)) A s s.heap := by
  obtain ⟨hx, hb, hr, hml, hown, hts, hX, hbl, hlocks, hgv⟩ := C0
  have hf := flat_of_before _ hgv
  obtain ⟨t, ht, hT⟩ := va_Tof (args := #[Value.ref b]) (s := s) (tm := .static "SmokeTune" "MOST_BY_LAW" "[I") (ty := .int) (N := 4) (f := fun j => .int (aF 3 j)) (A := A) (by decide +kernel) (hf (Cond.arrayOf (.static "SmokeTune" "MOST_BY_LAW" "[I") .int) (zm79_0 _ (List.mem_of_getElem? (i := 6) rfl))) (va_eqt (hf (Cond.eq (.length (.static "SmokeTune" "MOST_BY_LAW" "[I")) (.int 4)) (zm79_0 _ (List.mem_of_getElem? (i := 7) rfl)))) (fun j hj => by
    rcases (show j = 0 ∨ j = 1 ∨ j = 2 ∨ j = 3 by omega) with rfl | rfl | rfl | rfl
    · exact va_eqt (z := 20) (hf (Cond.eq (.elem (.static "SmokeTune" "MOST_BY_LAW" "[I") (.int 0)) (.int 20)) (zm79_0 _ (List.mem_of_getElem? (i := 8) rfl)))
    · exact va_eqt (z := 20) (hf (Cond.eq (.elem (.static "SmokeTune" "MOST_BY_LAW" "[I") (.int 1)) (.int 20)) (zm79_0 _ (List.mem_of_getElem? (i := 9) rfl)))
    · exact va_eqt (z := 999) (hf (Cond.eq (.elem (.static "SmokeTune" "MOST_BY_LAW" "[I") (.int 2)) (.int 999)) (zm79_0 _ (List.mem_of_getElem? (i := 10) rfl)))
    · exact va_eqt (z := 1) (hf (Cond.eq (.elem (.static "SmokeTune" "MOST_BY_LAW" "[I") (.int 3)) (.int 1)) (zm79_0 _ (List.mem_of_getElem? (i := 11) rfl)))
    ) hA
  exact ⟨t, va_Zref (hts (.laysStatic "SmokeTune" "MOST_BY_LAW" "[I") (List.mem_of_getElem? (i := 604) (by decide +kernel))) (hts (.initialized "SmokeTune") (List.mem_of_getElem? (i := 145) (by decide +kernel))) ht hA, hT⟩
set_option maxHeartbeats 4000000 in
set_option maxRecDepth 100000 in
theorem gl_a4 {p : Program} {s : State} {m : MethodId} {meth : Method} {c : Code} {b L : Nat} {xs : Nat → Int32} (C0 : lw_At p s m meth c b L xs) {A : Nat → Prop} (hA : ∀ a : Nat, a < s.heap.size → ¬ A a) : ∃ t : Nat, va_Z (aC 4) (aN 4) "[I" (.ref t) A s s.heap ∧ va_T .int t (aL 4) (fun j => .int (aF 4 j)) A s s.heap := by
  obtain ⟨hx, hb, hr, hml, hown, hts, hX, hbl, hlocks, hgv⟩ := C0
  have hf := flat_of_before _ hgv
  obtain ⟨t, ht, hT⟩ := va_Tof (args := #[Value.ref b]) (s := s) (tm := .static "SmokeTune$Reader" "LAW_SUMS" "[I") (ty := .int) (N := 4) (f := fun j => .int (aF 4 j)) (A := A) (by decide +kernel) (hf (Cond.arrayOf (.static "SmokeTune$Reader" "LAW_SUMS" "[I") .int) (zm79_0 _ (List.mem_of_getElem? (i := 29) rfl))) (va_eqt (hf (Cond.eq (.length (.static "SmokeTune$Reader" "LAW_SUMS" "[I")) (.int 4)) (zm79_0 _ (List.mem_of_getElem? (i := 30) rfl)))) (fun j hj => by
    rcases (show j = 0 ∨ j = 1 ∨ j = 2 ∨ j = 3 by omega) with rfl | rfl | rfl | rfl
    · exact va_eqt (z := 1) (hf (Cond.eq (.elem (.static "SmokeTune$Reader" "LAW_SUMS" "[I") (.int 0)) (.int 1)) (zm79_0 _ (List.mem_of_getElem? (i := 31) rfl)))
    · exact va_eqt (z := 1) (hf (Cond.eq (.elem (.static "SmokeTune$Reader" "LAW_SUMS" "[I") (.int 1)) (.int 1)) (zm79_0 _ (List.mem_of_getElem? (i := 32) rfl)))
    · exact va_eqt (z := 1) (hf (Cond.eq (.elem (.static "SmokeTune$Reader" "LAW_SUMS" "[I") (.int 2)) (.int 1)) (zm79_0 _ (List.mem_of_getElem? (i := 33) rfl)))
    · exact va_eqt (z := 0) (hf (Cond.eq (.elem (.static "SmokeTune$Reader" "LAW_SUMS" "[I") (.int 3)) (.int 0)) (zm79_0 _ (List.mem_of_getElem? (i := 34) rfl)))
    ) hA
  exact ⟨t, va_Zref (hts (.laysStatic "SmokeTune$Reader" "LAW_SUMS" "[I") (List.mem_of_getElem? (i := 726) (by decide +kernel))) (hts (.initialized "SmokeTune$Reader") (List.mem_of_getElem? (i := 147) (by decide +kernel))) ht hA, hT⟩
set_option maxHeartbeats 4000000 in
set_option maxRecDepth 100000 in
theorem gl_a5 {p : Program} {s : State} {m : MethodId} {meth : Method} {c : Code} {b L : Nat} {xs : Nat → Int32} (C0 : lw_At p s m meth c b L xs) {A : Nat → Prop} (hA : ∀ a : Nat, a < s.heap.size → ¬ A a) : ∃ t : Nat, va_Z (aC 5) (aN 5) "[I" (.ref t) A s s.heap ∧ va_T .int t (aL 5) (fun j => .int (aF 5 j)) A s s.heap := by
  obtain ⟨hx, hb, hr, hml, hown, hts, hX, hbl, hlocks, hgv⟩ := C0
  have hf := flat_of_before _ hgv
  obtain ⟨t, ht, hT⟩ := va_Tof (args := #[Value.ref b]) (s := s) (tm := .static "SmokeTune$Reader" "ORDER_SUMS" "[I") (ty := .int) (N := 4) (f := fun j => .int (aF 5 j)) (A := A) (by decide +kernel) (hf (Cond.arrayOf (.static "SmokeTune$Reader" "ORDER_SUMS" "[I") .int) (zm79_0 _ (List.mem_of_getElem? (i := 35) rfl))) (va_eqt (hf (Cond.eq (.length (.static "SmokeTune$Reader" "ORDER_SUMS" "[I")) (.int 4)) (zm79_0 _ (List.mem_of_getElem? (i := 36) rfl)))) (fun j hj => by
    rcases (show j = 0 ∨ j = 1 ∨ j = 2 ∨ j = 3 by omega) with rfl | rfl | rfl | rfl
    · exact va_eqt (z := 1) (hf (Cond.eq (.elem (.static "SmokeTune$Reader" "ORDER_SUMS" "[I") (.int 0)) (.int 1)) (zm79_0 _ (List.mem_of_getElem? (i := 37) rfl)))
    · exact va_eqt (z := 2) (hf (Cond.eq (.elem (.static "SmokeTune$Reader" "ORDER_SUMS" "[I") (.int 1)) (.int 2)) (zm79_0 _ (List.mem_of_getElem? (i := 38) rfl)))
    · exact va_eqt (z := 2) (hf (Cond.eq (.elem (.static "SmokeTune$Reader" "ORDER_SUMS" "[I") (.int 2)) (.int 2)) (zm79_0 _ (List.mem_of_getElem? (i := 39) rfl)))
    · exact va_eqt (z := 0) (hf (Cond.eq (.elem (.static "SmokeTune$Reader" "ORDER_SUMS" "[I") (.int 3)) (.int 0)) (zm79_0 _ (List.mem_of_getElem? (i := 40) rfl)))
    ) hA
  exact ⟨t, va_Zref (hts (.laysStatic "SmokeTune$Reader" "ORDER_SUMS" "[I") (List.mem_of_getElem? (i := 736) (by decide +kernel))) (hts (.initialized "SmokeTune$Reader") (List.mem_of_getElem? (i := 147) (by decide +kernel))) ht hA, hT⟩
set_option maxHeartbeats 4000000 in
set_option maxRecDepth 100000 in
theorem gl_a6 {p : Program} {s : State} {m : MethodId} {meth : Method} {c : Code} {b L : Nat} {xs : Nat → Int32} (C0 : lw_At p s m meth c b L xs) {A : Nat → Prop} (hA : ∀ a : Nat, a < s.heap.size → ¬ A a) : ∃ t : Nat, va_Z (aC 6) (aN 6) "[I" (.ref t) A s s.heap ∧ va_T .int t (aL 6) (fun j => .int (aF 6 j)) A s s.heap := by
  obtain ⟨hx, hb, hr, hml, hown, hts, hX, hbl, hlocks, hgv⟩ := C0
  have hf := flat_of_before _ hgv
  obtain ⟨t, ht, hT⟩ := va_Tof (args := #[Value.ref b]) (s := s) (tm := .static "SmokeTune$Reader" "TELLING_FROM" "[I") (ty := .int) (N := 3) (f := fun j => .int (aF 6 j)) (A := A) (by decide +kernel) (hf (Cond.arrayOf (.static "SmokeTune$Reader" "TELLING_FROM" "[I") .int) (zm79_0 _ (List.mem_of_getElem? (i := 41) rfl))) (va_eqt (hf (Cond.eq (.length (.static "SmokeTune$Reader" "TELLING_FROM" "[I")) (.int 3)) (zm79_0 _ (List.mem_of_getElem? (i := 42) rfl)))) (fun j hj => by
    rcases (show j = 0 ∨ j = 1 ∨ j = 2 by omega) with rfl | rfl | rfl
    · exact va_eqt (z := 5) (hf (Cond.eq (.elem (.static "SmokeTune$Reader" "TELLING_FROM" "[I") (.int 0)) (.int 5)) (zm79_0 _ (List.mem_of_getElem? (i := 43) rfl)))
    · exact va_eqt (z := 13) (hf (Cond.eq (.elem (.static "SmokeTune$Reader" "TELLING_FROM" "[I") (.int 1)) (.int 13)) (zm79_0 _ (List.mem_of_getElem? (i := 44) rfl)))
    · exact va_eqt (z := 21) (hf (Cond.eq (.elem (.static "SmokeTune$Reader" "TELLING_FROM" "[I") (.int 2)) (.int 21)) (zm79_0 _ (List.mem_of_getElem? (i := 45) rfl)))
    ) hA
  exact ⟨t, va_Zref (hts (.laysStatic "SmokeTune$Reader" "TELLING_FROM" "[I") (List.mem_of_getElem? (i := 758) (by decide +kernel))) (hts (.initialized "SmokeTune$Reader") (List.mem_of_getElem? (i := 147) (by decide +kernel))) ht hA, hT⟩
set_option maxHeartbeats 4000000 in
set_option maxRecDepth 100000 in
theorem gl_a7 {p : Program} {s : State} {m : MethodId} {meth : Method} {c : Code} {b L : Nat} {xs : Nat → Int32} (C0 : lw_At p s m meth c b L xs) {A : Nat → Prop} (hA : ∀ a : Nat, a < s.heap.size → ¬ A a) : ∃ t : Nat, va_Z (aC 7) (aN 7) "[I" (.ref t) A s s.heap ∧ va_T .int t (aL 7) (fun j => .int (aF 7 j)) A s s.heap := by
  obtain ⟨hx, hb, hr, hml, hown, hts, hX, hbl, hlocks, hgv⟩ := C0
  have hf := flat_of_before _ hgv
  obtain ⟨t, ht, hT⟩ := va_Tof (args := #[Value.ref b]) (s := s) (tm := .static "SmokeTune$Reader" "TELLING_MOST" "[I") (ty := .int) (N := 3) (f := fun j => .int (aF 7 j)) (A := A) (by decide +kernel) (hf (Cond.arrayOf (.static "SmokeTune$Reader" "TELLING_MOST" "[I") .int) (zm79_0 _ (List.mem_of_getElem? (i := 46) rfl))) (va_eqt (hf (Cond.eq (.length (.static "SmokeTune$Reader" "TELLING_MOST" "[I")) (.int 3)) (zm79_0 _ (List.mem_of_getElem? (i := 47) rfl)))) (fun j hj => by
    rcases (show j = 0 ∨ j = 1 ∨ j = 2 by omega) with rfl | rfl | rfl
    · exact va_eqt (z := 7) (hf (Cond.eq (.elem (.static "SmokeTune$Reader" "TELLING_MOST" "[I") (.int 0)) (.int 7)) (zm79_1 _ (List.mem_of_getElem? (i := 0) rfl)))
    · exact va_eqt (z := 7) (hf (Cond.eq (.elem (.static "SmokeTune$Reader" "TELLING_MOST" "[I") (.int 1)) (.int 7)) (zm79_1 _ (List.mem_of_getElem? (i := 1) rfl)))
    · exact va_eqt (z := 6) (hf (Cond.eq (.elem (.static "SmokeTune$Reader" "TELLING_MOST" "[I") (.int 2)) (.int 6)) (zm79_1 _ (List.mem_of_getElem? (i := 2) rfl)))
    ) hA
  exact ⟨t, va_Zref (hts (.laysStatic "SmokeTune$Reader" "TELLING_MOST" "[I") (List.mem_of_getElem? (i := 760) (by decide +kernel))) (hts (.initialized "SmokeTune$Reader") (List.mem_of_getElem? (i := 147) (by decide +kernel))) ht hA, hT⟩
set_option maxHeartbeats 4000000 in
set_option maxRecDepth 100000 in
theorem gl_s0 {p : Program} {s : State} {m : MethodId} {meth : Method} {c : Code} {b L : Nat} {xs : Nat → Int32} (C0 : lw_At p s m meth c b L xs) {A : Nat → Prop} (hA : ∀ a : Nat, a < s.heap.size → ¬ A a) : ∃ q v : Nat, vk_R RX6 (sI 0) (sT 0) q s ∧ GS q v (sn 0) (sf 0) A s s.heap := by
  obtain ⟨hx, hb, hr, hml, hown, hts, hX, hbl, hlocks, hgv⟩ := C0
  have hf := flat_of_before _ hgv
  obtain ⟨adK, adV, hSS, hev⟩ := vk_Sof (args := #[Value.ref b]) (s := s) (N := 1) (tm := fun _ => .string "SmokeTune$Reader" 63) (len := [23]) (byt := [[98, 117, 114, 110, 115, 32, 102, 108, 97, 114, 101, 115, 32, 102, 105, 110, 101, 115, 32, 98, 97, 114, 115]]) (A := A) (fun i hi => by obtain rfl : i = 0 := (by omega); decide)
    (fun i hi => by obtain rfl : i = 0 := (by omega); exact hf (Cond.exactly (.string "SmokeTune$Reader" 63) "java/lang/String") (zm79_1 _ (List.mem_of_getElem? (i := 3) rfl)))
    (fun i hi => by obtain rfl : i = 0 := (by omega); exact hf (Cond.eq (.field (.string "SmokeTune$Reader" 63) "java/lang/String" "coder" "B") (.int 0)) (zm79_1 _ (List.mem_of_getElem? (i := 4) rfl)))
    (fun i hi => by obtain rfl : i = 0 := (by omega); exact hf (Cond.arrayOf (.field (.string "SmokeTune$Reader" 63) "java/lang/String" "value" "[B") .byte) (zm79_1 _ (List.mem_of_getElem? (i := 5) rfl)))
    (fun i hi => by obtain rfl : i = 0 := (by omega); exact hf (Cond.eq (.length (.field (.string "SmokeTune$Reader" 63) "java/lang/String" "value" "[B")) (.int 23)) (zm79_1 _ (List.mem_of_getElem? (i := 6) rfl)))
    (fun i hi => by
      obtain rfl : i = 0 := (by omega)
      intro j hj
      have hj : j < 23 := hj
      rcases (show j = 0 ∨ j = 1 ∨ j = 2 ∨ j = 3 ∨ j = 4 ∨ j = 5 ∨ j = 6 ∨ j = 7 ∨ j = 8 ∨ j = 9 ∨ j = 10 ∨ j = 11 ∨ j = 12 ∨ j = 13 ∨ j = 14 ∨ j = 15 ∨ j = 16 ∨ j = 17 ∨ j = 18 ∨ j = 19 ∨ j = 20 ∨ j = 21 ∨ j = 22 by omega) with rfl | rfl | rfl | rfl | rfl | rfl | rfl | rfl | rfl | rfl | rfl | rfl | rfl | rfl | rfl | rfl | rfl | rfl | rfl | rfl | rfl | rfl | rfl
      · exact hf (Cond.eq (.elem (.field (.string "SmokeTune$Reader" 63) "java/lang/String" "value" "[B") (.int 0)) (.int 98)) (zm79_1 _ (List.mem_of_getElem? (i := 7) rfl))
      · exact hf (Cond.eq (.elem (.field (.string "SmokeTune$Reader" 63) "java/lang/String" "value" "[B") (.int 1)) (.int 117)) (zm79_1 _ (List.mem_of_getElem? (i := 8) rfl))
      · exact hf (Cond.eq (.elem (.field (.string "SmokeTune$Reader" 63) "java/lang/String" "value" "[B") (.int 2)) (.int 114)) (zm79_1 _ (List.mem_of_getElem? (i := 9) rfl))
      · exact hf (Cond.eq (.elem (.field (.string "SmokeTune$Reader" 63) "java/lang/String" "value" "[B") (.int 3)) (.int 110)) (zm79_1 _ (List.mem_of_getElem? (i := 10) rfl))
      · exact hf (Cond.eq (.elem (.field (.string "SmokeTune$Reader" 63) "java/lang/String" "value" "[B") (.int 4)) (.int 115)) (zm79_1 _ (List.mem_of_getElem? (i := 11) rfl))
      · exact hf (Cond.eq (.elem (.field (.string "SmokeTune$Reader" 63) "java/lang/String" "value" "[B") (.int 5)) (.int 32)) (zm79_1 _ (List.mem_of_getElem? (i := 12) rfl))
      · exact hf (Cond.eq (.elem (.field (.string "SmokeTune$Reader" 63) "java/lang/String" "value" "[B") (.int 6)) (.int 102)) (zm79_1 _ (List.mem_of_getElem? (i := 13) rfl))
      · exact hf (Cond.eq (.elem (.field (.string "SmokeTune$Reader" 63) "java/lang/String" "value" "[B") (.int 7)) (.int 108)) (zm79_1 _ (List.mem_of_getElem? (i := 14) rfl))
      · exact hf (Cond.eq (.elem (.field (.string "SmokeTune$Reader" 63) "java/lang/String" "value" "[B") (.int 8)) (.int 97)) (zm79_1 _ (List.mem_of_getElem? (i := 15) rfl))
      · exact hf (Cond.eq (.elem (.field (.string "SmokeTune$Reader" 63) "java/lang/String" "value" "[B") (.int 9)) (.int 114)) (zm79_1 _ (List.mem_of_getElem? (i := 16) rfl))
      · exact hf (Cond.eq (.elem (.field (.string "SmokeTune$Reader" 63) "java/lang/String" "value" "[B") (.int 10)) (.int 101)) (zm79_1 _ (List.mem_of_getElem? (i := 17) rfl))
      · exact hf (Cond.eq (.elem (.field (.string "SmokeTune$Reader" 63) "java/lang/String" "value" "[B") (.int 11)) (.int 115)) (zm79_1 _ (List.mem_of_getElem? (i := 18) rfl))
      · exact hf (Cond.eq (.elem (.field (.string "SmokeTune$Reader" 63) "java/lang/String" "value" "[B") (.int 12)) (.int 32)) (zm79_1 _ (List.mem_of_getElem? (i := 19) rfl))
      · exact hf (Cond.eq (.elem (.field (.string "SmokeTune$Reader" 63) "java/lang/String" "value" "[B") (.int 13)) (.int 102)) (zm79_1 _ (List.mem_of_getElem? (i := 20) rfl))
      · exact hf (Cond.eq (.elem (.field (.string "SmokeTune$Reader" 63) "java/lang/String" "value" "[B") (.int 14)) (.int 105)) (zm79_1 _ (List.mem_of_getElem? (i := 21) rfl))
      · exact hf (Cond.eq (.elem (.field (.string "SmokeTune$Reader" 63) "java/lang/String" "value" "[B") (.int 15)) (.int 110)) (zm79_1 _ (List.mem_of_getElem? (i := 22) rfl))
      · exact hf (Cond.eq (.elem (.field (.string "SmokeTune$Reader" 63) "java/lang/String" "value" "[B") (.int 16)) (.int 101)) (zm79_1 _ (List.mem_of_getElem? (i := 23) rfl))
      · exact hf (Cond.eq (.elem (.field (.string "SmokeTune$Reader" 63) "java/lang/String" "value" "[B") (.int 17)) (.int 115)) (zm79_1 _ (List.mem_of_getElem? (i := 24) rfl))
      · exact hf (Cond.eq (.elem (.field (.string "SmokeTune$Reader" 63) "java/lang/String" "value" "[B") (.int 18)) (.int 32)) (zm79_1 _ (List.mem_of_getElem? (i := 25) rfl))
      · exact hf (Cond.eq (.elem (.field (.string "SmokeTune$Reader" 63) "java/lang/String" "value" "[B") (.int 19)) (.int 98)) (zm79_1 _ (List.mem_of_getElem? (i := 26) rfl))
      · exact hf (Cond.eq (.elem (.field (.string "SmokeTune$Reader" 63) "java/lang/String" "value" "[B") (.int 20)) (.int 97)) (zm79_1 _ (List.mem_of_getElem? (i := 27) rfl))
      · exact hf (Cond.eq (.elem (.field (.string "SmokeTune$Reader" 63) "java/lang/String" "value" "[B") (.int 21)) (.int 114)) (zm79_1 _ (List.mem_of_getElem? (i := 28) rfl))
      · exact hf (Cond.eq (.elem (.field (.string "SmokeTune$Reader" 63) "java/lang/String" "value" "[B") (.int 22)) (.int 115)) (zm79_1 _ (List.mem_of_getElem? (i := 29) rfl))
      )
    (fun i j hi hj hij => absurd (show i = j by omega) hij) hA
  exact ⟨adK 0, adV 0, vk_R.of (A := #[Value.ref b]) (hts (.stringRef "SmokeTune$Reader" 63 "burns flares fines bars") (List.mem_of_getElem? (i := 671) (by decide +kernel))) (hev 0 (by decide +kernel)), hSS.1 0 (by decide +kernel)⟩
set_option maxHeartbeats 4000000 in
set_option maxRecDepth 100000 in
theorem gl_s1 {p : Program} {s : State} {m : MethodId} {meth : Method} {c : Code} {b L : Nat} {xs : Nat → Int32} (C0 : lw_At p s m meth c b L xs) {A : Nat → Prop} (hA : ∀ a : Nat, a < s.heap.size → ¬ A a) : ∃ q v : Nat, vk_R RX6 (sI 1) (sT 1) q s ∧ GS q v (sn 1) (sf 1) A s s.heap := by
  obtain ⟨hx, hb, hr, hml, hown, hts, hX, hbl, hlocks, hgv⟩ := C0
  have hf := flat_of_before _ hgv
  obtain ⟨adK, adV, hSS, hev⟩ := vk_Sof (args := #[Value.ref b]) (s := s) (N := 1) (tm := fun _ => .string "SmokeTune$Reader" 65) (len := [19]) (byt := [[115, 116, 111, 107, 101, 32, 100, 97, 109, 112, 32, 98, 117, 121, 32, 112, 97, 115, 115]]) (A := A) (fun i hi => by obtain rfl : i = 0 := (by omega); decide)
    (fun i hi => by obtain rfl : i = 0 := (by omega); exact hf (Cond.exactly (.string "SmokeTune$Reader" 65) "java/lang/String") (zm79_1 _ (List.mem_of_getElem? (i := 30) rfl)))
    (fun i hi => by obtain rfl : i = 0 := (by omega); exact hf (Cond.eq (.field (.string "SmokeTune$Reader" 65) "java/lang/String" "coder" "B") (.int 0)) (zm79_1 _ (List.mem_of_getElem? (i := 31) rfl)))
    (fun i hi => by obtain rfl : i = 0 := (by omega); exact hf (Cond.arrayOf (.field (.string "SmokeTune$Reader" 65) "java/lang/String" "value" "[B") .byte) (zm79_1 _ (List.mem_of_getElem? (i := 32) rfl)))
    (fun i hi => by obtain rfl : i = 0 := (by omega); exact hf (Cond.eq (.length (.field (.string "SmokeTune$Reader" 65) "java/lang/String" "value" "[B")) (.int 19)) (zm79_1 _ (List.mem_of_getElem? (i := 33) rfl)))
    (fun i hi => by
      obtain rfl : i = 0 := (by omega)
      intro j hj
      have hj : j < 19 := hj
      rcases (show j = 0 ∨ j = 1 ∨ j = 2 ∨ j = 3 ∨ j = 4 ∨ j = 5 ∨ j = 6 ∨ j = 7 ∨ j = 8 ∨ j = 9 ∨ j = 10 ∨ j = 11 ∨ j = 12 ∨ j = 13 ∨ j = 14 ∨ j = 15 ∨ j = 16 ∨ j = 17 ∨ j = 18 by omega) with rfl | rfl | rfl | rfl | rfl | rfl | rfl | rfl | rfl | rfl | rfl | rfl | rfl | rfl | rfl | rfl | rfl | rfl | rfl
      · exact hf (Cond.eq (.elem (.field (.string "SmokeTune$Reader" 65) "java/lang/String" "value" "[B") (.int 0)) (.int 115)) (zm79_1 _ (List.mem_of_getElem? (i := 34) rfl))
      · exact hf (Cond.eq (.elem (.field (.string "SmokeTune$Reader" 65) "java/lang/String" "value" "[B") (.int 1)) (.int 116)) (zm79_1 _ (List.mem_of_getElem? (i := 35) rfl))
      · exact hf (Cond.eq (.elem (.field (.string "SmokeTune$Reader" 65) "java/lang/String" "value" "[B") (.int 2)) (.int 111)) (zm79_1 _ (List.mem_of_getElem? (i := 36) rfl))
      · exact hf (Cond.eq (.elem (.field (.string "SmokeTune$Reader" 65) "java/lang/String" "value" "[B") (.int 3)) (.int 107)) (zm79_1 _ (List.mem_of_getElem? (i := 37) rfl))
      · exact hf (Cond.eq (.elem (.field (.string "SmokeTune$Reader" 65) "java/lang/String" "value" "[B") (.int 4)) (.int 101)) (zm79_1 _ (List.mem_of_getElem? (i := 38) rfl))
      · exact hf (Cond.eq (.elem (.field (.string "SmokeTune$Reader" 65) "java/lang/String" "value" "[B") (.int 5)) (.int 32)) (zm79_1 _ (List.mem_of_getElem? (i := 39) rfl))
      · exact hf (Cond.eq (.elem (.field (.string "SmokeTune$Reader" 65) "java/lang/String" "value" "[B") (.int 6)) (.int 100)) (zm79_1 _ (List.mem_of_getElem? (i := 40) rfl))
      · exact hf (Cond.eq (.elem (.field (.string "SmokeTune$Reader" 65) "java/lang/String" "value" "[B") (.int 7)) (.int 97)) (zm79_1 _ (List.mem_of_getElem? (i := 41) rfl))
      · exact hf (Cond.eq (.elem (.field (.string "SmokeTune$Reader" 65) "java/lang/String" "value" "[B") (.int 8)) (.int 109)) (zm79_1 _ (List.mem_of_getElem? (i := 42) rfl))
      · exact hf (Cond.eq (.elem (.field (.string "SmokeTune$Reader" 65) "java/lang/String" "value" "[B") (.int 9)) (.int 112)) (zm79_1 _ (List.mem_of_getElem? (i := 43) rfl))
      · exact hf (Cond.eq (.elem (.field (.string "SmokeTune$Reader" 65) "java/lang/String" "value" "[B") (.int 10)) (.int 32)) (zm79_1 _ (List.mem_of_getElem? (i := 44) rfl))
      · exact hf (Cond.eq (.elem (.field (.string "SmokeTune$Reader" 65) "java/lang/String" "value" "[B") (.int 11)) (.int 98)) (zm79_1 _ (List.mem_of_getElem? (i := 45) rfl))
      · exact hf (Cond.eq (.elem (.field (.string "SmokeTune$Reader" 65) "java/lang/String" "value" "[B") (.int 12)) (.int 117)) (zm79_1 _ (List.mem_of_getElem? (i := 46) rfl))
      · exact hf (Cond.eq (.elem (.field (.string "SmokeTune$Reader" 65) "java/lang/String" "value" "[B") (.int 13)) (.int 121)) (zm79_1 _ (List.mem_of_getElem? (i := 47) rfl))
      · exact hf (Cond.eq (.elem (.field (.string "SmokeTune$Reader" 65) "java/lang/String" "value" "[B") (.int 14)) (.int 32)) (zm79_2 _ (List.mem_of_getElem? (i := 0) rfl))
      · exact hf (Cond.eq (.elem (.field (.string "SmokeTune$Reader" 65) "java/lang/String" "value" "[B") (.int 15)) (.int 112)) (zm79_2 _ (List.mem_of_getElem? (i := 1) rfl))
      · exact hf (Cond.eq (.elem (.field (.string "SmokeTune$Reader" 65) "java/lang/String" "value" "[B") (.int 16)) (.int 97)) (zm79_2 _ (List.mem_of_getElem? (i := 2) rfl))
      · exact hf (Cond.eq (.elem (.field (.string "SmokeTune$Reader" 65) "java/lang/String" "value" "[B") (.int 17)) (.int 115)) (zm79_2 _ (List.mem_of_getElem? (i := 3) rfl))
      · exact hf (Cond.eq (.elem (.field (.string "SmokeTune$Reader" 65) "java/lang/String" "value" "[B") (.int 18)) (.int 115)) (zm79_2 _ (List.mem_of_getElem? (i := 4) rfl))
      )
    (fun i j hi hj hij => absurd (show i = j by omega) hij) hA
  exact ⟨adK 0, adV 0, vk_R.of (A := #[Value.ref b]) (hts (.stringRef "SmokeTune$Reader" 65 "stoke damp buy pass") (List.mem_of_getElem? (i := 672) (by decide +kernel))) (hev 0 (by decide +kernel)), hSS.1 0 (by decide +kernel)⟩
set_option maxHeartbeats 4000000 in
set_option maxRecDepth 100000 in
theorem gl_s2 {p : Program} {s : State} {m : MethodId} {meth : Method} {c : Code} {b L : Nat} {xs : Nat → Int32} (C0 : lw_At p s m meth c b L xs) {A : Nat → Prop} (hA : ∀ a : Nat, a < s.heap.size → ¬ A a) : ∃ q v : Nat, vk_R RX6 (sI 2) (sT 2) q s ∧ GS q v (sn 2) (sf 2) A s s.heap := by
  obtain ⟨hx, hb, hr, hml, hown, hts, hX, hbl, hlocks, hgv⟩ := C0
  have hf := flat_of_before _ hgv
  obtain ⟨adK, adV, hSS, hev⟩ := vk_Sof (args := #[Value.ref b]) (s := s) (N := 1) (tm := fun _ => .string "SmokeTune$Reader" 82) (len := [2]) (byt := [[98, 121]]) (A := A) (fun i hi => by obtain rfl : i = 0 := (by omega); decide)
    (fun i hi => by obtain rfl : i = 0 := (by omega); exact hf (Cond.exactly (.string "SmokeTune$Reader" 82) "java/lang/String") (zm79_2 _ (List.mem_of_getElem? (i := 5) rfl)))
    (fun i hi => by obtain rfl : i = 0 := (by omega); exact hf (Cond.eq (.field (.string "SmokeTune$Reader" 82) "java/lang/String" "coder" "B") (.int 0)) (zm79_2 _ (List.mem_of_getElem? (i := 6) rfl)))
    (fun i hi => by obtain rfl : i = 0 := (by omega); exact hf (Cond.arrayOf (.field (.string "SmokeTune$Reader" 82) "java/lang/String" "value" "[B") .byte) (zm79_2 _ (List.mem_of_getElem? (i := 7) rfl)))
    (fun i hi => by obtain rfl : i = 0 := (by omega); exact hf (Cond.eq (.length (.field (.string "SmokeTune$Reader" 82) "java/lang/String" "value" "[B")) (.int 2)) (zm79_2 _ (List.mem_of_getElem? (i := 8) rfl)))
    (fun i hi => by
      obtain rfl : i = 0 := (by omega)
      intro j hj
      have hj : j < 2 := hj
      rcases (show j = 0 ∨ j = 1 by omega) with rfl | rfl
      · exact hf (Cond.eq (.elem (.field (.string "SmokeTune$Reader" 82) "java/lang/String" "value" "[B") (.int 0)) (.int 98)) (zm79_2 _ (List.mem_of_getElem? (i := 9) rfl))
      · exact hf (Cond.eq (.elem (.field (.string "SmokeTune$Reader" 82) "java/lang/String" "value" "[B") (.int 1)) (.int 121)) (zm79_2 _ (List.mem_of_getElem? (i := 10) rfl))
      )
    (fun i j hi hj hij => absurd (show i = j by omega) hij) hA
  exact ⟨adK 0, adV 0, vk_R.of (A := #[Value.ref b]) (hts (.stringRef "SmokeTune$Reader" 82 "by") (List.mem_of_getElem? (i := 737) (by decide +kernel))) (hev 0 (by decide +kernel)), hSS.1 0 (by decide +kernel)⟩
set_option maxHeartbeats 4000000 in
set_option maxRecDepth 100000 in
theorem gl_s3 {p : Program} {s : State} {m : MethodId} {meth : Method} {c : Code} {b L : Nat} {xs : Nat → Int32} (C0 : lw_At p s m meth c b L xs) {A : Nat → Prop} (hA : ∀ a : Nat, a < s.heap.size → ¬ A a) : ∃ q v : Nat, vk_R RX6 (sI 3) (sT 3) q s ∧ GS q v (sn 3) (sf 3) A s s.heap := by
  obtain ⟨hx, hb, hr, hml, hown, hts, hX, hbl, hlocks, hgv⟩ := C0
  have hf := flat_of_before _ hgv
  obtain ⟨adK, adV, hSS, hev⟩ := vk_Sof (args := #[Value.ref b]) (s := s) (N := 1) (tm := fun _ => .string "SmokeTune$Reader" 99) (len := [5]) (byt := [[116, 105, 109, 101, 115]]) (A := A) (fun i hi => by obtain rfl : i = 0 := (by omega); decide)
    (fun i hi => by obtain rfl : i = 0 := (by omega); exact hf (Cond.exactly (.string "SmokeTune$Reader" 99) "java/lang/String") (zm79_4 _ (List.mem_of_getElem? (i := 23) rfl)))
    (fun i hi => by obtain rfl : i = 0 := (by omega); exact hf (Cond.eq (.field (.string "SmokeTune$Reader" 99) "java/lang/String" "coder" "B") (.int 0)) (zm79_4 _ (List.mem_of_getElem? (i := 24) rfl)))
    (fun i hi => by obtain rfl : i = 0 := (by omega); exact hf (Cond.arrayOf (.field (.string "SmokeTune$Reader" 99) "java/lang/String" "value" "[B") .byte) (zm79_4 _ (List.mem_of_getElem? (i := 25) rfl)))
    (fun i hi => by obtain rfl : i = 0 := (by omega); exact hf (Cond.eq (.length (.field (.string "SmokeTune$Reader" 99) "java/lang/String" "value" "[B")) (.int 5)) (zm79_4 _ (List.mem_of_getElem? (i := 26) rfl)))
    (fun i hi => by
      obtain rfl : i = 0 := (by omega)
      intro j hj
      have hj : j < 5 := hj
      rcases (show j = 0 ∨ j = 1 ∨ j = 2 ∨ j = 3 ∨ j = 4 by omega) with rfl | rfl | rfl | rfl | rfl
      · exact hf (Cond.eq (.elem (.field (.string "SmokeTune$Reader" 99) "java/lang/String" "value" "[B") (.int 0)) (.int 116)) (zm79_4 _ (List.mem_of_getElem? (i := 27) rfl))
      · exact hf (Cond.eq (.elem (.field (.string "SmokeTune$Reader" 99) "java/lang/String" "value" "[B") (.int 1)) (.int 105)) (zm79_4 _ (List.mem_of_getElem? (i := 28) rfl))
      · exact hf (Cond.eq (.elem (.field (.string "SmokeTune$Reader" 99) "java/lang/String" "value" "[B") (.int 2)) (.int 109)) (zm79_4 _ (List.mem_of_getElem? (i := 29) rfl))
      · exact hf (Cond.eq (.elem (.field (.string "SmokeTune$Reader" 99) "java/lang/String" "value" "[B") (.int 3)) (.int 101)) (zm79_4 _ (List.mem_of_getElem? (i := 30) rfl))
      · exact hf (Cond.eq (.elem (.field (.string "SmokeTune$Reader" 99) "java/lang/String" "value" "[B") (.int 4)) (.int 115)) (zm79_4 _ (List.mem_of_getElem? (i := 31) rfl))
      )
    (fun i j hi hj hij => absurd (show i = j by omega) hij) hA
  exact ⟨adK 0, adV 0, vk_R.of (A := #[Value.ref b]) (hts (.stringRef "SmokeTune$Reader" 99 "times") (List.mem_of_getElem? (i := 769) (by decide +kernel))) (hev 0 (by decide +kernel)), hSS.1 0 (by decide +kernel)⟩
set_option maxHeartbeats 4000000 in
set_option maxRecDepth 100000 in
theorem gl_s4 {p : Program} {s : State} {m : MethodId} {meth : Method} {c : Code} {b L : Nat} {xs : Nat → Int32} (C0 : lw_At p s m meth c b L xs) {A : Nat → Prop} (hA : ∀ a : Nat, a < s.heap.size → ¬ A a) : ∃ q v : Nat, vk_R RX6 (sI 4) (sT 4) q s ∧ GS q v (sn 4) (sf 4) A s s.heap := by
  obtain ⟨hx, hb, hr, hml, hown, hts, hX, hbl, hlocks, hgv⟩ := C0
  have hf := flat_of_before _ hgv
  obtain ⟨adK, adV, hSS, hev⟩ := vk_Sof (args := #[Value.ref b]) (s := s) (N := 1) (tm := fun _ => .string "SmokeTune$Reader" 104) (len := [2]) (byt := [[105, 102]]) (A := A) (fun i hi => by obtain rfl : i = 0 := (by omega); decide)
    (fun i hi => by obtain rfl : i = 0 := (by omega); exact hf (Cond.exactly (.string "SmokeTune$Reader" 104) "java/lang/String") (zm79_4 _ (List.mem_of_getElem? (i := 32) rfl)))
    (fun i hi => by obtain rfl : i = 0 := (by omega); exact hf (Cond.eq (.field (.string "SmokeTune$Reader" 104) "java/lang/String" "coder" "B") (.int 0)) (zm79_4 _ (List.mem_of_getElem? (i := 33) rfl)))
    (fun i hi => by obtain rfl : i = 0 := (by omega); exact hf (Cond.arrayOf (.field (.string "SmokeTune$Reader" 104) "java/lang/String" "value" "[B") .byte) (zm79_4 _ (List.mem_of_getElem? (i := 34) rfl)))
    (fun i hi => by obtain rfl : i = 0 := (by omega); exact hf (Cond.eq (.length (.field (.string "SmokeTune$Reader" 104) "java/lang/String" "value" "[B")) (.int 2)) (zm79_4 _ (List.mem_of_getElem? (i := 35) rfl)))
    (fun i hi => by
      obtain rfl : i = 0 := (by omega)
      intro j hj
      have hj : j < 2 := hj
      rcases (show j = 0 ∨ j = 1 by omega) with rfl | rfl
      · exact hf (Cond.eq (.elem (.field (.string "SmokeTune$Reader" 104) "java/lang/String" "value" "[B") (.int 0)) (.int 105)) (zm79_4 _ (List.mem_of_getElem? (i := 36) rfl))
      · exact hf (Cond.eq (.elem (.field (.string "SmokeTune$Reader" 104) "java/lang/String" "value" "[B") (.int 1)) (.int 102)) (zm79_4 _ (List.mem_of_getElem? (i := 37) rfl))
      )
    (fun i j hi hj hij => absurd (show i = j by omega) hij) hA
  exact ⟨adK 0, adV 0, vk_R.of (A := #[Value.ref b]) (hts (.stringRef "SmokeTune$Reader" 104 "if") (List.mem_of_getElem? (i := 770) (by decide +kernel))) (hev 0 (by decide +kernel)), hSS.1 0 (by decide +kernel)⟩
set_option maxHeartbeats 4000000 in
set_option maxRecDepth 100000 in
theorem gl_s5 {p : Program} {s : State} {m : MethodId} {meth : Method} {c : Code} {b L : Nat} {xs : Nat → Int32} (C0 : lw_At p s m meth c b L xs) {A : Nat → Prop} (hA : ∀ a : Nat, a < s.heap.size → ¬ A a) : ∃ q v : Nat, vk_R RX6 (sI 5) (sT 5) q s ∧ GS q v (sn 5) (sf 5) A s s.heap := by
  obtain ⟨hx, hb, hr, hml, hown, hts, hX, hbl, hlocks, hgv⟩ := C0
  have hf := flat_of_before _ hgv
  obtain ⟨adK, adV, hSS, hev⟩ := vk_Sof (args := #[Value.ref b]) (s := s) (N := 1) (tm := fun _ => .string "SmokeTune$Reader" 125) (len := [3]) (byt := [[97, 110, 100]]) (A := A) (fun i hi => by obtain rfl : i = 0 := (by omega); decide)
    (fun i hi => by obtain rfl : i = 0 := (by omega); exact hf (Cond.exactly (.string "SmokeTune$Reader" 125) "java/lang/String") (zm79_5 _ (List.mem_of_getElem? (i := 4) rfl)))
    (fun i hi => by obtain rfl : i = 0 := (by omega); exact hf (Cond.eq (.field (.string "SmokeTune$Reader" 125) "java/lang/String" "coder" "B") (.int 0)) (zm79_5 _ (List.mem_of_getElem? (i := 5) rfl)))
    (fun i hi => by obtain rfl : i = 0 := (by omega); exact hf (Cond.arrayOf (.field (.string "SmokeTune$Reader" 125) "java/lang/String" "value" "[B") .byte) (zm79_5 _ (List.mem_of_getElem? (i := 6) rfl)))
    (fun i hi => by obtain rfl : i = 0 := (by omega); exact hf (Cond.eq (.length (.field (.string "SmokeTune$Reader" 125) "java/lang/String" "value" "[B")) (.int 3)) (zm79_5 _ (List.mem_of_getElem? (i := 7) rfl)))
    (fun i hi => by
      obtain rfl : i = 0 := (by omega)
      intro j hj
      have hj : j < 3 := hj
      rcases (show j = 0 ∨ j = 1 ∨ j = 2 by omega) with rfl | rfl | rfl
      · exact hf (Cond.eq (.elem (.field (.string "SmokeTune$Reader" 125) "java/lang/String" "value" "[B") (.int 0)) (.int 97)) (zm79_5 _ (List.mem_of_getElem? (i := 8) rfl))
      · exact hf (Cond.eq (.elem (.field (.string "SmokeTune$Reader" 125) "java/lang/String" "value" "[B") (.int 1)) (.int 110)) (zm79_5 _ (List.mem_of_getElem? (i := 9) rfl))
      · exact hf (Cond.eq (.elem (.field (.string "SmokeTune$Reader" 125) "java/lang/String" "value" "[B") (.int 2)) (.int 100)) (zm79_5 _ (List.mem_of_getElem? (i := 10) rfl))
      )
    (fun i j hi hj hij => absurd (show i = j by omega) hij) hA
  exact ⟨adK 0, adV 0, vk_R.of (A := #[Value.ref b]) (hts (.stringRef "SmokeTune$Reader" 125 "and") (List.mem_of_getElem? (i := 785) (by decide +kernel))) (hev 0 (by decide +kernel)), hSS.1 0 (by decide +kernel)⟩
set_option maxHeartbeats 4000000 in
set_option maxRecDepth 100000 in
theorem gl_s6 {p : Program} {s : State} {m : MethodId} {meth : Method} {c : Code} {b L : Nat} {xs : Nat → Int32} (C0 : lw_At p s m meth c b L xs) {A : Nat → Prop} (hA : ∀ a : Nat, a < s.heap.size → ¬ A a) : ∃ q v : Nat, vk_R RX6 (sI 6) (sT 6) q s ∧ GS q v (sn 6) (sf 6) A s s.heap := by
  obtain ⟨hx, hb, hr, hml, hown, hts, hX, hbl, hlocks, hgv⟩ := C0
  have hf := flat_of_before _ hgv
  obtain ⟨adK, adV, hSS, hev⟩ := vk_Sof (args := #[Value.ref b]) (s := s) (N := 1) (tm := fun _ => .string "SmokeTune$Reader" 127) (len := [2]) (byt := [[111, 114]]) (A := A) (fun i hi => by obtain rfl : i = 0 := (by omega); decide)
    (fun i hi => by obtain rfl : i = 0 := (by omega); exact hf (Cond.exactly (.string "SmokeTune$Reader" 127) "java/lang/String") (zm79_5 _ (List.mem_of_getElem? (i := 11) rfl)))
    (fun i hi => by obtain rfl : i = 0 := (by omega); exact hf (Cond.eq (.field (.string "SmokeTune$Reader" 127) "java/lang/String" "coder" "B") (.int 0)) (zm79_5 _ (List.mem_of_getElem? (i := 12) rfl)))
    (fun i hi => by obtain rfl : i = 0 := (by omega); exact hf (Cond.arrayOf (.field (.string "SmokeTune$Reader" 127) "java/lang/String" "value" "[B") .byte) (zm79_5 _ (List.mem_of_getElem? (i := 13) rfl)))
    (fun i hi => by obtain rfl : i = 0 := (by omega); exact hf (Cond.eq (.length (.field (.string "SmokeTune$Reader" 127) "java/lang/String" "value" "[B")) (.int 2)) (zm79_5 _ (List.mem_of_getElem? (i := 14) rfl)))
    (fun i hi => by
      obtain rfl : i = 0 := (by omega)
      intro j hj
      have hj : j < 2 := hj
      rcases (show j = 0 ∨ j = 1 by omega) with rfl | rfl
      · exact hf (Cond.eq (.elem (.field (.string "SmokeTune$Reader" 127) "java/lang/String" "value" "[B") (.int 0)) (.int 111)) (zm79_5 _ (List.mem_of_getElem? (i := 15) rfl))
      · exact hf (Cond.eq (.elem (.field (.string "SmokeTune$Reader" 127) "java/lang/String" "value" "[B") (.int 1)) (.int 114)) (zm79_5 _ (List.mem_of_getElem? (i := 16) rfl))
      )
    (fun i j hi hj hij => absurd (show i = j by omega) hij) hA
  exact ⟨adK 0, adV 0, vk_R.of (A := #[Value.ref b]) (hts (.stringRef "SmokeTune$Reader" 127 "or") (List.mem_of_getElem? (i := 786) (by decide +kernel))) (hev 0 (by decide +kernel)), hSS.1 0 (by decide +kernel)⟩
set_option maxHeartbeats 4000000 in
set_option maxRecDepth 100000 in
theorem gl_s7 {p : Program} {s : State} {m : MethodId} {meth : Method} {c : Code} {b L : Nat} {xs : Nat → Int32} (C0 : lw_At p s m meth c b L xs) {A : Nat → Prop} (hA : ∀ a : Nat, a < s.heap.size → ¬ A a) : ∃ q v : Nat, vk_R RX6 (sI 7) (sT 7) q s ∧ GS q v (sn 7) (sf 7) A s s.heap := by
  obtain ⟨hx, hb, hr, hml, hown, hts, hX, hbl, hlocks, hgv⟩ := C0
  have hf := flat_of_before _ hgv
  obtain ⟨adK, adV, hSS, hev⟩ := vk_Sof (args := #[Value.ref b]) (s := s) (N := 1) (tm := fun _ => .string "SmokeTune$Reader" 129) (len := [3]) (byt := [[110, 111, 116]]) (A := A) (fun i hi => by obtain rfl : i = 0 := (by omega); decide)
    (fun i hi => by obtain rfl : i = 0 := (by omega); exact hf (Cond.exactly (.string "SmokeTune$Reader" 129) "java/lang/String") (zm79_4 _ (List.mem_of_getElem? (i := 38) rfl)))
    (fun i hi => by obtain rfl : i = 0 := (by omega); exact hf (Cond.eq (.field (.string "SmokeTune$Reader" 129) "java/lang/String" "coder" "B") (.int 0)) (zm79_4 _ (List.mem_of_getElem? (i := 39) rfl)))
    (fun i hi => by obtain rfl : i = 0 := (by omega); exact hf (Cond.arrayOf (.field (.string "SmokeTune$Reader" 129) "java/lang/String" "value" "[B") .byte) (zm79_4 _ (List.mem_of_getElem? (i := 40) rfl)))
    (fun i hi => by obtain rfl : i = 0 := (by omega); exact hf (Cond.eq (.length (.field (.string "SmokeTune$Reader" 129) "java/lang/String" "value" "[B")) (.int 3)) (zm79_4 _ (List.mem_of_getElem? (i := 41) rfl)))
    (fun i hi => by
      obtain rfl : i = 0 := (by omega)
      intro j hj
      have hj : j < 3 := hj
      rcases (show j = 0 ∨ j = 1 ∨ j = 2 by omega) with rfl | rfl | rfl
      · exact hf (Cond.eq (.elem (.field (.string "SmokeTune$Reader" 129) "java/lang/String" "value" "[B") (.int 0)) (.int 110)) (zm79_4 _ (List.mem_of_getElem? (i := 42) rfl))
      · exact hf (Cond.eq (.elem (.field (.string "SmokeTune$Reader" 129) "java/lang/String" "value" "[B") (.int 1)) (.int 111)) (zm79_4 _ (List.mem_of_getElem? (i := 43) rfl))
      · exact hf (Cond.eq (.elem (.field (.string "SmokeTune$Reader" 129) "java/lang/String" "value" "[B") (.int 2)) (.int 116)) (zm79_4 _ (List.mem_of_getElem? (i := 44) rfl))
      )
    (fun i j hi hj hij => absurd (show i = j by omega) hij) hA
  exact ⟨adK 0, adV 0, vk_R.of (A := #[Value.ref b]) (hts (.stringRef "SmokeTune$Reader" 129 "not") (List.mem_of_getElem? (i := 779) (by decide +kernel))) (hev 0 (by decide +kernel)), hSS.1 0 (by decide +kernel)⟩
set_option maxHeartbeats 4000000 in
set_option maxRecDepth 100000 in
theorem gl_s8 {p : Program} {s : State} {m : MethodId} {meth : Method} {c : Code} {b L : Nat} {xs : Nat → Int32} (C0 : lw_At p s m meth c b L xs) {A : Nat → Prop} (hA : ∀ a : Nat, a < s.heap.size → ¬ A a) : ∃ q v : Nat, vk_R RX6 (sI 8) (sT 8) q s ∧ GS q v (sn 8) (sf 8) A s s.heap := by
  obtain ⟨hx, hb, hr, hml, hown, hts, hX, hbl, hlocks, hgv⟩ := C0
  have hf := flat_of_before _ hgv
  obtain ⟨adK, adV, hSS, hev⟩ := vk_Sof (args := #[Value.ref b]) (s := s) (N := 1) (tm := fun _ => .string "SmokeTune$Reader" 131) (len := [3]) (byt := [[60, 62, 61]]) (A := A) (fun i hi => by obtain rfl : i = 0 := (by omega); decide)
    (fun i hi => by obtain rfl : i = 0 := (by omega); exact hf (Cond.exactly (.string "SmokeTune$Reader" 131) "java/lang/String") (zm79_4 _ (List.mem_of_getElem? (i := 45) rfl)))
    (fun i hi => by obtain rfl : i = 0 := (by omega); exact hf (Cond.eq (.field (.string "SmokeTune$Reader" 131) "java/lang/String" "coder" "B") (.int 0)) (zm79_4 _ (List.mem_of_getElem? (i := 46) rfl)))
    (fun i hi => by obtain rfl : i = 0 := (by omega); exact hf (Cond.arrayOf (.field (.string "SmokeTune$Reader" 131) "java/lang/String" "value" "[B") .byte) (zm79_4 _ (List.mem_of_getElem? (i := 47) rfl)))
    (fun i hi => by obtain rfl : i = 0 := (by omega); exact hf (Cond.eq (.length (.field (.string "SmokeTune$Reader" 131) "java/lang/String" "value" "[B")) (.int 3)) (zm79_5 _ (List.mem_of_getElem? (i := 0) rfl)))
    (fun i hi => by
      obtain rfl : i = 0 := (by omega)
      intro j hj
      have hj : j < 3 := hj
      rcases (show j = 0 ∨ j = 1 ∨ j = 2 by omega) with rfl | rfl | rfl
      · exact hf (Cond.eq (.elem (.field (.string "SmokeTune$Reader" 131) "java/lang/String" "value" "[B") (.int 0)) (.int 60)) (zm79_5 _ (List.mem_of_getElem? (i := 1) rfl))
      · exact hf (Cond.eq (.elem (.field (.string "SmokeTune$Reader" 131) "java/lang/String" "value" "[B") (.int 1)) (.int 62)) (zm79_5 _ (List.mem_of_getElem? (i := 2) rfl))
      · exact hf (Cond.eq (.elem (.field (.string "SmokeTune$Reader" 131) "java/lang/String" "value" "[B") (.int 2)) (.int 61)) (zm79_5 _ (List.mem_of_getElem? (i := 3) rfl))
      )
    (fun i j hi hj hij => absurd (show i = j by omega) hij) hA
  exact ⟨adK 0, adV 0, vk_R.of (A := #[Value.ref b]) (hts (.stringRef "SmokeTune$Reader" 131 "<>=") (List.mem_of_getElem? (i := 780) (by decide +kernel))) (hev 0 (by decide +kernel)), hSS.1 0 (by decide +kernel)⟩
set_option maxHeartbeats 4000000 in
set_option maxRecDepth 100000 in
theorem gl_s9 {p : Program} {s : State} {m : MethodId} {meth : Method} {c : Code} {b L : Nat} {xs : Nat → Int32} (C0 : lw_At p s m meth c b L xs) {A : Nat → Prop} (hA : ∀ a : Nat, a < s.heap.size → ¬ A a) : ∃ q v : Nat, vk_R RX6 (sI 9) (sT 9) q s ∧ GS q v (sn 9) (sf 9) A s s.heap := by
  obtain ⟨hx, hb, hr, hml, hown, hts, hX, hbl, hlocks, hgv⟩ := C0
  have hf := flat_of_before _ hgv
  obtain ⟨adK, adV, hSS, hev⟩ := vk_Sof (args := #[Value.ref b]) (s := s) (N := 1) (tm := fun _ => .string "SmokeTune$Reader" 140) (len := [3]) (byt := [[42, 47, 37]]) (A := A) (fun i hi => by obtain rfl : i = 0 := (by omega); decide)
    (fun i hi => by obtain rfl : i = 0 := (by omega); exact hf (Cond.exactly (.string "SmokeTune$Reader" 140) "java/lang/String") (zm79_4 _ (List.mem_of_getElem? (i := 10) rfl)))
    (fun i hi => by obtain rfl : i = 0 := (by omega); exact hf (Cond.eq (.field (.string "SmokeTune$Reader" 140) "java/lang/String" "coder" "B") (.int 0)) (zm79_4 _ (List.mem_of_getElem? (i := 11) rfl)))
    (fun i hi => by obtain rfl : i = 0 := (by omega); exact hf (Cond.arrayOf (.field (.string "SmokeTune$Reader" 140) "java/lang/String" "value" "[B") .byte) (zm79_4 _ (List.mem_of_getElem? (i := 12) rfl)))
    (fun i hi => by obtain rfl : i = 0 := (by omega); exact hf (Cond.eq (.length (.field (.string "SmokeTune$Reader" 140) "java/lang/String" "value" "[B")) (.int 3)) (zm79_4 _ (List.mem_of_getElem? (i := 13) rfl)))
    (fun i hi => by
      obtain rfl : i = 0 := (by omega)
      intro j hj
      have hj : j < 3 := hj
      rcases (show j = 0 ∨ j = 1 ∨ j = 2 by omega) with rfl | rfl | rfl
      · exact hf (Cond.eq (.elem (.field (.string "SmokeTune$Reader" 140) "java/lang/String" "value" "[B") (.int 0)) (.int 42)) (zm79_4 _ (List.mem_of_getElem? (i := 14) rfl))
      · exact hf (Cond.eq (.elem (.field (.string "SmokeTune$Reader" 140) "java/lang/String" "value" "[B") (.int 1)) (.int 47)) (zm79_4 _ (List.mem_of_getElem? (i := 15) rfl))
      · exact hf (Cond.eq (.elem (.field (.string "SmokeTune$Reader" 140) "java/lang/String" "value" "[B") (.int 2)) (.int 37)) (zm79_4 _ (List.mem_of_getElem? (i := 16) rfl))
      )
    (fun i j hi hj hij => absurd (show i = j by omega) hij) hA
  exact ⟨adK 0, adV 0, vk_R.of (A := #[Value.ref b]) (hts (.stringRef "SmokeTune$Reader" 140 "*/%") (List.mem_of_getElem? (i := 761) (by decide +kernel))) (hev 0 (by decide +kernel)), hSS.1 0 (by decide +kernel)⟩
set_option maxHeartbeats 4000000 in
set_option maxRecDepth 100000 in
theorem gl_s10 {p : Program} {s : State} {m : MethodId} {meth : Method} {c : Code} {b L : Nat} {xs : Nat → Int32} (C0 : lw_At p s m meth c b L xs) {A : Nat → Prop} (hA : ∀ a : Nat, a < s.heap.size → ¬ A a) : ∃ q v : Nat, vk_R RX6 (sI 10) (sT 10) q s ∧ GS q v (sn 10) (sf 10) A s s.heap := by
  obtain ⟨hx, hb, hr, hml, hown, hts, hX, hbl, hlocks, hgv⟩ := C0
  have hf := flat_of_before _ hgv
  obtain ⟨adK, adV, hSS, hev⟩ := vk_Sof (args := #[Value.ref b]) (s := s) (N := 1) (tm := fun _ => .string "SmokeTune$Reader" 142) (len := [2]) (byt := [[43, 45]]) (A := A) (fun i hi => by obtain rfl : i = 0 := (by omega); decide)
    (fun i hi => by obtain rfl : i = 0 := (by omega); exact hf (Cond.exactly (.string "SmokeTune$Reader" 142) "java/lang/String") (zm79_4 _ (List.mem_of_getElem? (i := 17) rfl)))
    (fun i hi => by obtain rfl : i = 0 := (by omega); exact hf (Cond.eq (.field (.string "SmokeTune$Reader" 142) "java/lang/String" "coder" "B") (.int 0)) (zm79_4 _ (List.mem_of_getElem? (i := 18) rfl)))
    (fun i hi => by obtain rfl : i = 0 := (by omega); exact hf (Cond.arrayOf (.field (.string "SmokeTune$Reader" 142) "java/lang/String" "value" "[B") .byte) (zm79_4 _ (List.mem_of_getElem? (i := 19) rfl)))
    (fun i hi => by obtain rfl : i = 0 := (by omega); exact hf (Cond.eq (.length (.field (.string "SmokeTune$Reader" 142) "java/lang/String" "value" "[B")) (.int 2)) (zm79_4 _ (List.mem_of_getElem? (i := 20) rfl)))
    (fun i hi => by
      obtain rfl : i = 0 := (by omega)
      intro j hj
      have hj : j < 2 := hj
      rcases (show j = 0 ∨ j = 1 by omega) with rfl | rfl
      · exact hf (Cond.eq (.elem (.field (.string "SmokeTune$Reader" 142) "java/lang/String" "value" "[B") (.int 0)) (.int 43)) (zm79_4 _ (List.mem_of_getElem? (i := 21) rfl))
      · exact hf (Cond.eq (.elem (.field (.string "SmokeTune$Reader" 142) "java/lang/String" "value" "[B") (.int 1)) (.int 45)) (zm79_4 _ (List.mem_of_getElem? (i := 22) rfl))
      )
    (fun i j hi hj hij => absurd (show i = j by omega) hij) hA
  exact ⟨adK 0, adV 0, vk_R.of (A := #[Value.ref b]) (hts (.stringRef "SmokeTune$Reader" 142 "+-") (List.mem_of_getElem? (i := 768) (by decide +kernel))) (hev 0 (by decide +kernel)), hSS.1 0 (by decide +kernel)⟩
set_option maxHeartbeats 4000000 in
set_option maxRecDepth 100000 in
theorem gl_s11 {p : Program} {s : State} {m : MethodId} {meth : Method} {c : Code} {b L : Nat} {xs : Nat → Int32} (C0 : lw_At p s m meth c b L xs) {A : Nat → Prop} (hA : ∀ a : Nat, a < s.heap.size → ¬ A a) : ∃ q v : Nat, vk_R RX6 (sI 11) (sT 11) q s ∧ GS q v (sn 11) (sf 11) A s s.heap := by
  obtain ⟨hx, hb, hr, hml, hown, hts, hX, hbl, hlocks, hgv⟩ := C0
  have hf := flat_of_before _ hgv
  obtain ⟨adK, adV, hSS, hev⟩ := vk_Sof (args := #[Value.ref b]) (s := s) (N := 1) (tm := fun _ => .string "SmokeTune$Reader" 144) (len := [47]) (byt := [[104, 111, 117, 115, 101, 32, 110, 111, 116, 101, 32, 115, 116, 114, 101, 101, 116, 32, 102, 105, 114, 101, 32, 99, 111, 97, 108, 32, 104, 111, 117, 114, 32, 100, 97, 121, 32, 109, 111, 111, 100, 32, 111, 116, 104, 101, 114]]) (A := A) (fun i hi => by obtain rfl : i = 0 := (by omega); decide)
    (fun i hi => by obtain rfl : i = 0 := (by omega); exact hf (Cond.exactly (.string "SmokeTune$Reader" 144) "java/lang/String") (zm79_2 _ (List.mem_of_getElem? (i := 11) rfl)))
    (fun i hi => by obtain rfl : i = 0 := (by omega); exact hf (Cond.eq (.field (.string "SmokeTune$Reader" 144) "java/lang/String" "coder" "B") (.int 0)) (zm79_2 _ (List.mem_of_getElem? (i := 12) rfl)))
    (fun i hi => by obtain rfl : i = 0 := (by omega); exact hf (Cond.arrayOf (.field (.string "SmokeTune$Reader" 144) "java/lang/String" "value" "[B") .byte) (zm79_2 _ (List.mem_of_getElem? (i := 13) rfl)))
    (fun i hi => by obtain rfl : i = 0 := (by omega); exact hf (Cond.eq (.length (.field (.string "SmokeTune$Reader" 144) "java/lang/String" "value" "[B")) (.int 47)) (zm79_2 _ (List.mem_of_getElem? (i := 14) rfl)))
    (fun i hi => by
      obtain rfl : i = 0 := (by omega)
      intro j hj
      have hj : j < 47 := hj
      rcases (show j = 0 ∨ j = 1 ∨ j = 2 ∨ j = 3 ∨ j = 4 ∨ j = 5 ∨ j = 6 ∨ j = 7 ∨ j = 8 ∨ j = 9 ∨ j = 10 ∨ j = 11 ∨ j = 12 ∨ j = 13 ∨ j = 14 ∨ j = 15 ∨ j = 16 ∨ j = 17 ∨ j = 18 ∨ j = 19 ∨ j = 20 ∨ j = 21 ∨ j = 22 ∨ j = 23 ∨ j = 24 ∨ j = 25 ∨ j = 26 ∨ j = 27 ∨ j = 28 ∨ j = 29 ∨ j = 30 ∨ j = 31 ∨ j = 32 ∨ j = 33 ∨ j = 34 ∨ j = 35 ∨ j = 36 ∨ j = 37 ∨ j = 38 ∨ j = 39 ∨ j = 40 ∨ j = 41 ∨ j = 42 ∨ j = 43 ∨ j = 44 ∨ j = 45 ∨ j = 46 by omega) with rfl | rfl | rfl | rfl | rfl | rfl | rfl | rfl | rfl | rfl | rfl | rfl | rfl | rfl | rfl | rfl | rfl | rfl | rfl | rfl | rfl | rfl | rfl | rfl | rfl | rfl | rfl | rfl | rfl | rfl | rfl | rfl | rfl | rfl | rfl | rfl | rfl | rfl | rfl | rfl | rfl | rfl | rfl | rfl | rfl | rfl | rfl
      · exact hf (Cond.eq (.elem (.field (.string "SmokeTune$Reader" 144) "java/lang/String" "value" "[B") (.int 0)) (.int 104)) (zm79_2 _ (List.mem_of_getElem? (i := 15) rfl))
      · exact hf (Cond.eq (.elem (.field (.string "SmokeTune$Reader" 144) "java/lang/String" "value" "[B") (.int 1)) (.int 111)) (zm79_2 _ (List.mem_of_getElem? (i := 16) rfl))
      · exact hf (Cond.eq (.elem (.field (.string "SmokeTune$Reader" 144) "java/lang/String" "value" "[B") (.int 2)) (.int 117)) (zm79_2 _ (List.mem_of_getElem? (i := 17) rfl))
      · exact hf (Cond.eq (.elem (.field (.string "SmokeTune$Reader" 144) "java/lang/String" "value" "[B") (.int 3)) (.int 115)) (zm79_2 _ (List.mem_of_getElem? (i := 18) rfl))
      · exact hf (Cond.eq (.elem (.field (.string "SmokeTune$Reader" 144) "java/lang/String" "value" "[B") (.int 4)) (.int 101)) (zm79_2 _ (List.mem_of_getElem? (i := 19) rfl))
      · exact hf (Cond.eq (.elem (.field (.string "SmokeTune$Reader" 144) "java/lang/String" "value" "[B") (.int 5)) (.int 32)) (zm79_2 _ (List.mem_of_getElem? (i := 20) rfl))
      · exact hf (Cond.eq (.elem (.field (.string "SmokeTune$Reader" 144) "java/lang/String" "value" "[B") (.int 6)) (.int 110)) (zm79_2 _ (List.mem_of_getElem? (i := 21) rfl))
      · exact hf (Cond.eq (.elem (.field (.string "SmokeTune$Reader" 144) "java/lang/String" "value" "[B") (.int 7)) (.int 111)) (zm79_2 _ (List.mem_of_getElem? (i := 22) rfl))
      · exact hf (Cond.eq (.elem (.field (.string "SmokeTune$Reader" 144) "java/lang/String" "value" "[B") (.int 8)) (.int 116)) (zm79_2 _ (List.mem_of_getElem? (i := 23) rfl))
      · exact hf (Cond.eq (.elem (.field (.string "SmokeTune$Reader" 144) "java/lang/String" "value" "[B") (.int 9)) (.int 101)) (zm79_2 _ (List.mem_of_getElem? (i := 24) rfl))
      · exact hf (Cond.eq (.elem (.field (.string "SmokeTune$Reader" 144) "java/lang/String" "value" "[B") (.int 10)) (.int 32)) (zm79_2 _ (List.mem_of_getElem? (i := 25) rfl))
      · exact hf (Cond.eq (.elem (.field (.string "SmokeTune$Reader" 144) "java/lang/String" "value" "[B") (.int 11)) (.int 115)) (zm79_2 _ (List.mem_of_getElem? (i := 26) rfl))
      · exact hf (Cond.eq (.elem (.field (.string "SmokeTune$Reader" 144) "java/lang/String" "value" "[B") (.int 12)) (.int 116)) (zm79_2 _ (List.mem_of_getElem? (i := 27) rfl))
      · exact hf (Cond.eq (.elem (.field (.string "SmokeTune$Reader" 144) "java/lang/String" "value" "[B") (.int 13)) (.int 114)) (zm79_2 _ (List.mem_of_getElem? (i := 28) rfl))
      · exact hf (Cond.eq (.elem (.field (.string "SmokeTune$Reader" 144) "java/lang/String" "value" "[B") (.int 14)) (.int 101)) (zm79_2 _ (List.mem_of_getElem? (i := 29) rfl))
      · exact hf (Cond.eq (.elem (.field (.string "SmokeTune$Reader" 144) "java/lang/String" "value" "[B") (.int 15)) (.int 101)) (zm79_2 _ (List.mem_of_getElem? (i := 30) rfl))
      · exact hf (Cond.eq (.elem (.field (.string "SmokeTune$Reader" 144) "java/lang/String" "value" "[B") (.int 16)) (.int 116)) (zm79_2 _ (List.mem_of_getElem? (i := 31) rfl))
      · exact hf (Cond.eq (.elem (.field (.string "SmokeTune$Reader" 144) "java/lang/String" "value" "[B") (.int 17)) (.int 32)) (zm79_2 _ (List.mem_of_getElem? (i := 32) rfl))
      · exact hf (Cond.eq (.elem (.field (.string "SmokeTune$Reader" 144) "java/lang/String" "value" "[B") (.int 18)) (.int 102)) (zm79_2 _ (List.mem_of_getElem? (i := 33) rfl))
      · exact hf (Cond.eq (.elem (.field (.string "SmokeTune$Reader" 144) "java/lang/String" "value" "[B") (.int 19)) (.int 105)) (zm79_2 _ (List.mem_of_getElem? (i := 34) rfl))
      · exact hf (Cond.eq (.elem (.field (.string "SmokeTune$Reader" 144) "java/lang/String" "value" "[B") (.int 20)) (.int 114)) (zm79_2 _ (List.mem_of_getElem? (i := 35) rfl))
      · exact hf (Cond.eq (.elem (.field (.string "SmokeTune$Reader" 144) "java/lang/String" "value" "[B") (.int 21)) (.int 101)) (zm79_2 _ (List.mem_of_getElem? (i := 36) rfl))
      · exact hf (Cond.eq (.elem (.field (.string "SmokeTune$Reader" 144) "java/lang/String" "value" "[B") (.int 22)) (.int 32)) (zm79_2 _ (List.mem_of_getElem? (i := 37) rfl))
      · exact hf (Cond.eq (.elem (.field (.string "SmokeTune$Reader" 144) "java/lang/String" "value" "[B") (.int 23)) (.int 99)) (zm79_2 _ (List.mem_of_getElem? (i := 38) rfl))
      · exact hf (Cond.eq (.elem (.field (.string "SmokeTune$Reader" 144) "java/lang/String" "value" "[B") (.int 24)) (.int 111)) (zm79_2 _ (List.mem_of_getElem? (i := 39) rfl))
      · exact hf (Cond.eq (.elem (.field (.string "SmokeTune$Reader" 144) "java/lang/String" "value" "[B") (.int 25)) (.int 97)) (zm79_2 _ (List.mem_of_getElem? (i := 40) rfl))
      · exact hf (Cond.eq (.elem (.field (.string "SmokeTune$Reader" 144) "java/lang/String" "value" "[B") (.int 26)) (.int 108)) (zm79_2 _ (List.mem_of_getElem? (i := 41) rfl))
      · exact hf (Cond.eq (.elem (.field (.string "SmokeTune$Reader" 144) "java/lang/String" "value" "[B") (.int 27)) (.int 32)) (zm79_2 _ (List.mem_of_getElem? (i := 42) rfl))
      · exact hf (Cond.eq (.elem (.field (.string "SmokeTune$Reader" 144) "java/lang/String" "value" "[B") (.int 28)) (.int 104)) (zm79_2 _ (List.mem_of_getElem? (i := 43) rfl))
      · exact hf (Cond.eq (.elem (.field (.string "SmokeTune$Reader" 144) "java/lang/String" "value" "[B") (.int 29)) (.int 111)) (zm79_2 _ (List.mem_of_getElem? (i := 44) rfl))
      · exact hf (Cond.eq (.elem (.field (.string "SmokeTune$Reader" 144) "java/lang/String" "value" "[B") (.int 30)) (.int 117)) (zm79_2 _ (List.mem_of_getElem? (i := 45) rfl))
      · exact hf (Cond.eq (.elem (.field (.string "SmokeTune$Reader" 144) "java/lang/String" "value" "[B") (.int 31)) (.int 114)) (zm79_2 _ (List.mem_of_getElem? (i := 46) rfl))
      · exact hf (Cond.eq (.elem (.field (.string "SmokeTune$Reader" 144) "java/lang/String" "value" "[B") (.int 32)) (.int 32)) (zm79_2 _ (List.mem_of_getElem? (i := 47) rfl))
      · exact hf (Cond.eq (.elem (.field (.string "SmokeTune$Reader" 144) "java/lang/String" "value" "[B") (.int 33)) (.int 100)) (zm79_3 _ (List.mem_of_getElem? (i := 0) rfl))
      · exact hf (Cond.eq (.elem (.field (.string "SmokeTune$Reader" 144) "java/lang/String" "value" "[B") (.int 34)) (.int 97)) (zm79_3 _ (List.mem_of_getElem? (i := 1) rfl))
      · exact hf (Cond.eq (.elem (.field (.string "SmokeTune$Reader" 144) "java/lang/String" "value" "[B") (.int 35)) (.int 121)) (zm79_3 _ (List.mem_of_getElem? (i := 2) rfl))
      · exact hf (Cond.eq (.elem (.field (.string "SmokeTune$Reader" 144) "java/lang/String" "value" "[B") (.int 36)) (.int 32)) (zm79_3 _ (List.mem_of_getElem? (i := 3) rfl))
      · exact hf (Cond.eq (.elem (.field (.string "SmokeTune$Reader" 144) "java/lang/String" "value" "[B") (.int 37)) (.int 109)) (zm79_3 _ (List.mem_of_getElem? (i := 4) rfl))
      · exact hf (Cond.eq (.elem (.field (.string "SmokeTune$Reader" 144) "java/lang/String" "value" "[B") (.int 38)) (.int 111)) (zm79_3 _ (List.mem_of_getElem? (i := 5) rfl))
      · exact hf (Cond.eq (.elem (.field (.string "SmokeTune$Reader" 144) "java/lang/String" "value" "[B") (.int 39)) (.int 111)) (zm79_3 _ (List.mem_of_getElem? (i := 6) rfl))
      · exact hf (Cond.eq (.elem (.field (.string "SmokeTune$Reader" 144) "java/lang/String" "value" "[B") (.int 40)) (.int 100)) (zm79_3 _ (List.mem_of_getElem? (i := 7) rfl))
      · exact hf (Cond.eq (.elem (.field (.string "SmokeTune$Reader" 144) "java/lang/String" "value" "[B") (.int 41)) (.int 32)) (zm79_3 _ (List.mem_of_getElem? (i := 8) rfl))
      · exact hf (Cond.eq (.elem (.field (.string "SmokeTune$Reader" 144) "java/lang/String" "value" "[B") (.int 42)) (.int 111)) (zm79_3 _ (List.mem_of_getElem? (i := 9) rfl))
      · exact hf (Cond.eq (.elem (.field (.string "SmokeTune$Reader" 144) "java/lang/String" "value" "[B") (.int 43)) (.int 116)) (zm79_3 _ (List.mem_of_getElem? (i := 10) rfl))
      · exact hf (Cond.eq (.elem (.field (.string "SmokeTune$Reader" 144) "java/lang/String" "value" "[B") (.int 44)) (.int 104)) (zm79_3 _ (List.mem_of_getElem? (i := 11) rfl))
      · exact hf (Cond.eq (.elem (.field (.string "SmokeTune$Reader" 144) "java/lang/String" "value" "[B") (.int 45)) (.int 101)) (zm79_3 _ (List.mem_of_getElem? (i := 12) rfl))
      · exact hf (Cond.eq (.elem (.field (.string "SmokeTune$Reader" 144) "java/lang/String" "value" "[B") (.int 46)) (.int 114)) (zm79_3 _ (List.mem_of_getElem? (i := 13) rfl))
      )
    (fun i j hi hj hij => absurd (show i = j by omega) hij) hA
  exact ⟨adK 0, adV 0, vk_R.of (A := #[Value.ref b]) (hts (.stringRef "SmokeTune$Reader" 144 "house note street fire coal hour day mood other") (List.mem_of_getElem? (i := 755) (by decide +kernel))) (hev 0 (by decide +kernel)), hSS.1 0 (by decide +kernel)⟩
set_option maxHeartbeats 4000000 in
set_option maxRecDepth 100000 in
theorem gl_s12 {p : Program} {s : State} {m : MethodId} {meth : Method} {c : Code} {b L : Nat} {xs : Nat → Int32} (C0 : lw_At p s m meth c b L xs) {A : Nat → Prop} (hA : ∀ a : Nat, a < s.heap.size → ¬ A a) : ∃ q v : Nat, vk_R RX6 (sI 12) (sT 12) q s ∧ GS q v (sn 12) (sf 12) A s s.heap := by
  obtain ⟨hx, hb, hr, hml, hown, hts, hX, hbl, hlocks, hgv⟩ := C0
  have hf := flat_of_before _ hgv
  obtain ⟨adK, adV, hSS, hev⟩ := vk_Sof (args := #[Value.ref b]) (s := s) (N := 1) (tm := fun _ => .string "SmokeTune$Reader" 146) (len := [40]) (byt := [[104, 111, 117, 114, 32, 100, 97, 121, 32, 102, 105, 110, 101, 115, 32, 100, 111, 110, 101, 32, 109, 101, 116, 32, 102, 105, 114, 101, 32, 99, 111, 97, 108, 32, 115, 111, 117, 110, 100, 115]]) (A := A) (fun i hi => by obtain rfl : i = 0 := (by omega); decide)
    (fun i hi => by obtain rfl : i = 0 := (by omega); exact hf (Cond.exactly (.string "SmokeTune$Reader" 146) "java/lang/String") (zm79_3 _ (List.mem_of_getElem? (i := 14) rfl)))
    (fun i hi => by obtain rfl : i = 0 := (by omega); exact hf (Cond.eq (.field (.string "SmokeTune$Reader" 146) "java/lang/String" "coder" "B") (.int 0)) (zm79_3 _ (List.mem_of_getElem? (i := 15) rfl)))
    (fun i hi => by obtain rfl : i = 0 := (by omega); exact hf (Cond.arrayOf (.field (.string "SmokeTune$Reader" 146) "java/lang/String" "value" "[B") .byte) (zm79_3 _ (List.mem_of_getElem? (i := 16) rfl)))
    (fun i hi => by obtain rfl : i = 0 := (by omega); exact hf (Cond.eq (.length (.field (.string "SmokeTune$Reader" 146) "java/lang/String" "value" "[B")) (.int 40)) (zm79_3 _ (List.mem_of_getElem? (i := 17) rfl)))
    (fun i hi => by
      obtain rfl : i = 0 := (by omega)
      intro j hj
      have hj : j < 40 := hj
      rcases (show j = 0 ∨ j = 1 ∨ j = 2 ∨ j = 3 ∨ j = 4 ∨ j = 5 ∨ j = 6 ∨ j = 7 ∨ j = 8 ∨ j = 9 ∨ j = 10 ∨ j = 11 ∨ j = 12 ∨ j = 13 ∨ j = 14 ∨ j = 15 ∨ j = 16 ∨ j = 17 ∨ j = 18 ∨ j = 19 ∨ j = 20 ∨ j = 21 ∨ j = 22 ∨ j = 23 ∨ j = 24 ∨ j = 25 ∨ j = 26 ∨ j = 27 ∨ j = 28 ∨ j = 29 ∨ j = 30 ∨ j = 31 ∨ j = 32 ∨ j = 33 ∨ j = 34 ∨ j = 35 ∨ j = 36 ∨ j = 37 ∨ j = 38 ∨ j = 39 by omega) with rfl | rfl | rfl | rfl | rfl | rfl | rfl | rfl | rfl | rfl | rfl | rfl | rfl | rfl | rfl | rfl | rfl | rfl | rfl | rfl | rfl | rfl | rfl | rfl | rfl | rfl | rfl | rfl | rfl | rfl | rfl | rfl | rfl | rfl | rfl | rfl | rfl | rfl | rfl | rfl
      · exact hf (Cond.eq (.elem (.field (.string "SmokeTune$Reader" 146) "java/lang/String" "value" "[B") (.int 0)) (.int 104)) (zm79_3 _ (List.mem_of_getElem? (i := 18) rfl))
      · exact hf (Cond.eq (.elem (.field (.string "SmokeTune$Reader" 146) "java/lang/String" "value" "[B") (.int 1)) (.int 111)) (zm79_3 _ (List.mem_of_getElem? (i := 19) rfl))
      · exact hf (Cond.eq (.elem (.field (.string "SmokeTune$Reader" 146) "java/lang/String" "value" "[B") (.int 2)) (.int 117)) (zm79_3 _ (List.mem_of_getElem? (i := 20) rfl))
      · exact hf (Cond.eq (.elem (.field (.string "SmokeTune$Reader" 146) "java/lang/String" "value" "[B") (.int 3)) (.int 114)) (zm79_3 _ (List.mem_of_getElem? (i := 21) rfl))
      · exact hf (Cond.eq (.elem (.field (.string "SmokeTune$Reader" 146) "java/lang/String" "value" "[B") (.int 4)) (.int 32)) (zm79_3 _ (List.mem_of_getElem? (i := 22) rfl))
      · exact hf (Cond.eq (.elem (.field (.string "SmokeTune$Reader" 146) "java/lang/String" "value" "[B") (.int 5)) (.int 100)) (zm79_3 _ (List.mem_of_getElem? (i := 23) rfl))
      · exact hf (Cond.eq (.elem (.field (.string "SmokeTune$Reader" 146) "java/lang/String" "value" "[B") (.int 6)) (.int 97)) (zm79_3 _ (List.mem_of_getElem? (i := 24) rfl))
      · exact hf (Cond.eq (.elem (.field (.string "SmokeTune$Reader" 146) "java/lang/String" "value" "[B") (.int 7)) (.int 121)) (zm79_3 _ (List.mem_of_getElem? (i := 25) rfl))
      · exact hf (Cond.eq (.elem (.field (.string "SmokeTune$Reader" 146) "java/lang/String" "value" "[B") (.int 8)) (.int 32)) (zm79_3 _ (List.mem_of_getElem? (i := 26) rfl))
      · exact hf (Cond.eq (.elem (.field (.string "SmokeTune$Reader" 146) "java/lang/String" "value" "[B") (.int 9)) (.int 102)) (zm79_3 _ (List.mem_of_getElem? (i := 27) rfl))
      · exact hf (Cond.eq (.elem (.field (.string "SmokeTune$Reader" 146) "java/lang/String" "value" "[B") (.int 10)) (.int 105)) (zm79_3 _ (List.mem_of_getElem? (i := 28) rfl))
      · exact hf (Cond.eq (.elem (.field (.string "SmokeTune$Reader" 146) "java/lang/String" "value" "[B") (.int 11)) (.int 110)) (zm79_3 _ (List.mem_of_getElem? (i := 29) rfl))
      · exact hf (Cond.eq (.elem (.field (.string "SmokeTune$Reader" 146) "java/lang/String" "value" "[B") (.int 12)) (.int 101)) (zm79_3 _ (List.mem_of_getElem? (i := 30) rfl))
      · exact hf (Cond.eq (.elem (.field (.string "SmokeTune$Reader" 146) "java/lang/String" "value" "[B") (.int 13)) (.int 115)) (zm79_3 _ (List.mem_of_getElem? (i := 31) rfl))
      · exact hf (Cond.eq (.elem (.field (.string "SmokeTune$Reader" 146) "java/lang/String" "value" "[B") (.int 14)) (.int 32)) (zm79_3 _ (List.mem_of_getElem? (i := 32) rfl))
      · exact hf (Cond.eq (.elem (.field (.string "SmokeTune$Reader" 146) "java/lang/String" "value" "[B") (.int 15)) (.int 100)) (zm79_3 _ (List.mem_of_getElem? (i := 33) rfl))
      · exact hf (Cond.eq (.elem (.field (.string "SmokeTune$Reader" 146) "java/lang/String" "value" "[B") (.int 16)) (.int 111)) (zm79_3 _ (List.mem_of_getElem? (i := 34) rfl))
      · exact hf (Cond.eq (.elem (.field (.string "SmokeTune$Reader" 146) "java/lang/String" "value" "[B") (.int 17)) (.int 110)) (zm79_3 _ (List.mem_of_getElem? (i := 35) rfl))
      · exact hf (Cond.eq (.elem (.field (.string "SmokeTune$Reader" 146) "java/lang/String" "value" "[B") (.int 18)) (.int 101)) (zm79_3 _ (List.mem_of_getElem? (i := 36) rfl))
      · exact hf (Cond.eq (.elem (.field (.string "SmokeTune$Reader" 146) "java/lang/String" "value" "[B") (.int 19)) (.int 32)) (zm79_3 _ (List.mem_of_getElem? (i := 37) rfl))
      · exact hf (Cond.eq (.elem (.field (.string "SmokeTune$Reader" 146) "java/lang/String" "value" "[B") (.int 20)) (.int 109)) (zm79_3 _ (List.mem_of_getElem? (i := 38) rfl))
      · exact hf (Cond.eq (.elem (.field (.string "SmokeTune$Reader" 146) "java/lang/String" "value" "[B") (.int 21)) (.int 101)) (zm79_3 _ (List.mem_of_getElem? (i := 39) rfl))
      · exact hf (Cond.eq (.elem (.field (.string "SmokeTune$Reader" 146) "java/lang/String" "value" "[B") (.int 22)) (.int 116)) (zm79_3 _ (List.mem_of_getElem? (i := 40) rfl))
      · exact hf (Cond.eq (.elem (.field (.string "SmokeTune$Reader" 146) "java/lang/String" "value" "[B") (.int 23)) (.int 32)) (zm79_3 _ (List.mem_of_getElem? (i := 41) rfl))
      · exact hf (Cond.eq (.elem (.field (.string "SmokeTune$Reader" 146) "java/lang/String" "value" "[B") (.int 24)) (.int 102)) (zm79_3 _ (List.mem_of_getElem? (i := 42) rfl))
      · exact hf (Cond.eq (.elem (.field (.string "SmokeTune$Reader" 146) "java/lang/String" "value" "[B") (.int 25)) (.int 105)) (zm79_3 _ (List.mem_of_getElem? (i := 43) rfl))
      · exact hf (Cond.eq (.elem (.field (.string "SmokeTune$Reader" 146) "java/lang/String" "value" "[B") (.int 26)) (.int 114)) (zm79_3 _ (List.mem_of_getElem? (i := 44) rfl))
      · exact hf (Cond.eq (.elem (.field (.string "SmokeTune$Reader" 146) "java/lang/String" "value" "[B") (.int 27)) (.int 101)) (zm79_3 _ (List.mem_of_getElem? (i := 45) rfl))
      · exact hf (Cond.eq (.elem (.field (.string "SmokeTune$Reader" 146) "java/lang/String" "value" "[B") (.int 28)) (.int 32)) (zm79_3 _ (List.mem_of_getElem? (i := 46) rfl))
      · exact hf (Cond.eq (.elem (.field (.string "SmokeTune$Reader" 146) "java/lang/String" "value" "[B") (.int 29)) (.int 99)) (zm79_3 _ (List.mem_of_getElem? (i := 47) rfl))
      · exact hf (Cond.eq (.elem (.field (.string "SmokeTune$Reader" 146) "java/lang/String" "value" "[B") (.int 30)) (.int 111)) (zm79_4 _ (List.mem_of_getElem? (i := 0) rfl))
      · exact hf (Cond.eq (.elem (.field (.string "SmokeTune$Reader" 146) "java/lang/String" "value" "[B") (.int 31)) (.int 97)) (zm79_4 _ (List.mem_of_getElem? (i := 1) rfl))
      · exact hf (Cond.eq (.elem (.field (.string "SmokeTune$Reader" 146) "java/lang/String" "value" "[B") (.int 32)) (.int 108)) (zm79_4 _ (List.mem_of_getElem? (i := 2) rfl))
      · exact hf (Cond.eq (.elem (.field (.string "SmokeTune$Reader" 146) "java/lang/String" "value" "[B") (.int 33)) (.int 32)) (zm79_4 _ (List.mem_of_getElem? (i := 3) rfl))
      · exact hf (Cond.eq (.elem (.field (.string "SmokeTune$Reader" 146) "java/lang/String" "value" "[B") (.int 34)) (.int 115)) (zm79_4 _ (List.mem_of_getElem? (i := 4) rfl))
      · exact hf (Cond.eq (.elem (.field (.string "SmokeTune$Reader" 146) "java/lang/String" "value" "[B") (.int 35)) (.int 111)) (zm79_4 _ (List.mem_of_getElem? (i := 5) rfl))
      · exact hf (Cond.eq (.elem (.field (.string "SmokeTune$Reader" 146) "java/lang/String" "value" "[B") (.int 36)) (.int 117)) (zm79_4 _ (List.mem_of_getElem? (i := 6) rfl))
      · exact hf (Cond.eq (.elem (.field (.string "SmokeTune$Reader" 146) "java/lang/String" "value" "[B") (.int 37)) (.int 110)) (zm79_4 _ (List.mem_of_getElem? (i := 7) rfl))
      · exact hf (Cond.eq (.elem (.field (.string "SmokeTune$Reader" 146) "java/lang/String" "value" "[B") (.int 38)) (.int 100)) (zm79_4 _ (List.mem_of_getElem? (i := 8) rfl))
      · exact hf (Cond.eq (.elem (.field (.string "SmokeTune$Reader" 146) "java/lang/String" "value" "[B") (.int 39)) (.int 115)) (zm79_4 _ (List.mem_of_getElem? (i := 9) rfl))
      )
    (fun i j hi hj hij => absurd (show i = j by omega) hij) hA
  exact ⟨adK 0, adV 0, vk_R.of (A := #[Value.ref b]) (hts (.stringRef "SmokeTune$Reader" 146 "hour day fines done met fire coal sounds") (List.mem_of_getElem? (i := 756) (by decide +kernel))) (hev 0 (by decide +kernel)), hSS.1 0 (by decide +kernel)⟩
set_option maxHeartbeats 4000000 in
set_option maxRecDepth 100000 in
theorem gl_start {p : Program} {s : State} {m : MethodId} {meth : Method} {c : Code} {b L : Nat} {xs : Nat → Int32} (C0 : lw_At p s m meth c b L xs) {A : Nat → Prop} (hA : ∀ a : Nat, a < s.heap.size → ¬ A a) : ∃ g : Nat → Nat, Gl g A s s.heap := by
  obtain ⟨hx, hb, hr, hml, hown, hts, hX, hbl, hlocks, hgv⟩ := id C0
  have hf := flat_of_before _ hgv
  obtain ⟨t0, ha0⟩ := gl_a0 C0 hA
  obtain ⟨t1, ha1⟩ := gl_a1 C0 hA
  obtain ⟨t2, ha2⟩ := gl_a2 C0 hA
  obtain ⟨t3, ha3⟩ := gl_a3 C0 hA
  obtain ⟨t4, ha4⟩ := gl_a4 C0 hA
  obtain ⟨t5, ha5⟩ := gl_a5 C0 hA
  obtain ⟨t6, ha6⟩ := gl_a6 C0 hA
  obtain ⟨t7, ha7⟩ := gl_a7 C0 hA
  obtain ⟨q0, v0, hs0⟩ := gl_s0 C0 hA
  obtain ⟨q1, v1, hs1⟩ := gl_s1 C0 hA
  obtain ⟨q2, v2, hs2⟩ := gl_s2 C0 hA
  obtain ⟨q3, v3, hs3⟩ := gl_s3 C0 hA
  obtain ⟨q4, v4, hs4⟩ := gl_s4 C0 hA
  obtain ⟨q5, v5, hs5⟩ := gl_s5 C0 hA
  obtain ⟨q6, v6, hs6⟩ := gl_s6 C0 hA
  obtain ⟨q7, v7, hs7⟩ := gl_s7 C0 hA
  obtain ⟨q8, v8, hs8⟩ := gl_s8 C0 hA
  obtain ⟨q9, v9, hs9⟩ := gl_s9 C0 hA
  obtain ⟨q10, v10, hs10⟩ := gl_s10 C0 hA
  obtain ⟨q11, v11, hs11⟩ := gl_s11 C0 hA
  obtain ⟨q12, v12, hs12⟩ := gl_s12 C0 hA
  refine ⟨fun i => ([t0, t1, t2, t3, t4, t5, t6, t7, q0, v0, q1, v1, q2, v2, q3, v3, q4, v4, q5, v5, q6, v6, q7, v7, q8, v8, q9, v9, q10, v10, q11, v11, q12, v12] : List Nat).getD i 0, fun k hk => ?_, ⟨va_Zof (hts (.laysStatic "java/lang/String" "COMPACT_STRINGS" "Z") (List.mem_of_getElem? (i := 686) (by decide +kernel))) (hts (.initialized "java/lang/String") (List.mem_of_getElem? (i := 159) (by decide +kernel))) (va_eqi (hf (Cond.eq (.static "java/lang/String" "COMPACT_STRINGS" "Z") (.int 1)) (zm79_0 _ (List.mem_of_getElem? (i := 28) rfl)))) hA, va_Zqof (hts (.laysStatic "jdk/internal/util/Preconditions" "SIOOBE_FORMATTER" "Ljava/util/function/BiFunction;") (List.mem_of_getElem? (i := 702) (by decide +kernel))) (hts (.initialized "jdk/internal/util/Preconditions") (List.mem_of_getElem? (i := 161) (by decide +kernel))) (hf (Cond.isRef (.static "jdk/internal/util/Preconditions" SIO SIOd)) (by decide +kernel)) hA⟩, fun k hk => ?_⟩
  · rcases (show k = 0 ∨ k = 1 ∨ k = 2 ∨ k = 3 ∨ k = 4 ∨ k = 5 ∨ k = 6 ∨ k = 7 by omega) with rfl | rfl | rfl | rfl | rfl | rfl | rfl | rfl
    · exact ha0
    · exact ha1
    · exact ha2
    · exact ha3
    · exact ha4
    · exact ha5
    · exact ha6
    · exact ha7
  · rcases (show k = 0 ∨ k = 1 ∨ k = 2 ∨ k = 3 ∨ k = 4 ∨ k = 5 ∨ k = 6 ∨ k = 7 ∨ k = 8 ∨ k = 9 ∨ k = 10 ∨ k = 11 ∨ k = 12 by omega) with rfl | rfl | rfl | rfl | rfl | rfl | rfl | rfl | rfl | rfl | rfl | rfl | rfl
    · exact hs0
    · exact hs1
    · exact hs2
    · exact hs3
    · exact hs4
    · exact hs5
    · exact hs6
    · exact hs7
    · exact hs8
    · exact hs9
    · exact hs10
    · exact hs11
    · exact hs12
theorem cst_start {p : Program} {s : State} {m : MethodId} {meth : Method} {c : Code} {b L : Nat} {xs : Nat → Int32} (C0 : lw_At p s m meth c b L xs) : va_Nw CST s := by
  obtain ⟨hx, hb, hr, hml, hown, hts, hX, hbl, hlocks, hgv⟩ := C0
  exact va_Nw.of rfl (hts (.castable "[I" "java/lang/Cloneable") (List.mem_of_getElem? (i := 800) (by decide +kernel)))
end
