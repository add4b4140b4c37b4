set_option maxHeartbeats 4000000 in
set_option maxRecDepth 100000 in
theorem gl_a0 {p : Program} {s : State} {m : MethodId} {meth : Method} {c : Code} {b L : Nat} {xs : Nat → Int32} (C0 : lw_At p s m meth c b L xs) {A : Nat → Prop} (hA : ∀ a : Nat, a < s.heap.size → ¬ A a) : ∃ t : Nat, va_Z (aC 0) (aN 0) "[I" (.ref t) A s s.heap ∧ va_T .int t (aL 0) (fun j => .int (aF 0 j)) A s s.heap := by
  obtain ⟨hx, hb, hr, hml, hown, hts, hX, hbl, hlocks, hgv⟩ := C0
  have hf := flat_of_before _ hgv
  obtain ⟨t, ht, hT⟩ := va_Tof (args := #[Value.ref b]) (s := s) (tm := .static "SmokeTune" "TERM_LEAST" "[I") (ty := .int) (N := 6) (f := fun j => .int (aF 0 j)) (A := A) (by decide +kernel) (hf (Cond.arrayOf (.static "SmokeTune" "TERM_LEAST" "[I") .int) (by decide +kernel)) (va_eqt (hf (Cond.eq (.length (.static "SmokeTune" "TERM_LEAST" "[I")) (.int 6)) (by decide +kernel))) (fun j hj => by
    rcases (show j = 0 ∨ j = 1 ∨ j = 2 ∨ j = 3 ∨ j = 4 ∨ j = 5 by omega) with rfl | rfl | rfl | rfl | rfl | rfl
    · exact va_eqt (z := 0) (hf (Cond.eq (.elem (.static "SmokeTune" "TERM_LEAST" "[I") (.int 0)) (.int 0)) (by decide +kernel))
    · exact va_eqt (z := 0) (hf (Cond.eq (.elem (.static "SmokeTune" "TERM_LEAST" "[I") (.int 1)) (.int 0)) (by decide +kernel))
    · exact va_eqt (z := 1) (hf (Cond.eq (.elem (.static "SmokeTune" "TERM_LEAST" "[I") (.int 2)) (.int 1)) (by decide +kernel))
    · exact va_eqt (z := 1) (hf (Cond.eq (.elem (.static "SmokeTune" "TERM_LEAST" "[I") (.int 3)) (.int 1)) (by decide +kernel))
    · exact va_eqt (z := 0) (hf (Cond.eq (.elem (.static "SmokeTune" "TERM_LEAST" "[I") (.int 4)) (.int 0)) (by decide +kernel))
    · exact va_eqt (z := 0) (hf (Cond.eq (.elem (.static "SmokeTune" "TERM_LEAST" "[I") (.int 5)) (.int 0)) (by decide +kernel))
    ) hA
  exact ⟨t, va_Zref (hts (.laysStatic "SmokeTune" "TERM_LEAST" "[I") (List.mem_of_getElem? (i := 626) (by decide +kernel))) (hts (.initialized "SmokeTune") (List.mem_of_getElem? (i := 145) (by decide +kernel))) ht hA, hT⟩
set_option maxHeartbeats 4000000 in
set_option maxRecDepth 100000 in
theorem gl_a1 {p : Program} {s : State} {m : MethodId} {meth : Method} {c : Code} {b L : Nat} {xs : Nat → Int32} (C0 : lw_At p s m meth c b L xs) {A : Nat → Prop} (hA : ∀ a : Nat, a < s.heap.size → ¬ A a) : ∃ t : Nat, va_Z (aC 1) (aN 1) "[I" (.ref t) A s s.heap ∧ va_T .int t (aL 1) (fun j => .int (aF 1 j)) A s s.heap := by
  obtain ⟨hx, hb, hr, hml, hown, hts, hX, hbl, hlocks, hgv⟩ := C0
  have hf := flat_of_before _ hgv
  obtain ⟨t, ht, hT⟩ := va_Tof (args := #[Value.ref b]) (s := s) (tm := .static "SmokeTune" "TERM_MOST" "[I") (ty := .int) (N := 6) (f := fun j => .int (aF 1 j)) (A := A) (by decide +kernel) (hf (Cond.arrayOf (.static "SmokeTune" "TERM_MOST" "[I") .int) (by decide +kernel)) (va_eqt (hf (Cond.eq (.length (.static "SmokeTune" "TERM_MOST" "[I")) (.int 6)) (by decide +kernel))) (fun j hj => by
    rcases (show j = 0 ∨ j = 1 ∨ j = 2 ∨ j = 3 ∨ j = 4 ∨ j = 5 by omega) with rfl | rfl | rfl | rfl | rfl | rfl
    · exact va_eqt (z := 23) (hf (Cond.eq (.elem (.static "SmokeTune" "TERM_MOST" "[I") (.int 0)) (.int 23)) (by decide +kernel))
    · exact va_eqt (z := 999) (hf (Cond.eq (.elem (.static "SmokeTune" "TERM_MOST" "[I") (.int 1)) (.int 999)) (by decide +kernel))
    · exact va_eqt (z := 20) (hf (Cond.eq (.elem (.static "SmokeTune" "TERM_MOST" "[I") (.int 2)) (.int 20)) (by decide +kernel))
    · exact va_eqt (z := 20) (hf (Cond.eq (.elem (.static "SmokeTune" "TERM_MOST" "[I") (.int 3)) (.int 20)) (by decide +kernel))
    · exact va_eqt (z := 10) (hf (Cond.eq (.elem (.static "SmokeTune" "TERM_MOST" "[I") (.int 4)) (.int 10)) (by decide +kernel))
    · exact va_eqt (z := 9) (hf (Cond.eq (.elem (.static "SmokeTune" "TERM_MOST" "[I") (.int 5)) (.int 9)) (by decide +kernel))
    ) hA
  exact ⟨t, va_Zref (hts (.laysStatic "SmokeTune" "TERM_MOST" "[I") (List.mem_of_getElem? (i := 628) (by decide +kernel))) (hts (.initialized "SmokeTune") (List.mem_of_getElem? (i := 145) (by decide +kernel))) ht hA, hT⟩
set_option maxHeartbeats 4000000 in
set_option maxRecDepth 100000 in
theorem gl_a2 {p : Program} {s : State} {m : MethodId} {meth : Method} {c : Code} {b L : Nat} {xs : Nat → Int32} (C0 : lw_At p s m meth c b L xs) {A : Nat → Prop} (hA : ∀ a : Nat, a < s.heap.size → ¬ A a) : ∃ t : Nat, va_Z (aC 2) (aN 2) "[I" (.ref t) A s s.heap ∧ va_T .int t (aL 2) (fun j => .int (aF 2 j)) A s s.heap := by
  obtain ⟨hx, hb, hr, hml, hown, hts, hX, hbl, hlocks, hgv⟩ := C0
  have hf := flat_of_before _ hgv
  obtain ⟨t, ht, hT⟩ := va_Tof (args := #[Value.ref b]) (s := s) (tm := .static "SmokeTune" "WITHOUT_LAW" "[I") (ty := .int) (N := 4) (f := fun j => .int (aF 2 j)) (A := A) (by decide +kernel) (hf (Cond.arrayOf (.static "SmokeTune" "WITHOUT_LAW" "[I") .int) (by decide +kernel)) (va_eqt (hf (Cond.eq (.length (.static "SmokeTune" "WITHOUT_LAW" "[I")) (.int 4)) (by decide +kernel))) (fun j hj => by
    rcases (show j = 0 ∨ j = 1 ∨ j = 2 ∨ j = 3 by omega) with rfl | rfl | rfl | rfl
    · exact va_eqt (z := 1) (hf (Cond.eq (.elem (.static "SmokeTune" "WITHOUT_LAW" "[I") (.int 0)) (.int 1)) (by decide +kernel))
    · exact va_eqt (z := 4) (hf (Cond.eq (.elem (.static "SmokeTune" "WITHOUT_LAW" "[I") (.int 1)) (.int 4)) (by decide +kernel))
    · exact va_eqt (z := 1) (hf (Cond.eq (.elem (.static "SmokeTune" "WITHOUT_LAW" "[I") (.int 2)) (.int 1)) (by decide +kernel))
    · exact va_eqt (z := 0) (hf (Cond.eq (.elem (.static "SmokeTune" "WITHOUT_LAW" "[I") (.int 3)) (.int 0)) (by decide +kernel))
    ) hA
  exact ⟨t, va_Zref (hts (.laysStatic "SmokeTune" "WITHOUT_LAW" "[I") (List.mem_of_getElem? (i := 585) (by decide +kernel))) (hts (.initialized "SmokeTune") (List.mem_of_getElem? (i := 145) (by decide +kernel))) ht hA, hT⟩
set_option maxHeartbeats 4000000 in
set_option maxRecDepth 100000 in
theorem gl_a3 {p : Program} {s : State} {m : MethodId} {meth : Method} {c : Code} {b L : Nat} {xs : Nat → Int32} (C0 : lw_At p s m meth c b L xs) {A : Nat → Prop} (hA : ∀ a : Nat, a < s.heap.size → ¬ A a) : ∃ t : Nat, va_Z (aC 3) (aN 3) "[I" (.ref t) A s s.heap ∧ va_T .int t (aL 3) (fun j => .int (aF 3 j)) A s s.heap := by
  obtain ⟨hx, hb, hr, hml, hown, hts, hX, hbl, hlocks, hgv⟩ := C0
  have hf := flat_of_before _ hgv
  obtain ⟨t, ht, hT⟩ := va_Tof (args := #[Value.ref b]) (s := s) (tm := .static "SmokeTune" "MOST_BY_LAW" "[I") (ty := .int) (N := 4) (f := fun j => .int (aF 3 j)) (A := A) (by decide +kernel) (hf (Cond.arrayOf (.static "SmokeTune" "MOST_BY_LAW" "[I") .int) (by decide +kernel)) (va_eqt (hf (Cond.eq (.length (.static "SmokeTune" "MOST_BY_LAW" "[I")) (.int 4)) (by decide +kernel))) (fun j hj => by
    rcases (show j = 0 ∨ j = 1 ∨ j = 2 ∨ j = 3 by omega) with rfl | rfl | rfl | rfl
    · exact va_eqt (z := 20) (hf (Cond.eq (.elem (.static "SmokeTune" "MOST_BY_LAW" "[I") (.int 0)) (.int 20)) (by decide +kernel))
    · exact va_eqt (z := 20) (hf (Cond.eq (.elem (.static "SmokeTune" "MOST_BY_LAW" "[I") (.int 1)) (.int 20)) (by decide +kernel))
    · exact va_eqt (z := 999) (hf (Cond.eq (.elem (.static "SmokeTune" "MOST_BY_LAW" "[I") (.int 2)) (.int 999)) (by decide +kernel))
    · exact va_eqt (z := 1) (hf (Cond.eq (.elem (.static "SmokeTune" "MOST_BY_LAW" "[I") (.int 3)) (.int 1)) (by decide +kernel))
    ) hA
  exact ⟨t, va_Zref (hts (.laysStatic "SmokeTune" "MOST_BY_LAW" "[I") (List.mem_of_getElem? (i := 604) (by decide +kernel))) (hts (.initialized "SmokeTune") (List.mem_of_getElem? (i := 145) (by decide +kernel))) ht hA, hT⟩
set_option maxHeartbeats 4000000 in
set_option maxRecDepth 100000 in
theorem gl_a4 {p : Program} {s : State} {m : MethodId} {meth : Method} {c : Code} {b L : Nat} {xs : Nat → Int32} (C0 : lw_At p s m meth c b L xs) {A : Nat → Prop} (hA : ∀ a : Nat, a < s.heap.size → ¬ A a) : ∃ t : Nat, va_Z (aC 4) (aN 4) "[I" (.ref t) A s s.heap ∧ va_T .int t (aL 4) (fun j => .int (aF 4 j)) A s s.heap := by
  obtain ⟨hx, hb, hr, hml, hown, hts, hX, hbl, hlocks, hgv⟩ := C0
  have hf := flat_of_before _ hgv
  obtain ⟨t, ht, hT⟩ := va_Tof (args := #[Value.ref b]) (s := s) (tm := .static "SmokeTune$Reader" "LAW_SUMS" "[I") (ty := .int) (N := 4) (f := fun j => .int (aF 4 j)) (A := A) (by decide +kernel) (hf (Cond.arrayOf (.static "SmokeTune$Reader" "LAW_SUMS" "[I") .int) (by decide +kernel)) (va_eqt (hf (Cond.eq (.length (.static "SmokeTune$Reader" "LAW_SUMS" "[I")) (.int 4)) (by decide +kernel))) (fun j hj => by
    rcases (show j = 0 ∨ j = 1 ∨ j = 2 ∨ j = 3 by omega) with rfl | rfl | rfl | rfl
    · exact va_eqt (z := 1) (hf (Cond.eq (.elem (.static "SmokeTune$Reader" "LAW_SUMS" "[I") (.int 0)) (.int 1)) (by decide +kernel))
    · exact va_eqt (z := 1) (hf (Cond.eq (.elem (.static "SmokeTune$Reader" "LAW_SUMS" "[I") (.int 1)) (.int 1)) (by decide +kernel))
    · exact va_eqt (z := 1) (hf (Cond.eq (.elem (.static "SmokeTune$Reader" "LAW_SUMS" "[I") (.int 2)) (.int 1)) (by decide +kernel))
    · exact va_eqt (z := 0) (hf (Cond.eq (.elem (.static "SmokeTune$Reader" "LAW_SUMS" "[I") (.int 3)) (.int 0)) (by decide +kernel))
    ) hA
  exact ⟨t, va_Zref (hts (.laysStatic "SmokeTune$Reader" "LAW_SUMS" "[I") (List.mem_of_getElem? (i := 726) (by decide +kernel))) (hts (.initialized "SmokeTune$Reader") (List.mem_of_getElem? (i := 147) (by decide +kernel))) ht hA, hT⟩
set_option maxHeartbeats 4000000 in
set_option maxRecDepth 100000 in
theorem gl_a5 {p : Program} {s : State} {m : MethodId} {meth : Method} {c : Code} {b L : Nat} {xs : Nat → Int32} (C0 : lw_At p s m meth c b L xs) {A : Nat → Prop} (hA : ∀ a : Nat, a < s.heap.size → ¬ A a) : ∃ t : Nat, va_Z (aC 5) (aN 5) "[I" (.ref t) A s s.heap ∧ va_T .int t (aL 5) (fun j => .int (aF 5 j)) A s s.heap := by
  obtain ⟨hx, hb, hr, hml, hown, hts, hX, hbl, hlocks, hgv⟩ := C0
  have hf := flat_of_before _ hgv
  obtain ⟨t, ht, hT⟩ := va_Tof (args := #[Value.ref b]) (s := s) (tm := .static "SmokeTune$Reader" "ORDER_SUMS" "[I") (ty := .int) (N := 4) (f := fun j => .int (aF 5 j)) (A := A) (by decide +kernel) (hf (Cond.arrayOf (.static "SmokeTune$Reader" "ORDER_SUMS" "[I") .int) (by decide +kernel)) (va_eqt (hf (Cond.eq (.length (.static "SmokeTune$Reader" "ORDER_SUMS" "[I")) (.int 4)) (by decide +kernel))) (fun j hj => by
    rcases (show j = 0 ∨ j = 1 ∨ j = 2 ∨ j = 3 by omega) with rfl | rfl | rfl | rfl
    · exact va_eqt (z := 1) (hf (Cond.eq (.elem (.static "SmokeTune$Reader" "ORDER_SUMS" "[I") (.int 0)) (.int 1)) (by decide +kernel))
    · exact va_eqt (z := 2) (hf (Cond.eq (.elem (.static "SmokeTune$Reader" "ORDER_SUMS" "[I") (.int 1)) (.int 2)) (by decide +kernel))
    · exact va_eqt (z := 2) (hf (Cond.eq (.elem (.static "SmokeTune$Reader" "ORDER_SUMS" "[I") (.int 2)) (.int 2)) (by decide +kernel))
    · exact va_eqt (z := 0) (hf (Cond.eq (.elem (.static "SmokeTune$Reader" "ORDER_SUMS" "[I") (.int 3)) (.int 0)) (by decide +kernel))
    ) hA
  exact ⟨t, va_Zref (hts (.laysStatic "SmokeTune$Reader" "ORDER_SUMS" "[I") (List.mem_of_getElem? (i := 736) (by decide +kernel))) (hts (.initialized "SmokeTune$Reader") (List.mem_of_getElem? (i := 147) (by decide +kernel))) ht hA, hT⟩
set_option maxHeartbeats 4000000 in
set_option maxRecDepth 100000 in
theorem gl_a6 {p : Program} {s : State} {m : MethodId} {meth : Method} {c : Code} {b L : Nat} {xs : Nat → Int32} (C0 : lw_At p s m meth c b L xs) {A : Nat → Prop} (hA : ∀ a : Nat, a < s.heap.size → ¬ A a) : ∃ t : Nat, va_Z (aC 6) (aN 6) "[I" (.ref t) A s s.heap ∧ va_T .int t (aL 6) (fun j => .int (aF 6 j)) A s s.heap := by
  obtain ⟨hx, hb, hr, hml, hown, hts, hX, hbl, hlocks, hgv⟩ := C0
  have hf := flat_of_before _ hgv
  obtain ⟨t, ht, hT⟩ := va_Tof (args := #[Value.ref b]) (s := s) (tm := .static "SmokeTune$Reader" "TELLING_FROM" "[I") (ty := .int) (N := 3) (f := fun j => .int (aF 6 j)) (A := A) (by decide +kernel) (hf (Cond.arrayOf (.static "SmokeTune$Reader" "TELLING_FROM" "[I") .int) (by decide +kernel)) (va_eqt (hf (Cond.eq (.length (.static "SmokeTune$Reader" "TELLING_FROM" "[I")) (.int 3)) (by decide +kernel))) (fun j hj => by
    rcases (show j = 0 ∨ j = 1 ∨ j = 2 by omega) with rfl | rfl | rfl
    · exact va_eqt (z := 5) (hf (Cond.eq (.elem (.static "SmokeTune$Reader" "TELLING_FROM" "[I") (.int 0)) (.int 5)) (by decide +kernel))
    · exact va_eqt (z := 13) (hf (Cond.eq (.elem (.static "SmokeTune$Reader" "TELLING_FROM" "[I") (.int 1)) (.int 13)) (by decide +kernel))
    · exact va_eqt (z := 21) (hf (Cond.eq (.elem (.static "SmokeTune$Reader" "TELLING_FROM" "[I") (.int 2)) (.int 21)) (by decide +kernel))
    ) hA
  exact ⟨t, va_Zref (hts (.laysStatic "SmokeTune$Reader" "TELLING_FROM" "[I") (List.mem_of_getElem? (i := 758) (by decide +kernel))) (hts (.initialized "SmokeTune$Reader") (List.mem_of_getElem? (i := 147) (by decide +kernel))) ht hA, hT⟩
set_option maxHeartbeats 4000000 in
set_option maxRecDepth 100000 in
theorem gl_a7 {p : Program} {s : State} {m : MethodId} {meth : Method} {c : Code} {b L : Nat} {xs : Nat → Int32} (C0 : lw_At p s m meth c b L xs) {A : Nat → Prop} (hA : ∀ a : Nat, a < s.heap.size → ¬ A a) : ∃ t : Nat, va_Z (aC 7) (aN 7) "[I" (.ref t) A s s.heap ∧ va_T .int t (aL 7) (fun j => .int (aF 7 j)) A s s.heap := by
  obtain ⟨hx, hb, hr, hml, hown, hts, hX, hbl, hlocks, hgv⟩ := C0
  have hf := flat_of_before _ hgv
  obtain ⟨t, ht, hT⟩ := va_Tof (args := #[Value.ref b]) (s := s) (tm := .static "SmokeTune$Reader" "TELLING_MOST" "[I") (ty := .int) (N := 3) (f := fun j => .int (aF 7 j)) (A := A) (by decide +kernel) (hf (Cond.arrayOf (.static "SmokeTune$Reader" "TELLING_MOST" "[I") .int) (by decide +kernel)) (va_eqt (hf (Cond.eq (.length (.static "SmokeTune$Reader" "TELLING_MOST" "[I")) (.int 3)) (by decide +kernel))) (fun j hj => by
    rcases (show j = 0 ∨ j = 1 ∨ j = 2 by omega) with rfl | rfl | rfl
    · exact va_eqt (z := 7) (hf (Cond.eq (.elem (.static "SmokeTune$Reader" "TELLING_MOST" "[I") (.int 0)) (.int 7)) (by decide +kernel))
    · exact va_eqt (z := 7) (hf (Cond.eq (.elem (.static "SmokeTune$Reader" "TELLING_MOST" "[I") (.int 1)) (.int 7)) (by decide +kernel))
    · exact va_eqt (z := 6) (hf (Cond.eq (.elem (.static "SmokeTune$Reader" "TELLING_MOST" "[I") (.int 2)) (.int 6)) (by decide +kernel))
    ) hA
  exact ⟨t, va_Zref (hts (.laysStatic "SmokeTune$Reader" "TELLING_MOST" "[I") (List.mem_of_getElem? (i := 760) (by decide +kernel))) (hts (.initialized "SmokeTune$Reader") (List.mem_of_getElem? (i := 147) (by decide +kernel))) ht hA, hT⟩
set_option maxHeartbeats 4000000 in
set_option maxRecDepth 100000 in
theorem gl_s0 {p : Program} {s : State} {m : MethodId} {meth : Method} {c : Code} {b L : Nat} {xs : Nat → Int32} (C0 : lw_At p s m meth c b L xs) {A : Nat → Prop} (hA : ∀ a : Nat, a < s.heap.size → ¬ A a) : ∃ q v : Nat, vk_R RX6 (sI 0) (sT 0) q s ∧ GS q v (sn 0) (sf 0) A s s.heap := by
  obtain ⟨hx, hb, hr, hml, hown, hts, hX, hbl, hlocks, hgv⟩ := C0
  have hf := flat_of_before _ hgv
  obtain ⟨adK, adV, hSS, hev⟩ := vk_Sof (args := #[Value.ref b]) (s := s) (N := 1) (tm := fun _ => .string "SmokeTune$Reader" 63) (len := [23]) (byt := [[98, 117, 114, 110, 115, 32, 102, 108, 97, 114, 101, 115, 32, 102, 105, 110, 101, 115, 32, 98, 97, 114, 115]]) (A := A) (fun i hi => by obtain rfl : i = 0 := (by omega); decide)
    (fun i hi => by obtain rfl : i = 0 := (by omega); exact hf (Cond.exactly (.string "SmokeTune$Reader" 63) "java/lang/String") (by decide +kernel))
    (fun i hi => by obtain rfl : i = 0 := (by omega); exact hf (Cond.eq (.field (.string "SmokeTune$Reader" 63) "java/lang/String" "coder" "B") (.int 0)) (by decide +kernel))
    (fun i hi => by obtain rfl : i = 0 := (by omega); exact hf (Cond.arrayOf (.field (.string "SmokeTune$Reader" 63) "java/lang/String" "value" "[B") .byte) (by decide +kernel))
    (fun i hi => by obtain rfl : i = 0 := (by omega); exact hf (Cond.eq (.length (.field (.string "SmokeTune$Reader" 63) "java/lang/String" "value" "[B")) (.int 23)) (by decide +kernel))
    (fun i hi => by
      obtain rfl : i = 0 := (by omega)
      intro j hj
      have hj : j < 23 := hj
      rcases (show j = 0 ∨ j = 1 ∨ j = 2 ∨ j = 3 ∨ j = 4 ∨ j = 5 ∨ j = 6 ∨ j = 7 ∨ j = 8 ∨ j = 9 ∨ j = 10 ∨ j = 11 ∨ j = 12 ∨ j = 13 ∨ j = 14 ∨ j = 15 ∨ j = 16 ∨ j = 17 ∨ j = 18 ∨ j = 19 ∨ j = 20 ∨ j = 21 ∨ j = 22 by omega) with rfl | rfl | rfl | rfl | rfl | rfl | rfl | rfl | rfl | rfl | rfl | rfl | rfl | rfl | rfl | rfl | rfl | rfl | rfl | rfl | rfl | rfl | rfl
      · exact hf (Cond.eq (.elem (.field (.string "SmokeTune$Reader" 63) "java/lang/String" "value" "[B") (.int 0)) (.int 98)) (by decide +kernel)
      · exact hf (Cond.eq (.elem (.field (.string "SmokeTune$Reader" 63) "java/lang/String" "value" "[B") (.int 1)) (.int 117)) (by decide +kernel)
      · exact hf (Cond.eq (.elem (.field (.string "SmokeTune$Reader" 63) "java/lang/String" "value" "[B") (.int 2)) (.int 114)) (by decide +kernel)
      · exact hf (Cond.eq (.elem (.field (.string "SmokeTune$Reader" 63) "java/lang/String" "value" "[B") (.int 3)) (.int 110)) (by decide +kernel)
      · exact hf (Cond.eq (.elem (.field (.string "SmokeTune$Reader" 63) "java/lang/String" "value" "[B") (.int 4)) (.int 115)) (by decide +kernel)
      · exact hf (Cond.eq (.elem (.field (.string "SmokeTune$Reader" 63) "java/lang/String" "value" "[B") (.int 5)) (.int 32)) (by decide +kernel)
      · exact hf (Cond.eq (.elem (.field (.string "SmokeTune$Reader" 63) "java/lang/String" "value" "[B") (.int 6)) (.int 102)) (by decide +kernel)
      · exact hf (Cond.eq (.elem (.field (.string "SmokeTune$Reader" 63) "java/lang/String" "value" "[B") (.int 7)) (.int 108)) (by decide +kernel)
      · exact hf (Cond.eq (.elem (.field (.string "SmokeTune$Reader" 63) "java/lang/String" "value" "[B") (.int 8)) (.int 97)) (by decide +kernel)
      · exact hf (Cond.eq (.elem (.field (.string "SmokeTune$Reader" 63) "java/lang/String" "value" "[B") (.int 9)) (.int 114)) (by decide +kernel)
      · exact hf (Cond.eq (.elem (.field (.string "SmokeTune$Reader" 63) "java/lang/String" "value" "[B") (.int 10)) (.int 101)) (by decide +kernel)
      · exact hf (Cond.eq (.elem (.field (.string "SmokeTune$Reader" 63) "java/lang/String" "value" "[B") (.int 11)) (.int 115)) (by decide +kernel)
      · exact hf (Cond.eq (.elem (.field (.string "SmokeTune$Reader" 63) "java/lang/String" "value" "[B") (.int 12)) (.int 32)) (by decide +kernel)
      · exact hf (Cond.eq (.elem (.field (.string "SmokeTune$Reader" 63) "java/lang/String" "value" "[B") (.int 13)) (.int 102)) (by decide +kernel)
      · exact hf (Cond.eq (.elem (.field (.string "SmokeTune$Reader" 63) "java/lang/String" "value" "[B") (.int 14)) (.int 105)) (by decide +kernel)
      · exact hf (Cond.eq (.elem (.field (.string "SmokeTune$Reader" 63) "java/lang/String" "value" "[B") (.int 15)) (.int 110)) (by decide +kernel)
      · exact hf (Cond.eq (.elem (.field (.string "SmokeTune$Reader" 63) "java/lang/String" "value" "[B") (.int 16)) (.int 101)) (by decide +kernel)
      · exact hf (Cond.eq (.elem (.field (.string "SmokeTune$Reader" 63) "java/lang/String" "value" "[B") (.int 17)) (.int 115)) (by decide +kernel)
      · exact hf (Cond.eq (.elem (.field (.string "SmokeTune$Reader" 63) "java/lang/String" "value" "[B") (.int 18)) (.int 32)) (by decide +kernel)
      · exact hf (Cond.eq (.elem (.field (.string "SmokeTune$Reader" 63) "java/lang/String" "value" "[B") (.int 19)) (.int 98)) (by decide +kernel)
      · exact hf (Cond.eq (.elem (.field (.string "SmokeTune$Reader" 63) "java/lang/String" "value" "[B") (.int 20)) (.int 97)) (by decide +kernel)
      · exact hf (Cond.eq (.elem (.field (.string "SmokeTune$Reader" 63) "java/lang/String" "value" "[B") (.int 21)) (.int 114)) (by decide +kernel)
      · exact hf (Cond.eq (.elem (.field (.string "SmokeTune$Reader" 63) "java/lang/String" "value" "[B") (.int 22)) (.int 115)) (by decide +kernel)
      )
    (fun i j hi hj hij => absurd (show i = j by omega) hij) hA
  exact ⟨adK 0, adV 0, vk_R.of (A := #[Value.ref b]) (hts (.stringRef "SmokeTune$Reader" 63 "burns flares fines bars") (List.mem_of_getElem? (i := 671) (by decide +kernel))) (hev 0 (by decide +kernel)), hSS.1 0 (by decide +kernel)⟩
set_option maxHeartbeats 4000000 in
set_option maxRecDepth 100000 in
theorem gl_s1 {p : Program} {s : State} {m : MethodId} {meth : Method} {c : Code} {b L : Nat} {xs : Nat → Int32} (C0 : lw_At p s m meth c b L xs) {A : Nat → Prop} (hA : ∀ a : Nat, a < s.heap.size → ¬ A a) : ∃ q v : Nat, vk_R RX6 (sI 1) (sT 1) q s ∧ GS q v (sn 1) (sf 1) A s s.heap := by
  obtain ⟨hx, hb, hr, hml, hown, hts, hX, hbl, hlocks, hgv⟩ := C0
  have hf := flat_of_before _ hgv
  obtain ⟨adK, adV, hSS, hev⟩ := vk_Sof (args := #[Value.ref b]) (s := s) (N := 1) (tm := fun _ => .string "SmokeTune$Reader" 65) (len := [19]) (byt := [[115, 116, 111, 107, 101, 32, 100, 97, 109, 112, 32, 98, 117, 121, 32, 112, 97, 115, 115]]) (A := A) (fun i hi => by obtain rfl : i = 0 := (by omega); decide)
    (fun i hi => by obtain rfl : i = 0 := (by omega); exact hf (Cond.exactly (.string "SmokeTune$Reader" 65) "java/lang/String") (by decide +kernel))
    (fun i hi => by obtain rfl : i = 0 := (by omega); exact hf (Cond.eq (.field (.string "SmokeTune$Reader" 65) "java/lang/String" "coder" "B") (.int 0)) (by decide +kernel))
    (fun i hi => by obtain rfl : i = 0 := (by omega); exact hf (Cond.arrayOf (.field (.string "SmokeTune$Reader" 65) "java/lang/String" "value" "[B") .byte) (by decide +kernel))
    (fun i hi => by obtain rfl : i = 0 := (by omega); exact hf (Cond.eq (.length (.field (.string "SmokeTune$Reader" 65) "java/lang/String" "value" "[B")) (.int 19)) (by decide +kernel))
    (fun i hi => by
      obtain rfl : i = 0 := (by omega)
      intro j hj
      have hj : j < 19 := hj
      rcases (show j = 0 ∨ j = 1 ∨ j = 2 ∨ j = 3 ∨ j = 4 ∨ j = 5 ∨ j = 6 ∨ j = 7 ∨ j = 8 ∨ j = 9 ∨ j = 10 ∨ j = 11 ∨ j = 12 ∨ j = 13 ∨ j = 14 ∨ j = 15 ∨ j = 16 ∨ j = 17 ∨ j = 18 by omega) with rfl | rfl | rfl | rfl | rfl | rfl | rfl | rfl | rfl | rfl | rfl | rfl | rfl | rfl | rfl | rfl | rfl | rfl | rfl
      · exact hf (Cond.eq (.elem (.field (.string "SmokeTune$Reader" 65) "java/lang/String" "value" "[B") (.int 0)) (.int 115)) (by decide +kernel)
      · exact hf (Cond.eq (.elem (.field (.string "SmokeTune$Reader" 65) "java/lang/String" "value" "[B") (.int 1)) (.int 116)) (by decide +kernel)
      · exact hf (Cond.eq (.elem (.field (.string "SmokeTune$Reader" 65) "java/lang/String" "value" "[B") (.int 2)) (.int 111)) (by decide +kernel)
      · exact hf (Cond.eq (.elem (.field (.string "SmokeTune$Reader" 65) "java/lang/String" "value" "[B") (.int 3)) (.int 107)) (by decide +kernel)
      · exact hf (Cond.eq (.elem (.field (.string "SmokeTune$Reader" 65) "java/lang/String" "value" "[B") (.int 4)) (.int 101)) (by decide +kernel)
      · exact hf (Cond.eq (.elem (.field (.string "SmokeTune$Reader" 65) "java/lang/String" "value" "[B") (.int 5)) (.int 32)) (by decide +kernel)
      · exact hf (Cond.eq (.elem (.field (.string "SmokeTune$Reader" 65) "java/lang/String" "value" "[B") (.int 6)) (.int 100)) (by decide +kernel)
      · exact hf (Cond.eq (.elem (.field (.string "SmokeTune$Reader" 65) "java/lang/String" "value" "[B") (.int 7)) (.int 97)) (by decide +kernel)
      · exact hf (Cond.eq (.elem (.field (.string "SmokeTune$Reader" 65) "java/lang/String" "value" "[B") (.int 8)) (.int 109)) (by decide +kernel)
      · exact hf (Cond.eq (.elem (.field (.string "SmokeTune$Reader" 65) "java/lang/String" "value" "[B") (.int 9)) (.int 112)) (by decide +kernel)
      · exact hf (Cond.eq (.elem (.field (.string "SmokeTune$Reader" 65) "java/lang/String" "value" "[B") (.int 10)) (.int 32)) (by decide +kernel)
      · exact hf (Cond.eq (.elem (.field (.string "SmokeTune$Reader" 65) "java/lang/String" "value" "[B") (.int 11)) (.int 98)) (by decide +kernel)
      · exact hf (Cond.eq (.elem (.field (.string "SmokeTune$Reader" 65) "java/lang/String" "value" "[B") (.int 12)) (.int 117)) (by decide +kernel)
      · exact hf (Cond.eq (.elem (.field (.string "SmokeTune$Reader" 65) "java/lang/String" "value" "[B") (.int 13)) (.int 121)) (by decide +kernel)
      · exact hf (Cond.eq (.elem (.field (.string "SmokeTune$Reader" 65) "java/lang/String" "value" "[B") (.int 14)) (.int 32)) (by decide +kernel)
      · exact hf (Cond.eq (.elem (.field (.string "SmokeTune$Reader" 65) "java/lang/String" "value" "[B") (.int 15)) (.int 112)) (by decide +kernel)
      · exact hf (Cond.eq (.elem (.field (.string "SmokeTune$Reader" 65) "java/lang/String" "value" "[B") (.int 16)) (.int 97)) (by decide +kernel)
      · exact hf (Cond.eq (.elem (.field (.string "SmokeTune$Reader" 65) "java/lang/String" "value" "[B") (.int 17)) (.int 115)) (by decide +kernel)
      · exact hf (Cond.eq (.elem (.field (.string "SmokeTune$Reader" 65) "java/lang/String" "value" "[B") (.int 18)) (.int 115)) (by decide +kernel)
      )
    (fun i j hi hj hij => absurd (show i = j by omega) hij) hA
  exact ⟨adK 0, adV 0, vk_R.of (A := #[Value.ref b]) (hts (.stringRef "SmokeTune$Reader" 65 "stoke damp buy pass") (List.mem_of_getElem? (i := 672) (by decide +kernel))) (hev 0 (by decide +kernel)), hSS.1 0 (by decide +kernel)⟩
set_option maxHeartbeats 4000000 in
set_option maxRecDepth 100000 in
theorem gl_s2 {p : Program} {s : State} {m : MethodId} {meth : Method} {c : Code} {b L : Nat} {xs : Nat → Int32} (C0 : lw_At p s m meth c b L xs) {A : Nat → Prop} (hA : ∀ a : Nat, a < s.heap.size → ¬ A a) : ∃ q v : Nat, vk_R RX6 (sI 2) (sT 2) q s ∧ GS q v (sn 2) (sf 2) A s s.heap := by
  obtain ⟨hx, hb, hr, hml, hown, hts, hX, hbl, hlocks, hgv⟩ := C0
  have hf := flat_of_before _ hgv
  obtain ⟨adK, adV, hSS, hev⟩ := vk_Sof (args := #[Value.ref b]) (s := s) (N := 1) (tm := fun _ => .string "SmokeTune$Reader" 82) (len := [2]) (byt := [[98, 121]]) (A := A) (fun i hi => by obtain rfl : i = 0 := (by omega); decide)
    (fun i hi => by obtain rfl : i = 0 := (by omega); exact hf (Cond.exactly (.string "SmokeTune$Reader" 82) "java/lang/String") (by decide +kernel))
    (fun i hi => by obtain rfl : i = 0 := (by omega); exact hf (Cond.eq (.field (.string "SmokeTune$Reader" 82) "java/lang/String" "coder" "B") (.int 0)) (by decide +kernel))
    (fun i hi => by obtain rfl : i = 0 := (by omega); exact hf (Cond.arrayOf (.field (.string "SmokeTune$Reader" 82) "java/lang/String" "value" "[B") .byte) (by decide +kernel))
    (fun i hi => by obtain rfl : i = 0 := (by omega); exact hf (Cond.eq (.length (.field (.string "SmokeTune$Reader" 82) "java/lang/String" "value" "[B")) (.int 2)) (by decide +kernel))
    (fun i hi => by
      obtain rfl : i = 0 := (by omega)
      intro j hj
      have hj : j < 2 := hj
      rcases (show j = 0 ∨ j = 1 by omega) with rfl | rfl
      · exact hf (Cond.eq (.elem (.field (.string "SmokeTune$Reader" 82) "java/lang/String" "value" "[B") (.int 0)) (.int 98)) (by decide +kernel)
      · exact hf (Cond.eq (.elem (.field (.string "SmokeTune$Reader" 82) "java/lang/String" "value" "[B") (.int 1)) (.int 121)) (by decide +kernel)
      )
    (fun i j hi hj hij => absurd (show i = j by omega) hij) hA
  exact ⟨adK 0, adV 0, vk_R.of (A := #[Value.ref b]) (hts (.stringRef "SmokeTune$Reader" 82 "by") (List.mem_of_getElem? (i := 737) (by decide +kernel))) (hev 0 (by decide +kernel)), hSS.1 0 (by decide +kernel)⟩
set_option maxHeartbeats 4000000 in
set_option maxRecDepth 100000 in
theorem gl_s3 {p : Program} {s : State} {m : MethodId} {meth : Method} {c : Code} {b L : Nat} {xs : Nat → Int32} (C0 : lw_At p s m meth c b L xs) {A : Nat → Prop} (hA : ∀ a : Nat, a < s.heap.size → ¬ A a) : ∃ q v : Nat, vk_R RX6 (sI 3) (sT 3) q s ∧ GS q v (sn 3) (sf 3) A s s.heap := by
  obtain ⟨hx, hb, hr, hml, hown, hts, hX, hbl, hlocks, hgv⟩ := C0
  have hf := flat_of_before _ hgv
  obtain ⟨adK, adV, hSS, hev⟩ := vk_Sof (args := #[Value.ref b]) (s := s) (N := 1) (tm := fun _ => .string "SmokeTune$Reader" 99) (len := [5]) (byt := [[116, 105, 109, 101, 115]]) (A := A) (fun i hi => by obtain rfl : i = 0 := (by omega); decide)
    (fun i hi => by obtain rfl : i = 0 := (by omega); exact hf (Cond.exactly (.string "SmokeTune$Reader" 99) "java/lang/String") (by decide +kernel))
    (fun i hi => by obtain rfl : i = 0 := (by omega); exact hf (Cond.eq (.field (.string "SmokeTune$Reader" 99) "java/lang/String" "coder" "B") (.int 0)) (by decide +kernel))
    (fun i hi => by obtain rfl : i = 0 := (by omega); exact hf (Cond.arrayOf (.field (.string "SmokeTune$Reader" 99) "java/lang/String" "value" "[B") .byte) (by decide +kernel))
    (fun i hi => by obtain rfl : i = 0 := (by omega); exact hf (Cond.eq (.length (.field (.string "SmokeTune$Reader" 99) "java/lang/String" "value" "[B")) (.int 5)) (by decide +kernel))
    (fun i hi => by
      obtain rfl : i = 0 := (by omega)
      intro j hj
      have hj : j < 5 := hj
      rcases (show j = 0 ∨ j = 1 ∨ j = 2 ∨ j = 3 ∨ j = 4 by omega) with rfl | rfl | rfl | rfl | rfl
      · exact hf (Cond.eq (.elem (.field (.string "SmokeTune$Reader" 99) "java/lang/String" "value" "[B") (.int 0)) (.int 116)) (by decide +kernel)
      · exact hf (Cond.eq (.elem (.field (.string "SmokeTune$Reader" 99) "java/lang/String" "value" "[B") (.int 1)) (.int 105)) (by decide +kernel)
      · exact hf (Cond.eq (.elem (.field (.string "SmokeTune$Reader" 99) "java/lang/String" "value" "[B") (.int 2)) (.int 109)) (by decide +kernel)
      · exact hf (Cond.eq (.elem (.field (.string "SmokeTune$Reader" 99) "java/lang/String" "value" "[B") (.int 3)) (.int 101)) (by decide +kernel)
      · exact hf (Cond.eq (.elem (.field (.string "SmokeTune$Reader" 99) "java/lang/String" "value" "[B") (.int 4)) (.int 115)) (by decide +kernel)
      )
    (fun i j hi hj hij => absurd (show i = j by omega) hij) hA
  exact ⟨adK 0, adV 0, vk_R.of (A := #[Value.ref b]) (hts (.stringRef "SmokeTune$Reader" 99 "times") (List.mem_of_getElem? (i := 769) (by decide +kernel))) (hev 0 (by decide +kernel)), hSS.1 0 (by decide +kernel)⟩
set_option maxHeartbeats 4000000 in
set_option maxRecDepth 100000 in
theorem gl_s4 {p : Program} {s : State} {m : MethodId} {meth : Method} {c : Code} {b L : Nat} {xs : Nat → Int32} (C0 : lw_At p s m meth c b L xs) {A : Nat → Prop} (hA : ∀ a : Nat, a < s.heap.size → ¬ A a) : ∃ q v : Nat, vk_R RX6 (sI 4) (sT 4) q s ∧ GS q v (sn 4) (sf 4) A s s.heap := by
  obtain ⟨hx, hb, hr, hml, hown, hts, hX, hbl, hlocks, hgv⟩ := C0
  have hf := flat_of_before _ hgv
  obtain ⟨adK, adV, hSS, hev⟩ := vk_Sof (args := #[Value.ref b]) (s := s) (N := 1) (tm := fun _ => .string "SmokeTune$Reader" 104) (len := [2]) (byt := [[105, 102]]) (A := A) (fun i hi => by obtain rfl : i = 0 := (by omega); decide)
    (fun i hi => by obtain rfl : i = 0 := (by omega); exact hf (Cond.exactly (.string "SmokeTune$Reader" 104) "java/lang/String") (by decide +kernel))
    (fun i hi => by obtain rfl : i = 0 := (by omega); exact hf (Cond.eq (.field (.string "SmokeTune$Reader" 104) "java/lang/String" "coder" "B") (.int 0)) (by decide +kernel))
    (fun i hi => by obtain rfl : i = 0 := (by omega); exact hf (Cond.arrayOf (.field (.string "SmokeTune$Reader" 104) "java/lang/String" "value" "[B") .byte) (by decide +kernel))
    (fun i hi => by obtain rfl : i = 0 := (by omega); exact hf (Cond.eq (.length (.field (.string "SmokeTune$Reader" 104) "java/lang/String" "value" "[B")) (.int 2)) (by decide +kernel))
    (fun i hi => by
      obtain rfl : i = 0 := (by omega)
      intro j hj
      have hj : j < 2 := hj
      rcases (show j = 0 ∨ j = 1 by omega) with rfl | rfl
      · exact hf (Cond.eq (.elem (.field (.string "SmokeTune$Reader" 104) "java/lang/String" "value" "[B") (.int 0)) (.int 105)) (by decide +kernel)
      · exact hf (Cond.eq (.elem (.field (.string "SmokeTune$Reader" 104) "java/lang/String" "value" "[B") (.int 1)) (.int 102)) (by decide +kernel)
      )
    (fun i j hi hj hij => absurd (show i = j by omega) hij) hA
  exact ⟨adK 0, adV 0, vk_R.of (A := #[Value.ref b]) (hts (.stringRef "SmokeTune$Reader" 104 "if") (List.mem_of_getElem? (i := 770) (by decide +kernel))) (hev 0 (by decide +kernel)), hSS.1 0 (by decide +kernel)⟩
set_option maxHeartbeats 4000000 in
set_option maxRecDepth 100000 in
theorem gl_s5 {p : Program} {s : State} {m : MethodId} {meth : Method} {c : Code} {b L : Nat} {xs : Nat → Int32} (C0 : lw_At p s m meth c b L xs) {A : Nat → Prop} (hA : ∀ a : Nat, a < s.heap.size → ¬ A a) : ∃ q v : Nat, vk_R RX6 (sI 5) (sT 5) q s ∧ GS q v (sn 5) (sf 5) A s s.heap := by
  obtain ⟨hx, hb, hr, hml, hown, hts, hX, hbl, hlocks, hgv⟩ := C0
  have hf := flat_of_before _ hgv
  obtain ⟨adK, adV, hSS, hev⟩ := vk_Sof (args := #[Value.ref b]) (s := s) (N := 1) (tm := fun _ => .string "SmokeTune$Reader" 125) (len := [3]) (byt := [[97, 110, 100]]) (A := A) (fun i hi => by obtain rfl : i = 0 := (by omega); decide)
    (fun i hi => by obtain rfl : i = 0 := (by omega); exact hf (Cond.exactly (.string "SmokeTune$Reader" 125) "java/lang/String") (by decide +kernel))
    (fun i hi => by obtain rfl : i = 0 := (by omega); exact hf (Cond.eq (.field (.string "SmokeTune$Reader" 125) "java/lang/String" "coder" "B") (.int 0)) (by decide +kernel))
    (fun i hi => by obtain rfl : i = 0 := (by omega); exact hf (Cond.arrayOf (.field (.string "SmokeTune$Reader" 125) "java/lang/String" "value" "[B") .byte) (by decide +kernel))
    (fun i hi => by obtain rfl : i = 0 := (by omega); exact hf (Cond.eq (.length (.field (.string "SmokeTune$Reader" 125) "java/lang/String" "value" "[B")) (.int 3)) (by decide +kernel))
    (fun i hi => by
      obtain rfl : i = 0 := (by omega)
      intro j hj
      have hj : j < 3 := hj
      rcases (show j = 0 ∨ j = 1 ∨ j = 2 by omega) with rfl | rfl | rfl
      · exact hf (Cond.eq (.elem (.field (.string "SmokeTune$Reader" 125) "java/lang/String" "value" "[B") (.int 0)) (.int 97)) (by decide +kernel)
      · exact hf (Cond.eq (.elem (.field (.string "SmokeTune$Reader" 125) "java/lang/String" "value" "[B") (.int 1)) (.int 110)) (by decide +kernel)
      · exact hf (Cond.eq (.elem (.field (.string "SmokeTune$Reader" 125) "java/lang/String" "value" "[B") (.int 2)) (.int 100)) (by decide +kernel)
      )
    (fun i j hi hj hij => absurd (show i = j by omega) hij) hA
  exact ⟨adK 0, adV 0, vk_R.of (A := #[Value.ref b]) (hts (.stringRef "SmokeTune$Reader" 125 "and") (List.mem_of_getElem? (i := 785) (by decide +kernel))) (hev 0 (by decide +kernel)), hSS.1 0 (by decide +kernel)⟩
set_option maxHeartbeats 4000000 in
set_option maxRecDepth 100000 in
theorem gl_s6 {p : Program} {s : State} {m : MethodId} {meth : Method} {c : Code} {b L : Nat} {xs : Nat → Int32} (C0 : lw_At p s m meth c b L xs) {A : Nat → Prop} (hA : ∀ a : Nat, a < s.heap.size → ¬ A a) : ∃ q v : Nat, vk_R RX6 (sI 6) (sT 6) q s ∧ GS q v (sn 6) (sf 6) A s s.heap := by
  obtain ⟨hx, hb, hr, hml, hown, hts, hX, hbl, hlocks, hgv⟩ := C0
  have hf := flat_of_before _ hgv
  obtain ⟨adK, adV, hSS, hev⟩ := vk_Sof (args := #[Value.ref b]) (s := s) (N := 1) (tm := fun _ => .string "SmokeTune$Reader" 127) (len := [2]) (byt := [[111, 114]]) (A := A) (fun i hi => by obtain rfl : i = 0 := (by omega); decide)
    (fun i hi => by obtain rfl : i = 0 := (by omega); exact hf (Cond.exactly (.string "SmokeTune$Reader" 127) "java/lang/String") (by decide +kernel))
    (fun i hi => by obtain rfl : i = 0 := (by omega); exact hf (Cond.eq (.field (.string "SmokeTune$Reader" 127) "java/lang/String" "coder" "B") (.int 0)) (by decide +kernel))
    (fun i hi => by obtain rfl : i = 0 := (by omega); exact hf (Cond.arrayOf (.field (.string "SmokeTune$Reader" 127) "java/lang/String" "value" "[B") .byte) (by decide +kernel))
    (fun i hi => by obtain rfl : i = 0 := (by omega); exact hf (Cond.eq (.length (.field (.string "SmokeTune$Reader" 127) "java/lang/String" "value" "[B")) (.int 2)) (by decide +kernel))
    (fun i hi => by
      obtain rfl : i = 0 := (by omega)
      intro j hj
      have hj : j < 2 := hj
      rcases (show j = 0 ∨ j = 1 by omega) with rfl | rfl
      · exact hf (Cond.eq (.elem (.field (.string "SmokeTune$Reader" 127) "java/lang/String" "value" "[B") (.int 0)) (.int 111)) (by decide +kernel)
      · exact hf (Cond.eq (.elem (.field (.string "SmokeTune$Reader" 127) "java/lang/String" "value" "[B") (.int 1)) (.int 114)) (by decide +kernel)
      )
    (fun i j hi hj hij => absurd (show i = j by omega) hij) hA
  exact ⟨adK 0, adV 0, vk_R.of (A := #[Value.ref b]) (hts (.stringRef "SmokeTune$Reader" 127 "or") (List.mem_of_getElem? (i := 786) (by decide +kernel))) (hev 0 (by decide +kernel)), hSS.1 0 (by decide +kernel)⟩
set_option maxHeartbeats 4000000 in
set_option maxRecDepth 100000 in
theorem gl_s7 {p : Program} {s : State} {m : MethodId} {meth : Method} {c : Code} {b L : Nat} {xs : Nat → Int32} (C0 : lw_At p s m meth c b L xs) {A : Nat → Prop} (hA : ∀ a : Nat, a < s.heap.size → ¬ A a) : ∃ q v : Nat, vk_R RX6 (sI 7) (sT 7) q s ∧ GS q v (sn 7) (sf 7) A s s.heap := by
  obtain ⟨hx, hb, hr, hml, hown, hts, hX, hbl, hlocks, hgv⟩ := C0
  have hf := flat_of_before _ hgv
  obtain ⟨adK, adV, hSS, hev⟩ := vk_Sof (args := #[Value.ref b]) (s := s) (N := 1) (tm := fun _ => .string "SmokeTune$Reader" 129) (len := [3]) (byt := [[110, 111, 116]]) (A := A) (fun i hi => by obtain rfl : i = 0 := (by omega); decide)
    (fun i hi => by obtain rfl : i = 0 := (by omega); exact hf (Cond.exactly (.string "SmokeTune$Reader" 129) "java/lang/String") (by decide +kernel))
    (fun i hi => by obtain rfl : i = 0 := (by omega); exact hf (Cond.eq (.field (.string "SmokeTune$Reader" 129) "java/lang/String" "coder" "B") (.int 0)) (by decide +kernel))
    (fun i hi => by obtain rfl : i = 0 := (by omega); exact hf (Cond.arrayOf (.field (.string "SmokeTune$Reader" 129) "java/lang/String" "value" "[B") .byte) (by decide +kernel))
    (fun i hi => by obtain rfl : i = 0 := (by omega); exact hf (Cond.eq (.length (.field (.string "SmokeTune$Reader" 129) "java/lang/String" "value" "[B")) (.int 3)) (by decide +kernel))
    (fun i hi => by
      obtain rfl : i = 0 := (by omega)
      intro j hj
      have hj : j < 3 := hj
      rcases (show j = 0 ∨ j = 1 ∨ j = 2 by omega) with rfl | rfl | rfl
      · exact hf (Cond.eq (.elem (.field (.string "SmokeTune$Reader" 129) "java/lang/String" "value" "[B") (.int 0)) (.int 110)) (by decide +kernel)
      · exact hf (Cond.eq (.elem (.field (.string "SmokeTune$Reader" 129) "java/lang/String" "value" "[B") (.int 1)) (.int 111)) (by decide +kernel)
      · exact hf (Cond.eq (.elem (.field (.string "SmokeTune$Reader" 129) "java/lang/String" "value" "[B") (.int 2)) (.int 116)) (by decide +kernel)
      )
    (fun i j hi hj hij => absurd (show i = j by omega) hij) hA
  exact ⟨adK 0, adV 0, vk_R.of (A := #[Value.ref b]) (hts (.stringRef "SmokeTune$Reader" 129 "not") (List.mem_of_getElem? (i := 779) (by decide +kernel))) (hev 0 (by decide +kernel)), hSS.1 0 (by decide +kernel)⟩
set_option maxHeartbeats 4000000 in
set_option maxRecDepth 100000 in
theorem gl_s8 {p : Program} {s : State} {m : MethodId} {meth : Method} {c : Code} {b L : Nat} {xs : Nat → Int32} (C0 : lw_At p s m meth c b L xs) {A : Nat → Prop} (hA : ∀ a : Nat, a < s.heap.size → ¬ A a) : ∃ q v : Nat, vk_R RX6 (sI 8) (sT 8) q s ∧ GS q v (sn 8) (sf 8) A s s.heap := by
  obtain ⟨hx, hb, hr, hml, hown, hts, hX, hbl, hlocks, hgv⟩ := C0
  have hf := flat_of_before _ hgv
  obtain ⟨adK, adV, hSS, hev⟩ := vk_Sof (args := #[Value.ref b]) (s := s) (N := 1) (tm := fun _ => .string "SmokeTune$Reader" 131) (len := [3]) (byt := [[60, 62, 61]]) (A := A) (fun i hi => by obtain rfl : i = 0 := (by omega); decide)
    (fun i hi => by obtain rfl : i = 0 := (by omega); exact hf (Cond.exactly (.string "SmokeTune$Reader" 131) "java/lang/String") (by decide +kernel))
    (fun i hi => by obtain rfl : i = 0 := (by omega); exact hf (Cond.eq (.field (.string "SmokeTune$Reader" 131) "java/lang/String" "coder" "B") (.int 0)) (by decide +kernel))
    (fun i hi => by obtain rfl : i = 0 := (by omega); exact hf (Cond.arrayOf (.field (.string "SmokeTune$Reader" 131) "java/lang/String" "value" "[B") .byte) (by decide +kernel))
    (fun i hi => by obtain rfl : i = 0 := (by omega); exact hf (Cond.eq (.length (.field (.string "SmokeTune$Reader" 131) "java/lang/String" "value" "[B")) (.int 3)) (by decide +kernel))
    (fun i hi => by
      obtain rfl : i = 0 := (by omega)
      intro j hj
      have hj : j < 3 := hj
      rcases (show j = 0 ∨ j = 1 ∨ j = 2 by omega) with rfl | rfl | rfl
      · exact hf (Cond.eq (.elem (.field (.string "SmokeTune$Reader" 131) "java/lang/String" "value" "[B") (.int 0)) (.int 60)) (by decide +kernel)
      · exact hf (Cond.eq (.elem (.field (.string "SmokeTune$Reader" 131) "java/lang/String" "value" "[B") (.int 1)) (.int 62)) (by decide +kernel)
      · exact hf (Cond.eq (.elem (.field (.string "SmokeTune$Reader" 131) "java/lang/String" "value" "[B") (.int 2)) (.int 61)) (by decide +kernel)
      )
    (fun i j hi hj hij => absurd (show i = j by omega) hij) hA
  exact ⟨adK 0, adV 0, vk_R.of (A := #[Value.ref b]) (hts (.stringRef "SmokeTune$Reader" 131 "<>=") (List.mem_of_getElem? (i := 780) (by decide +kernel))) (hev 0 (by decide +kernel)), hSS.1 0 (by decide +kernel)⟩
set_option maxHeartbeats 4000000 in
set_option maxRecDepth 100000 in
theorem gl_s9 {p : Program} {s : State} {m : MethodId} {meth : Method} {c : Code} {b L : Nat} {xs : Nat → Int32} (C0 : lw_At p s m meth c b L xs) {A : Nat → Prop} (hA : ∀ a : Nat, a < s.heap.size → ¬ A a) : ∃ q v : Nat, vk_R RX6 (sI 9) (sT 9) q s ∧ GS q v (sn 9) (sf 9) A s s.heap := by
  obtain ⟨hx, hb, hr, hml, hown, hts, hX, hbl, hlocks, hgv⟩ := C0
  have hf := flat_of_before _ hgv
  obtain ⟨adK, adV, hSS, hev⟩ := vk_Sof (args := #[Value.ref b]) (s := s) (N := 1) (tm := fun _ => .string "SmokeTune$Reader" 140) (len := [3]) (byt := [[42, 47, 37]]) (A := A) (fun i hi => by obtain rfl : i = 0 := (by omega); decide)
    (fun i hi => by obtain rfl : i = 0 := (by omega); exact hf (Cond.exactly (.string "SmokeTune$Reader" 140) "java/lang/String") (by decide +kernel))
    (fun i hi => by obtain rfl : i = 0 := (by omega); exact hf (Cond.eq (.field (.string "SmokeTune$Reader" 140) "java/lang/String" "coder" "B") (.int 0)) (by decide +kernel))
    (fun i hi => by obtain rfl : i = 0 := (by omega); exact hf (Cond.arrayOf (.field (.string "SmokeTune$Reader" 140) "java/lang/String" "value" "[B") .byte) (by decide +kernel))
    (fun i hi => by obtain rfl : i = 0 := (by omega); exact hf (Cond.eq (.length (.field (.string "SmokeTune$Reader" 140) "java/lang/String" "value" "[B")) (.int 3)) (by decide +kernel))
    (fun i hi => by
      obtain rfl : i = 0 := (by omega)
      intro j hj
      have hj : j < 3 := hj
      rcases (show j = 0 ∨ j = 1 ∨ j = 2 by omega) with rfl | rfl | rfl
      · exact hf (Cond.eq (.elem (.field (.string "SmokeTune$Reader" 140) "java/lang/String" "value" "[B") (.int 0)) (.int 42)) (by decide +kernel)
      · exact hf (Cond.eq (.elem (.field (.string "SmokeTune$Reader" 140) "java/lang/String" "value" "[B") (.int 1)) (.int 47)) (by decide +kernel)
      · exact hf (Cond.eq (.elem (.field (.string "SmokeTune$Reader" 140) "java/lang/String" "value" "[B") (.int 2)) (.int 37)) (by decide +kernel)
      )
    (fun i j hi hj hij => absurd (show i = j by omega) hij) hA
  exact ⟨adK 0, adV 0, vk_R.of (A := #[Value.ref b]) (hts (.stringRef "SmokeTune$Reader" 140 "*/%") (List.mem_of_getElem? (i := 761) (by decide +kernel))) (hev 0 (by decide +kernel)), hSS.1 0 (by decide +kernel)⟩
set_option maxHeartbeats 4000000 in
set_option maxRecDepth 100000 in
theorem gl_s10 {p : Program} {s : State} {m : MethodId} {meth : Method} {c : Code} {b L : Nat} {xs : Nat → Int32} (C0 : lw_At p s m meth c b L xs) {A : Nat → Prop} (hA : ∀ a : Nat, a < s.heap.size → ¬ A a) : ∃ q v : Nat, vk_R RX6 (sI 10) (sT 10) q s ∧ GS q v (sn 10) (sf 10) A s s.heap := by
  obtain ⟨hx, hb, hr, hml, hown, hts, hX, hbl, hlocks, hgv⟩ := C0
  have hf := flat_of_before _ hgv
  obtain ⟨adK, adV, hSS, hev⟩ := vk_Sof (args := #[Value.ref b]) (s := s) (N := 1) (tm := fun _ => .string "SmokeTune$Reader" 142) (len := [2]) (byt := [[43, 45]]) (A := A) (fun i hi => by obtain rfl : i = 0 := (by omega); decide)
    (fun i hi => by obtain rfl : i = 0 := (by omega); exact hf (Cond.exactly (.string "SmokeTune$Reader" 142) "java/lang/String") (by decide +kernel))
    (fun i hi => by obtain rfl : i = 0 := (by omega); exact hf (Cond.eq (.field (.string "SmokeTune$Reader" 142) "java/lang/String" "coder" "B") (.int 0)) (by decide +kernel))
    (fun i hi => by obtain rfl : i = 0 := (by omega); exact hf (Cond.arrayOf (.field (.string "SmokeTune$Reader" 142) "java/lang/String" "value" "[B") .byte) (by decide +kernel))
    (fun i hi => by obtain rfl : i = 0 := (by omega); exact hf (Cond.eq (.length (.field (.string "SmokeTune$Reader" 142) "java/lang/String" "value" "[B")) (.int 2)) (by decide +kernel))
    (fun i hi => by
      obtain rfl : i = 0 := (by omega)
      intro j hj
      have hj : j < 2 := hj
      rcases (show j = 0 ∨ j = 1 by omega) with rfl | rfl
      · exact hf (Cond.eq (.elem (.field (.string "SmokeTune$Reader" 142) "java/lang/String" "value" "[B") (.int 0)) (.int 43)) (by decide +kernel)
      · exact hf (Cond.eq (.elem (.field (.string "SmokeTune$Reader" 142) "java/lang/String" "value" "[B") (.int 1)) (.int 45)) (by decide +kernel)
      )
    (fun i j hi hj hij => absurd (show i = j by omega) hij) hA
  exact ⟨adK 0, adV 0, vk_R.of (A := #[Value.ref b]) (hts (.stringRef "SmokeTune$Reader" 142 "+-") (List.mem_of_getElem? (i := 768) (by decide +kernel))) (hev 0 (by decide +kernel)), hSS.1 0 (by decide +kernel)⟩
set_option maxHeartbeats 4000000 in
set_option maxRecDepth 100000 in
theorem gl_s11 {p : Program} {s : State} {m : MethodId} {meth : Method} {c : Code} {b L : Nat} {xs : Nat → Int32} (C0 : lw_At p s m meth c b L xs) {A : Nat → Prop} (hA : ∀ a : Nat, a < s.heap.size → ¬ A a) : ∃ q v : Nat, vk_R RX6 (sI 11) (sT 11) q s ∧ GS q v (sn 11) (sf 11) A s s.heap := by
  obtain ⟨hx, hb, hr, hml, hown, hts, hX, hbl, hlocks, hgv⟩ := C0
  have hf := flat_of_before _ hgv
  obtain ⟨adK, adV, hSS, hev⟩ := vk_Sof (args := #[Value.ref b]) (s := s) (N := 1) (tm := fun _ => .string "SmokeTune$Reader" 144) (len := [47]) (byt := [[104, 111, 117, 115, 101, 32, 110, 111, 116, 101, 32, 115, 116, 114, 101, 101, 116, 32, 102, 105, 114, 101, 32, 99, 111, 97, 108, 32, 104, 111, 117, 114, 32, 100, 97, 121, 32, 109, 111, 111, 100, 32, 111, 116, 104, 101, 114]]) (A := A) (fun i hi => by obtain rfl : i = 0 := (by omega); decide)
    (fun i hi => by obtain rfl : i = 0 := (by omega); exact hf (Cond.exactly (.string "SmokeTune$Reader" 144) "java/lang/String") (by decide +kernel))
    (fun i hi => by obtain rfl : i = 0 := (by omega); exact hf (Cond.eq (.field (.string "SmokeTune$Reader" 144) "java/lang/String" "coder" "B") (.int 0)) (by decide +kernel))
    (fun i hi => by obtain rfl : i = 0 := (by omega); exact hf (Cond.arrayOf (.field (.string "SmokeTune$Reader" 144) "java/lang/String" "value" "[B") .byte) (by decide +kernel))
    (fun i hi => by obtain rfl : i = 0 := (by omega); exact hf (Cond.eq (.length (.field (.string "SmokeTune$Reader" 144) "java/lang/String" "value" "[B")) (.int 47)) (by decide +kernel))
    (fun i hi => by
      obtain rfl : i = 0 := (by omega)
      intro j hj
      have hj : j < 47 := hj
      rcases (show j = 0 ∨ j = 1 ∨ j = 2 ∨ j = 3 ∨ j = 4 ∨ j = 5 ∨ j = 6 ∨ j = 7 ∨ j = 8 ∨ j = 9 ∨ j = 10 ∨ j = 11 ∨ j = 12 ∨ j = 13 ∨ j = 14 ∨ j = 15 ∨ j = 16 ∨ j = 17 ∨ j = 18 ∨ j = 19 ∨ j = 20 ∨ j = 21 ∨ j = 22 ∨ j = 23 ∨ j = 24 ∨ j = 25 ∨ j = 26 ∨ j = 27 ∨ j = 28 ∨ j = 29 ∨ j = 30 ∨ j = 31 ∨ j = 32 ∨ j = 33 ∨ j = 34 ∨ j = 35 ∨ j = 36 ∨ j = 37 ∨ j = 38 ∨ j = 39 ∨ j = 40 ∨ j = 41 ∨ j = 42 ∨ j = 43 ∨ j = 44 ∨ j = 45 ∨ j = 46 by omega) with rfl | rfl | rfl | rfl | rfl | rfl | rfl | rfl | rfl | rfl | rfl | rfl | rfl | rfl | rfl | rfl | rfl | rfl | rfl | rfl | rfl | rfl | rfl | rfl | rfl | rfl | rfl | rfl | rfl | rfl | rfl | rfl | rfl | rfl | rfl | rfl | rfl | rfl | rfl | rfl | rfl | rfl | rfl | rfl | rfl | rfl | rfl
      · exact hf (Cond.eq (.elem (.field (.string "SmokeTune$Reader" 144) "java/lang/String" "value" "[B") (.int 0)) (.int 104)) (by decide +kernel)
      · exact hf (Cond.eq (.elem (.field (.string "SmokeTune$Reader" 144) "java/lang/String" "value" "[B") (.int 1)) (.int 111)) (by decide +kernel)
      · exact hf (Cond.eq (.elem (.field (.string "SmokeTune$Reader" 144) "java/lang/String" "value" "[B") (.int 2)) (.int 117)) (by decide +kernel)
      · exact hf (Cond.eq (.elem (.field (.string "SmokeTune$Reader" 144) "java/lang/String" "value" "[B") (.int 3)) (.int 115)) (by decide +kernel)
      · exact hf (Cond.eq (.elem (.field (.string "SmokeTune$Reader" 144) "java/lang/String" "value" "[B") (.int 4)) (.int 101)) (by decide +kernel)
      · exact hf (Cond.eq (.elem (.field (.string "SmokeTune$Reader" 144) "java/lang/String" "value" "[B") (.int 5)) (.int 32)) (by decide +kernel)
      · exact hf (Cond.eq (.elem (.field (.string "SmokeTune$Reader" 144) "java/lang/String" "value" "[B") (.int 6)) (.int 110)) (by decide +kernel)
      · exact hf (Cond.eq (.elem (.field (.string "SmokeTune$Reader" 144) "java/lang/String" "value" "[B") (.int 7)) (.int 111)) (by decide +kernel)
      · exact hf (Cond.eq (.elem (.field (.string "SmokeTune$Reader" 144) "java/lang/String" "value" "[B") (.int 8)) (.int 116)) (by decide +kernel)
      · exact hf (Cond.eq (.elem (.field (.string "SmokeTune$Reader" 144) "java/lang/String" "value" "[B") (.int 9)) (.int 101)) (by decide +kernel)
      · exact hf (Cond.eq (.elem (.field (.string "SmokeTune$Reader" 144) "java/lang/String" "value" "[B") (.int 10)) (.int 32)) (by decide +kernel)
      · exact hf (Cond.eq (.elem (.field (.string "SmokeTune$Reader" 144) "java/lang/String" "value" "[B") (.int 11)) (.int 115)) (by decide +kernel)
      · exact hf (Cond.eq (.elem (.field (.string "SmokeTune$Reader" 144) "java/lang/String" "value" "[B") (.int 12)) (.int 116)) (by decide +kernel)
      · exact hf (Cond.eq (.elem (.field (.string "SmokeTune$Reader" 144) "java/lang/String" "value" "[B") (.int 13)) (.int 114)) (by decide +kernel)
      · exact hf (Cond.eq (.elem (.field (.string "SmokeTune$Reader" 144) "java/lang/String" "value" "[B") (.int 14)) (.int 101)) (by decide +kernel)
      · exact hf (Cond.eq (.elem (.field (.string "SmokeTune$Reader" 144) "java/lang/String" "value" "[B") (.int 15)) (.int 101)) (by decide +kernel)
      · exact hf (Cond.eq (.elem (.field (.string "SmokeTune$Reader" 144) "java/lang/String" "value" "[B") (.int 16)) (.int 116)) (by decide +kernel)
      · exact hf (Cond.eq (.elem (.field (.string "SmokeTune$Reader" 144) "java/lang/String" "value" "[B") (.int 17)) (.int 32)) (by decide +kernel)
      · exact hf (Cond.eq (.elem (.field (.string "SmokeTune$Reader" 144) "java/lang/String" "value" "[B") (.int 18)) (.int 102)) (by decide +kernel)
      · exact hf (Cond.eq (.elem (.field (.string "SmokeTune$Reader" 144) "java/lang/String" "value" "[B") (.int 19)) (.int 105)) (by decide +kernel)
      · exact hf (Cond.eq (.elem (.field (.string "SmokeTune$Reader" 144) "java/lang/String" "value" "[B") (.int 20)) (.int 114)) (by decide +kernel)
      · exact hf (Cond.eq (.elem (.field (.string "SmokeTune$Reader" 144) "java/lang/String" "value" "[B") (.int 21)) (.int 101)) (by decide +kernel)
      · exact hf (Cond.eq (.elem (.field (.string "SmokeTune$Reader" 144) "java/lang/String" "value" "[B") (.int 22)) (.int 32)) (by decide +kernel)
      · exact hf (Cond.eq (.elem (.field (.string "SmokeTune$Reader" 144) "java/lang/String" "value" "[B") (.int 23)) (.int 99)) (by decide +kernel)
      · exact hf (Cond.eq (.elem (.field (.string "SmokeTune$Reader" 144) "java/lang/String" "value" "[B") (.int 24)) (.int 111)) (by decide +kernel)
      · exact hf (Cond.eq (.elem (.field (.string "SmokeTune$Reader" 144) "java/lang/String" "value" "[B") (.int 25)) (.int 97)) (by decide +kernel)
      · exact hf (Cond.eq (.elem (.field (.string "SmokeTune$Reader" 144) "java/lang/String" "value" "[B") (.int 26)) (.int 108)) (by decide +kernel)
      · exact hf (Cond.eq (.elem (.field (.string "SmokeTune$Reader" 144) "java/lang/String" "value" "[B") (.int 27)) (.int 32)) (by decide +kernel)
      · exact hf (Cond.eq (.elem (.field (.string "SmokeTune$Reader" 144) "java/lang/String" "value" "[B") (.int 28)) (.int 104)) (by decide +kernel)
      · exact hf (Cond.eq (.elem (.field (.string "SmokeTune$Reader" 144) "java/lang/String" "value" "[B") (.int 29)) (.int 111)) (by decide +kernel)
      · exact hf (Cond.eq (.elem (.field (.string "SmokeTune$Reader" 144) "java/lang/String" "value" "[B") (.int 30)) (.int 117)) (by decide +kernel)
      · exact hf (Cond.eq (.elem (.field (.string "SmokeTune$Reader" 144) "java/lang/String" "value" "[B") (.int 31)) (.int 114)) (by decide +kernel)
      · exact hf (Cond.eq (.elem (.field (.string "SmokeTune$Reader" 144) "java/lang/String" "value" "[B") (.int 32)) (.int 32)) (by decide +kernel)
      · exact hf (Cond.eq (.elem (.field (.string "SmokeTune$Reader" 144) "java/lang/String" "value" "[B") (.int 33)) (.int 100)) (by decide +kernel)
      · exact hf (Cond.eq (.elem (.field (.string "SmokeTune$Reader" 144) "java/lang/String" "value" "[B") (.int 34)) (.int 97)) (by decide +kernel)
      · exact hf (Cond.eq (.elem (.field (.string "SmokeTune$Reader" 144) "java/lang/String" "value" "[B") (.int 35)) (.int 121)) (by decide +kernel)
      · exact hf (Cond.eq (.elem (.field (.string "SmokeTune$Reader" 144) "java/lang/String" "value" "[B") (.int 36)) (.int 32)) (by decide +kernel)
      · exact hf (Cond.eq (.elem (.field (.string "SmokeTune$Reader" 144) "java/lang/String" "value" "[B") (.int 37)) (.int 109)) (by decide +kernel)
      · exact hf (Cond.eq (.elem (.field (.string "SmokeTune$Reader" 144) "java/lang/String" "value" "[B") (.int 38)) (.int 111)) (by decide +kernel)
      · exact hf (Cond.eq (.elem (.field (.string "SmokeTune$Reader" 144) "java/lang/String" "value" "[B") (.int 39)) (.int 111)) (by decide +kernel)
      · exact hf (Cond.eq (.elem (.field (.string "SmokeTune$Reader" 144) "java/lang/String" "value" "[B") (.int 40)) (.int 100)) (by decide +kernel)
      · exact hf (Cond.eq (.elem (.field (.string "SmokeTune$Reader" 144) "java/lang/String" "value" "[B") (.int 41)) (.int 32)) (by decide +kernel)
      · exact hf (Cond.eq (.elem (.field (.string "SmokeTune$Reader" 144) "java/lang/String" "value" "[B") (.int 42)) (.int 111)) (by decide +kernel)
      · exact hf (Cond.eq (.elem (.field (.string "SmokeTune$Reader" 144) "java/lang/String" "value" "[B") (.int 43)) (.int 116)) (by decide +kernel)
      · exact hf (Cond.eq (.elem (.field (.string "SmokeTune$Reader" 144) "java/lang/String" "value" "[B") (.int 44)) (.int 104)) (by decide +kernel)
      · exact hf (Cond.eq (.elem (.field (.string "SmokeTune$Reader" 144) "java/lang/String" "value" "[B") (.int 45)) (.int 101)) (by decide +kernel)
      · exact hf (Cond.eq (.elem (.field (.string "SmokeTune$Reader" 144) "java/lang/String" "value" "[B") (.int 46)) (.int 114)) (by decide +kernel)
      )
    (fun i j hi hj hij => absurd (show i = j by omega) hij) hA
  exact ⟨adK 0, adV 0, vk_R.of (A := #[Value.ref b]) (hts (.stringRef "SmokeTune$Reader" 144 "house note street fire coal hour day mood other") (List.mem_of_getElem? (i := 755) (by decide +kernel))) (hev 0 (by decide +kernel)), hSS.1 0 (by decide +kernel)⟩
set_option maxHeartbeats 4000000 in
set_option maxRecDepth 100000 in
theorem gl_s12 {p : Program} {s : State} {m : MethodId} {meth : Method} {c : Code} {b L : Nat} {xs : Nat → Int32} (C0 : lw_At p s m meth c b L xs) {A : Nat → Prop} (hA : ∀ a : Nat, a < s.heap.size → ¬ A a) : ∃ q v : Nat, vk_R RX6 (sI 12) (sT 12) q s ∧ GS q v (sn 12) (sf 12) A s s.heap := by
  obtain ⟨hx, hb, hr, hml, hown, hts, hX, hbl, hlocks, hgv⟩ := C0
  have hf := flat_of_before _ hgv
  obtain ⟨adK, adV, hSS, hev⟩ := vk_Sof (args := #[Value.ref b]) (s := s) (N := 1) (tm := fun _ => .string "SmokeTune$Reader" 146) (len := [40]) (byt := [[104, 111, 117, 114, 32, 100, 97, 121, 32, 102, 105, 110, 101, 115, 32, 100, 111, 110, 101, 32, 109, 101, 116, 32, 102, 105, 114, 101, 32, 99, 111, 97, 108, 32, 115, 111, 117, 110, 100, 115]]) (A := A) (fun i hi => by obtain rfl : i = 0 := (by omega); decide)
    (fun i hi => by obtain rfl : i = 0 := (by omega); exact hf (Cond.exactly (.string "SmokeTune$Reader" 146) "java/lang/String") (by decide +kernel))
    (fun i hi => by obtain rfl : i = 0 := (by omega); exact hf (Cond.eq (.field (.string "SmokeTune$Reader" 146) "java/lang/String" "coder" "B") (.int 0)) (by decide +kernel))
    (fun i hi => by obtain rfl : i = 0 := (by omega); exact hf (Cond.arrayOf (.field (.string "SmokeTune$Reader" 146) "java/lang/String" "value" "[B") .byte) (by decide +kernel))
    (fun i hi => by obtain rfl : i = 0 := (by omega); exact hf (Cond.eq (.length (.field (.string "SmokeTune$Reader" 146) "java/lang/String" "value" "[B")) (.int 40)) (by decide +kernel))
    (fun i hi => by
      obtain rfl : i = 0 := (by omega)
      intro j hj
      have hj : j < 40 := hj
      rcases (show j = 0 ∨ j = 1 ∨ j = 2 ∨ j = 3 ∨ j = 4 ∨ j = 5 ∨ j = 6 ∨ j = 7 ∨ j = 8 ∨ j = 9 ∨ j = 10 ∨ j = 11 ∨ j = 12 ∨ j = 13 ∨ j = 14 ∨ j = 15 ∨ j = 16 ∨ j = 17 ∨ j = 18 ∨ j = 19 ∨ j = 20 ∨ j = 21 ∨ j = 22 ∨ j = 23 ∨ j = 24 ∨ j = 25 ∨ j = 26 ∨ j = 27 ∨ j = 28 ∨ j = 29 ∨ j = 30 ∨ j = 31 ∨ j = 32 ∨ j = 33 ∨ j = 34 ∨ j = 35 ∨ j = 36 ∨ j = 37 ∨ j = 38 ∨ j = 39 by omega) with rfl | rfl | rfl | rfl | rfl | rfl | rfl | rfl | rfl | rfl | rfl | rfl | rfl | rfl | rfl | rfl | rfl | rfl | rfl | rfl | rfl | rfl | rfl | rfl | rfl | rfl | rfl | rfl | rfl | rfl | rfl | rfl | rfl | rfl | rfl | rfl | rfl | rfl | rfl | rfl
      · exact hf (Cond.eq (.elem (.field (.string "SmokeTune$Reader" 146) "java/lang/String" "value" "[B") (.int 0)) (.int 104)) (by decide +kernel)
      · exact hf (Cond.eq (.elem (.field (.string "SmokeTune$Reader" 146) "java/lang/String" "value" "[B") (.int 1)) (.int 111)) (by decide +kernel)
      · exact hf (Cond.eq (.elem (.field (.string "SmokeTune$Reader" 146) "java/lang/String" "value" "[B") (.int 2)) (.int 117)) (by decide +kernel)
      · exact hf (Cond.eq (.elem (.field (.string "SmokeTune$Reader" 146) "java/lang/String" "value" "[B") (.int 3)) (.int 114)) (by decide +kernel)
      · exact hf (Cond.eq (.elem (.field (.string "SmokeTune$Reader" 146) "java/lang/String" "value" "[B") (.int 4)) (.int 32)) (by decide +kernel)
      · exact hf (Cond.eq (.elem (.field (.string "SmokeTune$Reader" 146) "java/lang/String" "value" "[B") (.int 5)) (.int 100)) (by decide +kernel)
      · exact hf (Cond.eq (.elem (.field (.string "SmokeTune$Reader" 146) "java/lang/String" "value" "[B") (.int 6)) (.int 97)) (by decide +kernel)
      · exact hf (Cond.eq (.elem (.field (.string "SmokeTune$Reader" 146) "java/lang/String" "value" "[B") (.int 7)) (.int 121)) (by decide +kernel)
      · exact hf (Cond.eq (.elem (.field (.string "SmokeTune$Reader" 146) "java/lang/String" "value" "[B") (.int 8)) (.int 32)) (by decide +kernel)
      · exact hf (Cond.eq (.elem (.field (.string "SmokeTune$Reader" 146) "java/lang/String" "value" "[B") (.int 9)) (.int 102)) (by decide +kernel)
      · exact hf (Cond.eq (.elem (.field (.string "SmokeTune$Reader" 146) "java/lang/String" "value" "[B") (.int 10)) (.int 105)) (by decide +kernel)
      · exact hf (Cond.eq (.elem (.field (.string "SmokeTune$Reader" 146) "java/lang/String" "value" "[B") (.int 11)) (.int 110)) (by decide +kernel)
      · exact hf (Cond.eq (.elem (.field (.string "SmokeTune$Reader" 146) "java/lang/String" "value" "[B") (.int 12)) (.int 101)) (by decide +kernel)
      · exact hf (Cond.eq (.elem (.field (.string "SmokeTune$Reader" 146) "java/lang/String" "value" "[B") (.int 13)) (.int 115)) (by decide +kernel)
      · exact hf (Cond.eq (.elem (.field (.string "SmokeTune$Reader" 146) "java/lang/String" "value" "[B") (.int 14)) (.int 32)) (by decide +kernel)
      · exact hf (Cond.eq (.elem (.field (.string "SmokeTune$Reader" 146) "java/lang/String" "value" "[B") (.int 15)) (.int 100)) (by decide +kernel)
      · exact hf (Cond.eq (.elem (.field (.string "SmokeTune$Reader" 146) "java/lang/String" "value" "[B") (.int 16)) (.int 111)) (by decide +kernel)
      · exact hf (Cond.eq (.elem (.field (.string "SmokeTune$Reader" 146) "java/lang/String" "value" "[B") (.int 17)) (.int 110)) (by decide +kernel)
      · exact hf (Cond.eq (.elem (.field (.string "SmokeTune$Reader" 146) "java/lang/String" "value" "[B") (.int 18)) (.int 101)) (by decide +kernel)
      · exact hf (Cond.eq (.elem (.field (.string "SmokeTune$Reader" 146) "java/lang/String" "value" "[B") (.int 19)) (.int 32)) (by decide +kernel)
      · exact hf (Cond.eq (.elem (.field (.string "SmokeTune$Reader" 146) "java/lang/String" "value" "[B") (.int 20)) (.int 109)) (by decide +kernel)
      · exact hf (Cond.eq (.elem (.field (.string "SmokeTune$Reader" 146) "java/lang/String" "value" "[B") (.int 21)) (.int 101)) (by decide +kernel)
      · exact hf (Cond.eq (.elem (.field (.string "SmokeTune$Reader" 146) "java/lang/String" "value" "[B") (.int 22)) (.int 116)) (by decide +kernel)
      · exact hf (Cond.eq (.elem (.field (.string "SmokeTune$Reader" 146) "java/lang/String" "value" "[B") (.int 23)) (.int 32)) (by decide +kernel)
      · exact hf (Cond.eq (.elem (.field (.string "SmokeTune$Reader" 146) "java/lang/String" "value" "[B") (.int 24)) (.int 102)) (by decide +kernel)
      · exact hf (Cond.eq (.elem (.field (.string "SmokeTune$Reader" 146) "java/lang/String" "value" "[B") (.int 25)) (.int 105)) (by decide +kernel)
      · exact hf (Cond.eq (.elem (.field (.string "SmokeTune$Reader" 146) "java/lang/String" "value" "[B") (.int 26)) (.int 114)) (by decide +kernel)
      · exact hf (Cond.eq (.elem (.field (.string "SmokeTune$Reader" 146) "java/lang/String" "value" "[B") (.int 27)) (.int 101)) (by decide +kernel)
      · exact hf (Cond.eq (.elem (.field (.string "SmokeTune$Reader" 146) "java/lang/String" "value" "[B") (.int 28)) (.int 32)) (by decide +kernel)
      · exact hf (Cond.eq (.elem (.field (.string "SmokeTune$Reader" 146) "java/lang/String" "value" "[B") (.int 29)) (.int 99)) (by decide +kernel)
      · exact hf (Cond.eq (.elem (.field (.string "SmokeTune$Reader" 146) "java/lang/String" "value" "[B") (.int 30)) (.int 111)) (by decide +kernel)
      · exact hf (Cond.eq (.elem (.field (.string "SmokeTune$Reader" 146) "java/lang/String" "value" "[B") (.int 31)) (.int 97)) (by decide +kernel)
      · exact hf (Cond.eq (.elem (.field (.string "SmokeTune$Reader" 146) "java/lang/String" "value" "[B") (.int 32)) (.int 108)) (by decide +kernel)
      · exact hf (Cond.eq (.elem (.field (.string "SmokeTune$Reader" 146) "java/lang/String" "value" "[B") (.int 33)) (.int 32)) (by decide +kernel)
      · exact hf (Cond.eq (.elem (.field (.string "SmokeTune$Reader" 146) "java/lang/String" "value" "[B") (.int 34)) (.int 115)) (by decide +kernel)
      · exact hf (Cond.eq (.elem (.field (.string "SmokeTune$Reader" 146) "java/lang/String" "value" "[B") (.int 35)) (.int 111)) (by decide +kernel)
      · exact hf (Cond.eq (.elem (.field (.string "SmokeTune$Reader" 146) "java/lang/String" "value" "[B") (.int 36)) (.int 117)) (by decide +kernel)
      · exact hf (Cond.eq (.elem (.field (.string "SmokeTune$Reader" 146) "java/lang/String" "value" "[B") (.int 37)) (.int 110)) (by decide +kernel)
      · exact hf (Cond.eq (.elem (.field (.string "SmokeTune$Reader" 146) "java/lang/String" "value" "[B") (.int 38)) (.int 100)) (by decide +kernel)
      · exact hf (Cond.eq (.elem (.field (.string "SmokeTune$Reader" 146) "java/lang/String" "value" "[B") (.int 39)) (.int 115)) (by decide +kernel)
      )
    (fun i j hi hj hij => absurd (show i = j by omega) hij) hA
  exact ⟨adK 0, adV 0, vk_R.of (A := #[Value.ref b]) (hts (.stringRef "SmokeTune$Reader" 146 "hour day fines done met fire coal sounds") (List.mem_of_getElem? (i := 756) (by decide +kernel))) (hev 0 (by decide +kernel)), hSS.1 0 (by decide +kernel)⟩
set_option maxHeartbeats 4000000 in
set_option maxRecDepth 100000 in
theorem gl_start {p : Program} {s : State} {m : MethodId} {meth : Method} {c : Code} {b L : Nat} {xs : Nat → Int32} (C0 : lw_At p s m meth c b L xs) {A : Nat → Prop} (hA : ∀ a : Nat, a < s.heap.size → ¬ A a) : ∃ g : Nat → Nat, Gl g A s s.heap := by
  obtain ⟨hx, hb, hr, hml, hown, hts, hX, hbl, hlocks, hgv⟩ := id C0
  have hf := flat_of_before _ hgv
  obtain ⟨t0, ha0⟩ := gl_a0 C0 hA
  obtain ⟨t1, ha1⟩ := gl_a1 C0 hA
  obtain ⟨t2, ha2⟩ := gl_a2 C0 hA
  obtain ⟨t3, ha3⟩ := gl_a3 C0 hA
  obtain ⟨t4, ha4⟩ := gl_a4 C0 hA
  obtain ⟨t5, ha5⟩ := gl_a5 C0 hA
  obtain ⟨t6, ha6⟩ := gl_a6 C0 hA
  obtain ⟨t7, ha7⟩ := gl_a7 C0 hA
  obtain ⟨q0, v0, hs0⟩ := gl_s0 C0 hA
  obtain ⟨q1, v1, hs1⟩ := gl_s1 C0 hA
  obtain ⟨q2, v2, hs2⟩ := gl_s2 C0 hA
  obtain ⟨q3, v3, hs3⟩ := gl_s3 C0 hA
  obtain ⟨q4, v4, hs4⟩ := gl_s4 C0 hA
  obtain ⟨q5, v5, hs5⟩ := gl_s5 C0 hA
  obtain ⟨q6, v6, hs6⟩ := gl_s6 C0 hA
  obtain ⟨q7, v7, hs7⟩ := gl_s7 C0 hA
  obtain ⟨q8, v8, hs8⟩ := gl_s8 C0 hA
  obtain ⟨q9, v9, hs9⟩ := gl_s9 C0 hA
  obtain ⟨q10, v10, hs10⟩ := gl_s10 C0 hA
  obtain ⟨q11, v11, hs11⟩ := gl_s11 C0 hA
  obtain ⟨q12, v12, hs12⟩ := gl_s12 C0 hA
  refine ⟨fun i => ([t0, t1, t2, t3, t4, t5, t6, t7, q0, v0, q1, v1, q2, v2, q3, v3, q4, v4, q5, v5, q6, v6, q7, v7, q8, v8, q9, v9, q10, v10, q11, v11, q12, v12] : List Nat).getD i 0, fun k hk => ?_, ⟨va_Zof (hts (.laysStatic "java/lang/String" "COMPACT_STRINGS" "Z") (List.mem_of_getElem? (i := 686) (by decide +kernel))) (hts (.initialized "java/lang/String") (List.mem_of_getElem? (i := 159) (by decide +kernel))) (va_eqi (hf (Cond.eq (.static "java/lang/String" "COMPACT_STRINGS" "Z") (.int 1)) (by decide +kernel))) hA, va_Zqof (hts (.laysStatic "jdk/internal/util/Preconditions" "SIOOBE_FORMATTER" "Ljava/util/function/BiFunction;") (List.mem_of_getElem? (i := 702) (by decide +kernel))) (hts (.initialized "jdk/internal/util/Preconditions") (List.mem_of_getElem? (i := 161) (by decide +kernel))) (hf (Cond.isRef (.static "jdk/internal/util/Preconditions" SIO SIOd)) (by decide +kernel)) hA⟩, fun k hk => ?_⟩
  · rcases (show k = 0 ∨ k = 1 ∨ k = 2 ∨ k = 3 ∨ k = 4 ∨ k = 5 ∨ k = 6 ∨ k = 7 by omega) with rfl | rfl | rfl | rfl | rfl | rfl | rfl | rfl
    · exact ha0
    · exact ha1
    · exact ha2
    · exact ha3
    · exact ha4
    · exact ha5
    · exact ha6
    · exact ha7
  · rcases (show k = 0 ∨ k = 1 ∨ k = 2 ∨ k = 3 ∨ k = 4 ∨ k = 5 ∨ k = 6 ∨ k = 7 ∨ k = 8 ∨ k = 9 ∨ k = 10 ∨ k = 11 ∨ k = 12 by omega) with rfl | rfl | rfl | rfl | rfl | rfl | rfl | rfl | rfl | rfl | rfl | rfl | rfl
    · exact hs0
    · exact hs1
    · exact hs2
    · exact hs3
    · exact hs4
    · exact hs5
    · exact hs6
    · exact hs7
    · exact hs8
    · exact hs9
    · exact hs10
    · exact hs11
    · exact hs12
theorem cst_start {p : Program} {s : State} {m : MethodId} {meth : Method} {c : Code} {b L : Nat} {xs : Nat → Int32} (C0 : lw_At p s m meth c b L xs) : va_Nw CST s := by
  obtain ⟨hx, hb, hr, hml, hown, hts, hX, hbl, hlocks, hgv⟩ := C0
  exact va_Nw.of rfl (hts (.castable "[I" "java/lang/Cloneable") (List.mem_of_getElem? (i := 800) (by decide +kernel)))
