set_option maxHeartbeats 4000000 in
set_option maxRecDepth 100000 in
theorem law_15 {p : Program} {e : Env} {s : State} {m : MethodId} {below : List Frame} {meth : Method} {c : Code} (l : Launch) {b : Nat} {xs : Nat → Int32} (C0 : lw_At p s m meth c b 6 xs) (D : va_G) (K : Nat → ClassId) (hK : va_K D vwCl (KT K) s) (hN : lw_N s) {A : Nat → Prop} (hA : ∀ q, s.heap.size ≤ q → A q) (hA0 : ∀ q, A q → s.heap.size ≤ q) (hbA : ¬ A b) (z0 z1 z2 z3 z4 z5 z6 z7 z8 z9 z10 z11 z12 z13 z14 z15 z16 z17 z18 z19 z20 z21 z22 z23 z24 z25 z26 z27 z28 z29 z30 z31 z32 z33 z34 z35 z36 z37 z38 z39 z40 z41 z42 z43 z44 z45 z46 z47 z48 z49 z50 : Nat) (H : Heap) (locs : List Loc) (hP : va_P D vwCl [(z0, .inr (11, [.ref z1, .ref z2, .ref z3, .ref z4, .ref z5, .ref z6, .ref z7, .ref z8, .ref z9, .ref z10, .ref z11, .ref z12, .ref z13, .int 0, .int 0, .int 0, .int 0])), (z1, .inr (9, [.ref z14, .ref z15, .ref z16, .ref z17, .int 0, .int 0, .int (-1), .int 0, .int 0, .int 0])), (z15, .inl (K 0, 24, .inl (fun _ => 0))), (z16, .inl (K 0, 6, .inl tm0)), (z18, .inr (12, [.int 0, .int 0, .ref z19, .ref z20, .ref z21, .ref z22, .ref z23, .ref z24, .int 0, .ref z25, .ref z26, .int 0, .ref z27, .int 0, .int 0, .int 0, .int 0, .long 0, .int (-1), .int 0, .int 0, .int 0, .ref z28, .int 0, .ref z29, .ref z30, .int 0, .ref z31, .ref z32, .int 0, .int 0, .ref z33, .ref z34, .ref z35, .int 0, .ref z36, .ref z37, .ref z38, .int 0, .long 0, .long 0, .ref z39, .ref z40, .ref z41, .ref z42, .ref z43, .ref z44, .ref z45, .ref z46, .ref z47, .ref z48, .ref z49, .int 0, .int 0, .int (-1), .int 0, .long 0, .ref z50, .int 0, .int (-1)])), (z20, .inl (K 0, 5500, .inl row0))] H) (hD : va_D A [(z0, .inr (11, [.ref z1, .ref z2, .ref z3, .ref z4, .ref z5, .ref z6, .ref z7, .ref z8, .ref z9, .ref z10, .ref z11, .ref z12, .ref z13, .int 0, .int 0, .int 0, .int 0])), (z1, .inr (9, [.ref z14, .ref z15, .ref z16, .ref z17, .int 0, .int 0, .int (-1), .int 0, .int 0, .int 0])), (z15, .inl (K 0, 24, .inl (fun _ => 0))), (z16, .inl (K 0, 6, .inl tm0)), (z18, .inr (12, [.int 0, .int 0, .ref z19, .ref z20, .ref z21, .ref z22, .ref z23, .ref z24, .int 0, .ref z25, .ref z26, .int 0, .ref z27, .int 0, .int 0, .int 0, .int 0, .long 0, .int (-1), .int 0, .int 0, .int 0, .ref z28, .int 0, .ref z29, .ref z30, .int 0, .ref z31, .ref z32, .int 0, .int 0, .ref z33, .ref z34, .ref z35, .int 0, .ref z36, .ref z37, .ref z38, .int 0, .long 0, .long 0, .ref z39, .ref z40, .ref z41, .ref z42, .ref z43, .ref z44, .ref z45, .ref z46, .ref z47, .ref z48, .ref z49, .int 0, .int 0, .int (-1), .int 0, .long 0, .ref z50, .int 0, .int (-1)])), (z20, .inl (K 0, 5500, .inl row0))]) (hS : va_S A s.heap H locs) (ls : Array Slot) (hl : lv_has ls 4 [(3, .int 0), (2, .ref z18), (1, .ref z0), (0, .ref b)]) : W p l e room_1 s m #[Value.ref b] below meth c H locs 97 27561 (lw_Z below #[Value.ref b] s) (F0 m 577 ls []) := by
  obtain ⟨hx, hb, hr, hml, hown, hts, hX, hbl, hlocks, hgv⟩ := C0
  have hown : s.vm.findClass RL = some m.cls := hown
  refine lv_aload_n hx hb dL_law_577 rfl (lv_at hl 2 rfl) ?_
  refine lv_aload_n hx hb dL_law_578 rfl (lv_at hl 3 rfl) ?_
  refine lv_iload_n hx hb dL_law_579 rfl (lv_at hl 0 rfl) ?_
  refine lv_iconst (v := 1) hx hb dL_law_580 (by decide) ?_
  refine lv_iadd hx hb dL_law_581 ?_
  refine lv_topi (fun x_1 ex_1 => ?_)
  obtain rfl : x_1 = 1 := ex_1.trans (by first | rfl | decide)
  refine va_sld hx hb hX hbl hbA hS (i_in (x := 1) rfl (by omega)) dL_law_582 ?_
  refine W.eq (g2 := F0 m 583 ls [.int (xs 1), .ref z0]) rfl ?_
  refine pci (va_runV (As := [.int (xs 1)]) (rest := []) ⟨hx, hb, hml, hown, hts⟩ (t_sounds l D K z0 (xs 1) z1 (.ref z2) (.ref z3) (.ref z4) (.ref z5) (.ref z6) (.ref z7) (.ref z8) (.ref z9) (.ref z10) (.ref z11) (.ref z12) (.ref z13) (.int 0) (.int 0) (.int 0) (.int 0) (.ref z14) z15 z16 (.ref z17) (.int 0) (.int (-1)) (.int 0) (.int 0) (.int 0) H.size) (cwV 1 hts gL_X11_sounds rfl rfl rfl (by decide +kernel) ⟨Nat.le_of_ble_eq_true rfl, Nat.le_of_ble_eq_true rfl⟩) (mkV hK hN (hP.sub [0, 1, 2, 3] rfl) (hD.sub [0, 1, 2, 3] (by decide) rfl) (ci := 11) (q0 := 0) rfl rfl) rfl rfl hl.1 rfl (lv_room (Nat.le_of_ble_eq_true rfl)) dL_law_583 ⟨Nat.le_of_ble_eq_true rfl, Nat.le_of_ble_eq_true rfl⟩) (fun r_2 hw => ?_)
  have hv_3 := hw
  refine lv_aload_n hx hb dL_law_586 rfl (lv_at hl 1 rfl) ?_
  refine lv_aload_n hx hb dL_law_587 rfl (lv_at hl 3 rfl) ?_
  refine lv_iload_n hx hb dL_law_588 rfl (lv_at hl 0 rfl) ?_
  refine lv_iconst (v := 1) hx hb dL_law_589 (by decide) ?_
  refine lv_iadd hx hb dL_law_590 ?_
  refine lv_topi (fun x_4 ex_4 => ?_)
  obtain rfl : x_4 = 1 := ex_4.trans (by first | rfl | decide)
  refine va_sld hx hb hX hbl hbA hS (i_in (x := 1) rfl (by omega)) dL_law_591 ?_
  refine W.eq (g2 := F0 m 592 ls [.int (xs 1), .ref z18, .int r_2]) rfl ?_
  refine kci (wr := [(z0, .inr (11, [.ref z1, .ref z2, .ref z3, .ref z4, .ref z5, .ref z6, .ref z7, .ref z8, .ref z9, .ref z10, .ref z11, .ref z12, .ref z13, .int 0, .int 0, .int 0, .int 0])), (z1, .inr (9, [.ref z14, .ref z15, .ref z16, .ref z17, .int 0, .int 0, .int (-1), .int 0, .int 0, .int 0])), (z15, .inl (K 0, 24, .inl (fun _ => 0))), (z16, .inl (K 0, 6, .inl tm0))]) (va_runV (As := [.int (xs 1)]) (rest := [.int r_2]) ⟨hx, hb, hml, hown, hts⟩ (r_sounds l D K z18 (xs 1) (.int 0) (.int 0) (.ref z19) z20 (.ref z21) (.ref z22) (.ref z23) (.ref z24) (.int 0) (.ref z25) (.ref z26) (.int 0) (.ref z27) (.int 0) (.int 0) (.int 0) (.int 0) (.long 0) (.int (-1)) (.int 0) (.int 0) (.int 0) (.ref z28) (.int 0) (.ref z29) (.ref z30) (.int 0) (.ref z31) (.ref z32) (.int 0) (.int 0) (.ref z33) (.ref z34) (.ref z35) (.int 0) (.ref z36) (.ref z37) (.ref z38) (.int 0) (.long 0) (.long 0) (.ref z39) (.ref z40) (.ref z41) (.ref z42) (.ref z43) (.ref z44) (.ref z45) (.ref z46) (.ref z47) (.ref z48) (.ref z49) (.int 0) (.int 0) (.int (-1)) (.int 0) (.long 0) (.ref z50) (.int 0) (.int (-1)) H.size) (cwV 1 hts gL_X12_sounds rfl rfl rfl (by decide +kernel) ⟨Nat.le_of_ble_eq_true rfl, Nat.le_of_ble_eq_true rfl⟩) (mkV hK hN (hP.sub [4, 5] rfl) (hD.sub [4, 5] (by decide) rfl) (ci := 12) (q0 := 0) rfl rfl) rfl rfl hl.1 rfl (lv_room (Nat.le_of_ble_eq_true rfl)) dL_law_592 ⟨Nat.le_of_ble_eq_true rfl, Nat.le_of_ble_eq_true rfl⟩) hP hD hS hA [4, 5] [0, 1, 2, 3] rfl rfl (by decide) (by decide) (fun r_5 u_6 H locs hw hP hD hS => ?_)
  have hP : va_P D vwCl [(z0, .inr (11, [.ref z1, .ref z2, .ref z3, .ref z4, .ref z5, .ref z6, .ref z7, .ref z8, .ref z9, .ref z10, .ref z11, .ref z12, .ref z13, .int 0, .int 0, .int 0, .int 0])), (z1, .inr (9, [.ref z14, .ref z15, .ref z16, .ref z17, .int 0, .int 0, .int (-1), .int 0, .int 0, .int 0])), (z15, .inl (K 0, 24, .inl (fun _ => 0))), (z16, .inl (K 0, 6, .inl tm0))] H := hP
  have hD : va_D A [(z0, .inr (11, [.ref z1, .ref z2, .ref z3, .ref z4, .ref z5, .ref z6, .ref z7, .ref z8, .ref z9, .ref z10, .ref z11, .ref z12, .ref z13, .int 0, .int 0, .int 0, .int 0])), (z1, .inr (9, [.ref z14, .ref z15, .ref z16, .ref z17, .int 0, .int 0, .int (-1), .int 0, .int 0, .int 0])), (z15, .inl (K 0, 24, .inl (fun _ => 0))), (z16, .inl (K 0, 6, .inl tm0))] := hD
  have hv_7 := hw
  have heq : r_2 = r_5 := by
    try dsimp only at hv_3 hv_7
    rcases hv_3 with ⟨rfl, k00⟩ | ⟨rfl, k10⟩ | ⟨rfl, k20⟩ | ⟨rfl, k30⟩ <;> rcases hv_7 with ⟨rfl, j00⟩ | ⟨rfl, j10⟩ | ⟨rfl, j20⟩ | ⟨rfl, j30⟩ <;> first | rfl | (exfalso; omega)
  refine lv_icmp_eq (tgt := 1111) hx hb dL_law_595 (by decide) (fun cq => ?_) (fun cq => absurd heq cq)
  refine lv_iinc (v := 6) (lv' := [(3, .int 6), (2, .ref z18), (1, .ref z0), (0, .ref b)]) hx hb dL_law_1111 hl (k := 0) rfl (by decide) (by decide) rfl (fun ls hl => ?_)
  refine lv_goto (tgt := 18) hx hb dL_law_1114 (by decide) ?_
  refine lv_iload_n hx hb dL_law_18 rfl (lv_at hl 0 rfl) ?_
  refine lv_aload_n hx hb dL_law_19 rfl (lv_at hl 3 rfl) ?_
  refine va_slen hx hb hX hbl hbA hS dL_law_20 ?_
  refine W.eq (g2 := F0 m 21 ls [.int 6, .int 6]) rfl ?_
  refine lv_bipush (v := 6) hx hb dL_law_21 (by decide) ?_
  refine lv_isub hx hb dL_law_23 ?_
  refine lv_topi (fun x_8 ex_8 => ?_)
  obtain rfl : x_8 = 0 := ex_8.trans (by first | rfl | decide)
  refine lv_icmp_gt (tgt := 1117) hx hb dL_law_24 (by decide) (fun cq => ?_) (fun cq => absurd (by decide) cq)
  refine lv_iconst (v := 1) hx hb dL_law_1117 (by decide) ?_
  refine va_forget (fun q hq => hA0 _ (hS.2.2 q hq)) ?_
  refine W.widen (k := 600000) (n := 7302250) (by decide) (by decide) ?_
  exact lw_ret hx hb hr hlocks dL_law_1118
set_option maxHeartbeats 4000000 in
set_option maxRecDepth 100000 in
theorem law_16 {p : Program} {e : Env} {s : State} {m : MethodId} {below : List Frame} {meth : Method} {c : Code} (l : Launch) {b : Nat} {xs : Nat → Int32} (C0 : lw_At p s m meth c b 6 xs) (D : va_G) (K : Nat → ClassId) (hK : va_K D vwCl (KT K) s) (hN : lw_N s) {A : Nat → Prop} (hA : ∀ q, s.heap.size ≤ q → A q) (hA0 : ∀ q, A q → s.heap.size ≤ q) (hbA : ¬ A b) (z0 z1 z2 z3 z4 z5 z6 z7 z8 z9 z10 z11 z12 z13 z14 z15 z16 z17 z18 z19 z20 z21 z22 z23 z24 z25 z26 z27 z28 z29 z30 z31 z32 z33 z34 z35 z36 z37 z38 z39 z40 z41 z42 z43 z44 z45 z46 z47 z48 z49 z50 z51 : Nat) (H : Heap) (locs : List Loc) (hP : va_P D vwCl [(z0, .inr (11, [.ref z1, .ref z2, .ref z3, .ref z4, .ref z5, .ref z6, .ref z7, .ref z8, .ref z9, .ref z10, .ref z11, .ref z12, .ref z13, .int 0, .int 0, .int 0, .int 0])), (z1, .inr (9, [.ref z14, .ref z15, .ref z16, .ref z17, .int 0, .int 0, .int (-1), .int 0, .int 0, .int 0])), (z14, .inl (K 0, 56, .inl (fun _ => 0))), (z16, .inl (K 0, 6, .inl tm0)), (z8, .inr (10, [.ref z9])), (z10, .inr (2, [.ref z18, .int 0, .int 0])), (z18, .inl (K 0, 476, .inl (fun _ => 0))), (z13, .inl (K 0, 5, .inl (fun _ => 0))), (z19, .inr (12, [.int 0, .int 0, .ref z20, .ref z21, .ref z22, .ref z23, .ref z24, .ref z25, .int 0, .ref z26, .ref z27, .int 0, .ref z28, .int 0, .int 0, .int 0, .int 0, .long 0, .int (-1), .int 0, .int 0, .int 0, .ref z29, .int 0, .ref z30, .ref z31, .int 0, .ref z32, .ref z33, .int 0, .int 0, .ref z34, .ref z35, .ref z36, .int 0, .ref z37, .ref z38, .ref z39, .int 0, .long 0, .long 0, .ref z40, .ref z41, .ref z42, .ref z43, .ref z44, .ref z45, .ref z46, .ref z47, .ref z48, .ref z49, .ref z50, .int 0, .int 0, .int (-1), .int 0, .long 0, .ref z51, .int 0, .int (-1)])), (z20, .inl (K 0, 7, .inl (fun _ => 0))), (z21, .inl (K 0, 5500, .inl row0))] H) (hD : va_D A [(z0, .inr (11, [.ref z1, .ref z2, .ref z3, .ref z4, .ref z5, .ref z6, .ref z7, .ref z8, .ref z9, .ref z10, .ref z11, .ref z12, .ref z13, .int 0, .int 0, .int 0, .int 0])), (z1, .inr (9, [.ref z14, .ref z15, .ref z16, .ref z17, .int 0, .int 0, .int (-1), .int 0, .int 0, .int 0])), (z14, .inl (K 0, 56, .inl (fun _ => 0))), (z16, .inl (K 0, 6, .inl tm0)), (z8, .inr (10, [.ref z9])), (z10, .inr (2, [.ref z18, .int 0, .int 0])), (z18, .inl (K 0, 476, .inl (fun _ => 0))), (z13, .inl (K 0, 5, .inl (fun _ => 0))), (z19, .inr (12, [.int 0, .int 0, .ref z20, .ref z21, .ref z22, .ref z23, .ref z24, .ref z25, .int 0, .ref z26, .ref z27, .int 0, .ref z28, .int 0, .int 0, .int 0, .int 0, .long 0, .int (-1), .int 0, .int 0, .int 0, .ref z29, .int 0, .ref z30, .ref z31, .int 0, .ref z32, .ref z33, .int 0, .int 0, .ref z34, .ref z35, .ref z36, .int 0, .ref z37, .ref z38, .ref z39, .int 0, .long 0, .long 0, .ref z40, .ref z41, .ref z42, .ref z43, .ref z44, .ref z45, .ref z46, .ref z47, .ref z48, .ref z49, .ref z50, .int 0, .int 0, .int (-1), .int 0, .long 0, .ref z51, .int 0, .int (-1)])), (z20, .inl (K 0, 7, .inl (fun _ => 0))), (z21, .inl (K 0, 5500, .inl row0))]) (hS : va_S A s.heap H locs) (ls : Array Slot) (hl : lv_has ls 4 [(3, .int 0), (2, .ref z19), (1, .ref z0), (0, .ref b)]) : W p l e room_1 s m #[Value.ref b] below meth c H locs 97 27561 (lw_Z below #[Value.ref b] s) (F0 m 600 ls []) := by
  obtain ⟨hx, hb, hr, hml, hown, hts, hX, hbl, hlocks, hgv⟩ := C0
  have hown : s.vm.findClass RL = some m.cls := hown
  refine lv_aload_n hx hb dL_law_600 rfl (lv_at hl 2 rfl) ?_
  refine lv_aload_n hx hb dL_law_601 rfl (lv_at hl 3 rfl) ?_
  refine lv_iload_n hx hb dL_law_602 rfl (lv_at hl 0 rfl) ?_
  refine lv_iconst (v := 1) hx hb dL_law_603 (by decide) ?_
  refine lv_iadd hx hb dL_law_604 ?_
  refine lv_topi (fun x_1 ex_1 => ?_)
  obtain rfl : x_1 = 1 := ex_1.trans (by first | rfl | decide)
  refine va_sld hx hb hX hbl hbA hS (i_in (x := 1) rfl (by omega)) dL_law_605 ?_
  refine W.eq (g2 := F0 m 606 ls [.int (xs 1), .ref z0]) rfl ?_
  refine kci (wr := [(z19, .inr (12, [.int 0, .int 0, .ref z20, .ref z21, .ref z22, .ref z23, .ref z24, .ref z25, .int 0, .ref z26, .ref z27, .int 0, .ref z28, .int 0, .int 0, .int 0, .int 0, .long 0, .int (-1), .int 0, .int 0, .int 0, .ref z29, .int 0, .ref z30, .ref z31, .int 0, .ref z32, .ref z33, .int 0, .int 0, .ref z34, .ref z35, .ref z36, .int 0, .ref z37, .ref z38, .ref z39, .int 0, .long 0, .long 0, .ref z40, .ref z41, .ref z42, .ref z43, .ref z44, .ref z45, .ref z46, .ref z47, .ref z48, .ref z49, .ref z50, .int 0, .int 0, .int (-1), .int 0, .long 0, .ref z51, .int 0, .int (-1)])), (z20, .inl (K 0, 7, .inl (fun _ => 0))), (z21, .inl (K 0, 5500, .inl row0))]) (va_runV (As := [.int (xs 1)]) (rest := []) ⟨hx, hb, hml, hown, hts⟩ (t_stoke l D K z0 (xs 1) z1 (.ref z2) (.ref z3) (.ref z4) (.ref z5) (.ref z6) (.ref z7) z8 (.ref z9) z10 (.ref z11) (.ref z12) z13 (.int 0) (.int 0) (.int 0) (.int 0) (fun _ => 0) z18 z14 (.ref z15) z16 (.ref z17) (.int 0) (.int (-1)) (.int 0) (.int 0) (.ref z9) H.size) (cwV 1 hts gL_X11_stoke rfl rfl rfl (by decide +kernel) ⟨Nat.le_of_ble_eq_true rfl, Nat.le_of_ble_eq_true rfl⟩) (mkV hK hN (hP.sub [0, 7, 5, 1, 6, 2, 3, 4] rfl) (hD.sub [0, 7, 5, 1, 6, 2, 3, 4] (by decide) rfl) (ci := 11) (q0 := 0) rfl rfl) rfl rfl hl.1 rfl (lv_room (Nat.le_of_ble_eq_true rfl)) dL_law_606 ⟨Nat.le_of_ble_eq_true rfl, Nat.le_of_ble_eq_true rfl⟩) hP hD hS hA [0, 7, 5, 1, 6, 2, 3, 4] [8, 9, 10] rfl rfl (by decide) (by decide) (fun r_2 u_3 H locs hw hP hD hS => ?_)
  have hP : va_P D vwCl [(z19, .inr (12, [.int 0, .int 0, .ref z20, .ref z21, .ref z22, .ref z23, .ref z24, .ref z25, .int 0, .ref z26, .ref z27, .int 0, .ref z28, .int 0, .int 0, .int 0, .int 0, .long 0, .int (-1), .int 0, .int 0, .int 0, .ref z29, .int 0, .ref z30, .ref z31, .int 0, .ref z32, .ref z33, .int 0, .int 0, .ref z34, .ref z35, .ref z36, .int 0, .ref z37, .ref z38, .ref z39, .int 0, .long 0, .long 0, .ref z40, .ref z41, .ref z42, .ref z43, .ref z44, .ref z45, .ref z46, .ref z47, .ref z48, .ref z49, .ref z50, .int 0, .int 0, .int (-1), .int 0, .long 0, .ref z51, .int 0, .int (-1)])), (z20, .inl (K 0, 7, .inl (fun _ => 0))), (z21, .inl (K 0, 5500, .inl row0))] H := hP
  have hD : va_D A [(z19, .inr (12, [.int 0, .int 0, .ref z20, .ref z21, .ref z22, .ref z23, .ref z24, .ref z25, .int 0, .ref z26, .ref z27, .int 0, .ref z28, .int 0, .int 0, .int 0, .int 0, .long 0, .int (-1), .int 0, .int 0, .int 0, .ref z29, .int 0, .ref z30, .ref z31, .int 0, .ref z32, .ref z33, .int 0, .int 0, .ref z34, .ref z35, .ref z36, .int 0, .ref z37, .ref z38, .ref z39, .int 0, .long 0, .long 0, .ref z40, .ref z41, .ref z42, .ref z43, .ref z44, .ref z45, .ref z46, .ref z47, .ref z48, .ref z49, .ref z50, .int 0, .int 0, .int (-1), .int 0, .long 0, .ref z51, .int 0, .int (-1)])), (z20, .inl (K 0, 7, .inl (fun _ => 0))), (z21, .inl (K 0, 5500, .inl row0))] := hD
  have hv_4 := hw
  refine lv_aload_n hx hb dL_law_609 rfl (lv_at hl 1 rfl) ?_
  refine lv_aload_n hx hb dL_law_610 rfl (lv_at hl 3 rfl) ?_
  refine lv_iload_n hx hb dL_law_611 rfl (lv_at hl 0 rfl) ?_
  refine lv_iconst (v := 1) hx hb dL_law_612 (by decide) ?_
  refine lv_iadd hx hb dL_law_613 ?_
  refine lv_topi (fun x_5 ex_5 => ?_)
  obtain rfl : x_5 = 1 := ex_5.trans (by first | rfl | decide)
  refine va_sld hx hb hX hbl hbA hS (i_in (x := 1) rfl (by omega)) dL_law_614 ?_
  refine W.eq (g2 := F0 m 615 ls [.int (xs 1), .ref z19, .int r_2]) rfl ?_
  refine kci (wr := []) (va_runV (As := [.int (xs 1)]) (rest := [.int r_2]) ⟨hx, hb, hml, hown, hts⟩ (r_stoke l D K z19 (xs 1) (.int 0) (.int 0) z20 z21 (.ref z22) (.ref z23) (.ref z24) (.ref z25) (.int 0) (.ref z26) (.ref z27) (.int 0) (.ref z28) (.int 0) (.int 0) (.int 0) (.int 0) (.long 0) (.int (-1)) (.int 0) (.int 0) (.int 0) (.ref z29) (.int 0) (.ref z30) (.ref z31) (.int 0) (.ref z32) (.ref z33) (.int 0) (.int 0) (.ref z34) (.ref z35) (.ref z36) (.int 0) (.ref z37) (.ref z38) (.ref z39) (.int 0) (.long 0) (.long 0) (.ref z40) (.ref z41) (.ref z42) (.ref z43) (.ref z44) (.ref z45) (.ref z46) (.ref z47) (.ref z48) (.ref z49) (.ref z50) (.int 0) (.int 0) (.int (-1)) (.int 0) (.long 0) (.ref z51) (.int 0) (.int (-1)) H.size) (cwV 1 hts gL_X12_stoke rfl rfl rfl (by decide +kernel) ⟨Nat.le_of_ble_eq_true rfl, Nat.le_of_ble_eq_true rfl⟩) (mkV hK hN (hP.sub [0, 2, 1] rfl) (hD.sub [0, 2, 1] (by decide) rfl) (ci := 12) (q0 := 0) rfl rfl) rfl rfl hl.1 rfl (lv_room (Nat.le_of_ble_eq_true rfl)) dL_law_615 ⟨Nat.le_of_ble_eq_true rfl, Nat.le_of_ble_eq_true rfl⟩) hP hD hS hA [0, 2, 1] [] rfl rfl (by decide) (by decide) (fun r_6 u_7 H locs hw hP hD hS => ?_)
  have hP : va_P D vwCl [] H := hP
  have hD : va_D A [] := hD
  have hv_8 := hw
  have heq : r_2 = r_6 := by
    try dsimp only at hv_4 hv_8
    rcases hv_4 with rfl <;> rcases hv_8 with rfl <;> first | rfl | (exfalso; omega)
  refine lv_icmp_eq (tgt := 1111) hx hb dL_law_618 (by decide) (fun cq => ?_) (fun cq => absurd heq cq)
  refine lv_iinc (v := 6) (lv' := [(3, .int 6), (2, .ref z19), (1, .ref z0), (0, .ref b)]) hx hb dL_law_1111 hl (k := 0) rfl (by decide) (by decide) rfl (fun ls hl => ?_)
  refine lv_goto (tgt := 18) hx hb dL_law_1114 (by decide) ?_
  refine lv_iload_n hx hb dL_law_18 rfl (lv_at hl 0 rfl) ?_
  refine lv_aload_n hx hb dL_law_19 rfl (lv_at hl 3 rfl) ?_
  refine va_slen hx hb hX hbl hbA hS dL_law_20 ?_
  refine W.eq (g2 := F0 m 21 ls [.int 6, .int 6]) rfl ?_
  refine lv_bipush (v := 6) hx hb dL_law_21 (by decide) ?_
  refine lv_isub hx hb dL_law_23 ?_
  refine lv_topi (fun x_9 ex_9 => ?_)
  obtain rfl : x_9 = 0 := ex_9.trans (by first | rfl | decide)
  refine lv_icmp_gt (tgt := 1117) hx hb dL_law_24 (by decide) (fun cq => ?_) (fun cq => absurd (by decide) cq)
  refine lv_iconst (v := 1) hx hb dL_law_1117 (by decide) ?_
  refine va_forget (fun q hq => hA0 _ (hS.2.2 q hq)) ?_
  refine W.widen (k := 600000) (n := 7302250) (by decide) (by decide) ?_
  exact lw_ret hx hb hr hlocks dL_law_1118
set_option maxHeartbeats 4000000 in
set_option maxRecDepth 100000 in
theorem law_17 {p : Program} {e : Env} {s : State} {m : MethodId} {below : List Frame} {meth : Method} {c : Code} (l : Launch) {b : Nat} {xs : Nat → Int32} (C0 : lw_At p s m meth c b 6 xs) (D : va_G) (K : Nat → ClassId) (hK : va_K D vwCl (KT K) s) (hN : lw_N s) {A : Nat → Prop} (hA : ∀ q, s.heap.size ≤ q → A q) (hA0 : ∀ q, A q → s.heap.size ≤ q) (hbA : ¬ A b) (z0 z1 z2 z3 z4 z5 z6 z7 z8 z9 z10 z11 z12 z13 z14 z15 z16 z17 z18 z19 z20 z21 z22 z23 z24 z25 z26 z27 z28 z29 z30 z31 z32 z33 z34 z35 z36 z37 z38 z39 z40 z41 z42 z43 z44 z45 z46 z47 z48 z49 z50 z51 : Nat) (H : Heap) (locs : List Loc) (hP : va_P D vwCl [(z0, .inr (11, [.ref z1, .ref z2, .ref z3, .ref z4, .ref z5, .ref z6, .ref z7, .ref z8, .ref z9, .ref z10, .ref z11, .ref z12, .ref z13, .int 0, .int 0, .int 0, .int 0])), (z1, .inr (9, [.ref z14, .ref z15, .ref z16, .ref z17, .int 0, .int 0, .int (-1), .int 0, .int 0, .int 0])), (z14, .inl (K 0, 56, .inl (fun _ => 0))), (z16, .inl (K 0, 6, .inl tm0)), (z8, .inr (10, [.ref z9])), (z10, .inr (2, [.ref z18, .int 0, .int 0])), (z18, .inl (K 0, 476, .inl (fun _ => 0))), (z13, .inl (K 0, 5, .inl (fun _ => 0))), (z19, .inr (12, [.int 0, .int 0, .ref z20, .ref z21, .ref z22, .ref z23, .ref z24, .ref z25, .int 0, .ref z26, .ref z27, .int 0, .ref z28, .int 0, .int 0, .int 0, .int 0, .long 0, .int (-1), .int 0, .int 0, .int 0, .ref z29, .int 0, .ref z30, .ref z31, .int 0, .ref z32, .ref z33, .int 0, .int 0, .ref z34, .ref z35, .ref z36, .int 0, .ref z37, .ref z38, .ref z39, .int 0, .long 0, .long 0, .ref z40, .ref z41, .ref z42, .ref z43, .ref z44, .ref z45, .ref z46, .ref z47, .ref z48, .ref z49, .ref z50, .int 0, .int 0, .int (-1), .int 0, .long 0, .ref z51, .int 0, .int (-1)])), (z20, .inl (K 0, 7, .inl (fun _ => 0))), (z21, .inl (K 0, 5500, .inl row0))] H) (hD : va_D A [(z0, .inr (11, [.ref z1, .ref z2, .ref z3, .ref z4, .ref z5, .ref z6, .ref z7, .ref z8, .ref z9, .ref z10, .ref z11, .ref z12, .ref z13, .int 0, .int 0, .int 0, .int 0])), (z1, .inr (9, [.ref z14, .ref z15, .ref z16, .ref z17, .int 0, .int 0, .int (-1), .int 0, .int 0, .int 0])), (z14, .inl (K 0, 56, .inl (fun _ => 0))), (z16, .inl (K 0, 6, .inl tm0)), (z8, .inr (10, [.ref z9])), (z10, .inr (2, [.ref z18, .int 0, .int 0])), (z18, .inl (K 0, 476, .inl (fun _ => 0))), (z13, .inl (K 0, 5, .inl (fun _ => 0))), (z19, .inr (12, [.int 0, .int 0, .ref z20, .ref z21, .ref z22, .ref z23, .ref z24, .ref z25, .int 0, .ref z26, .ref z27, .int 0, .ref z28, .int 0, .int 0, .int 0, .int 0, .long 0, .int (-1), .int 0, .int 0, .int 0, .ref z29, .int 0, .ref z30, .ref z31, .int 0, .ref z32, .ref z33, .int 0, .int 0, .ref z34, .ref z35, .ref z36, .int 0, .ref z37, .ref z38, .ref z39, .int 0, .long 0, .long 0, .ref z40, .ref z41, .ref z42, .ref z43, .ref z44, .ref z45, .ref z46, .ref z47, .ref z48, .ref z49, .ref z50, .int 0, .int 0, .int (-1), .int 0, .long 0, .ref z51, .int 0, .int (-1)])), (z20, .inl (K 0, 7, .inl (fun _ => 0))), (z21, .inl (K 0, 5500, .inl row0))]) (hS : va_S A s.heap H locs) (ls : Array Slot) (hl : lv_has ls 4 [(3, .int 0), (2, .ref z19), (1, .ref z0), (0, .ref b)]) : W p l e room_1 s m #[Value.ref b] below meth c H locs 97 27561 (lw_Z below #[Value.ref b] s) (F0 m 623 ls []) := by
  obtain ⟨hx, hb, hr, hml, hown, hts, hX, hbl, hlocks, hgv⟩ := C0
  have hown : s.vm.findClass RL = some m.cls := hown
  refine lv_aload_n hx hb dL_law_623 rfl (lv_at hl 2 rfl) ?_
  refine lv_aload_n hx hb dL_law_624 rfl (lv_at hl 3 rfl) ?_
  refine lv_iload_n hx hb dL_law_625 rfl (lv_at hl 0 rfl) ?_
  refine lv_iconst (v := 1) hx hb dL_law_626 (by decide) ?_
  refine lv_iadd hx hb dL_law_627 ?_
  refine lv_topi (fun x_1 ex_1 => ?_)
  obtain rfl : x_1 = 1 := ex_1.trans (by first | rfl | decide)
  refine va_sld hx hb hX hbl hbA hS (i_in (x := 1) rfl (by omega)) dL_law_628 ?_
  refine W.eq (g2 := F0 m 629 ls [.int (xs 1), .ref z0]) rfl ?_
  refine lv_aload_n hx hb dL_law_629 rfl (lv_at hl 3 rfl) ?_
  refine lv_iload_n hx hb dL_law_630 rfl (lv_at hl 0 rfl) ?_
  refine lv_iconst (v := 2) hx hb dL_law_631 (by decide) ?_
  refine lv_iadd hx hb dL_law_632 ?_
  refine lv_topi (fun x_2 ex_2 => ?_)
  obtain rfl : x_2 = 2 := ex_2.trans (by first | rfl | decide)
  refine va_sld hx hb hX hbl hbA hS (i_in (x := 2) rfl (by omega)) dL_law_633 ?_
  refine W.eq (g2 := F0 m 634 ls [.int (xs 2), .int (xs 1), .ref z0]) rfl ?_
  refine kci (wr := [(z19, .inr (12, [.int 0, .int 0, .ref z20, .ref z21, .ref z22, .ref z23, .ref z24, .ref z25, .int 0, .ref z26, .ref z27, .int 0, .ref z28, .int 0, .int 0, .int 0, .int 0, .long 0, .int (-1), .int 0, .int 0, .int 0, .ref z29, .int 0, .ref z30, .ref z31, .int 0, .ref z32, .ref z33, .int 0, .int 0, .ref z34, .ref z35, .ref z36, .int 0, .ref z37, .ref z38, .ref z39, .int 0, .long 0, .long 0, .ref z40, .ref z41, .ref z42, .ref z43, .ref z44, .ref z45, .ref z46, .ref z47, .ref z48, .ref z49, .ref z50, .int 0, .int 0, .int (-1), .int 0, .long 0, .ref z51, .int 0, .int (-1)])), (z20, .inl (K 0, 7, .inl (fun _ => 0))), (z21, .inl (K 0, 5500, .inl row0))]) (va_runV (As := [.int (xs 1), .int (xs 2)]) (rest := []) ⟨hx, hb, hml, hown, hts⟩ (t_damp l D K z0 (xs 1) (xs 2) z1 (.ref z2) (.ref z3) (.ref z4) (.ref z5) (.ref z6) (.ref z7) z8 (.ref z9) z10 (.ref z11) (.ref z12) z13 (.int 0) (.int 0) (.int 0) (.int 0) (fun _ => 0) z18 z14 (.ref z15) z16 (.ref z17) (.int 0) (.int (-1)) (.int 0) (.int 0) (.ref z9) H.size) (cwV 2 hts gL_X11_damp rfl rfl rfl (by decide +kernel) ⟨Nat.le_of_ble_eq_true rfl, Nat.le_of_ble_eq_true rfl⟩) (mkV hK hN (hP.sub [0, 7, 5, 1, 6, 2, 3, 4] rfl) (hD.sub [0, 7, 5, 1, 6, 2, 3, 4] (by decide) rfl) (ci := 11) (q0 := 0) rfl rfl) rfl rfl hl.1 rfl (lv_room (Nat.le_of_ble_eq_true rfl)) dL_law_634 ⟨Nat.le_of_ble_eq_true rfl, Nat.le_of_ble_eq_true rfl⟩) hP hD hS hA [0, 7, 5, 1, 6, 2, 3, 4] [8, 9, 10] rfl rfl (by decide) (by decide) (fun r_3 u_4 H locs hw hP hD hS => ?_)
  have hP : va_P D vwCl [(z19, .inr (12, [.int 0, .int 0, .ref z20, .ref z21, .ref z22, .ref z23, .ref z24, .ref z25, .int 0, .ref z26, .ref z27, .int 0, .ref z28, .int 0, .int 0, .int 0, .int 0, .long 0, .int (-1), .int 0, .int 0, .int 0, .ref z29, .int 0, .ref z30, .ref z31, .int 0, .ref z32, .ref z33, .int 0, .int 0, .ref z34, .ref z35, .ref z36, .int 0, .ref z37, .ref z38, .ref z39, .int 0, .long 0, .long 0, .ref z40, .ref z41, .ref z42, .ref z43, .ref z44, .ref z45, .ref z46, .ref z47, .ref z48, .ref z49, .ref z50, .int 0, .int 0, .int (-1), .int 0, .long 0, .ref z51, .int 0, .int (-1)])), (z20, .inl (K 0, 7, .inl (fun _ => 0))), (z21, .inl (K 0, 5500, .inl row0))] H := hP
  have hD : va_D A [(z19, .inr (12, [.int 0, .int 0, .ref z20, .ref z21, .ref z22, .ref z23, .ref z24, .ref z25, .int 0, .ref z26, .ref z27, .int 0, .ref z28, .int 0, .int 0, .int 0, .int 0, .long 0, .int (-1), .int 0, .int 0, .int 0, .ref z29, .int 0, .ref z30, .ref z31, .int 0, .ref z32, .ref z33, .int 0, .int 0, .ref z34, .ref z35, .ref z36, .int 0, .ref z37, .ref z38, .ref z39, .int 0, .long 0, .long 0, .ref z40, .ref z41, .ref z42, .ref z43, .ref z44, .ref z45, .ref z46, .ref z47, .ref z48, .ref z49, .ref z50, .int 0, .int 0, .int (-1), .int 0, .long 0, .ref z51, .int 0, .int (-1)])), (z20, .inl (K 0, 7, .inl (fun _ => 0))), (z21, .inl (K 0, 5500, .inl row0))] := hD
  have hv_5 := hw
  refine lv_aload_n hx hb dL_law_637 rfl (lv_at hl 1 rfl) ?_
  refine lv_aload_n hx hb dL_law_638 rfl (lv_at hl 3 rfl) ?_
  refine lv_iload_n hx hb dL_law_639 rfl (lv_at hl 0 rfl) ?_
  refine lv_iconst (v := 1) hx hb dL_law_640 (by decide) ?_
  refine lv_iadd hx hb dL_law_641 ?_
  refine lv_topi (fun x_6 ex_6 => ?_)
  obtain rfl : x_6 = 1 := ex_6.trans (by first | rfl | decide)
  refine va_sld hx hb hX hbl hbA hS (i_in (x := 1) rfl (by omega)) dL_law_642 ?_
  refine W.eq (g2 := F0 m 643 ls [.int (xs 1), .ref z19, .int r_3]) rfl ?_
  refine lv_aload_n hx hb dL_law_643 rfl (lv_at hl 3 rfl) ?_
  refine lv_iload_n hx hb dL_law_644 rfl (lv_at hl 0 rfl) ?_
  refine lv_iconst (v := 2) hx hb dL_law_645 (by decide) ?_
  refine lv_iadd hx hb dL_law_646 ?_
  refine lv_topi (fun x_7 ex_7 => ?_)
  obtain rfl : x_7 = 2 := ex_7.trans (by first | rfl | decide)
  refine va_sld hx hb hX hbl hbA hS (i_in (x := 2) rfl (by omega)) dL_law_647 ?_
  refine W.eq (g2 := F0 m 648 ls [.int (xs 2), .int (xs 1), .ref z19, .int r_3]) rfl ?_
  refine kci (wr := []) (va_runV (As := [.int (xs 1), .int (xs 2)]) (rest := [.int r_3]) ⟨hx, hb, hml, hown, hts⟩ (r_damp l D K z19 (xs 1) (xs 2) (.int 0) (.int 0) z20 z21 (.ref z22) (.ref z23) (.ref z24) (.ref z25) (.int 0) (.ref z26) (.ref z27) (.int 0) (.ref z28) (.int 0) (.int 0) (.int 0) (.int 0) (.long 0) (.int (-1)) (.int 0) (.int 0) (.int 0) (.ref z29) (.int 0) (.ref z30) (.ref z31) (.int 0) (.ref z32) (.ref z33) (.int 0) (.int 0) (.ref z34) (.ref z35) (.ref z36) (.int 0) (.ref z37) (.ref z38) (.ref z39) (.int 0) (.long 0) (.long 0) (.ref z40) (.ref z41) (.ref z42) (.ref z43) (.ref z44) (.ref z45) (.ref z46) (.ref z47) (.ref z48) (.ref z49) (.ref z50) (.int 0) (.int 0) (.int (-1)) (.int 0) (.long 0) (.ref z51) (.int 0) (.int (-1)) H.size) (cwV 2 hts gL_X12_damp rfl rfl rfl (by decide +kernel) ⟨Nat.le_of_ble_eq_true rfl, Nat.le_of_ble_eq_true rfl⟩) (mkV hK hN (hP.sub [0, 2, 1] rfl) (hD.sub [0, 2, 1] (by decide) rfl) (ci := 12) (q0 := 0) rfl rfl) rfl rfl hl.1 rfl (lv_room (Nat.le_of_ble_eq_true rfl)) dL_law_648 ⟨Nat.le_of_ble_eq_true rfl, Nat.le_of_ble_eq_true rfl⟩) hP hD hS hA [0, 2, 1] [] rfl rfl (by decide) (by decide) (fun r_8 u_9 H locs hw hP hD hS => ?_)
  have hP : va_P D vwCl [] H := hP
  have hD : va_D A [] := hD
  have hv_10 := hw
  have heq : r_3 = r_8 := by
    try dsimp only at hv_5 hv_10
    rcases hv_5 with ⟨rfl, k00, k01⟩ | ⟨rfl, k10⟩ <;> rcases hv_10 with ⟨rfl, j00, j01⟩ | ⟨rfl, j10⟩ <;> first | rfl | (exfalso; omega)
  refine lv_icmp_eq (tgt := 1111) hx hb dL_law_651 (by decide) (fun cq => ?_) (fun cq => absurd heq cq)
  refine lv_iinc (v := 6) (lv' := [(3, .int 6), (2, .ref z19), (1, .ref z0), (0, .ref b)]) hx hb dL_law_1111 hl (k := 0) rfl (by decide) (by decide) rfl (fun ls hl => ?_)
  refine lv_goto (tgt := 18) hx hb dL_law_1114 (by decide) ?_
  refine lv_iload_n hx hb dL_law_18 rfl (lv_at hl 0 rfl) ?_
  refine lv_aload_n hx hb dL_law_19 rfl (lv_at hl 3 rfl) ?_
  refine va_slen hx hb hX hbl hbA hS dL_law_20 ?_
  refine W.eq (g2 := F0 m 21 ls [.int 6, .int 6]) rfl ?_
  refine lv_bipush (v := 6) hx hb dL_law_21 (by decide) ?_
  refine lv_isub hx hb dL_law_23 ?_
  refine lv_topi (fun x_11 ex_11 => ?_)
  obtain rfl : x_11 = 0 := ex_11.trans (by first | rfl | decide)
  refine lv_icmp_gt (tgt := 1117) hx hb dL_law_24 (by decide) (fun cq => ?_) (fun cq => absurd (by decide) cq)
  refine lv_iconst (v := 1) hx hb dL_law_1117 (by decide) ?_
  refine va_forget (fun q hq => hA0 _ (hS.2.2 q hq)) ?_
  refine W.widen (k := 600000) (n := 7302250) (by decide) (by decide) ?_
  exact lw_ret hx hb hr hlocks dL_law_1118
set_option maxHeartbeats 4000000 in
set_option maxRecDepth 100000 in
theorem law_18 {p : Program} {e : Env} {s : State} {m : MethodId} {below : List Frame} {meth : Method} {c : Code} (l : Launch) {b : Nat} {xs : Nat → Int32} (C0 : lw_At p s m meth c b 6 xs) (D : va_G) (K : Nat → ClassId) (hK : va_K D vwCl (KT K) s) (hN : lw_N s) {A : Nat → Prop} (hA : ∀ q, s.heap.size ≤ q → A q) (hA0 : ∀ q, A q → s.heap.size ≤ q) (hbA : ¬ A b) (z0 z1 z2 z3 z4 z5 z6 z7 z8 z9 z10 z11 z12 z13 z14 z15 z16 z17 z18 z19 z20 z21 z22 z23 z24 z25 z26 z27 z28 z29 z30 z31 z32 z33 z34 z35 z36 z37 z38 z39 z40 z41 z42 z43 z44 z45 z46 z47 z48 z49 z50 z51 : Nat) (H : Heap) (locs : List Loc) (hP : va_P D vwCl [(z0, .inr (11, [.ref z1, .ref z2, .ref z3, .ref z4, .ref z5, .ref z6, .ref z7, .ref z8, .ref z9, .ref z10, .ref z11, .ref z12, .ref z13, .int 0, .int 0, .int 0, .int 0])), (z1, .inr (9, [.ref z14, .ref z15, .ref z16, .ref z17, .int 0, .int 0, .int (-1), .int 0, .int 0, .int 0])), (z14, .inl (K 0, 56, .inl (fun _ => 0))), (z16, .inl (K 0, 6, .inl tm0)), (z8, .inr (10, [.ref z9])), (z10, .inr (2, [.ref z18, .int 0, .int 0])), (z18, .inl (K 0, 476, .inl (fun _ => 0))), (z13, .inl (K 0, 5, .inl (fun _ => 0))), (z19, .inr (12, [.int 0, .int 0, .ref z20, .ref z21, .ref z22, .ref z23, .ref z24, .ref z25, .int 0, .ref z26, .ref z27, .int 0, .ref z28, .int 0, .int 0, .int 0, .int 0, .long 0, .int (-1), .int 0, .int 0, .int 0, .ref z29, .int 0, .ref z30, .ref z31, .int 0, .ref z32, .ref z33, .int 0, .int 0, .ref z34, .ref z35, .ref z36, .int 0, .ref z37, .ref z38, .ref z39, .int 0, .long 0, .long 0, .ref z40, .ref z41, .ref z42, .ref z43, .ref z44, .ref z45, .ref z46, .ref z47, .ref z48, .ref z49, .ref z50, .int 0, .int 0, .int (-1), .int 0, .long 0, .ref z51, .int 0, .int (-1)])), (z20, .inl (K 0, 7, .inl (fun _ => 0))), (z21, .inl (K 0, 5500, .inl row0))] H) (hD : va_D A [(z0, .inr (11, [.ref z1, .ref z2, .ref z3, .ref z4, .ref z5, .ref z6, .ref z7, .ref z8, .ref z9, .ref z10, .ref z11, .ref z12, .ref z13, .int 0, .int 0, .int 0, .int 0])), (z1, .inr (9, [.ref z14, .ref z15, .ref z16, .ref z17, .int 0, .int 0, .int (-1), .int 0, .int 0, .int 0])), (z14, .inl (K 0, 56, .inl (fun _ => 0))), (z16, .inl (K 0, 6, .inl tm0)), (z8, .inr (10, [.ref z9])), (z10, .inr (2, [.ref z18, .int 0, .int 0])), (z18, .inl (K 0, 476, .inl (fun _ => 0))), (z13, .inl (K 0, 5, .inl (fun _ => 0))), (z19, .inr (12, [.int 0, .int 0, .ref z20, .ref z21, .ref z22, .ref z23, .ref z24, .ref z25, .int 0, .ref z26, .ref z27, .int 0, .ref z28, .int 0, .int 0, .int 0, .int 0, .long 0, .int (-1), .int 0, .int 0, .int 0, .ref z29, .int 0, .ref z30, .ref z31, .int 0, .ref z32, .ref z33, .int 0, .int 0, .ref z34, .ref z35, .ref z36, .int 0, .ref z37, .ref z38, .ref z39, .int 0, .long 0, .long 0, .ref z40, .ref z41, .ref z42, .ref z43, .ref z44, .ref z45, .ref z46, .ref z47, .ref z48, .ref z49, .ref z50, .int 0, .int 0, .int (-1), .int 0, .long 0, .ref z51, .int 0, .int (-1)])), (z20, .inl (K 0, 7, .inl (fun _ => 0))), (z21, .inl (K 0, 5500, .inl row0))]) (hS : va_S A s.heap H locs) (ls : Array Slot) (hl : lv_has ls 4 [(3, .int 0), (2, .ref z19), (1, .ref z0), (0, .ref b)]) : W p l e room_1 s m #[Value.ref b] below meth c H locs 97 27561 (lw_Z below #[Value.ref b] s) (F0 m 656 ls []) := by
  obtain ⟨hx, hb, hr, hml, hown, hts, hX, hbl, hlocks, hgv⟩ := C0
  have hown : s.vm.findClass RL = some m.cls := hown
  refine lv_aload_n hx hb dL_law_656 rfl (lv_at hl 2 rfl) ?_
  refine lv_aload_n hx hb dL_law_657 rfl (lv_at hl 3 rfl) ?_
  refine lv_iload_n hx hb dL_law_658 rfl (lv_at hl 0 rfl) ?_
  refine lv_iconst (v := 1) hx hb dL_law_659 (by decide) ?_
  refine lv_iadd hx hb dL_law_660 ?_
  refine lv_topi (fun x_1 ex_1 => ?_)
  obtain rfl : x_1 = 1 := ex_1.trans (by first | rfl | decide)
  refine va_sld hx hb hX hbl hbA hS (i_in (x := 1) rfl (by omega)) dL_law_661 ?_
  refine W.eq (g2 := F0 m 662 ls [.int (xs 1), .ref z0]) rfl ?_
  refine lv_aload_n hx hb dL_law_662 rfl (lv_at hl 3 rfl) ?_
  refine lv_iload_n hx hb dL_law_663 rfl (lv_at hl 0 rfl) ?_
  refine lv_iconst (v := 2) hx hb dL_law_664 (by decide) ?_
  refine lv_iadd hx hb dL_law_665 ?_
  refine lv_topi (fun x_2 ex_2 => ?_)
  obtain rfl : x_2 = 2 := ex_2.trans (by first | rfl | decide)
  refine va_sld hx hb hX hbl hbA hS (i_in (x := 2) rfl (by omega)) dL_law_666 ?_
  refine W.eq (g2 := F0 m 667 ls [.int (xs 2), .int (xs 1), .ref z0]) rfl ?_
  refine kci (wr := [(z19, .inr (12, [.int 0, .int 0, .ref z20, .ref z21, .ref z22, .ref z23, .ref z24, .ref z25, .int 0, .ref z26, .ref z27, .int 0, .ref z28, .int 0, .int 0, .int 0, .int 0, .long 0, .int (-1), .int 0, .int 0, .int 0, .ref z29, .int 0, .ref z30, .ref z31, .int 0, .ref z32, .ref z33, .int 0, .int 0, .ref z34, .ref z35, .ref z36, .int 0, .ref z37, .ref z38, .ref z39, .int 0, .long 0, .long 0, .ref z40, .ref z41, .ref z42, .ref z43, .ref z44, .ref z45, .ref z46, .ref z47, .ref z48, .ref z49, .ref z50, .int 0, .int 0, .int (-1), .int 0, .long 0, .ref z51, .int 0, .int (-1)])), (z20, .inl (K 0, 7, .inl (fun _ => 0))), (z21, .inl (K 0, 5500, .inl row0))]) (va_runV (As := [.int (xs 1), .int (xs 2)]) (rest := []) ⟨hx, hb, hml, hown, hts⟩ (t_buy l D K z0 (xs 1) (xs 2) z1 (.ref z2) (.ref z3) (.ref z4) (.ref z5) (.ref z6) (.ref z7) z8 (.ref z9) z10 (.ref z11) (.ref z12) z13 (.int 0) (.int 0) (.int 0) (.int 0) (fun _ => 0) z18 z14 (.ref z15) z16 (.ref z17) (.int 0) (.int (-1)) (.int 0) (.int 0) (.ref z9) H.size) (cwV 2 hts gL_X11_buy rfl rfl rfl (by decide +kernel) ⟨Nat.le_of_ble_eq_true rfl, Nat.le_of_ble_eq_true rfl⟩) (mkV hK hN (hP.sub [0, 7, 5, 1, 6, 2, 3, 4] rfl) (hD.sub [0, 7, 5, 1, 6, 2, 3, 4] (by decide) rfl) (ci := 11) (q0 := 0) rfl rfl) rfl rfl hl.1 rfl (lv_room (Nat.le_of_ble_eq_true rfl)) dL_law_667 ⟨Nat.le_of_ble_eq_true rfl, Nat.le_of_ble_eq_true rfl⟩) hP hD hS hA [0, 7, 5, 1, 6, 2, 3, 4] [8, 9, 10] rfl rfl (by decide) (by decide) (fun r_3 u_4 H locs hw hP hD hS => ?_)
  have hP : va_P D vwCl [(z19, .inr (12, [.int 0, .int 0, .ref z20, .ref z21, .ref z22, .ref z23, .ref z24, .ref z25, .int 0, .ref z26, .ref z27, .int 0, .ref z28, .int 0, .int 0, .int 0, .int 0, .long 0, .int (-1), .int 0, .int 0, .int 0, .ref z29, .int 0, .ref z30, .ref z31, .int 0, .ref z32, .ref z33, .int 0, .int 0, .ref z34, .ref z35, .ref z36, .int 0, .ref z37, .ref z38, .ref z39, .int 0, .long 0, .long 0, .ref z40, .ref z41, .ref z42, .ref z43, .ref z44, .ref z45, .ref z46, .ref z47, .ref z48, .ref z49, .ref z50, .int 0, .int 0, .int (-1), .int 0, .long 0, .ref z51, .int 0, .int (-1)])), (z20, .inl (K 0, 7, .inl (fun _ => 0))), (z21, .inl (K 0, 5500, .inl row0))] H := hP
  have hD : va_D A [(z19, .inr (12, [.int 0, .int 0, .ref z20, .ref z21, .ref z22, .ref z23, .ref z24, .ref z25, .int 0, .ref z26, .ref z27, .int 0, .ref z28, .int 0, .int 0, .int 0, .int 0, .long 0, .int (-1), .int 0, .int 0, .int 0, .ref z29, .int 0, .ref z30, .ref z31, .int 0, .ref z32, .ref z33, .int 0, .int 0, .ref z34, .ref z35, .ref z36, .int 0, .ref z37, .ref z38, .ref z39, .int 0, .long 0, .long 0, .ref z40, .ref z41, .ref z42, .ref z43, .ref z44, .ref z45, .ref z46, .ref z47, .ref z48, .ref z49, .ref z50, .int 0, .int 0, .int (-1), .int 0, .long 0, .ref z51, .int 0, .int (-1)])), (z20, .inl (K 0, 7, .inl (fun _ => 0))), (z21, .inl (K 0, 5500, .inl row0))] := hD
  have hv_5 := hw
  refine lv_aload_n hx hb dL_law_670 rfl (lv_at hl 1 rfl) ?_
  refine lv_aload_n hx hb dL_law_671 rfl (lv_at hl 3 rfl) ?_
  refine lv_iload_n hx hb dL_law_672 rfl (lv_at hl 0 rfl) ?_
  refine lv_iconst (v := 1) hx hb dL_law_673 (by decide) ?_
  refine lv_iadd hx hb dL_law_674 ?_
  refine lv_topi (fun x_6 ex_6 => ?_)
  obtain rfl : x_6 = 1 := ex_6.trans (by first | rfl | decide)
  refine va_sld hx hb hX hbl hbA hS (i_in (x := 1) rfl (by omega)) dL_law_675 ?_
  refine W.eq (g2 := F0 m 676 ls [.int (xs 1), .ref z19, .int r_3]) rfl ?_
  refine lv_aload_n hx hb dL_law_676 rfl (lv_at hl 3 rfl) ?_
  refine lv_iload_n hx hb dL_law_677 rfl (lv_at hl 0 rfl) ?_
  refine lv_iconst (v := 2) hx hb dL_law_678 (by decide) ?_
  refine lv_iadd hx hb dL_law_679 ?_
  refine lv_topi (fun x_7 ex_7 => ?_)
  obtain rfl : x_7 = 2 := ex_7.trans (by first | rfl | decide)
  refine va_sld hx hb hX hbl hbA hS (i_in (x := 2) rfl (by omega)) dL_law_680 ?_
  refine W.eq (g2 := F0 m 681 ls [.int (xs 2), .int (xs 1), .ref z19, .int r_3]) rfl ?_
  refine kci (wr := []) (va_runV (As := [.int (xs 1), .int (xs 2)]) (rest := [.int r_3]) ⟨hx, hb, hml, hown, hts⟩ (r_buy l D K z19 (xs 1) (xs 2) (.int 0) (.int 0) z20 z21 (.ref z22) (.ref z23) (.ref z24) (.ref z25) (.int 0) (.ref z26) (.ref z27) (.int 0) (.ref z28) (.int 0) (.int 0) (.int 0) (.int 0) (.long 0) (.int (-1)) (.int 0) (.int 0) (.int 0) (.ref z29) (.int 0) (.ref z30) (.ref z31) (.int 0) (.ref z32) (.ref z33) (.int 0) (.int 0) (.ref z34) (.ref z35) (.ref z36) (.int 0) (.ref z37) (.ref z38) (.ref z39) (.int 0) (.long 0) (.long 0) (.ref z40) (.ref z41) (.ref z42) (.ref z43) (.ref z44) (.ref z45) (.ref z46) (.ref z47) (.ref z48) (.ref z49) (.ref z50) (.int 0) (.int 0) (.int (-1)) (.int 0) (.long 0) (.ref z51) (.int 0) (.int (-1)) H.size) (cwV 2 hts gL_X12_buy rfl rfl rfl (by decide +kernel) ⟨Nat.le_of_ble_eq_true rfl, Nat.le_of_ble_eq_true rfl⟩) (mkV hK hN (hP.sub [0, 2, 1] rfl) (hD.sub [0, 2, 1] (by decide) rfl) (ci := 12) (q0 := 0) rfl rfl) rfl rfl hl.1 rfl (lv_room (Nat.le_of_ble_eq_true rfl)) dL_law_681 ⟨Nat.le_of_ble_eq_true rfl, Nat.le_of_ble_eq_true rfl⟩) hP hD hS hA [0, 2, 1] [] rfl rfl (by decide) (by decide) (fun r_8 u_9 H locs hw hP hD hS => ?_)
  have hP : va_P D vwCl [] H := hP
  have hD : va_D A [] := hD
  have hv_10 := hw
  have heq : r_3 = r_8 := by
    try dsimp only at hv_5 hv_10
    rcases hv_5 with ⟨rfl, k00, k01⟩ | ⟨rfl, k10⟩ <;> rcases hv_10 with ⟨rfl, j00, j01⟩ | ⟨rfl, j10⟩ <;> first | rfl | (exfalso; omega)
  refine lv_icmp_eq (tgt := 1111) hx hb dL_law_684 (by decide) (fun cq => ?_) (fun cq => absurd heq cq)
  refine lv_iinc (v := 6) (lv' := [(3, .int 6), (2, .ref z19), (1, .ref z0), (0, .ref b)]) hx hb dL_law_1111 hl (k := 0) rfl (by decide) (by decide) rfl (fun ls hl => ?_)
  refine lv_goto (tgt := 18) hx hb dL_law_1114 (by decide) ?_
  refine lv_iload_n hx hb dL_law_18 rfl (lv_at hl 0 rfl) ?_
  refine lv_aload_n hx hb dL_law_19 rfl (lv_at hl 3 rfl) ?_
  refine va_slen hx hb hX hbl hbA hS dL_law_20 ?_
  refine W.eq (g2 := F0 m 21 ls [.int 6, .int 6]) rfl ?_
  refine lv_bipush (v := 6) hx hb dL_law_21 (by decide) ?_
  refine lv_isub hx hb dL_law_23 ?_
  refine lv_topi (fun x_11 ex_11 => ?_)
  obtain rfl : x_11 = 0 := ex_11.trans (by first | rfl | decide)
  refine lv_icmp_gt (tgt := 1117) hx hb dL_law_24 (by decide) (fun cq => ?_) (fun cq => absurd (by decide) cq)
  refine lv_iconst (v := 1) hx hb dL_law_1117 (by decide) ?_
  refine va_forget (fun q hq => hA0 _ (hS.2.2 q hq)) ?_
  refine W.widen (k := 600000) (n := 7302250) (by decide) (by decide) ?_
  exact lw_ret hx hb hr hlocks dL_law_1118
set_option maxHeartbeats 4000000 in
set_option maxRecDepth 100000 in
theorem law_19 {p : Program} {e : Env} {s : State} {m : MethodId} {below : List Frame} {meth : Method} {c : Code} (l : Launch) {b : Nat} {xs : Nat → Int32} (C0 : lw_At p s m meth c b 6 xs) (D : va_G) (K : Nat → ClassId) (hK : va_K D vwCl (KT K) s) (hN : lw_N s) {A : Nat → Prop} (hA : ∀ q, s.heap.size ≤ q → A q) (hA0 : ∀ q, A q → s.heap.size ≤ q) (hbA : ¬ A b) (z0 z1 z2 z3 z4 z5 z6 z7 z8 z9 z10 z11 z12 z13 z14 z15 z16 z17 z18 z19 z20 z21 z22 z23 z24 z25 z26 z27 z28 z29 z30 z31 z32 z33 z34 z35 z36 z37 z38 z39 z40 z41 z42 z43 z44 z45 z46 z47 z48 z49 z50 z51 : Nat) (H : Heap) (locs : List Loc) (hP : va_P D vwCl [(z0, .inr (11, [.ref z1, .ref z2, .ref z3, .ref z4, .ref z5, .ref z6, .ref z7, .ref z8, .ref z9, .ref z10, .ref z11, .ref z12, .ref z13, .int 0, .int 0, .int 0, .int 0])), (z1, .inr (9, [.ref z14, .ref z15, .ref z16, .ref z17, .int 0, .int 0, .int (-1), .int 0, .int 0, .int 0])), (z14, .inl (K 0, 56, .inl (fun _ => 0))), (z15, .inl (K 0, 24, .inl (fun _ => 0))), (z16, .inl (K 0, 6, .inl tm0)), (z8, .inr (10, [.ref z9])), (z10, .inr (2, [.ref z18, .int 0, .int 0])), (z18, .inl (K 0, 476, .inl (fun _ => 0))), (z19, .inr (12, [.int 0, .int 0, .ref z20, .ref z21, .ref z22, .ref z23, .ref z24, .ref z25, .int 0, .ref z26, .ref z27, .int 0, .ref z28, .int 0, .int 0, .int 0, .int 0, .long 0, .int (-1), .int 0, .int 0, .int 0, .ref z29, .int 0, .ref z30, .ref z31, .int 0, .ref z32, .ref z33, .int 0, .int 0, .ref z34, .ref z35, .ref z36, .int 0, .ref z37, .ref z38, .ref z39, .int 0, .long 0, .long 0, .ref z40, .ref z41, .ref z42, .ref z43, .ref z44, .ref z45, .ref z46, .ref z47, .ref z48, .ref z49, .ref z50, .int 0, .int 0, .int (-1), .int 0, .long 0, .ref z51, .int 0, .int (-1)])), (z21, .inl (K 0, 5500, .inl row0)), (z24, .inl (K 0, 558, .inl (fun _ => 0))), (z25, .inl (K 0, 16, .inl (fun _ => 0)))] H) (hD : va_D A [(z0, .inr (11, [.ref z1, .ref z2, .ref z3, .ref z4, .ref z5, .ref z6, .ref z7, .ref z8, .ref z9, .ref z10, .ref z11, .ref z12, .ref z13, .int 0, .int 0, .int 0, .int 0])), (z1, .inr (9, [.ref z14, .ref z15, .ref z16, .ref z17, .int 0, .int 0, .int (-1), .int 0, .int 0, .int 0])), (z14, .inl (K 0, 56, .inl (fun _ => 0))), (z15, .inl (K 0, 24, .inl (fun _ => 0))), (z16, .inl (K 0, 6, .inl tm0)), (z8, .inr (10, [.ref z9])), (z10, .inr (2, [.ref z18, .int 0, .int 0])), (z18, .inl (K 0, 476, .inl (fun _ => 0))), (z19, .inr (12, [.int 0, .int 0, .ref z20, .ref z21, .ref z22, .ref z23, .ref z24, .ref z25, .int 0, .ref z26, .ref z27, .int 0, .ref z28, .int 0, .int 0, .int 0, .int 0, .long 0, .int (-1), .int 0, .int 0, .int 0, .ref z29, .int 0, .ref z30, .ref z31, .int 0, .ref z32, .ref z33, .int 0, .int 0, .ref z34, .ref z35, .ref z36, .int 0, .ref z37, .ref z38, .ref z39, .int 0, .long 0, .long 0, .ref z40, .ref z41, .ref z42, .ref z43, .ref z44, .ref z45, .ref z46, .ref z47, .ref z48, .ref z49, .ref z50, .int 0, .int 0, .int (-1), .int 0, .long 0, .ref z51, .int 0, .int (-1)])), (z21, .inl (K 0, 5500, .inl row0)), (z24, .inl (K 0, 558, .inl (fun _ => 0))), (z25, .inl (K 0, 16, .inl (fun _ => 0)))]) (hS : va_S A s.heap H locs) (ls : Array Slot) (hl : lv_has ls 4 [(3, .int 0), (2, .ref z19), (1, .ref z0), (0, .ref b)]) : W p l e room_1 s m #[Value.ref b] below meth c H locs 97 27561 (lw_Z below #[Value.ref b] s) (F0 m 689 ls []) := by
  obtain ⟨hx, hb, hr, hml, hown, hts, hX, hbl, hlocks, hgv⟩ := C0
  have hown : s.vm.findClass RL = some m.cls := hown
  refine lv_aload_n hx hb dL_law_689 rfl (lv_at hl 2 rfl) ?_
  refine kci (wr := [(z19, .inr (12, [.int 0, .int 0, .ref z20, .ref z21, .ref z22, .ref z23, .ref z24, .ref z25, .int 0, .ref z26, .ref z27, .int 0, .ref z28, .int 0, .int 0, .int 0, .int 0, .long 0, .int (-1), .int 0, .int 0, .int 0, .ref z29, .int 0, .ref z30, .ref z31, .int 0, .ref z32, .ref z33, .int 0, .int 0, .ref z34, .ref z35, .ref z36, .int 0, .ref z37, .ref z38, .ref z39, .int 0, .long 0, .long 0, .ref z40, .ref z41, .ref z42, .ref z43, .ref z44, .ref z45, .ref z46, .ref z47, .ref z48, .ref z49, .ref z50, .int 0, .int 0, .int (-1), .int 0, .long 0, .ref z51, .int 0, .int (-1)])), (z21, .inl (K 0, 5500, .inl row0)), (z24, .inl (K 0, 558, .inl (fun _ => 0))), (z25, .inl (K 0, 16, .inl (fun _ => 0)))]) (va_runV (As := []) (rest := []) ⟨hx, hb, hml, hown, hts⟩ (t_pass l D K z0 z1 (.ref z2) (.ref z3) (.ref z4) (.ref z5) (.ref z6) (.ref z7) z8 (.ref z9) z10 (.ref z11) (.ref z12) (.ref z13) (.int 0) (.int 0) (.int 0) (.int 0) z18 z14 z15 z16 (.ref z17) (.int 0) (.int (-1)) (.int 0) (.int 0) (.ref z9) H.size) (cwV 0 hts gL_X11_pass rfl rfl rfl (by decide +kernel) ⟨Nat.le_of_ble_eq_true rfl, Nat.le_of_ble_eq_true rfl⟩) (mkV hK hN (hP.sub [0, 6, 1, 7, 2, 4, 5, 3] rfl) (hD.sub [0, 6, 1, 7, 2, 4, 5, 3] (by decide) rfl) (ci := 11) (q0 := 0) rfl rfl) rfl rfl hl.1 rfl (lv_room (Nat.le_of_ble_eq_true rfl)) dL_law_690 ⟨Nat.le_of_ble_eq_true rfl, Nat.le_of_ble_eq_true rfl⟩) hP hD hS hA [0, 6, 1, 7, 2, 4, 5, 3] [8, 9, 10, 11] rfl rfl (by decide) (by decide) (fun r_1 u_2 H locs hw hP hD hS => ?_)
  have hP : va_P D vwCl [(z19, .inr (12, [.int 0, .int 0, .ref z20, .ref z21, .ref z22, .ref z23, .ref z24, .ref z25, .int 0, .ref z26, .ref z27, .int 0, .ref z28, .int 0, .int 0, .int 0, .int 0, .long 0, .int (-1), .int 0, .int 0, .int 0, .ref z29, .int 0, .ref z30, .ref z31, .int 0, .ref z32, .ref z33, .int 0, .int 0, .ref z34, .ref z35, .ref z36, .int 0, .ref z37, .ref z38, .ref z39, .int 0, .long 0, .long 0, .ref z40, .ref z41, .ref z42, .ref z43, .ref z44, .ref z45, .ref z46, .ref z47, .ref z48, .ref z49, .ref z50, .int 0, .int 0, .int (-1), .int 0, .long 0, .ref z51, .int 0, .int (-1)])), (z21, .inl (K 0, 5500, .inl row0)), (z24, .inl (K 0, 558, .inl (fun _ => 0))), (z25, .inl (K 0, 16, .inl (fun _ => 0)))] H := hP
  have hD : va_D A [(z19, .inr (12, [.int 0, .int 0, .ref z20, .ref z21, .ref z22, .ref z23, .ref z24, .ref z25, .int 0, .ref z26, .ref z27, .int 0, .ref z28, .int 0, .int 0, .int 0, .int 0, .long 0, .int (-1), .int 0, .int 0, .int 0, .ref z29, .int 0, .ref z30, .ref z31, .int 0, .ref z32, .ref z33, .int 0, .int 0, .ref z34, .ref z35, .ref z36, .int 0, .ref z37, .ref z38, .ref z39, .int 0, .long 0, .long 0, .ref z40, .ref z41, .ref z42, .ref z43, .ref z44, .ref z45, .ref z46, .ref z47, .ref z48, .ref z49, .ref z50, .int 0, .int 0, .int (-1), .int 0, .long 0, .ref z51, .int 0, .int (-1)])), (z21, .inl (K 0, 5500, .inl row0)), (z24, .inl (K 0, 558, .inl (fun _ => 0))), (z25, .inl (K 0, 16, .inl (fun _ => 0)))] := hD
  have hv_3 := hw
  refine lv_aload_n hx hb dL_law_693 rfl (lv_at hl 1 rfl) ?_
  refine kci (wr := []) (va_runV (As := []) (rest := [.int r_1]) ⟨hx, hb, hml, hown, hts⟩ (r_pass l D K z19 (.int 0) (.int 0) (.ref z20) z21 (.ref z22) (.ref z23) z24 z25 (.ref z26) (.ref z27) (.int 0) (.ref z28) (.int 0) (.int 0) (.int 0) (.int 0) (.long 0) (.int (-1)) (.int 0) (.int 0) (.int 0) (.ref z29) (.int 0) (.ref z30) (.ref z31) (.int 0) (.ref z32) (.ref z33) (.int 0) (.int 0) (.ref z34) (.ref z35) (.ref z36) (.int 0) (.ref z37) (.ref z38) (.ref z39) (.int 0) (.long 0) (.long 0) (.ref z40) (.ref z41) (.ref z42) (.ref z43) (.ref z44) (.ref z45) (.ref z46) (.ref z47) (.ref z48) (.ref z49) (.ref z50) (.int 0) (.int 0) (.int (-1)) (.int 0) (.long 0) (.ref z51) (.int 0) (.int (-1)) H.size) (cwV 0 hts gL_X12_pass rfl rfl rfl (by decide +kernel) ⟨Nat.le_of_ble_eq_true rfl, Nat.le_of_ble_eq_true rfl⟩) (mkV hK hN (hP.sub [0, 1, 2, 3] rfl) (hD.sub [0, 1, 2, 3] (by decide) rfl) (ci := 12) (q0 := 0) rfl rfl) rfl rfl hl.1 rfl (lv_room (Nat.le_of_ble_eq_true rfl)) dL_law_694 ⟨Nat.le_of_ble_eq_true rfl, Nat.le_of_ble_eq_true rfl⟩) hP hD hS hA [0, 1, 2, 3] [] rfl rfl (by decide) (by decide) (fun r_4 u_5 H locs hw hP hD hS => ?_)
  have hP : va_P D vwCl [] H := hP
  have hD : va_D A [] := hD
  have hv_6 := hw
  have heq : r_1 = r_4 := by
    try dsimp only at hv_3 hv_6
    rcases hv_3 with rfl <;> rcases hv_6 with rfl <;> first | rfl | (exfalso; omega)
  refine lv_icmp_eq (tgt := 1111) hx hb dL_law_697 (by decide) (fun cq => ?_) (fun cq => absurd heq cq)
  refine lv_iinc (v := 6) (lv' := [(3, .int 6), (2, .ref z19), (1, .ref z0), (0, .ref b)]) hx hb dL_law_1111 hl (k := 0) rfl (by decide) (by decide) rfl (fun ls hl => ?_)
  refine lv_goto (tgt := 18) hx hb dL_law_1114 (by decide) ?_
  refine lv_iload_n hx hb dL_law_18 rfl (lv_at hl 0 rfl) ?_
  refine lv_aload_n hx hb dL_law_19 rfl (lv_at hl 3 rfl) ?_
  refine va_slen hx hb hX hbl hbA hS dL_law_20 ?_
  refine W.eq (g2 := F0 m 21 ls [.int 6, .int 6]) rfl ?_
  refine lv_bipush (v := 6) hx hb dL_law_21 (by decide) ?_
  refine lv_isub hx hb dL_law_23 ?_
  refine lv_topi (fun x_7 ex_7 => ?_)
  obtain rfl : x_7 = 0 := ex_7.trans (by first | rfl | decide)
  refine lv_icmp_gt (tgt := 1117) hx hb dL_law_24 (by decide) (fun cq => ?_) (fun cq => absurd (by decide) cq)
  refine lv_iconst (v := 1) hx hb dL_law_1117 (by decide) ?_
  refine va_forget (fun q hq => hA0 _ (hS.2.2 q hq)) ?_
  refine W.widen (k := 600000) (n := 7302250) (by decide) (by decide) ?_
  exact lw_ret hx hb hr hlocks dL_law_1118
