set_option maxHeartbeats 4000000 in
set_option maxRecDepth 100000 in
theorem law_20 {p : Program} {e : Env} {s : State} {m : MethodId} {below : List Frame} {meth : Method} {c : Code} (l : Launch) {b : Nat} {xs : Nat → Int32} (C0 : lw_At p s m meth c b 6 xs) (D : va_G) (K : Nat → ClassId) (hK : va_K D vwCl (KT K) s) (hN : lw_N s) {A : Nat → Prop} (hA : ∀ q, s.heap.size ≤ q → A q) (hA0 : ∀ q, A q → s.heap.size ≤ q) (hbA : ¬ A b) (z0 z1 z2 z3 z4 z5 z6 z7 z8 z9 z10 z11 z12 z13 z14 z15 z16 z17 z18 z19 z20 z21 z22 z23 z24 z25 z26 z27 z28 z29 z30 z31 z32 z33 z34 z35 z36 z37 z38 z39 z40 z41 z42 z43 z44 z45 z46 z47 : Nat) (H : Heap) (locs : List Loc) (hP : va_P D vwCl [(z0, .inr (11, [.ref z1, .ref z2, .ref z3, .ref z4, .ref z5, .ref z6, .ref z7, .ref z8, .ref z9, .ref z10, .ref z11, .ref z12, .ref z13, .int 0, .int 0, .int 0, .int 0])), (z10, .inr (2, [.ref z14, .int 0, .int 0])), (z13, .inl (K 0, 5, .inl (fun _ => 0))), (z15, .inr (12, [.int 0, .int 0, .ref z16, .ref z17, .ref z18, .ref z19, .ref z20, .ref z21, .int 0, .ref z22, .ref z23, .int 0, .ref z24, .int 0, .int 0, .int 0, .int 0, .long 0, .int (-1), .int 0, .int 0, .int 0, .ref z25, .int 0, .ref z26, .ref z27, .int 0, .ref z28, .ref z29, .int 0, .int 0, .ref z30, .ref z31, .ref z32, .int 0, .ref z33, .ref z34, .ref z35, .int 0, .long 0, .long 0, .ref z36, .ref z37, .ref z38, .ref z39, .ref z40, .ref z41, .ref z42, .ref z43, .ref z44, .ref z45, .ref z46, .int 0, .int 0, .int (-1), .int 0, .long 0, .ref z47, .int 0, .int (-1)])), (z16, .inl (K 0, 7, .inl (fun _ => 0))), (z17, .inl (K 0, 5500, .inl row0))] H) (hD : va_D A [(z0, .inr (11, [.ref z1, .ref z2, .ref z3, .ref z4, .ref z5, .ref z6, .ref z7, .ref z8, .ref z9, .ref z10, .ref z11, .ref z12, .ref z13, .int 0, .int 0, .int 0, .int 0])), (z10, .inr (2, [.ref z14, .int 0, .int 0])), (z13, .inl (K 0, 5, .inl (fun _ => 0))), (z15, .inr (12, [.int 0, .int 0, .ref z16, .ref z17, .ref z18, .ref z19, .ref z20, .ref z21, .int 0, .ref z22, .ref z23, .int 0, .ref z24, .int 0, .int 0, .int 0, .int 0, .long 0, .int (-1), .int 0, .int 0, .int 0, .ref z25, .int 0, .ref z26, .ref z27, .int 0, .ref z28, .ref z29, .int 0, .int 0, .ref z30, .ref z31, .ref z32, .int 0, .ref z33, .ref z34, .ref z35, .int 0, .long 0, .long 0, .ref z36, .ref z37, .ref z38, .ref z39, .ref z40, .ref z41, .ref z42, .ref z43, .ref z44, .ref z45, .ref z46, .int 0, .int 0, .int (-1), .int 0, .long 0, .ref z47, .int 0, .int (-1)])), (z16, .inl (K 0, 7, .inl (fun _ => 0))), (z17, .inl (K 0, 5500, .inl row0))]) (hS : va_S A s.heap H locs) (ls : Array Slot) (hl : lv_has ls 4 [(3, .int 0), (2, .ref z15), (1, .ref z0), (0, .ref b)]) : W p l e room_1 s m #[Value.ref b] below meth c H locs 97 27561 (lw_Z below #[Value.ref b] s) (F0 m 702 ls []) := by
  obtain ⟨hx, hb, hr, hml, hown, hts, hX, hbl, hlocks, hgv⟩ := C0
  have hown : s.vm.findClass RL = some m.cls := hown
  refine lv_aload_n hx hb dL_law_702 rfl (lv_at hl 2 rfl) ?_
  refine kci (wr := [(z15, .inr (12, [.int 0, .int 0, .ref z16, .ref z17, .ref z18, .ref z19, .ref z20, .ref z21, .int 0, .ref z22, .ref z23, .int 0, .ref z24, .int 0, .int 0, .int 0, .int 0, .long 0, .int (-1), .int 0, .int 0, .int 0, .ref z25, .int 0, .ref z26, .ref z27, .int 0, .ref z28, .ref z29, .int 0, .int 0, .ref z30, .ref z31, .ref z32, .int 0, .ref z33, .ref z34, .ref z35, .int 0, .long 0, .long 0, .ref z36, .ref z37, .ref z38, .ref z39, .ref z40, .ref z41, .ref z42, .ref z43, .ref z44, .ref z45, .ref z46, .int 0, .int 0, .int (-1), .int 0, .long 0, .ref z47, .int 0, .int (-1)])), (z16, .inl (K 0, 7, .inl (fun _ => 0))), (z17, .inl (K 0, 5500, .inl row0))]) (va_runV (As := []) (rest := []) ⟨hx, hb, hml, hown, hts⟩ (t_undo l D K z0 z1 (.ref z2) (.ref z3) (.ref z4) (.ref z5) (.ref z6) (.ref z7) (.ref z8) (.ref z9) z10 (.ref z11) (.ref z12) z13 (.int 0) (.int 0) (.int 0) (.int 0) (fun _ => 0) (.ref z14) (.int 0) H.size) (cwV 0 hts gL_X11_undo rfl rfl rfl (by decide +kernel) ⟨Nat.le_of_ble_eq_true rfl, Nat.le_of_ble_eq_true rfl⟩) (mkV hK hN (hP.sub [0, 2, 1] rfl) (hD.sub [0, 2, 1] (by decide) rfl) (ci := 11) (q0 := 0) rfl rfl) rfl rfl hl.1 rfl (lv_room (Nat.le_of_ble_eq_true rfl)) dL_law_703 ⟨Nat.le_of_ble_eq_true rfl, Nat.le_of_ble_eq_true rfl⟩) hP hD hS hA [0, 2, 1] [3, 4, 5] rfl rfl (by decide) (by decide) (fun r_1 u_2 H locs hw hP hD hS => ?_)
  have hP : va_P D vwCl [(z15, .inr (12, [.int 0, .int 0, .ref z16, .ref z17, .ref z18, .ref z19, .ref z20, .ref z21, .int 0, .ref z22, .ref z23, .int 0, .ref z24, .int 0, .int 0, .int 0, .int 0, .long 0, .int (-1), .int 0, .int 0, .int 0, .ref z25, .int 0, .ref z26, .ref z27, .int 0, .ref z28, .ref z29, .int 0, .int 0, .ref z30, .ref z31, .ref z32, .int 0, .ref z33, .ref z34, .ref z35, .int 0, .long 0, .long 0, .ref z36, .ref z37, .ref z38, .ref z39, .ref z40, .ref z41, .ref z42, .ref z43, .ref z44, .ref z45, .ref z46, .int 0, .int 0, .int (-1), .int 0, .long 0, .ref z47, .int 0, .int (-1)])), (z16, .inl (K 0, 7, .inl (fun _ => 0))), (z17, .inl (K 0, 5500, .inl row0))] H := hP
  have hD : va_D A [(z15, .inr (12, [.int 0, .int 0, .ref z16, .ref z17, .ref z18, .ref z19, .ref z20, .ref z21, .int 0, .ref z22, .ref z23, .int 0, .ref z24, .int 0, .int 0, .int 0, .int 0, .long 0, .int (-1), .int 0, .int 0, .int 0, .ref z25, .int 0, .ref z26, .ref z27, .int 0, .ref z28, .ref z29, .int 0, .int 0, .ref z30, .ref z31, .ref z32, .int 0, .ref z33, .ref z34, .ref z35, .int 0, .long 0, .long 0, .ref z36, .ref z37, .ref z38, .ref z39, .ref z40, .ref z41, .ref z42, .ref z43, .ref z44, .ref z45, .ref z46, .int 0, .int 0, .int (-1), .int 0, .long 0, .ref z47, .int 0, .int (-1)])), (z16, .inl (K 0, 7, .inl (fun _ => 0))), (z17, .inl (K 0, 5500, .inl row0))] := hD
  have hv_3 := hw
  refine lv_aload_n hx hb dL_law_706 rfl (lv_at hl 1 rfl) ?_
  refine kci (wr := []) (va_runV (As := []) (rest := [.int r_1]) ⟨hx, hb, hml, hown, hts⟩ (r_undo l D K z15 (.int 0) (.int 0) z16 z17 (.ref z18) (.ref z19) (.ref z20) (.ref z21) (.ref z22) (.ref z23) (.int 0) (.ref z24) (.int 0) (.int 0) (.int 0) (.int 0) (.long 0) (.int (-1)) (.int 0) (.int 0) (.int 0) (.ref z25) (.int 0) (.ref z26) (.ref z27) (.int 0) (.ref z28) (.ref z29) (.int 0) (.int 0) (.ref z30) (.ref z31) (.ref z32) (.int 0) (.ref z33) (.ref z34) (.ref z35) (.int 0) (.long 0) (.long 0) (.ref z36) (.ref z37) (.ref z38) (.ref z39) (.ref z40) (.ref z41) (.ref z42) (.ref z43) (.ref z44) (.ref z45) (.ref z46) (.int 0) (.int 0) (.int (-1)) (.int 0) (.long 0) (.ref z47) (.int 0) (.int (-1)) H.size) (cwV 0 hts gL_X12_undo rfl rfl rfl (by decide +kernel) ⟨Nat.le_of_ble_eq_true rfl, Nat.le_of_ble_eq_true rfl⟩) (mkV hK hN (hP.sub [0, 2, 1] rfl) (hD.sub [0, 2, 1] (by decide) rfl) (ci := 12) (q0 := 0) rfl rfl) rfl rfl hl.1 rfl (lv_room (Nat.le_of_ble_eq_true rfl)) dL_law_707 ⟨Nat.le_of_ble_eq_true rfl, Nat.le_of_ble_eq_true rfl⟩) hP hD hS hA [0, 2, 1] [] rfl rfl (by decide) (by decide) (fun r_4 u_5 H locs hw hP hD hS => ?_)
  have hP : va_P D vwCl [] H := hP
  have hD : va_D A [] := hD
  have hv_6 := hw
  have heq : r_1 = r_4 := by
    try dsimp only at hv_3 hv_6
    rcases hv_3 with rfl <;> rcases hv_6 with rfl <;> first | rfl | (exfalso; omega)
  refine lv_icmp_eq (tgt := 1111) hx hb dL_law_710 (by decide) (fun cq => ?_) (fun cq => absurd heq cq)
  refine lv_iinc (v := 6) (lv' := [(3, .int 6), (2, .ref z15), (1, .ref z0), (0, .ref b)]) hx hb dL_law_1111 hl (k := 0) rfl (by decide) (by decide) rfl (fun ls hl => ?_)
  refine lv_goto (tgt := 18) hx hb dL_law_1114 (by decide) ?_
  refine lv_iload_n hx hb dL_law_18 rfl (lv_at hl 0 rfl) ?_
  refine lv_aload_n hx hb dL_law_19 rfl (lv_at hl 3 rfl) ?_
  refine va_slen hx hb hX hbl hbA hS dL_law_20 ?_
  refine W.eq (g2 := F0 m 21 ls [.int 6, .int 6]) rfl ?_
  refine lv_bipush (v := 6) hx hb dL_law_21 (by decide) ?_
  refine lv_isub hx hb dL_law_23 ?_
  refine lv_topi (fun x_7 ex_7 => ?_)
  obtain rfl : x_7 = 0 := ex_7.trans (by first | rfl | decide)
  refine lv_icmp_gt (tgt := 1117) hx hb dL_law_24 (by decide) (fun cq => ?_) (fun cq => absurd (by decide) cq)
  refine lv_iconst (v := 1) hx hb dL_law_1117 (by decide) ?_
  refine va_forget (fun q hq => hA0 _ (hS.2.2 q hq)) ?_
  refine W.widen (k := 600000) (n := 7302250) (by decide) (by decide) ?_
  exact lw_ret hx hb hr hlocks dL_law_1118
set_option maxHeartbeats 4000000 in
set_option maxRecDepth 100000 in
theorem law_21 {p : Program} {e : Env} {s : State} {m : MethodId} {below : List Frame} {meth : Method} {c : Code} (l : Launch) {b : Nat} {xs : Nat → Int32} (C0 : lw_At p s m meth c b 6 xs) (D : va_G) (K : Nat → ClassId) (hK : va_K D vwCl (KT K) s) (hN : lw_N s) {A : Nat → Prop} (hA : ∀ q, s.heap.size ≤ q → A q) (hA0 : ∀ q, A q → s.heap.size ≤ q) (hbA : ¬ A b) (z0 z1 z2 z3 z4 z5 z6 z7 z8 z9 z10 z11 z12 z13 z14 z15 z16 z17 z18 z19 z20 z21 z22 z23 z24 z25 z26 z27 z28 z29 z30 z31 z32 z33 z34 z35 z36 z37 z38 z39 z40 z41 z42 z43 z44 z45 z46 z47 z48 z49 z50 : Nat) (H : Heap) (locs : List Loc) (hP : va_P D vwCl [(z0, .inr (11, [.ref z1, .ref z2, .ref z3, .ref z4, .ref z5, .ref z6, .ref z7, .ref z8, .ref z9, .ref z10, .ref z11, .ref z12, .ref z13, .int 0, .int 0, .int 0, .int 0])), (z1, .inr (9, [.ref z14, .ref z15, .ref z16, .ref z17, .int 0, .int 0, .int (-1), .int 0, .int 0, .int 0])), (z18, .inr (12, [.int 0, .int 0, .ref z19, .ref z20, .ref z21, .ref z22, .ref z23, .ref z24, .int 0, .ref z25, .ref z26, .int 0, .ref z27, .int 0, .int 0, .int 0, .int 0, .long 0, .int (-1), .int 0, .int 0, .int 0, .ref z28, .int 0, .ref z29, .ref z30, .int 0, .ref z31, .ref z32, .int 0, .int 0, .ref z33, .ref z34, .ref z35, .int 0, .ref z36, .ref z37, .ref z38, .int 0, .long 0, .long 0, .ref z39, .ref z40, .ref z41, .ref z42, .ref z43, .ref z44, .ref z45, .ref z46, .ref z47, .ref z48, .ref z49, .int 0, .int 0, .int (-1), .int 0, .long 0, .ref z50, .int 0, .int (-1)])), (z20, .inl (K 0, 5500, .inl row0))] H) (hD : va_D A [(z0, .inr (11, [.ref z1, .ref z2, .ref z3, .ref z4, .ref z5, .ref z6, .ref z7, .ref z8, .ref z9, .ref z10, .ref z11, .ref z12, .ref z13, .int 0, .int 0, .int 0, .int 0])), (z1, .inr (9, [.ref z14, .ref z15, .ref z16, .ref z17, .int 0, .int 0, .int (-1), .int 0, .int 0, .int 0])), (z18, .inr (12, [.int 0, .int 0, .ref z19, .ref z20, .ref z21, .ref z22, .ref z23, .ref z24, .int 0, .ref z25, .ref z26, .int 0, .ref z27, .int 0, .int 0, .int 0, .int 0, .long 0, .int (-1), .int 0, .int 0, .int 0, .ref z28, .int 0, .ref z29, .ref z30, .int 0, .ref z31, .ref z32, .int 0, .int 0, .ref z33, .ref z34, .ref z35, .int 0, .ref z36, .ref z37, .ref z38, .int 0, .long 0, .long 0, .ref z39, .ref z40, .ref z41, .ref z42, .ref z43, .ref z44, .ref z45, .ref z46, .ref z47, .ref z48, .ref z49, .int 0, .int 0, .int (-1), .int 0, .long 0, .ref z50, .int 0, .int (-1)])), (z20, .inl (K 0, 5500, .inl row0))]) (hS : va_S A s.heap H locs) (ls : Array Slot) (hl : lv_has ls 4 [(3, .int 0), (2, .ref z18), (1, .ref z0), (0, .ref b)]) : W p l e room_1 s m #[Value.ref b] below meth c H locs 97 27561 (lw_Z below #[Value.ref b] s) (F0 m 715 ls []) := by
  obtain ⟨hx, hb, hr, hml, hown, hts, hX, hbl, hlocks, hgv⟩ := C0
  have hown : s.vm.findClass RL = some m.cls := hown
  refine lv_aload_n hx hb dL_law_715 rfl (lv_at hl 2 rfl) ?_
  refine lv_aload_n hx hb dL_law_716 rfl (lv_at hl 3 rfl) ?_
  refine lv_iload_n hx hb dL_law_717 rfl (lv_at hl 0 rfl) ?_
  refine lv_iconst (v := 1) hx hb dL_law_718 (by decide) ?_
  refine lv_iadd hx hb dL_law_719 ?_
  refine lv_topi (fun x_1 ex_1 => ?_)
  obtain rfl : x_1 = 1 := ex_1.trans (by first | rfl | decide)
  refine va_sld hx hb hX hbl hbA hS (i_in (x := 1) rfl (by omega)) dL_law_720 ?_
  refine W.eq (g2 := F0 m 721 ls [.int (xs 1), .ref z0]) rfl ?_
  refine lv_aload_n hx hb dL_law_721 rfl (lv_at hl 3 rfl) ?_
  refine lv_iload_n hx hb dL_law_722 rfl (lv_at hl 0 rfl) ?_
  refine lv_iconst (v := 2) hx hb dL_law_723 (by decide) ?_
  refine lv_iadd hx hb dL_law_724 ?_
  refine lv_topi (fun x_2 ex_2 => ?_)
  obtain rfl : x_2 = 2 := ex_2.trans (by first | rfl | decide)
  refine va_sld hx hb hX hbl hbA hS (i_in (x := 2) rfl (by omega)) dL_law_725 ?_
  refine W.eq (g2 := F0 m 726 ls [.int (xs 2), .int (xs 1), .ref z0]) rfl ?_
  refine lv_aload_n hx hb dL_law_726 rfl (lv_at hl 3 rfl) ?_
  refine lv_iload_n hx hb dL_law_727 rfl (lv_at hl 0 rfl) ?_
  refine lv_iconst (v := 3) hx hb dL_law_728 (by decide) ?_
  refine lv_iadd hx hb dL_law_729 ?_
  refine lv_topi (fun x_3 ex_3 => ?_)
  obtain rfl : x_3 = 3 := ex_3.trans (by first | rfl | decide)
  refine va_sld hx hb hX hbl hbA hS (i_in (x := 3) rfl (by omega)) dL_law_730 ?_
  refine W.eq (g2 := F0 m 731 ls [.int (xs 3), .int (xs 2), .int (xs 1), .ref z0]) rfl ?_
  refine lv_aload_n hx hb dL_law_731 rfl (lv_at hl 3 rfl) ?_
  refine lv_iload_n hx hb dL_law_732 rfl (lv_at hl 0 rfl) ?_
  refine lv_iconst (v := 4) hx hb dL_law_733 (by decide) ?_
  refine lv_iadd hx hb dL_law_734 ?_
  refine lv_topi (fun x_4 ex_4 => ?_)
  obtain rfl : x_4 = 4 := ex_4.trans (by first | rfl | decide)
  refine va_sld hx hb hX hbl hbA hS (i_in (x := 4) rfl (by omega)) dL_law_735 ?_
  refine W.eq (g2 := F0 m 736 ls [.int (xs 4), .int (xs 3), .int (xs 2), .int (xs 1), .ref z0]) rfl ?_
  refine pci (va_runV (As := [.int (xs 1), .int (xs 2), .int (xs 3), .int (xs 4)]) (rest := []) ⟨hx, hb, hml, hown, hts⟩ (t_least l D K z0 (xs 1) (xs 2) (xs 3) (xs 4) z1 (.ref z2) (.ref z3) (.ref z4) (.ref z5) (.ref z6) (.ref z7) (.ref z8) (.ref z9) (.ref z10) (.ref z11) (.ref z12) (.ref z13) (.int 0) (.int 0) (.int 0) (.int 0) (.ref z14) (.ref z15) (.ref z16) (.ref z17) (.int 0) (.int (-1)) (.int 0) (.int 0) (.int 0) H.size) (cwV 4 hts gL_X11_least rfl rfl rfl (by decide +kernel) ⟨Nat.le_of_ble_eq_true rfl, Nat.le_of_ble_eq_true rfl⟩) (mkV hK hN (hP.sub [0, 1] rfl) (hD.sub [0, 1] (by decide) rfl) (ci := 11) (q0 := 0) rfl rfl) rfl rfl hl.1 rfl (lv_room (Nat.le_of_ble_eq_true rfl)) dL_law_736 ⟨Nat.le_of_ble_eq_true rfl, Nat.le_of_ble_eq_true rfl⟩) (fun r_5 hw => ?_)
  have hv_6 := hw
  refine lv_aload_n hx hb dL_law_739 rfl (lv_at hl 1 rfl) ?_
  refine lv_aload_n hx hb dL_law_740 rfl (lv_at hl 3 rfl) ?_
  refine lv_iload_n hx hb dL_law_741 rfl (lv_at hl 0 rfl) ?_
  refine lv_iconst (v := 1) hx hb dL_law_742 (by decide) ?_
  refine lv_iadd hx hb dL_law_743 ?_
  refine lv_topi (fun x_7 ex_7 => ?_)
  obtain rfl : x_7 = 1 := ex_7.trans (by first | rfl | decide)
  refine va_sld hx hb hX hbl hbA hS (i_in (x := 1) rfl (by omega)) dL_law_744 ?_
  refine W.eq (g2 := F0 m 745 ls [.int (xs 1), .ref z18, .int r_5]) rfl ?_
  refine lv_aload_n hx hb dL_law_745 rfl (lv_at hl 3 rfl) ?_
  refine lv_iload_n hx hb dL_law_746 rfl (lv_at hl 0 rfl) ?_
  refine lv_iconst (v := 2) hx hb dL_law_747 (by decide) ?_
  refine lv_iadd hx hb dL_law_748 ?_
  refine lv_topi (fun x_8 ex_8 => ?_)
  obtain rfl : x_8 = 2 := ex_8.trans (by first | rfl | decide)
  refine va_sld hx hb hX hbl hbA hS (i_in (x := 2) rfl (by omega)) dL_law_749 ?_
  refine W.eq (g2 := F0 m 750 ls [.int (xs 2), .int (xs 1), .ref z18, .int r_5]) rfl ?_
  refine lv_aload_n hx hb dL_law_750 rfl (lv_at hl 3 rfl) ?_
  refine lv_iload_n hx hb dL_law_751 rfl (lv_at hl 0 rfl) ?_
  refine lv_iconst (v := 3) hx hb dL_law_752 (by decide) ?_
  refine lv_iadd hx hb dL_law_753 ?_
  refine lv_topi (fun x_9 ex_9 => ?_)
  obtain rfl : x_9 = 3 := ex_9.trans (by first | rfl | decide)
  refine va_sld hx hb hX hbl hbA hS (i_in (x := 3) rfl (by omega)) dL_law_754 ?_
  refine W.eq (g2 := F0 m 755 ls [.int (xs 3), .int (xs 2), .int (xs 1), .ref z18, .int r_5]) rfl ?_
  refine lv_aload_n hx hb dL_law_755 rfl (lv_at hl 3 rfl) ?_
  refine lv_iload_n hx hb dL_law_756 rfl (lv_at hl 0 rfl) ?_
  refine lv_iconst (v := 4) hx hb dL_law_757 (by decide) ?_
  refine lv_iadd hx hb dL_law_758 ?_
  refine lv_topi (fun x_10 ex_10 => ?_)
  obtain rfl : x_10 = 4 := ex_10.trans (by first | rfl | decide)
  refine va_sld hx hb hX hbl hbA hS (i_in (x := 4) rfl (by omega)) dL_law_759 ?_
  refine W.eq (g2 := F0 m 760 ls [.int (xs 4), .int (xs 3), .int (xs 2), .int (xs 1), .ref z18, .int r_5]) rfl ?_
  refine kci (wr := [(z0, .inr (11, [.ref z1, .ref z2, .ref z3, .ref z4, .ref z5, .ref z6, .ref z7, .ref z8, .ref z9, .ref z10, .ref z11, .ref z12, .ref z13, .int 0, .int 0, .int 0, .int 0])), (z1, .inr (9, [.ref z14, .ref z15, .ref z16, .ref z17, .int 0, .int 0, .int (-1), .int 0, .int 0, .int 0]))]) (va_runV (As := [.int (xs 1), .int (xs 2), .int (xs 3), .int (xs 4)]) (rest := [.int r_5]) ⟨hx, hb, hml, hown, hts⟩ (r_least l D K z18 (xs 1) (xs 2) (xs 3) (xs 4) (.int 0) (.int 0) (.ref z19) z20 (.ref z21) (.ref z22) (.ref z23) (.ref z24) (.int 0) (.ref z25) (.ref z26) (.int 0) (.ref z27) (.int 0) (.int 0) (.int 0) (.int 0) (.long 0) (.int (-1)) (.int 0) (.int 0) (.int 0) (.ref z28) (.int 0) (.ref z29) (.ref z30) (.int 0) (.ref z31) (.ref z32) (.int 0) (.int 0) (.ref z33) (.ref z34) (.ref z35) (.int 0) (.ref z36) (.ref z37) (.ref z38) (.int 0) (.long 0) (.long 0) (.ref z39) (.ref z40) (.ref z41) (.ref z42) (.ref z43) (.ref z44) (.ref z45) (.ref z46) (.ref z47) (.ref z48) (.ref z49) (.int 0) (.int 0) (.int (-1)) (.int 0) (.long 0) (.ref z50) (.int 0) (.int (-1)) H.size) (cwV 4 hts gL_X12_least rfl rfl rfl (by decide +kernel) ⟨Nat.le_of_ble_eq_true rfl, Nat.le_of_ble_eq_true rfl⟩) (mkV hK hN (hP.sub [2, 3] rfl) (hD.sub [2, 3] (by decide) rfl) (ci := 12) (q0 := 0) rfl rfl) rfl rfl hl.1 rfl (lv_room (Nat.le_of_ble_eq_true rfl)) dL_law_760 ⟨Nat.le_of_ble_eq_true rfl, Nat.le_of_ble_eq_true rfl⟩) hP hD hS hA [2, 3] [0, 1] rfl rfl (by decide) (by decide) (fun r_11 u_12 H locs hw hP hD hS => ?_)
  have hP : va_P D vwCl [(z0, .inr (11, [.ref z1, .ref z2, .ref z3, .ref z4, .ref z5, .ref z6, .ref z7, .ref z8, .ref z9, .ref z10, .ref z11, .ref z12, .ref z13, .int 0, .int 0, .int 0, .int 0])), (z1, .inr (9, [.ref z14, .ref z15, .ref z16, .ref z17, .int 0, .int 0, .int (-1), .int 0, .int 0, .int 0]))] H := hP
  have hD : va_D A [(z0, .inr (11, [.ref z1, .ref z2, .ref z3, .ref z4, .ref z5, .ref z6, .ref z7, .ref z8, .ref z9, .ref z10, .ref z11, .ref z12, .ref z13, .int 0, .int 0, .int 0, .int 0])), (z1, .inr (9, [.ref z14, .ref z15, .ref z16, .ref z17, .int 0, .int 0, .int (-1), .int 0, .int 0, .int 0]))] := hD
  have hv_13 := hw
  have heq : r_5 = r_11 := by
    try dsimp only at hv_6 hv_13
    rcases hv_6 with rfl <;> rcases hv_13 with rfl <;> first | rfl | (exfalso; omega)
  refine lv_icmp_eq (tgt := 1111) hx hb dL_law_763 (by decide) (fun cq => ?_) (fun cq => absurd heq cq)
  refine lv_iinc (v := 6) (lv' := [(3, .int 6), (2, .ref z18), (1, .ref z0), (0, .ref b)]) hx hb dL_law_1111 hl (k := 0) rfl (by decide) (by decide) rfl (fun ls hl => ?_)
  refine lv_goto (tgt := 18) hx hb dL_law_1114 (by decide) ?_
  refine lv_iload_n hx hb dL_law_18 rfl (lv_at hl 0 rfl) ?_
  refine lv_aload_n hx hb dL_law_19 rfl (lv_at hl 3 rfl) ?_
  refine va_slen hx hb hX hbl hbA hS dL_law_20 ?_
  refine W.eq (g2 := F0 m 21 ls [.int 6, .int 6]) rfl ?_
  refine lv_bipush (v := 6) hx hb dL_law_21 (by decide) ?_
  refine lv_isub hx hb dL_law_23 ?_
  refine lv_topi (fun x_14 ex_14 => ?_)
  obtain rfl : x_14 = 0 := ex_14.trans (by first | rfl | decide)
  refine lv_icmp_gt (tgt := 1117) hx hb dL_law_24 (by decide) (fun cq => ?_) (fun cq => absurd (by decide) cq)
  refine lv_iconst (v := 1) hx hb dL_law_1117 (by decide) ?_
  refine va_forget (fun q hq => hA0 _ (hS.2.2 q hq)) ?_
  refine W.widen (k := 600000) (n := 7302250) (by decide) (by decide) ?_
  exact lw_ret hx hb hr hlocks dL_law_1118
set_option maxHeartbeats 4000000 in
set_option maxRecDepth 100000 in
theorem law_22 {p : Program} {e : Env} {s : State} {m : MethodId} {below : List Frame} {meth : Method} {c : Code} (l : Launch) {b : Nat} {xs : Nat → Int32} (C0 : lw_At p s m meth c b 6 xs) (D : va_G) (K : Nat → ClassId) (hK : va_K D vwCl (KT K) s) (hN : lw_N s) {A : Nat → Prop} (hA : ∀ q, s.heap.size ≤ q → A q) (hA0 : ∀ q, A q → s.heap.size ≤ q) (hbA : ¬ A b) (z0 z1 z2 z3 z4 z5 z6 z7 z8 z9 z10 z11 z12 z13 z14 z15 z16 z17 z18 z19 z20 z21 z22 z23 z24 z25 z26 z27 z28 z29 z30 z31 z32 z33 z34 z35 z36 z37 z38 z39 z40 z41 z42 z43 z44 z45 z46 z47 z48 z49 z50 : Nat) (H : Heap) (locs : List Loc) (hP : va_P D vwCl [(z0, .inr (11, [.ref z1, .ref z2, .ref z3, .ref z4, .ref z5, .ref z6, .ref z7, .ref z8, .ref z9, .ref z10, .ref z11, .ref z12, .ref z13, .int 0, .int 0, .int 0, .int 0])), (z1, .inr (9, [.ref z14, .ref z15, .ref z16, .ref z17, .int 0, .int 0, .int (-1), .int 0, .int 0, .int 0])), (z18, .inr (12, [.int 0, .int 0, .ref z19, .ref z20, .ref z21, .ref z22, .ref z23, .ref z24, .int 0, .ref z25, .ref z26, .int 0, .ref z27, .int 0, .int 0, .int 0, .int 0, .long 0, .int (-1), .int 0, .int 0, .int 0, .ref z28, .int 0, .ref z29, .ref z30, .int 0, .ref z31, .ref z32, .int 0, .int 0, .ref z33, .ref z34, .ref z35, .int 0, .ref z36, .ref z37, .ref z38, .int 0, .long 0, .long 0, .ref z39, .ref z40, .ref z41, .ref z42, .ref z43, .ref z44, .ref z45, .ref z46, .ref z47, .ref z48, .ref z49, .int 0, .int 0, .int (-1), .int 0, .long 0, .ref z50, .int 0, .int (-1)])), (z20, .inl (K 0, 5500, .inl row0))] H) (hD : va_D A [(z0, .inr (11, [.ref z1, .ref z2, .ref z3, .ref z4, .ref z5, .ref z6, .ref z7, .ref z8, .ref z9, .ref z10, .ref z11, .ref z12, .ref z13, .int 0, .int 0, .int 0, .int 0])), (z1, .inr (9, [.ref z14, .ref z15, .ref z16, .ref z17, .int 0, .int 0, .int (-1), .int 0, .int 0, .int 0])), (z18, .inr (12, [.int 0, .int 0, .ref z19, .ref z20, .ref z21, .ref z22, .ref z23, .ref z24, .int 0, .ref z25, .ref z26, .int 0, .ref z27, .int 0, .int 0, .int 0, .int 0, .long 0, .int (-1), .int 0, .int 0, .int 0, .ref z28, .int 0, .ref z29, .ref z30, .int 0, .ref z31, .ref z32, .int 0, .int 0, .ref z33, .ref z34, .ref z35, .int 0, .ref z36, .ref z37, .ref z38, .int 0, .long 0, .long 0, .ref z39, .ref z40, .ref z41, .ref z42, .ref z43, .ref z44, .ref z45, .ref z46, .ref z47, .ref z48, .ref z49, .int 0, .int 0, .int (-1), .int 0, .long 0, .ref z50, .int 0, .int (-1)])), (z20, .inl (K 0, 5500, .inl row0))]) (hS : va_S A s.heap H locs) (ls : Array Slot) (hl : lv_has ls 4 [(3, .int 0), (2, .ref z18), (1, .ref z0), (0, .ref b)]) : W p l e room_1 s m #[Value.ref b] below meth c H locs 97 27561 (lw_Z below #[Value.ref b] s) (F0 m 768 ls []) := by
  obtain ⟨hx, hb, hr, hml, hown, hts, hX, hbl, hlocks, hgv⟩ := C0
  have hown : s.vm.findClass RL = some m.cls := hown
  refine lv_aload_n hx hb dL_law_768 rfl (lv_at hl 2 rfl) ?_
  refine lv_aload_n hx hb dL_law_769 rfl (lv_at hl 3 rfl) ?_
  refine lv_iload_n hx hb dL_law_770 rfl (lv_at hl 0 rfl) ?_
  refine lv_iconst (v := 1) hx hb dL_law_771 (by decide) ?_
  refine lv_iadd hx hb dL_law_772 ?_
  refine lv_topi (fun x_1 ex_1 => ?_)
  obtain rfl : x_1 = 1 := ex_1.trans (by first | rfl | decide)
  refine va_sld hx hb hX hbl hbA hS (i_in (x := 1) rfl (by omega)) dL_law_773 ?_
  refine W.eq (g2 := F0 m 774 ls [.int (xs 1), .ref z0]) rfl ?_
  refine pci (va_runV (As := [.int (xs 1)]) (rest := []) ⟨hx, hb, hml, hown, hts⟩ (t_rings l D K z0 (xs 1) z1 (.ref z2) (.ref z3) (.ref z4) (.ref z5) (.ref z6) (.ref z7) (.ref z8) (.ref z9) (.ref z10) (.ref z11) (.ref z12) (.ref z13) (.int 0) (.int 0) (.int 0) (.int 0) (.ref z14) (.ref z15) (.ref z16) (.ref z17) (.int 0) (.int (-1)) (.int 0) (.int 0) (.int 0) H.size) (cwV 1 hts gL_X11_rings rfl rfl rfl (by decide +kernel) ⟨Nat.le_of_ble_eq_true rfl, Nat.le_of_ble_eq_true rfl⟩) (mkV hK hN (hP.sub [0, 1] rfl) (hD.sub [0, 1] (by decide) rfl) (ci := 11) (q0 := 0) rfl rfl) rfl rfl hl.1 rfl (lv_room (Nat.le_of_ble_eq_true rfl)) dL_law_774 ⟨Nat.le_of_ble_eq_true rfl, Nat.le_of_ble_eq_true rfl⟩) (fun r_2 hw => ?_)
  have hv_3 := hw
  refine lv_aload_n hx hb dL_law_777 rfl (lv_at hl 1 rfl) ?_
  refine lv_aload_n hx hb dL_law_778 rfl (lv_at hl 3 rfl) ?_
  refine lv_iload_n hx hb dL_law_779 rfl (lv_at hl 0 rfl) ?_
  refine lv_iconst (v := 1) hx hb dL_law_780 (by decide) ?_
  refine lv_iadd hx hb dL_law_781 ?_
  refine lv_topi (fun x_4 ex_4 => ?_)
  obtain rfl : x_4 = 1 := ex_4.trans (by first | rfl | decide)
  refine va_sld hx hb hX hbl hbA hS (i_in (x := 1) rfl (by omega)) dL_law_782 ?_
  refine W.eq (g2 := F0 m 783 ls [.int (xs 1), .ref z18, .int r_2]) rfl ?_
  refine kci (wr := [(z0, .inr (11, [.ref z1, .ref z2, .ref z3, .ref z4, .ref z5, .ref z6, .ref z7, .ref z8, .ref z9, .ref z10, .ref z11, .ref z12, .ref z13, .int 0, .int 0, .int 0, .int 0])), (z1, .inr (9, [.ref z14, .ref z15, .ref z16, .ref z17, .int 0, .int 0, .int (-1), .int 0, .int 0, .int 0]))]) (va_runV (As := [.int (xs 1)]) (rest := [.int r_2]) ⟨hx, hb, hml, hown, hts⟩ (r_rings l D K z18 (xs 1) (.int 0) (.int 0) (.ref z19) z20 (.ref z21) (.ref z22) (.ref z23) (.ref z24) (.int 0) (.ref z25) (.ref z26) (.int 0) (.ref z27) (.int 0) (.int 0) (.int 0) (.int 0) (.long 0) (.int (-1)) (.int 0) (.int 0) (.int 0) (.ref z28) (.int 0) (.ref z29) (.ref z30) (.int 0) (.ref z31) (.ref z32) (.int 0) (.int 0) (.ref z33) (.ref z34) (.ref z35) (.int 0) (.ref z36) (.ref z37) (.ref z38) (.int 0) (.long 0) (.long 0) (.ref z39) (.ref z40) (.ref z41) (.ref z42) (.ref z43) (.ref z44) (.ref z45) (.ref z46) (.ref z47) (.ref z48) (.ref z49) (.int 0) (.int 0) (.int (-1)) (.int 0) (.long 0) (.ref z50) (.int 0) (.int (-1)) H.size) (cwV 1 hts gL_X12_rings rfl rfl rfl (by decide +kernel) ⟨Nat.le_of_ble_eq_true rfl, Nat.le_of_ble_eq_true rfl⟩) (mkV hK hN (hP.sub [2, 3] rfl) (hD.sub [2, 3] (by decide) rfl) (ci := 12) (q0 := 0) rfl rfl) rfl rfl hl.1 rfl (lv_room (Nat.le_of_ble_eq_true rfl)) dL_law_783 ⟨Nat.le_of_ble_eq_true rfl, Nat.le_of_ble_eq_true rfl⟩) hP hD hS hA [2, 3] [0, 1] rfl rfl (by decide) (by decide) (fun r_5 u_6 H locs hw hP hD hS => ?_)
  have hP : va_P D vwCl [(z0, .inr (11, [.ref z1, .ref z2, .ref z3, .ref z4, .ref z5, .ref z6, .ref z7, .ref z8, .ref z9, .ref z10, .ref z11, .ref z12, .ref z13, .int 0, .int 0, .int 0, .int 0])), (z1, .inr (9, [.ref z14, .ref z15, .ref z16, .ref z17, .int 0, .int 0, .int (-1), .int 0, .int 0, .int 0]))] H := hP
  have hD : va_D A [(z0, .inr (11, [.ref z1, .ref z2, .ref z3, .ref z4, .ref z5, .ref z6, .ref z7, .ref z8, .ref z9, .ref z10, .ref z11, .ref z12, .ref z13, .int 0, .int 0, .int 0, .int 0])), (z1, .inr (9, [.ref z14, .ref z15, .ref z16, .ref z17, .int 0, .int 0, .int (-1), .int 0, .int 0, .int 0]))] := hD
  have hv_7 := hw
  have heq : r_2 = r_5 := by
    try dsimp only at hv_3 hv_7
    rcases hv_3 with rfl <;> rcases hv_7 with rfl <;> first | rfl | (exfalso; omega)
  refine lv_icmp_eq (tgt := 1111) hx hb dL_law_786 (by decide) (fun cq => ?_) (fun cq => absurd heq cq)
  refine lv_iinc (v := 6) (lv' := [(3, .int 6), (2, .ref z18), (1, .ref z0), (0, .ref b)]) hx hb dL_law_1111 hl (k := 0) rfl (by decide) (by decide) rfl (fun ls hl => ?_)
  refine lv_goto (tgt := 18) hx hb dL_law_1114 (by decide) ?_
  refine lv_iload_n hx hb dL_law_18 rfl (lv_at hl 0 rfl) ?_
  refine lv_aload_n hx hb dL_law_19 rfl (lv_at hl 3 rfl) ?_
  refine va_slen hx hb hX hbl hbA hS dL_law_20 ?_
  refine W.eq (g2 := F0 m 21 ls [.int 6, .int 6]) rfl ?_
  refine lv_bipush (v := 6) hx hb dL_law_21 (by decide) ?_
  refine lv_isub hx hb dL_law_23 ?_
  refine lv_topi (fun x_8 ex_8 => ?_)
  obtain rfl : x_8 = 0 := ex_8.trans (by first | rfl | decide)
  refine lv_icmp_gt (tgt := 1117) hx hb dL_law_24 (by decide) (fun cq => ?_) (fun cq => absurd (by decide) cq)
  refine lv_iconst (v := 1) hx hb dL_law_1117 (by decide) ?_
  refine va_forget (fun q hq => hA0 _ (hS.2.2 q hq)) ?_
  refine W.widen (k := 600000) (n := 7302250) (by decide) (by decide) ?_
  exact lw_ret hx hb hr hlocks dL_law_1118
set_option maxHeartbeats 4000000 in
set_option maxRecDepth 100000 in
theorem law_23 {p : Program} {e : Env} {s : State} {m : MethodId} {below : List Frame} {meth : Method} {c : Code} (l : Launch) {b : Nat} {xs : Nat → Int32} (C0 : lw_At p s m meth c b 6 xs) (D : va_G) (K : Nat → ClassId) (hK : va_K D vwCl (KT K) s) (hN : lw_N s) {A : Nat → Prop} (hA : ∀ q, s.heap.size ≤ q → A q) (hA0 : ∀ q, A q → s.heap.size ≤ q) (hbA : ¬ A b) (z0 z1 z2 z3 z4 z5 z6 z7 z8 z9 z10 z11 z12 z13 z14 z15 z16 z17 z18 z19 z20 z21 z22 z23 z24 z25 z26 z27 z28 z29 z30 z31 z32 z33 z34 z35 z36 z37 z38 z39 z40 z41 z42 z43 z44 z45 z46 z47 z48 z49 z50 z51 z52 z53 z54 z55 : Nat) (H : Heap) (locs : List Loc) (hP : va_P D vwCl [(z0, .inr (11, [.ref z1, .ref z2, .ref z3, .ref z4, .ref z5, .ref z6, .ref z7, .ref z8, .ref z9, .ref z10, .ref z11, .ref z12, .ref z13, .int 0, .int 0, .int 0, .int 0])), (z1, .inr (9, [.ref z14, .ref z15, .ref z16, .ref z17, .int 0, .int 0, .int (-1), .int 0, .int 0, .int 0])), (z12, .inr (4, [.ref z18, .ref z19, .ref z20, .ref z21, .ref z22])), (z20, .inl (K 0, 8, .inl (fun _ => 0))), (z21, .inl (K 0, 8, .inl (fun _ => 0))), (z23, .inr (12, [.int 0, .int 0, .ref z24, .ref z25, .ref z26, .ref z27, .ref z28, .ref z29, .int 0, .ref z30, .ref z31, .int 0, .ref z32, .int 0, .int 0, .int 0, .int 0, .long 0, .int (-1), .int 0, .int 0, .int 0, .ref z33, .int 0, .ref z34, .ref z35, .int 0, .ref z36, .ref z37, .int 0, .int 0, .ref z38, .ref z39, .ref z40, .int 0, .ref z41, .ref z42, .ref z43, .int 0, .long 0, .long 0, .ref z44, .ref z45, .ref z46, .ref z47, .ref z48, .ref z49, .ref z50, .ref z51, .ref z52, .ref z53, .ref z54, .int 0, .int 0, .int (-1), .int 0, .long 0, .ref z55, .int 0, .int (-1)])), (z25, .inl (K 0, 5500, .inl row0)), (z50, .inl (K 0, 1152, .inl (fun _ => 0)))] H) (hD : va_D A [(z0, .inr (11, [.ref z1, .ref z2, .ref z3, .ref z4, .ref z5, .ref z6, .ref z7, .ref z8, .ref z9, .ref z10, .ref z11, .ref z12, .ref z13, .int 0, .int 0, .int 0, .int 0])), (z1, .inr (9, [.ref z14, .ref z15, .ref z16, .ref z17, .int 0, .int 0, .int (-1), .int 0, .int 0, .int 0])), (z12, .inr (4, [.ref z18, .ref z19, .ref z20, .ref z21, .ref z22])), (z20, .inl (K 0, 8, .inl (fun _ => 0))), (z21, .inl (K 0, 8, .inl (fun _ => 0))), (z23, .inr (12, [.int 0, .int 0, .ref z24, .ref z25, .ref z26, .ref z27, .ref z28, .ref z29, .int 0, .ref z30, .ref z31, .int 0, .ref z32, .int 0, .int 0, .int 0, .int 0, .long 0, .int (-1), .int 0, .int 0, .int 0, .ref z33, .int 0, .ref z34, .ref z35, .int 0, .ref z36, .ref z37, .int 0, .int 0, .ref z38, .ref z39, .ref z40, .int 0, .ref z41, .ref z42, .ref z43, .int 0, .long 0, .long 0, .ref z44, .ref z45, .ref z46, .ref z47, .ref z48, .ref z49, .ref z50, .ref z51, .ref z52, .ref z53, .ref z54, .int 0, .int 0, .int (-1), .int 0, .long 0, .ref z55, .int 0, .int (-1)])), (z25, .inl (K 0, 5500, .inl row0)), (z50, .inl (K 0, 1152, .inl (fun _ => 0)))]) (hS : va_S A s.heap H locs) (ls : Array Slot) (hl : lv_has ls 4 [(3, .int 0), (2, .ref z23), (1, .ref z0), (0, .ref b)]) : W p l e room_1 s m #[Value.ref b] below meth c H locs 97 27561 (lw_Z below #[Value.ref b] s) (F0 m 791 ls []) := by
  obtain ⟨hx, hb, hr, hml, hown, hts, hX, hbl, hlocks, hgv⟩ := C0
  have hown : s.vm.findClass RL = some m.cls := hown
  refine lv_aload_n hx hb dL_law_791 rfl (lv_at hl 2 rfl) ?_
  refine lv_aload_n hx hb dL_law_792 rfl (lv_at hl 3 rfl) ?_
  refine lv_iload_n hx hb dL_law_793 rfl (lv_at hl 0 rfl) ?_
  refine lv_iconst (v := 1) hx hb dL_law_794 (by decide) ?_
  refine lv_iadd hx hb dL_law_795 ?_
  refine lv_topi (fun x_1 ex_1 => ?_)
  obtain rfl : x_1 = 1 := ex_1.trans (by first | rfl | decide)
  refine va_sld hx hb hX hbl hbA hS (i_in (x := 1) rfl (by omega)) dL_law_796 ?_
  refine W.eq (g2 := F0 m 797 ls [.int (xs 1), .ref z0]) rfl ?_
  refine lv_aload_n hx hb dL_law_797 rfl (lv_at hl 3 rfl) ?_
  refine lv_iload_n hx hb dL_law_798 rfl (lv_at hl 0 rfl) ?_
  refine lv_iconst (v := 2) hx hb dL_law_799 (by decide) ?_
  refine lv_iadd hx hb dL_law_800 ?_
  refine lv_topi (fun x_2 ex_2 => ?_)
  obtain rfl : x_2 = 2 := ex_2.trans (by first | rfl | decide)
  refine va_sld hx hb hX hbl hbA hS (i_in (x := 2) rfl (by omega)) dL_law_801 ?_
  refine W.eq (g2 := F0 m 802 ls [.int (xs 2), .int (xs 1), .ref z0]) rfl ?_
  refine kci (wr := [(z23, .inr (12, [.int 0, .int 0, .ref z24, .ref z25, .ref z26, .ref z27, .ref z28, .ref z29, .int 0, .ref z30, .ref z31, .int 0, .ref z32, .int 0, .int 0, .int 0, .int 0, .long 0, .int (-1), .int 0, .int 0, .int 0, .ref z33, .int 0, .ref z34, .ref z35, .int 0, .ref z36, .ref z37, .int 0, .int 0, .ref z38, .ref z39, .ref z40, .int 0, .ref z41, .ref z42, .ref z43, .int 0, .long 0, .long 0, .ref z44, .ref z45, .ref z46, .ref z47, .ref z48, .ref z49, .ref z50, .ref z51, .ref z52, .ref z53, .ref z54, .int 0, .int 0, .int (-1), .int 0, .long 0, .ref z55, .int 0, .int (-1)])), (z25, .inl (K 0, 5500, .inl row0)), (z50, .inl (K 0, 1152, .inl (fun _ => 0)))]) (va_runV (As := [.int (xs 1), .int (xs 2)]) (rest := []) ⟨hx, hb, hml, hown, hts⟩ (t_tune l D K z0 (xs 1) (xs 2) z1 (.ref z2) (.ref z3) (.ref z4) (.ref z5) (.ref z6) (.ref z7) (.ref z8) (.ref z9) (.ref z10) (.ref z11) z12 (.ref z13) (.int 0) (.int 0) (.int 0) (.int 0) (.ref z14) (.ref z15) (.ref z16) (.ref z17) (.int 0) (.int (-1)) (.int 0) (.int 0) (.int 0) (.ref z18) (.ref z19) z20 z21 (.ref z22) H.size) (cwV 2 hts gL_X11_tune rfl rfl rfl (by decide +kernel) ⟨Nat.le_of_ble_eq_true rfl, Nat.le_of_ble_eq_true rfl⟩) (mkV hK hN (hP.sub [0, 1, 2, 3, 4] rfl) (hD.sub [0, 1, 2, 3, 4] (by decide) rfl) (ci := 11) (q0 := 0) rfl rfl) rfl rfl hl.1 rfl (lv_room (Nat.le_of_ble_eq_true rfl)) dL_law_802 ⟨Nat.le_of_ble_eq_true rfl, Nat.le_of_ble_eq_true rfl⟩) hP hD hS hA [0, 1, 2, 3, 4] [5, 6, 7] rfl rfl (by decide) (by decide) (fun r_3 u_4 H locs hw hP hD hS => ?_)
  have hP : va_P D vwCl [(z23, .inr (12, [.int 0, .int 0, .ref z24, .ref z25, .ref z26, .ref z27, .ref z28, .ref z29, .int 0, .ref z30, .ref z31, .int 0, .ref z32, .int 0, .int 0, .int 0, .int 0, .long 0, .int (-1), .int 0, .int 0, .int 0, .ref z33, .int 0, .ref z34, .ref z35, .int 0, .ref z36, .ref z37, .int 0, .int 0, .ref z38, .ref z39, .ref z40, .int 0, .ref z41, .ref z42, .ref z43, .int 0, .long 0, .long 0, .ref z44, .ref z45, .ref z46, .ref z47, .ref z48, .ref z49, .ref z50, .ref z51, .ref z52, .ref z53, .ref z54, .int 0, .int 0, .int (-1), .int 0, .long 0, .ref z55, .int 0, .int (-1)])), (z25, .inl (K 0, 5500, .inl row0)), (z50, .inl (K 0, 1152, .inl (fun _ => 0)))] H := hP
  have hD : va_D A [(z23, .inr (12, [.int 0, .int 0, .ref z24, .ref z25, .ref z26, .ref z27, .ref z28, .ref z29, .int 0, .ref z30, .ref z31, .int 0, .ref z32, .int 0, .int 0, .int 0, .int 0, .long 0, .int (-1), .int 0, .int 0, .int 0, .ref z33, .int 0, .ref z34, .ref z35, .int 0, .ref z36, .ref z37, .int 0, .int 0, .ref z38, .ref z39, .ref z40, .int 0, .ref z41, .ref z42, .ref z43, .int 0, .long 0, .long 0, .ref z44, .ref z45, .ref z46, .ref z47, .ref z48, .ref z49, .ref z50, .ref z51, .ref z52, .ref z53, .ref z54, .int 0, .int 0, .int (-1), .int 0, .long 0, .ref z55, .int 0, .int (-1)])), (z25, .inl (K 0, 5500, .inl row0)), (z50, .inl (K 0, 1152, .inl (fun _ => 0)))] := hD
  have hv_5 := hw
  refine lv_aload_n hx hb dL_law_805 rfl (lv_at hl 1 rfl) ?_
  refine lv_aload_n hx hb dL_law_806 rfl (lv_at hl 3 rfl) ?_
  refine lv_iload_n hx hb dL_law_807 rfl (lv_at hl 0 rfl) ?_
  refine lv_iconst (v := 1) hx hb dL_law_808 (by decide) ?_
  refine lv_iadd hx hb dL_law_809 ?_
  refine lv_topi (fun x_6 ex_6 => ?_)
  obtain rfl : x_6 = 1 := ex_6.trans (by first | rfl | decide)
  refine va_sld hx hb hX hbl hbA hS (i_in (x := 1) rfl (by omega)) dL_law_810 ?_
  refine W.eq (g2 := F0 m 811 ls [.int (xs 1), .ref z23, .int r_3]) rfl ?_
  refine lv_aload_n hx hb dL_law_811 rfl (lv_at hl 3 rfl) ?_
  refine lv_iload_n hx hb dL_law_812 rfl (lv_at hl 0 rfl) ?_
  refine lv_iconst (v := 2) hx hb dL_law_813 (by decide) ?_
  refine lv_iadd hx hb dL_law_814 ?_
  refine lv_topi (fun x_7 ex_7 => ?_)
  obtain rfl : x_7 = 2 := ex_7.trans (by first | rfl | decide)
  refine va_sld hx hb hX hbl hbA hS (i_in (x := 2) rfl (by omega)) dL_law_815 ?_
  refine W.eq (g2 := F0 m 816 ls [.int (xs 2), .int (xs 1), .ref z23, .int r_3]) rfl ?_
  refine kci (wr := []) (va_runV (As := [.int (xs 1), .int (xs 2)]) (rest := [.int r_3]) ⟨hx, hb, hml, hown, hts⟩ (r_tune l D K z23 (xs 1) (xs 2) (.int 0) (.int 0) (.ref z24) z25 (.ref z26) (.ref z27) (.ref z28) (.ref z29) (.int 0) (.ref z30) (.ref z31) (.int 0) (.ref z32) (.int 0) (.int 0) (.int 0) (.int 0) (.long 0) (.int (-1)) (.int 0) (.int 0) (.int 0) (.ref z33) (.int 0) (.ref z34) (.ref z35) (.int 0) (.ref z36) (.ref z37) (.int 0) (.int 0) (.ref z38) (.ref z39) (.ref z40) (.int 0) (.ref z41) (.ref z42) (.ref z43) (.int 0) (.long 0) (.long 0) (.ref z44) (.ref z45) (.ref z46) (.ref z47) (.ref z48) (.ref z49) z50 (.ref z51) (.ref z52) (.ref z53) (.ref z54) (.int 0) (.int 0) (.int (-1)) (.int 0) (.long 0) (.ref z55) (.int 0) (.int (-1)) H.size) (cwV 2 hts gL_X12_tune rfl rfl rfl (by decide +kernel) ⟨Nat.le_of_ble_eq_true rfl, Nat.le_of_ble_eq_true rfl⟩) (mkV hK hN (hP.sub [0, 1, 2] rfl) (hD.sub [0, 1, 2] (by decide) rfl) (ci := 12) (q0 := 0) rfl rfl) rfl rfl hl.1 rfl (lv_room (Nat.le_of_ble_eq_true rfl)) dL_law_816 ⟨Nat.le_of_ble_eq_true rfl, Nat.le_of_ble_eq_true rfl⟩) hP hD hS hA [0, 1, 2] [] rfl rfl (by decide) (by decide) (fun r_8 u_9 H locs hw hP hD hS => ?_)
  have hP : va_P D vwCl [] H := hP
  have hD : va_D A [] := hD
  have hv_10 := hw
  have heq : r_3 = r_8 := by
    try dsimp only at hv_5 hv_10
    rcases hv_5 with ⟨rfl, k00, k01, k02⟩ | ⟨rfl, k10⟩ <;> rcases hv_10 with ⟨rfl, j00, j01, j02⟩ | ⟨rfl, j10⟩ <;> first | rfl | (exfalso; omega)
  refine lv_icmp_eq (tgt := 1111) hx hb dL_law_819 (by decide) (fun cq => ?_) (fun cq => absurd heq cq)
  refine lv_iinc (v := 6) (lv' := [(3, .int 6), (2, .ref z23), (1, .ref z0), (0, .ref b)]) hx hb dL_law_1111 hl (k := 0) rfl (by decide) (by decide) rfl (fun ls hl => ?_)
  refine lv_goto (tgt := 18) hx hb dL_law_1114 (by decide) ?_
  refine lv_iload_n hx hb dL_law_18 rfl (lv_at hl 0 rfl) ?_
  refine lv_aload_n hx hb dL_law_19 rfl (lv_at hl 3 rfl) ?_
  refine va_slen hx hb hX hbl hbA hS dL_law_20 ?_
  refine W.eq (g2 := F0 m 21 ls [.int 6, .int 6]) rfl ?_
  refine lv_bipush (v := 6) hx hb dL_law_21 (by decide) ?_
  refine lv_isub hx hb dL_law_23 ?_
  refine lv_topi (fun x_11 ex_11 => ?_)
  obtain rfl : x_11 = 0 := ex_11.trans (by first | rfl | decide)
  refine lv_icmp_gt (tgt := 1117) hx hb dL_law_24 (by decide) (fun cq => ?_) (fun cq => absurd (by decide) cq)
  refine lv_iconst (v := 1) hx hb dL_law_1117 (by decide) ?_
  refine va_forget (fun q hq => hA0 _ (hS.2.2 q hq)) ?_
  refine W.widen (k := 600000) (n := 7302250) (by decide) (by decide) ?_
  exact lw_ret hx hb hr hlocks dL_law_1118
set_option maxHeartbeats 4000000 in
set_option maxRecDepth 100000 in
theorem law_24 {p : Program} {e : Env} {s : State} {m : MethodId} {below : List Frame} {meth : Method} {c : Code} (l : Launch) {b : Nat} {xs : Nat → Int32} (C0 : lw_At p s m meth c b 6 xs) (D : va_G) (K : Nat → ClassId) (hK : va_K D vwCl (KT K) s) (hN : lw_N s) {A : Nat → Prop} (hA : ∀ q, s.heap.size ≤ q → A q) (hA0 : ∀ q, A q → s.heap.size ≤ q) (hbA : ¬ A b) (z0 z1 z2 z3 z4 z5 z6 z7 z8 z9 z10 z11 z12 z13 z14 z15 z16 z17 z18 z19 z20 z21 z22 z23 z24 z25 z26 z27 z28 z29 z30 z31 z32 z33 z34 z35 z36 z37 z38 z39 z40 z41 z42 z43 z44 z45 z46 z47 z48 z49 z50 : Nat) (H : Heap) (locs : List Loc) (hP : va_P D vwCl [(z0, .inr (11, [.ref z1, .ref z2, .ref z3, .ref z4, .ref z5, .ref z6, .ref z7, .ref z8, .ref z9, .ref z10, .ref z11, .ref z12, .ref z13, .int 0, .int 0, .int 0, .int 0])), (z1, .inr (9, [.ref z14, .ref z15, .ref z16, .ref z17, .int 0, .int 0, .int (-1), .int 0, .int 0, .int 0])), (z13, .inl (K 0, 5, .inl (fun _ => 0))), (z18, .inr (12, [.int 0, .int 0, .ref z19, .ref z20, .ref z21, .ref z22, .ref z23, .ref z24, .int 0, .ref z25, .ref z26, .int 0, .ref z27, .int 0, .int 0, .int 0, .int 0, .long 0, .int (-1), .int 0, .int 0, .int 0, .ref z28, .int 0, .ref z29, .ref z30, .int 0, .ref z31, .ref z32, .int 0, .int 0, .ref z33, .ref z34, .ref z35, .int 0, .ref z36, .ref z37, .ref z38, .int 0, .long 0, .long 0, .ref z39, .ref z40, .ref z41, .ref z42, .ref z43, .ref z44, .ref z45, .ref z46, .ref z47, .ref z48, .ref z49, .int 0, .int 0, .int (-1), .int 0, .long 0, .ref z50, .int 0, .int (-1)])), (z19, .inl (K 0, 7, .inl (fun _ => 0))), (z20, .inl (K 0, 5500, .inl row0))] H) (hD : va_D A [(z0, .inr (11, [.ref z1, .ref z2, .ref z3, .ref z4, .ref z5, .ref z6, .ref z7, .ref z8, .ref z9, .ref z10, .ref z11, .ref z12, .ref z13, .int 0, .int 0, .int 0, .int 0])), (z1, .inr (9, [.ref z14, .ref z15, .ref z16, .ref z17, .int 0, .int 0, .int (-1), .int 0, .int 0, .int 0])), (z13, .inl (K 0, 5, .inl (fun _ => 0))), (z18, .inr (12, [.int 0, .int 0, .ref z19, .ref z20, .ref z21, .ref z22, .ref z23, .ref z24, .int 0, .ref z25, .ref z26, .int 0, .ref z27, .int 0, .int 0, .int 0, .int 0, .long 0, .int (-1), .int 0, .int 0, .int 0, .ref z28, .int 0, .ref z29, .ref z30, .int 0, .ref z31, .ref z32, .int 0, .int 0, .ref z33, .ref z34, .ref z35, .int 0, .ref z36, .ref z37, .ref z38, .int 0, .long 0, .long 0, .ref z39, .ref z40, .ref z41, .ref z42, .ref z43, .ref z44, .ref z45, .ref z46, .ref z47, .ref z48, .ref z49, .int 0, .int 0, .int (-1), .int 0, .long 0, .ref z50, .int 0, .int (-1)])), (z19, .inl (K 0, 7, .inl (fun _ => 0))), (z20, .inl (K 0, 5500, .inl row0))]) (hS : va_S A s.heap H locs) (ls : Array Slot) (hl : lv_has ls 4 [(3, .int 0), (2, .ref z18), (1, .ref z0), (0, .ref b)]) : W p l e room_1 s m #[Value.ref b] below meth c H locs 97 27561 (lw_Z below #[Value.ref b] s) (F0 m 824 ls []) := by
  obtain ⟨hx, hb, hr, hml, hown, hts, hX, hbl, hlocks, hgv⟩ := C0
  have hown : s.vm.findClass RL = some m.cls := hown
  refine lv_aload_n hx hb dL_law_824 rfl (lv_at hl 2 rfl) ?_
  refine lv_aload_n hx hb dL_law_825 rfl (lv_at hl 3 rfl) ?_
  refine lv_iload_n hx hb dL_law_826 rfl (lv_at hl 0 rfl) ?_
  refine lv_iconst (v := 1) hx hb dL_law_827 (by decide) ?_
  refine lv_iadd hx hb dL_law_828 ?_
  refine lv_topi (fun x_1 ex_1 => ?_)
  obtain rfl : x_1 = 1 := ex_1.trans (by first | rfl | decide)
  refine va_sld hx hb hX hbl hbA hS (i_in (x := 1) rfl (by omega)) dL_law_829 ?_
  refine W.eq (g2 := F0 m 830 ls [.int (xs 1), .ref z0]) rfl ?_
  refine kci (wr := [(z18, .inr (12, [.int 0, .int 0, .ref z19, .ref z20, .ref z21, .ref z22, .ref z23, .ref z24, .int 0, .ref z25, .ref z26, .int 0, .ref z27, .int 0, .int 0, .int 0, .int 0, .long 0, .int (-1), .int 0, .int 0, .int 0, .ref z28, .int 0, .ref z29, .ref z30, .int 0, .ref z31, .ref z32, .int 0, .int 0, .ref z33, .ref z34, .ref z35, .int 0, .ref z36, .ref z37, .ref z38, .int 0, .long 0, .long 0, .ref z39, .ref z40, .ref z41, .ref z42, .ref z43, .ref z44, .ref z45, .ref z46, .ref z47, .ref z48, .ref z49, .int 0, .int 0, .int (-1), .int 0, .long 0, .ref z50, .int 0, .int (-1)])), (z19, .inl (K 0, 7, .inl (fun _ => 0))), (z20, .inl (K 0, 5500, .inl row0))]) (va_runV (As := [.int (xs 1)]) (rest := []) ⟨hx, hb, hml, hown, hts⟩ (t_hear l D K z0 (xs 1) z1 (.ref z2) (.ref z3) (.ref z4) (.ref z5) (.ref z6) (.ref z7) (.ref z8) (.ref z9) (.ref z10) (.ref z11) (.ref z12) z13 (.int 0) (.int 0) (.int 0) (.int 0) (fun _ => 0) (.ref z14) (.ref z15) (.ref z16) (.ref z17) (.int 0) (.int 0) (.int (-1)) (.int 0) H.size) (cwV 1 hts gL_X11_hear rfl rfl rfl (by decide +kernel) ⟨Nat.le_of_ble_eq_true rfl, Nat.le_of_ble_eq_true rfl⟩) (mkV hK hN (hP.sub [0, 2, 1] rfl) (hD.sub [0, 2, 1] (by decide) rfl) (ci := 11) (q0 := 0) rfl rfl) rfl rfl hl.1 rfl (lv_room (Nat.le_of_ble_eq_true rfl)) dL_law_830 ⟨Nat.le_of_ble_eq_true rfl, Nat.le_of_ble_eq_true rfl⟩) hP hD hS hA [0, 2, 1] [3, 4, 5] rfl rfl (by decide) (by decide) (fun r_2 u_3 H locs hw hP hD hS => ?_)
  have hP : va_P D vwCl [(z18, .inr (12, [.int 0, .int 0, .ref z19, .ref z20, .ref z21, .ref z22, .ref z23, .ref z24, .int 0, .ref z25, .ref z26, .int 0, .ref z27, .int 0, .int 0, .int 0, .int 0, .long 0, .int (-1), .int 0, .int 0, .int 0, .ref z28, .int 0, .ref z29, .ref z30, .int 0, .ref z31, .ref z32, .int 0, .int 0, .ref z33, .ref z34, .ref z35, .int 0, .ref z36, .ref z37, .ref z38, .int 0, .long 0, .long 0, .ref z39, .ref z40, .ref z41, .ref z42, .ref z43, .ref z44, .ref z45, .ref z46, .ref z47, .ref z48, .ref z49, .int 0, .int 0, .int (-1), .int 0, .long 0, .ref z50, .int 0, .int (-1)])), (z19, .inl (K 0, 7, .inl (fun _ => 0))), (z20, .inl (K 0, 5500, .inl row0))] H := hP
  have hD : va_D A [(z18, .inr (12, [.int 0, .int 0, .ref z19, .ref z20, .ref z21, .ref z22, .ref z23, .ref z24, .int 0, .ref z25, .ref z26, .int 0, .ref z27, .int 0, .int 0, .int 0, .int 0, .long 0, .int (-1), .int 0, .int 0, .int 0, .ref z28, .int 0, .ref z29, .ref z30, .int 0, .ref z31, .ref z32, .int 0, .int 0, .ref z33, .ref z34, .ref z35, .int 0, .ref z36, .ref z37, .ref z38, .int 0, .long 0, .long 0, .ref z39, .ref z40, .ref z41, .ref z42, .ref z43, .ref z44, .ref z45, .ref z46, .ref z47, .ref z48, .ref z49, .int 0, .int 0, .int (-1), .int 0, .long 0, .ref z50, .int 0, .int (-1)])), (z19, .inl (K 0, 7, .inl (fun _ => 0))), (z20, .inl (K 0, 5500, .inl row0))] := hD
  have hv_4 := hw
  refine lv_aload_n hx hb dL_law_833 rfl (lv_at hl 1 rfl) ?_
  refine lv_aload_n hx hb dL_law_834 rfl (lv_at hl 3 rfl) ?_
  refine lv_iload_n hx hb dL_law_835 rfl (lv_at hl 0 rfl) ?_
  refine lv_iconst (v := 1) hx hb dL_law_836 (by decide) ?_
  refine lv_iadd hx hb dL_law_837 ?_
  refine lv_topi (fun x_5 ex_5 => ?_)
  obtain rfl : x_5 = 1 := ex_5.trans (by first | rfl | decide)
  refine va_sld hx hb hX hbl hbA hS (i_in (x := 1) rfl (by omega)) dL_law_838 ?_
  refine W.eq (g2 := F0 m 839 ls [.int (xs 1), .ref z18, .int r_2]) rfl ?_
  refine kci (wr := []) (va_runV (As := [.int (xs 1)]) (rest := [.int r_2]) ⟨hx, hb, hml, hown, hts⟩ (r_hear l D K z18 (xs 1) (.int 0) (.int 0) z19 z20 (.ref z21) (.ref z22) (.ref z23) (.ref z24) (.int 0) (.ref z25) (.ref z26) (.int 0) (.ref z27) (.int 0) (.int 0) (.int 0) (.int 0) (.long 0) (.int (-1)) (.int 0) (.int 0) (.int 0) (.ref z28) (.int 0) (.ref z29) (.ref z30) (.int 0) (.ref z31) (.ref z32) (.int 0) (.int 0) (.ref z33) (.ref z34) (.ref z35) (.int 0) (.ref z36) (.ref z37) (.ref z38) (.int 0) (.long 0) (.long 0) (.ref z39) (.ref z40) (.ref z41) (.ref z42) (.ref z43) (.ref z44) (.ref z45) (.ref z46) (.ref z47) (.ref z48) (.ref z49) (.int 0) (.int 0) (.int (-1)) (.int 0) (.long 0) (.ref z50) (.int 0) (.int (-1)) H.size) (cwV 1 hts gL_X12_hear rfl rfl rfl (by decide +kernel) ⟨Nat.le_of_ble_eq_true rfl, Nat.le_of_ble_eq_true rfl⟩) (mkV hK hN (hP.sub [0, 2, 1] rfl) (hD.sub [0, 2, 1] (by decide) rfl) (ci := 12) (q0 := 0) rfl rfl) rfl rfl hl.1 rfl (lv_room (Nat.le_of_ble_eq_true rfl)) dL_law_839 ⟨Nat.le_of_ble_eq_true rfl, Nat.le_of_ble_eq_true rfl⟩) hP hD hS hA [0, 2, 1] [] rfl rfl (by decide) (by decide) (fun r_6 u_7 H locs hw hP hD hS => ?_)
  have hP : va_P D vwCl [] H := hP
  have hD : va_D A [] := hD
  have hv_8 := hw
  have heq : r_2 = r_6 := by
    try dsimp only at hv_4 hv_8
    rcases hv_4 with ⟨rfl, k00, k01⟩ | ⟨rfl, k10⟩ <;> rcases hv_8 with ⟨rfl, j00, j01⟩ | ⟨rfl, j10⟩ <;> first | rfl | (exfalso; omega)
  refine lv_icmp_eq (tgt := 1111) hx hb dL_law_842 (by decide) (fun cq => ?_) (fun cq => absurd heq cq)
  refine lv_iinc (v := 6) (lv' := [(3, .int 6), (2, .ref z18), (1, .ref z0), (0, .ref b)]) hx hb dL_law_1111 hl (k := 0) rfl (by decide) (by decide) rfl (fun ls hl => ?_)
  refine lv_goto (tgt := 18) hx hb dL_law_1114 (by decide) ?_
  refine lv_iload_n hx hb dL_law_18 rfl (lv_at hl 0 rfl) ?_
  refine lv_aload_n hx hb dL_law_19 rfl (lv_at hl 3 rfl) ?_
  refine va_slen hx hb hX hbl hbA hS dL_law_20 ?_
  refine W.eq (g2 := F0 m 21 ls [.int 6, .int 6]) rfl ?_
  refine lv_bipush (v := 6) hx hb dL_law_21 (by decide) ?_
  refine lv_isub hx hb dL_law_23 ?_
  refine lv_topi (fun x_9 ex_9 => ?_)
  obtain rfl : x_9 = 0 := ex_9.trans (by first | rfl | decide)
  refine lv_icmp_gt (tgt := 1117) hx hb dL_law_24 (by decide) (fun cq => ?_) (fun cq => absurd (by decide) cq)
  refine lv_iconst (v := 1) hx hb dL_law_1117 (by decide) ?_
  refine va_forget (fun q hq => hA0 _ (hS.2.2 q hq)) ?_
  refine W.widen (k := 600000) (n := 7302250) (by decide) (by decide) ?_
  exact lw_ret hx hb hr hlocks dL_law_1118
