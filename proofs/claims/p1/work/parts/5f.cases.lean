set_option maxHeartbeats 4000000 in
set_option maxRecDepth 100000 in
theorem law_25 {p : Program} {e : Env} {s : State} {m : MethodId} {below : List Frame} {meth : Method} {c : Code} (l : Launch) {b : Nat} {xs : Nat → Int32} (C0 : lw_At p s m meth c b 6 xs) (D : va_G) (K : Nat → ClassId) (hK : va_K D vwCl (KT K) s) (hN : lw_N s) {A : Nat → Prop} (hA : ∀ q, s.heap.size ≤ q → A q) (hA0 : ∀ q, A q → s.heap.size ≤ q) (hbA : ¬ A b) (z0 z1 z2 z3 z4 z5 z6 z7 z8 z9 z10 z11 z12 z13 z14 z15 z16 z17 z18 z19 z20 z21 z22 z23 z24 z25 z26 z27 z28 z29 z30 z31 z32 z33 z34 z35 z36 z37 z38 z39 z40 z41 z42 z43 z44 z45 z46 z47 z48 z49 z50 : Nat) (H : Heap) (locs : List Loc) (hP : va_P D vwCl [(z0, .inr (11, [.ref z1, .ref z2, .ref z3, .ref z4, .ref z5, .ref z6, .ref z7, .ref z8, .ref z9, .ref z10, .ref z11, .ref z12, .ref z13, .int 0, .int 0, .int 0, .int 0])), (z1, .inr (9, [.ref z14, .ref z15, .ref z16, .ref z17, .int 0, .int 0, .int (-1), .int 0, .int 0, .int 0])), (z18, .inr (12, [.int 0, .int 0, .ref z19, .ref z20, .ref z21, .ref z22, .ref z23, .ref z24, .int 0, .ref z25, .ref z26, .int 0, .ref z27, .int 0, .int 0, .int 0, .int 0, .long 0, .int (-1), .int 0, .int 0, .int 0, .ref z28, .int 0, .ref z29, .ref z30, .int 0, .ref z31, .ref z32, .int 0, .int 0, .ref z33, .ref z34, .ref z35, .int 0, .ref z36, .ref z37, .ref z38, .int 0, .long 0, .long 0, .ref z39, .ref z40, .ref z41, .ref z42, .ref z43, .ref z44, .ref z45, .ref z46, .ref z47, .ref z48, .ref z49, .int 0, .int 0, .int (-1), .int 0, .long 0, .ref z50, .int 0, .int (-1)])), (z19, .inl (K 0, 7, .inl (fun _ => 0))), (z20, .inl (K 0, 5500, .inl row0))] H) (hD : va_D A [(z0, .inr (11, [.ref z1, .ref z2, .ref z3, .ref z4, .ref z5, .ref z6, .ref z7, .ref z8, .ref z9, .ref z10, .ref z11, .ref z12, .ref z13, .int 0, .int 0, .int 0, .int 0])), (z1, .inr (9, [.ref z14, .ref z15, .ref z16, .ref z17, .int 0, .int 0, .int (-1), .int 0, .int 0, .int 0])), (z18, .inr (12, [.int 0, .int 0, .ref z19, .ref z20, .ref z21, .ref z22, .ref z23, .ref z24, .int 0, .ref z25, .ref z26, .int 0, .ref z27, .int 0, .int 0, .int 0, .int 0, .long 0, .int (-1), .int 0, .int 0, .int 0, .ref z28, .int 0, .ref z29, .ref z30, .int 0, .ref z31, .ref z32, .int 0, .int 0, .ref z33, .ref z34, .ref z35, .int 0, .ref z36, .ref z37, .ref z38, .int 0, .long 0, .long 0, .ref z39, .ref z40, .ref z41, .ref z42, .ref z43, .ref z44, .ref z45, .ref z46, .ref z47, .ref z48, .ref z49, .int 0, .int 0, .int (-1), .int 0, .long 0, .ref z50, .int 0, .int (-1)])), (z19, .inl (K 0, 7, .inl (fun _ => 0))), (z20, .inl (K 0, 5500, .inl row0))]) (hS : va_S A s.heap H locs) (ls : Array Slot) (hl : lv_has ls 4 [(3, .int 0), (2, .ref z18), (1, .ref z0), (0, .ref b)]) : W p l e room_1 s m #[Value.ref b] below meth c H locs 97 27561 (lw_Z below #[Value.ref b] s) (F0 m 847 ls []) := by
  obtain ⟨hx, hb, hr, hml, hown, hts, hX, hbl, hlocks, hgv⟩ := C0
  have hown : s.vm.findClass RL = some m.cls := hown
  refine lv_aload_n hx hb dL_law_847 rfl (lv_at hl 2 rfl) ?_
  refine kci (wr := [(z18, .inr (12, [.int 0, .int 0, .ref z19, .ref z20, .ref z21, .ref z22, .ref z23, .ref z24, .int 0, .ref z25, .ref z26, .int 0, .ref z27, .int 0, .int 0, .int 0, .int 0, .long 0, .int (-1), .int 0, .int 0, .int 0, .ref z28, .int 0, .ref z29, .ref z30, .int 0, .ref z31, .ref z32, .int 0, .int 0, .ref z33, .ref z34, .ref z35, .int 0, .ref z36, .ref z37, .ref z38, .int 0, .long 0, .long 0, .ref z39, .ref z40, .ref z41, .ref z42, .ref z43, .ref z44, .ref z45, .ref z46, .ref z47, .ref z48, .ref z49, .int 0, .int 0, .int (-1), .int 0, .long 0, .ref z50, .int 0, .int (-1)])), (z19, .inl (K 0, 7, .inl (fun _ => 0))), (z20, .inl (K 0, 5500, .inl row0))]) (va_runV (As := []) (rest := []) ⟨hx, hb, hml, hown, hts⟩ (t_forget l D K z0 z1 (.ref z2) (.ref z3) (.ref z4) (.ref z5) (.ref z6) (.ref z7) (.ref z8) (.ref z9) (.ref z10) (.ref z11) (.ref z12) (.ref z13) (.int 0) (.int 0) (.int 0) (.int 0) (.ref z14) (.ref z15) (.ref z16) (.ref z17) (.int 0) (.int 0) (.int (-1)) (.int 0) (.int 0) H.size) (cwV 0 hts gL_X11_forget rfl rfl rfl (by decide +kernel) ⟨Nat.le_of_ble_eq_true rfl, Nat.le_of_ble_eq_true rfl⟩) (mkV hK hN (hP.sub [0, 1] rfl) (hD.sub [0, 1] (by decide) rfl) (ci := 11) (q0 := 0) rfl rfl) rfl rfl hl.1 rfl (lv_room (Nat.le_of_ble_eq_true rfl)) dL_law_848 ⟨Nat.le_of_ble_eq_true rfl, Nat.le_of_ble_eq_true rfl⟩) hP hD hS hA [0, 1] [2, 3, 4] rfl rfl (by decide) (by decide) (fun r_1 u_2 H locs hw hP hD hS => ?_)
  have hP : va_P D vwCl [(z18, .inr (12, [.int 0, .int 0, .ref z19, .ref z20, .ref z21, .ref z22, .ref z23, .ref z24, .int 0, .ref z25, .ref z26, .int 0, .ref z27, .int 0, .int 0, .int 0, .int 0, .long 0, .int (-1), .int 0, .int 0, .int 0, .ref z28, .int 0, .ref z29, .ref z30, .int 0, .ref z31, .ref z32, .int 0, .int 0, .ref z33, .ref z34, .ref z35, .int 0, .ref z36, .ref z37, .ref z38, .int 0, .long 0, .long 0, .ref z39, .ref z40, .ref z41, .ref z42, .ref z43, .ref z44, .ref z45, .ref z46, .ref z47, .ref z48, .ref z49, .int 0, .int 0, .int (-1), .int 0, .long 0, .ref z50, .int 0, .int (-1)])), (z19, .inl (K 0, 7, .inl (fun _ => 0))), (z20, .inl (K 0, 5500, .inl row0))] H := hP
  have hD : va_D A [(z18, .inr (12, [.int 0, .int 0, .ref z19, .ref z20, .ref z21, .ref z22, .ref z23, .ref z24, .int 0, .ref z25, .ref z26, .int 0, .ref z27, .int 0, .int 0, .int 0, .int 0, .long 0, .int (-1), .int 0, .int 0, .int 0, .ref z28, .int 0, .ref z29, .ref z30, .int 0, .ref z31, .ref z32, .int 0, .int 0, .ref z33, .ref z34, .ref z35, .int 0, .ref z36, .ref z37, .ref z38, .int 0, .long 0, .long 0, .ref z39, .ref z40, .ref z41, .ref z42, .ref z43, .ref z44, .ref z45, .ref z46, .ref z47, .ref z48, .ref z49, .int 0, .int 0, .int (-1), .int 0, .long 0, .ref z50, .int 0, .int (-1)])), (z19, .inl (K 0, 7, .inl (fun _ => 0))), (z20, .inl (K 0, 5500, .inl row0))] := hD
  have hv_3 := hw
  refine lv_aload_n hx hb dL_law_851 rfl (lv_at hl 1 rfl) ?_
  refine kci (wr := []) (va_runV (As := []) (rest := [.int r_1]) ⟨hx, hb, hml, hown, hts⟩ (r_forget l D K z18 (.int 0) (.int 0) z19 z20 (.ref z21) (.ref z22) (.ref z23) (.ref z24) (.int 0) (.ref z25) (.ref z26) (.int 0) (.ref z27) (.int 0) (.int 0) (.int 0) (.int 0) (.long 0) (.int (-1)) (.int 0) (.int 0) (.int 0) (.ref z28) (.int 0) (.ref z29) (.ref z30) (.int 0) (.ref z31) (.ref z32) (.int 0) (.int 0) (.ref z33) (.ref z34) (.ref z35) (.int 0) (.ref z36) (.ref z37) (.ref z38) (.int 0) (.long 0) (.long 0) (.ref z39) (.ref z40) (.ref z41) (.ref z42) (.ref z43) (.ref z44) (.ref z45) (.ref z46) (.ref z47) (.ref z48) (.ref z49) (.int 0) (.int 0) (.int (-1)) (.int 0) (.long 0) (.ref z50) (.int 0) (.int (-1)) H.size) (cwV 0 hts gL_X12_forget rfl rfl rfl (by decide +kernel) ⟨Nat.le_of_ble_eq_true rfl, Nat.le_of_ble_eq_true rfl⟩) (mkV hK hN (hP.sub [0, 2, 1] rfl) (hD.sub [0, 2, 1] (by decide) rfl) (ci := 12) (q0 := 0) rfl rfl) rfl rfl hl.1 rfl (lv_room (Nat.le_of_ble_eq_true rfl)) dL_law_852 ⟨Nat.le_of_ble_eq_true rfl, Nat.le_of_ble_eq_true rfl⟩) hP hD hS hA [0, 2, 1] [] rfl rfl (by decide) (by decide) (fun r_4 u_5 H locs hw hP hD hS => ?_)
  have hP : va_P D vwCl [] H := hP
  have hD : va_D A [] := hD
  have hv_6 := hw
  have heq : r_1 = r_4 := by
    try dsimp only at hv_3 hv_6
    rcases hv_3 with rfl <;> rcases hv_6 with rfl <;> first | rfl | (exfalso; omega)
  refine lv_icmp_eq (tgt := 1111) hx hb dL_law_855 (by decide) (fun cq => ?_) (fun cq => absurd heq cq)
  refine lv_iinc (v := 6) (lv' := [(3, .int 6), (2, .ref z18), (1, .ref z0), (0, .ref b)]) hx hb dL_law_1111 hl (k := 0) rfl (by decide) (by decide) rfl (fun ls hl => ?_)
  refine lv_goto (tgt := 18) hx hb dL_law_1114 (by decide) ?_
  refine lv_iload_n hx hb dL_law_18 rfl (lv_at hl 0 rfl) ?_
  refine lv_aload_n hx hb dL_law_19 rfl (lv_at hl 3 rfl) ?_
  refine va_slen hx hb hX hbl hbA hS dL_law_20 ?_
  refine W.eq (g2 := F0 m 21 ls [.int 6, .int 6]) rfl ?_
  refine lv_bipush (v := 6) hx hb dL_law_21 (by decide) ?_
  refine lv_isub hx hb dL_law_23 ?_
  refine lv_topi (fun x_7 ex_7 => ?_)
  obtain rfl : x_7 = 0 := ex_7.trans (by first | rfl | decide)
  refine lv_icmp_gt (tgt := 1117) hx hb dL_law_24 (by decide) (fun cq => ?_) (fun cq => absurd (by decide) cq)
  refine lv_iconst (v := 1) hx hb dL_law_1117 (by decide) ?_
  refine va_forget (fun q hq => hA0 _ (hS.2.2 q hq)) ?_
  refine W.widen (k := 600000) (n := 7302250) (by decide) (by decide) ?_
  exact lw_ret hx hb hr hlocks dL_law_1118
set_option maxHeartbeats 4000000 in
set_option maxRecDepth 100000 in
theorem law_26 {p : Program} {e : Env} {s : State} {m : MethodId} {below : List Frame} {meth : Method} {c : Code} (l : Launch) {b : Nat} {xs : Nat → Int32} (C0 : lw_At p s m meth c b 6 xs) (D : va_G) (K : Nat → ClassId) (hK : va_K D vwCl (KT K) s) (hN : lw_N s) {A : Nat → Prop} (hA : ∀ q, s.heap.size ≤ q → A q) (hA0 : ∀ q, A q → s.heap.size ≤ q) (hbA : ¬ A b) (z0 z1 z2 z3 z4 z5 z6 z7 z8 z9 z10 z11 z12 z13 z14 z15 z16 z17 z18 z19 z20 z21 z22 z23 z24 z25 z26 z27 z28 z29 z30 z31 z32 z33 z34 z35 z36 z37 z38 z39 z40 z41 z42 z43 z44 z45 z46 z47 z48 z49 z50 z51 z52 z53 z54 z55 : Nat) (H : Heap) (locs : List Loc) (hP : va_P D vwCl [(z0, .inr (11, [.ref z1, .ref z2, .ref z3, .ref z4, .ref z5, .ref z6, .ref z7, .ref z8, .ref z9, .ref z10, .ref z11, .ref z12, .ref z13, .int 0, .int 0, .int 0, .int 0])), (z1, .inr (9, [.ref z14, .ref z15, .ref z16, .ref z17, .int 0, .int 0, .int (-1), .int 0, .int 0, .int 0])), (z12, .inr (4, [.ref z18, .ref z19, .ref z20, .ref z21, .ref z22])), (z22, .inl (K 0, 256, .inl (fun _ => 0))), (z23, .inr (12, [.int 0, .int 0, .ref z24, .ref z25, .ref z26, .ref z27, .ref z28, .ref z29, .int 0, .ref z30, .ref z31, .int 0, .ref z32, .int 0, .int 0, .int 0, .int 0, .long 0, .int (-1), .int 0, .int 0, .int 0, .ref z33, .int 0, .ref z34, .ref z35, .int 0, .ref z36, .ref z37, .int 0, .int 0, .ref z38, .ref z39, .ref z40, .int 0, .ref z41, .ref z42, .ref z43, .int 0, .long 0, .long 0, .ref z44, .ref z45, .ref z46, .ref z47, .ref z48, .ref z49, .ref z50, .ref z51, .ref z52, .ref z53, .ref z54, .int 0, .int 0, .int (-1), .int 0, .long 0, .ref z55, .int 0, .int (-1)])), (z25, .inl (K 0, 5500, .inl row0))] H) (hD : va_D A [(z0, .inr (11, [.ref z1, .ref z2, .ref z3, .ref z4, .ref z5, .ref z6, .ref z7, .ref z8, .ref z9, .ref z10, .ref z11, .ref z12, .ref z13, .int 0, .int 0, .int 0, .int 0])), (z1, .inr (9, [.ref z14, .ref z15, .ref z16, .ref z17, .int 0, .int 0, .int (-1), .int 0, .int 0, .int 0])), (z12, .inr (4, [.ref z18, .ref z19, .ref z20, .ref z21, .ref z22])), (z22, .inl (K 0, 256, .inl (fun _ => 0))), (z23, .inr (12, [.int 0, .int 0, .ref z24, .ref z25, .ref z26, .ref z27, .ref z28, .ref z29, .int 0, .ref z30, .ref z31, .int 0, .ref z32, .int 0, .int 0, .int 0, .int 0, .long 0, .int (-1), .int 0, .int 0, .int 0, .ref z33, .int 0, .ref z34, .ref z35, .int 0, .ref z36, .ref z37, .int 0, .int 0, .ref z38, .ref z39, .ref z40, .int 0, .ref z41, .ref z42, .ref z43, .int 0, .long 0, .long 0, .ref z44, .ref z45, .ref z46, .ref z47, .ref z48, .ref z49, .ref z50, .ref z51, .ref z52, .ref z53, .ref z54, .int 0, .int 0, .int (-1), .int 0, .long 0, .ref z55, .int 0, .int (-1)])), (z25, .inl (K 0, 5500, .inl row0))]) (hS : va_S A s.heap H locs) (ls : Array Slot) (hl : lv_has ls 4 [(3, .int 0), (2, .ref z23), (1, .ref z0), (0, .ref b)]) : W p l e room_1 s m #[Value.ref b] below meth c H locs 97 27561 (lw_Z below #[Value.ref b] s) (F0 m 860 ls []) := by
  obtain ⟨hx, hb, hr, hml, hown, hts, hX, hbl, hlocks, hgv⟩ := C0
  have hown : s.vm.findClass RL = some m.cls := hown
  refine lv_aload_n hx hb dL_law_860 rfl (lv_at hl 2 rfl) ?_
  refine lv_aload_n hx hb dL_law_861 rfl (lv_at hl 3 rfl) ?_
  refine lv_iload_n hx hb dL_law_862 rfl (lv_at hl 0 rfl) ?_
  refine lv_iconst (v := 1) hx hb dL_law_863 (by decide) ?_
  refine lv_iadd hx hb dL_law_864 ?_
  refine lv_topi (fun x_1 ex_1 => ?_)
  obtain rfl : x_1 = 1 := ex_1.trans (by first | rfl | decide)
  refine va_sld hx hb hX hbl hbA hS (i_in (x := 1) rfl (by omega)) dL_law_865 ?_
  refine W.eq (g2 := F0 m 866 ls [.int (xs 1), .ref z0]) rfl ?_
  refine pci (va_runV (As := [.int (xs 1)]) (rest := []) ⟨hx, hb, hml, hown, hts⟩ (t_hill l D K z0 (xs 1) z1 (.ref z2) (.ref z3) (.ref z4) (.ref z5) (.ref z6) (.ref z7) (.ref z8) (.ref z9) (.ref z10) (.ref z11) z12 (.ref z13) (.int 0) (.int 0) (.int 0) (.int 0) (.ref z18) (.ref z19) (.ref z20) (.ref z21) z22 (.ref z14) (.ref z15) (.ref z16) (.ref z17) (.int 0) (.int (-1)) (.int 0) (.int 0) H.size) (cwV 1 hts gL_X11_hill rfl rfl rfl (by decide +kernel) ⟨Nat.le_of_ble_eq_true rfl, Nat.le_of_ble_eq_true rfl⟩) (mkV hK hN (hP.sub [0, 2, 1, 3] rfl) (hD.sub [0, 2, 1, 3] (by decide) rfl) (ci := 11) (q0 := 0) rfl rfl) rfl rfl hl.1 rfl (lv_room (Nat.le_of_ble_eq_true rfl)) dL_law_866 ⟨Nat.le_of_ble_eq_true rfl, Nat.le_of_ble_eq_true rfl⟩) (fun r_2 hw => ?_)
  have hv_3 := hw
  refine lv_aload_n hx hb dL_law_869 rfl (lv_at hl 1 rfl) ?_
  refine lv_aload_n hx hb dL_law_870 rfl (lv_at hl 3 rfl) ?_
  refine lv_iload_n hx hb dL_law_871 rfl (lv_at hl 0 rfl) ?_
  refine lv_iconst (v := 1) hx hb dL_law_872 (by decide) ?_
  refine lv_iadd hx hb dL_law_873 ?_
  refine lv_topi (fun x_4 ex_4 => ?_)
  obtain rfl : x_4 = 1 := ex_4.trans (by first | rfl | decide)
  refine va_sld hx hb hX hbl hbA hS (i_in (x := 1) rfl (by omega)) dL_law_874 ?_
  refine W.eq (g2 := F0 m 875 ls [.int (xs 1), .ref z23, .int r_2]) rfl ?_
  refine kci (wr := [(z0, .inr (11, [.ref z1, .ref z2, .ref z3, .ref z4, .ref z5, .ref z6, .ref z7, .ref z8, .ref z9, .ref z10, .ref z11, .ref z12, .ref z13, .int 0, .int 0, .int 0, .int 0])), (z1, .inr (9, [.ref z14, .ref z15, .ref z16, .ref z17, .int 0, .int 0, .int (-1), .int 0, .int 0, .int 0])), (z12, .inr (4, [.ref z18, .ref z19, .ref z20, .ref z21, .ref z22])), (z22, .inl (K 0, 256, .inl (fun _ => 0)))]) (va_runV (As := [.int (xs 1)]) (rest := [.int r_2]) ⟨hx, hb, hml, hown, hts⟩ (r_hill l D K z23 (xs 1) (.int 0) (.int 0) (.ref z24) z25 (.ref z26) (.ref z27) (.ref z28) (.ref z29) (.int 0) (.ref z30) (.ref z31) (.int 0) (.ref z32) (.int 0) (.int 0) (.int 0) (.int 0) (.long 0) (.int (-1)) (.int 0) (.int 0) (.int 0) (.ref z33) (.int 0) (.ref z34) (.ref z35) (.int 0) (.ref z36) (.ref z37) (.int 0) (.int 0) (.ref z38) (.ref z39) (.ref z40) (.int 0) (.ref z41) (.ref z42) (.ref z43) (.int 0) (.long 0) (.long 0) (.ref z44) (.ref z45) (.ref z46) (.ref z47) (.ref z48) (.ref z49) (.ref z50) (.ref z51) (.ref z52) (.ref z53) (.ref z54) (.int 0) (.int 0) (.int (-1)) (.int 0) (.long 0) (.ref z55) (.int 0) (.int (-1)) H.size) (cwV 1 hts gL_X12_hill rfl rfl rfl (by decide +kernel) ⟨Nat.le_of_ble_eq_true rfl, Nat.le_of_ble_eq_true rfl⟩) (mkV hK hN (hP.sub [4, 5] rfl) (hD.sub [4, 5] (by decide) rfl) (ci := 12) (q0 := 0) rfl rfl) rfl rfl hl.1 rfl (lv_room (Nat.le_of_ble_eq_true rfl)) dL_law_875 ⟨Nat.le_of_ble_eq_true rfl, Nat.le_of_ble_eq_true rfl⟩) hP hD hS hA [4, 5] [0, 1, 2, 3] rfl rfl (by decide) (by decide) (fun r_5 u_6 H locs hw hP hD hS => ?_)
  have hP : va_P D vwCl [(z0, .inr (11, [.ref z1, .ref z2, .ref z3, .ref z4, .ref z5, .ref z6, .ref z7, .ref z8, .ref z9, .ref z10, .ref z11, .ref z12, .ref z13, .int 0, .int 0, .int 0, .int 0])), (z1, .inr (9, [.ref z14, .ref z15, .ref z16, .ref z17, .int 0, .int 0, .int (-1), .int 0, .int 0, .int 0])), (z12, .inr (4, [.ref z18, .ref z19, .ref z20, .ref z21, .ref z22])), (z22, .inl (K 0, 256, .inl (fun _ => 0)))] H := hP
  have hD : va_D A [(z0, .inr (11, [.ref z1, .ref z2, .ref z3, .ref z4, .ref z5, .ref z6, .ref z7, .ref z8, .ref z9, .ref z10, .ref z11, .ref z12, .ref z13, .int 0, .int 0, .int 0, .int 0])), (z1, .inr (9, [.ref z14, .ref z15, .ref z16, .ref z17, .int 0, .int 0, .int (-1), .int 0, .int 0, .int 0])), (z12, .inr (4, [.ref z18, .ref z19, .ref z20, .ref z21, .ref z22])), (z22, .inl (K 0, 256, .inl (fun _ => 0)))] := hD
  have hv_7 := hw
  have heq : r_2 = r_5 := by
    try dsimp only at hv_3 hv_7
    rcases hv_3 with ⟨rfl, k00⟩ | ⟨rfl, k10⟩ | ⟨rfl, k20, k21⟩ <;> rcases hv_7 with ⟨rfl, j00⟩ | ⟨rfl, j10⟩ | ⟨rfl, j20, j21⟩ <;> first | rfl | (exfalso; omega)
  refine lv_icmp_eq (tgt := 1111) hx hb dL_law_878 (by decide) (fun cq => ?_) (fun cq => absurd heq cq)
  refine lv_iinc (v := 6) (lv' := [(3, .int 6), (2, .ref z23), (1, .ref z0), (0, .ref b)]) hx hb dL_law_1111 hl (k := 0) rfl (by decide) (by decide) rfl (fun ls hl => ?_)
  refine lv_goto (tgt := 18) hx hb dL_law_1114 (by decide) ?_
  refine lv_iload_n hx hb dL_law_18 rfl (lv_at hl 0 rfl) ?_
  refine lv_aload_n hx hb dL_law_19 rfl (lv_at hl 3 rfl) ?_
  refine va_slen hx hb hX hbl hbA hS dL_law_20 ?_
  refine W.eq (g2 := F0 m 21 ls [.int 6, .int 6]) rfl ?_
  refine lv_bipush (v := 6) hx hb dL_law_21 (by decide) ?_
  refine lv_isub hx hb dL_law_23 ?_
  refine lv_topi (fun x_8 ex_8 => ?_)
  obtain rfl : x_8 = 0 := ex_8.trans (by first | rfl | decide)
  refine lv_icmp_gt (tgt := 1117) hx hb dL_law_24 (by decide) (fun cq => ?_) (fun cq => absurd (by decide) cq)
  refine lv_iconst (v := 1) hx hb dL_law_1117 (by decide) ?_
  refine va_forget (fun q hq => hA0 _ (hS.2.2 q hq)) ?_
  refine W.widen (k := 600000) (n := 7302250) (by decide) (by decide) ?_
  exact lw_ret hx hb hr hlocks dL_law_1118
set_option maxHeartbeats 4000000 in
set_option maxRecDepth 100000 in
theorem law_27 {p : Program} {e : Env} {s : State} {m : MethodId} {below : List Frame} {meth : Method} {c : Code} (l : Launch) {b : Nat} {xs : Nat → Int32} (C0 : lw_At p s m meth c b 6 xs) (D : va_G) (K : Nat → ClassId) (hK : va_K D vwCl (KT K) s) (hN : lw_N s) {A : Nat → Prop} (hA : ∀ q, s.heap.size ≤ q → A q) (hA0 : ∀ q, A q → s.heap.size ≤ q) (hbA : ¬ A b) (z0 z1 z2 z3 z4 z5 z6 z7 z8 z9 z10 z11 z12 z13 z14 z15 z16 z17 z18 z19 z20 z21 z22 z23 z24 z25 z26 z27 z28 z29 z30 z31 z32 z33 z34 z35 z36 z37 z38 z39 z40 z41 z42 z43 z44 z45 z46 z47 z48 z49 z50 z51 z52 z53 z54 z55 : Nat) (H : Heap) (locs : List Loc) (hP : va_P D vwCl [(z0, .inr (11, [.ref z1, .ref z2, .ref z3, .ref z4, .ref z5, .ref z6, .ref z7, .ref z8, .ref z9, .ref z10, .ref z11, .ref z12, .ref z13, .int 0, .int 0, .int 0, .int 0])), (z1, .inr (9, [.ref z14, .ref z15, .ref z16, .ref z17, .int 0, .int 0, .int (-1), .int 0, .int 0, .int 0])), (z12, .inr (4, [.ref z18, .ref z19, .ref z20, .ref z21, .ref z22])), (z22, .inl (K 0, 256, .inl (fun _ => 0))), (z23, .inr (12, [.int 0, .int 0, .ref z24, .ref z25, .ref z26, .ref z27, .ref z28, .ref z29, .int 0, .ref z30, .ref z31, .int 0, .ref z32, .int 0, .int 0, .int 0, .int 0, .long 0, .int (-1), .int 0, .int 0, .int 0, .ref z33, .int 0, .ref z34, .ref z35, .int 0, .ref z36, .ref z37, .int 0, .int 0, .ref z38, .ref z39, .ref z40, .int 0, .ref z41, .ref z42, .ref z43, .int 0, .long 0, .long 0, .ref z44, .ref z45, .ref z46, .ref z47, .ref z48, .ref z49, .ref z50, .ref z51, .ref z52, .ref z53, .ref z54, .int 0, .int 0, .int (-1), .int 0, .long 0, .ref z55, .int 0, .int (-1)])), (z25, .inl (K 0, 5500, .inl row0)), (z52, .inl (K 0, 8, .inl (fun _ => 0)))] H) (hD : va_D A [(z0, .inr (11, [.ref z1, .ref z2, .ref z3, .ref z4, .ref z5, .ref z6, .ref z7, .ref z8, .ref z9, .ref z10, .ref z11, .ref z12, .ref z13, .int 0, .int 0, .int 0, .int 0])), (z1, .inr (9, [.ref z14, .ref z15, .ref z16, .ref z17, .int 0, .int 0, .int (-1), .int 0, .int 0, .int 0])), (z12, .inr (4, [.ref z18, .ref z19, .ref z20, .ref z21, .ref z22])), (z22, .inl (K 0, 256, .inl (fun _ => 0))), (z23, .inr (12, [.int 0, .int 0, .ref z24, .ref z25, .ref z26, .ref z27, .ref z28, .ref z29, .int 0, .ref z30, .ref z31, .int 0, .ref z32, .int 0, .int 0, .int 0, .int 0, .long 0, .int (-1), .int 0, .int 0, .int 0, .ref z33, .int 0, .ref z34, .ref z35, .int 0, .ref z36, .ref z37, .int 0, .int 0, .ref z38, .ref z39, .ref z40, .int 0, .ref z41, .ref z42, .ref z43, .int 0, .long 0, .long 0, .ref z44, .ref z45, .ref z46, .ref z47, .ref z48, .ref z49, .ref z50, .ref z51, .ref z52, .ref z53, .ref z54, .int 0, .int 0, .int (-1), .int 0, .long 0, .ref z55, .int 0, .int (-1)])), (z25, .inl (K 0, 5500, .inl row0)), (z52, .inl (K 0, 8, .inl (fun _ => 0)))]) (hS : va_S A s.heap H locs) (ls : Array Slot) (hl : lv_has ls 4 [(3, .int 0), (2, .ref z23), (1, .ref z0), (0, .ref b)]) : W p l e room_1 s m #[Value.ref b] below meth c H locs 97 27561 (lw_Z below #[Value.ref b] s) (F0 m 883 ls []) := by
  obtain ⟨hx, hb, hr, hml, hown, hts, hX, hbl, hlocks, hgv⟩ := C0
  have hown : s.vm.findClass RL = some m.cls := hown
  refine lv_aload_n hx hb dL_law_883 rfl (lv_at hl 2 rfl) ?_
  refine lv_aload_n hx hb dL_law_884 rfl (lv_at hl 3 rfl) ?_
  refine lv_iload_n hx hb dL_law_885 rfl (lv_at hl 0 rfl) ?_
  refine lv_iconst (v := 1) hx hb dL_law_886 (by decide) ?_
  refine lv_iadd hx hb dL_law_887 ?_
  refine lv_topi (fun x_1 ex_1 => ?_)
  obtain rfl : x_1 = 1 := ex_1.trans (by first | rfl | decide)
  refine va_sld hx hb hX hbl hbA hS (i_in (x := 1) rfl (by omega)) dL_law_888 ?_
  refine W.eq (g2 := F0 m 889 ls [.int (xs 1), .ref z0]) rfl ?_
  refine pci (va_runV (As := [.int (xs 1)]) (rest := []) ⟨hx, hb, hml, hown, hts⟩ (t_ask l D K z0 (xs 1) z1 (.ref z2) (.ref z3) (.ref z4) (.ref z5) (.ref z6) (.ref z7) (.ref z8) (.ref z9) (.ref z10) (.ref z11) z12 (.ref z13) (.int 0) (.int 0) (.int 0) (.int 0) (.ref z18) (.ref z19) (.ref z20) (.ref z21) z22 (.ref z14) (.ref z15) (.ref z16) (.ref z17) (.int 0) (.int (-1)) (.int 0) (.int 0) H.size) (cwV 1 hts gL_X11_ask rfl rfl rfl (by decide +kernel) ⟨Nat.le_of_ble_eq_true rfl, Nat.le_of_ble_eq_true rfl⟩) (mkV hK hN (hP.sub [0, 2, 1, 3] rfl) (hD.sub [0, 2, 1, 3] (by decide) rfl) (ci := 11) (q0 := 0) rfl rfl) rfl rfl hl.1 rfl (lv_room (Nat.le_of_ble_eq_true rfl)) dL_law_889 ⟨Nat.le_of_ble_eq_true rfl, Nat.le_of_ble_eq_true rfl⟩) (fun r_2 hw => ?_)
  have hv_3 := hw
  refine lv_aload_n hx hb dL_law_892 rfl (lv_at hl 1 rfl) ?_
  refine lv_aload_n hx hb dL_law_893 rfl (lv_at hl 3 rfl) ?_
  refine lv_iload_n hx hb dL_law_894 rfl (lv_at hl 0 rfl) ?_
  refine lv_iconst (v := 1) hx hb dL_law_895 (by decide) ?_
  refine lv_iadd hx hb dL_law_896 ?_
  refine lv_topi (fun x_4 ex_4 => ?_)
  obtain rfl : x_4 = 1 := ex_4.trans (by first | rfl | decide)
  refine va_sld hx hb hX hbl hbA hS (i_in (x := 1) rfl (by omega)) dL_law_897 ?_
  refine W.eq (g2 := F0 m 898 ls [.int (xs 1), .ref z23, .int r_2]) rfl ?_
  refine kci (wr := [(z0, .inr (11, [.ref z1, .ref z2, .ref z3, .ref z4, .ref z5, .ref z6, .ref z7, .ref z8, .ref z9, .ref z10, .ref z11, .ref z12, .ref z13, .int 0, .int 0, .int 0, .int 0])), (z1, .inr (9, [.ref z14, .ref z15, .ref z16, .ref z17, .int 0, .int 0, .int (-1), .int 0, .int 0, .int 0])), (z12, .inr (4, [.ref z18, .ref z19, .ref z20, .ref z21, .ref z22])), (z22, .inl (K 0, 256, .inl (fun _ => 0)))]) (va_runV (As := [.int (xs 1)]) (rest := [.int r_2]) ⟨hx, hb, hml, hown, hts⟩ (r_ask l D K z23 (xs 1) (.int 0) (.int 0) (.ref z24) z25 (.ref z26) (.ref z27) (.ref z28) (.ref z29) (.int 0) (.ref z30) (.ref z31) (.int 0) (.ref z32) (.int 0) (.int 0) (.int 0) (.int 0) (.long 0) (.int (-1)) (.int 0) (.int 0) (.int 0) (.ref z33) (.int 0) (.ref z34) (.ref z35) (.int 0) (.ref z36) (.ref z37) (.int 0) (.int 0) (.ref z38) (.ref z39) (.ref z40) (.int 0) (.ref z41) (.ref z42) (.ref z43) (.int 0) (.long 0) (.long 0) (.ref z44) (.ref z45) (.ref z46) (.ref z47) (.ref z48) (.ref z49) (.ref z50) (.ref z51) z52 (.ref z53) (.ref z54) (.int 0) (.int 0) (.int (-1)) (.int 0) (.long 0) (.ref z55) (.int 0) (.int (-1)) H.size) (cwV 1 hts gL_X12_ask rfl rfl rfl (by decide +kernel) ⟨Nat.le_of_ble_eq_true rfl, Nat.le_of_ble_eq_true rfl⟩) (mkV hK hN (hP.sub [4, 5, 6] rfl) (hD.sub [4, 5, 6] (by decide) rfl) (ci := 12) (q0 := 0) rfl rfl) rfl rfl hl.1 rfl (lv_room (Nat.le_of_ble_eq_true rfl)) dL_law_898 ⟨Nat.le_of_ble_eq_true rfl, Nat.le_of_ble_eq_true rfl⟩) hP hD hS hA [4, 5, 6] [0, 1, 2, 3] rfl rfl (by decide) (by decide) (fun r_5 u_6 H locs hw hP hD hS => ?_)
  have hP : va_P D vwCl [(z0, .inr (11, [.ref z1, .ref z2, .ref z3, .ref z4, .ref z5, .ref z6, .ref z7, .ref z8, .ref z9, .ref z10, .ref z11, .ref z12, .ref z13, .int 0, .int 0, .int 0, .int 0])), (z1, .inr (9, [.ref z14, .ref z15, .ref z16, .ref z17, .int 0, .int 0, .int (-1), .int 0, .int 0, .int 0])), (z12, .inr (4, [.ref z18, .ref z19, .ref z20, .ref z21, .ref z22])), (z22, .inl (K 0, 256, .inl (fun _ => 0)))] H := hP
  have hD : va_D A [(z0, .inr (11, [.ref z1, .ref z2, .ref z3, .ref z4, .ref z5, .ref z6, .ref z7, .ref z8, .ref z9, .ref z10, .ref z11, .ref z12, .ref z13, .int 0, .int 0, .int 0, .int 0])), (z1, .inr (9, [.ref z14, .ref z15, .ref z16, .ref z17, .int 0, .int 0, .int (-1), .int 0, .int 0, .int 0])), (z12, .inr (4, [.ref z18, .ref z19, .ref z20, .ref z21, .ref z22])), (z22, .inl (K 0, 256, .inl (fun _ => 0)))] := hD
  have hv_7 := hw
  have heq : r_2 = r_5 := by
    try dsimp only at hv_3 hv_7
    rcases hv_3 with rfl <;> rcases hv_7 with rfl <;> first | rfl | (exfalso; omega)
  refine lv_icmp_eq (tgt := 1111) hx hb dL_law_901 (by decide) (fun cq => ?_) (fun cq => absurd heq cq)
  refine lv_iinc (v := 6) (lv' := [(3, .int 6), (2, .ref z23), (1, .ref z0), (0, .ref b)]) hx hb dL_law_1111 hl (k := 0) rfl (by decide) (by decide) rfl (fun ls hl => ?_)
  refine lv_goto (tgt := 18) hx hb dL_law_1114 (by decide) ?_
  refine lv_iload_n hx hb dL_law_18 rfl (lv_at hl 0 rfl) ?_
  refine lv_aload_n hx hb dL_law_19 rfl (lv_at hl 3 rfl) ?_
  refine va_slen hx hb hX hbl hbA hS dL_law_20 ?_
  refine W.eq (g2 := F0 m 21 ls [.int 6, .int 6]) rfl ?_
  refine lv_bipush (v := 6) hx hb dL_law_21 (by decide) ?_
  refine lv_isub hx hb dL_law_23 ?_
  refine lv_topi (fun x_8 ex_8 => ?_)
  obtain rfl : x_8 = 0 := ex_8.trans (by first | rfl | decide)
  refine lv_icmp_gt (tgt := 1117) hx hb dL_law_24 (by decide) (fun cq => ?_) (fun cq => absurd (by decide) cq)
  refine lv_iconst (v := 1) hx hb dL_law_1117 (by decide) ?_
  refine va_forget (fun q hq => hA0 _ (hS.2.2 q hq)) ?_
  refine W.widen (k := 600000) (n := 7302250) (by decide) (by decide) ?_
  exact lw_ret hx hb hr hlocks dL_law_1118
set_option maxHeartbeats 4000000 in
set_option maxRecDepth 100000 in
theorem law_28 {p : Program} {e : Env} {s : State} {m : MethodId} {below : List Frame} {meth : Method} {c : Code} (l : Launch) {b : Nat} {xs : Nat → Int32} (C0 : lw_At p s m meth c b 6 xs) (D : va_G) (K : Nat → ClassId) (hK : va_K D vwCl (KT K) s) (hN : lw_N s) {A : Nat → Prop} (hA : ∀ q, s.heap.size ≤ q → A q) (hA0 : ∀ q, A q → s.heap.size ≤ q) (hbA : ¬ A b) (z0 z1 z2 z3 z4 z5 z6 z7 z8 z9 z10 z11 z12 z13 z14 z15 z16 z17 z18 z19 z20 z21 z22 z23 z24 z25 z26 z27 z28 z29 z30 z31 z32 z33 z34 z35 z36 z37 z38 z39 z40 z41 z42 z43 z44 z45 z46 z47 z48 z49 z50 z51 z52 z53 z54 z55 : Nat) (H : Heap) (locs : List Loc) (hP : va_P D vwCl [(z0, .inr (11, [.ref z1, .ref z2, .ref z3, .ref z4, .ref z5, .ref z6, .ref z7, .ref z8, .ref z9, .ref z10, .ref z11, .ref z12, .ref z13, .int 0, .int 0, .int 0, .int 0])), (z1, .inr (9, [.ref z14, .ref z15, .ref z16, .ref z17, .int 0, .int 0, .int (-1), .int 0, .int 0, .int 0])), (z12, .inr (4, [.ref z18, .ref z19, .ref z20, .ref z21, .ref z22])), (z23, .inr (12, [.int 0, .int 0, .ref z24, .ref z25, .ref z26, .ref z27, .ref z28, .ref z29, .int 0, .ref z30, .ref z31, .int 0, .ref z32, .int 0, .int 0, .int 0, .int 0, .long 0, .int (-1), .int 0, .int 0, .int 0, .ref z33, .int 0, .ref z34, .ref z35, .int 0, .ref z36, .ref z37, .int 0, .int 0, .ref z38, .ref z39, .ref z40, .int 0, .ref z41, .ref z42, .ref z43, .int 0, .long 0, .long 0, .ref z44, .ref z45, .ref z46, .ref z47, .ref z48, .ref z49, .ref z50, .ref z51, .ref z52, .ref z53, .ref z54, .int 0, .int 0, .int (-1), .int 0, .long 0, .ref z55, .int 0, .int (-1)])), (z25, .inl (K 0, 5500, .inl row0))] H) (hD : va_D A [(z0, .inr (11, [.ref z1, .ref z2, .ref z3, .ref z4, .ref z5, .ref z6, .ref z7, .ref z8, .ref z9, .ref z10, .ref z11, .ref z12, .ref z13, .int 0, .int 0, .int 0, .int 0])), (z1, .inr (9, [.ref z14, .ref z15, .ref z16, .ref z17, .int 0, .int 0, .int (-1), .int 0, .int 0, .int 0])), (z12, .inr (4, [.ref z18, .ref z19, .ref z20, .ref z21, .ref z22])), (z23, .inr (12, [.int 0, .int 0, .ref z24, .ref z25, .ref z26, .ref z27, .ref z28, .ref z29, .int 0, .ref z30, .ref z31, .int 0, .ref z32, .int 0, .int 0, .int 0, .int 0, .long 0, .int (-1), .int 0, .int 0, .int 0, .ref z33, .int 0, .ref z34, .ref z35, .int 0, .ref z36, .ref z37, .int 0, .int 0, .ref z38, .ref z39, .ref z40, .int 0, .ref z41, .ref z42, .ref z43, .int 0, .long 0, .long 0, .ref z44, .ref z45, .ref z46, .ref z47, .ref z48, .ref z49, .ref z50, .ref z51, .ref z52, .ref z53, .ref z54, .int 0, .int 0, .int (-1), .int 0, .long 0, .ref z55, .int 0, .int (-1)])), (z25, .inl (K 0, 5500, .inl row0))]) (hS : va_S A s.heap H locs) (ls : Array Slot) (hl : lv_has ls 4 [(3, .int 0), (2, .ref z23), (1, .ref z0), (0, .ref b)]) : W p l e room_1 s m #[Value.ref b] below meth c H locs 97 27561 (lw_Z below #[Value.ref b] s) (F0 m 906 ls []) := by
  obtain ⟨hx, hb, hr, hml, hown, hts, hX, hbl, hlocks, hgv⟩ := C0
  have hown : s.vm.findClass RL = some m.cls := hown
  refine lv_aload_n hx hb dL_law_906 rfl (lv_at hl 2 rfl) ?_
  refine lv_aload_n hx hb dL_law_907 rfl (lv_at hl 3 rfl) ?_
  refine lv_iload_n hx hb dL_law_908 rfl (lv_at hl 0 rfl) ?_
  refine lv_iconst (v := 1) hx hb dL_law_909 (by decide) ?_
  refine lv_iadd hx hb dL_law_910 ?_
  refine lv_topi (fun x_1 ex_1 => ?_)
  obtain rfl : x_1 = 1 := ex_1.trans (by first | rfl | decide)
  refine va_sld hx hb hX hbl hbA hS (i_in (x := 1) rfl (by omega)) dL_law_911 ?_
  refine W.eq (g2 := F0 m 912 ls [.int (xs 1), .ref z0]) rfl ?_
  refine pcl (va_runV (As := [.int (xs 1)]) (rest := []) ⟨hx, hb, hml, hown, hts⟩ (t_chance l D K z0 (xs 1) z1 (.ref z2) (.ref z3) (.ref z4) (.ref z5) (.ref z6) (.ref z7) (.ref z8) (.ref z9) (.ref z10) (.ref z11) z12 (.ref z13) (.int 0) (.int 0) (.int 0) (.int 0) (.ref z14) (.ref z15) (.ref z16) (.ref z17) (.int 0) (.int (-1)) (.int 0) (.int 0) (.int 0) (.ref z18) (.ref z19) (.ref z20) (.ref z21) (.ref z22) H.size) (cwV 1 hts gL_X11_chance rfl rfl rfl (by decide +kernel) ⟨Nat.le_of_ble_eq_true rfl, Nat.le_of_ble_eq_true rfl⟩) (mkV hK hN (hP.sub [0, 1, 2] rfl) (hD.sub [0, 1, 2] (by decide) rfl) (ci := 11) (q0 := 0) rfl rfl) rfl rfl hl.1 rfl (lv_room (Nat.le_of_ble_eq_true rfl)) dL_law_912 ⟨Nat.le_of_ble_eq_true rfl, Nat.le_of_ble_eq_true rfl⟩) (fun r_2 hw => ?_)
  have hv_3 := hw
  refine lv_aload_n hx hb dL_law_915 rfl (lv_at hl 1 rfl) ?_
  refine lv_aload_n hx hb dL_law_916 rfl (lv_at hl 3 rfl) ?_
  refine lv_iload_n hx hb dL_law_917 rfl (lv_at hl 0 rfl) ?_
  refine lv_iconst (v := 1) hx hb dL_law_918 (by decide) ?_
  refine lv_iadd hx hb dL_law_919 ?_
  refine lv_topi (fun x_4 ex_4 => ?_)
  obtain rfl : x_4 = 1 := ex_4.trans (by first | rfl | decide)
  refine va_sld hx hb hX hbl hbA hS (i_in (x := 1) rfl (by omega)) dL_law_920 ?_
  refine W.eq (g2 := F0 m 921 ls [.int (xs 1), .ref z23, .long r_2]) rfl ?_
  refine kcl (wr := [(z0, .inr (11, [.ref z1, .ref z2, .ref z3, .ref z4, .ref z5, .ref z6, .ref z7, .ref z8, .ref z9, .ref z10, .ref z11, .ref z12, .ref z13, .int 0, .int 0, .int 0, .int 0])), (z1, .inr (9, [.ref z14, .ref z15, .ref z16, .ref z17, .int 0, .int 0, .int (-1), .int 0, .int 0, .int 0])), (z12, .inr (4, [.ref z18, .ref z19, .ref z20, .ref z21, .ref z22]))]) (va_runV (As := [.int (xs 1)]) (rest := [.long r_2]) ⟨hx, hb, hml, hown, hts⟩ (r_chance l D K z23 (xs 1) (.int 0) (.int 0) (.ref z24) z25 (.ref z26) (.ref z27) (.ref z28) (.ref z29) (.int 0) (.ref z30) (.ref z31) (.int 0) (.ref z32) (.int 0) (.int 0) (.int 0) (.int 0) (.long 0) (.int (-1)) (.int 0) (.int 0) (.int 0) (.ref z33) (.int 0) (.ref z34) (.ref z35) (.int 0) (.ref z36) (.ref z37) (.int 0) (.int 0) (.ref z38) (.ref z39) (.ref z40) (.int 0) (.ref z41) (.ref z42) (.ref z43) (.int 0) (.long 0) (.long 0) (.ref z44) (.ref z45) (.ref z46) (.ref z47) (.ref z48) (.ref z49) (.ref z50) (.ref z51) (.ref z52) (.ref z53) (.ref z54) (.int 0) (.int 0) (.int (-1)) (.int 0) (.long 0) (.ref z55) (.int 0) (.int (-1)) H.size) (cwV 1 hts gL_X12_chance rfl rfl rfl (by decide +kernel) ⟨Nat.le_of_ble_eq_true rfl, Nat.le_of_ble_eq_true rfl⟩) (mkV hK hN (hP.sub [3, 4] rfl) (hD.sub [3, 4] (by decide) rfl) (ci := 12) (q0 := 0) rfl rfl) rfl rfl hl.1 rfl (lv_room (Nat.le_of_ble_eq_true rfl)) dL_law_921 ⟨Nat.le_of_ble_eq_true rfl, Nat.le_of_ble_eq_true rfl⟩) hP hD hS hA [3, 4] [0, 1, 2] rfl rfl (by decide) (by decide) (fun r_5 u_6 H locs hw hP hD hS => ?_)
  have hP : va_P D vwCl [(z0, .inr (11, [.ref z1, .ref z2, .ref z3, .ref z4, .ref z5, .ref z6, .ref z7, .ref z8, .ref z9, .ref z10, .ref z11, .ref z12, .ref z13, .int 0, .int 0, .int 0, .int 0])), (z1, .inr (9, [.ref z14, .ref z15, .ref z16, .ref z17, .int 0, .int 0, .int (-1), .int 0, .int 0, .int 0])), (z12, .inr (4, [.ref z18, .ref z19, .ref z20, .ref z21, .ref z22]))] H := hP
  have hD : va_D A [(z0, .inr (11, [.ref z1, .ref z2, .ref z3, .ref z4, .ref z5, .ref z6, .ref z7, .ref z8, .ref z9, .ref z10, .ref z11, .ref z12, .ref z13, .int 0, .int 0, .int 0, .int 0])), (z1, .inr (9, [.ref z14, .ref z15, .ref z16, .ref z17, .int 0, .int 0, .int (-1), .int 0, .int 0, .int 0])), (z12, .inr (4, [.ref z18, .ref z19, .ref z20, .ref z21, .ref z22]))] := hD
  have hv_7 := hw
  have heq : r_2 = r_5 := by
    try dsimp only at hv_3 hv_7
    rcases hv_3 with ⟨rfl, k00, k01⟩ | ⟨rfl, k10⟩ <;> rcases hv_7 with ⟨rfl, j00, j01⟩ | ⟨rfl, j10⟩ <;> first | rfl | (exfalso; omega)
  refine W.lcmp hx hb dL_law_924 ?_
  refine lv_if_eq (tgt := 1111) hx hb dL_law_925 (by decide) (fun cq => ?_) (fun cq => absurd ((lg_cmp_eq _ _).mpr heq) cq)
  refine lv_iinc (v := 6) (lv' := [(3, .int 6), (2, .ref z23), (1, .ref z0), (0, .ref b)]) hx hb dL_law_1111 hl (k := 0) rfl (by decide) (by decide) rfl (fun ls hl => ?_)
  refine lv_goto (tgt := 18) hx hb dL_law_1114 (by decide) ?_
  refine lv_iload_n hx hb dL_law_18 rfl (lv_at hl 0 rfl) ?_
  refine lv_aload_n hx hb dL_law_19 rfl (lv_at hl 3 rfl) ?_
  refine va_slen hx hb hX hbl hbA hS dL_law_20 ?_
  refine W.eq (g2 := F0 m 21 ls [.int 6, .int 6]) rfl ?_
  refine lv_bipush (v := 6) hx hb dL_law_21 (by decide) ?_
  refine lv_isub hx hb dL_law_23 ?_
  refine lv_topi (fun x_8 ex_8 => ?_)
  obtain rfl : x_8 = 0 := ex_8.trans (by first | rfl | decide)
  refine lv_icmp_gt (tgt := 1117) hx hb dL_law_24 (by decide) (fun cq => ?_) (fun cq => absurd (by decide) cq)
  refine lv_iconst (v := 1) hx hb dL_law_1117 (by decide) ?_
  refine va_forget (fun q hq => hA0 _ (hS.2.2 q hq)) ?_
  refine W.widen (k := 600000) (n := 7302250) (by decide) (by decide) ?_
  exact lw_ret hx hb hr hlocks dL_law_1118
set_option maxHeartbeats 4000000 in
set_option maxRecDepth 100000 in
theorem law_29 {p : Program} {e : Env} {s : State} {m : MethodId} {below : List Frame} {meth : Method} {c : Code} (l : Launch) {b : Nat} {xs : Nat → Int32} (C0 : lw_At p s m meth c b 6 xs) (D : va_G) (K : Nat → ClassId) (hK : va_K D vwCl (KT K) s) (hN : lw_N s) {A : Nat → Prop} (hA : ∀ q, s.heap.size ≤ q → A q) (hA0 : ∀ q, A q → s.heap.size ≤ q) (hbA : ¬ A b) (z0 z1 z2 z3 z4 z5 z6 z7 z8 z9 z10 z11 z12 z13 z14 z15 z16 z17 z18 z19 z20 z21 z22 z23 z24 z25 z26 z27 z28 z29 z30 z31 z32 z33 z34 z35 z36 z37 z38 z39 z40 z41 z42 z43 z44 z45 z46 z47 z48 z49 z50 z51 z52 z53 z54 z55 z56 : Nat) (H : Heap) (locs : List Loc) (hP : va_P D vwCl [(z0, .inr (11, [.ref z1, .ref z2, .ref z3, .ref z4, .ref z5, .ref z6, .ref z7, .ref z8, .ref z9, .ref z10, .ref z11, .ref z12, .ref z13, .int 0, .int 0, .int 0, .int 0])), (z1, .inr (9, [.ref z14, .ref z15, .ref z16, .ref z17, .int 0, .int 0, .int (-1), .int 0, .int 0, .int 0])), (z11, .inr (5, [.ref z18, .ref z19, .ref z20, .ref z21, .ref z22, .ref z23])), (z24, .inr (12, [.int 0, .int 0, .ref z25, .ref z26, .ref z27, .ref z28, .ref z29, .ref z30, .int 0, .ref z31, .ref z32, .int 0, .ref z33, .int 0, .int 0, .int 0, .int 0, .long 0, .int (-1), .int 0, .int 0, .int 0, .ref z34, .int 0, .ref z35, .ref z36, .int 0, .ref z37, .ref z38, .int 0, .int 0, .ref z39, .ref z40, .ref z41, .int 0, .ref z42, .ref z43, .ref z44, .int 0, .long 0, .long 0, .ref z45, .ref z46, .ref z47, .ref z48, .ref z49, .ref z50, .ref z51, .ref z52, .ref z53, .ref z54, .ref z55, .int 0, .int 0, .int (-1), .int 0, .long 0, .ref z56, .int 0, .int (-1)])), (z26, .inl (K 0, 5500, .inl row0)), (z29, .inl (K 0, 558, .inl (fun _ => 0)))] H) (hD : va_D A [(z0, .inr (11, [.ref z1, .ref z2, .ref z3, .ref z4, .ref z5, .ref z6, .ref z7, .ref z8, .ref z9, .ref z10, .ref z11, .ref z12, .ref z13, .int 0, .int 0, .int 0, .int 0])), (z1, .inr (9, [.ref z14, .ref z15, .ref z16, .ref z17, .int 0, .int 0, .int (-1), .int 0, .int 0, .int 0])), (z11, .inr (5, [.ref z18, .ref z19, .ref z20, .ref z21, .ref z22, .ref z23])), (z24, .inr (12, [.int 0, .int 0, .ref z25, .ref z26, .ref z27, .ref z28, .ref z29, .ref z30, .int 0, .ref z31, .ref z32, .int 0, .ref z33, .int 0, .int 0, .int 0, .int 0, .long 0, .int (-1), .int 0, .int 0, .int 0, .ref z34, .int 0, .ref z35, .ref z36, .int 0, .ref z37, .ref z38, .int 0, .int 0, .ref z39, .ref z40, .ref z41, .int 0, .ref z42, .ref z43, .ref z44, .int 0, .long 0, .long 0, .ref z45, .ref z46, .ref z47, .ref z48, .ref z49, .ref z50, .ref z51, .ref z52, .ref z53, .ref z54, .ref z55, .int 0, .int 0, .int (-1), .int 0, .long 0, .ref z56, .int 0, .int (-1)])), (z26, .inl (K 0, 5500, .inl row0)), (z29, .inl (K 0, 558, .inl (fun _ => 0)))]) (hS : va_S A s.heap H locs) (ls : Array Slot) (hl : lv_has ls 4 [(3, .int 0), (2, .ref z24), (1, .ref z0), (0, .ref b)]) : W p l e room_1 s m #[Value.ref b] below meth c H locs 97 27561 (lw_Z below #[Value.ref b] s) (F0 m 930 ls []) := by
  obtain ⟨hx, hb, hr, hml, hown, hts, hX, hbl, hlocks, hgv⟩ := C0
  have hown : s.vm.findClass RL = some m.cls := hown
  refine lv_aload_n hx hb dL_law_930 rfl (lv_at hl 2 rfl) ?_
  refine lv_aload_n hx hb dL_law_931 rfl (lv_at hl 3 rfl) ?_
  refine lv_iload_n hx hb dL_law_932 rfl (lv_at hl 0 rfl) ?_
  refine lv_iconst (v := 1) hx hb dL_law_933 (by decide) ?_
  refine lv_iadd hx hb dL_law_934 ?_
  refine lv_topi (fun x_1 ex_1 => ?_)
  obtain rfl : x_1 = 1 := ex_1.trans (by first | rfl | decide)
  refine va_sld hx hb hX hbl hbA hS (i_in (x := 1) rfl (by omega)) dL_law_935 ?_
  refine W.eq (g2 := F0 m 936 ls [.int (xs 1), .ref z0]) rfl ?_
  refine lv_aload_n hx hb dL_law_936 rfl (lv_at hl 3 rfl) ?_
  refine lv_iload_n hx hb dL_law_937 rfl (lv_at hl 0 rfl) ?_
  refine lv_iconst (v := 2) hx hb dL_law_938 (by decide) ?_
  refine lv_iadd hx hb dL_law_939 ?_
  refine lv_topi (fun x_2 ex_2 => ?_)
  obtain rfl : x_2 = 2 := ex_2.trans (by first | rfl | decide)
  refine va_sld hx hb hX hbl hbA hS (i_in (x := 2) rfl (by omega)) dL_law_940 ?_
  refine W.eq (g2 := F0 m 941 ls [.int (xs 2), .int (xs 1), .ref z0]) rfl ?_
  refine pci (va_runV (As := [.int (xs 1), .int (xs 2)]) (rest := []) ⟨hx, hb, hml, hown, hts⟩ (t_compare l D K z0 (xs 1) (xs 2) z1 (.ref z2) (.ref z3) (.ref z4) (.ref z5) (.ref z6) (.ref z7) (.ref z8) (.ref z9) (.ref z10) z11 (.ref z12) (.ref z13) (.int 0) (.int 0) (.int 0) (.int 0) (.ref z14) (.ref z15) (.ref z16) (.ref z17) (.int (-1)) (.int 0) (.int 0) (.int 0) (.ref z18) (.ref z19) (.ref z20) (.ref z21) (.ref z22) (.ref z23) H.size) (cwV 2 hts gL_X11_compare rfl rfl rfl (by decide +kernel) ⟨Nat.le_of_ble_eq_true rfl, Nat.le_of_ble_eq_true rfl⟩) (mkV hK hN (hP.sub [0, 1, 2] rfl) (hD.sub [0, 1, 2] (by decide) rfl) (ci := 11) (q0 := 0) rfl rfl) rfl rfl hl.1 rfl (lv_room (Nat.le_of_ble_eq_true rfl)) dL_law_941 ⟨Nat.le_of_ble_eq_true rfl, Nat.le_of_ble_eq_true rfl⟩) (fun r_3 hw => ?_)
  have hv_4 := hw
  refine lv_aload_n hx hb dL_law_944 rfl (lv_at hl 1 rfl) ?_
  refine lv_aload_n hx hb dL_law_945 rfl (lv_at hl 3 rfl) ?_
  refine lv_iload_n hx hb dL_law_946 rfl (lv_at hl 0 rfl) ?_
  refine lv_iconst (v := 1) hx hb dL_law_947 (by decide) ?_
  refine lv_iadd hx hb dL_law_948 ?_
  refine lv_topi (fun x_5 ex_5 => ?_)
  obtain rfl : x_5 = 1 := ex_5.trans (by first | rfl | decide)
  refine va_sld hx hb hX hbl hbA hS (i_in (x := 1) rfl (by omega)) dL_law_949 ?_
  refine W.eq (g2 := F0 m 950 ls [.int (xs 1), .ref z24, .int r_3]) rfl ?_
  refine lv_aload_n hx hb dL_law_950 rfl (lv_at hl 3 rfl) ?_
  refine lv_iload_n hx hb dL_law_951 rfl (lv_at hl 0 rfl) ?_
  refine lv_iconst (v := 2) hx hb dL_law_952 (by decide) ?_
  refine lv_iadd hx hb dL_law_953 ?_
  refine lv_topi (fun x_6 ex_6 => ?_)
  obtain rfl : x_6 = 2 := ex_6.trans (by first | rfl | decide)
  refine va_sld hx hb hX hbl hbA hS (i_in (x := 2) rfl (by omega)) dL_law_954 ?_
  refine W.eq (g2 := F0 m 955 ls [.int (xs 2), .int (xs 1), .ref z24, .int r_3]) rfl ?_
  refine kci (wr := [(z0, .inr (11, [.ref z1, .ref z2, .ref z3, .ref z4, .ref z5, .ref z6, .ref z7, .ref z8, .ref z9, .ref z10, .ref z11, .ref z12, .ref z13, .int 0, .int 0, .int 0, .int 0])), (z1, .inr (9, [.ref z14, .ref z15, .ref z16, .ref z17, .int 0, .int 0, .int (-1), .int 0, .int 0, .int 0])), (z11, .inr (5, [.ref z18, .ref z19, .ref z20, .ref z21, .ref z22, .ref z23]))]) (va_runV (As := [.int (xs 1), .int (xs 2)]) (rest := [.int r_3]) ⟨hx, hb, hml, hown, hts⟩ (r_compare l D K z24 (xs 1) (xs 2) (.int 0) (.int 0) (.ref z25) z26 (.ref z27) (.ref z28) z29 (.ref z30) (.int 0) (.ref z31) (.ref z32) (.int 0) (.ref z33) (.int 0) (.int 0) (.int 0) (.int 0) (.long 0) (.int (-1)) (.int 0) (.int 0) (.int 0) (.ref z34) (.int 0) (.ref z35) (.ref z36) (.int 0) (.ref z37) (.ref z38) (.int 0) (.int 0) (.ref z39) (.ref z40) (.ref z41) (.int 0) (.ref z42) (.ref z43) (.ref z44) (.int 0) (.long 0) (.long 0) (.ref z45) (.ref z46) (.ref z47) (.ref z48) (.ref z49) (.ref z50) (.ref z51) (.ref z52) (.ref z53) (.ref z54) (.ref z55) (.int 0) (.int 0) (.int (-1)) (.int 0) (.long 0) (.ref z56) (.int 0) (.int (-1)) H.size) (cwV 2 hts gL_X12_compare rfl rfl rfl (by decide +kernel) ⟨Nat.le_of_ble_eq_true rfl, Nat.le_of_ble_eq_true rfl⟩) (mkV hK hN (hP.sub [3, 4, 5] rfl) (hD.sub [3, 4, 5] (by decide) rfl) (ci := 12) (q0 := 0) rfl rfl) rfl rfl hl.1 rfl (lv_room (Nat.le_of_ble_eq_true rfl)) dL_law_955 ⟨Nat.le_of_ble_eq_true rfl, Nat.le_of_ble_eq_true rfl⟩) hP hD hS hA [3, 4, 5] [0, 1, 2] rfl rfl (by decide) (by decide) (fun r_7 u_8 H locs hw hP hD hS => ?_)
  have hP : va_P D vwCl [(z0, .inr (11, [.ref z1, .ref z2, .ref z3, .ref z4, .ref z5, .ref z6, .ref z7, .ref z8, .ref z9, .ref z10, .ref z11, .ref z12, .ref z13, .int 0, .int 0, .int 0, .int 0])), (z1, .inr (9, [.ref z14, .ref z15, .ref z16, .ref z17, .int 0, .int 0, .int (-1), .int 0, .int 0, .int 0])), (z11, .inr (5, [.ref z18, .ref z19, .ref z20, .ref z21, .ref z22, .ref z23]))] H := hP
  have hD : va_D A [(z0, .inr (11, [.ref z1, .ref z2, .ref z3, .ref z4, .ref z5, .ref z6, .ref z7, .ref z8, .ref z9, .ref z10, .ref z11, .ref z12, .ref z13, .int 0, .int 0, .int 0, .int 0])), (z1, .inr (9, [.ref z14, .ref z15, .ref z16, .ref z17, .int 0, .int 0, .int (-1), .int 0, .int 0, .int 0])), (z11, .inr (5, [.ref z18, .ref z19, .ref z20, .ref z21, .ref z22, .ref z23]))] := hD
  have hv_9 := hw
  have heq : r_3 = r_7 := by
    try dsimp only at hv_4 hv_9
    rcases hv_4 with ⟨rfl, k00, k01, k02⟩ | ⟨rfl, k10⟩ <;> rcases hv_9 with ⟨rfl, j00, j01, j02⟩ | ⟨rfl, j10⟩ <;> first | rfl | (exfalso; omega)
  refine lv_icmp_eq (tgt := 1111) hx hb dL_law_958 (by decide) (fun cq => ?_) (fun cq => absurd heq cq)
  refine lv_iinc (v := 6) (lv' := [(3, .int 6), (2, .ref z24), (1, .ref z0), (0, .ref b)]) hx hb dL_law_1111 hl (k := 0) rfl (by decide) (by decide) rfl (fun ls hl => ?_)
  refine lv_goto (tgt := 18) hx hb dL_law_1114 (by decide) ?_
  refine lv_iload_n hx hb dL_law_18 rfl (lv_at hl 0 rfl) ?_
  refine lv_aload_n hx hb dL_law_19 rfl (lv_at hl 3 rfl) ?_
  refine va_slen hx hb hX hbl hbA hS dL_law_20 ?_
  refine W.eq (g2 := F0 m 21 ls [.int 6, .int 6]) rfl ?_
  refine lv_bipush (v := 6) hx hb dL_law_21 (by decide) ?_
  refine lv_isub hx hb dL_law_23 ?_
  refine lv_topi (fun x_10 ex_10 => ?_)
  obtain rfl : x_10 = 0 := ex_10.trans (by first | rfl | decide)
  refine lv_icmp_gt (tgt := 1117) hx hb dL_law_24 (by decide) (fun cq => ?_) (fun cq => absurd (by decide) cq)
  refine lv_iconst (v := 1) hx hb dL_law_1117 (by decide) ?_
  refine va_forget (fun q hq => hA0 _ (hS.2.2 q hq)) ?_
  refine W.widen (k := 600000) (n := 7302250) (by decide) (by decide) ?_
  exact lw_ret hx hb hr hlocks dL_law_1118
