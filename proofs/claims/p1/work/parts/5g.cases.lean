set_option maxHeartbeats 4000000 in
set_option maxRecDepth 100000 in
theorem law_30 {p : Program} {e : Env} {s : State} {m : MethodId} {below : List Frame} {meth : Method} {c : Code} (l : Launch) {b : Nat} {xs : Nat → Int32} (C0 : lw_At p s m meth c b 6 xs) (D : va_G) (K : Nat → ClassId) (hK : va_K D vwCl (KT K) s) (hN : lw_N s) {A : Nat → Prop} (hA : ∀ q, s.heap.size ≤ q → A q) (hA0 : ∀ q, A q → s.heap.size ≤ q) (hbA : ¬ A b) (z0 z1 z2 z3 z4 z5 z6 z7 z8 z9 z10 z11 z12 z13 z14 z15 z16 z17 z18 z19 z20 z21 z22 z23 z24 z25 z26 z27 z28 z29 z30 z31 z32 z33 z34 z35 z36 z37 z38 z39 z40 z41 z42 z43 z44 z45 z46 z47 z48 z49 z50 z51 z52 z53 z54 : Nat) (H : Heap) (locs : List Loc) (hP : va_P D vwCl [(z0, .inr (11, [.ref z1, .ref z2, .ref z3, .ref z4, .ref z5, .ref z6, .ref z7, .ref z8, .ref z9, .ref z10, .ref z11, .ref z12, .ref z13, .int 0, .int 0, .int 0, .int 0])), (z1, .inr (9, [.ref z14, .ref z15, .ref z16, .ref z17, .int 0, .int 0, .int (-1), .int 0, .int 0, .int 0])), (z14, .inl (K 0, 56, .inl (fun _ => 0))), (z15, .inl (K 0, 24, .inl (fun _ => 0))), (z16, .inl (K 0, 6, .inl tm0)), (z17, .inl (K 4, 6, .inr (.inr (.inr (.inr (fun _ => none)))))), (z4, .inr (9, [.ref z18, .ref z19, .ref z20, .ref z21, .int 0, .int 0, .int (-1), .int 0, .int 0, .int 0])), (z18, .inl (K 0, 56, .inl (fun _ => 0))), (z19, .inl (K 0, 24, .inl (fun _ => 0))), (z20, .inl (K 0, 6, .inl tm0)), (z21, .inl (K 4, 6, .inr (.inr (.inr (.inr (fun _ => none)))))), (z8, .inr (10, [.ref z9])), (z13, .inl (K 0, 5, .inl (fun _ => 0))), (z22, .inr (12, [.int 0, .int 0, .ref z23, .ref z24, .ref z25, .ref z26, .ref z27, .ref z28, .int 0, .ref z29, .ref z30, .int 0, .ref z31, .int 0, .int 0, .int 0, .int 0, .long 0, .int (-1), .int 0, .int 0, .int 0, .ref z32, .int 0, .ref z33, .ref z34, .int 0, .ref z35, .ref z36, .int 0, .int 0, .ref z37, .ref z38, .ref z39, .int 0, .ref z40, .ref z41, .ref z42, .int 0, .long 0, .long 0, .ref z43, .ref z44, .ref z45, .ref z46, .ref z47, .ref z48, .ref z49, .ref z50, .ref z51, .ref z52, .ref z53, .int 0, .int 0, .int (-1), .int 0, .long 0, .ref z54, .int 0, .int (-1)])), (z23, .inl (K 0, 7, .inl (fun _ => 0))), (z24, .inl (K 0, 5500, .inl row0)), (z27, .inl (K 0, 558, .inl (fun _ => 0)))] H) (hD : va_D A [(z0, .inr (11, [.ref z1, .ref z2, .ref z3, .ref z4, .ref z5, .ref z6, .ref z7, .ref z8, .ref z9, .ref z10, .ref z11, .ref z12, .ref z13, .int 0, .int 0, .int 0, .int 0])), (z1, .inr (9, [.ref z14, .ref z15, .ref z16, .ref z17, .int 0, .int 0, .int (-1), .int 0, .int 0, .int 0])), (z14, .inl (K 0, 56, .inl (fun _ => 0))), (z15, .inl (K 0, 24, .inl (fun _ => 0))), (z16, .inl (K 0, 6, .inl tm0)), (z17, .inl (K 4, 6, .inr (.inr (.inr (.inr (fun _ => none)))))), (z4, .inr (9, [.ref z18, .ref z19, .ref z20, .ref z21, .int 0, .int 0, .int (-1), .int 0, .int 0, .int 0])), (z18, .inl (K 0, 56, .inl (fun _ => 0))), (z19, .inl (K 0, 24, .inl (fun _ => 0))), (z20, .inl (K 0, 6, .inl tm0)), (z21, .inl (K 4, 6, .inr (.inr (.inr (.inr (fun _ => none)))))), (z8, .inr (10, [.ref z9])), (z13, .inl (K 0, 5, .inl (fun _ => 0))), (z22, .inr (12, [.int 0, .int 0, .ref z23, .ref z24, .ref z25, .ref z26, .ref z27, .ref z28, .int 0, .ref z29, .ref z30, .int 0, .ref z31, .int 0, .int 0, .int 0, .int 0, .long 0, .int (-1), .int 0, .int 0, .int 0, .ref z32, .int 0, .ref z33, .ref z34, .int 0, .ref z35, .ref z36, .int 0, .int 0, .ref z37, .ref z38, .ref z39, .int 0, .ref z40, .ref z41, .ref z42, .int 0, .long 0, .long 0, .ref z43, .ref z44, .ref z45, .ref z46, .ref z47, .ref z48, .ref z49, .ref z50, .ref z51, .ref z52, .ref z53, .int 0, .int 0, .int (-1), .int 0, .long 0, .ref z54, .int 0, .int (-1)])), (z23, .inl (K 0, 7, .inl (fun _ => 0))), (z24, .inl (K 0, 5500, .inl row0)), (z27, .inl (K 0, 558, .inl (fun _ => 0)))]) (hS : va_S A s.heap H locs) (ls : Array Slot) (hl : lv_has ls 4 [(3, .int 0), (2, .ref z22), (1, .ref z0), (0, .ref b)]) : W p l e room_1 s m #[Value.ref b] below meth c H locs 97 27561 (lw_Z below #[Value.ref b] s) (F0 m 963 ls []) := by
  obtain ⟨hx, hb, hr, hml, hown, hts, hX, hbl, hlocks, hgv⟩ := C0
  have hown : s.vm.findClass RL = some m.cls := hown
  refine lv_aload_n hx hb dL_law_963 rfl (lv_at hl 2 rfl) ?_
  refine lv_aload_n hx hb dL_law_964 rfl (lv_at hl 3 rfl) ?_
  refine lv_iload_n hx hb dL_law_965 rfl (lv_at hl 0 rfl) ?_
  refine lv_iconst (v := 1) hx hb dL_law_966 (by decide) ?_
  refine lv_iadd hx hb dL_law_967 ?_
  refine lv_topi (fun x_1 ex_1 => ?_)
  obtain rfl : x_1 = 1 := ex_1.trans (by first | rfl | decide)
  refine va_sld hx hb hX hbl hbA hS (i_in (x := 1) rfl (by omega)) dL_law_968 ?_
  refine W.eq (g2 := F0 m 969 ls [.int (xs 1), .ref z0]) rfl ?_
  refine lv_aload_n hx hb dL_law_969 rfl (lv_at hl 3 rfl) ?_
  refine lv_iload_n hx hb dL_law_970 rfl (lv_at hl 0 rfl) ?_
  refine lv_iconst (v := 2) hx hb dL_law_971 (by decide) ?_
  refine lv_iadd hx hb dL_law_972 ?_
  refine lv_topi (fun x_2 ex_2 => ?_)
  obtain rfl : x_2 = 2 := ex_2.trans (by first | rfl | decide)
  refine va_sld hx hb hX hbl hbA hS (i_in (x := 2) rfl (by omega)) dL_law_973 ?_
  refine W.eq (g2 := F0 m 974 ls [.int (xs 2), .int (xs 1), .ref z0]) rfl ?_
  refine kci (wr := [(z22, .inr (12, [.int 0, .int 0, .ref z23, .ref z24, .ref z25, .ref z26, .ref z27, .ref z28, .int 0, .ref z29, .ref z30, .int 0, .ref z31, .int 0, .int 0, .int 0, .int 0, .long 0, .int (-1), .int 0, .int 0, .int 0, .ref z32, .int 0, .ref z33, .ref z34, .int 0, .ref z35, .ref z36, .int 0, .int 0, .ref z37, .ref z38, .ref z39, .int 0, .ref z40, .ref z41, .ref z42, .int 0, .long 0, .long 0, .ref z43, .ref z44, .ref z45, .ref z46, .ref z47, .ref z48, .ref z49, .ref z50, .ref z51, .ref z52, .ref z53, .int 0, .int 0, .int (-1), .int 0, .long 0, .ref z54, .int 0, .int (-1)])), (z23, .inl (K 0, 7, .inl (fun _ => 0))), (z24, .inl (K 0, 5500, .inl row0)), (z27, .inl (K 0, 558, .inl (fun _ => 0)))]) (va_runV (As := [.int (xs 1), .int (xs 2)]) (rest := []) ⟨hx, hb, hml, hown, hts⟩ (t_days l D K z0 (xs 1) (xs 2) z1 (.ref z2) (.ref z3) z4 (.ref z5) (.ref z6) (.ref z7) z8 (.ref z9) (.ref z10) (.ref z11) (.ref z12) z13 (.int 0) (.int 0) (.int 0) (.int 0) (fun _ => 0) (.ref z9) z18 z19 z20 z21 z14 z15 z16 z17 H.size) (cwV 2 hts gL_X11_days rfl rfl rfl (by decide +kernel) ⟨Nat.le_of_ble_eq_true rfl, Nat.le_of_ble_eq_true rfl⟩) (mkV hK hN (hP.sub [0, 12, 11, 6, 1, 7, 2, 8, 3, 9, 4, 10, 5] rfl) (hD.sub [0, 12, 11, 6, 1, 7, 2, 8, 3, 9, 4, 10, 5] (by decide) rfl) (ci := 11) (q0 := 0) rfl rfl) rfl rfl hl.1 rfl (lv_room (Nat.le_of_ble_eq_true rfl)) dL_law_974 ⟨Nat.le_of_ble_eq_true rfl, Nat.le_of_ble_eq_true rfl⟩) hP hD hS hA [0, 12, 11, 6, 1, 7, 2, 8, 3, 9, 4, 10, 5] [13, 14, 15, 16] rfl rfl (by decide) (by decide) (fun r_3 u_4 H locs hw hP hD hS => ?_)
  have hP : va_P D vwCl [(z22, .inr (12, [.int 0, .int 0, .ref z23, .ref z24, .ref z25, .ref z26, .ref z27, .ref z28, .int 0, .ref z29, .ref z30, .int 0, .ref z31, .int 0, .int 0, .int 0, .int 0, .long 0, .int (-1), .int 0, .int 0, .int 0, .ref z32, .int 0, .ref z33, .ref z34, .int 0, .ref z35, .ref z36, .int 0, .int 0, .ref z37, .ref z38, .ref z39, .int 0, .ref z40, .ref z41, .ref z42, .int 0, .long 0, .long 0, .ref z43, .ref z44, .ref z45, .ref z46, .ref z47, .ref z48, .ref z49, .ref z50, .ref z51, .ref z52, .ref z53, .int 0, .int 0, .int (-1), .int 0, .long 0, .ref z54, .int 0, .int (-1)])), (z23, .inl (K 0, 7, .inl (fun _ => 0))), (z24, .inl (K 0, 5500, .inl row0)), (z27, .inl (K 0, 558, .inl (fun _ => 0)))] H := hP
  have hD : va_D A [(z22, .inr (12, [.int 0, .int 0, .ref z23, .ref z24, .ref z25, .ref z26, .ref z27, .ref z28, .int 0, .ref z29, .ref z30, .int 0, .ref z31, .int 0, .int 0, .int 0, .int 0, .long 0, .int (-1), .int 0, .int 0, .int 0, .ref z32, .int 0, .ref z33, .ref z34, .int 0, .ref z35, .ref z36, .int 0, .int 0, .ref z37, .ref z38, .ref z39, .int 0, .ref z40, .ref z41, .ref z42, .int 0, .long 0, .long 0, .ref z43, .ref z44, .ref z45, .ref z46, .ref z47, .ref z48, .ref z49, .ref z50, .ref z51, .ref z52, .ref z53, .int 0, .int 0, .int (-1), .int 0, .long 0, .ref z54, .int 0, .int (-1)])), (z23, .inl (K 0, 7, .inl (fun _ => 0))), (z24, .inl (K 0, 5500, .inl row0)), (z27, .inl (K 0, 558, .inl (fun _ => 0)))] := hD
  have hv_5 := hw
  refine lv_aload_n hx hb dL_law_977 rfl (lv_at hl 1 rfl) ?_
  refine lv_aload_n hx hb dL_law_978 rfl (lv_at hl 3 rfl) ?_
  refine lv_iload_n hx hb dL_law_979 rfl (lv_at hl 0 rfl) ?_
  refine lv_iconst (v := 1) hx hb dL_law_980 (by decide) ?_
  refine lv_iadd hx hb dL_law_981 ?_
  refine lv_topi (fun x_6 ex_6 => ?_)
  obtain rfl : x_6 = 1 := ex_6.trans (by first | rfl | decide)
  refine va_sld hx hb hX hbl hbA hS (i_in (x := 1) rfl (by omega)) dL_law_982 ?_
  refine W.eq (g2 := F0 m 983 ls [.int (xs 1), .ref z22, .int r_3]) rfl ?_
  refine lv_aload_n hx hb dL_law_983 rfl (lv_at hl 3 rfl) ?_
  refine lv_iload_n hx hb dL_law_984 rfl (lv_at hl 0 rfl) ?_
  refine lv_iconst (v := 2) hx hb dL_law_985 (by decide) ?_
  refine lv_iadd hx hb dL_law_986 ?_
  refine lv_topi (fun x_7 ex_7 => ?_)
  obtain rfl : x_7 = 2 := ex_7.trans (by first | rfl | decide)
  refine va_sld hx hb hX hbl hbA hS (i_in (x := 2) rfl (by omega)) dL_law_987 ?_
  refine W.eq (g2 := F0 m 988 ls [.int (xs 2), .int (xs 1), .ref z22, .int r_3]) rfl ?_
  refine kci (wr := []) (va_runV (As := [.int (xs 1), .int (xs 2)]) (rest := [.int r_3]) ⟨hx, hb, hml, hown, hts⟩ (r_days l D K z22 (xs 1) (xs 2) (.int 0) (.int 0) z23 z24 (.ref z25) (.ref z26) z27 (.ref z28) (.int 0) (.ref z29) (.ref z30) (.int 0) (.ref z31) (.int 0) (.int 0) (.int 0) (.int 0) (.long 0) (.int (-1)) (.int 0) (.int 0) (.int 0) (.ref z32) (.int 0) (.ref z33) (.ref z34) (.int 0) (.ref z35) (.ref z36) (.int 0) (.int 0) (.ref z37) (.ref z38) (.ref z39) (.int 0) (.ref z40) (.ref z41) (.ref z42) (.int 0) (.long 0) (.long 0) (.ref z43) (.ref z44) (.ref z45) (.ref z46) (.ref z47) (.ref z48) (.ref z49) (.ref z50) (.ref z51) (.ref z52) (.ref z53) (.int 0) (.int 0) (.int (-1)) (.int 0) (.long 0) (.ref z54) (.int 0) (.int (-1)) H.size) (cwV 2 hts gL_X12_days rfl rfl rfl (by decide +kernel) ⟨Nat.le_of_ble_eq_true rfl, Nat.le_of_ble_eq_true rfl⟩) (mkV hK hN (hP.sub [0, 2, 1, 3] rfl) (hD.sub [0, 2, 1, 3] (by decide) rfl) (ci := 12) (q0 := 0) rfl rfl) rfl rfl hl.1 rfl (lv_room (Nat.le_of_ble_eq_true rfl)) dL_law_988 ⟨Nat.le_of_ble_eq_true rfl, Nat.le_of_ble_eq_true rfl⟩) hP hD hS hA [0, 2, 1, 3] [] rfl rfl (by decide) (by decide) (fun r_8 u_9 H locs hw hP hD hS => ?_)
  have hP : va_P D vwCl [] H := hP
  have hD : va_D A [] := hD
  have hv_10 := hw
  have heq : r_3 = r_8 := by
    try dsimp only at hv_5 hv_10
    rcases hv_5 with ⟨rfl, k00, k01, k02, k03⟩ | ⟨rfl, k10⟩ <;> rcases hv_10 with ⟨rfl, j00, j01, j02, j03⟩ | ⟨rfl, j10⟩ <;> first | rfl | (exfalso; omega)
  refine lv_icmp_eq (tgt := 1111) hx hb dL_law_991 (by decide) (fun cq => ?_) (fun cq => absurd heq cq)
  refine lv_iinc (v := 6) (lv' := [(3, .int 6), (2, .ref z22), (1, .ref z0), (0, .ref b)]) hx hb dL_law_1111 hl (k := 0) rfl (by decide) (by decide) rfl (fun ls hl => ?_)
  refine lv_goto (tgt := 18) hx hb dL_law_1114 (by decide) ?_
  refine lv_iload_n hx hb dL_law_18 rfl (lv_at hl 0 rfl) ?_
  refine lv_aload_n hx hb dL_law_19 rfl (lv_at hl 3 rfl) ?_
  refine va_slen hx hb hX hbl hbA hS dL_law_20 ?_
  refine W.eq (g2 := F0 m 21 ls [.int 6, .int 6]) rfl ?_
  refine lv_bipush (v := 6) hx hb dL_law_21 (by decide) ?_
  refine lv_isub hx hb dL_law_23 ?_
  refine lv_topi (fun x_11 ex_11 => ?_)
  obtain rfl : x_11 = 0 := ex_11.trans (by first | rfl | decide)
  refine lv_icmp_gt (tgt := 1117) hx hb dL_law_24 (by decide) (fun cq => ?_) (fun cq => absurd (by decide) cq)
  refine lv_iconst (v := 1) hx hb dL_law_1117 (by decide) ?_
  refine va_forget (fun q hq => hA0 _ (hS.2.2 q hq)) ?_
  refine W.widen (k := 600000) (n := 7302250) (by decide) (by decide) ?_
  exact lw_ret hx hb hr hlocks dL_law_1118
set_option maxHeartbeats 4000000 in
set_option maxRecDepth 100000 in
theorem law_31 {p : Program} {e : Env} {s : State} {m : MethodId} {below : List Frame} {meth : Method} {c : Code} (l : Launch) {b : Nat} {xs : Nat → Int32} (C0 : lw_At p s m meth c b 6 xs) (D : va_G) (K : Nat → ClassId) (hK : va_K D vwCl (KT K) s) (hN : lw_N s) {A : Nat → Prop} (hA : ∀ q, s.heap.size ≤ q → A q) (hA0 : ∀ q, A q → s.heap.size ≤ q) (hbA : ¬ A b) (z0 z1 z2 z3 z4 z5 z6 z7 z8 z9 z10 z11 z12 z13 z14 z15 z16 z17 z18 z19 z20 z21 z22 z23 z24 z25 z26 z27 z28 z29 z30 z31 z32 z33 z34 z35 z36 z37 z38 z39 z40 z41 z42 z43 z44 z45 z46 : Nat) (H : Heap) (locs : List Loc) (hP : va_P D vwCl [(z0, .inr (11, [.ref z1, .ref z2, .ref z3, .ref z4, .ref z5, .ref z6, .ref z7, .ref z8, .ref z9, .ref z10, .ref z11, .ref z12, .ref z13, .int 0, .int 0, .int 0, .int 0])), (z14, .inr (12, [.int 0, .int 0, .ref z15, .ref z16, .ref z17, .ref z18, .ref z19, .ref z20, .int 0, .ref z21, .ref z22, .int 0, .ref z23, .int 0, .int 0, .int 0, .int 0, .long 0, .int (-1), .int 0, .int 0, .int 0, .ref z24, .int 0, .ref z25, .ref z26, .int 0, .ref z27, .ref z28, .int 0, .int 0, .ref z29, .ref z30, .ref z31, .int 0, .ref z32, .ref z33, .ref z34, .int 0, .long 0, .long 0, .ref z35, .ref z36, .ref z37, .ref z38, .ref z39, .ref z40, .ref z41, .ref z42, .ref z43, .ref z44, .ref z45, .int 0, .int 0, .int (-1), .int 0, .long 0, .ref z46, .int 0, .int (-1)]))] H) (hD : va_D A [(z0, .inr (11, [.ref z1, .ref z2, .ref z3, .ref z4, .ref z5, .ref z6, .ref z7, .ref z8, .ref z9, .ref z10, .ref z11, .ref z12, .ref z13, .int 0, .int 0, .int 0, .int 0])), (z14, .inr (12, [.int 0, .int 0, .ref z15, .ref z16, .ref z17, .ref z18, .ref z19, .ref z20, .int 0, .ref z21, .ref z22, .int 0, .ref z23, .int 0, .int 0, .int 0, .int 0, .long 0, .int (-1), .int 0, .int 0, .int 0, .ref z24, .int 0, .ref z25, .ref z26, .int 0, .ref z27, .ref z28, .int 0, .int 0, .ref z29, .ref z30, .ref z31, .int 0, .ref z32, .ref z33, .ref z34, .int 0, .long 0, .long 0, .ref z35, .ref z36, .ref z37, .ref z38, .ref z39, .ref z40, .ref z41, .ref z42, .ref z43, .ref z44, .ref z45, .int 0, .int 0, .int (-1), .int 0, .long 0, .ref z46, .int 0, .int (-1)]))]) (hS : va_S A s.heap H locs) (ls : Array Slot) (hl : lv_has ls 4 [(3, .int 0), (2, .ref z14), (1, .ref z0), (0, .ref b)]) : W p l e room_1 s m #[Value.ref b] below meth c H locs 97 27561 (lw_Z below #[Value.ref b] s) (F0 m 996 ls []) := by
  obtain ⟨hx, hb, hr, hml, hown, hts, hX, hbl, hlocks, hgv⟩ := C0
  have hown : s.vm.findClass RL = some m.cls := hown
  refine lv_aload_n hx hb dL_law_996 rfl (lv_at hl 2 rfl) ?_
  refine lv_aload_n hx hb dL_law_997 rfl (lv_at hl 3 rfl) ?_
  refine lv_iload_n hx hb dL_law_998 rfl (lv_at hl 0 rfl) ?_
  refine lv_iconst (v := 1) hx hb dL_law_999 (by decide) ?_
  refine lv_iadd hx hb dL_law_1000 ?_
  refine lv_topi (fun x_1 ex_1 => ?_)
  obtain rfl : x_1 = 1 := ex_1.trans (by first | rfl | decide)
  refine va_sld hx hb hX hbl hbA hS (i_in (x := 1) rfl (by omega)) dL_law_1001 ?_
  refine W.eq (g2 := F0 m 1002 ls [.int (xs 1), .ref z0]) rfl ?_
  refine lv_aload_n hx hb dL_law_1002 rfl (lv_at hl 3 rfl) ?_
  refine lv_iload_n hx hb dL_law_1003 rfl (lv_at hl 0 rfl) ?_
  refine lv_iconst (v := 2) hx hb dL_law_1004 (by decide) ?_
  refine lv_iadd hx hb dL_law_1005 ?_
  refine lv_topi (fun x_2 ex_2 => ?_)
  obtain rfl : x_2 = 2 := ex_2.trans (by first | rfl | decide)
  refine va_sld hx hb hX hbl hbA hS (i_in (x := 2) rfl (by omega)) dL_law_1006 ?_
  refine W.eq (g2 := F0 m 1007 ls [.int (xs 2), .int (xs 1), .ref z0]) rfl ?_
  refine pci (va_runV (As := [.int (xs 1), .int (xs 2)]) (rest := []) ⟨hx, hb, hml, hown, hts⟩ (t_drawn l D K z0 (xs 1) (xs 2) (.ref z1) (.ref z2) (.ref z3) (.ref z4) (.ref z5) (.ref z6) (.ref z7) (.ref z8) (.ref z9) (.ref z10) (.ref z11) (.ref z12) (.ref z13) (.int 0) (.int 0) (.int 0) H.size) (cwV 2 hts gL_X11_drawn rfl rfl rfl (by decide +kernel) ⟨Nat.le_of_ble_eq_true rfl, Nat.le_of_ble_eq_true rfl⟩) (mkV hK hN (hP.sub [0] rfl) (hD.sub [0] (by decide) rfl) (ci := 11) (q0 := 0) rfl rfl) rfl rfl hl.1 rfl (lv_room (Nat.le_of_ble_eq_true rfl)) dL_law_1007 ⟨Nat.le_of_ble_eq_true rfl, Nat.le_of_ble_eq_true rfl⟩) (fun r_3 hw => ?_)
  have hv_4 := hw
  refine lv_aload_n hx hb dL_law_1010 rfl (lv_at hl 1 rfl) ?_
  refine lv_aload_n hx hb dL_law_1011 rfl (lv_at hl 3 rfl) ?_
  refine lv_iload_n hx hb dL_law_1012 rfl (lv_at hl 0 rfl) ?_
  refine lv_iconst (v := 1) hx hb dL_law_1013 (by decide) ?_
  refine lv_iadd hx hb dL_law_1014 ?_
  refine lv_topi (fun x_5 ex_5 => ?_)
  obtain rfl : x_5 = 1 := ex_5.trans (by first | rfl | decide)
  refine va_sld hx hb hX hbl hbA hS (i_in (x := 1) rfl (by omega)) dL_law_1015 ?_
  refine W.eq (g2 := F0 m 1016 ls [.int (xs 1), .ref z14, .int r_3]) rfl ?_
  refine lv_aload_n hx hb dL_law_1016 rfl (lv_at hl 3 rfl) ?_
  refine lv_iload_n hx hb dL_law_1017 rfl (lv_at hl 0 rfl) ?_
  refine lv_iconst (v := 2) hx hb dL_law_1018 (by decide) ?_
  refine lv_iadd hx hb dL_law_1019 ?_
  refine lv_topi (fun x_6 ex_6 => ?_)
  obtain rfl : x_6 = 2 := ex_6.trans (by first | rfl | decide)
  refine va_sld hx hb hX hbl hbA hS (i_in (x := 2) rfl (by omega)) dL_law_1020 ?_
  refine W.eq (g2 := F0 m 1021 ls [.int (xs 2), .int (xs 1), .ref z14, .int r_3]) rfl ?_
  refine kci (wr := [(z0, .inr (11, [.ref z1, .ref z2, .ref z3, .ref z4, .ref z5, .ref z6, .ref z7, .ref z8, .ref z9, .ref z10, .ref z11, .ref z12, .ref z13, .int 0, .int 0, .int 0, .int 0]))]) (va_runV (As := [.int (xs 1), .int (xs 2)]) (rest := [.int r_3]) ⟨hx, hb, hml, hown, hts⟩ (r_drawn l D K z14 (xs 1) (xs 2) (.int 0) (.int 0) (.ref z15) (.ref z16) (.ref z17) (.ref z18) (.ref z19) (.ref z20) (.int 0) (.ref z21) (.ref z22) (.int 0) (.ref z23) (.int 0) (.int 0) (.int 0) (.int 0) (.long 0) (.int (-1)) (.int 0) (.int 0) (.int 0) (.ref z24) (.int 0) (.ref z25) (.ref z26) (.int 0) (.ref z27) (.ref z28) (.int 0) (.int 0) (.ref z29) (.ref z30) (.ref z31) (.int 0) (.ref z32) (.ref z33) (.ref z34) (.int 0) (.long 0) (.long 0) (.ref z35) (.ref z36) (.ref z37) (.ref z38) (.ref z39) (.ref z40) (.ref z41) (.ref z42) (.ref z43) (.ref z44) (.ref z45) (.int 0) (.int 0) (.int (-1)) (.int 0) (.long 0) (.ref z46) (.int 0) H.size) (cwV 2 hts gL_X12_drawn rfl rfl rfl (by decide +kernel) ⟨Nat.le_of_ble_eq_true rfl, Nat.le_of_ble_eq_true rfl⟩) (mkV hK hN (hP.sub [1] rfl) (hD.sub [1] (by decide) rfl) (ci := 12) (q0 := 0) rfl rfl) rfl rfl hl.1 rfl (lv_room (Nat.le_of_ble_eq_true rfl)) dL_law_1021 ⟨Nat.le_of_ble_eq_true rfl, Nat.le_of_ble_eq_true rfl⟩) hP hD hS hA [1] [0] rfl rfl (by decide) (by decide) (fun r_7 u_8 H locs hw hP hD hS => ?_)
  have hP : va_P D vwCl [(z0, .inr (11, [.ref z1, .ref z2, .ref z3, .ref z4, .ref z5, .ref z6, .ref z7, .ref z8, .ref z9, .ref z10, .ref z11, .ref z12, .ref z13, .int 0, .int 0, .int 0, .int 0]))] H := hP
  have hD : va_D A [(z0, .inr (11, [.ref z1, .ref z2, .ref z3, .ref z4, .ref z5, .ref z6, .ref z7, .ref z8, .ref z9, .ref z10, .ref z11, .ref z12, .ref z13, .int 0, .int 0, .int 0, .int 0]))] := hD
  have hv_9 := hw
  have heq : r_3 = r_7 := by
    try dsimp only at hv_4 hv_9
    rcases hv_4 with rfl <;> rcases hv_9 with rfl <;> first | rfl | (exfalso; omega)
  refine lv_icmp_eq (tgt := 1111) hx hb dL_law_1024 (by decide) (fun cq => ?_) (fun cq => absurd heq cq)
  refine lv_iinc (v := 6) (lv' := [(3, .int 6), (2, .ref z14), (1, .ref z0), (0, .ref b)]) hx hb dL_law_1111 hl (k := 0) rfl (by decide) (by decide) rfl (fun ls hl => ?_)
  refine lv_goto (tgt := 18) hx hb dL_law_1114 (by decide) ?_
  refine lv_iload_n hx hb dL_law_18 rfl (lv_at hl 0 rfl) ?_
  refine lv_aload_n hx hb dL_law_19 rfl (lv_at hl 3 rfl) ?_
  refine va_slen hx hb hX hbl hbA hS dL_law_20 ?_
  refine W.eq (g2 := F0 m 21 ls [.int 6, .int 6]) rfl ?_
  refine lv_bipush (v := 6) hx hb dL_law_21 (by decide) ?_
  refine lv_isub hx hb dL_law_23 ?_
  refine lv_topi (fun x_10 ex_10 => ?_)
  obtain rfl : x_10 = 0 := ex_10.trans (by first | rfl | decide)
  refine lv_icmp_gt (tgt := 1117) hx hb dL_law_24 (by decide) (fun cq => ?_) (fun cq => absurd (by decide) cq)
  refine lv_iconst (v := 1) hx hb dL_law_1117 (by decide) ?_
  refine va_forget (fun q hq => hA0 _ (hS.2.2 q hq)) ?_
  refine W.widen (k := 600000) (n := 7302250) (by decide) (by decide) ?_
  exact lw_ret hx hb hr hlocks dL_law_1118
set_option maxHeartbeats 4000000 in
set_option maxRecDepth 100000 in
theorem law_32 {p : Program} {e : Env} {s : State} {m : MethodId} {below : List Frame} {meth : Method} {c : Code} (l : Launch) {b : Nat} {xs : Nat → Int32} (C0 : lw_At p s m meth c b 6 xs) (D : va_G) (K : Nat → ClassId) (hK : va_K D vwCl (KT K) s) (hN : lw_N s) {A : Nat → Prop} (hA : ∀ q, s.heap.size ≤ q → A q) (hA0 : ∀ q, A q → s.heap.size ≤ q) (hbA : ¬ A b) (z0 z1 z2 z3 z4 z5 z6 z7 z8 z9 z10 z11 z12 z13 z14 z15 z16 z17 z18 z19 z20 z21 z22 z23 z24 z25 z26 z27 z28 z29 z30 z31 z32 z33 z34 z35 z36 z37 z38 z39 z40 z41 z42 z43 z44 z45 z46 z47 z48 z49 z50 z51 z52 z53 z54 z55 z56 z57 z58 z59 z60 : Nat) (H : Heap) (locs : List Loc) (hP : va_P D vwCl [(z0, .inr (11, [.ref z1, .ref z2, .ref z3, .ref z4, .ref z5, .ref z6, .ref z7, .ref z8, .ref z9, .ref z10, .ref z11, .ref z12, .ref z13, .int 0, .int 0, .int 0, .int 0])), (z1, .inr (9, [.ref z14, .ref z15, .ref z16, .ref z17, .int 0, .int 0, .int (-1), .int 0, .int 0, .int 0])), (z14, .inl (K 0, 56, .inl (fun _ => 0))), (z15, .inl (K 0, 24, .inl (fun _ => 0))), (z16, .inl (K 0, 6, .inl tm0)), (z17, .inl (K 4, 6, .inr (.inr (.inr (.inr (fun _ => none)))))), (z2, .inl (K 3, 2, .inr (.inr (.inr (.inr (va_up (va_up (fun _ => none) 0 (some z18)) 1 (some z19))))))), (z18, .inr (9, [.ref z20, .ref z21, .ref z22, .ref z23, .int 0, .int 0, .int (-1), .int 0, .int 0, .int 0])), (z20, .inl (K 0, 56, .inl (fun _ => 0))), (z21, .inl (K 0, 24, .inl (fun _ => 0))), (z22, .inl (K 0, 6, .inl tm0)), (z23, .inl (K 4, 6, .inr (.inr (.inr (.inr (fun _ => none)))))), (z19, .inr (9, [.ref z24, .ref z25, .ref z26, .ref z27, .int 0, .int 0, .int (-1), .int 0, .int 0, .int 0])), (z24, .inl (K 0, 56, .inl (fun _ => 0))), (z25, .inl (K 0, 24, .inl (fun _ => 0))), (z26, .inl (K 0, 6, .inl tm0)), (z27, .inl (K 4, 6, .inr (.inr (.inr (.inr (fun _ => none)))))), (z3, .inl (K 1, 2, .inl (fun _ => 0))), (z13, .inl (K 0, 5, .inl (fun _ => 0))), (z28, .inr (12, [.int 0, .int 0, .ref z29, .ref z30, .ref z31, .ref z32, .ref z33, .ref z34, .int 0, .ref z35, .ref z36, .int 0, .ref z37, .int 0, .int 0, .int 0, .int 0, .long 0, .int (-1), .int 0, .int 0, .int 0, .ref z38, .int 0, .ref z39, .ref z40, .int 0, .ref z41, .ref z42, .int 0, .int 0, .ref z43, .ref z44, .ref z45, .int 0, .ref z46, .ref z47, .ref z48, .int 0, .long 0, .long 0, .ref z49, .ref z50, .ref z51, .ref z52, .ref z53, .ref z54, .ref z55, .ref z56, .ref z57, .ref z58, .ref z59, .int 0, .int 0, .int (-1), .int 0, .long 0, .ref z60, .int 0, .int (-1)])), (z29, .inl (K 0, 7, .inl (fun _ => 0))), (z30, .inl (K 0, 5500, .inl row0)), (z31, .inl (K 0, 11000, .inl (fun _ => 0))), (z32, .inl (K 1, 2, .inl (fun _ => 0)))] H) (hD : va_D A [(z0, .inr (11, [.ref z1, .ref z2, .ref z3, .ref z4, .ref z5, .ref z6, .ref z7, .ref z8, .ref z9, .ref z10, .ref z11, .ref z12, .ref z13, .int 0, .int 0, .int 0, .int 0])), (z1, .inr (9, [.ref z14, .ref z15, .ref z16, .ref z17, .int 0, .int 0, .int (-1), .int 0, .int 0, .int 0])), (z14, .inl (K 0, 56, .inl (fun _ => 0))), (z15, .inl (K 0, 24, .inl (fun _ => 0))), (z16, .inl (K 0, 6, .inl tm0)), (z17, .inl (K 4, 6, .inr (.inr (.inr (.inr (fun _ => none)))))), (z2, .inl (K 3, 2, .inr (.inr (.inr (.inr (va_up (va_up (fun _ => none) 0 (some z18)) 1 (some z19))))))), (z18, .inr (9, [.ref z20, .ref z21, .ref z22, .ref z23, .int 0, .int 0, .int (-1), .int 0, .int 0, .int 0])), (z20, .inl (K 0, 56, .inl (fun _ => 0))), (z21, .inl (K 0, 24, .inl (fun _ => 0))), (z22, .inl (K 0, 6, .inl tm0)), (z23, .inl (K 4, 6, .inr (.inr (.inr (.inr (fun _ => none)))))), (z19, .inr (9, [.ref z24, .ref z25, .ref z26, .ref z27, .int 0, .int 0, .int (-1), .int 0, .int 0, .int 0])), (z24, .inl (K 0, 56, .inl (fun _ => 0))), (z25, .inl (K 0, 24, .inl (fun _ => 0))), (z26, .inl (K 0, 6, .inl tm0)), (z27, .inl (K 4, 6, .inr (.inr (.inr (.inr (fun _ => none)))))), (z3, .inl (K 1, 2, .inl (fun _ => 0))), (z13, .inl (K 0, 5, .inl (fun _ => 0))), (z28, .inr (12, [.int 0, .int 0, .ref z29, .ref z30, .ref z31, .ref z32, .ref z33, .ref z34, .int 0, .ref z35, .ref z36, .int 0, .ref z37, .int 0, .int 0, .int 0, .int 0, .long 0, .int (-1), .int 0, .int 0, .int 0, .ref z38, .int 0, .ref z39, .ref z40, .int 0, .ref z41, .ref z42, .int 0, .int 0, .ref z43, .ref z44, .ref z45, .int 0, .ref z46, .ref z47, .ref z48, .int 0, .long 0, .long 0, .ref z49, .ref z50, .ref z51, .ref z52, .ref z53, .ref z54, .ref z55, .ref z56, .ref z57, .ref z58, .ref z59, .int 0, .int 0, .int (-1), .int 0, .long 0, .ref z60, .int 0, .int (-1)])), (z29, .inl (K 0, 7, .inl (fun _ => 0))), (z30, .inl (K 0, 5500, .inl row0)), (z31, .inl (K 0, 11000, .inl (fun _ => 0))), (z32, .inl (K 1, 2, .inl (fun _ => 0)))]) (hS : va_S A s.heap H locs) (ls : Array Slot) (hl : lv_has ls 4 [(3, .int 0), (2, .ref z28), (1, .ref z0), (0, .ref b)]) : W p l e room_1 s m #[Value.ref b] below meth c H locs 97 27561 (lw_Z below #[Value.ref b] s) (F0 m 1029 ls []) := by
  obtain ⟨hx, hb, hr, hml, hown, hts, hX, hbl, hlocks, hgv⟩ := C0
  have hown : s.vm.findClass RL = some m.cls := hown
  refine lv_aload_n hx hb dL_law_1029 rfl (lv_at hl 2 rfl) ?_
  refine lv_aload_n hx hb dL_law_1030 rfl (lv_at hl 3 rfl) ?_
  refine lv_iload_n hx hb dL_law_1031 rfl (lv_at hl 0 rfl) ?_
  refine lv_iconst (v := 1) hx hb dL_law_1032 (by decide) ?_
  refine lv_iadd hx hb dL_law_1033 ?_
  refine lv_topi (fun x_1 ex_1 => ?_)
  obtain rfl : x_1 = 1 := ex_1.trans (by first | rfl | decide)
  refine va_sld hx hb hX hbl hbA hS (i_in (x := 1) rfl (by omega)) dL_law_1034 ?_
  refine W.eq (g2 := F0 m 1035 ls [.int (xs 1), .ref z0]) rfl ?_
  refine kci (wr := [(z28, .inr (12, [.int 0, .int 0, .ref z29, .ref z30, .ref z31, .ref z32, .ref z33, .ref z34, .int 0, .ref z35, .ref z36, .int 0, .ref z37, .int 0, .int 0, .int 0, .int 0, .long 0, .int (-1), .int 0, .int 0, .int 0, .ref z38, .int 0, .ref z39, .ref z40, .int 0, .ref z41, .ref z42, .int 0, .int 0, .ref z43, .ref z44, .ref z45, .int 0, .ref z46, .ref z47, .ref z48, .int 0, .long 0, .long 0, .ref z49, .ref z50, .ref z51, .ref z52, .ref z53, .ref z54, .ref z55, .ref z56, .ref z57, .ref z58, .ref z59, .int 0, .int 0, .int (-1), .int 0, .long 0, .ref z60, .int 0, .int (-1)])), (z29, .inl (K 0, 7, .inl (fun _ => 0))), (z30, .inl (K 0, 5500, .inl row0)), (z31, .inl (K 0, 11000, .inl (fun _ => 0))), (z32, .inl (K 1, 2, .inl (fun _ => 0)))]) (va_runV (As := [.int (xs 1)]) (rest := []) ⟨hx, hb, hml, hown, hts⟩ (t_image l D K z0 (xs 1) z1 z2 z3 (.ref z4) (.ref z5) (.ref z6) (.ref z7) (.ref z8) (.ref z9) (.ref z10) (.ref z11) (.ref z12) z13 (.int 0) (.int 0) (.int 0) (.int 0) (fun _ => 0) z14 z15 z16 z17 z18 z20 z21 z22 z23 z19 z24 z25 z26 z27 H.size) (cwV 1 hts gL_X11_image rfl rfl rfl (by decide +kernel) ⟨Nat.le_of_ble_eq_true rfl, Nat.le_of_ble_eq_true rfl⟩) (mkV hK hN (hP.sub [0, 18, 6, 17, 1, 2, 3, 4, 5, 7, 12, 8, 13, 9, 14, 10, 15, 11, 16] rfl) (hD.sub [0, 18, 6, 17, 1, 2, 3, 4, 5, 7, 12, 8, 13, 9, 14, 10, 15, 11, 16] (by decide) rfl) (ci := 11) (q0 := 0) rfl rfl) rfl rfl hl.1 rfl (lv_room (Nat.le_of_ble_eq_true rfl)) dL_law_1035 ⟨Nat.le_of_ble_eq_true rfl, Nat.le_of_ble_eq_true rfl⟩) hP hD hS hA [0, 18, 6, 17, 1, 2, 3, 4, 5, 7, 12, 8, 13, 9, 14, 10, 15, 11, 16] [19, 20, 21, 22, 23] rfl rfl (by decide) (by decide) (fun r_2 u_3 H locs hw hP hD hS => ?_)
  have hP : va_P D vwCl [(z28, .inr (12, [.int 0, .int 0, .ref z29, .ref z30, .ref z31, .ref z32, .ref z33, .ref z34, .int 0, .ref z35, .ref z36, .int 0, .ref z37, .int 0, .int 0, .int 0, .int 0, .long 0, .int (-1), .int 0, .int 0, .int 0, .ref z38, .int 0, .ref z39, .ref z40, .int 0, .ref z41, .ref z42, .int 0, .int 0, .ref z43, .ref z44, .ref z45, .int 0, .ref z46, .ref z47, .ref z48, .int 0, .long 0, .long 0, .ref z49, .ref z50, .ref z51, .ref z52, .ref z53, .ref z54, .ref z55, .ref z56, .ref z57, .ref z58, .ref z59, .int 0, .int 0, .int (-1), .int 0, .long 0, .ref z60, .int 0, .int (-1)])), (z29, .inl (K 0, 7, .inl (fun _ => 0))), (z30, .inl (K 0, 5500, .inl row0)), (z31, .inl (K 0, 11000, .inl (fun _ => 0))), (z32, .inl (K 1, 2, .inl (fun _ => 0)))] H := hP
  have hD : va_D A [(z28, .inr (12, [.int 0, .int 0, .ref z29, .ref z30, .ref z31, .ref z32, .ref z33, .ref z34, .int 0, .ref z35, .ref z36, .int 0, .ref z37, .int 0, .int 0, .int 0, .int 0, .long 0, .int (-1), .int 0, .int 0, .int 0, .ref z38, .int 0, .ref z39, .ref z40, .int 0, .ref z41, .ref z42, .int 0, .int 0, .ref z43, .ref z44, .ref z45, .int 0, .ref z46, .ref z47, .ref z48, .int 0, .long 0, .long 0, .ref z49, .ref z50, .ref z51, .ref z52, .ref z53, .ref z54, .ref z55, .ref z56, .ref z57, .ref z58, .ref z59, .int 0, .int 0, .int (-1), .int 0, .long 0, .ref z60, .int 0, .int (-1)])), (z29, .inl (K 0, 7, .inl (fun _ => 0))), (z30, .inl (K 0, 5500, .inl row0)), (z31, .inl (K 0, 11000, .inl (fun _ => 0))), (z32, .inl (K 1, 2, .inl (fun _ => 0)))] := hD
  have hv_4 := hw
  refine lv_aload_n hx hb dL_law_1038 rfl (lv_at hl 1 rfl) ?_
  refine lv_aload_n hx hb dL_law_1039 rfl (lv_at hl 3 rfl) ?_
  refine lv_iload_n hx hb dL_law_1040 rfl (lv_at hl 0 rfl) ?_
  refine lv_iconst (v := 1) hx hb dL_law_1041 (by decide) ?_
  refine lv_iadd hx hb dL_law_1042 ?_
  refine lv_topi (fun x_5 ex_5 => ?_)
  obtain rfl : x_5 = 1 := ex_5.trans (by first | rfl | decide)
  refine va_sld hx hb hX hbl hbA hS (i_in (x := 1) rfl (by omega)) dL_law_1043 ?_
  refine W.eq (g2 := F0 m 1044 ls [.int (xs 1), .ref z28, .int r_2]) rfl ?_
  refine kci (wr := []) (va_runV (As := [.int (xs 1)]) (rest := [.int r_2]) ⟨hx, hb, hml, hown, hts⟩ (r_image l D K z28 (xs 1) (.int 0) (.int 0) z29 z30 z31 z32 (.ref z33) (.ref z34) (.int 0) (.ref z35) (.ref z36) (.int 0) (.ref z37) (.int 0) (.int 0) (.int 0) (.int 0) (.long 0) (.int (-1)) (.int 0) (.int 0) (.int 0) (.ref z38) (.int 0) (.ref z39) (.ref z40) (.int 0) (.ref z41) (.ref z42) (.int 0) (.int 0) (.ref z43) (.ref z44) (.ref z45) (.int 0) (.ref z46) (.ref z47) (.ref z48) (.int 0) (.long 0) (.long 0) (.ref z49) (.ref z50) (.ref z51) (.ref z52) (.ref z53) (.ref z54) (.ref z55) (.ref z56) (.ref z57) (.ref z58) (.ref z59) (.int 0) (.int 0) (.int (-1)) (.int 0) (.long 0) (.ref z60) (.int 0) (.int (-1)) H.size) (cwV 1 hts gL_X12_image rfl rfl rfl (by decide +kernel) ⟨Nat.le_of_ble_eq_true rfl, Nat.le_of_ble_eq_true rfl⟩) (mkV hK hN (hP.sub [0, 2, 1, 3, 4] rfl) (hD.sub [0, 2, 1, 3, 4] (by decide) rfl) (ci := 12) (q0 := 0) rfl rfl) rfl rfl hl.1 rfl (lv_room (Nat.le_of_ble_eq_true rfl)) dL_law_1044 ⟨Nat.le_of_ble_eq_true rfl, Nat.le_of_ble_eq_true rfl⟩) hP hD hS hA [0, 2, 1, 3, 4] [] rfl rfl (by decide) (by decide) (fun r_6 u_7 H locs hw hP hD hS => ?_)
  have hP : va_P D vwCl [] H := hP
  have hD : va_D A [] := hD
  have hv_8 := hw
  have heq : r_2 = r_6 := by
    try dsimp only at hv_4 hv_8
    rcases hv_4 with ⟨rfl, k00, k01⟩ | ⟨rfl, k10⟩ <;> rcases hv_8 with ⟨rfl, j00, j01⟩ | ⟨rfl, j10⟩ <;> first | rfl | (exfalso; omega)
  refine lv_icmp_eq (tgt := 1111) hx hb dL_law_1047 (by decide) (fun cq => ?_) (fun cq => absurd heq cq)
  refine lv_iinc (v := 6) (lv' := [(3, .int 6), (2, .ref z28), (1, .ref z0), (0, .ref b)]) hx hb dL_law_1111 hl (k := 0) rfl (by decide) (by decide) rfl (fun ls hl => ?_)
  refine lv_goto (tgt := 18) hx hb dL_law_1114 (by decide) ?_
  refine lv_iload_n hx hb dL_law_18 rfl (lv_at hl 0 rfl) ?_
  refine lv_aload_n hx hb dL_law_19 rfl (lv_at hl 3 rfl) ?_
  refine va_slen hx hb hX hbl hbA hS dL_law_20 ?_
  refine W.eq (g2 := F0 m 21 ls [.int 6, .int 6]) rfl ?_
  refine lv_bipush (v := 6) hx hb dL_law_21 (by decide) ?_
  refine lv_isub hx hb dL_law_23 ?_
  refine lv_topi (fun x_9 ex_9 => ?_)
  obtain rfl : x_9 = 0 := ex_9.trans (by first | rfl | decide)
  refine lv_icmp_gt (tgt := 1117) hx hb dL_law_24 (by decide) (fun cq => ?_) (fun cq => absurd (by decide) cq)
  refine lv_iconst (v := 1) hx hb dL_law_1117 (by decide) ?_
  refine va_forget (fun q hq => hA0 _ (hS.2.2 q hq)) ?_
  refine W.widen (k := 600000) (n := 7302250) (by decide) (by decide) ?_
  exact lw_ret hx hb hr hlocks dL_law_1118
set_option maxHeartbeats 4000000 in
set_option maxRecDepth 100000 in
theorem law_33 {p : Program} {e : Env} {s : State} {m : MethodId} {below : List Frame} {meth : Method} {c : Code} (l : Launch) {b : Nat} {xs : Nat → Int32} (C0 : lw_At p s m meth c b 6 xs) (D : va_G) (K : Nat → ClassId) (hK : va_K D vwCl (KT K) s) (hN : lw_N s) {A : Nat → Prop} (hA : ∀ q, s.heap.size ≤ q → A q) (hA0 : ∀ q, A q → s.heap.size ≤ q) (hbA : ¬ A b) (z0 z1 z2 z3 z4 z5 z6 z7 z8 z9 z10 z11 z12 z13 z14 z15 z16 z17 z18 z19 z20 z21 z22 z23 z24 z25 z26 z27 z28 z29 z30 z31 z32 z33 z34 z35 z36 z37 z38 z39 z40 z41 z42 z43 z44 z45 z46 : Nat) (H : Heap) (locs : List Loc) (hP : va_P D vwCl [(z0, .inr (11, [.ref z1, .ref z2, .ref z3, .ref z4, .ref z5, .ref z6, .ref z7, .ref z8, .ref z9, .ref z10, .ref z11, .ref z12, .ref z13, .int 0, .int 0, .int 0, .int 0])), (z3, .inl (K 1, 2, .inl (fun _ => 0))), (z13, .inl (K 0, 5, .inl (fun _ => 0))), (z14, .inr (12, [.int 0, .int 0, .ref z15, .ref z16, .ref z17, .ref z18, .ref z19, .ref z20, .int 0, .ref z21, .ref z22, .int 0, .ref z23, .int 0, .int 0, .int 0, .int 0, .long 0, .int (-1), .int 0, .int 0, .int 0, .ref z24, .int 0, .ref z25, .ref z26, .int 0, .ref z27, .ref z28, .int 0, .int 0, .ref z29, .ref z30, .ref z31, .int 0, .ref z32, .ref z33, .ref z34, .int 0, .long 0, .long 0, .ref z35, .ref z36, .ref z37, .ref z38, .ref z39, .ref z40, .ref z41, .ref z42, .ref z43, .ref z44, .ref z45, .int 0, .int 0, .int (-1), .int 0, .long 0, .ref z46, .int 0, .int (-1)])), (z15, .inl (K 0, 7, .inl (fun _ => 0))), (z18, .inl (K 1, 2, .inl (fun _ => 0)))] H) (hD : va_D A [(z0, .inr (11, [.ref z1, .ref z2, .ref z3, .ref z4, .ref z5, .ref z6, .ref z7, .ref z8, .ref z9, .ref z10, .ref z11, .ref z12, .ref z13, .int 0, .int 0, .int 0, .int 0])), (z3, .inl (K 1, 2, .inl (fun _ => 0))), (z13, .inl (K 0, 5, .inl (fun _ => 0))), (z14, .inr (12, [.int 0, .int 0, .ref z15, .ref z16, .ref z17, .ref z18, .ref z19, .ref z20, .int 0, .ref z21, .ref z22, .int 0, .ref z23, .int 0, .int 0, .int 0, .int 0, .long 0, .int (-1), .int 0, .int 0, .int 0, .ref z24, .int 0, .ref z25, .ref z26, .int 0, .ref z27, .ref z28, .int 0, .int 0, .ref z29, .ref z30, .ref z31, .int 0, .ref z32, .ref z33, .ref z34, .int 0, .long 0, .long 0, .ref z35, .ref z36, .ref z37, .ref z38, .ref z39, .ref z40, .ref z41, .ref z42, .ref z43, .ref z44, .ref z45, .int 0, .int 0, .int (-1), .int 0, .long 0, .ref z46, .int 0, .int (-1)])), (z15, .inl (K 0, 7, .inl (fun _ => 0))), (z18, .inl (K 1, 2, .inl (fun _ => 0)))]) (hS : va_S A s.heap H locs) (ls : Array Slot) (hl : lv_has ls 4 [(3, .int 0), (2, .ref z14), (1, .ref z0), (0, .ref b)]) : W p l e room_1 s m #[Value.ref b] below meth c H locs 97 27561 (lw_Z below #[Value.ref b] s) (F0 m 1052 ls []) := by
  obtain ⟨hx, hb, hr, hml, hown, hts, hX, hbl, hlocks, hgv⟩ := C0
  have hown : s.vm.findClass RL = some m.cls := hown
  refine lv_aload_n hx hb dL_law_1052 rfl (lv_at hl 2 rfl) ?_
  refine lv_aload_n hx hb dL_law_1053 rfl (lv_at hl 3 rfl) ?_
  refine lv_iload_n hx hb dL_law_1054 rfl (lv_at hl 0 rfl) ?_
  refine lv_iconst (v := 1) hx hb dL_law_1055 (by decide) ?_
  refine lv_iadd hx hb dL_law_1056 ?_
  refine lv_topi (fun x_1 ex_1 => ?_)
  obtain rfl : x_1 = 1 := ex_1.trans (by first | rfl | decide)
  refine va_sld hx hb hX hbl hbA hS (i_in (x := 1) rfl (by omega)) dL_law_1057 ?_
  refine W.eq (g2 := F0 m 1058 ls [.int (xs 1), .ref z0]) rfl ?_
  refine kci (wr := [(z14, .inr (12, [.int 0, .int 0, .ref z15, .ref z16, .ref z17, .ref z18, .ref z19, .ref z20, .int 0, .ref z21, .ref z22, .int 0, .ref z23, .int 0, .int 0, .int 0, .int 0, .long 0, .int (-1), .int 0, .int 0, .int 0, .ref z24, .int 0, .ref z25, .ref z26, .int 0, .ref z27, .ref z28, .int 0, .int 0, .ref z29, .ref z30, .ref z31, .int 0, .ref z32, .ref z33, .ref z34, .int 0, .long 0, .long 0, .ref z35, .ref z36, .ref z37, .ref z38, .ref z39, .ref z40, .ref z41, .ref z42, .ref z43, .ref z44, .ref z45, .int 0, .int 0, .int (-1), .int 0, .long 0, .ref z46, .int 0, .int (-1)])), (z15, .inl (K 0, 7, .inl (fun _ => 0))), (z18, .inl (K 1, 2, .inl (fun _ => 0)))]) (va_runV (As := [.int (xs 1)]) (rest := []) ⟨hx, hb, hml, hown, hts⟩ (t_back l D K z0 (xs 1) (.ref z1) (.ref z2) z3 (.ref z4) (.ref z5) (.ref z6) (.ref z7) (.ref z8) (.ref z9) (.ref z10) (.ref z11) (.ref z12) z13 (.int 0) (.int 0) (.int 0) (.int 0) (fun _ => 0) H.size) (cwV 1 hts gL_X11_back rfl rfl rfl (by decide +kernel) ⟨Nat.le_of_ble_eq_true rfl, Nat.le_of_ble_eq_true rfl⟩) (mkV hK hN (hP.sub [0, 2, 1] rfl) (hD.sub [0, 2, 1] (by decide) rfl) (ci := 11) (q0 := 0) rfl rfl) rfl rfl hl.1 rfl (lv_room (Nat.le_of_ble_eq_true rfl)) dL_law_1058 ⟨Nat.le_of_ble_eq_true rfl, Nat.le_of_ble_eq_true rfl⟩) hP hD hS hA [0, 2, 1] [3, 4, 5] rfl rfl (by decide) (by decide) (fun r_2 u_3 H locs hw hP hD hS => ?_)
  have hP : va_P D vwCl [(z14, .inr (12, [.int 0, .int 0, .ref z15, .ref z16, .ref z17, .ref z18, .ref z19, .ref z20, .int 0, .ref z21, .ref z22, .int 0, .ref z23, .int 0, .int 0, .int 0, .int 0, .long 0, .int (-1), .int 0, .int 0, .int 0, .ref z24, .int 0, .ref z25, .ref z26, .int 0, .ref z27, .ref z28, .int 0, .int 0, .ref z29, .ref z30, .ref z31, .int 0, .ref z32, .ref z33, .ref z34, .int 0, .long 0, .long 0, .ref z35, .ref z36, .ref z37, .ref z38, .ref z39, .ref z40, .ref z41, .ref z42, .ref z43, .ref z44, .ref z45, .int 0, .int 0, .int (-1), .int 0, .long 0, .ref z46, .int 0, .int (-1)])), (z15, .inl (K 0, 7, .inl (fun _ => 0))), (z18, .inl (K 1, 2, .inl (fun _ => 0)))] H := hP
  have hD : va_D A [(z14, .inr (12, [.int 0, .int 0, .ref z15, .ref z16, .ref z17, .ref z18, .ref z19, .ref z20, .int 0, .ref z21, .ref z22, .int 0, .ref z23, .int 0, .int 0, .int 0, .int 0, .long 0, .int (-1), .int 0, .int 0, .int 0, .ref z24, .int 0, .ref z25, .ref z26, .int 0, .ref z27, .ref z28, .int 0, .int 0, .ref z29, .ref z30, .ref z31, .int 0, .ref z32, .ref z33, .ref z34, .int 0, .long 0, .long 0, .ref z35, .ref z36, .ref z37, .ref z38, .ref z39, .ref z40, .ref z41, .ref z42, .ref z43, .ref z44, .ref z45, .int 0, .int 0, .int (-1), .int 0, .long 0, .ref z46, .int 0, .int (-1)])), (z15, .inl (K 0, 7, .inl (fun _ => 0))), (z18, .inl (K 1, 2, .inl (fun _ => 0)))] := hD
  have hv_4 := hw
  refine lv_aload_n hx hb dL_law_1061 rfl (lv_at hl 1 rfl) ?_
  refine lv_aload_n hx hb dL_law_1062 rfl (lv_at hl 3 rfl) ?_
  refine lv_iload_n hx hb dL_law_1063 rfl (lv_at hl 0 rfl) ?_
  refine lv_iconst (v := 1) hx hb dL_law_1064 (by decide) ?_
  refine lv_iadd hx hb dL_law_1065 ?_
  refine lv_topi (fun x_5 ex_5 => ?_)
  obtain rfl : x_5 = 1 := ex_5.trans (by first | rfl | decide)
  refine va_sld hx hb hX hbl hbA hS (i_in (x := 1) rfl (by omega)) dL_law_1066 ?_
  refine W.eq (g2 := F0 m 1067 ls [.int (xs 1), .ref z14, .int r_2]) rfl ?_
  refine kci (wr := []) (va_runV (As := [.int (xs 1)]) (rest := [.int r_2]) ⟨hx, hb, hml, hown, hts⟩ (r_back l D K z14 (xs 1) (.int 0) (.int 0) z15 (.ref z16) (.ref z17) z18 (.ref z19) (.ref z20) (.int 0) (.ref z21) (.ref z22) (.int 0) (.ref z23) (.int 0) (.int 0) (.int 0) (.int 0) (.long 0) (.int (-1)) (.int 0) (.int 0) (.int 0) (.ref z24) (.int 0) (.ref z25) (.ref z26) (.int 0) (.ref z27) (.ref z28) (.int 0) (.int 0) (.ref z29) (.ref z30) (.ref z31) (.int 0) (.ref z32) (.ref z33) (.ref z34) (.int 0) (.long 0) (.long 0) (.ref z35) (.ref z36) (.ref z37) (.ref z38) (.ref z39) (.ref z40) (.ref z41) (.ref z42) (.ref z43) (.ref z44) (.ref z45) (.int 0) (.int 0) (.int (-1)) (.int 0) (.long 0) (.ref z46) (.int 0) (.int (-1)) H.size) (cwV 1 hts gL_X12_back rfl rfl rfl (by decide +kernel) ⟨Nat.le_of_ble_eq_true rfl, Nat.le_of_ble_eq_true rfl⟩) (mkV hK hN (hP.sub [0, 1, 2] rfl) (hD.sub [0, 1, 2] (by decide) rfl) (ci := 12) (q0 := 0) rfl rfl) rfl rfl hl.1 rfl (lv_room (Nat.le_of_ble_eq_true rfl)) dL_law_1067 ⟨Nat.le_of_ble_eq_true rfl, Nat.le_of_ble_eq_true rfl⟩) hP hD hS hA [0, 1, 2] [] rfl rfl (by decide) (by decide) (fun r_6 u_7 H locs hw hP hD hS => ?_)
  have hP : va_P D vwCl [] H := hP
  have hD : va_D A [] := hD
  have hv_8 := hw
  have heq : r_2 = r_6 := by
    try dsimp only at hv_4 hv_8
    rcases hv_4 with ⟨rfl, k00, k01⟩ | ⟨rfl, k10⟩ <;> rcases hv_8 with ⟨rfl, j00, j01⟩ | ⟨rfl, j10⟩ <;> first | rfl | (exfalso; omega)
  refine lv_icmp_eq (tgt := 1111) hx hb dL_law_1070 (by decide) (fun cq => ?_) (fun cq => absurd heq cq)
  refine lv_iinc (v := 6) (lv' := [(3, .int 6), (2, .ref z14), (1, .ref z0), (0, .ref b)]) hx hb dL_law_1111 hl (k := 0) rfl (by decide) (by decide) rfl (fun ls hl => ?_)
  refine lv_goto (tgt := 18) hx hb dL_law_1114 (by decide) ?_
  refine lv_iload_n hx hb dL_law_18 rfl (lv_at hl 0 rfl) ?_
  refine lv_aload_n hx hb dL_law_19 rfl (lv_at hl 3 rfl) ?_
  refine va_slen hx hb hX hbl hbA hS dL_law_20 ?_
  refine W.eq (g2 := F0 m 21 ls [.int 6, .int 6]) rfl ?_
  refine lv_bipush (v := 6) hx hb dL_law_21 (by decide) ?_
  refine lv_isub hx hb dL_law_23 ?_
  refine lv_topi (fun x_9 ex_9 => ?_)
  obtain rfl : x_9 = 0 := ex_9.trans (by first | rfl | decide)
  refine lv_icmp_gt (tgt := 1117) hx hb dL_law_24 (by decide) (fun cq => ?_) (fun cq => absurd (by decide) cq)
  refine lv_iconst (v := 1) hx hb dL_law_1117 (by decide) ?_
  refine va_forget (fun q hq => hA0 _ (hS.2.2 q hq)) ?_
  refine W.widen (k := 600000) (n := 7302250) (by decide) (by decide) ?_
  exact lw_ret hx hb hr hlocks dL_law_1118
set_option maxHeartbeats 4000000 in
set_option maxRecDepth 100000 in
theorem law_34 {p : Program} {e : Env} {s : State} {m : MethodId} {below : List Frame} {meth : Method} {c : Code} (l : Launch) {b : Nat} {xs : Nat → Int32} (C0 : lw_At p s m meth c b 6 xs) (D : va_G) (K : Nat → ClassId) (hK : va_K D vwCl (KT K) s) (hN : lw_N s) {A : Nat → Prop} (hA : ∀ q, s.heap.size ≤ q → A q) (hA0 : ∀ q, A q → s.heap.size ≤ q) (hbA : ¬ A b) (z0 z1 z2 z3 z4 z5 z6 z7 z8 z9 z10 z11 z12 z13 z14 z15 z16 z17 z18 z19 z20 z21 z22 z23 z24 z25 z26 z27 z28 z29 z30 z31 z32 z33 z34 z35 z36 z37 z38 z39 z40 z41 z42 z43 z44 z45 z46 z47 z48 z49 z50 z51 z52 : Nat) (H : Heap) (locs : List Loc) (hP : va_P D vwCl [(z0, .inr (11, [.ref z1, .ref z2, .ref z3, .ref z4, .ref z5, .ref z6, .ref z7, .ref z8, .ref z9, .ref z10, .ref z11, .ref z12, .ref z13, .int 0, .int 0, .int 0, .int 0])), (z1, .inr (9, [.ref z14, .ref z15, .ref z16, .ref z17, .int 0, .int 0, .int (-1), .int 0, .int 0, .int 0])), (z16, .inl (K 0, 6, .inl tm0)), (z6, .inr (8, [.ref z18, .int 0, .int 0, .int 0, .int (-1), .int (-1)])), (z10, .inr (2, [.ref z19, .int 0, .int 0])), (z13, .inl (K 0, 5, .inl (fun _ => 0))), (z20, .inr (12, [.int 0, .int 0, .ref z21, .ref z22, .ref z23, .ref z24, .ref z25, .ref z26, .int 0, .ref z27, .ref z28, .int 0, .ref z29, .int 0, .int 0, .int 0, .int 0, .long 0, .int (-1), .int 0, .int 0, .int 0, .ref z30, .int 0, .ref z31, .ref z32, .int 0, .ref z33, .ref z34, .int 0, .int 0, .ref z35, .ref z36, .ref z37, .int 0, .ref z38, .ref z39, .ref z40, .int 0, .long 0, .long 0, .ref z41, .ref z42, .ref z43, .ref z44, .ref z45, .ref z46, .ref z47, .ref z48, .ref z49, .ref z50, .ref z51, .int 0, .int 0, .int (-1), .int 0, .long 0, .ref z52, .int 0, .int (-1)])), (z21, .inl (K 0, 7, .inl (fun _ => 0))), (z22, .inl (K 0, 5500, .inl row0))] H) (hD : va_D A [(z0, .inr (11, [.ref z1, .ref z2, .ref z3, .ref z4, .ref z5, .ref z6, .ref z7, .ref z8, .ref z9, .ref z10, .ref z11, .ref z12, .ref z13, .int 0, .int 0, .int 0, .int 0])), (z1, .inr (9, [.ref z14, .ref z15, .ref z16, .ref z17, .int 0, .int 0, .int (-1), .int 0, .int 0, .int 0])), (z16, .inl (K 0, 6, .inl tm0)), (z6, .inr (8, [.ref z18, .int 0, .int 0, .int 0, .int (-1), .int (-1)])), (z10, .inr (2, [.ref z19, .int 0, .int 0])), (z13, .inl (K 0, 5, .inl (fun _ => 0))), (z20, .inr (12, [.int 0, .int 0, .ref z21, .ref z22, .ref z23, .ref z24, .ref z25, .ref z26, .int 0, .ref z27, .ref z28, .int 0, .ref z29, .int 0, .int 0, .int 0, .int 0, .long 0, .int (-1), .int 0, .int 0, .int 0, .ref z30, .int 0, .ref z31, .ref z32, .int 0, .ref z33, .ref z34, .int 0, .int 0, .ref z35, .ref z36, .ref z37, .int 0, .ref z38, .ref z39, .ref z40, .int 0, .long 0, .long 0, .ref z41, .ref z42, .ref z43, .ref z44, .ref z45, .ref z46, .ref z47, .ref z48, .ref z49, .ref z50, .ref z51, .int 0, .int 0, .int (-1), .int 0, .long 0, .ref z52, .int 0, .int (-1)])), (z21, .inl (K 0, 7, .inl (fun _ => 0))), (z22, .inl (K 0, 5500, .inl row0))]) (hS : va_S A s.heap H locs) (ls : Array Slot) (hl : lv_has ls 4 [(3, .int 0), (2, .ref z20), (1, .ref z0), (0, .ref b)]) : W p l e room_1 s m #[Value.ref b] below meth c H locs 97 27561 (lw_Z below #[Value.ref b] s) (F0 m 1075 ls []) := by
  obtain ⟨hx, hb, hr, hml, hown, hts, hX, hbl, hlocks, hgv⟩ := C0
  have hown : s.vm.findClass RL = some m.cls := hown
  refine lv_aload_n hx hb dL_law_1075 rfl (lv_at hl 2 rfl) ?_
  refine lv_aload_n hx hb dL_law_1076 rfl (lv_at hl 3 rfl) ?_
  refine lv_iload_n hx hb dL_law_1077 rfl (lv_at hl 0 rfl) ?_
  refine lv_iconst (v := 1) hx hb dL_law_1078 (by decide) ?_
  refine lv_iadd hx hb dL_law_1079 ?_
  refine lv_topi (fun x_1 ex_1 => ?_)
  obtain rfl : x_1 = 1 := ex_1.trans (by first | rfl | decide)
  refine va_sld hx hb hX hbl hbA hS (i_in (x := 1) rfl (by omega)) dL_law_1080 ?_
  refine W.eq (g2 := F0 m 1081 ls [.int (xs 1), .ref z0]) rfl ?_
  refine pci (va_runV (As := [.int (xs 1)]) (rest := []) ⟨hx, hb, hml, hown, hts⟩ (t_count l D K z0 (xs 1) z1 (.ref z2) (.ref z3) (.ref z4) (.ref z5) z6 (.ref z7) (.ref z8) (.ref z9) z10 (.ref z11) (.ref z12) z13 (.int 0) (.int 0) (.int 0) (.int 0) (.ref z14) (.ref z15) z16 (.ref z17) (.int 0) (.ref z18) (.int 0) (.int 0) (.int (-1)) (.int (-1)) (.ref z19) (.int 0) H.size) (cwV 1 hts gL_X11_count rfl rfl rfl (by decide +kernel) ⟨Nat.le_of_ble_eq_true rfl, Nat.le_of_ble_eq_true rfl⟩) (mkV hK hN (hP.sub [0, 5, 1, 3, 4, 2] rfl) (hD.sub [0, 5, 1, 3, 4, 2] (by decide) rfl) (ci := 11) (q0 := 0) rfl rfl) rfl rfl hl.1 rfl (lv_room (Nat.le_of_ble_eq_true rfl)) dL_law_1081 ⟨Nat.le_of_ble_eq_true rfl, Nat.le_of_ble_eq_true rfl⟩) (fun r_2 hw => ?_)
  have hv_3 := hw
  refine lv_aload_n hx hb dL_law_1084 rfl (lv_at hl 1 rfl) ?_
  refine lv_aload_n hx hb dL_law_1085 rfl (lv_at hl 3 rfl) ?_
  refine lv_iload_n hx hb dL_law_1086 rfl (lv_at hl 0 rfl) ?_
  refine lv_iconst (v := 1) hx hb dL_law_1087 (by decide) ?_
  refine lv_iadd hx hb dL_law_1088 ?_
  refine lv_topi (fun x_4 ex_4 => ?_)
  obtain rfl : x_4 = 1 := ex_4.trans (by first | rfl | decide)
  refine va_sld hx hb hX hbl hbA hS (i_in (x := 1) rfl (by omega)) dL_law_1089 ?_
  refine W.eq (g2 := F0 m 1090 ls [.int (xs 1), .ref z20, .int r_2]) rfl ?_
  refine kci (wr := [(z0, .inr (11, [.ref z1, .ref z2, .ref z3, .ref z4, .ref z5, .ref z6, .ref z7, .ref z8, .ref z9, .ref z10, .ref z11, .ref z12, .ref z13, .int 0, .int 0, .int 0, .int 0])), (z1, .inr (9, [.ref z14, .ref z15, .ref z16, .ref z17, .int 0, .int 0, .int (-1), .int 0, .int 0, .int 0])), (z16, .inl (K 0, 6, .inl tm0)), (z6, .inr (8, [.ref z18, .int 0, .int 0, .int 0, .int (-1), .int (-1)])), (z10, .inr (2, [.ref z19, .int 0, .int 0])), (z13, .inl (K 0, 5, .inl (fun _ => 0)))]) (va_runV (As := [.int (xs 1)]) (rest := [.int r_2]) ⟨hx, hb, hml, hown, hts⟩ (r_count l D K z20 (xs 1) (.int 0) (.int 0) z21 z22 (.ref z23) (.ref z24) (.ref z25) (.ref z26) (.ref z27) (.ref z28) (.int 0) (.ref z29) (.int 0) (.int 0) (.int 0) (.long 0) (.int (-1)) (.int 0) (.int 0) (.int 0) (.ref z30) (.int 0) (.ref z31) (.ref z32) (.int 0) (.ref z33) (.ref z34) (.int 0) (.int 0) (.ref z35) (.ref z36) (.ref z37) (.int 0) (.ref z38) (.ref z39) (.ref z40) (.int 0) (.long 0) (.long 0) (.ref z41) (.ref z42) (.ref z43) (.ref z44) (.ref z45) (.ref z46) (.ref z47) (.ref z48) (.ref z49) (.ref z50) (.ref z51) (.int 0) (.int 0) (.int (-1)) (.int 0) (.long 0) (.ref z52) (.int 0) (.int (-1)) H.size) (cwV 1 hts gL_X12_count rfl rfl rfl (by decide +kernel) ⟨Nat.le_of_ble_eq_true rfl, Nat.le_of_ble_eq_true rfl⟩) (mkV hK hN (hP.sub [6, 8, 7] rfl) (hD.sub [6, 8, 7] (by decide) rfl) (ci := 12) (q0 := 0) rfl rfl) rfl rfl hl.1 rfl (lv_room (Nat.le_of_ble_eq_true rfl)) dL_law_1090 ⟨Nat.le_of_ble_eq_true rfl, Nat.le_of_ble_eq_true rfl⟩) hP hD hS hA [6, 8, 7] [0, 1, 2, 3, 4, 5] rfl rfl (by decide) (by decide) (fun r_5 u_6 H locs hw hP hD hS => ?_)
  have hP : va_P D vwCl [(z0, .inr (11, [.ref z1, .ref z2, .ref z3, .ref z4, .ref z5, .ref z6, .ref z7, .ref z8, .ref z9, .ref z10, .ref z11, .ref z12, .ref z13, .int 0, .int 0, .int 0, .int 0])), (z1, .inr (9, [.ref z14, .ref z15, .ref z16, .ref z17, .int 0, .int 0, .int (-1), .int 0, .int 0, .int 0])), (z16, .inl (K 0, 6, .inl tm0)), (z6, .inr (8, [.ref z18, .int 0, .int 0, .int 0, .int (-1), .int (-1)])), (z10, .inr (2, [.ref z19, .int 0, .int 0])), (z13, .inl (K 0, 5, .inl (fun _ => 0)))] H := hP
  have hD : va_D A [(z0, .inr (11, [.ref z1, .ref z2, .ref z3, .ref z4, .ref z5, .ref z6, .ref z7, .ref z8, .ref z9, .ref z10, .ref z11, .ref z12, .ref z13, .int 0, .int 0, .int 0, .int 0])), (z1, .inr (9, [.ref z14, .ref z15, .ref z16, .ref z17, .int 0, .int 0, .int (-1), .int 0, .int 0, .int 0])), (z16, .inl (K 0, 6, .inl tm0)), (z6, .inr (8, [.ref z18, .int 0, .int 0, .int 0, .int (-1), .int (-1)])), (z10, .inr (2, [.ref z19, .int 0, .int 0])), (z13, .inl (K 0, 5, .inl (fun _ => 0)))] := hD
  have hv_7 := hw
  have heq : r_2 = r_5 := by
    try dsimp only at hv_3 hv_7
    rcases hv_3 with ⟨rfl, k00⟩ | ⟨rfl, k10⟩ | ⟨rfl, k20⟩ | ⟨rfl, k30⟩ <;> rcases hv_7 with ⟨rfl, j00⟩ | ⟨rfl, j10⟩ | ⟨rfl, j20⟩ | ⟨rfl, j30⟩ <;> first | rfl | (exfalso; omega)
  refine lv_icmp_eq (tgt := 1111) hx hb dL_law_1093 (by decide) (fun cq => ?_) (fun cq => absurd heq cq)
  refine lv_iinc (v := 6) (lv' := [(3, .int 6), (2, .ref z20), (1, .ref z0), (0, .ref b)]) hx hb dL_law_1111 hl (k := 0) rfl (by decide) (by decide) rfl (fun ls hl => ?_)
  refine lv_goto (tgt := 18) hx hb dL_law_1114 (by decide) ?_
  refine lv_iload_n hx hb dL_law_18 rfl (lv_at hl 0 rfl) ?_
  refine lv_aload_n hx hb dL_law_19 rfl (lv_at hl 3 rfl) ?_
  refine va_slen hx hb hX hbl hbA hS dL_law_20 ?_
  refine W.eq (g2 := F0 m 21 ls [.int 6, .int 6]) rfl ?_
  refine lv_bipush (v := 6) hx hb dL_law_21 (by decide) ?_
  refine lv_isub hx hb dL_law_23 ?_
  refine lv_topi (fun x_8 ex_8 => ?_)
  obtain rfl : x_8 = 0 := ex_8.trans (by first | rfl | decide)
  refine lv_icmp_gt (tgt := 1117) hx hb dL_law_24 (by decide) (fun cq => ?_) (fun cq => absurd (by decide) cq)
  refine lv_iconst (v := 1) hx hb dL_law_1117 (by decide) ?_
  refine va_forget (fun q hq => hA0 _ (hS.2.2 q hq)) ?_
  refine W.widen (k := 600000) (n := 7302250) (by decide) (by decide) ?_
  exact lw_ret hx hb hr hlocks dL_law_1118
