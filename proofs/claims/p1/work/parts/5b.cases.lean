set_option maxHeartbeats 4000000 in
set_option maxRecDepth 100000 in
theorem law_5 {p : Program} {e : Env} {s : State} {m : MethodId} {below : List Frame} {meth : Method} {c : Code} (l : Launch) {b : Nat} {xs : Nat → Int32} (C0 : lw_At p s m meth c b 6 xs) (D : va_G) (K : Nat → ClassId) (hK : va_K D vwCl (KT K) s) (hN : lw_N s) {A : Nat → Prop} (hA : ∀ q, s.heap.size ≤ q → A q) (hA0 : ∀ q, A q → s.heap.size ≤ q) (hbA : ¬ A b) (z0 z1 z2 z3 z4 z5 z6 z7 z8 z9 z10 z11 z12 z13 z14 z15 z16 z17 z18 z19 z20 z21 z22 z23 z24 z25 z26 z27 z28 z29 z30 z31 z32 z33 z34 z35 z36 z37 z38 z39 z40 z41 z42 z43 z44 z45 z46 z47 : Nat) (H : Heap) (locs : List Loc) (hP : va_P D vwCl [(z0, .inr (11, [.ref z1, .ref z2, .ref z3, .ref z4, .ref z5, .ref z6, .ref z7, .ref z8, .ref z9, .ref z10, .ref z11, .ref z12, .ref z13, .int 0, .int 0, .int 0, .int 0])), (z6, .inr (8, [.ref z14, .int 0, .int 0, .int 0, .int (-1), .int (-1)])), (z14, .inl (K 0, 400, .inl (fun _ => 0))), (z15, .inr (12, [.int 0, .int 0, .ref z16, .ref z17, .ref z18, .ref z19, .ref z20, .ref z21, .int 0, .ref z22, .ref z23, .int 0, .ref z24, .int 0, .int 0, .int 0, .int 0, .long 0, .int (-1), .int 0, .int 0, .int 0, .ref z25, .int 0, .ref z26, .ref z27, .int 0, .ref z28, .ref z29, .int 0, .int 0, .ref z30, .ref z31, .ref z32, .int 0, .ref z33, .ref z34, .ref z35, .int 0, .long 0, .long 0, .ref z36, .ref z37, .ref z38, .ref z39, .ref z40, .ref z41, .ref z42, .ref z43, .ref z44, .ref z45, .ref z46, .int 0, .int 0, .int (-1), .int 0, .long 0, .ref z47, .int 0, .int (-1)])), (z24, .inl (K 0, 400, .inl (fun _ => 0)))] H) (hD : va_D A [(z0, .inr (11, [.ref z1, .ref z2, .ref z3, .ref z4, .ref z5, .ref z6, .ref z7, .ref z8, .ref z9, .ref z10, .ref z11, .ref z12, .ref z13, .int 0, .int 0, .int 0, .int 0])), (z6, .inr (8, [.ref z14, .int 0, .int 0, .int 0, .int (-1), .int (-1)])), (z14, .inl (K 0, 400, .inl (fun _ => 0))), (z15, .inr (12, [.int 0, .int 0, .ref z16, .ref z17, .ref z18, .ref z19, .ref z20, .ref z21, .int 0, .ref z22, .ref z23, .int 0, .ref z24, .int 0, .int 0, .int 0, .int 0, .long 0, .int (-1), .int 0, .int 0, .int 0, .ref z25, .int 0, .ref z26, .ref z27, .int 0, .ref z28, .ref z29, .int 0, .int 0, .ref z30, .ref z31, .ref z32, .int 0, .ref z33, .ref z34, .ref z35, .int 0, .long 0, .long 0, .ref z36, .ref z37, .ref z38, .ref z39, .ref z40, .ref z41, .ref z42, .ref z43, .ref z44, .ref z45, .ref z46, .int 0, .int 0, .int (-1), .int 0, .long 0, .ref z47, .int 0, .int (-1)])), (z24, .inl (K 0, 400, .inl (fun _ => 0)))]) (hS : va_S A s.heap H locs) (ls : Array Slot) (hl : lv_has ls 4 [(3, .int 0), (2, .ref z15), (1, .ref z0), (0, .ref b)]) : W p l e room_1 s m #[Value.ref b] below meth c H locs 97 27561 (lw_Z below #[Value.ref b] s) (F0 m 377 ls []) := by
  obtain ⟨hx, hb, hr, hml, hown, hts, hX, hbl, hlocks, hgv⟩ := C0
  have hown : s.vm.findClass RL = some m.cls := hown
  refine lv_aload_n hx hb dL_law_377 rfl (lv_at hl 2 rfl) ?_
  refine lv_aload_n hx hb dL_law_378 rfl (lv_at hl 3 rfl) ?_
  refine lv_iload_n hx hb dL_law_379 rfl (lv_at hl 0 rfl) ?_
  refine lv_iconst (v := 1) hx hb dL_law_380 (by decide) ?_
  refine lv_iadd hx hb dL_law_381 ?_
  refine lv_topi (fun x_1 ex_1 => ?_)
  obtain rfl : x_1 = 1 := ex_1.trans (by first | rfl | decide)
  refine va_sld hx hb hX hbl hbA hS (i_in (x := 1) rfl (by omega)) dL_law_382 ?_
  refine W.eq (g2 := F0 m 383 ls [.int (xs 1), .ref z0]) rfl ?_
  refine lv_aload_n hx hb dL_law_383 rfl (lv_at hl 3 rfl) ?_
  refine lv_iload_n hx hb dL_law_384 rfl (lv_at hl 0 rfl) ?_
  refine lv_iconst (v := 2) hx hb dL_law_385 (by decide) ?_
  refine lv_iadd hx hb dL_law_386 ?_
  refine lv_topi (fun x_2 ex_2 => ?_)
  obtain rfl : x_2 = 2 := ex_2.trans (by first | rfl | decide)
  refine va_sld hx hb hX hbl hbA hS (i_in (x := 2) rfl (by omega)) dL_law_387 ?_
  refine W.eq (g2 := F0 m 388 ls [.int (xs 2), .int (xs 1), .ref z0]) rfl ?_
  refine lv_aload_n hx hb dL_law_388 rfl (lv_at hl 3 rfl) ?_
  refine lv_iload_n hx hb dL_law_389 rfl (lv_at hl 0 rfl) ?_
  refine lv_iconst (v := 3) hx hb dL_law_390 (by decide) ?_
  refine lv_iadd hx hb dL_law_391 ?_
  refine lv_topi (fun x_3 ex_3 => ?_)
  obtain rfl : x_3 = 3 := ex_3.trans (by first | rfl | decide)
  refine va_sld hx hb hX hbl hbA hS (i_in (x := 3) rfl (by omega)) dL_law_392 ?_
  refine W.eq (g2 := F0 m 393 ls [.int (xs 3), .int (xs 2), .int (xs 1), .ref z0]) rfl ?_
  refine lv_aload_n hx hb dL_law_393 rfl (lv_at hl 3 rfl) ?_
  refine lv_iload_n hx hb dL_law_394 rfl (lv_at hl 0 rfl) ?_
  refine lv_iconst (v := 4) hx hb dL_law_395 (by decide) ?_
  refine lv_iadd hx hb dL_law_396 ?_
  refine lv_topi (fun x_4 ex_4 => ?_)
  obtain rfl : x_4 = 4 := ex_4.trans (by first | rfl | decide)
  refine va_sld hx hb hX hbl hbA hS (i_in (x := 4) rfl (by omega)) dL_law_397 ?_
  refine W.eq (g2 := F0 m 398 ls [.int (xs 4), .int (xs 3), .int (xs 2), .int (xs 1), .ref z0]) rfl ?_
  refine lv_aload_n hx hb dL_law_398 rfl (lv_at hl 3 rfl) ?_
  refine lv_iload_n hx hb dL_law_399 rfl (lv_at hl 0 rfl) ?_
  refine lv_iconst (v := 5) hx hb dL_law_400 (by decide) ?_
  refine lv_iadd hx hb dL_law_401 ?_
  refine lv_topi (fun x_5 ex_5 => ?_)
  obtain rfl : x_5 = 5 := ex_5.trans (by first | rfl | decide)
  refine va_sld hx hb hX hbl hbA hS (i_in (x := 5) rfl (by omega)) dL_law_402 ?_
  refine W.eq (g2 := F0 m 403 ls [.int (xs 5), .int (xs 4), .int (xs 3), .int (xs 2), .int (xs 1), .ref z0]) rfl ?_
  refine kci (wr := [(z15, .inr (12, [.int 0, .int 0, .ref z16, .ref z17, .ref z18, .ref z19, .ref z20, .ref z21, .int 0, .ref z22, .ref z23, .int 0, .ref z24, .int 0, .int 0, .int 0, .int 0, .long 0, .int (-1), .int 0, .int 0, .int 0, .ref z25, .int 0, .ref z26, .ref z27, .int 0, .ref z28, .ref z29, .int 0, .int 0, .ref z30, .ref z31, .ref z32, .int 0, .ref z33, .ref z34, .ref z35, .int 0, .long 0, .long 0, .ref z36, .ref z37, .ref z38, .ref z39, .ref z40, .ref z41, .ref z42, .ref z43, .ref z44, .ref z45, .ref z46, .int 0, .int 0, .int (-1), .int 0, .long 0, .ref z47, .int 0, .int (-1)])), (z24, .inl (K 0, 400, .inl (fun _ => 0)))]) (va_runV (As := [.int (xs 1), .int (xs 2), .int (xs 3), .int (xs 4), .int (xs 5)]) (rest := []) ⟨hx, hb, hml, hown, hts⟩ (t_feed l D K z0 (xs 1) (xs 2) (xs 3) (xs 4) (xs 5) (.ref z1) (.ref z2) (.ref z3) (.ref z4) (.ref z5) z6 (.ref z7) (.ref z8) (.ref z9) (.ref z10) (.ref z11) (.ref z12) (.ref z13) (.int 0) (.int 0) (.int 0) (.int 0) z14 (.int 0) (.int 0) (.int (-1)) (.int (-1)) H.size) (cwV 5 hts gL_X11_feed rfl rfl rfl (by decide +kernel) ⟨Nat.le_of_ble_eq_true rfl, Nat.le_of_ble_eq_true rfl⟩) (mkV hK hN (hP.sub [0, 1, 2] rfl) (hD.sub [0, 1, 2] (by decide) rfl) (ci := 11) (q0 := 0) rfl rfl) rfl rfl hl.1 rfl (lv_room (Nat.le_of_ble_eq_true rfl)) dL_law_403 ⟨Nat.le_of_ble_eq_true rfl, Nat.le_of_ble_eq_true rfl⟩) hP hD hS hA [0, 1, 2] [3, 4] rfl rfl (by decide) (by decide) (fun r_6 u_7 H locs hw hP hD hS => ?_)
  have hP : va_P D vwCl [(z15, .inr (12, [.int 0, .int 0, .ref z16, .ref z17, .ref z18, .ref z19, .ref z20, .ref z21, .int 0, .ref z22, .ref z23, .int 0, .ref z24, .int 0, .int 0, .int 0, .int 0, .long 0, .int (-1), .int 0, .int 0, .int 0, .ref z25, .int 0, .ref z26, .ref z27, .int 0, .ref z28, .ref z29, .int 0, .int 0, .ref z30, .ref z31, .ref z32, .int 0, .ref z33, .ref z34, .ref z35, .int 0, .long 0, .long 0, .ref z36, .ref z37, .ref z38, .ref z39, .ref z40, .ref z41, .ref z42, .ref z43, .ref z44, .ref z45, .ref z46, .int 0, .int 0, .int (-1), .int 0, .long 0, .ref z47, .int 0, .int (-1)])), (z24, .inl (K 0, 400, .inl (fun _ => 0)))] H := hP
  have hD : va_D A [(z15, .inr (12, [.int 0, .int 0, .ref z16, .ref z17, .ref z18, .ref z19, .ref z20, .ref z21, .int 0, .ref z22, .ref z23, .int 0, .ref z24, .int 0, .int 0, .int 0, .int 0, .long 0, .int (-1), .int 0, .int 0, .int 0, .ref z25, .int 0, .ref z26, .ref z27, .int 0, .ref z28, .ref z29, .int 0, .int 0, .ref z30, .ref z31, .ref z32, .int 0, .ref z33, .ref z34, .ref z35, .int 0, .long 0, .long 0, .ref z36, .ref z37, .ref z38, .ref z39, .ref z40, .ref z41, .ref z42, .ref z43, .ref z44, .ref z45, .ref z46, .int 0, .int 0, .int (-1), .int 0, .long 0, .ref z47, .int 0, .int (-1)])), (z24, .inl (K 0, 400, .inl (fun _ => 0)))] := hD
  have hv_8 := hw
  refine lv_aload_n hx hb dL_law_406 rfl (lv_at hl 1 rfl) ?_
  refine lv_aload_n hx hb dL_law_407 rfl (lv_at hl 3 rfl) ?_
  refine lv_iload_n hx hb dL_law_408 rfl (lv_at hl 0 rfl) ?_
  refine lv_iconst (v := 1) hx hb dL_law_409 (by decide) ?_
  refine lv_iadd hx hb dL_law_410 ?_
  refine lv_topi (fun x_9 ex_9 => ?_)
  obtain rfl : x_9 = 1 := ex_9.trans (by first | rfl | decide)
  refine va_sld hx hb hX hbl hbA hS (i_in (x := 1) rfl (by omega)) dL_law_411 ?_
  refine W.eq (g2 := F0 m 412 ls [.int (xs 1), .ref z15, .int r_6]) rfl ?_
  refine lv_aload_n hx hb dL_law_412 rfl (lv_at hl 3 rfl) ?_
  refine lv_iload_n hx hb dL_law_413 rfl (lv_at hl 0 rfl) ?_
  refine lv_iconst (v := 2) hx hb dL_law_414 (by decide) ?_
  refine lv_iadd hx hb dL_law_415 ?_
  refine lv_topi (fun x_10 ex_10 => ?_)
  obtain rfl : x_10 = 2 := ex_10.trans (by first | rfl | decide)
  refine va_sld hx hb hX hbl hbA hS (i_in (x := 2) rfl (by omega)) dL_law_416 ?_
  refine W.eq (g2 := F0 m 417 ls [.int (xs 2), .int (xs 1), .ref z15, .int r_6]) rfl ?_
  refine lv_aload_n hx hb dL_law_417 rfl (lv_at hl 3 rfl) ?_
  refine lv_iload_n hx hb dL_law_418 rfl (lv_at hl 0 rfl) ?_
  refine lv_iconst (v := 3) hx hb dL_law_419 (by decide) ?_
  refine lv_iadd hx hb dL_law_420 ?_
  refine lv_topi (fun x_11 ex_11 => ?_)
  obtain rfl : x_11 = 3 := ex_11.trans (by first | rfl | decide)
  refine va_sld hx hb hX hbl hbA hS (i_in (x := 3) rfl (by omega)) dL_law_421 ?_
  refine W.eq (g2 := F0 m 422 ls [.int (xs 3), .int (xs 2), .int (xs 1), .ref z15, .int r_6]) rfl ?_
  refine lv_aload_n hx hb dL_law_422 rfl (lv_at hl 3 rfl) ?_
  refine lv_iload_n hx hb dL_law_423 rfl (lv_at hl 0 rfl) ?_
  refine lv_iconst (v := 4) hx hb dL_law_424 (by decide) ?_
  refine lv_iadd hx hb dL_law_425 ?_
  refine lv_topi (fun x_12 ex_12 => ?_)
  obtain rfl : x_12 = 4 := ex_12.trans (by first | rfl | decide)
  refine va_sld hx hb hX hbl hbA hS (i_in (x := 4) rfl (by omega)) dL_law_426 ?_
  refine W.eq (g2 := F0 m 427 ls [.int (xs 4), .int (xs 3), .int (xs 2), .int (xs 1), .ref z15, .int r_6]) rfl ?_
  refine lv_aload_n hx hb dL_law_427 rfl (lv_at hl 3 rfl) ?_
  refine lv_iload_n hx hb dL_law_428 rfl (lv_at hl 0 rfl) ?_
  refine lv_iconst (v := 5) hx hb dL_law_429 (by decide) ?_
  refine lv_iadd hx hb dL_law_430 ?_
  refine lv_topi (fun x_13 ex_13 => ?_)
  obtain rfl : x_13 = 5 := ex_13.trans (by first | rfl | decide)
  refine va_sld hx hb hX hbl hbA hS (i_in (x := 5) rfl (by omega)) dL_law_431 ?_
  refine W.eq (g2 := F0 m 432 ls [.int (xs 5), .int (xs 4), .int (xs 3), .int (xs 2), .int (xs 1), .ref z15, .int r_6]) rfl ?_
  refine kci (wr := []) (va_runV (As := [.int (xs 1), .int (xs 2), .int (xs 3), .int (xs 4), .int (xs 5)]) (rest := [.int r_6]) ⟨hx, hb, hml, hown, hts⟩ (r_feed l D K z15 (xs 1) (xs 2) (xs 3) (xs 4) (xs 5) (.int 0) (.int 0) (.ref z16) (.ref z17) (.ref z18) (.ref z19) (.ref z20) (.ref z21) (.int 0) (.ref z22) (.ref z23) (.int 0) z24 (.int 0) (.int 0) (.int 0) (.long 0) (.int (-1)) (.int 0) (.int 0) (.int 0) (.ref z25) (.int 0) (.ref z26) (.ref z27) (.int 0) (.ref z28) (.ref z29) (.int 0) (.int 0) (.ref z30) (.ref z31) (.ref z32) (.int 0) (.ref z33) (.ref z34) (.ref z35) (.int 0) (.long 0) (.long 0) (.ref z36) (.ref z37) (.ref z38) (.ref z39) (.ref z40) (.ref z41) (.ref z42) (.ref z43) (.ref z44) (.ref z45) (.ref z46) (.int 0) (.int 0) (.int (-1)) (.int 0) (.long 0) (.ref z47) (.int 0) (.int (-1)) H.size) (cwV 5 hts gL_X12_feed rfl rfl rfl (by decide +kernel) ⟨Nat.le_of_ble_eq_true rfl, Nat.le_of_ble_eq_true rfl⟩) (mkV hK hN (hP.sub [0, 1] rfl) (hD.sub [0, 1] (by decide) rfl) (ci := 12) (q0 := 0) rfl rfl) rfl rfl hl.1 rfl (lv_room (Nat.le_of_ble_eq_true rfl)) dL_law_432 ⟨Nat.le_of_ble_eq_true rfl, Nat.le_of_ble_eq_true rfl⟩) hP hD hS hA [0, 1] [] rfl rfl (by decide) (by decide) (fun r_14 u_15 H locs hw hP hD hS => ?_)
  have hP : va_P D vwCl [] H := hP
  have hD : va_D A [] := hD
  have hv_16 := hw
  have heq : r_6 = r_14 := by
    try dsimp only at hv_8 hv_16
    rcases hv_8 with rfl <;> rcases hv_16 with rfl <;> first | rfl | (exfalso; omega)
  refine lv_icmp_eq (tgt := 1111) hx hb dL_law_435 (by decide) (fun cq => ?_) (fun cq => absurd heq cq)
  refine lv_iinc (v := 6) (lv' := [(3, .int 6), (2, .ref z15), (1, .ref z0), (0, .ref b)]) hx hb dL_law_1111 hl (k := 0) rfl (by decide) (by decide) rfl (fun ls hl => ?_)
  refine lv_goto (tgt := 18) hx hb dL_law_1114 (by decide) ?_
  refine lv_iload_n hx hb dL_law_18 rfl (lv_at hl 0 rfl) ?_
  refine lv_aload_n hx hb dL_law_19 rfl (lv_at hl 3 rfl) ?_
  refine va_slen hx hb hX hbl hbA hS dL_law_20 ?_
  refine W.eq (g2 := F0 m 21 ls [.int 6, .int 6]) rfl ?_
  refine lv_bipush (v := 6) hx hb dL_law_21 (by decide) ?_
  refine lv_isub hx hb dL_law_23 ?_
  refine lv_topi (fun x_17 ex_17 => ?_)
  obtain rfl : x_17 = 0 := ex_17.trans (by first | rfl | decide)
  refine lv_icmp_gt (tgt := 1117) hx hb dL_law_24 (by decide) (fun cq => ?_) (fun cq => absurd (by decide) cq)
  refine lv_iconst (v := 1) hx hb dL_law_1117 (by decide) ?_
  refine va_forget (fun q hq => hA0 _ (hS.2.2 q hq)) ?_
  refine W.widen (k := 600000) (n := 7302250) (by decide) (by decide) ?_
  exact lw_ret hx hb hr hlocks dL_law_1118
set_option maxHeartbeats 4000000 in
set_option maxRecDepth 100000 in
theorem law_6 {p : Program} {e : Env} {s : State} {m : MethodId} {below : List Frame} {meth : Method} {c : Code} (l : Launch) {b : Nat} {xs : Nat → Int32} (C0 : lw_At p s m meth c b 6 xs) (D : va_G) (K : Nat → ClassId) (hK : va_K D vwCl (KT K) s) (hN : lw_N s) {A : Nat → Prop} (hA : ∀ q, s.heap.size ≤ q → A q) (hA0 : ∀ q, A q → s.heap.size ≤ q) (hbA : ¬ A b) (z0 z1 z2 z3 z4 z5 z6 z7 z8 z9 z10 z11 z12 z13 z14 z15 z16 z17 z18 z19 z20 z21 z22 z23 z24 z25 z26 z27 z28 z29 z30 z31 z32 z33 z34 z35 z36 z37 z38 z39 z40 z41 z42 z43 z44 z45 z46 z47 : Nat) (H : Heap) (locs : List Loc) (hP : va_P D vwCl [(z0, .inr (11, [.ref z1, .ref z2, .ref z3, .ref z4, .ref z5, .ref z6, .ref z7, .ref z8, .ref z9, .ref z10, .ref z11, .ref z12, .ref z13, .int 0, .int 0, .int 0, .int 0])), (z6, .inr (8, [.ref z14, .int 0, .int 0, .int 0, .int (-1), .int (-1)])), (z15, .inr (12, [.int 0, .int 0, .ref z16, .ref z17, .ref z18, .ref z19, .ref z20, .ref z21, .int 0, .ref z22, .ref z23, .int 0, .ref z24, .int 0, .int 0, .int 0, .int 0, .long 0, .int (-1), .int 0, .int 0, .int 0, .ref z25, .int 0, .ref z26, .ref z27, .int 0, .ref z28, .ref z29, .int 0, .int 0, .ref z30, .ref z31, .ref z32, .int 0, .ref z33, .ref z34, .ref z35, .int 0, .long 0, .long 0, .ref z36, .ref z37, .ref z38, .ref z39, .ref z40, .ref z41, .ref z42, .ref z43, .ref z44, .ref z45, .ref z46, .int 0, .int 0, .int (-1), .int 0, .long 0, .ref z47, .int 0, .int (-1)]))] H) (hD : va_D A [(z0, .inr (11, [.ref z1, .ref z2, .ref z3, .ref z4, .ref z5, .ref z6, .ref z7, .ref z8, .ref z9, .ref z10, .ref z11, .ref z12, .ref z13, .int 0, .int 0, .int 0, .int 0])), (z6, .inr (8, [.ref z14, .int 0, .int 0, .int 0, .int (-1), .int (-1)])), (z15, .inr (12, [.int 0, .int 0, .ref z16, .ref z17, .ref z18, .ref z19, .ref z20, .ref z21, .int 0, .ref z22, .ref z23, .int 0, .ref z24, .int 0, .int 0, .int 0, .int 0, .long 0, .int (-1), .int 0, .int 0, .int 0, .ref z25, .int 0, .ref z26, .ref z27, .int 0, .ref z28, .ref z29, .int 0, .int 0, .ref z30, .ref z31, .ref z32, .int 0, .ref z33, .ref z34, .ref z35, .int 0, .long 0, .long 0, .ref z36, .ref z37, .ref z38, .ref z39, .ref z40, .ref z41, .ref z42, .ref z43, .ref z44, .ref z45, .ref z46, .int 0, .int 0, .int (-1), .int 0, .long 0, .ref z47, .int 0, .int (-1)]))]) (hS : va_S A s.heap H locs) (ls : Array Slot) (hl : lv_has ls 4 [(3, .int 0), (2, .ref z15), (1, .ref z0), (0, .ref b)]) : W p l e room_1 s m #[Value.ref b] below meth c H locs 97 27561 (lw_Z below #[Value.ref b] s) (F0 m 440 ls []) := by
  obtain ⟨hx, hb, hr, hml, hown, hts, hX, hbl, hlocks, hgv⟩ := C0
  have hown : s.vm.findClass RL = some m.cls := hown
  refine lv_aload_n hx hb dL_law_440 rfl (lv_at hl 2 rfl) ?_
  refine lv_aload_n hx hb dL_law_441 rfl (lv_at hl 3 rfl) ?_
  refine lv_iload_n hx hb dL_law_442 rfl (lv_at hl 0 rfl) ?_
  refine lv_iconst (v := 1) hx hb dL_law_443 (by decide) ?_
  refine lv_iadd hx hb dL_law_444 ?_
  refine lv_topi (fun x_1 ex_1 => ?_)
  obtain rfl : x_1 = 1 := ex_1.trans (by first | rfl | decide)
  refine va_sld hx hb hX hbl hbA hS (i_in (x := 1) rfl (by omega)) dL_law_445 ?_
  refine W.eq (g2 := F0 m 446 ls [.int (xs 1), .ref z0]) rfl ?_
  refine kci (wr := [(z15, .inr (12, [.int 0, .int 0, .ref z16, .ref z17, .ref z18, .ref z19, .ref z20, .ref z21, .int 0, .ref z22, .ref z23, .int 0, .ref z24, .int 0, .int 0, .int 0, .int 0, .long 0, .int (-1), .int 0, .int 0, .int 0, .ref z25, .int 0, .ref z26, .ref z27, .int 0, .ref z28, .ref z29, .int 0, .int 0, .ref z30, .ref z31, .ref z32, .int 0, .ref z33, .ref z34, .ref z35, .int 0, .long 0, .long 0, .ref z36, .ref z37, .ref z38, .ref z39, .ref z40, .ref z41, .ref z42, .ref z43, .ref z44, .ref z45, .ref z46, .int 0, .int 0, .int (-1), .int 0, .long 0, .ref z47, .int 0, .int (-1)]))]) (va_runV (As := [.int (xs 1)]) (rest := []) ⟨hx, hb, hml, hown, hts⟩ (t_end l D K z0 (xs 1) (.ref z1) (.ref z2) (.ref z3) (.ref z4) (.ref z5) z6 (.ref z7) (.ref z8) (.ref z9) (.ref z10) (.ref z11) (.ref z12) (.ref z13) (.int 0) (.int 0) (.int 0) (.int 0) (.ref z14) (.int 0) (.int 0) (.int (-1)) (.int (-1)) H.size) (cwV 1 hts gL_X11_end rfl rfl rfl (by decide +kernel) ⟨Nat.le_of_ble_eq_true rfl, Nat.le_of_ble_eq_true rfl⟩) (mkV hK hN (hP.sub [0, 1] rfl) (hD.sub [0, 1] (by decide) rfl) (ci := 11) (q0 := 0) rfl rfl) rfl rfl hl.1 rfl (lv_room (Nat.le_of_ble_eq_true rfl)) dL_law_446 ⟨Nat.le_of_ble_eq_true rfl, Nat.le_of_ble_eq_true rfl⟩) hP hD hS hA [0, 1] [2] rfl rfl (by decide) (by decide) (fun r_2 u_3 H locs hw hP hD hS => ?_)
  have hP : va_P D vwCl [(z15, .inr (12, [.int 0, .int 0, .ref z16, .ref z17, .ref z18, .ref z19, .ref z20, .ref z21, .int 0, .ref z22, .ref z23, .int 0, .ref z24, .int 0, .int 0, .int 0, .int 0, .long 0, .int (-1), .int 0, .int 0, .int 0, .ref z25, .int 0, .ref z26, .ref z27, .int 0, .ref z28, .ref z29, .int 0, .int 0, .ref z30, .ref z31, .ref z32, .int 0, .ref z33, .ref z34, .ref z35, .int 0, .long 0, .long 0, .ref z36, .ref z37, .ref z38, .ref z39, .ref z40, .ref z41, .ref z42, .ref z43, .ref z44, .ref z45, .ref z46, .int 0, .int 0, .int (-1), .int 0, .long 0, .ref z47, .int 0, .int (-1)]))] H := hP
  have hD : va_D A [(z15, .inr (12, [.int 0, .int 0, .ref z16, .ref z17, .ref z18, .ref z19, .ref z20, .ref z21, .int 0, .ref z22, .ref z23, .int 0, .ref z24, .int 0, .int 0, .int 0, .int 0, .long 0, .int (-1), .int 0, .int 0, .int 0, .ref z25, .int 0, .ref z26, .ref z27, .int 0, .ref z28, .ref z29, .int 0, .int 0, .ref z30, .ref z31, .ref z32, .int 0, .ref z33, .ref z34, .ref z35, .int 0, .long 0, .long 0, .ref z36, .ref z37, .ref z38, .ref z39, .ref z40, .ref z41, .ref z42, .ref z43, .ref z44, .ref z45, .ref z46, .int 0, .int 0, .int (-1), .int 0, .long 0, .ref z47, .int 0, .int (-1)]))] := hD
  have hv_4 := hw
  refine lv_aload_n hx hb dL_law_449 rfl (lv_at hl 1 rfl) ?_
  refine lv_aload_n hx hb dL_law_450 rfl (lv_at hl 3 rfl) ?_
  refine lv_iload_n hx hb dL_law_451 rfl (lv_at hl 0 rfl) ?_
  refine lv_iconst (v := 1) hx hb dL_law_452 (by decide) ?_
  refine lv_iadd hx hb dL_law_453 ?_
  refine lv_topi (fun x_5 ex_5 => ?_)
  obtain rfl : x_5 = 1 := ex_5.trans (by first | rfl | decide)
  refine va_sld hx hb hX hbl hbA hS (i_in (x := 1) rfl (by omega)) dL_law_454 ?_
  refine W.eq (g2 := F0 m 455 ls [.int (xs 1), .ref z15, .int r_2]) rfl ?_
  refine kci (wr := []) (va_runV (As := [.int (xs 1)]) (rest := [.int r_2]) ⟨hx, hb, hml, hown, hts⟩ (r_end l D K z15 (xs 1) (.int 0) (.int 0) (.ref z16) (.ref z17) (.ref z18) (.ref z19) (.ref z20) (.ref z21) (.int 0) (.ref z22) (.ref z23) (.int 0) (.ref z24) (.int 0) (.int 0) (.int 0) (.long 0) (.int (-1)) (.int 0) (.int 0) (.int 0) (.ref z25) (.int 0) (.ref z26) (.ref z27) (.int 0) (.ref z28) (.ref z29) (.int 0) (.int 0) (.ref z30) (.ref z31) (.ref z32) (.int 0) (.ref z33) (.ref z34) (.ref z35) (.int 0) (.long 0) (.long 0) (.ref z36) (.ref z37) (.ref z38) (.ref z39) (.ref z40) (.ref z41) (.ref z42) (.ref z43) (.ref z44) (.ref z45) (.ref z46) (.int 0) (.int 0) (.int (-1)) (.int 0) (.long 0) (.ref z47) (.int 0) (.int (-1)) H.size) (cwV 1 hts gL_X12_end rfl rfl rfl (by decide +kernel) ⟨Nat.le_of_ble_eq_true rfl, Nat.le_of_ble_eq_true rfl⟩) (mkV hK hN (hP.sub [0] rfl) (hD.sub [0] (by decide) rfl) (ci := 12) (q0 := 0) rfl rfl) rfl rfl hl.1 rfl (lv_room (Nat.le_of_ble_eq_true rfl)) dL_law_455 ⟨Nat.le_of_ble_eq_true rfl, Nat.le_of_ble_eq_true rfl⟩) hP hD hS hA [0] [] rfl rfl (by decide) (by decide) (fun r_6 u_7 H locs hw hP hD hS => ?_)
  have hP : va_P D vwCl [] H := hP
  have hD : va_D A [] := hD
  have hv_8 := hw
  have heq : r_2 = r_6 := by
    try dsimp only at hv_4 hv_8
    rcases hv_4 with ⟨rfl, k00⟩ | ⟨rfl, k10⟩ <;> rcases hv_8 with ⟨rfl, j00⟩ | ⟨rfl, j10⟩ <;> first | rfl | (exfalso; omega)
  refine lv_icmp_eq (tgt := 1111) hx hb dL_law_458 (by decide) (fun cq => ?_) (fun cq => absurd heq cq)
  refine lv_iinc (v := 6) (lv' := [(3, .int 6), (2, .ref z15), (1, .ref z0), (0, .ref b)]) hx hb dL_law_1111 hl (k := 0) rfl (by decide) (by decide) rfl (fun ls hl => ?_)
  refine lv_goto (tgt := 18) hx hb dL_law_1114 (by decide) ?_
  refine lv_iload_n hx hb dL_law_18 rfl (lv_at hl 0 rfl) ?_
  refine lv_aload_n hx hb dL_law_19 rfl (lv_at hl 3 rfl) ?_
  refine va_slen hx hb hX hbl hbA hS dL_law_20 ?_
  refine W.eq (g2 := F0 m 21 ls [.int 6, .int 6]) rfl ?_
  refine lv_bipush (v := 6) hx hb dL_law_21 (by decide) ?_
  refine lv_isub hx hb dL_law_23 ?_
  refine lv_topi (fun x_9 ex_9 => ?_)
  obtain rfl : x_9 = 0 := ex_9.trans (by first | rfl | decide)
  refine lv_icmp_gt (tgt := 1117) hx hb dL_law_24 (by decide) (fun cq => ?_) (fun cq => absurd (by decide) cq)
  refine lv_iconst (v := 1) hx hb dL_law_1117 (by decide) ?_
  refine va_forget (fun q hq => hA0 _ (hS.2.2 q hq)) ?_
  refine W.widen (k := 600000) (n := 7302250) (by decide) (by decide) ?_
  exact lw_ret hx hb hr hlocks dL_law_1118
set_option maxHeartbeats 4000000 in
set_option maxRecDepth 100000 in
theorem law_7 {p : Program} {e : Env} {s : State} {m : MethodId} {below : List Frame} {meth : Method} {c : Code} (l : Launch) {b : Nat} {xs : Nat → Int32} (C0 : lw_At p s m meth c b 6 xs) (D : va_G) (K : Nat → ClassId) (hK : va_K D vwCl (KT K) s) (hN : lw_N s) {A : Nat → Prop} (hA : ∀ q, s.heap.size ≤ q → A q) (hA0 : ∀ q, A q → s.heap.size ≤ q) (hbA : ¬ A b) (z0 z1 z2 z3 z4 z5 z6 z7 z8 z9 z10 z11 z12 z13 z14 z15 z16 z17 z18 z19 z20 z21 z22 z23 z24 z25 z26 z27 z28 z29 z30 z31 z32 z33 z34 z35 z36 z37 z38 z39 z40 z41 z42 z43 z44 z45 z46 z47 : Nat) (H : Heap) (locs : List Loc) (hP : va_P D vwCl [(z0, .inr (11, [.ref z1, .ref z2, .ref z3, .ref z4, .ref z5, .ref z6, .ref z7, .ref z8, .ref z9, .ref z10, .ref z11, .ref z12, .ref z13, .int 0, .int 0, .int 0, .int 0])), (z6, .inr (8, [.ref z14, .int 0, .int 0, .int 0, .int (-1), .int (-1)])), (z13, .inl (K 0, 5, .inl (fun _ => 0))), (z15, .inr (12, [.int 0, .int 0, .ref z16, .ref z17, .ref z18, .ref z19, .ref z20, .ref z21, .int 0, .ref z22, .ref z23, .int 0, .ref z24, .int 0, .int 0, .int 0, .int 0, .long 0, .int (-1), .int 0, .int 0, .int 0, .ref z25, .int 0, .ref z26, .ref z27, .int 0, .ref z28, .ref z29, .int 0, .int 0, .ref z30, .ref z31, .ref z32, .int 0, .ref z33, .ref z34, .ref z35, .int 0, .long 0, .long 0, .ref z36, .ref z37, .ref z38, .ref z39, .ref z40, .ref z41, .ref z42, .ref z43, .ref z44, .ref z45, .ref z46, .int 0, .int 0, .int (-1), .int 0, .long 0, .ref z47, .int 0, .int (-1)])), (z16, .inl (K 0, 7, .inl (fun _ => 0))), (z17, .inl (K 0, 5500, .inl row0))] H) (hD : va_D A [(z0, .inr (11, [.ref z1, .ref z2, .ref z3, .ref z4, .ref z5, .ref z6, .ref z7, .ref z8, .ref z9, .ref z10, .ref z11, .ref z12, .ref z13, .int 0, .int 0, .int 0, .int 0])), (z6, .inr (8, [.ref z14, .int 0, .int 0, .int 0, .int (-1), .int (-1)])), (z13, .inl (K 0, 5, .inl (fun _ => 0))), (z15, .inr (12, [.int 0, .int 0, .ref z16, .ref z17, .ref z18, .ref z19, .ref z20, .ref z21, .int 0, .ref z22, .ref z23, .int 0, .ref z24, .int 0, .int 0, .int 0, .int 0, .long 0, .int (-1), .int 0, .int 0, .int 0, .ref z25, .int 0, .ref z26, .ref z27, .int 0, .ref z28, .ref z29, .int 0, .int 0, .ref z30, .ref z31, .ref z32, .int 0, .ref z33, .ref z34, .ref z35, .int 0, .long 0, .long 0, .ref z36, .ref z37, .ref z38, .ref z39, .ref z40, .ref z41, .ref z42, .ref z43, .ref z44, .ref z45, .ref z46, .int 0, .int 0, .int (-1), .int 0, .long 0, .ref z47, .int 0, .int (-1)])), (z16, .inl (K 0, 7, .inl (fun _ => 0))), (z17, .inl (K 0, 5500, .inl row0))]) (hS : va_S A s.heap H locs) (ls : Array Slot) (hl : lv_has ls 4 [(3, .int 0), (2, .ref z15), (1, .ref z0), (0, .ref b)]) : W p l e room_1 s m #[Value.ref b] below meth c H locs 97 27561 (lw_Z below #[Value.ref b] s) (F0 m 463 ls []) := by
  obtain ⟨hx, hb, hr, hml, hown, hts, hX, hbl, hlocks, hgv⟩ := C0
  have hown : s.vm.findClass RL = some m.cls := hown
  refine lv_aload_n hx hb dL_law_463 rfl (lv_at hl 2 rfl) ?_
  refine kci (wr := [(z15, .inr (12, [.int 0, .int 0, .ref z16, .ref z17, .ref z18, .ref z19, .ref z20, .ref z21, .int 0, .ref z22, .ref z23, .int 0, .ref z24, .int 0, .int 0, .int 0, .int 0, .long 0, .int (-1), .int 0, .int 0, .int 0, .ref z25, .int 0, .ref z26, .ref z27, .int 0, .ref z28, .ref z29, .int 0, .int 0, .ref z30, .ref z31, .ref z32, .int 0, .ref z33, .ref z34, .ref z35, .int 0, .long 0, .long 0, .ref z36, .ref z37, .ref z38, .ref z39, .ref z40, .ref z41, .ref z42, .ref z43, .ref z44, .ref z45, .ref z46, .int 0, .int 0, .int (-1), .int 0, .long 0, .ref z47, .int 0, .int (-1)])), (z16, .inl (K 0, 7, .inl (fun _ => 0))), (z17, .inl (K 0, 5500, .inl row0))]) (va_runV (As := []) (rest := []) ⟨hx, hb, hml, hown, hts⟩ (t_row l D K z0 (.ref z1) (.ref z2) (.ref z3) (.ref z4) (.ref z5) z6 (.ref z7) (.ref z8) (.ref z9) (.ref z10) (.ref z11) (.ref z12) z13 (.int 0) (.int 0) (.int 0) (.int 0) (fun _ => 0) (.ref z14) (.int 0) (.int 0) (.int (-1)) (.int (-1)) H.size) (cwV 0 hts gL_X11_row rfl rfl rfl (by decide +kernel) ⟨Nat.le_of_ble_eq_true rfl, Nat.le_of_ble_eq_true rfl⟩) (mkV hK hN (hP.sub [0, 2, 1] rfl) (hD.sub [0, 2, 1] (by decide) rfl) (ci := 11) (q0 := 0) rfl rfl) rfl rfl hl.1 rfl (lv_room (Nat.le_of_ble_eq_true rfl)) dL_law_464 ⟨Nat.le_of_ble_eq_true rfl, Nat.le_of_ble_eq_true rfl⟩) hP hD hS hA [0, 2, 1] [3, 4, 5] rfl rfl (by decide) (by decide) (fun r_1 u_2 H locs hw hP hD hS => ?_)
  have hP : va_P D vwCl [(z15, .inr (12, [.int 0, .int 0, .ref z16, .ref z17, .ref z18, .ref z19, .ref z20, .ref z21, .int 0, .ref z22, .ref z23, .int 0, .ref z24, .int 0, .int 0, .int 0, .int 0, .long 0, .int (-1), .int 0, .int 0, .int 0, .ref z25, .int 0, .ref z26, .ref z27, .int 0, .ref z28, .ref z29, .int 0, .int 0, .ref z30, .ref z31, .ref z32, .int 0, .ref z33, .ref z34, .ref z35, .int 0, .long 0, .long 0, .ref z36, .ref z37, .ref z38, .ref z39, .ref z40, .ref z41, .ref z42, .ref z43, .ref z44, .ref z45, .ref z46, .int 0, .int 0, .int (-1), .int 0, .long 0, .ref z47, .int 0, .int (-1)])), (z16, .inl (K 0, 7, .inl (fun _ => 0))), (z17, .inl (K 0, 5500, .inl row0))] H := hP
  have hD : va_D A [(z15, .inr (12, [.int 0, .int 0, .ref z16, .ref z17, .ref z18, .ref z19, .ref z20, .ref z21, .int 0, .ref z22, .ref z23, .int 0, .ref z24, .int 0, .int 0, .int 0, .int 0, .long 0, .int (-1), .int 0, .int 0, .int 0, .ref z25, .int 0, .ref z26, .ref z27, .int 0, .ref z28, .ref z29, .int 0, .int 0, .ref z30, .ref z31, .ref z32, .int 0, .ref z33, .ref z34, .ref z35, .int 0, .long 0, .long 0, .ref z36, .ref z37, .ref z38, .ref z39, .ref z40, .ref z41, .ref z42, .ref z43, .ref z44, .ref z45, .ref z46, .int 0, .int 0, .int (-1), .int 0, .long 0, .ref z47, .int 0, .int (-1)])), (z16, .inl (K 0, 7, .inl (fun _ => 0))), (z17, .inl (K 0, 5500, .inl row0))] := hD
  have hv_3 := hw
  refine lv_aload_n hx hb dL_law_467 rfl (lv_at hl 1 rfl) ?_
  refine kci (wr := []) (va_runV (As := []) (rest := [.int r_1]) ⟨hx, hb, hml, hown, hts⟩ (r_row l D K z15 (.int 0) (.int 0) z16 z17 (.ref z18) (.ref z19) (.ref z20) (.ref z21) (.int 0) (.ref z22) (.ref z23) (.int 0) (.ref z24) (.int 0) (.int 0) (.int 0) (.long 0) (.int (-1)) (.int 0) (.int 0) (.int 0) (.ref z25) (.int 0) (.ref z26) (.ref z27) (.int 0) (.ref z28) (.ref z29) (.int 0) (.int 0) (.ref z30) (.ref z31) (.ref z32) (.int 0) (.ref z33) (.ref z34) (.ref z35) (.int 0) (.long 0) (.long 0) (.ref z36) (.ref z37) (.ref z38) (.ref z39) (.ref z40) (.ref z41) (.ref z42) (.ref z43) (.ref z44) (.ref z45) (.ref z46) (.int 0) (.int 0) (.int (-1)) (.int 0) (.long 0) (.ref z47) (.int 0) (.int (-1)) H.size) (cwV 0 hts gL_X12_row rfl rfl rfl (by decide +kernel) ⟨Nat.le_of_ble_eq_true rfl, Nat.le_of_ble_eq_true rfl⟩) (mkV hK hN (hP.sub [0, 2, 1] rfl) (hD.sub [0, 2, 1] (by decide) rfl) (ci := 12) (q0 := 0) rfl rfl) rfl rfl hl.1 rfl (lv_room (Nat.le_of_ble_eq_true rfl)) dL_law_468 ⟨Nat.le_of_ble_eq_true rfl, Nat.le_of_ble_eq_true rfl⟩) hP hD hS hA [0, 2, 1] [] rfl rfl (by decide) (by decide) (fun r_4 u_5 H locs hw hP hD hS => ?_)
  have hP : va_P D vwCl [] H := hP
  have hD : va_D A [] := hD
  have hv_6 := hw
  have heq : r_1 = r_4 := by
    try dsimp only at hv_3 hv_6
    rcases hv_3 with rfl <;> rcases hv_6 with rfl <;> first | rfl | (exfalso; omega)
  refine lv_icmp_eq (tgt := 1111) hx hb dL_law_471 (by decide) (fun cq => ?_) (fun cq => absurd heq cq)
  refine lv_iinc (v := 6) (lv' := [(3, .int 6), (2, .ref z15), (1, .ref z0), (0, .ref b)]) hx hb dL_law_1111 hl (k := 0) rfl (by decide) (by decide) rfl (fun ls hl => ?_)
  refine lv_goto (tgt := 18) hx hb dL_law_1114 (by decide) ?_
  refine lv_iload_n hx hb dL_law_18 rfl (lv_at hl 0 rfl) ?_
  refine lv_aload_n hx hb dL_law_19 rfl (lv_at hl 3 rfl) ?_
  refine va_slen hx hb hX hbl hbA hS dL_law_20 ?_
  refine W.eq (g2 := F0 m 21 ls [.int 6, .int 6]) rfl ?_
  refine lv_bipush (v := 6) hx hb dL_law_21 (by decide) ?_
  refine lv_isub hx hb dL_law_23 ?_
  refine lv_topi (fun x_7 ex_7 => ?_)
  obtain rfl : x_7 = 0 := ex_7.trans (by first | rfl | decide)
  refine lv_icmp_gt (tgt := 1117) hx hb dL_law_24 (by decide) (fun cq => ?_) (fun cq => absurd (by decide) cq)
  refine lv_iconst (v := 1) hx hb dL_law_1117 (by decide) ?_
  refine va_forget (fun q hq => hA0 _ (hS.2.2 q hq)) ?_
  refine W.widen (k := 600000) (n := 7302250) (by decide) (by decide) ?_
  exact lw_ret hx hb hr hlocks dL_law_1118
set_option maxHeartbeats 4000000 in
set_option maxRecDepth 100000 in
theorem law_8 {p : Program} {e : Env} {s : State} {m : MethodId} {below : List Frame} {meth : Method} {c : Code} (l : Launch) {b : Nat} {xs : Nat → Int32} (C0 : lw_At p s m meth c b 6 xs) (D : va_G) (K : Nat → ClassId) (hK : va_K D vwCl (KT K) s) (hN : lw_N s) {A : Nat → Prop} (hA : ∀ q, s.heap.size ≤ q → A q) (hA0 : ∀ q, A q → s.heap.size ≤ q) (hbA : ¬ A b) (z0 z1 z2 z3 z4 z5 z6 z7 z8 z9 z10 z11 z12 z13 z14 z15 z16 z17 z18 z19 z20 z21 z22 z23 z24 z25 z26 z27 z28 z29 z30 z31 z32 z33 z34 z35 z36 z37 z38 z39 z40 z41 z42 z43 z44 z45 z46 : Nat) (H : Heap) (locs : List Loc) (hP : va_P D vwCl [(z0, .inr (11, [.ref z1, .ref z2, .ref z3, .ref z4, .ref z5, .ref z6, .ref z7, .ref z8, .ref z9, .ref z10, .ref z11, .ref z12, .ref z13, .int 0, .int 0, .int 0, .int 0])), (z14, .inr (12, [.int 0, .int 0, .ref z15, .ref z16, .ref z17, .ref z18, .ref z19, .ref z20, .int 0, .ref z21, .ref z22, .int 0, .ref z23, .int 0, .int 0, .int 0, .int 0, .long 0, .int (-1), .int 0, .int 0, .int 0, .ref z24, .int 0, .ref z25, .ref z26, .int 0, .ref z27, .ref z28, .int 0, .int 0, .ref z29, .ref z30, .ref z31, .int 0, .ref z32, .ref z33, .ref z34, .int 0, .long 0, .long 0, .ref z35, .ref z36, .ref z37, .ref z38, .ref z39, .ref z40, .ref z41, .ref z42, .ref z43, .ref z44, .ref z45, .int 0, .int 0, .int (-1), .int 0, .long 0, .ref z46, .int 0, .int (-1)]))] H) (hD : va_D A [(z0, .inr (11, [.ref z1, .ref z2, .ref z3, .ref z4, .ref z5, .ref z6, .ref z7, .ref z8, .ref z9, .ref z10, .ref z11, .ref z12, .ref z13, .int 0, .int 0, .int 0, .int 0])), (z14, .inr (12, [.int 0, .int 0, .ref z15, .ref z16, .ref z17, .ref z18, .ref z19, .ref z20, .int 0, .ref z21, .ref z22, .int 0, .ref z23, .int 0, .int 0, .int 0, .int 0, .long 0, .int (-1), .int 0, .int 0, .int 0, .ref z24, .int 0, .ref z25, .ref z26, .int 0, .ref z27, .ref z28, .int 0, .int 0, .ref z29, .ref z30, .ref z31, .int 0, .ref z32, .ref z33, .ref z34, .int 0, .long 0, .long 0, .ref z35, .ref z36, .ref z37, .ref z38, .ref z39, .ref z40, .ref z41, .ref z42, .ref z43, .ref z44, .ref z45, .int 0, .int 0, .int (-1), .int 0, .long 0, .ref z46, .int 0, .int (-1)]))]) (hS : va_S A s.heap H locs) (ls : Array Slot) (hl : lv_has ls 4 [(3, .int 0), (2, .ref z14), (1, .ref z0), (0, .ref b)]) : W p l e room_1 s m #[Value.ref b] below meth c H locs 97 27561 (lw_Z below #[Value.ref b] s) (F0 m 476 ls []) := by
  obtain ⟨hx, hb, hr, hml, hown, hts, hX, hbl, hlocks, hgv⟩ := C0
  have hown : s.vm.findClass RL = some m.cls := hown
  refine lv_aload_n hx hb dL_law_476 rfl (lv_at hl 2 rfl) ?_
  refine pci (va_runV (As := []) (rest := []) ⟨hx, hb, hml, hown, hts⟩ (t_ash l D K z0 (.ref z1) (.ref z2) (.ref z3) (.ref z4) (.ref z5) (.ref z6) (.ref z7) (.ref z8) (.ref z9) (.ref z10) (.ref z11) (.ref z12) (.ref z13) (.int 0) (.int 0) (.int 0) H.size) (cwV 0 hts gL_X11_ash rfl rfl rfl (by decide +kernel) ⟨Nat.le_of_ble_eq_true rfl, Nat.le_of_ble_eq_true rfl⟩) (mkV hK hN (hP.sub [0] rfl) (hD.sub [0] (by decide) rfl) (ci := 11) (q0 := 0) rfl rfl) rfl rfl hl.1 rfl (lv_room (Nat.le_of_ble_eq_true rfl)) dL_law_477 ⟨Nat.le_of_ble_eq_true rfl, Nat.le_of_ble_eq_true rfl⟩) (fun r_1 hw => ?_)
  have hv_2 := hw
  refine lv_aload_n hx hb dL_law_480 rfl (lv_at hl 1 rfl) ?_
  refine kci (wr := [(z0, .inr (11, [.ref z1, .ref z2, .ref z3, .ref z4, .ref z5, .ref z6, .ref z7, .ref z8, .ref z9, .ref z10, .ref z11, .ref z12, .ref z13, .int 0, .int 0, .int 0, .int 0]))]) (va_runV (As := []) (rest := [.int r_1]) ⟨hx, hb, hml, hown, hts⟩ (r_ash l D K z14 (.int 0) (.int 0) (.ref z15) (.ref z16) (.ref z17) (.ref z18) (.ref z19) (.ref z20) (.int 0) (.ref z21) (.ref z22) (.ref z23) (.int 0) (.int 0) (.int 0) (.int 0) (.long 0) (.int (-1)) (.int 0) (.int 0) (.int 0) (.ref z24) (.int 0) (.ref z25) (.ref z26) (.int 0) (.ref z27) (.ref z28) (.int 0) (.int 0) (.ref z29) (.ref z30) (.ref z31) (.int 0) (.ref z32) (.ref z33) (.ref z34) (.int 0) (.long 0) (.long 0) (.ref z35) (.ref z36) (.ref z37) (.ref z38) (.ref z39) (.ref z40) (.ref z41) (.ref z42) (.ref z43) (.ref z44) (.ref z45) (.int 0) (.int 0) (.int (-1)) (.int 0) (.long 0) (.ref z46) (.int 0) (.int (-1)) H.size) (cwV 0 hts gL_X12_ash rfl rfl rfl (by decide +kernel) ⟨Nat.le_of_ble_eq_true rfl, Nat.le_of_ble_eq_true rfl⟩) (mkV hK hN (hP.sub [1] rfl) (hD.sub [1] (by decide) rfl) (ci := 12) (q0 := 0) rfl rfl) rfl rfl hl.1 rfl (lv_room (Nat.le_of_ble_eq_true rfl)) dL_law_481 ⟨Nat.le_of_ble_eq_true rfl, Nat.le_of_ble_eq_true rfl⟩) hP hD hS hA [1] [0] rfl rfl (by decide) (by decide) (fun r_3 u_4 H locs hw hP hD hS => ?_)
  have hP : va_P D vwCl [(z0, .inr (11, [.ref z1, .ref z2, .ref z3, .ref z4, .ref z5, .ref z6, .ref z7, .ref z8, .ref z9, .ref z10, .ref z11, .ref z12, .ref z13, .int 0, .int 0, .int 0, .int 0]))] H := hP
  have hD : va_D A [(z0, .inr (11, [.ref z1, .ref z2, .ref z3, .ref z4, .ref z5, .ref z6, .ref z7, .ref z8, .ref z9, .ref z10, .ref z11, .ref z12, .ref z13, .int 0, .int 0, .int 0, .int 0]))] := hD
  have hv_5 := hw
  have heq : r_1 = r_3 := by
    try dsimp only at hv_2 hv_5
    rcases hv_2 with rfl <;> rcases hv_5 with rfl <;> first | rfl | (exfalso; omega)
  refine lv_icmp_eq (tgt := 1111) hx hb dL_law_484 (by decide) (fun cq => ?_) (fun cq => absurd heq cq)
  refine lv_iinc (v := 6) (lv' := [(3, .int 6), (2, .ref z14), (1, .ref z0), (0, .ref b)]) hx hb dL_law_1111 hl (k := 0) rfl (by decide) (by decide) rfl (fun ls hl => ?_)
  refine lv_goto (tgt := 18) hx hb dL_law_1114 (by decide) ?_
  refine lv_iload_n hx hb dL_law_18 rfl (lv_at hl 0 rfl) ?_
  refine lv_aload_n hx hb dL_law_19 rfl (lv_at hl 3 rfl) ?_
  refine va_slen hx hb hX hbl hbA hS dL_law_20 ?_
  refine W.eq (g2 := F0 m 21 ls [.int 6, .int 6]) rfl ?_
  refine lv_bipush (v := 6) hx hb dL_law_21 (by decide) ?_
  refine lv_isub hx hb dL_law_23 ?_
  refine lv_topi (fun x_6 ex_6 => ?_)
  obtain rfl : x_6 = 0 := ex_6.trans (by first | rfl | decide)
  refine lv_icmp_gt (tgt := 1117) hx hb dL_law_24 (by decide) (fun cq => ?_) (fun cq => absurd (by decide) cq)
  refine lv_iconst (v := 1) hx hb dL_law_1117 (by decide) ?_
  refine va_forget (fun q hq => hA0 _ (hS.2.2 q hq)) ?_
  refine W.widen (k := 600000) (n := 7302250) (by decide) (by decide) ?_
  exact lw_ret hx hb hr hlocks dL_law_1118
set_option maxHeartbeats 4000000 in
set_option maxRecDepth 100000 in
theorem law_9 {p : Program} {e : Env} {s : State} {m : MethodId} {below : List Frame} {meth : Method} {c : Code} (l : Launch) {b : Nat} {xs : Nat → Int32} (C0 : lw_At p s m meth c b 6 xs) (D : va_G) (K : Nat → ClassId) (hK : va_K D vwCl (KT K) s) (hN : lw_N s) {A : Nat → Prop} (hA : ∀ q, s.heap.size ≤ q → A q) (hA0 : ∀ q, A q → s.heap.size ≤ q) (hbA : ¬ A b) (g : Nat → Nat) (hG : Gl g A s s.heap) (z0 z1 z2 z3 z4 z5 z6 z7 z8 z9 z10 z11 z12 z13 z14 z15 z16 z17 z18 z19 z20 z21 z22 z23 z24 z25 z26 z27 z28 z29 z30 z31 z32 z33 z34 z35 z36 z37 z38 z39 z40 z41 z42 z43 z44 z45 z46 z47 z48 z49 z50 z51 z52 z53 z54 : Nat) (fl0 : Nat → Int64) (H : Heap) (locs : List Loc) (hP : va_P D vwCl [(z0, .inr (11, [.ref z1, .ref z2, .ref z3, .ref z4, .ref z5, .ref z6, .ref z7, .ref z8, .ref z9, .ref z10, .ref z11, .ref z12, .ref z13, .int 0, .int 0, .int 0, .int 0])), (z1, .inr (9, [.ref z14, .ref z15, .ref z16, .ref z17, .int 0, .int 0, .int (-1), .int 0, .int 0, .int 0])), (z5, .inr (6, [.ref z6, .ref z18, .int 1, .int 0, .int (-1)])), (z6, .inr (8, [.ref z19, .int 0, .int 0, .int 0, .int (-1), .int (-1)])), (z18, .inr (7, [.ref z20, .ref z21, .int 0, .int 800])), (z13, .inl (K 0, 5, .inl (fun _ => 0))), (z22, .inr (12, [.int 0, .int 0, .ref z23, .ref z24, .ref z25, .ref z26, .ref z27, .ref z28, .int 0, .ref z29, .ref z30, .int 0, .ref z31, .int 0, .int 0, .int 0, .int 0, .long 0, .int (-1), .int 0, .int 0, .int 0, .ref z32, .int 0, .ref z33, .ref z34, .int 0, .ref z35, .ref z36, .int 0, .int 0, .ref z37, .ref z38, .ref z39, .int 0, .ref z40, .ref z41, .ref z42, .int 0, .long 0, .long 0, .ref z43, .ref z44, .ref z45, .ref z46, .ref z47, .ref z48, .ref z49, .ref z50, .ref z51, .ref z52, .ref z53, .int 0, .int 0, .int (-1), .int 0, .long 0, .ref z54, .int 0, .int (-1)])), (z23, .inl (K 0, 7, .inl (fun _ => 0))), (z24, .inl (K 0, 5500, .inl row0)), (z39, .inl (K 2, 4, .inr (.inl fl0)))] H) (hD : va_D A [(z0, .inr (11, [.ref z1, .ref z2, .ref z3, .ref z4, .ref z5, .ref z6, .ref z7, .ref z8, .ref z9, .ref z10, .ref z11, .ref z12, .ref z13, .int 0, .int 0, .int 0, .int 0])), (z1, .inr (9, [.ref z14, .ref z15, .ref z16, .ref z17, .int 0, .int 0, .int (-1), .int 0, .int 0, .int 0])), (z5, .inr (6, [.ref z6, .ref z18, .int 1, .int 0, .int (-1)])), (z6, .inr (8, [.ref z19, .int 0, .int 0, .int 0, .int (-1), .int (-1)])), (z18, .inr (7, [.ref z20, .ref z21, .int 0, .int 800])), (z13, .inl (K 0, 5, .inl (fun _ => 0))), (z22, .inr (12, [.int 0, .int 0, .ref z23, .ref z24, .ref z25, .ref z26, .ref z27, .ref z28, .int 0, .ref z29, .ref z30, .int 0, .ref z31, .int 0, .int 0, .int 0, .int 0, .long 0, .int (-1), .int 0, .int 0, .int 0, .ref z32, .int 0, .ref z33, .ref z34, .int 0, .ref z35, .ref z36, .int 0, .int 0, .ref z37, .ref z38, .ref z39, .int 0, .ref z40, .ref z41, .ref z42, .int 0, .long 0, .long 0, .ref z43, .ref z44, .ref z45, .ref z46, .ref z47, .ref z48, .ref z49, .ref z50, .ref z51, .ref z52, .ref z53, .int 0, .int 0, .int (-1), .int 0, .long 0, .ref z54, .int 0, .int (-1)])), (z23, .inl (K 0, 7, .inl (fun _ => 0))), (z24, .inl (K 0, 5500, .inl row0)), (z39, .inl (K 2, 4, .inr (.inl fl0)))]) (hS : va_S A s.heap H locs) (ls : Array Slot) (hl : lv_has ls 4 [(3, .int 0), (2, .ref z22), (1, .ref z0), (0, .ref b)]) : W p l e room_1 s m #[Value.ref b] below meth c H locs 97 27561 (lw_Z below #[Value.ref b] s) (F0 m 489 ls []) := by
  obtain ⟨hx, hb, hr, hml, hown, hts, hX, hbl, hlocks, hgv⟩ := C0
  have hown : s.vm.findClass RL = some m.cls := hown
  refine lv_aload_n hx hb dL_law_489 rfl (lv_at hl 2 rfl) ?_
  refine kci (wr := [(z22, .inr (12, [.int 0, .int 0, .ref z23, .ref z24, .ref z25, .ref z26, .ref z27, .ref z28, .int 0, .ref z29, .ref z30, .int 0, .ref z31, .int 0, .int 0, .int 0, .int 0, .long 0, .int (-1), .int 0, .int 0, .int 0, .ref z32, .int 0, .ref z33, .ref z34, .int 0, .ref z35, .ref z36, .int 0, .int 0, .ref z37, .ref z38, .ref z39, .int 0, .ref z40, .ref z41, .ref z42, .int 0, .long 0, .long 0, .ref z43, .ref z44, .ref z45, .ref z46, .ref z47, .ref z48, .ref z49, .ref z50, .ref z51, .ref z52, .ref z53, .int 0, .int 0, .int (-1), .int 0, .long 0, .ref z54, .int 0, .int (-1)])), (z23, .inl (K 0, 7, .inl (fun _ => 0))), (z24, .inl (K 0, 5500, .inl row0)), (z39, .inl (K 2, 4, .inr (.inl fl0)))]) (va_runV (As := []) (rest := []) ⟨hx, hb, hml, hown, hts⟩ (t_law l D K z0 z1 (.ref z2) (.ref z3) (.ref z4) z5 (.ref z6) (.ref z7) (.ref z8) (.ref z9) (.ref z10) (.ref z11) (.ref z12) z13 (.int 0) (.int 0) (.int 0) (.int 0) (fun _ => 0) (.ref z14) (.ref z15) (.ref z16) (.ref z17) (.int 0) (.int (-1)) (.int 0) (.int 0) (.int 0) z6 z18 (.int 1) (.int 0) (.int (-1)) (.ref z19) (.int 0) (.int 0) (.int (-1)) (.int (-1)) (.ref z20) (.ref z21) (.int 0) (.int 800) g H.size) (cwV 0 hts gL_X11_law rfl rfl rfl (by decide +kernel) ⟨Nat.le_of_ble_eq_true rfl, Nat.le_of_ble_eq_true rfl⟩) (mkVX hK hN (hP.sub [0, 5, 1, 2, 3, 4] rfl) (hD.sub [0, 5, 1, 2, 3, 4] (by decide) rfl) (ci := 11) (q0 := 0) rfl rfl (fun U hU hW => Gl.at hG hS hW hU (fun q h => va_free hD hS hA [0, 5, 1, 2, 3, 4] rfl q h))) rfl rfl hl.1 rfl (lv_room (Nat.le_of_ble_eq_true rfl)) dL_law_490 ⟨Nat.le_of_ble_eq_true rfl, Nat.le_of_ble_eq_true rfl⟩) hP hD hS hA [0, 5, 1, 2, 3, 4] [6, 7, 8, 9] rfl rfl (by decide) (by decide) (fun r_1 u_2 H locs hw hP hD hS => ?_)
  have hP : va_P D vwCl [(z22, .inr (12, [.int 0, .int 0, .ref z23, .ref z24, .ref z25, .ref z26, .ref z27, .ref z28, .int 0, .ref z29, .ref z30, .int 0, .ref z31, .int 0, .int 0, .int 0, .int 0, .long 0, .int (-1), .int 0, .int 0, .int 0, .ref z32, .int 0, .ref z33, .ref z34, .int 0, .ref z35, .ref z36, .int 0, .int 0, .ref z37, .ref z38, .ref z39, .int 0, .ref z40, .ref z41, .ref z42, .int 0, .long 0, .long 0, .ref z43, .ref z44, .ref z45, .ref z46, .ref z47, .ref z48, .ref z49, .ref z50, .ref z51, .ref z52, .ref z53, .int 0, .int 0, .int (-1), .int 0, .long 0, .ref z54, .int 0, .int (-1)])), (z23, .inl (K 0, 7, .inl (fun _ => 0))), (z24, .inl (K 0, 5500, .inl row0)), (z39, .inl (K 2, 4, .inr (.inl fl0)))] H := hP
  have hD : va_D A [(z22, .inr (12, [.int 0, .int 0, .ref z23, .ref z24, .ref z25, .ref z26, .ref z27, .ref z28, .int 0, .ref z29, .ref z30, .int 0, .ref z31, .int 0, .int 0, .int 0, .int 0, .long 0, .int (-1), .int 0, .int 0, .int 0, .ref z32, .int 0, .ref z33, .ref z34, .int 0, .ref z35, .ref z36, .int 0, .int 0, .ref z37, .ref z38, .ref z39, .int 0, .ref z40, .ref z41, .ref z42, .int 0, .long 0, .long 0, .ref z43, .ref z44, .ref z45, .ref z46, .ref z47, .ref z48, .ref z49, .ref z50, .ref z51, .ref z52, .ref z53, .int 0, .int 0, .int (-1), .int 0, .long 0, .ref z54, .int 0, .int (-1)])), (z23, .inl (K 0, 7, .inl (fun _ => 0))), (z24, .inl (K 0, 5500, .inl row0)), (z39, .inl (K 2, 4, .inr (.inl fl0)))] := hD
  have hv_3 := hw
  refine lv_aload_n hx hb dL_law_493 rfl (lv_at hl 1 rfl) ?_
  refine kci (wr := []) (va_runV (As := []) (rest := [.int r_1]) ⟨hx, hb, hml, hown, hts⟩ (r_law l D K z22 (.int 0) (.int 0) z23 z24 (.ref z25) (.ref z26) (.ref z27) (.ref z28) (.int 0) (.ref z29) (.ref z30) (.int 0) (.ref z31) (.int 0) (.int 0) (.int 0) (.long 0) (.int (-1)) (.int 0) (.int 0) (.int 0) (.ref z32) (.int 0) (.ref z33) (.ref z34) (.int 0) (.ref z35) (.ref z36) (.int 0) (.int 0) (.ref z37) (.ref z38) z39 (.int 0) (.ref z40) (.ref z41) (.ref z42) (.int 0) (.long 0) (.long 0) (.ref z43) (.ref z44) (.ref z45) (.ref z46) (.ref z47) (.ref z48) (.ref z49) (.ref z50) (.ref z51) (.ref z52) (.ref z53) (.int 0) (.int 0) (.int (-1)) (.int 0) (.long 0) (.ref z54) (.int 0) (.int (-1)) fl0 H.size) (cwV 0 hts gL_X12_law rfl rfl rfl (by decide +kernel) ⟨Nat.le_of_ble_eq_true rfl, Nat.le_of_ble_eq_true rfl⟩) (mkV hK hN (hP.sub [0, 2, 1, 3] rfl) (hD.sub [0, 2, 1, 3] (by decide) rfl) (ci := 12) (q0 := 0) rfl rfl) rfl rfl hl.1 rfl (lv_room (Nat.le_of_ble_eq_true rfl)) dL_law_494 ⟨Nat.le_of_ble_eq_true rfl, Nat.le_of_ble_eq_true rfl⟩) hP hD hS hA [0, 2, 1, 3] [] rfl rfl (by decide) (by decide) (fun r_4 u_5 H locs hw hP hD hS => ?_)
  have hP : va_P D vwCl [] H := hP
  have hD : va_D A [] := hD
  have hv_6 := hw
  have heq : r_1 = r_4 := by
    try dsimp only at hv_3 hv_6
    rcases hv_3 with rfl <;> rcases hv_6 with rfl <;> first | rfl | (exfalso; omega)
  refine lv_icmp_eq (tgt := 1111) hx hb dL_law_497 (by decide) (fun cq => ?_) (fun cq => absurd heq cq)
  refine lv_iinc (v := 6) (lv' := [(3, .int 6), (2, .ref z22), (1, .ref z0), (0, .ref b)]) hx hb dL_law_1111 hl (k := 0) rfl (by decide) (by decide) rfl (fun ls hl => ?_)
  refine lv_goto (tgt := 18) hx hb dL_law_1114 (by decide) ?_
  refine lv_iload_n hx hb dL_law_18 rfl (lv_at hl 0 rfl) ?_
  refine lv_aload_n hx hb dL_law_19 rfl (lv_at hl 3 rfl) ?_
  refine va_slen hx hb hX hbl hbA hS dL_law_20 ?_
  refine W.eq (g2 := F0 m 21 ls [.int 6, .int 6]) rfl ?_
  refine lv_bipush (v := 6) hx hb dL_law_21 (by decide) ?_
  refine lv_isub hx hb dL_law_23 ?_
  refine lv_topi (fun x_7 ex_7 => ?_)
  obtain rfl : x_7 = 0 := ex_7.trans (by first | rfl | decide)
  refine lv_icmp_gt (tgt := 1117) hx hb dL_law_24 (by decide) (fun cq => ?_) (fun cq => absurd (by decide) cq)
  refine lv_iconst (v := 1) hx hb dL_law_1117 (by decide) ?_
  refine va_forget (fun q hq => hA0 _ (hS.2.2 q hq)) ?_
  refine W.widen (k := 600000) (n := 7302250) (by decide) (by decide) ?_
  exact lw_ret hx hb hr hlocks dL_law_1118
