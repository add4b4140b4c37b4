set_option maxHeartbeats 4000000 in
set_option maxRecDepth 100000 in
theorem law_35 {p : Program} {e : Env} {s : State} {m : MethodId} {below : List Frame} {meth : Method} {c : Code} (l : Launch) {b : Nat} {xs : Nat → Int32} (C0 : lw_At p s m meth c b 6 xs) (D : va_G) (K : Nat → ClassId) (hK : va_K D vwCl (KT K) s) (hN : lw_N s) {A : Nat → Prop} (hA : ∀ q, s.heap.size ≤ q → A q) (hA0 : ∀ q, A q → s.heap.size ≤ q) (hbA : ¬ A b) (z0 z1 z2 z3 z4 z5 z6 z7 z8 z9 z10 z11 z12 z13 z14 z15 z16 z17 z18 z19 z20 z21 z22 z23 z24 z25 z26 z27 z28 z29 z30 z31 z32 z33 z34 z35 z36 z37 z38 z39 z40 z41 z42 z43 z44 z45 z46 : Nat) (H : Heap) (locs : List Loc) (hP : va_P D vwCl [(z0, .inr (11, [.ref z1, .ref z2, .ref z3, .ref z4, .ref z5, .ref z6, .ref z7, .ref z8, .ref z9, .ref z10, .ref z11, .ref z12, .ref z13, .int 0, .int 0, .int 0, .int 0])), (z14, .inr (12, [.int 0, .int 0, .ref z15, .ref z16, .ref z17, .ref z18, .ref z19, .ref z20, .int 0, .ref z21, .ref z22, .int 0, .ref z23, .int 0, .int 0, .int 0, .int 0, .long 0, .int (-1), .int 0, .int 0, .int 0, .ref z24, .int 0, .ref z25, .ref z26, .int 0, .ref z27, .ref z28, .int 0, .int 0, .ref z29, .ref z30, .ref z31, .int 0, .ref z32, .ref z33, .ref z34, .int 0, .long 0, .long 0, .ref z35, .ref z36, .ref z37, .ref z38, .ref z39, .ref z40, .ref z41, .ref z42, .ref z43, .ref z44, .ref z45, .int 0, .int 0, .int (-1), .int 0, .long 0, .ref z46, .int 0, .int (-1)]))] H) (hD : va_D A [(z0, .inr (11, [.ref z1, .ref z2, .ref z3, .ref z4, .ref z5, .ref z6, .ref z7, .ref z8, .ref z9, .ref z10, .ref z11, .ref z12, .ref z13, .int 0, .int 0, .int 0, .int 0])), (z14, .inr (12, [.int 0, .int 0, .ref z15, .ref z16, .ref z17, .ref z18, .ref z19, .ref z20, .int 0, .ref z21, .ref z22, .int 0, .ref z23, .int 0, .int 0, .int 0, .int 0, .long 0, .int (-1), .int 0, .int 0, .int 0, .ref z24, .int 0, .ref z25, .ref z26, .int 0, .ref z27, .ref z28, .int 0, .int 0, .ref z29, .ref z30, .ref z31, .int 0, .ref z32, .ref z33, .ref z34, .int 0, .long 0, .long 0, .ref z35, .ref z36, .ref z37, .ref z38, .ref z39, .ref z40, .ref z41, .ref z42, .ref z43, .ref z44, .ref z45, .int 0, .int 0, .int (-1), .int 0, .long 0, .ref z46, .int 0, .int (-1)]))]) (hS : va_S A s.heap H locs) (ls : Array Slot) (hl : lv_has ls 4 [(3, .int 0), (2, .ref z14), (1, .ref z0), (0, .ref b)]) : W p l e room_1 s m #[Value.ref b] below meth c H locs 97 27561 (lw_Z below #[Value.ref b] s) (F0 m 1098 ls []) := by
  obtain ⟨hx, hb, hr, hml, hown, hts, hX, hbl, hlocks, hgv⟩ := C0
  have hown : s.vm.findClass RL = some m.cls := hown
  refine lv_aload_n hx hb dL_law_1098 rfl (lv_at hl 2 rfl) ?_
  refine pci (va_runV (As := []) (rest := []) ⟨hx, hb, hml, hown, hts⟩ (t_status l D K z0 (.ref z1) (.ref z2) (.ref z3) (.ref z4) (.ref z5) (.ref z6) (.ref z7) (.ref z8) (.ref z9) (.ref z10) (.ref z11) (.ref z12) (.ref z13) (.int 0) (.int 0) (.int 0) H.size) (cwV 0 hts gL_X11_status rfl rfl rfl (by decide +kernel) ⟨Nat.le_of_ble_eq_true rfl, Nat.le_of_ble_eq_true rfl⟩) (mkV hK hN (hP.sub [0] rfl) (hD.sub [0] (by decide) rfl) (ci := 11) (q0 := 0) rfl rfl) rfl rfl hl.1 rfl (lv_room (Nat.le_of_ble_eq_true rfl)) dL_law_1099 ⟨Nat.le_of_ble_eq_true rfl, Nat.le_of_ble_eq_true rfl⟩) (fun r_1 hw => ?_)
  have hv_2 := hw
  refine lv_aload_n hx hb dL_law_1102 rfl (lv_at hl 1 rfl) ?_
  refine kci (wr := [(z0, .inr (11, [.ref z1, .ref z2, .ref z3, .ref z4, .ref z5, .ref z6, .ref z7, .ref z8, .ref z9, .ref z10, .ref z11, .ref z12, .ref z13, .int 0, .int 0, .int 0, .int 0]))]) (va_runV (As := []) (rest := [.int r_1]) ⟨hx, hb, hml, hown, hts⟩ (r_status l D K z14 (.int 0) (.ref z15) (.ref z16) (.ref z17) (.ref z18) (.ref z19) (.ref z20) (.int 0) (.ref z21) (.ref z22) (.int 0) (.ref z23) (.int 0) (.int 0) (.int 0) (.int 0) (.long 0) (.int (-1)) (.int 0) (.int 0) (.int 0) (.ref z24) (.int 0) (.ref z25) (.ref z26) (.int 0) (.ref z27) (.ref z28) (.int 0) (.int 0) (.ref z29) (.ref z30) (.ref z31) (.int 0) (.ref z32) (.ref z33) (.ref z34) (.int 0) (.long 0) (.long 0) (.ref z35) (.ref z36) (.ref z37) (.ref z38) (.ref z39) (.ref z40) (.ref z41) (.ref z42) (.ref z43) (.ref z44) (.ref z45) (.int 0) (.int 0) (.int (-1)) (.int 0) (.long 0) (.ref z46) (.int 0) (.int (-1)) H.size) (cwV 0 hts gL_X12_status rfl rfl rfl (by decide +kernel) ⟨Nat.le_of_ble_eq_true rfl, Nat.le_of_ble_eq_true rfl⟩) (mkV hK hN (hP.sub [1] rfl) (hD.sub [1] (by decide) rfl) (ci := 12) (q0 := 0) rfl rfl) rfl rfl hl.1 rfl (lv_room (Nat.le_of_ble_eq_true rfl)) dL_law_1103 ⟨Nat.le_of_ble_eq_true rfl, Nat.le_of_ble_eq_true rfl⟩) hP hD hS hA [1] [0] rfl rfl (by decide) (by decide) (fun r_3 u_4 H locs hw hP hD hS => ?_)
  have hP : va_P D vwCl [(z0, .inr (11, [.ref z1, .ref z2, .ref z3, .ref z4, .ref z5, .ref z6, .ref z7, .ref z8, .ref z9, .ref z10, .ref z11, .ref z12, .ref z13, .int 0, .int 0, .int 0, .int 0]))] H := hP
  have hD : va_D A [(z0, .inr (11, [.ref z1, .ref z2, .ref z3, .ref z4, .ref z5, .ref z6, .ref z7, .ref z8, .ref z9, .ref z10, .ref z11, .ref z12, .ref z13, .int 0, .int 0, .int 0, .int 0]))] := hD
  have hv_5 := hw
  have heq : r_1 = r_3 := by
    try dsimp only at hv_2 hv_5
    rcases hv_2 with rfl <;> rcases hv_5 with rfl <;> first | rfl | (exfalso; omega)
  refine lv_icmp_eq (tgt := 1111) hx hb dL_law_1106 (by decide) (fun cq => ?_) (fun cq => absurd heq cq)
  refine lv_iinc (v := 6) (lv' := [(3, .int 6), (2, .ref z14), (1, .ref z0), (0, .ref b)]) hx hb dL_law_1111 hl (k := 0) rfl (by decide) (by decide) rfl (fun ls hl => ?_)
  refine lv_goto (tgt := 18) hx hb dL_law_1114 (by decide) ?_
  refine lv_iload_n hx hb dL_law_18 rfl (lv_at hl 0 rfl) ?_
  refine lv_aload_n hx hb dL_law_19 rfl (lv_at hl 3 rfl) ?_
  refine va_slen hx hb hX hbl hbA hS dL_law_20 ?_
  refine W.eq (g2 := F0 m 21 ls [.int 6, .int 6]) rfl ?_
  refine lv_bipush (v := 6) hx hb dL_law_21 (by decide) ?_
  refine lv_isub hx hb dL_law_23 ?_
  refine lv_topi (fun x_6 ex_6 => ?_)
  obtain rfl : x_6 = 0 := ex_6.trans (by first | rfl | decide)
  refine lv_icmp_gt (tgt := 1117) hx hb dL_law_24 (by decide) (fun cq => ?_) (fun cq => absurd (by decide) cq)
  refine lv_iconst (v := 1) hx hb dL_law_1117 (by decide) ?_
  refine va_forget (fun q hq => hA0 _ (hS.2.2 q hq)) ?_
  refine W.widen (k := 600000) (n := 7302250) (by decide) (by decide) ?_
  exact lw_ret hx hb hr hlocks dL_law_1118
set_option maxHeartbeats 4000000 in
set_option maxRecDepth 100000 in
theorem law_d {p : Program} {e : Env} {s : State} {m : MethodId} {below : List Frame} {meth : Method} {c : Code} (l : Launch) {b : Nat} {xs : Nat → Int32} (C0 : lw_At p s m meth c b 6 xs) (D : va_G) (K : Nat → ClassId) (hK : va_K D vwCl (KT K) s) (hN : lw_N s) {A : Nat → Prop} (hA : ∀ q, s.heap.size ≤ q → A q) (hA0 : ∀ q, A q → s.heap.size ≤ q) (hbA : ¬ A b) (z0 z1 : Nat) (H : Heap) (locs : List Loc) (hP : va_P D vwCl [] H) (hD : va_D A []) (hS : va_S A s.heap H locs) (ls : Array Slot) (hl : lv_has ls 4 [(3, .int 0), (2, .ref z0), (1, .ref z1), (0, .ref b)]) : W p l e room_1 s m #[Value.ref b] below meth c H locs 97 27561 (lw_Z below #[Value.ref b] s) (F0 m 1111 ls []) := by
  obtain ⟨hx, hb, hr, hml, hown, hts, hX, hbl, hlocks, hgv⟩ := C0
  have hown : s.vm.findClass RL = some m.cls := hown
  refine lv_iinc (v := 6) (lv' := [(3, .int 6), (2, .ref z0), (1, .ref z1), (0, .ref b)]) hx hb dL_law_1111 hl (k := 0) rfl (by decide) (by decide) rfl (fun ls hl => ?_)
  refine lv_goto (tgt := 18) hx hb dL_law_1114 (by decide) ?_
  refine lv_iload_n hx hb dL_law_18 rfl (lv_at hl 0 rfl) ?_
  refine lv_aload_n hx hb dL_law_19 rfl (lv_at hl 3 rfl) ?_
  refine va_slen hx hb hX hbl hbA hS dL_law_20 ?_
  refine W.eq (g2 := F0 m 21 ls [.int 6, .int 6]) rfl ?_
  refine lv_bipush (v := 6) hx hb dL_law_21 (by decide) ?_
  refine lv_isub hx hb dL_law_23 ?_
  refine lv_topi (fun x_1 ex_1 => ?_)
  obtain rfl : x_1 = 0 := ex_1.trans (by first | rfl | decide)
  refine lv_icmp_gt (tgt := 1117) hx hb dL_law_24 (by decide) (fun cq => ?_) (fun cq => absurd (by decide) cq)
  refine lv_iconst (v := 1) hx hb dL_law_1117 (by decide) ?_
  refine va_forget (fun q hq => hA0 _ (hS.2.2 q hq)) ?_
  refine W.widen (k := 600000) (n := 7302250) (by decide) (by decide) ?_
  exact lw_ret hx hb hr hlocks dL_law_1118
