set_option maxHeartbeats 4000000 in
set_option maxRecDepth 100000 in
theorem law_0 {p : Program} {e : Env} {s : State} {m : MethodId} {below : List Frame} {meth : Method} {c : Code} (l : Launch) {b : Nat} {xs : Nat → Int32} (C0 : lw_At p s m meth c b 6 xs) (D : va_G) (K : Nat → ClassId) (hK : va_K D vwCl (KT K) s) (hN : lw_N s) {A : Nat → Prop} (hA : ∀ q, s.heap.size ≤ q → A q) (hA0 : ∀ q, A q → s.heap.size ≤ q) (hbA : ¬ A b) (z0 z1 z2 z3 z4 z5 z6 z7 z8 z9 z10 z11 z12 z13 z14 z15 z16 z17 z18 z19 z20 z21 z22 z23 z24 z25 z26 z27 z28 z29 z30 z31 z32 z33 z34 z35 z36 z37 z38 z39 z40 z41 z42 z43 z44 z45 z46 z47 z48 z49 z50 z51 : Nat) (H : Heap) (locs : List Loc) (hP : va_P D vwCl [(z0, .inr (11, [.ref z1, .ref z2, .ref z3, .ref z4, .ref z5, .ref z6, .ref z7, .ref z8, .ref z9, .ref z10, .ref z11, .ref z12, .ref z13, .int 0, .int 0, .int 0, .int 0])), (z1, .inr (9, [.ref z14, .ref z15, .ref z16, .ref z17, .int 0, .int 0, .int (-1), .int 0, .int 0, .int 0])), (z14, .inl (K 0, 56, .inl (fun _ => 0))), (z10, .inr (2, [.ref z18, .int 0, .int 0])), (z13, .inl (K 0, 5, .inl (fun _ => 0))), (z19, .inr (12, [.int 0, .int 0, .ref z20, .ref z21, .ref z22, .ref z23, .ref z24, .ref z25, .int 0, .ref z26, .ref z27, .int 0, .ref z28, .int 0, .int 0, .int 0, .int 0, .long 0, .int (-1), .int 0, .int 0, .int 0, .ref z29, .int 0, .ref z30, .ref z31, .int 0, .ref z32, .ref z33, .int 0, .int 0, .ref z34, .ref z35, .ref z36, .int 0, .ref z37, .ref z38, .ref z39, .int 0, .long 0, .long 0, .ref z40, .ref z41, .ref z42, .ref z43, .ref z44, .ref z45, .ref z46, .ref z47, .ref z48, .ref z49, .ref z50, .int 0, .int 0, .int (-1), .int 0, .long 0, .ref z51, .int 0, .int (-1)])), (z20, .inl (K 0, 7, .inl (fun _ => 0))), (z21, .inl (K 0, 5500, .inl row0))] H) (hD : va_D A [(z0, .inr (11, [.ref z1, .ref z2, .ref z3, .ref z4, .ref z5, .ref z6, .ref z7, .ref z8, .ref z9, .ref z10, .ref z11, .ref z12, .ref z13, .int 0, .int 0, .int 0, .int 0])), (z1, .inr (9, [.ref z14, .ref z15, .ref z16, .ref z17, .int 0, .int 0, .int (-1), .int 0, .int 0, .int 0])), (z14, .inl (K 0, 56, .inl (fun _ => 0))), (z10, .inr (2, [.ref z18, .int 0, .int 0])), (z13, .inl (K 0, 5, .inl (fun _ => 0))), (z19, .inr (12, [.int 0, .int 0, .ref z20, .ref z21, .ref z22, .ref z23, .ref z24, .ref z25, .int 0, .ref z26, .ref z27, .int 0, .ref z28, .int 0, .int 0, .int 0, .int 0, .long 0, .int (-1), .int 0, .int 0, .int 0, .ref z29, .int 0, .ref z30, .ref z31, .int 0, .ref z32, .ref z33, .int 0, .int 0, .ref z34, .ref z35, .ref z36, .int 0, .ref z37, .ref z38, .ref z39, .int 0, .long 0, .long 0, .ref z40, .ref z41, .ref z42, .ref z43, .ref z44, .ref z45, .ref z46, .ref z47, .ref z48, .ref z49, .ref z50, .int 0, .int 0, .int (-1), .int 0, .long 0, .ref z51, .int 0, .int (-1)])), (z20, .inl (K 0, 7, .inl (fun _ => 0))), (z21, .inl (K 0, 5500, .inl row0))]) (hS : va_S A s.heap H locs) (ls : Array Slot) (hl : lv_has ls 4 [(3, .int 0), (2, .ref z19), (1, .ref z0), (0, .ref b)]) : W p l e room_1 s m #[Value.ref b] below meth c H locs 97 27561 (lw_Z below #[Value.ref b] s) (F0 m 192 ls []) := by
  obtain ⟨hx, hb, hr, hml, hown, hts, hX, hbl, hlocks, hgv⟩ := C0
  have hown : s.vm.findClass RL = some m.cls := hown
  refine lv_aload_n hx hb dL_law_192 rfl (lv_at hl 2 rfl) ?_
  refine lv_aload_n hx hb dL_law_193 rfl (lv_at hl 3 rfl) ?_
  refine lv_iload_n hx hb dL_law_194 rfl (lv_at hl 0 rfl) ?_
  refine lv_iconst (v := 1) hx hb dL_law_195 (by decide) ?_
  refine lv_iadd hx hb dL_law_196 ?_
  refine lv_topi (fun x_1 ex_1 => ?_)
  obtain rfl : x_1 = 1 := ex_1.trans (by first | rfl | decide)
  refine va_sld hx hb hX hbl hbA hS (i_in (x := 1) rfl (by omega)) dL_law_197 ?_
  refine W.eq (g2 := F0 m 198 ls [.int (xs 1), .ref z0]) rfl ?_
  refine lv_aload_n hx hb dL_law_198 rfl (lv_at hl 3 rfl) ?_
  refine lv_iload_n hx hb dL_law_199 rfl (lv_at hl 0 rfl) ?_
  refine lv_iconst (v := 2) hx hb dL_law_200 (by decide) ?_
  refine lv_iadd hx hb dL_law_201 ?_
  refine lv_topi (fun x_2 ex_2 => ?_)
  obtain rfl : x_2 = 2 := ex_2.trans (by first | rfl | decide)
  refine va_sld hx hb hX hbl hbA hS (i_in (x := 2) rfl (by omega)) dL_law_202 ?_
  refine W.eq (g2 := F0 m 203 ls [.int (xs 2), .int (xs 1), .ref z0]) rfl ?_
  refine lv_aload_n hx hb dL_law_203 rfl (lv_at hl 3 rfl) ?_
  refine lv_iload_n hx hb dL_law_204 rfl (lv_at hl 0 rfl) ?_
  refine lv_iconst (v := 3) hx hb dL_law_205 (by decide) ?_
  refine lv_iadd hx hb dL_law_206 ?_
  refine lv_topi (fun x_3 ex_3 => ?_)
  obtain rfl : x_3 = 3 := ex_3.trans (by first | rfl | decide)
  refine va_sld hx hb hX hbl hbA hS (i_in (x := 3) rfl (by omega)) dL_law_207 ?_
  refine W.eq (g2 := F0 m 208 ls [.int (xs 3), .int (xs 2), .int (xs 1), .ref z0]) rfl ?_
  refine lv_aload_n hx hb dL_law_208 rfl (lv_at hl 3 rfl) ?_
  refine lv_iload_n hx hb dL_law_209 rfl (lv_at hl 0 rfl) ?_
  refine lv_iconst (v := 4) hx hb dL_law_210 (by decide) ?_
  refine lv_iadd hx hb dL_law_211 ?_
  refine lv_topi (fun x_4 ex_4 => ?_)
  obtain rfl : x_4 = 4 := ex_4.trans (by first | rfl | decide)
  refine va_sld hx hb hX hbl hbA hS (i_in (x := 4) rfl (by omega)) dL_law_212 ?_
  refine W.eq (g2 := F0 m 213 ls [.int (xs 4), .int (xs 3), .int (xs 2), .int (xs 1), .ref z0]) rfl ?_
  refine lv_aload_n hx hb dL_law_213 rfl (lv_at hl 3 rfl) ?_
  refine lv_iload_n hx hb dL_law_214 rfl (lv_at hl 0 rfl) ?_
  refine lv_iconst (v := 5) hx hb dL_law_215 (by decide) ?_
  refine lv_iadd hx hb dL_law_216 ?_
  refine lv_topi (fun x_5 ex_5 => ?_)
  obtain rfl : x_5 = 5 := ex_5.trans (by first | rfl | decide)
  refine va_sld hx hb hX hbl hbA hS (i_in (x := 5) rfl (by omega)) dL_law_217 ?_
  refine W.eq (g2 := F0 m 218 ls [.int (xs 5), .int (xs 4), .int (xs 3), .int (xs 2), .int (xs 1), .ref z0]) rfl ?_
  refine kci (wr := [(z19, .inr (12, [.int 0, .int 0, .ref z20, .ref z21, .ref z22, .ref z23, .ref z24, .ref z25, .int 0, .ref z26, .ref z27, .int 0, .ref z28, .int 0, .int 0, .int 0, .int 0, .long 0, .int (-1), .int 0, .int 0, .int 0, .ref z29, .int 0, .ref z30, .ref z31, .int 0, .ref z32, .ref z33, .int 0, .int 0, .ref z34, .ref z35, .ref z36, .int 0, .ref z37, .ref z38, .ref z39, .int 0, .long 0, .long 0, .ref z40, .ref z41, .ref z42, .ref z43, .ref z44, .ref z45, .ref z46, .ref z47, .ref z48, .ref z49, .ref z50, .int 0, .int 0, .int (-1), .int 0, .long 0, .ref z51, .int 0, .int (-1)])), (z20, .inl (K 0, 7, .inl (fun _ => 0))), (z21, .inl (K 0, 5500, .inl row0))]) (va_runV (As := [.int (xs 1), .int (xs 2), .int (xs 3), .int (xs 4), .int (xs 5)]) (rest := []) ⟨hx, hb, hml, hown, hts⟩ (t_house l D K z0 (xs 1) (xs 2) (xs 3) (xs 4) (xs 5) z1 (.ref z2) (.ref z3) (.ref z4) (.ref z5) (.ref z6) (.ref z7) (.ref z8) (.ref z9) z10 (.ref z11) (.ref z12) z13 (.int 0) (.int 0) (.int 0) (.int 0) (fun _ => 0) z14 (.ref z15) (.ref z16) (.ref z17) (.int 0) (.int (-1)) (.int 0) (.int 0) (.int 0) (.ref z18) (.int 0) (.int 0) H.size) (cwV 5 hts gL_X11_house rfl rfl rfl (by decide +kernel) ⟨Nat.le_of_ble_eq_true rfl, Nat.le_of_ble_eq_true rfl⟩) (mkV hK hN (hP.sub [0, 4, 1, 3, 2] rfl) (hD.sub [0, 4, 1, 3, 2] (by decide) rfl) (ci := 11) (q0 := 0) rfl rfl) rfl rfl hl.1 rfl (lv_room (Nat.le_of_ble_eq_true rfl)) dL_law_218 ⟨Nat.le_of_ble_eq_true rfl, Nat.le_of_ble_eq_true rfl⟩) hP hD hS hA [0, 4, 1, 3, 2] [5, 6, 7] rfl rfl (by decide) (by decide) (fun r_6 u_7 H locs hw hP hD hS => ?_)
  have hP : va_P D vwCl [(z19, .inr (12, [.int 0, .int 0, .ref z20, .ref z21, .ref z22, .ref z23, .ref z24, .ref z25, .int 0, .ref z26, .ref z27, .int 0, .ref z28, .int 0, .int 0, .int 0, .int 0, .long 0, .int (-1), .int 0, .int 0, .int 0, .ref z29, .int 0, .ref z30, .ref z31, .int 0, .ref z32, .ref z33, .int 0, .int 0, .ref z34, .ref z35, .ref z36, .int 0, .ref z37, .ref z38, .ref z39, .int 0, .long 0, .long 0, .ref z40, .ref z41, .ref z42, .ref z43, .ref z44, .ref z45, .ref z46, .ref z47, .ref z48, .ref z49, .ref z50, .int 0, .int 0, .int (-1), .int 0, .long 0, .ref z51, .int 0, .int (-1)])), (z20, .inl (K 0, 7, .inl (fun _ => 0))), (z21, .inl (K 0, 5500, .inl row0))] H := hP
  have hD : va_D A [(z19, .inr (12, [.int 0, .int 0, .ref z20, .ref z21, .ref z22, .ref z23, .ref z24, .ref z25, .int 0, .ref z26, .ref z27, .int 0, .ref z28, .int 0, .int 0, .int 0, .int 0, .long 0, .int (-1), .int 0, .int 0, .int 0, .ref z29, .int 0, .ref z30, .ref z31, .int 0, .ref z32, .ref z33, .int 0, .int 0, .ref z34, .ref z35, .ref z36, .int 0, .ref z37, .ref z38, .ref z39, .int 0, .long 0, .long 0, .ref z40, .ref z41, .ref z42, .ref z43, .ref z44, .ref z45, .ref z46, .ref z47, .ref z48, .ref z49, .ref z50, .int 0, .int 0, .int (-1), .int 0, .long 0, .ref z51, .int 0, .int (-1)])), (z20, .inl (K 0, 7, .inl (fun _ => 0))), (z21, .inl (K 0, 5500, .inl row0))] := hD
  have hv_8 := hw
  refine lv_aload_n hx hb dL_law_221 rfl (lv_at hl 1 rfl) ?_
  refine lv_aload_n hx hb dL_law_222 rfl (lv_at hl 3 rfl) ?_
  refine lv_iload_n hx hb dL_law_223 rfl (lv_at hl 0 rfl) ?_
  refine lv_iconst (v := 1) hx hb dL_law_224 (by decide) ?_
  refine lv_iadd hx hb dL_law_225 ?_
  refine lv_topi (fun x_9 ex_9 => ?_)
  obtain rfl : x_9 = 1 := ex_9.trans (by first | rfl | decide)
  refine va_sld hx hb hX hbl hbA hS (i_in (x := 1) rfl (by omega)) dL_law_226 ?_
  refine W.eq (g2 := F0 m 227 ls [.int (xs 1), .ref z19, .int r_6]) rfl ?_
  refine lv_aload_n hx hb dL_law_227 rfl (lv_at hl 3 rfl) ?_
  refine lv_iload_n hx hb dL_law_228 rfl (lv_at hl 0 rfl) ?_
  refine lv_iconst (v := 2) hx hb dL_law_229 (by decide) ?_
  refine lv_iadd hx hb dL_law_230 ?_
  refine lv_topi (fun x_10 ex_10 => ?_)
  obtain rfl : x_10 = 2 := ex_10.trans (by first | rfl | decide)
  refine va_sld hx hb hX hbl hbA hS (i_in (x := 2) rfl (by omega)) dL_law_231 ?_
  refine W.eq (g2 := F0 m 232 ls [.int (xs 2), .int (xs 1), .ref z19, .int r_6]) rfl ?_
  refine lv_aload_n hx hb dL_law_232 rfl (lv_at hl 3 rfl) ?_
  refine lv_iload_n hx hb dL_law_233 rfl (lv_at hl 0 rfl) ?_
  refine lv_iconst (v := 3) hx hb dL_law_234 (by decide) ?_
  refine lv_iadd hx hb dL_law_235 ?_
  refine lv_topi (fun x_11 ex_11 => ?_)
  obtain rfl : x_11 = 3 := ex_11.trans (by first | rfl | decide)
  refine va_sld hx hb hX hbl hbA hS (i_in (x := 3) rfl (by omega)) dL_law_236 ?_
  refine W.eq (g2 := F0 m 237 ls [.int (xs 3), .int (xs 2), .int (xs 1), .ref z19, .int r_6]) rfl ?_
  refine lv_aload_n hx hb dL_law_237 rfl (lv_at hl 3 rfl) ?_
  refine lv_iload_n hx hb dL_law_238 rfl (lv_at hl 0 rfl) ?_
  refine lv_iconst (v := 4) hx hb dL_law_239 (by decide) ?_
  refine lv_iadd hx hb dL_law_240 ?_
  refine lv_topi (fun x_12 ex_12 => ?_)
  obtain rfl : x_12 = 4 := ex_12.trans (by first | rfl | decide)
  refine va_sld hx hb hX hbl hbA hS (i_in (x := 4) rfl (by omega)) dL_law_241 ?_
  refine W.eq (g2 := F0 m 242 ls [.int (xs 4), .int (xs 3), .int (xs 2), .int (xs 1), .ref z19, .int r_6]) rfl ?_
  refine lv_aload_n hx hb dL_law_242 rfl (lv_at hl 3 rfl) ?_
  refine lv_iload_n hx hb dL_law_243 rfl (lv_at hl 0 rfl) ?_
  refine lv_iconst (v := 5) hx hb dL_law_244 (by decide) ?_
  refine lv_iadd hx hb dL_law_245 ?_
  refine lv_topi (fun x_13 ex_13 => ?_)
  obtain rfl : x_13 = 5 := ex_13.trans (by first | rfl | decide)
  refine va_sld hx hb hX hbl hbA hS (i_in (x := 5) rfl (by omega)) dL_law_246 ?_
  refine W.eq (g2 := F0 m 247 ls [.int (xs 5), .int (xs 4), .int (xs 3), .int (xs 2), .int (xs 1), .ref z19, .int r_6]) rfl ?_
  refine kci (wr := []) (va_runV (As := [.int (xs 1), .int (xs 2), .int (xs 3), .int (xs 4), .int (xs 5)]) (rest := [.int r_6]) ⟨hx, hb, hml, hown, hts⟩ (r_house l D K z19 (xs 1) (xs 2) (xs 3) (xs 4) (xs 5) (.int 0) (.int 0) z20 z21 (.ref z22) (.ref z23) (.ref z24) (.ref z25) (.int 0) (.ref z26) (.ref z27) (.int 0) (.ref z28) (.int 0) (.int 0) (.int 0) (.int 0) (.long 0) (.int (-1)) (.int 0) (.int 0) (.int 0) (.ref z29) (.int 0) (.ref z30) (.ref z31) (.int 0) (.ref z32) (.ref z33) (.int 0) (.int 0) (.ref z34) (.ref z35) (.ref z36) (.int 0) (.ref z37) (.ref z38) (.ref z39) (.int 0) (.long 0) (.long 0) (.ref z40) (.ref z41) (.ref z42) (.ref z43) (.ref z44) (.ref z45) (.ref z46) (.ref z47) (.ref z48) (.ref z49) (.ref z50) (.int 0) (.int 0) (.int (-1)) (.int 0) (.long 0) (.ref z51) (.int 0) (.int (-1)) H.size) (cwV 5 hts gL_X12_house rfl rfl rfl (by decide +kernel) ⟨Nat.le_of_ble_eq_true rfl, Nat.le_of_ble_eq_true rfl⟩) (mkV hK hN (hP.sub [0, 2, 1] rfl) (hD.sub [0, 2, 1] (by decide) rfl) (ci := 12) (q0 := 0) rfl rfl) rfl rfl hl.1 rfl (lv_room (Nat.le_of_ble_eq_true rfl)) dL_law_247 ⟨Nat.le_of_ble_eq_true rfl, Nat.le_of_ble_eq_true rfl⟩) hP hD hS hA [0, 2, 1] [] rfl rfl (by decide) (by decide) (fun r_14 u_15 H locs hw hP hD hS => ?_)
  have hP : va_P D vwCl [] H := hP
  have hD : va_D A [] := hD
  have hv_16 := hw
  have heq : r_6 = r_14 := by
    try dsimp only at hv_8 hv_16
    rcases hv_8 with ⟨rfl, k00, k01, k02, k03, k04, k05, k06, k07, k08, k09⟩ | ⟨rfl, k10⟩ <;> rcases hv_16 with ⟨rfl, j00, j01, j02, j03, j04, j05, j06, j07, j08, j09⟩ | ⟨rfl, j10⟩ <;> first | rfl | (exfalso; omega)
  refine lv_icmp_eq (tgt := 1111) hx hb dL_law_250 (by decide) (fun cq => ?_) (fun cq => absurd heq cq)
  refine lv_iinc (v := 6) (lv' := [(3, .int 6), (2, .ref z19), (1, .ref z0), (0, .ref b)]) hx hb dL_law_1111 hl (k := 0) rfl (by decide) (by decide) rfl (fun ls hl => ?_)
  refine lv_goto (tgt := 18) hx hb dL_law_1114 (by decide) ?_
  refine lv_iload_n hx hb dL_law_18 rfl (lv_at hl 0 rfl) ?_
  refine lv_aload_n hx hb dL_law_19 rfl (lv_at hl 3 rfl) ?_
  refine va_slen hx hb hX hbl hbA hS dL_law_20 ?_
  refine W.eq (g2 := F0 m 21 ls [.int 6, .int 6]) rfl ?_
  refine lv_bipush (v := 6) hx hb dL_law_21 (by decide) ?_
  refine lv_isub hx hb dL_law_23 ?_
  refine lv_topi (fun x_17 ex_17 => ?_)
  obtain rfl : x_17 = 0 := ex_17.trans (by first | rfl | decide)
  refine lv_icmp_gt (tgt := 1117) hx hb dL_law_24 (by decide) (fun cq => ?_) (fun cq => absurd (by decide) cq)
  refine lv_iconst (v := 1) hx hb dL_law_1117 (by decide) ?_
  refine va_forget (fun q hq => hA0 _ (hS.2.2 q hq)) ?_
  refine W.widen (k := 600000) (n := 7302250) (by decide) (by decide) ?_
  exact lw_ret hx hb hr hlocks dL_law_1118
set_option maxHeartbeats 4000000 in
set_option maxRecDepth 100000 in
theorem law_1 {p : Program} {e : Env} {s : State} {m : MethodId} {below : List Frame} {meth : Method} {c : Code} (l : Launch) {b : Nat} {xs : Nat → Int32} (C0 : lw_At p s m meth c b 6 xs) (D : va_G) (K : Nat → ClassId) (hK : va_K D vwCl (KT K) s) (hN : lw_N s) {A : Nat → Prop} (hA : ∀ q, s.heap.size ≤ q → A q) (hA0 : ∀ q, A q → s.heap.size ≤ q) (hbA : ¬ A b) (z0 z1 z2 z3 z4 z5 z6 z7 z8 z9 z10 z11 z12 z13 z14 z15 z16 z17 z18 z19 z20 z21 z22 z23 z24 z25 z26 z27 z28 z29 z30 z31 z32 z33 z34 z35 z36 z37 z38 z39 z40 z41 z42 z43 z44 z45 z46 z47 z48 z49 z50 : Nat) (H : Heap) (locs : List Loc) (hP : va_P D vwCl [(z0, .inr (11, [.ref z1, .ref z2, .ref z3, .ref z4, .ref z5, .ref z6, .ref z7, .ref z8, .ref z9, .ref z10, .ref z11, .ref z12, .ref z13, .int 0, .int 0, .int 0, .int 0])), (z1, .inr (9, [.ref z14, .ref z15, .ref z16, .ref z17, .int 0, .int 0, .int (-1), .int 0, .int 0, .int 0])), (z18, .inr (12, [.int 0, .int 0, .ref z19, .ref z20, .ref z21, .ref z22, .ref z23, .ref z24, .int 0, .ref z25, .ref z26, .int 0, .ref z27, .int 0, .int 0, .int 0, .int 0, .long 0, .int (-1), .int 0, .int 0, .int 0, .ref z28, .int 0, .ref z29, .ref z30, .int 0, .ref z31, .ref z32, .int 0, .int 0, .ref z33, .ref z34, .ref z35, .int 0, .ref z36, .ref z37, .ref z38, .int 0, .long 0, .long 0, .ref z39, .ref z40, .ref z41, .ref z42, .ref z43, .ref z44, .ref z45, .ref z46, .ref z47, .ref z48, .ref z49, .int 0, .int 0, .int (-1), .int 0, .long 0, .ref z50, .int 0, .int (-1)])), (z20, .inl (K 0, 5500, .inl row0))] H) (hD : va_D A [(z0, .inr (11, [.ref z1, .ref z2, .ref z3, .ref z4, .ref z5, .ref z6, .ref z7, .ref z8, .ref z9, .ref z10, .ref z11, .ref z12, .ref z13, .int 0, .int 0, .int 0, .int 0])), (z1, .inr (9, [.ref z14, .ref z15, .ref z16, .ref z17, .int 0, .int 0, .int (-1), .int 0, .int 0, .int 0])), (z18, .inr (12, [.int 0, .int 0, .ref z19, .ref z20, .ref z21, .ref z22, .ref z23, .ref z24, .int 0, .ref z25, .ref z26, .int 0, .ref z27, .int 0, .int 0, .int 0, .int 0, .long 0, .int (-1), .int 0, .int 0, .int 0, .ref z28, .int 0, .ref z29, .ref z30, .int 0, .ref z31, .ref z32, .int 0, .int 0, .ref z33, .ref z34, .ref z35, .int 0, .ref z36, .ref z37, .ref z38, .int 0, .long 0, .long 0, .ref z39, .ref z40, .ref z41, .ref z42, .ref z43, .ref z44, .ref z45, .ref z46, .ref z47, .ref z48, .ref z49, .int 0, .int 0, .int (-1), .int 0, .long 0, .ref z50, .int 0, .int (-1)])), (z20, .inl (K 0, 5500, .inl row0))]) (hS : va_S A s.heap H locs) (ls : Array Slot) (hl : lv_has ls 4 [(3, .int 0), (2, .ref z18), (1, .ref z0), (0, .ref b)]) : W p l e room_1 s m #[Value.ref b] below meth c H locs 97 27561 (lw_Z below #[Value.ref b] s) (F0 m 255 ls []) := by
  obtain ⟨hx, hb, hr, hml, hown, hts, hX, hbl, hlocks, hgv⟩ := C0
  have hown : s.vm.findClass RL = some m.cls := hown
  refine lv_aload_n hx hb dL_law_255 rfl (lv_at hl 2 rfl) ?_
  refine lv_aload_n hx hb dL_law_256 rfl (lv_at hl 3 rfl) ?_
  refine lv_iload_n hx hb dL_law_257 rfl (lv_at hl 0 rfl) ?_
  refine lv_iconst (v := 1) hx hb dL_law_258 (by decide) ?_
  refine lv_iadd hx hb dL_law_259 ?_
  refine lv_topi (fun x_1 ex_1 => ?_)
  obtain rfl : x_1 = 1 := ex_1.trans (by first | rfl | decide)
  refine va_sld hx hb hX hbl hbA hS (i_in (x := 1) rfl (by omega)) dL_law_260 ?_
  refine W.eq (g2 := F0 m 261 ls [.int (xs 1), .ref z0]) rfl ?_
  refine lv_aload_n hx hb dL_law_261 rfl (lv_at hl 3 rfl) ?_
  refine lv_iload_n hx hb dL_law_262 rfl (lv_at hl 0 rfl) ?_
  refine lv_iconst (v := 2) hx hb dL_law_263 (by decide) ?_
  refine lv_iadd hx hb dL_law_264 ?_
  refine lv_topi (fun x_2 ex_2 => ?_)
  obtain rfl : x_2 = 2 := ex_2.trans (by first | rfl | decide)
  refine va_sld hx hb hX hbl hbA hS (i_in (x := 2) rfl (by omega)) dL_law_265 ?_
  refine W.eq (g2 := F0 m 266 ls [.int (xs 2), .int (xs 1), .ref z0]) rfl ?_
  refine pci (va_runV (As := [.int (xs 1), .int (xs 2)]) (rest := []) ⟨hx, hb, hml, hown, hts⟩ (t_of l D K z0 (xs 1) (xs 2) z1 (.ref z2) (.ref z3) (.ref z4) (.ref z5) (.ref z6) (.ref z7) (.ref z8) (.ref z9) (.ref z10) (.ref z11) (.ref z12) (.ref z13) (.int 0) (.int 0) (.int 0) (.int 0) (.ref z14) (.ref z15) (.ref z16) (.ref z17) (.int 0) (.int (-1)) (.int 0) (.int 0) (.int 0) H.size) (cwV 2 hts gL_X11_of rfl rfl rfl (by decide +kernel) ⟨Nat.le_of_ble_eq_true rfl, Nat.le_of_ble_eq_true rfl⟩) (mkV hK hN (hP.sub [0, 1] rfl) (hD.sub [0, 1] (by decide) rfl) (ci := 11) (q0 := 0) rfl rfl) rfl rfl hl.1 rfl (lv_room (Nat.le_of_ble_eq_true rfl)) dL_law_266 ⟨Nat.le_of_ble_eq_true rfl, Nat.le_of_ble_eq_true rfl⟩) (fun r_3 hw => ?_)
  have hv_4 := hw
  refine lv_aload_n hx hb dL_law_269 rfl (lv_at hl 1 rfl) ?_
  refine lv_aload_n hx hb dL_law_270 rfl (lv_at hl 3 rfl) ?_
  refine lv_iload_n hx hb dL_law_271 rfl (lv_at hl 0 rfl) ?_
  refine lv_iconst (v := 1) hx hb dL_law_272 (by decide) ?_
  refine lv_iadd hx hb dL_law_273 ?_
  refine lv_topi (fun x_5 ex_5 => ?_)
  obtain rfl : x_5 = 1 := ex_5.trans (by first | rfl | decide)
  refine va_sld hx hb hX hbl hbA hS (i_in (x := 1) rfl (by omega)) dL_law_274 ?_
  refine W.eq (g2 := F0 m 275 ls [.int (xs 1), .ref z18, .int r_3]) rfl ?_
  refine lv_aload_n hx hb dL_law_275 rfl (lv_at hl 3 rfl) ?_
  refine lv_iload_n hx hb dL_law_276 rfl (lv_at hl 0 rfl) ?_
  refine lv_iconst (v := 2) hx hb dL_law_277 (by decide) ?_
  refine lv_iadd hx hb dL_law_278 ?_
  refine lv_topi (fun x_6 ex_6 => ?_)
  obtain rfl : x_6 = 2 := ex_6.trans (by first | rfl | decide)
  refine va_sld hx hb hX hbl hbA hS (i_in (x := 2) rfl (by omega)) dL_law_279 ?_
  refine W.eq (g2 := F0 m 280 ls [.int (xs 2), .int (xs 1), .ref z18, .int r_3]) rfl ?_
  refine kci (wr := [(z0, .inr (11, [.ref z1, .ref z2, .ref z3, .ref z4, .ref z5, .ref z6, .ref z7, .ref z8, .ref z9, .ref z10, .ref z11, .ref z12, .ref z13, .int 0, .int 0, .int 0, .int 0])), (z1, .inr (9, [.ref z14, .ref z15, .ref z16, .ref z17, .int 0, .int 0, .int (-1), .int 0, .int 0, .int 0]))]) (va_runV (As := [.int (xs 1), .int (xs 2)]) (rest := [.int r_3]) ⟨hx, hb, hml, hown, hts⟩ (r_of l D K z18 (xs 1) (xs 2) (.int 0) (.int 0) (.ref z19) z20 (.ref z21) (.ref z22) (.ref z23) (.ref z24) (.int 0) (.ref z25) (.ref z26) (.int 0) (.ref z27) (.int 0) (.int 0) (.int 0) (.int 0) (.long 0) (.int (-1)) (.int 0) (.int 0) (.int 0) (.ref z28) (.int 0) (.ref z29) (.ref z30) (.int 0) (.ref z31) (.ref z32) (.int 0) (.int 0) (.ref z33) (.ref z34) (.ref z35) (.int 0) (.ref z36) (.ref z37) (.ref z38) (.int 0) (.long 0) (.long 0) (.ref z39) (.ref z40) (.ref z41) (.ref z42) (.ref z43) (.ref z44) (.ref z45) (.ref z46) (.ref z47) (.ref z48) (.ref z49) (.int 0) (.int 0) (.int (-1)) (.int 0) (.long 0) (.ref z50) (.int 0) (.int (-1)) H.size) (cwV 2 hts gL_X12_of rfl rfl rfl (by decide +kernel) ⟨Nat.le_of_ble_eq_true rfl, Nat.le_of_ble_eq_true rfl⟩) (mkV hK hN (hP.sub [2, 3] rfl) (hD.sub [2, 3] (by decide) rfl) (ci := 12) (q0 := 0) rfl rfl) rfl rfl hl.1 rfl (lv_room (Nat.le_of_ble_eq_true rfl)) dL_law_280 ⟨Nat.le_of_ble_eq_true rfl, Nat.le_of_ble_eq_true rfl⟩) hP hD hS hA [2, 3] [0, 1] rfl rfl (by decide) (by decide) (fun r_7 u_8 H locs hw hP hD hS => ?_)
  have hP : va_P D vwCl [(z0, .inr (11, [.ref z1, .ref z2, .ref z3, .ref z4, .ref z5, .ref z6, .ref z7, .ref z8, .ref z9, .ref z10, .ref z11, .ref z12, .ref z13, .int 0, .int 0, .int 0, .int 0])), (z1, .inr (9, [.ref z14, .ref z15, .ref z16, .ref z17, .int 0, .int 0, .int (-1), .int 0, .int 0, .int 0]))] H := hP
  have hD : va_D A [(z0, .inr (11, [.ref z1, .ref z2, .ref z3, .ref z4, .ref z5, .ref z6, .ref z7, .ref z8, .ref z9, .ref z10, .ref z11, .ref z12, .ref z13, .int 0, .int 0, .int 0, .int 0])), (z1, .inr (9, [.ref z14, .ref z15, .ref z16, .ref z17, .int 0, .int 0, .int (-1), .int 0, .int 0, .int 0]))] := hD
  have hv_9 := hw
  have heq : r_3 = r_7 := by
    try dsimp only at hv_4 hv_9
    rcases hv_4 with rfl <;> rcases hv_9 with rfl <;> first | rfl | (exfalso; omega)
  refine lv_icmp_eq (tgt := 1111) hx hb dL_law_283 (by decide) (fun cq => ?_) (fun cq => absurd heq cq)
  refine lv_iinc (v := 6) (lv' := [(3, .int 6), (2, .ref z18), (1, .ref z0), (0, .ref b)]) hx hb dL_law_1111 hl (k := 0) rfl (by decide) (by decide) rfl (fun ls hl => ?_)
  refine lv_goto (tgt := 18) hx hb dL_law_1114 (by decide) ?_
  refine lv_iload_n hx hb dL_law_18 rfl (lv_at hl 0 rfl) ?_
  refine lv_aload_n hx hb dL_law_19 rfl (lv_at hl 3 rfl) ?_
  refine va_slen hx hb hX hbl hbA hS dL_law_20 ?_
  refine W.eq (g2 := F0 m 21 ls [.int 6, .int 6]) rfl ?_
  refine lv_bipush (v := 6) hx hb dL_law_21 (by decide) ?_
  refine lv_isub hx hb dL_law_23 ?_
  refine lv_topi (fun x_10 ex_10 => ?_)
  obtain rfl : x_10 = 0 := ex_10.trans (by first | rfl | decide)
  refine lv_icmp_gt (tgt := 1117) hx hb dL_law_24 (by decide) (fun cq => ?_) (fun cq => absurd (by decide) cq)
  refine lv_iconst (v := 1) hx hb dL_law_1117 (by decide) ?_
  refine va_forget (fun q hq => hA0 _ (hS.2.2 q hq)) ?_
  refine W.widen (k := 600000) (n := 7302250) (by decide) (by decide) ?_
  exact lw_ret hx hb hr hlocks dL_law_1118
set_option maxHeartbeats 4000000 in
set_option maxRecDepth 100000 in
theorem law_2 {p : Program} {e : Env} {s : State} {m : MethodId} {below : List Frame} {meth : Method} {c : Code} (l : Launch) {b : Nat} {xs : Nat → Int32} (C0 : lw_At p s m meth c b 6 xs) (D : va_G) (K : Nat → ClassId) (hK : va_K D vwCl (KT K) s) (hN : lw_N s) {A : Nat → Prop} (hA : ∀ q, s.heap.size ≤ q → A q) (hA0 : ∀ q, A q → s.heap.size ≤ q) (hbA : ¬ A b) (z0 z1 z2 z3 z4 z5 z6 z7 z8 z9 z10 z11 z12 z13 z14 z15 z16 z17 z18 z19 z20 z21 z22 z23 z24 z25 z26 z27 z28 z29 z30 z31 z32 z33 z34 z35 z36 z37 z38 z39 z40 z41 z42 z43 z44 z45 z46 z47 z48 z49 z50 : Nat) (H : Heap) (locs : List Loc) (hP : va_P D vwCl [(z0, .inr (11, [.ref z1, .ref z2, .ref z3, .ref z4, .ref z5, .ref z6, .ref z7, .ref z8, .ref z9, .ref z10, .ref z11, .ref z12, .ref z13, .int 0, .int 0, .int 0, .int 0])), (z1, .inr (9, [.ref z14, .ref z15, .ref z16, .ref z17, .int 0, .int 0, .int (-1), .int 0, .int 0, .int 0])), (z15, .inl (K 0, 24, .inl (fun _ => 0))), (z13, .inl (K 0, 5, .inl (fun _ => 0))), (z18, .inr (12, [.int 0, .int 0, .ref z19, .ref z20, .ref z21, .ref z22, .ref z23, .ref z24, .int 0, .ref z25, .ref z26, .int 0, .ref z27, .int 0, .int 0, .int 0, .int 0, .long 0, .int (-1), .int 0, .int 0, .int 0, .ref z28, .int 0, .ref z29, .ref z30, .int 0, .ref z31, .ref z32, .int 0, .int 0, .ref z33, .ref z34, .ref z35, .int 0, .ref z36, .ref z37, .ref z38, .int 0, .long 0, .long 0, .ref z39, .ref z40, .ref z41, .ref z42, .ref z43, .ref z44, .ref z45, .ref z46, .ref z47, .ref z48, .ref z49, .int 0, .int 0, .int (-1), .int 0, .long 0, .ref z50, .int 0, .int (-1)])), (z19, .inl (K 0, 7, .inl (fun _ => 0))), (z20, .inl (K 0, 5500, .inl row0))] H) (hD : va_D A [(z0, .inr (11, [.ref z1, .ref z2, .ref z3, .ref z4, .ref z5, .ref z6, .ref z7, .ref z8, .ref z9, .ref z10, .ref z11, .ref z12, .ref z13, .int 0, .int 0, .int 0, .int 0])), (z1, .inr (9, [.ref z14, .ref z15, .ref z16, .ref z17, .int 0, .int 0, .int (-1), .int 0, .int 0, .int 0])), (z15, .inl (K 0, 24, .inl (fun _ => 0))), (z13, .inl (K 0, 5, .inl (fun _ => 0))), (z18, .inr (12, [.int 0, .int 0, .ref z19, .ref z20, .ref z21, .ref z22, .ref z23, .ref z24, .int 0, .ref z25, .ref z26, .int 0, .ref z27, .int 0, .int 0, .int 0, .int 0, .long 0, .int (-1), .int 0, .int 0, .int 0, .ref z28, .int 0, .ref z29, .ref z30, .int 0, .ref z31, .ref z32, .int 0, .int 0, .ref z33, .ref z34, .ref z35, .int 0, .ref z36, .ref z37, .ref z38, .int 0, .long 0, .long 0, .ref z39, .ref z40, .ref z41, .ref z42, .ref z43, .ref z44, .ref z45, .ref z46, .ref z47, .ref z48, .ref z49, .int 0, .int 0, .int (-1), .int 0, .long 0, .ref z50, .int 0, .int (-1)])), (z19, .inl (K 0, 7, .inl (fun _ => 0))), (z20, .inl (K 0, 5500, .inl row0))]) (hS : va_S A s.heap H locs) (ls : Array Slot) (hl : lv_has ls 4 [(3, .int 0), (2, .ref z18), (1, .ref z0), (0, .ref b)]) : W p l e room_1 s m #[Value.ref b] below meth c H locs 97 27561 (lw_Z below #[Value.ref b] s) (F0 m 288 ls []) := by
  obtain ⟨hx, hb, hr, hml, hown, hts, hX, hbl, hlocks, hgv⟩ := C0
  have hown : s.vm.findClass RL = some m.cls := hown
  refine lv_aload_n hx hb dL_law_288 rfl (lv_at hl 2 rfl) ?_
  refine lv_aload_n hx hb dL_law_289 rfl (lv_at hl 3 rfl) ?_
  refine lv_iload_n hx hb dL_law_290 rfl (lv_at hl 0 rfl) ?_
  refine lv_iconst (v := 1) hx hb dL_law_291 (by decide) ?_
  refine lv_iadd hx hb dL_law_292 ?_
  refine lv_topi (fun x_1 ex_1 => ?_)
  obtain rfl : x_1 = 1 := ex_1.trans (by first | rfl | decide)
  refine va_sld hx hb hX hbl hbA hS (i_in (x := 1) rfl (by omega)) dL_law_293 ?_
  refine W.eq (g2 := F0 m 294 ls [.int (xs 1), .ref z0]) rfl ?_
  refine lv_aload_n hx hb dL_law_294 rfl (lv_at hl 3 rfl) ?_
  refine lv_iload_n hx hb dL_law_295 rfl (lv_at hl 0 rfl) ?_
  refine lv_iconst (v := 2) hx hb dL_law_296 (by decide) ?_
  refine lv_iadd hx hb dL_law_297 ?_
  refine lv_topi (fun x_2 ex_2 => ?_)
  obtain rfl : x_2 = 2 := ex_2.trans (by first | rfl | decide)
  refine va_sld hx hb hX hbl hbA hS (i_in (x := 2) rfl (by omega)) dL_law_298 ?_
  refine W.eq (g2 := F0 m 299 ls [.int (xs 2), .int (xs 1), .ref z0]) rfl ?_
  refine kci (wr := [(z18, .inr (12, [.int 0, .int 0, .ref z19, .ref z20, .ref z21, .ref z22, .ref z23, .ref z24, .int 0, .ref z25, .ref z26, .int 0, .ref z27, .int 0, .int 0, .int 0, .int 0, .long 0, .int (-1), .int 0, .int 0, .int 0, .ref z28, .int 0, .ref z29, .ref z30, .int 0, .ref z31, .ref z32, .int 0, .int 0, .ref z33, .ref z34, .ref z35, .int 0, .ref z36, .ref z37, .ref z38, .int 0, .long 0, .long 0, .ref z39, .ref z40, .ref z41, .ref z42, .ref z43, .ref z44, .ref z45, .ref z46, .ref z47, .ref z48, .ref z49, .int 0, .int 0, .int (-1), .int 0, .long 0, .ref z50, .int 0, .int (-1)])), (z19, .inl (K 0, 7, .inl (fun _ => 0))), (z20, .inl (K 0, 5500, .inl row0))]) (va_runV (As := [.int (xs 1), .int (xs 2)]) (rest := []) ⟨hx, hb, hml, hown, hts⟩ (t_score l D K z0 (xs 1) (xs 2) z1 (.ref z2) (.ref z3) (.ref z4) (.ref z5) (.ref z6) (.ref z7) (.ref z8) (.ref z9) (.ref z10) (.ref z11) (.ref z12) z13 (.int 0) (.int 0) (.int 0) (.int 0) (fun _ => 0) (.ref z14) z15 (.ref z16) (.ref z17) (.int 0) (.int 0) (.int (-1)) (.int 0) (.int 0) (.int 0) H.size) (cwV 2 hts gL_X11_score rfl rfl rfl (by decide +kernel) ⟨Nat.le_of_ble_eq_true rfl, Nat.le_of_ble_eq_true rfl⟩) (mkV hK hN (hP.sub [0, 3, 1, 2] rfl) (hD.sub [0, 3, 1, 2] (by decide) rfl) (ci := 11) (q0 := 0) rfl rfl) rfl rfl hl.1 rfl (lv_room (Nat.le_of_ble_eq_true rfl)) dL_law_299 ⟨Nat.le_of_ble_eq_true rfl, Nat.le_of_ble_eq_true rfl⟩) hP hD hS hA [0, 3, 1, 2] [4, 5, 6] rfl rfl (by decide) (by decide) (fun r_3 u_4 H locs hw hP hD hS => ?_)
  have hP : va_P D vwCl [(z18, .inr (12, [.int 0, .int 0, .ref z19, .ref z20, .ref z21, .ref z22, .ref z23, .ref z24, .int 0, .ref z25, .ref z26, .int 0, .ref z27, .int 0, .int 0, .int 0, .int 0, .long 0, .int (-1), .int 0, .int 0, .int 0, .ref z28, .int 0, .ref z29, .ref z30, .int 0, .ref z31, .ref z32, .int 0, .int 0, .ref z33, .ref z34, .ref z35, .int 0, .ref z36, .ref z37, .ref z38, .int 0, .long 0, .long 0, .ref z39, .ref z40, .ref z41, .ref z42, .ref z43, .ref z44, .ref z45, .ref z46, .ref z47, .ref z48, .ref z49, .int 0, .int 0, .int (-1), .int 0, .long 0, .ref z50, .int 0, .int (-1)])), (z19, .inl (K 0, 7, .inl (fun _ => 0))), (z20, .inl (K 0, 5500, .inl row0))] H := hP
  have hD : va_D A [(z18, .inr (12, [.int 0, .int 0, .ref z19, .ref z20, .ref z21, .ref z22, .ref z23, .ref z24, .int 0, .ref z25, .ref z26, .int 0, .ref z27, .int 0, .int 0, .int 0, .int 0, .long 0, .int (-1), .int 0, .int 0, .int 0, .ref z28, .int 0, .ref z29, .ref z30, .int 0, .ref z31, .ref z32, .int 0, .int 0, .ref z33, .ref z34, .ref z35, .int 0, .ref z36, .ref z37, .ref z38, .int 0, .long 0, .long 0, .ref z39, .ref z40, .ref z41, .ref z42, .ref z43, .ref z44, .ref z45, .ref z46, .ref z47, .ref z48, .ref z49, .int 0, .int 0, .int (-1), .int 0, .long 0, .ref z50, .int 0, .int (-1)])), (z19, .inl (K 0, 7, .inl (fun _ => 0))), (z20, .inl (K 0, 5500, .inl row0))] := hD
  have hv_5 := hw
  refine lv_aload_n hx hb dL_law_302 rfl (lv_at hl 1 rfl) ?_
  refine lv_aload_n hx hb dL_law_303 rfl (lv_at hl 3 rfl) ?_
  refine lv_iload_n hx hb dL_law_304 rfl (lv_at hl 0 rfl) ?_
  refine lv_iconst (v := 1) hx hb dL_law_305 (by decide) ?_
  refine lv_iadd hx hb dL_law_306 ?_
  refine lv_topi (fun x_6 ex_6 => ?_)
  obtain rfl : x_6 = 1 := ex_6.trans (by first | rfl | decide)
  refine va_sld hx hb hX hbl hbA hS (i_in (x := 1) rfl (by omega)) dL_law_307 ?_
  refine W.eq (g2 := F0 m 308 ls [.int (xs 1), .ref z18, .int r_3]) rfl ?_
  refine lv_aload_n hx hb dL_law_308 rfl (lv_at hl 3 rfl) ?_
  refine lv_iload_n hx hb dL_law_309 rfl (lv_at hl 0 rfl) ?_
  refine lv_iconst (v := 2) hx hb dL_law_310 (by decide) ?_
  refine lv_iadd hx hb dL_law_311 ?_
  refine lv_topi (fun x_7 ex_7 => ?_)
  obtain rfl : x_7 = 2 := ex_7.trans (by first | rfl | decide)
  refine va_sld hx hb hX hbl hbA hS (i_in (x := 2) rfl (by omega)) dL_law_312 ?_
  refine W.eq (g2 := F0 m 313 ls [.int (xs 2), .int (xs 1), .ref z18, .int r_3]) rfl ?_
  refine kci (wr := []) (va_runV (As := [.int (xs 1), .int (xs 2)]) (rest := [.int r_3]) ⟨hx, hb, hml, hown, hts⟩ (r_score l D K z18 (xs 1) (xs 2) (.int 0) (.int 0) z19 z20 (.ref z21) (.ref z22) (.ref z23) (.ref z24) (.int 0) (.ref z25) (.ref z26) (.int 0) (.ref z27) (.int 0) (.int 0) (.int 0) (.int 0) (.long 0) (.int (-1)) (.int 0) (.int 0) (.int 0) (.ref z28) (.int 0) (.ref z29) (.ref z30) (.int 0) (.ref z31) (.ref z32) (.int 0) (.int 0) (.ref z33) (.ref z34) (.ref z35) (.int 0) (.ref z36) (.ref z37) (.ref z38) (.int 0) (.long 0) (.long 0) (.ref z39) (.ref z40) (.ref z41) (.ref z42) (.ref z43) (.ref z44) (.ref z45) (.ref z46) (.ref z47) (.ref z48) (.ref z49) (.int 0) (.int 0) (.int (-1)) (.int 0) (.long 0) (.ref z50) (.int 0) (.int (-1)) H.size) (cwV 2 hts gL_X12_score rfl rfl rfl (by decide +kernel) ⟨Nat.le_of_ble_eq_true rfl, Nat.le_of_ble_eq_true rfl⟩) (mkV hK hN (hP.sub [0, 2, 1] rfl) (hD.sub [0, 2, 1] (by decide) rfl) (ci := 12) (q0 := 0) rfl rfl) rfl rfl hl.1 rfl (lv_room (Nat.le_of_ble_eq_true rfl)) dL_law_313 ⟨Nat.le_of_ble_eq_true rfl, Nat.le_of_ble_eq_true rfl⟩) hP hD hS hA [0, 2, 1] [] rfl rfl (by decide) (by decide) (fun r_8 u_9 H locs hw hP hD hS => ?_)
  have hP : va_P D vwCl [] H := hP
  have hD : va_D A [] := hD
  have hv_10 := hw
  have heq : r_3 = r_8 := by
    try dsimp only at hv_5 hv_10
    rcases hv_5 with ⟨rfl, k00, k01, k02, k03⟩ | ⟨rfl, k10⟩ <;> rcases hv_10 with ⟨rfl, j00, j01, j02, j03⟩ | ⟨rfl, j10⟩ <;> first | rfl | (exfalso; omega)
  refine lv_icmp_eq (tgt := 1111) hx hb dL_law_316 (by decide) (fun cq => ?_) (fun cq => absurd heq cq)
  refine lv_iinc (v := 6) (lv' := [(3, .int 6), (2, .ref z18), (1, .ref z0), (0, .ref b)]) hx hb dL_law_1111 hl (k := 0) rfl (by decide) (by decide) rfl (fun ls hl => ?_)
  refine lv_goto (tgt := 18) hx hb dL_law_1114 (by decide) ?_
  refine lv_iload_n hx hb dL_law_18 rfl (lv_at hl 0 rfl) ?_
  refine lv_aload_n hx hb dL_law_19 rfl (lv_at hl 3 rfl) ?_
  refine va_slen hx hb hX hbl hbA hS dL_law_20 ?_
  refine W.eq (g2 := F0 m 21 ls [.int 6, .int 6]) rfl ?_
  refine lv_bipush (v := 6) hx hb dL_law_21 (by decide) ?_
  refine lv_isub hx hb dL_law_23 ?_
  refine lv_topi (fun x_11 ex_11 => ?_)
  obtain rfl : x_11 = 0 := ex_11.trans (by first | rfl | decide)
  refine lv_icmp_gt (tgt := 1117) hx hb dL_law_24 (by decide) (fun cq => ?_) (fun cq => absurd (by decide) cq)
  refine lv_iconst (v := 1) hx hb dL_law_1117 (by decide) ?_
  refine va_forget (fun q hq => hA0 _ (hS.2.2 q hq)) ?_
  refine W.widen (k := 600000) (n := 7302250) (by decide) (by decide) ?_
  exact lw_ret hx hb hr hlocks dL_law_1118
set_option maxHeartbeats 4000000 in
set_option maxRecDepth 100000 in
theorem law_3 {p : Program} {e : Env} {s : State} {m : MethodId} {below : List Frame} {meth : Method} {c : Code} (l : Launch) {b : Nat} {xs : Nat → Int32} (C0 : lw_At p s m meth c b 6 xs) (D : va_G) (K : Nat → ClassId) (hK : va_K D vwCl (KT K) s) (hN : lw_N s) {A : Nat → Prop} (hA : ∀ q, s.heap.size ≤ q → A q) (hA0 : ∀ q, A q → s.heap.size ≤ q) (hbA : ¬ A b) (z0 z1 z2 z3 z4 z5 z6 z7 z8 z9 z10 z11 z12 z13 z14 z15 z16 z17 z18 z19 z20 z21 z22 z23 z24 z25 z26 z27 z28 z29 z30 z31 z32 z33 z34 z35 z36 z37 z38 z39 z40 z41 z42 z43 z44 z45 z46 z47 z48 z49 z50 : Nat) (H : Heap) (locs : List Loc) (hP : va_P D vwCl [(z0, .inr (11, [.ref z1, .ref z2, .ref z3, .ref z4, .ref z5, .ref z6, .ref z7, .ref z8, .ref z9, .ref z10, .ref z11, .ref z12, .ref z13, .int 0, .int 0, .int 0, .int 0])), (z1, .inr (9, [.ref z14, .ref z15, .ref z16, .ref z17, .int 0, .int 0, .int (-1), .int 0, .int 0, .int 0])), (z15, .inl (K 0, 24, .inl (fun _ => 0))), (z18, .inr (12, [.int 0, .int 0, .ref z19, .ref z20, .ref z21, .ref z22, .ref z23, .ref z24, .int 0, .ref z25, .ref z26, .int 0, .ref z27, .int 0, .int 0, .int 0, .int 0, .long 0, .int (-1), .int 0, .int 0, .int 0, .ref z28, .int 0, .ref z29, .ref z30, .int 0, .ref z31, .ref z32, .int 0, .int 0, .ref z33, .ref z34, .ref z35, .int 0, .ref z36, .ref z37, .ref z38, .int 0, .long 0, .long 0, .ref z39, .ref z40, .ref z41, .ref z42, .ref z43, .ref z44, .ref z45, .ref z46, .ref z47, .ref z48, .ref z49, .int 0, .int 0, .int (-1), .int 0, .long 0, .ref z50, .int 0, .int (-1)])), (z20, .inl (K 0, 5500, .inl row0))] H) (hD : va_D A [(z0, .inr (11, [.ref z1, .ref z2, .ref z3, .ref z4, .ref z5, .ref z6, .ref z7, .ref z8, .ref z9, .ref z10, .ref z11, .ref z12, .ref z13, .int 0, .int 0, .int 0, .int 0])), (z1, .inr (9, [.ref z14, .ref z15, .ref z16, .ref z17, .int 0, .int 0, .int (-1), .int 0, .int 0, .int 0])), (z15, .inl (K 0, 24, .inl (fun _ => 0))), (z18, .inr (12, [.int 0, .int 0, .ref z19, .ref z20, .ref z21, .ref z22, .ref z23, .ref z24, .int 0, .ref z25, .ref z26, .int 0, .ref z27, .int 0, .int 0, .int 0, .int 0, .long 0, .int (-1), .int 0, .int 0, .int 0, .ref z28, .int 0, .ref z29, .ref z30, .int 0, .ref z31, .ref z32, .int 0, .int 0, .ref z33, .ref z34, .ref z35, .int 0, .ref z36, .ref z37, .ref z38, .int 0, .long 0, .long 0, .ref z39, .ref z40, .ref z41, .ref z42, .ref z43, .ref z44, .ref z45, .ref z46, .ref z47, .ref z48, .ref z49, .int 0, .int 0, .int (-1), .int 0, .long 0, .ref z50, .int 0, .int (-1)])), (z20, .inl (K 0, 5500, .inl row0))]) (hS : va_S A s.heap H locs) (ls : Array Slot) (hl : lv_has ls 4 [(3, .int 0), (2, .ref z18), (1, .ref z0), (0, .ref b)]) : W p l e room_1 s m #[Value.ref b] below meth c H locs 97 27561 (lw_Z below #[Value.ref b] s) (F0 m 321 ls []) := by
  obtain ⟨hx, hb, hr, hml, hown, hts, hX, hbl, hlocks, hgv⟩ := C0
  have hown : s.vm.findClass RL = some m.cls := hown
  refine lv_aload_n hx hb dL_law_321 rfl (lv_at hl 2 rfl) ?_
  refine lv_aload_n hx hb dL_law_322 rfl (lv_at hl 3 rfl) ?_
  refine lv_iload_n hx hb dL_law_323 rfl (lv_at hl 0 rfl) ?_
  refine lv_iconst (v := 1) hx hb dL_law_324 (by decide) ?_
  refine lv_iadd hx hb dL_law_325 ?_
  refine lv_topi (fun x_1 ex_1 => ?_)
  obtain rfl : x_1 = 1 := ex_1.trans (by first | rfl | decide)
  refine va_sld hx hb hX hbl hbA hS (i_in (x := 1) rfl (by omega)) dL_law_326 ?_
  refine W.eq (g2 := F0 m 327 ls [.int (xs 1), .ref z0]) rfl ?_
  refine pci (va_runV (As := [.int (xs 1)]) (rest := []) ⟨hx, hb, hml, hown, hts⟩ (t_chord l D K z0 (xs 1) z1 (.ref z2) (.ref z3) (.ref z4) (.ref z5) (.ref z6) (.ref z7) (.ref z8) (.ref z9) (.ref z10) (.ref z11) (.ref z12) (.ref z13) (.int 0) (.int 0) (.int 0) (.int 0) (.ref z14) z15 (.ref z16) (.ref z17) (.int 0) (.int 0) (.int (-1)) (.int 0) (.int 0) (.int 0) H.size) (cwV 1 hts gL_X11_chord rfl rfl rfl (by decide +kernel) ⟨Nat.le_of_ble_eq_true rfl, Nat.le_of_ble_eq_true rfl⟩) (mkV hK hN (hP.sub [0, 1, 2] rfl) (hD.sub [0, 1, 2] (by decide) rfl) (ci := 11) (q0 := 0) rfl rfl) rfl rfl hl.1 rfl (lv_room (Nat.le_of_ble_eq_true rfl)) dL_law_327 ⟨Nat.le_of_ble_eq_true rfl, Nat.le_of_ble_eq_true rfl⟩) (fun r_2 hw => ?_)
  have hv_3 := hw
  refine lv_aload_n hx hb dL_law_330 rfl (lv_at hl 1 rfl) ?_
  refine lv_aload_n hx hb dL_law_331 rfl (lv_at hl 3 rfl) ?_
  refine lv_iload_n hx hb dL_law_332 rfl (lv_at hl 0 rfl) ?_
  refine lv_iconst (v := 1) hx hb dL_law_333 (by decide) ?_
  refine lv_iadd hx hb dL_law_334 ?_
  refine lv_topi (fun x_4 ex_4 => ?_)
  obtain rfl : x_4 = 1 := ex_4.trans (by first | rfl | decide)
  refine va_sld hx hb hX hbl hbA hS (i_in (x := 1) rfl (by omega)) dL_law_335 ?_
  refine W.eq (g2 := F0 m 336 ls [.int (xs 1), .ref z18, .int r_2]) rfl ?_
  refine kci (wr := [(z0, .inr (11, [.ref z1, .ref z2, .ref z3, .ref z4, .ref z5, .ref z6, .ref z7, .ref z8, .ref z9, .ref z10, .ref z11, .ref z12, .ref z13, .int 0, .int 0, .int 0, .int 0])), (z1, .inr (9, [.ref z14, .ref z15, .ref z16, .ref z17, .int 0, .int 0, .int (-1), .int 0, .int 0, .int 0])), (z15, .inl (K 0, 24, .inl (fun _ => 0)))]) (va_runV (As := [.int (xs 1)]) (rest := [.int r_2]) ⟨hx, hb, hml, hown, hts⟩ (r_chord l D K z18 (xs 1) (.int 0) (.int 0) (.ref z19) z20 (.ref z21) (.ref z22) (.ref z23) (.ref z24) (.int 0) (.ref z25) (.ref z26) (.int 0) (.ref z27) (.int 0) (.int 0) (.int 0) (.int 0) (.long 0) (.int (-1)) (.int 0) (.int 0) (.int 0) (.ref z28) (.int 0) (.ref z29) (.ref z30) (.int 0) (.ref z31) (.ref z32) (.int 0) (.int 0) (.ref z33) (.ref z34) (.ref z35) (.int 0) (.ref z36) (.ref z37) (.ref z38) (.int 0) (.long 0) (.long 0) (.ref z39) (.ref z40) (.ref z41) (.ref z42) (.ref z43) (.ref z44) (.ref z45) (.ref z46) (.ref z47) (.ref z48) (.ref z49) (.int 0) (.int 0) (.int (-1)) (.int 0) (.long 0) (.ref z50) (.int 0) (.int (-1)) H.size) (cwV 1 hts gL_X12_chord rfl rfl rfl (by decide +kernel) ⟨Nat.le_of_ble_eq_true rfl, Nat.le_of_ble_eq_true rfl⟩) (mkV hK hN (hP.sub [3, 4] rfl) (hD.sub [3, 4] (by decide) rfl) (ci := 12) (q0 := 0) rfl rfl) rfl rfl hl.1 rfl (lv_room (Nat.le_of_ble_eq_true rfl)) dL_law_336 ⟨Nat.le_of_ble_eq_true rfl, Nat.le_of_ble_eq_true rfl⟩) hP hD hS hA [3, 4] [0, 1, 2] rfl rfl (by decide) (by decide) (fun r_5 u_6 H locs hw hP hD hS => ?_)
  have hP : va_P D vwCl [(z0, .inr (11, [.ref z1, .ref z2, .ref z3, .ref z4, .ref z5, .ref z6, .ref z7, .ref z8, .ref z9, .ref z10, .ref z11, .ref z12, .ref z13, .int 0, .int 0, .int 0, .int 0])), (z1, .inr (9, [.ref z14, .ref z15, .ref z16, .ref z17, .int 0, .int 0, .int (-1), .int 0, .int 0, .int 0])), (z15, .inl (K 0, 24, .inl (fun _ => 0)))] H := hP
  have hD : va_D A [(z0, .inr (11, [.ref z1, .ref z2, .ref z3, .ref z4, .ref z5, .ref z6, .ref z7, .ref z8, .ref z9, .ref z10, .ref z11, .ref z12, .ref z13, .int 0, .int 0, .int 0, .int 0])), (z1, .inr (9, [.ref z14, .ref z15, .ref z16, .ref z17, .int 0, .int 0, .int (-1), .int 0, .int 0, .int 0])), (z15, .inl (K 0, 24, .inl (fun _ => 0)))] := hD
  have hv_7 := hw
  have heq : r_2 = r_5 := by
    try dsimp only at hv_3 hv_7
    rcases hv_3 with ⟨rfl, k00, k01⟩ | ⟨rfl, k10⟩ <;> rcases hv_7 with ⟨rfl, j00, j01⟩ | ⟨rfl, j10⟩ <;> first | rfl | (exfalso; omega)
  refine lv_icmp_eq (tgt := 1111) hx hb dL_law_339 (by decide) (fun cq => ?_) (fun cq => absurd heq cq)
  refine lv_iinc (v := 6) (lv' := [(3, .int 6), (2, .ref z18), (1, .ref z0), (0, .ref b)]) hx hb dL_law_1111 hl (k := 0) rfl (by decide) (by decide) rfl (fun ls hl => ?_)
  refine lv_goto (tgt := 18) hx hb dL_law_1114 (by decide) ?_
  refine lv_iload_n hx hb dL_law_18 rfl (lv_at hl 0 rfl) ?_
  refine lv_aload_n hx hb dL_law_19 rfl (lv_at hl 3 rfl) ?_
  refine va_slen hx hb hX hbl hbA hS dL_law_20 ?_
  refine W.eq (g2 := F0 m 21 ls [.int 6, .int 6]) rfl ?_
  refine lv_bipush (v := 6) hx hb dL_law_21 (by decide) ?_
  refine lv_isub hx hb dL_law_23 ?_
  refine lv_topi (fun x_8 ex_8 => ?_)
  obtain rfl : x_8 = 0 := ex_8.trans (by first | rfl | decide)
  refine lv_icmp_gt (tgt := 1117) hx hb dL_law_24 (by decide) (fun cq => ?_) (fun cq => absurd (by decide) cq)
  refine lv_iconst (v := 1) hx hb dL_law_1117 (by decide) ?_
  refine va_forget (fun q hq => hA0 _ (hS.2.2 q hq)) ?_
  refine W.widen (k := 600000) (n := 7302250) (by decide) (by decide) ?_
  exact lw_ret hx hb hr hlocks dL_law_1118
set_option maxHeartbeats 4000000 in
set_option maxRecDepth 100000 in
theorem law_4 {p : Program} {e : Env} {s : State} {m : MethodId} {below : List Frame} {meth : Method} {c : Code} (l : Launch) {b : Nat} {xs : Nat → Int32} (C0 : lw_At p s m meth c b 6 xs) (D : va_G) (K : Nat → ClassId) (hK : va_K D vwCl (KT K) s) (hN : lw_N s) {A : Nat → Prop} (hA : ∀ q, s.heap.size ≤ q → A q) (hA0 : ∀ q, A q → s.heap.size ≤ q) (hbA : ¬ A b) (g : Nat → Nat) (hG : Gl g A s s.heap) (z0 z1 z2 z3 z4 z5 z6 z7 z8 z9 z10 z11 z12 z13 z14 z15 z16 z17 z18 z19 z20 z21 z22 z23 z24 z25 z26 z27 z28 z29 z30 z31 z32 z33 z34 z35 z36 z37 z38 z39 z40 z41 z42 z43 z44 z45 z46 z47 z48 z49 z50 z51 : Nat) (H : Heap) (locs : List Loc) (hP : va_P D vwCl [(z0, .inr (11, [.ref z1, .ref z2, .ref z3, .ref z4, .ref z5, .ref z6, .ref z7, .ref z8, .ref z9, .ref z10, .ref z11, .ref z12, .ref z13, .int 0, .int 0, .int 0, .int 0])), (z1, .inr (9, [.ref z14, .ref z15, .ref z16, .ref z17, .int 0, .int 0, .int (-1), .int 0, .int 0, .int 0])), (z16, .inl (K 0, 6, .inl tm0)), (z10, .inr (2, [.ref z18, .int 0, .int 0])), (z13, .inl (K 0, 5, .inl (fun _ => 0))), (z19, .inr (12, [.int 0, .int 0, .ref z20, .ref z21, .ref z22, .ref z23, .ref z24, .ref z25, .int 0, .ref z26, .ref z27, .int 0, .ref z28, .int 0, .int 0, .int 0, .int 0, .long 0, .int (-1), .int 0, .int 0, .int 0, .ref z29, .int 0, .ref z30, .ref z31, .int 0, .ref z32, .ref z33, .int 0, .int 0, .ref z34, .ref z35, .ref z36, .int 0, .ref z37, .ref z38, .ref z39, .int 0, .long 0, .long 0, .ref z40, .ref z41, .ref z42, .ref z43, .ref z44, .ref z45, .ref z46, .ref z47, .ref z48, .ref z49, .ref z50, .int 0, .int 0, .int (-1), .int 0, .long 0, .ref z51, .int 0, .int (-1)])), (z20, .inl (K 0, 7, .inl (fun _ => 0))), (z21, .inl (K 0, 5500, .inl row0))] H) (hD : va_D A [(z0, .inr (11, [.ref z1, .ref z2, .ref z3, .ref z4, .ref z5, .ref z6, .ref z7, .ref z8, .ref z9, .ref z10, .ref z11, .ref z12, .ref z13, .int 0, .int 0, .int 0, .int 0])), (z1, .inr (9, [.ref z14, .ref z15, .ref z16, .ref z17, .int 0, .int 0, .int (-1), .int 0, .int 0, .int 0])), (z16, .inl (K 0, 6, .inl tm0)), (z10, .inr (2, [.ref z18, .int 0, .int 0])), (z13, .inl (K 0, 5, .inl (fun _ => 0))), (z19, .inr (12, [.int 0, .int 0, .ref z20, .ref z21, .ref z22, .ref z23, .ref z24, .ref z25, .int 0, .ref z26, .ref z27, .int 0, .ref z28, .int 0, .int 0, .int 0, .int 0, .long 0, .int (-1), .int 0, .int 0, .int 0, .ref z29, .int 0, .ref z30, .ref z31, .int 0, .ref z32, .ref z33, .int 0, .int 0, .ref z34, .ref z35, .ref z36, .int 0, .ref z37, .ref z38, .ref z39, .int 0, .long 0, .long 0, .ref z40, .ref z41, .ref z42, .ref z43, .ref z44, .ref z45, .ref z46, .ref z47, .ref z48, .ref z49, .ref z50, .int 0, .int 0, .int (-1), .int 0, .long 0, .ref z51, .int 0, .int (-1)])), (z20, .inl (K 0, 7, .inl (fun _ => 0))), (z21, .inl (K 0, 5500, .inl row0))]) (hS : va_S A s.heap H locs) (ls : Array Slot) (hl : lv_has ls 4 [(3, .int 0), (2, .ref z19), (1, .ref z0), (0, .ref b)]) : W p l e room_1 s m #[Value.ref b] below meth c H locs 97 27561 (lw_Z below #[Value.ref b] s) (F0 m 344 ls []) := by
  obtain ⟨hx, hb, hr, hml, hown, hts, hX, hbl, hlocks, hgv⟩ := C0
  have hown : s.vm.findClass RL = some m.cls := hown
  refine lv_aload_n hx hb dL_law_344 rfl (lv_at hl 2 rfl) ?_
  refine lv_aload_n hx hb dL_law_345 rfl (lv_at hl 3 rfl) ?_
  refine lv_iload_n hx hb dL_law_346 rfl (lv_at hl 0 rfl) ?_
  refine lv_iconst (v := 1) hx hb dL_law_347 (by decide) ?_
  refine lv_iadd hx hb dL_law_348 ?_
  refine lv_topi (fun x_1 ex_1 => ?_)
  obtain rfl : x_1 = 1 := ex_1.trans (by first | rfl | decide)
  refine va_sld hx hb hX hbl hbA hS (i_in (x := 1) rfl (by omega)) dL_law_349 ?_
  refine W.eq (g2 := F0 m 350 ls [.int (xs 1), .ref z0]) rfl ?_
  refine lv_aload_n hx hb dL_law_350 rfl (lv_at hl 3 rfl) ?_
  refine lv_iload_n hx hb dL_law_351 rfl (lv_at hl 0 rfl) ?_
  refine lv_iconst (v := 2) hx hb dL_law_352 (by decide) ?_
  refine lv_iadd hx hb dL_law_353 ?_
  refine lv_topi (fun x_2 ex_2 => ?_)
  obtain rfl : x_2 = 2 := ex_2.trans (by first | rfl | decide)
  refine va_sld hx hb hX hbl hbA hS (i_in (x := 2) rfl (by omega)) dL_law_354 ?_
  refine W.eq (g2 := F0 m 355 ls [.int (xs 2), .int (xs 1), .ref z0]) rfl ?_
  refine kci (wr := [(z19, .inr (12, [.int 0, .int 0, .ref z20, .ref z21, .ref z22, .ref z23, .ref z24, .ref z25, .int 0, .ref z26, .ref z27, .int 0, .ref z28, .int 0, .int 0, .int 0, .int 0, .long 0, .int (-1), .int 0, .int 0, .int 0, .ref z29, .int 0, .ref z30, .ref z31, .int 0, .ref z32, .ref z33, .int 0, .int 0, .ref z34, .ref z35, .ref z36, .int 0, .ref z37, .ref z38, .ref z39, .int 0, .long 0, .long 0, .ref z40, .ref z41, .ref z42, .ref z43, .ref z44, .ref z45, .ref z46, .ref z47, .ref z48, .ref z49, .ref z50, .int 0, .int 0, .int (-1), .int 0, .long 0, .ref z51, .int 0, .int (-1)])), (z20, .inl (K 0, 7, .inl (fun _ => 0))), (z21, .inl (K 0, 5500, .inl row0))]) (va_runV (As := [.int (xs 1), .int (xs 2)]) (rest := []) ⟨hx, hb, hml, hown, hts⟩ (t_terms l D K z0 (xs 1) (xs 2) z1 (.ref z2) (.ref z3) (.ref z4) (.ref z5) (.ref z6) (.ref z7) (.ref z8) (.ref z9) z10 (.ref z11) (.ref z12) z13 (.int 0) (.int 0) (.int 0) (.int 0) (fun _ => 0) (.ref z14) (.ref z15) z16 (.ref z17) (.int 0) (.int 0) (.int (-1)) (.int 0) (.int 0) (.int 0) (.ref z18) (.int 0) (.int 0) g H.size) (cwV 2 hts gL_X11_terms rfl rfl rfl (by decide +kernel) ⟨Nat.le_of_ble_eq_true rfl, Nat.le_of_ble_eq_true rfl⟩) (mkVX hK hN (hP.sub [0, 4, 1, 3, 2] rfl) (hD.sub [0, 4, 1, 3, 2] (by decide) rfl) (ci := 11) (q0 := 0) rfl rfl (fun U hU hW => Gl.at hG hS hW hU (fun q h => va_free hD hS hA [0, 4, 1, 3, 2] rfl q h))) rfl rfl hl.1 rfl (lv_room (Nat.le_of_ble_eq_true rfl)) dL_law_355 ⟨Nat.le_of_ble_eq_true rfl, Nat.le_of_ble_eq_true rfl⟩) hP hD hS hA [0, 4, 1, 3, 2] [5, 6, 7] rfl rfl (by decide) (by decide) (fun r_3 u_4 H locs hw hP hD hS => ?_)
  have hP : va_P D vwCl [(z19, .inr (12, [.int 0, .int 0, .ref z20, .ref z21, .ref z22, .ref z23, .ref z24, .ref z25, .int 0, .ref z26, .ref z27, .int 0, .ref z28, .int 0, .int 0, .int 0, .int 0, .long 0, .int (-1), .int 0, .int 0, .int 0, .ref z29, .int 0, .ref z30, .ref z31, .int 0, .ref z32, .ref z33, .int 0, .int 0, .ref z34, .ref z35, .ref z36, .int 0, .ref z37, .ref z38, .ref z39, .int 0, .long 0, .long 0, .ref z40, .ref z41, .ref z42, .ref z43, .ref z44, .ref z45, .ref z46, .ref z47, .ref z48, .ref z49, .ref z50, .int 0, .int 0, .int (-1), .int 0, .long 0, .ref z51, .int 0, .int (-1)])), (z20, .inl (K 0, 7, .inl (fun _ => 0))), (z21, .inl (K 0, 5500, .inl row0))] H := hP
  have hD : va_D A [(z19, .inr (12, [.int 0, .int 0, .ref z20, .ref z21, .ref z22, .ref z23, .ref z24, .ref z25, .int 0, .ref z26, .ref z27, .int 0, .ref z28, .int 0, .int 0, .int 0, .int 0, .long 0, .int (-1), .int 0, .int 0, .int 0, .ref z29, .int 0, .ref z30, .ref z31, .int 0, .ref z32, .ref z33, .int 0, .int 0, .ref z34, .ref z35, .ref z36, .int 0, .ref z37, .ref z38, .ref z39, .int 0, .long 0, .long 0, .ref z40, .ref z41, .ref z42, .ref z43, .ref z44, .ref z45, .ref z46, .ref z47, .ref z48, .ref z49, .ref z50, .int 0, .int 0, .int (-1), .int 0, .long 0, .ref z51, .int 0, .int (-1)])), (z20, .inl (K 0, 7, .inl (fun _ => 0))), (z21, .inl (K 0, 5500, .inl row0))] := hD
  have hv_5 := hw
  refine lv_aload_n hx hb dL_law_358 rfl (lv_at hl 1 rfl) ?_
  refine lv_aload_n hx hb dL_law_359 rfl (lv_at hl 3 rfl) ?_
  refine lv_iload_n hx hb dL_law_360 rfl (lv_at hl 0 rfl) ?_
  refine lv_iconst (v := 1) hx hb dL_law_361 (by decide) ?_
  refine lv_iadd hx hb dL_law_362 ?_
  refine lv_topi (fun x_6 ex_6 => ?_)
  obtain rfl : x_6 = 1 := ex_6.trans (by first | rfl | decide)
  refine va_sld hx hb hX hbl hbA hS (i_in (x := 1) rfl (by omega)) dL_law_363 ?_
  refine W.eq (g2 := F0 m 364 ls [.int (xs 1), .ref z19, .int r_3]) rfl ?_
  refine lv_aload_n hx hb dL_law_364 rfl (lv_at hl 3 rfl) ?_
  refine lv_iload_n hx hb dL_law_365 rfl (lv_at hl 0 rfl) ?_
  refine lv_iconst (v := 2) hx hb dL_law_366 (by decide) ?_
  refine lv_iadd hx hb dL_law_367 ?_
  refine lv_topi (fun x_7 ex_7 => ?_)
  obtain rfl : x_7 = 2 := ex_7.trans (by first | rfl | decide)
  refine va_sld hx hb hX hbl hbA hS (i_in (x := 2) rfl (by omega)) dL_law_368 ?_
  refine W.eq (g2 := F0 m 369 ls [.int (xs 2), .int (xs 1), .ref z19, .int r_3]) rfl ?_
  refine kci (wr := []) (va_runV (As := [.int (xs 1), .int (xs 2)]) (rest := [.int r_3]) ⟨hx, hb, hml, hown, hts⟩ (r_terms l D K z19 (xs 1) (xs 2) (.int 0) (.int 0) z20 z21 (.ref z22) (.ref z23) (.ref z24) (.ref z25) (.int 0) (.ref z26) (.ref z27) (.int 0) (.ref z28) (.int 0) (.int 0) (.int 0) (.int 0) (.long 0) (.int (-1)) (.int 0) (.int 0) (.int 0) (.ref z29) (.int 0) (.ref z30) (.ref z31) (.int 0) (.ref z32) (.ref z33) (.int 0) (.int 0) (.ref z34) (.ref z35) (.ref z36) (.int 0) (.ref z37) (.ref z38) (.ref z39) (.int 0) (.long 0) (.long 0) (.ref z40) (.ref z41) (.ref z42) (.ref z43) (.ref z44) (.ref z45) (.ref z46) (.ref z47) (.ref z48) (.ref z49) (.ref z50) (.int 0) (.int 0) (.int (-1)) (.int 0) (.long 0) (.ref z51) (.int 0) (.int (-1)) H.size) (cwV 2 hts gL_X12_terms rfl rfl rfl (by decide +kernel) ⟨Nat.le_of_ble_eq_true rfl, Nat.le_of_ble_eq_true rfl⟩) (mkV hK hN (hP.sub [0, 2, 1] rfl) (hD.sub [0, 2, 1] (by decide) rfl) (ci := 12) (q0 := 0) rfl rfl) rfl rfl hl.1 rfl (lv_room (Nat.le_of_ble_eq_true rfl)) dL_law_369 ⟨Nat.le_of_ble_eq_true rfl, Nat.le_of_ble_eq_true rfl⟩) hP hD hS hA [0, 2, 1] [] rfl rfl (by decide) (by decide) (fun r_8 u_9 H locs hw hP hD hS => ?_)
  have hP : va_P D vwCl [] H := hP
  have hD : va_D A [] := hD
  have hv_10 := hw
  have heq : r_3 = r_8 := by
    try dsimp only at hv_5 hv_10
    rcases hv_5 with ⟨rfl, k0⟩ | ⟨rfl, k0⟩ | ⟨rfl, k0⟩ | ⟨rfl, k0⟩ <;> rcases hv_10 with ⟨rfl, j0⟩ | ⟨rfl, j0⟩ | ⟨rfl, j0⟩ | ⟨rfl, j0⟩
    · rfl
    · exfalso; omega
    · exfalso; omega
    · exfalso
      obtain ⟨d0, d1, d2, d3, d4, d5⟩ := j0
      rcases k0 with k0 | k0 | k0
      · clear d1 d2 d3 d4 d5
        omega
      · clear d0 d2 d3 d4 d5
        omega
      · clear d0 d1 d2 d3 d4
        omega
    · exfalso; omega
    · rfl
    · exfalso; omega
    · exfalso
      obtain ⟨d0, d1, d2, d3, d4, d5⟩ := j0
      rcases k0 with k0 | k0
      · clear d0 d1 d3 d4 d5
        omega
      · clear d0 d1 d2 d3 d5
        omega
    · exfalso; omega
    · exfalso; omega
    · rfl
    · exfalso
      obtain ⟨d0, d1, d2, d3, d4, d5⟩ := j0
      clear d0 d1 d2 d4 d5
      omega
    · exfalso
      obtain ⟨d0, d1, d2, d3, d4, d5⟩ := k0
      rcases j0 with j0 | j0 | j0
      · clear d1 d2 d3 d4 d5
        omega
      · clear d0 d2 d3 d4 d5
        omega
      · clear d0 d1 d2 d3 d4
        omega
    · exfalso
      obtain ⟨d0, d1, d2, d3, d4, d5⟩ := k0
      rcases j0 with j0 | j0
      · clear d0 d1 d3 d4 d5
        omega
      · clear d0 d1 d2 d3 d5
        omega
    · exfalso
      obtain ⟨d0, d1, d2, d3, d4, d5⟩ := k0
      clear d0 d1 d2 d4 d5
      omega
    · rfl
  refine lv_icmp_eq (tgt := 1111) hx hb dL_law_372 (by decide) (fun cq => ?_) (fun cq => absurd heq cq)
  refine lv_iinc (v := 6) (lv' := [(3, .int 6), (2, .ref z19), (1, .ref z0), (0, .ref b)]) hx hb dL_law_1111 hl (k := 0) rfl (by decide) (by decide) rfl (fun ls hl => ?_)
  refine lv_goto (tgt := 18) hx hb dL_law_1114 (by decide) ?_
  refine lv_iload_n hx hb dL_law_18 rfl (lv_at hl 0 rfl) ?_
  refine lv_aload_n hx hb dL_law_19 rfl (lv_at hl 3 rfl) ?_
  refine va_slen hx hb hX hbl hbA hS dL_law_20 ?_
  refine W.eq (g2 := F0 m 21 ls [.int 6, .int 6]) rfl ?_
  refine lv_bipush (v := 6) hx hb dL_law_21 (by decide) ?_
  refine lv_isub hx hb dL_law_23 ?_
  refine lv_topi (fun x_11 ex_11 => ?_)
  obtain rfl : x_11 = 0 := ex_11.trans (by first | rfl | decide)
  refine lv_icmp_gt (tgt := 1117) hx hb dL_law_24 (by decide) (fun cq => ?_) (fun cq => absurd (by decide) cq)
  refine lv_iconst (v := 1) hx hb dL_law_1117 (by decide) ?_
  refine va_forget (fun q hq => hA0 _ (hS.2.2 q hq)) ?_
  refine W.widen (k := 600000) (n := 7302250) (by decide) (by decide) ?_
  exact lw_ret hx hb hr hlocks dL_law_1118
