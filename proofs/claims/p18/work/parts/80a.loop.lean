theorem rw0 : RwOK row0 := ((((RwOK.zero.upd (i := 3) (v := (-1)) (x := 3) (y := (-1)) rfl (by decide +kernel) rfl (by first | decide | (unfold PR; omega))).upd (i := 6) (v := 3) (x := 6) (y := 3) rfl (by decide +kernel) rfl (by first | decide | (unfold PR; omega))).upd (i := 7) (v := 12) (x := 7) (y := 12) rfl (by decide +kernel) rfl (by first | decide | (unfold PR; omega))).upd (i := 8) (v := 3) (x := 8) (y := 3) rfl (by decide +kernel) rfl (by first | decide | (unfold PR; omega)))
theorem rf0 : RF 0 0 0 0 (fun _ => 0) (fun _ => 0) row0 := RF.zero.move (b := 0) (by decide +kernel) (fun j hj => by show row0 (0 + j) = 0; rw [Nat.zero_add]; unfold row0; rw [upd_n (by omega), upd_n (by omega), upd_n (by omega), upd_n (by omega)]) (fun _ _ => rfl) (fun _ _ => rfl)
theorem sub6 {k : Nat} (h : k ≤ 3072) : (Int32.ofNat k - 6).toInt = (k : Int) - 6 := by
  have h1 : (Int32.ofNat k).toInt = (k : Int) := nI_toInt (by omega)
  exact i_sub h1 (show (6 : Int32).toInt = 6 from rfl) (by omega)
set_option maxHeartbeats 8000000 in
set_option maxRecDepth 100000 in
theorem law_loop {p : Program} {e : Env} {s : State} {m : MethodId} {below : List Frame} {meth : Method} {c : Code} (l : Launch) {b Ln : Nat} {xs : Nat → Int32} (C0 : lw_At p s m meth c b Ln xs) (D : va_G) (K : Nat → ClassId) (hK : va_K D vwCl (KT K) s) (hN : lw_N s) (hC : va_Nw CST s) {A : Nat → Prop} (hA : ∀ q, s.heap.size ≤ q → A q) (hbA : ¬ A b) (g : Nat → Nat) (hG : Gl g A s s.heap) (hA0 : ∀ q, A q → s.heap.size ≤ q) (hLn : Ln ≤ 3072) (n : Nat → Nat) : ∀ (k : Nat) (u : Su) (L : Nat → Prop) (G : Nat → LC) (i : Int32) (ce sl : Nat) (H : Heap) (locs : List Loc) (ls : Array Slot), LInv L G u → 0 ≤ i.toInt ∧ i.toInt ≤ (Ln : Int) → ((Ln : Int) - i.toInt).toNat < k → ce + ((Ln : Int) - i.toInt).toNat ≤ 600000 → sl + 144 * ((Ln : Int) - i.toInt).toNat ≤ 7302250 → va_P D vwCl (WL K n u) H → va_D A (WL K n u) → va_S A s.heap H locs → Pool D K L G (va_A (WL K n u) H.size) H → lv_has ls 4 [(3, .int i), (2, .ref (n 64)), (1, .ref (n 0)), (0, .ref b)] → W p l e room_1 s m #[Value.ref b] below meth c H locs ce sl (lw_Z below #[Value.ref b] s) (F0 m 18 ls []) := by
  obtain ⟨hx, hb, hr, hml, hown, hts, hX, hbl, hlocks, hgv⟩ := id C0
  intro k
  induction k with
  | zero => intro u L G i ce sl H locs ls hI hi hk; exact absurd hk (Nat.not_lt_zero _)
  | succ k ih =>
    intro u L G i ce sl H locs ls hI hi hk hce hsl hP hD hS hPl hl
    refine lv_iload_n hx hb dL_law_18 rfl (lv_at hl 0 rfl) (lv_aload_n hx hb dL_law_19 rfl (lv_at hl 3 rfl) (va_slen hx hb hX hbl hbA hS dL_law_20 (lv_bipush (v := 6) hx hb dL_law_21 (by decide +kernel) (lv_isub hx hb dL_law_23 (lv_topi (fun z ez => ?_))))))
    have hz : z.toInt = (Ln : Int) - 6 := by rw [ez]; exact sub6 hLn
    refine lv_icmp_gt (tgt := 1116) hx hb dL_law_24 (by decide +kernel) (fun cq => ?_) (fun cq => ?_)
    · refine lv_iconst (v := 1) hx hb dL_law_1116 (by decide +kernel) (va_forget (fun q hq => hA0 _ (hS.2.2 q hq)) ?_)
      refine W.widen (k := 600000) (n := 7302250) (by omega) (by omega) ?_
      exact lw_ret hx hb hr hlocks dL_law_1117
    · have hq := i_nlt (x := (Ln : Int) - 6) (y := i.toInt) hz rfl cq
      have hi6 : 0 ≤ i.toInt ∧ i.toInt + 6 ≤ (Ln : Int) := by omega
      have kk : LNext p e s m below meth c l b D K A n i (ce + 3) (sl + 864) (lw_Z below #[Value.ref b] s) := by
        intro u L G H locs hI hP hD hS hPl ls hl
        obtain ⟨i6, ei6⟩ : ∃ y : Int32, y = i + Int32.ofInt 6 := ⟨_, rfl⟩
        have hi7 : i6.toInt = i.toInt + 6 := by rw [ei6]; exact i_add rfl (show (Int32.ofInt 6).toInt = 6 from rfl) (by omega)
        refine lv_iinc (v := i6) (lv' := [(3, .int i6), (2, .ref (n 64)), (1, .ref (n 0)), (0, .ref b)]) hx hb dL_law_1110 hl (k := 0) rfl (by rw [ei6]) (by decide +kernel) rfl (fun ls hl => ?_)
        refine lv_goto (tgt := 18) hx hb dL_law_1113 (by decide +kernel) ?_
        exact ih u L G i6 (ce + 3) (sl + 864) H locs ls hI (by omega) (by omega) (by omega) (by omega) hP hD hS hPl hl
      refine lv_aload_n hx hb dL_law_27 rfl (lv_at hl 3 rfl) (lv_iload_n hx hb dL_law_28 rfl (lv_at hl 0 rfl) (va_sld hx hb hX hbl hbA hS (i_in (x := i.toInt) rfl (by omega)) dL_law_29 (lv_bipush (v := 63) hx hb dL_law_30 (by decide +kernel) (lv_iand hx hb dL_law_32 (lv_topi (fun y ey => ?_))))))
      obtain ⟨j, hj, ej⟩ := pk_andE (xs i.toNatClampNeg) (m := 63) 6 (by decide +kernel)
      obtain rfl : y = nI j := ey.trans ej
      have hc3 : ce + 3 ≤ 600000 := by omega
      have hs8 : sl + 864 ≤ 7302250 := by omega
      rcases (show j = 0 ∨ j = 1 ∨ j = 2 ∨ j = 3 ∨ j = 4 ∨ j = 5 ∨ j = 6 ∨ j = 7 ∨ j = 8 ∨ j = 9 ∨ j = 10 ∨ j = 11 ∨ j = 12 ∨ j = 13 ∨ j = 14 ∨ j = 15 ∨ j = 16 ∨ j = 17 ∨ j = 18 ∨ j = 19 ∨ j = 20 ∨ j = 21 ∨ j = 22 ∨ j = 23 ∨ j = 24 ∨ j = 25 ∨ j = 26 ∨ j = 27 ∨ j = 28 ∨ j = 29 ∨ j = 30 ∨ j = 31 ∨ j = 32 ∨ j = 33 ∨ j = 34 ∨ j = 35 ∨ 36 ≤ j by omega) with rfl | rfl | rfl | rfl | rfl | rfl | rfl | rfl | rfl | rfl | rfl | rfl | rfl | rfl | rfl | rfl | rfl | rfl | rfl | rfl | rfl | rfl | rfl | rfl | rfl | rfl | rfl | rfl | rfl | rfl | rfl | rfl | rfl | rfl | rfl | rfl | hj36
      · refine lv_tableIn (tgt := 192) hx hb dL_law_33 (by decide +kernel) (by decide +kernel) rfl (by decide +kernel) ?_
        exact law_0 l C0 D K hK hN hC hA hbA g hG n u L G hI i hi6 hLn ce sl hc3 hs8 H locs hP hD hS hPl ls hl kk
      · refine lv_tableIn (tgt := 255) hx hb dL_law_33 (by decide +kernel) (by decide +kernel) rfl (by decide +kernel) ?_
        exact law_1 l C0 D K hK hN hC hA hbA g hG n u L G hI i hi6 hLn ce sl hc3 hs8 H locs hP hD hS hPl ls hl kk
      · refine lv_tableIn (tgt := 288) hx hb dL_law_33 (by decide +kernel) (by decide +kernel) rfl (by decide +kernel) ?_
        exact law_2 l C0 D K hK hN hC hA hbA g hG n u L G hI i hi6 hLn ce sl hc3 hs8 H locs hP hD hS hPl ls hl kk
      · refine lv_tableIn (tgt := 321) hx hb dL_law_33 (by decide +kernel) (by decide +kernel) rfl (by decide +kernel) ?_
        exact law_3 l C0 D K hK hN hC hA hbA g hG n u L G hI i hi6 hLn ce sl hc3 hs8 H locs hP hD hS hPl ls hl kk
      · refine lv_tableIn (tgt := 344) hx hb dL_law_33 (by decide +kernel) (by decide +kernel) rfl (by decide +kernel) ?_
        exact law_4 l C0 D K hK hN hC hA hbA g hG n u L G hI i hi6 hLn ce sl hc3 hs8 H locs hP hD hS hPl ls hl kk
      · refine lv_tableIn (tgt := 377) hx hb dL_law_33 (by decide +kernel) (by decide +kernel) rfl (by decide +kernel) ?_
        exact law_5 l C0 D K hK hN hC hA hbA g hG n u L G hI i hi6 hLn ce sl hc3 hs8 H locs hP hD hS hPl ls hl kk
      · refine lv_tableIn (tgt := 440) hx hb dL_law_33 (by decide +kernel) (by decide +kernel) rfl (by decide +kernel) ?_
        exact law_6 l C0 D K hK hN hC hA hbA g hG n u L G hI i hi6 hLn ce sl hc3 hs8 H locs hP hD hS hPl ls hl kk
      · refine lv_tableIn (tgt := 463) hx hb dL_law_33 (by decide +kernel) (by decide +kernel) rfl (by decide +kernel) ?_
        exact law_7 l C0 D K hK hN hC hA hbA g hG n u L G hI i hi6 hLn ce sl hc3 hs8 H locs hP hD hS hPl ls hl kk
      · refine lv_tableIn (tgt := 476) hx hb dL_law_33 (by decide +kernel) (by decide +kernel) rfl (by decide +kernel) ?_
        exact law_8 l C0 D K hK hN hC hA hbA g hG n u L G hI i hi6 hLn ce sl hc3 hs8 H locs hP hD hS hPl ls hl kk
      · refine lv_tableIn (tgt := 489) hx hb dL_law_33 (by decide +kernel) (by decide +kernel) rfl (by decide +kernel) ?_
        exact law_9 l C0 D K hK hN hC hA hbA g hG n u L G hI i hi6 hLn ce sl hc3 hs8 H locs hP hD hS hPl ls hl kk
      · refine lv_tableIn (tgt := 502) hx hb dL_law_33 (by decide +kernel) (by decide +kernel) rfl (by decide +kernel) ?_
        exact law_10 l C0 D K hK hN hC hA hbA g hG n u L G hI i hi6 hLn ce sl hc3 hs8 H locs hP hD hS hPl ls hl kk
      · refine lv_tableIn (tgt := 515) hx hb dL_law_33 (by decide +kernel) (by decide +kernel) rfl (by decide +kernel) ?_
        exact law_11 l C0 D K hK hN hC hA hbA g hG n u L G hI i hi6 hLn ce sl hc3 hs8 H locs hP hD hS hPl ls hl kk
      · refine lv_tableIn (tgt := 528) hx hb dL_law_33 (by decide +kernel) (by decide +kernel) rfl (by decide +kernel) ?_
        exact law_12 l C0 D K hK hN hC hA hbA g hG n u L G hI i hi6 hLn ce sl hc3 hs8 H locs hP hD hS hPl ls hl kk
      · refine lv_tableIn (tgt := 541) hx hb dL_law_33 (by decide +kernel) (by decide +kernel) rfl (by decide +kernel) ?_
        exact law_13 l C0 D K hK hN hC hA hbA g hG n u L G hI i hi6 hLn ce sl hc3 hs8 H locs hP hD hS hPl ls hl kk
      · refine lv_tableIn (tgt := 564) hx hb dL_law_33 (by decide +kernel) (by decide +kernel) rfl (by decide +kernel) ?_
        exact law_14 l C0 D K hK hN hC hA hbA g hG n u L G hI i hi6 hLn ce sl hc3 hs8 H locs hP hD hS hPl ls hl kk
      · refine lv_tableIn (tgt := 577) hx hb dL_law_33 (by decide +kernel) (by decide +kernel) rfl (by decide +kernel) ?_
        exact law_15 l C0 D K hK hN hC hA hbA g hG n u L G hI i hi6 hLn ce sl hc3 hs8 H locs hP hD hS hPl ls hl kk
      · refine lv_tableIn (tgt := 600) hx hb dL_law_33 (by decide +kernel) (by decide +kernel) rfl (by decide +kernel) ?_
        exact law_16 l C0 D K hK hN hC hA hbA g hG n u L G hI i hi6 hLn ce sl hc3 hs8 H locs hP hD hS hPl ls hl kk
      · refine lv_tableIn (tgt := 623) hx hb dL_law_33 (by decide +kernel) (by decide +kernel) rfl (by decide +kernel) ?_
        exact law_17 l C0 D K hK hN hC hA hbA g hG n u L G hI i hi6 hLn ce sl hc3 hs8 H locs hP hD hS hPl ls hl kk
      · refine lv_tableIn (tgt := 656) hx hb dL_law_33 (by decide +kernel) (by decide +kernel) rfl (by decide +kernel) ?_
        exact law_18 l C0 D K hK hN hC hA hbA g hG n u L G hI i hi6 hLn ce sl hc3 hs8 H locs hP hD hS hPl ls hl kk
      · refine lv_tableIn (tgt := 689) hx hb dL_law_33 (by decide +kernel) (by decide +kernel) rfl (by decide +kernel) ?_
        exact law_19 l C0 D K hK hN hC hA hbA g hG n u L G hI i hi6 hLn ce sl hc3 hs8 H locs hP hD hS hPl ls hl kk
      · refine lv_tableIn (tgt := 702) hx hb dL_law_33 (by decide +kernel) (by decide +kernel) rfl (by decide +kernel) ?_
        exact law_20 l C0 D K hK hN hC hA hbA g hG n u L G hI i hi6 hLn ce sl hc3 hs8 H locs hP hD hS hPl ls hl kk
      · refine lv_tableIn (tgt := 715) hx hb dL_law_33 (by decide +kernel) (by decide +kernel) rfl (by decide +kernel) ?_
        exact law_21 l C0 D K hK hN hC hA hbA g hG n u L G hI i hi6 hLn ce sl hc3 hs8 H locs hP hD hS hPl ls hl kk
      · refine lv_tableIn (tgt := 768) hx hb dL_law_33 (by decide +kernel) (by decide +kernel) rfl (by decide +kernel) ?_
        exact law_22 l C0 D K hK hN hC hA hbA g hG n u L G hI i hi6 hLn ce sl hc3 hs8 H locs hP hD hS hPl ls hl kk
      · refine lv_tableIn (tgt := 791) hx hb dL_law_33 (by decide +kernel) (by decide +kernel) rfl (by decide +kernel) ?_
        exact law_23 l C0 D K hK hN hC hA hbA g hG n u L G hI i hi6 hLn ce sl hc3 hs8 H locs hP hD hS hPl ls hl kk
      · refine lv_tableIn (tgt := 824) hx hb dL_law_33 (by decide +kernel) (by decide +kernel) rfl (by decide +kernel) ?_
        exact law_24 l C0 D K hK hN hC hA hbA g hG n u L G hI i hi6 hLn ce sl hc3 hs8 H locs hP hD hS hPl ls hl kk
      · refine lv_tableIn (tgt := 847) hx hb dL_law_33 (by decide +kernel) (by decide +kernel) rfl (by decide +kernel) ?_
        exact law_25 l C0 D K hK hN hC hA hbA g hG n u L G hI i hi6 hLn ce sl hc3 hs8 H locs hP hD hS hPl ls hl kk
      · refine lv_tableIn (tgt := 860) hx hb dL_law_33 (by decide +kernel) (by decide +kernel) rfl (by decide +kernel) ?_
        exact law_26 l C0 D K hK hN hC hA hbA g hG n u L G hI i hi6 hLn ce sl hc3 hs8 H locs hP hD hS hPl ls hl kk
      · refine lv_tableIn (tgt := 883) hx hb dL_law_33 (by decide +kernel) (by decide +kernel) rfl (by decide +kernel) ?_
        exact law_27 l C0 D K hK hN hC hA hbA g hG n u L G hI i hi6 hLn ce sl hc3 hs8 H locs hP hD hS hPl ls hl kk
      · refine lv_tableIn (tgt := 906) hx hb dL_law_33 (by decide +kernel) (by decide +kernel) rfl (by decide +kernel) ?_
        exact law_28 l C0 D K hK hN hC hA hbA g hG n u L G hI i hi6 hLn ce sl hc3 hs8 H locs hP hD hS hPl ls hl kk
      · refine lv_tableIn (tgt := 929) hx hb dL_law_33 (by decide +kernel) (by decide +kernel) rfl (by decide +kernel) ?_
        exact law_29 l C0 D K hK hN hC hA hbA g hG n u L G hI i hi6 hLn ce sl hc3 hs8 H locs hP hD hS hPl ls hl kk
      · refine lv_tableIn (tgt := 962) hx hb dL_law_33 (by decide +kernel) (by decide +kernel) rfl (by decide +kernel) ?_
        exact law_30 l C0 D K hK hN hC hA hbA g hG n u L G hI i hi6 hLn ce sl hc3 hs8 H locs hP hD hS hPl ls hl kk
      · refine lv_tableIn (tgt := 995) hx hb dL_law_33 (by decide +kernel) (by decide +kernel) rfl (by decide +kernel) ?_
        exact law_31 l C0 D K hK hN hC hA hbA g hG n u L G hI i hi6 hLn ce sl hc3 hs8 H locs hP hD hS hPl ls hl kk
      · refine lv_tableIn (tgt := 1028) hx hb dL_law_33 (by decide +kernel) (by decide +kernel) rfl (by decide +kernel) ?_
        exact law_32 l C0 D K hK hN hC hA hbA g hG n u L G hI i hi6 hLn ce sl hc3 hs8 H locs hP hD hS hPl ls hl kk
      · refine lv_tableIn (tgt := 1051) hx hb dL_law_33 (by decide +kernel) (by decide +kernel) rfl (by decide +kernel) ?_
        exact law_33 l C0 D K hK hN hC hA hbA g hG n u L G hI i hi6 hLn ce sl hc3 hs8 H locs hP hD hS hPl ls hl kk
      · refine lv_tableIn (tgt := 1074) hx hb dL_law_33 (by decide +kernel) (by decide +kernel) rfl (by decide +kernel) ?_
        exact law_34 l C0 D K hK hN hC hA hbA g hG n u L G hI i hi6 hLn ce sl hc3 hs8 H locs hP hD hS hPl ls hl kk
      · refine lv_tableIn (tgt := 1097) hx hb dL_law_33 (by decide +kernel) (by decide +kernel) rfl (by decide +kernel) ?_
        exact law_35 l C0 D K hK hN hC hA hbA g hG n u L G hI i hi6 hLn ce sl hc3 hs8 H locs hP hD hS hPl ls hl kk
      · refine lv_tableOut (tgt := 1110) hx hb dL_law_33 (Or.inr (by rw [nI_toInt (by omega)]; omega)) (by decide +kernel) ?_
        exact law_d l C0 D K hK hN hC hA hbA g hG n u L G hI i hi6 hLn ce sl hc3 hs8 H locs hP hD hS hPl ls hl kk
