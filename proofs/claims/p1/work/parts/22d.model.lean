theorem dX12_terms_0 : decode cX12_terms 0 = .ok (.aload_n 0, 1) := by decide +kernel
theorem dX12_terms_1 : decode cX12_terms 1 = .ok (.iconst 0, 1) := by decide +kernel
theorem dX12_terms_2 : decode cX12_terms 2 = .ok (.putfield 158, 3) := by decide +kernel
theorem dX12_terms_5 : decode cX12_terms 5 = .ok (.iload_n 1, 1) := by decide +kernel
theorem dX12_terms_6 : decode cX12_terms 6 = .ok (.iload_n 2, 1) := by decide +kernel
theorem dX12_terms_7 : decode cX12_terms 7 = .ok (.invokestatic 223, 3) := by decide +kernel
theorem dX12_terms_10 : decode cX12_terms 10 = .ok (.ifCond .ne 9, 3) := by decide +kernel
theorem dX12_terms_19 : decode cX12_terms 19 = .ok (.aload_n 0, 1) := by decide +kernel
theorem dX12_terms_20 : decode cX12_terms 20 = .ok (.iconst 0, 1) := by decide +kernel
theorem dX12_terms_21 : decode cX12_terms 21 = .ok (.putfield 164, 3) := by decide +kernel
theorem dX12_terms_24 : decode cX12_terms 24 = .ok (.aload_n 0, 1) := by decide +kernel
theorem dX12_terms_25 : decode cX12_terms 25 = .ok (.iconst 4, 1) := by decide +kernel
theorem dX12_terms_26 : decode cX12_terms 26 = .ok (.iload_n 1, 1) := by decide +kernel
theorem dX12_terms_27 : decode cX12_terms 27 = .ok (.iadd, 1) := by decide +kernel
theorem dX12_terms_28 : decode cX12_terms 28 = .ok (.iload_n 2, 1) := by decide +kernel
theorem dX12_terms_29 : decode cX12_terms 29 = .ok (.invokevirtual 214, 3) := by decide +kernel
theorem dX12_terms_32 : decode cX12_terms 32 = .ok (.ireturn, 1) := by decide +kernel
theorem dX12_terms_13 : decode cX12_terms 13 = .ok (.aload_n 0, 1) := by decide +kernel
theorem dX12_terms_14 : decode cX12_terms 14 = .ok (.iconst (-1), 1) := by decide +kernel
theorem dX12_terms_15 : decode cX12_terms 15 = .ok (.invokevirtual 171, 3) := by decide +kernel
theorem dX12_terms_18 : decode cX12_terms 18 = .ok (.ireturn, 1) := by decide +kernel
set_option maxRecDepth 20000 in
theorem ggX12_terms_X12_canBe : GoodIn wsX12_terms wsX12_canBe := goodIn_r _ [6, 7, 8, 9, 10, 11, 12, 13, 5, 14] (by decide +kernel) (by decide +kernel)
set_option maxRecDepth 20000 in
theorem gX12_terms_X12_canBe : GoodIn wsX12_terms (va_wsS RX12 223 yX12_canBe wsX12_canBe) := goodIn_app (goodIn_of _ (by decide +kernel)) ggX12_terms_X12_canBe
set_option maxRecDepth 20000 in
theorem ggX12_terms_X12_change : GoodIn wsX12_terms wsX12_change := goodIn_r _ [24, 25, 19, 26, 27, 28, 29, 30, 31, 32, 33, 34, 35, 36, 37, 38, 39, 40, 41, 42, 43, 44, 45, 46, 47, 48, 49, 50, 51, 52, 53, 54, 55, 56, 57, 58, 59, 60, 61, 62, 63, 64, 65, 66, 67, 68, 69, 70, 71, 72, 73, 74, 75, 76, 77, 78, 79, 80, 81, 82, 83, 84, 85] (by decide +kernel) (by decide +kernel)
set_option maxRecDepth 20000 in
theorem gX12_terms_X12_change : GoodIn wsX12_terms (wsV RX12 214 RX12 yX12_change wsX12_change) := goodIn_app (goodIn_of _ (by decide +kernel)) ggX12_terms_X12_change
set_option maxRecDepth 20000 in
theorem ggX12_terms_X12_tell : GoodIn wsX12_terms wsX12_tell := goodIn_r _ [18, 19, 20, 26, 27, 28, 29, 30, 31, 32, 33, 34, 35, 36, 37, 38, 39, 40, 41, 42, 43, 44, 45, 46, 47, 48, 49, 50, 51, 52, 53, 54, 55, 56, 57, 58, 59, 60, 61, 62, 63, 64, 65, 66, 67, 68, 69, 70, 71, 72, 73, 74, 75, 76, 77, 78, 79, 80, 81, 82, 83, 84, 85] (by decide +kernel) (by decide +kernel)
set_option maxRecDepth 20000 in
theorem gX12_terms_X12_tell : GoodIn wsX12_terms (wsV RX12 171 RX12 yX12_tell wsX12_tell) := goodIn_app (goodIn_of _ (by decide +kernel)) ggX12_terms_X12_tell
set_option maxHeartbeats 4000000 in
set_option maxRecDepth 100000 in
theorem r_terms (l : Launch) (D : va_G) (K : Nat → ClassId) (a0 : Nat) (x : Int32) (y : Int32) (w0 : Value) (w1 : Value) (a2 : Nat) (a1 : Nat) (w4 : Value) (w5 : Value) (w6 : Value) (w7 : Value) (w8 : Value) (w9 : Value) (w10 : Value) (w11 : Value) (w12 : Value) (w13 : Value) (w14 : Value) (w15 : Value) (w16 : Value) (w17 : Value) (w18 : Value) (w19 : Value) (w20 : Value) (w21 : Value) (w22 : Value) (w23 : Value) (w24 : Value) (w25 : Value) (w26 : Value) (w27 : Value) (w28 : Value) (w29 : Value) (w30 : Value) (w31 : Value) (w32 : Value) (w33 : Value) (w34 : Value) (w35 : Value) (w36 : Value) (w37 : Value) (w38 : Value) (w39 : Value) (w40 : Value) (w41 : Value) (w42 : Value) (w43 : Value) (w44 : Value) (w45 : Value) (w46 : Value) (w47 : Value) (w48 : Value) (w49 : Value) (w50 : Value) (w51 : Value) (w52 : Value) (w53 : Value) (w54 : Value) (w55 : Value) (w56 : Value) (w57 : Value) (w58 : Value) (w59 : Value) (sz : Nat) : Met l yX12_terms wsX12_terms ({ frames := 2, cells := 0, slots := 0, locals := 46 }) (va_Pc [.ref a0, .int x, .int y] (Pre D K [(a0, .inr (12, [w0, w1, .ref a2, .ref a1, w4, w5, w6, w7, w8, w9, w10, w11, w12, w13, w14, w15, w16, w17, w18, w19, w20, w21, w22, w23, w24, w25, w26, w27, w28, w29, w30, w31, w32, w33, w34, w35, w36, w37, w38, w39, w40, w41, w42, w43, w44, w45, w46, w47, w48, w49, w50, w51, w52, w53, w54, w55, w56, w57, w58, w59])), (a1, .inl (K 0, 5500, .inl row0)), (a2, .inl (K 0, 7, .inl (fun _ => 0)))] sz)) (va_Qi (S := Unit) (fun (r : Int32) (_ : Unit) => (r = 0 ∧ ((x.toInt = 0 ∧ 0 ≤ y.toInt ∧ y.toInt ≤ 23) ∨ (x.toInt = 1 ∧ 0 ≤ y.toInt ∧ y.toInt ≤ 999) ∨ (x.toInt = 5 ∧ 0 ≤ y.toInt ∧ y.toInt ≤ 9))) ∨ (r = 3 ∧ ((x.toInt = 2 ∧ 1 ≤ y.toInt ∧ y.toInt ≤ 20) ∨ (x.toInt = 4 ∧ 0 ≤ y.toInt ∧ y.toInt ≤ 10))) ∨ (r = 12 ∧ (x.toInt = 3 ∧ 1 ≤ y.toInt ∧ y.toInt ≤ 20)) ∨ (r = (-1) ∧ ((x.toInt ≠ 0 ∨ y.toInt < 0 ∨ 23 < y.toInt) ∧ (x.toInt ≠ 1 ∨ y.toInt < 0 ∨ 999 < y.toInt) ∧ (x.toInt ≠ 2 ∨ y.toInt < 1 ∨ 20 < y.toInt) ∧ (x.toInt ≠ 3 ∨ y.toInt < 1 ∨ 20 < y.toInt) ∧ (x.toInt ≠ 4 ∨ y.toInt < 0 ∨ 10 < y.toInt) ∧ (x.toInt ≠ 5 ∨ y.toInt < 0 ∨ 9 < y.toInt)))) (fun u t => Wd D (va_A [(a0, .inr (12, [w0, w1, .ref a2, .ref a1, w4, w5, w6, w7, w8, w9, w10, w11, w12, w13, w14, w15, w16, w17, w18, w19, w20, w21, w22, w23, w24, w25, w26, w27, w28, w29, w30, w31, w32, w33, w34, w35, w36, w37, w38, w39, w40, w41, w42, w43, w44, w45, w46, w47, w48, w49, w50, w51, w52, w53, w54, w55, w56, w57, w58, w59])), (a1, .inl (K 0, 5500, .inl row0)), (a2, .inl (K 0, 7, .inl (fun _ => 0)))] sz) ((fun _ => []) u) t) (va_A [(a0, .inr (12, [w0, w1, .ref a2, .ref a1, w4, w5, w6, w7, w8, w9, w10, w11, w12, w13, w14, w15, w16, w17, w18, w19, w20, w21, w22, w23, w24, w25, w26, w27, w28, w29, w30, w31, w32, w33, w34, w35, w36, w37, w38, w39, w40, w41, w42, w43, w44, w45, w46, w47, w48, w49, w50, w51, w52, w53, w54, w55, w56, w57, w58, w59])), (a1, .inl (K 0, 5500, .inl row0)), (a2, .inl (K 0, 7, .inl (fun _ => 0)))] sz)) 0 0 (va_A [(a0, .inr (12, [w0, w1, .ref a2, .ref a1, w4, w5, w6, w7, w8, w9, w10, w11, w12, w13, w14, w15, w16, w17, w18, w19, w20, w21, w22, w23, w24, w25, w26, w27, w28, w29, w30, w31, w32, w33, w34, w35, w36, w37, w38, w39, w40, w41, w42, w43, w44, w45, w46, w47, w48, w49, w50, w51, w52, w53, w54, w55, w56, w57, w58, w59])), (a1, .inl (K 0, 5500, .inl row0)), (a2, .inl (K 0, 7, .inl (fun _ => 0)))] sz) := by
  refine Met.ofW (cc := cX12_terms) (maxL := 3) (ret := (some .int)) (by decide) rfl ?_
  intro p e s m args below meth c s₁ B hml hv
  obtain ⟨rfl, hsz, hP, hK, hD0, hN⟩ := hv
  have hx := B.exec
  have hb := B.bytes
  have hr := B.returns
  have hts := atoms_spec (ws := wsX12_terms) B.pre
  have hown : s.vm.findClass RX12 = some m.cls := findClass_of_methodNamed B.named
  have hlocks := B.notSynchronized
  subst hsz
  have hD := hD0.self (sz := s.heap.size)
  generalize hAe : va_A [(a0, .inr (12, [w0, w1, .ref a2, .ref a1, w4, w5, w6, w7, w8, w9, w10, w11, w12, w13, w14, w15, w16, w17, w18, w19, w20, w21, w22, w23, w24, w25, w26, w27, w28, w29, w30, w31, w32, w33, w34, w35, w36, w37, w38, w39, w40, w41, w42, w43, w44, w45, w46, w47, w48, w49, w50, w51, w52, w53, w54, w55, w56, w57, w58, w59])), (a1, .inl (K 0, 5500, .inl row0)), (a2, .inl (K 0, 7, .inl (fun _ => 0)))] s.heap.size = A at hD ⊢
  have hA : ∀ q : Nat, s.heap.size ≤ q → A q := fun q h => by rw [← hAe]; exact Or.inr h
  have hS : va_S A s.heap s.heap [] := va_S.rf
  have hP : va_P D vwCl [(a0, .inr (12, [w0, w1, .ref a2, .ref a1, w4, w5, w6, w7, w8, w9, w10, w11, w12, w13, w14, w15, w16, w17, w18, w19, w20, w21, w22, w23, w24, w25, w26, w27, w28, w29, w30, w31, w32, w33, w34, w35, w36, w37, w38, w39, w40, w41, w42, w43, w44, w45, w46, w47, w48, w49, w50, w51, w52, w53, w54, w55, w56, w57, w58, w59])), (a1, .inl (K 0, 5500, .inl row0)), (a2, .inl (K 0, 7, .inl (fun _ => 0)))] s.heap := hP
  have hl := lv_entry [.ref a0, .int x, .int y] (n := 3) (Nat.le_of_ble_eq_true rfl)
  rw [lg_entry_eq]
  generalize (lg_sl [.ref a0, .int x, .int y] ++ List.replicate (3 - (lg_sl [.ref a0, .int x, .int y]).length) Slot.unset).toArray = ls at hl ⊢
  have hl : lv_has ls 3 [(0, .ref a0), (1, .int x), (2, .int y)] := hl
  have hw12 : ∀ w ∈ wsX120, w ∈ wsX12_terms := fun w h => (List.mem_cons_of_mem _ (List.mem_append_right _ h))
  have hsp : (x = 0 ∨ x = 1 ∨ x = 2 ∨ x = 3 ∨ x = 4 ∨ x = 5) ∨ (x.toInt < 0 ∨ 5 < x.toInt) := by
    by_cases q1 : x.toInt < 0
    · exact Or.inr (Or.inl q1)
    · by_cases q2 : 5 < x.toInt
      · exact Or.inr (Or.inr q2)
      · refine Or.inl ?_
        have q3 : x.toInt = 0 ∨ x.toInt = 1 ∨ x.toInt = 2 ∨ x.toInt = 3 ∨ x.toInt = 4 ∨ x.toInt = 5 := by omega
        rcases q3 with q3 | q3 | q3 | q3 | q3 | q3
        · exact Or.inl (i_lit q3 rfl)
        · exact Or.inr (Or.inl (i_lit q3 rfl))
        · exact Or.inr (Or.inr (Or.inl (i_lit q3 rfl)))
        · exact Or.inr (Or.inr (Or.inr (Or.inl (i_lit q3 rfl))))
        · exact Or.inr (Or.inr (Or.inr (Or.inr (Or.inl (i_lit q3 rfl)))))
        · exact Or.inr (Or.inr (Or.inr (Or.inr (Or.inr (i_lit q3 rfl)))))
  rcases hsp with (rfl | rfl | rfl | rfl | rfl | rfl) | hsp
  · have hlk : (0 : Int32).toInt = 0 := rfl
    refine lv_aload_n hx hb dX12_terms_0 rfl (lv_at hl 0 rfl) ?_
    refine lv_iconst (v := 0) hx hb dX12_terms_1 (by decide) ?_
    refine va_put (ci := 12) (v := .int 0) (ty := .int) (C := RX12) (T := TX12) (N := 60) hx hb hts hw12 tyX12 tyX12_ok nmX12 hown hK hP hD hS 0 rfl rfl 0 (by decide) (hts (.fieldLink RX12 158 "SmokeTuneModel" "thrown" "I") (List.mem_cons_of_mem _ (List.mem_append_left _ (List.mem_append_left _ (List.mem_of_getElem? (i := 0) rfl))))) (fun _ h9 => h9) rfl (by decide +kernel) (by first | rfl | decide) (by first | rfl | decide) (Nat.le_of_ble_eq_true rfl) dX12_terms_2 (fun H locs hP hD hS => ?_)
    have hP : va_P D vwCl [(a0, .inr (12, [.int 0, w1, .ref a2, .ref a1, w4, w5, w6, w7, w8, w9, w10, w11, w12, w13, w14, w15, w16, w17, w18, w19, w20, w21, w22, w23, w24, w25, w26, w27, w28, w29, w30, w31, w32, w33, w34, w35, w36, w37, w38, w39, w40, w41, w42, w43, w44, w45, w46, w47, w48, w49, w50, w51, w52, w53, w54, w55, w56, w57, w58, w59])), (a1, .inl (K 0, 5500, .inl row0)), (a2, .inl (K 0, 7, .inl (fun _ => 0)))] H := hP
    have hD : va_D A [(a0, .inr (12, [.int 0, w1, .ref a2, .ref a1, w4, w5, w6, w7, w8, w9, w10, w11, w12, w13, w14, w15, w16, w17, w18, w19, w20, w21, w22, w23, w24, w25, w26, w27, w28, w29, w30, w31, w32, w33, w34, w35, w36, w37, w38, w39, w40, w41, w42, w43, w44, w45, w46, w47, w48, w49, w50, w51, w52, w53, w54, w55, w56, w57, w58, w59])), (a1, .inl (K 0, 5500, .inl row0)), (a2, .inl (K 0, 7, .inl (fun _ => 0)))] := hD
    refine lv_iload_n hx hb dX12_terms_5 rfl (lv_at hl 1 rfl) ?_
    refine lv_iload_n hx hb dX12_terms_6 rfl (lv_at hl 2 rfl) ?_
    refine pci (va_runS (As := [.int 0, .int y]) (rest := []) ⟨hx, hb, hml, hown, hts⟩ (m_canBe_0 l D K y y.toInt H.size rfl) (va_cwS 2 hts gX12_terms_X12_canBe rfl rfl rfl (by decide +kernel) ⟨Nat.le_of_ble_eq_true rfl, Nat.le_of_ble_eq_true rfl⟩) (mkS hK hN (hP.sub [] rfl) (hD.sub [] (by decide) rfl)) rfl rfl hl.1 rfl (lv_room (Nat.le_of_ble_eq_true rfl)) dX12_terms_7 ⟨Nat.le_of_ble_eq_true rfl, Nat.le_of_ble_eq_true rfl⟩) (fun r_1 hw => ?_)
    rcases hw with ⟨rfl, h_2, h_3⟩ | ⟨rfl, h_4⟩
    · refine lv_if_ne (tgt := 19) hx hb dX12_terms_10 (by decide) (fun c_5 => ?_) (fun c_5 => absurd c_5 (by decide))
      refine lv_aload_n hx hb dX12_terms_19 rfl (lv_at hl 0 rfl) ?_
      refine lv_iconst (v := 0) hx hb dX12_terms_20 (by decide) ?_
      refine va_put (ci := 12) (v := .int 0) (ty := .int) (C := RX12) (T := TX12) (N := 60) hx hb hts hw12 tyX12 tyX12_ok nmX12 hown hK hP hD hS 0 rfl rfl 8 (by decide) (hts (.fieldLink RX12 164 "SmokeTuneModel" "nUndo" "I") (List.mem_cons_of_mem _ (List.mem_append_left _ (List.mem_append_left _ (List.mem_of_getElem? (i := 1) rfl))))) (fun _ h9 => h9) rfl (by decide +kernel) (by first | rfl | decide) (by first | rfl | decide) (Nat.le_of_ble_eq_true rfl) dX12_terms_21 (fun H locs hP hD hS => ?_)
      have hP : va_P D vwCl [(a0, .inr (12, [.int 0, w1, .ref a2, .ref a1, w4, w5, w6, w7, .int 0, w9, w10, w11, w12, w13, w14, w15, w16, w17, w18, w19, w20, w21, w22, w23, w24, w25, w26, w27, w28, w29, w30, w31, w32, w33, w34, w35, w36, w37, w38, w39, w40, w41, w42, w43, w44, w45, w46, w47, w48, w49, w50, w51, w52, w53, w54, w55, w56, w57, w58, w59])), (a1, .inl (K 0, 5500, .inl row0)), (a2, .inl (K 0, 7, .inl (fun _ => 0)))] H := hP
      have hD : va_D A [(a0, .inr (12, [.int 0, w1, .ref a2, .ref a1, w4, w5, w6, w7, .int 0, w9, w10, w11, w12, w13, w14, w15, w16, w17, w18, w19, w20, w21, w22, w23, w24, w25, w26, w27, w28, w29, w30, w31, w32, w33, w34, w35, w36, w37, w38, w39, w40, w41, w42, w43, w44, w45, w46, w47, w48, w49, w50, w51, w52, w53, w54, w55, w56, w57, w58, w59])), (a1, .inl (K 0, 5500, .inl row0)), (a2, .inl (K 0, 7, .inl (fun _ => 0)))] := hD
      refine lv_aload_n hx hb dX12_terms_24 rfl (lv_at hl 0 rfl) ?_
      refine lv_iconst (v := 4) hx hb dX12_terms_25 (by decide) ?_
      refine lv_iload_n hx hb dX12_terms_26 rfl (lv_at hl 1 rfl) ?_
      refine lv_iadd hx hb dX12_terms_27 ?_
      refine lv_topi (fun x_6 ex_6 => ?_)
      obtain rfl : x_6 = 4 := ex_6.trans (by first | rfl | decide)
      refine lv_iload_n hx hb dX12_terms_28 rfl (lv_at hl 2 rfl) ?_
      refine kci (wr := [(a2, .inl (K 0, 7, .inl (fun _ => 0)))]) (va_runV (As := [.int 4, .int y]) (rest := []) ⟨hx, hb, hml, hown, hts⟩ (m_change_4 l D K a0 y (.int 0) w1 (.ref a2) a1 w4 w5 w6 w7 (.int 0) w9 w10 w11 w12 w13 w14 w15 w16 w17 w18 w19 w20 w21 w22 w23 w24 w25 w26 w27 w28 w29 w30 w31 w32 w33 w34 w35 w36 w37 w38 w39 w40 w41 w42 w43 w44 w45 w46 w47 w48 w49 w50 w51 w52 w53 w54 w55 w56 w57 w58 w59 H.size) (cwV 2 hts gX12_terms_X12_change rfl rfl rfl (by decide +kernel) ⟨Nat.le_of_ble_eq_true rfl, Nat.le_of_ble_eq_true rfl⟩) (mkV hK hN (hP.sub [0, 1] rfl) (hD.sub [0, 1] (by decide) rfl) (ci := 12) (q0 := 0) rfl rfl) rfl rfl hl.1 rfl (lv_room (Nat.le_of_ble_eq_true rfl)) dX12_terms_29 ⟨Nat.le_of_ble_eq_true rfl, Nat.le_of_ble_eq_true rfl⟩) hP hD hS hA [0, 1] [2] rfl rfl (by decide) (by decide) (fun r_7 u_8 H locs hw hP hD hS => ?_)
      have hP : va_P D vwCl [(a2, .inl (K 0, 7, .inl (fun _ => 0)))] H := hP
      have hD : va_D A [(a2, .inl (K 0, 7, .inl (fun _ => 0)))] := hD
      obtain rfl : r_7 = 0 := hw
      exact W.iret (v := 0) hx hb hr (fun t ht hW => ⟨⟨0, (), rfl, (by first | exact Or.inl (⟨rfl, by first | omega | decide | (subst_vars; assumption) | (subst_vars; symm; assumption)⟩)), Wd.nil⟩, hS.F ht⟩) hS.2.2 dX12_terms_32
    · refine lv_if_ne (tgt := 19) hx hb dX12_terms_10 (by decide) (fun c_9 => absurd (by decide) c_9) (fun c_9 => ?_)
      refine lv_aload_n hx hb dX12_terms_13 rfl (lv_at hl 0 rfl) ?_
      refine lv_iconst (v := (-1)) hx hb dX12_terms_14 (by decide) ?_
      refine kci (wr := [(a1, .inl (K 0, 5500, .inl row0))]) (va_runV (As := [.int (-1)]) (rest := []) ⟨hx, hb, hml, hown, hts⟩ (m_tell_1 l D K a0 (.int 0) w1 a2 (.ref a1) w4 w5 w6 w7 w8 w9 w10 w11 w12 w13 w14 w15 w16 w17 w18 w19 w20 w21 w22 w23 w24 w25 w26 w27 w28 w29 w30 w31 w32 w33 w34 w35 w36 w37 w38 w39 w40 w41 w42 w43 w44 w45 w46 w47 w48 w49 w50 w51 w52 w53 w54 w55 w56 w57 w58 w59 (fun _ => 0) H.size) (cwV 1 hts gX12_terms_X12_tell rfl rfl rfl (by decide +kernel) ⟨Nat.le_of_ble_eq_true rfl, Nat.le_of_ble_eq_true rfl⟩) (mkV hK hN (hP.sub [0, 2] rfl) (hD.sub [0, 2] (by decide) rfl) (ci := 12) (q0 := 0) rfl rfl) rfl rfl hl.1 rfl (lv_room (Nat.le_of_ble_eq_true rfl)) dX12_terms_15 ⟨Nat.le_of_ble_eq_true rfl, Nat.le_of_ble_eq_true rfl⟩) hP hD hS hA [0, 2] [1] rfl rfl (by decide) (by decide) (fun r_10 u_11 H locs hw hP hD hS => ?_)
      have hP : va_P D vwCl [(a1, .inl (K 0, 5500, .inl row0))] H := hP
      have hD : va_D A [(a1, .inl (K 0, 5500, .inl row0))] := hD
      obtain rfl : r_10 = (-1) := hw
      exact W.iret (v := (-1)) hx hb hr (fun t ht hW => ⟨⟨(-1), (), rfl, (by first | exact Or.inr (Or.inr (Or.inr (⟨rfl, by first | omega | decide | (subst_vars; assumption) | (subst_vars; symm; assumption)⟩)))), Wd.nil⟩, hS.F ht⟩) hS.2.2 dX12_terms_18
  · have hlk : (1 : Int32).toInt = 1 := rfl
    refine lv_aload_n hx hb dX12_terms_0 rfl (lv_at hl 0 rfl) ?_
    refine lv_iconst (v := 0) hx hb dX12_terms_1 (by decide) ?_
    refine va_put (ci := 12) (v := .int 0) (ty := .int) (C := RX12) (T := TX12) (N := 60) hx hb hts hw12 tyX12 tyX12_ok nmX12 hown hK hP hD hS 0 rfl rfl 0 (by decide) (hts (.fieldLink RX12 158 "SmokeTuneModel" "thrown" "I") (List.mem_cons_of_mem _ (List.mem_append_left _ (List.mem_append_left _ (List.mem_of_getElem? (i := 0) rfl))))) (fun _ h9 => h9) rfl (by decide +kernel) (by first | rfl | decide) (by first | rfl | decide) (Nat.le_of_ble_eq_true rfl) dX12_terms_2 (fun H locs hP hD hS => ?_)
    have hP : va_P D vwCl [(a0, .inr (12, [.int 0, w1, .ref a2, .ref a1, w4, w5, w6, w7, w8, w9, w10, w11, w12, w13, w14, w15, w16, w17, w18, w19, w20, w21, w22, w23, w24, w25, w26, w27, w28, w29, w30, w31, w32, w33, w34, w35, w36, w37, w38, w39, w40, w41, w42, w43, w44, w45, w46, w47, w48, w49, w50, w51, w52, w53, w54, w55, w56, w57, w58, w59])), (a1, .inl (K 0, 5500, .inl row0)), (a2, .inl (K 0, 7, .inl (fun _ => 0)))] H := hP
    have hD : va_D A [(a0, .inr (12, [.int 0, w1, .ref a2, .ref a1, w4, w5, w6, w7, w8, w9, w10, w11, w12, w13, w14, w15, w16, w17, w18, w19, w20, w21, w22, w23, w24, w25, w26, w27, w28, w29, w30, w31, w32, w33, w34, w35, w36, w37, w38, w39, w40, w41, w42, w43, w44, w45, w46, w47, w48, w49, w50, w51, w52, w53, w54, w55, w56, w57, w58, w59])), (a1, .inl (K 0, 5500, .inl row0)), (a2, .inl (K 0, 7, .inl (fun _ => 0)))] := hD
    refine lv_iload_n hx hb dX12_terms_5 rfl (lv_at hl 1 rfl) ?_
    refine lv_iload_n hx hb dX12_terms_6 rfl (lv_at hl 2 rfl) ?_
    refine pci (va_runS (As := [.int 1, .int y]) (rest := []) ⟨hx, hb, hml, hown, hts⟩ (m_canBe_1 l D K y y.toInt H.size rfl) (va_cwS 2 hts gX12_terms_X12_canBe rfl rfl rfl (by decide +kernel) ⟨Nat.le_of_ble_eq_true rfl, Nat.le_of_ble_eq_true rfl⟩) (mkS hK hN (hP.sub [] rfl) (hD.sub [] (by decide) rfl)) rfl rfl hl.1 rfl (lv_room (Nat.le_of_ble_eq_true rfl)) dX12_terms_7 ⟨Nat.le_of_ble_eq_true rfl, Nat.le_of_ble_eq_true rfl⟩) (fun r_12 hw => ?_)
    rcases hw with ⟨rfl, h_13, h_14⟩ | ⟨rfl, h_15⟩
    · refine lv_if_ne (tgt := 19) hx hb dX12_terms_10 (by decide) (fun c_16 => ?_) (fun c_16 => absurd c_16 (by decide))
      refine lv_aload_n hx hb dX12_terms_19 rfl (lv_at hl 0 rfl) ?_
      refine lv_iconst (v := 0) hx hb dX12_terms_20 (by decide) ?_
      refine va_put (ci := 12) (v := .int 0) (ty := .int) (C := RX12) (T := TX12) (N := 60) hx hb hts hw12 tyX12 tyX12_ok nmX12 hown hK hP hD hS 0 rfl rfl 8 (by decide) (hts (.fieldLink RX12 164 "SmokeTuneModel" "nUndo" "I") (List.mem_cons_of_mem _ (List.mem_append_left _ (List.mem_append_left _ (List.mem_of_getElem? (i := 1) rfl))))) (fun _ h9 => h9) rfl (by decide +kernel) (by first | rfl | decide) (by first | rfl | decide) (Nat.le_of_ble_eq_true rfl) dX12_terms_21 (fun H locs hP hD hS => ?_)
      have hP : va_P D vwCl [(a0, .inr (12, [.int 0, w1, .ref a2, .ref a1, w4, w5, w6, w7, .int 0, w9, w10, w11, w12, w13, w14, w15, w16, w17, w18, w19, w20, w21, w22, w23, w24, w25, w26, w27, w28, w29, w30, w31, w32, w33, w34, w35, w36, w37, w38, w39, w40, w41, w42, w43, w44, w45, w46, w47, w48, w49, w50, w51, w52, w53, w54, w55, w56, w57, w58, w59])), (a1, .inl (K 0, 5500, .inl row0)), (a2, .inl (K 0, 7, .inl (fun _ => 0)))] H := hP
      have hD : va_D A [(a0, .inr (12, [.int 0, w1, .ref a2, .ref a1, w4, w5, w6, w7, .int 0, w9, w10, w11, w12, w13, w14, w15, w16, w17, w18, w19, w20, w21, w22, w23, w24, w25, w26, w27, w28, w29, w30, w31, w32, w33, w34, w35, w36, w37, w38, w39, w40, w41, w42, w43, w44, w45, w46, w47, w48, w49, w50, w51, w52, w53, w54, w55, w56, w57, w58, w59])), (a1, .inl (K 0, 5500, .inl row0)), (a2, .inl (K 0, 7, .inl (fun _ => 0)))] := hD
      refine lv_aload_n hx hb dX12_terms_24 rfl (lv_at hl 0 rfl) ?_
      refine lv_iconst (v := 4) hx hb dX12_terms_25 (by decide) ?_
      refine lv_iload_n hx hb dX12_terms_26 rfl (lv_at hl 1 rfl) ?_
      refine lv_iadd hx hb dX12_terms_27 ?_
      refine lv_topi (fun x_17 ex_17 => ?_)
      obtain rfl : x_17 = 5 := ex_17.trans (by first | rfl | decide)
      refine lv_iload_n hx hb dX12_terms_28 rfl (lv_at hl 2 rfl) ?_
      refine kci (wr := [(a2, .inl (K 0, 7, .inl (fun _ => 0)))]) (va_runV (As := [.int 5, .int y]) (rest := []) ⟨hx, hb, hml, hown, hts⟩ (m_change_5 l D K a0 y (.int 0) w1 (.ref a2) a1 w4 w5 w6 w7 (.int 0) w9 w10 w11 w12 w13 w14 w15 w16 w17 w18 w19 w20 w21 w22 w23 w24 w25 w26 w27 w28 w29 w30 w31 w32 w33 w34 w35 w36 w37 w38 w39 w40 w41 w42 w43 w44 w45 w46 w47 w48 w49 w50 w51 w52 w53 w54 w55 w56 w57 w58 w59 H.size) (cwV 2 hts gX12_terms_X12_change rfl rfl rfl (by decide +kernel) ⟨Nat.le_of_ble_eq_true rfl, Nat.le_of_ble_eq_true rfl⟩) (mkV hK hN (hP.sub [0, 1] rfl) (hD.sub [0, 1] (by decide) rfl) (ci := 12) (q0 := 0) rfl rfl) rfl rfl hl.1 rfl (lv_room (Nat.le_of_ble_eq_true rfl)) dX12_terms_29 ⟨Nat.le_of_ble_eq_true rfl, Nat.le_of_ble_eq_true rfl⟩) hP hD hS hA [0, 1] [2] rfl rfl (by decide) (by decide) (fun r_18 u_19 H locs hw hP hD hS => ?_)
      have hP : va_P D vwCl [(a2, .inl (K 0, 7, .inl (fun _ => 0)))] H := hP
      have hD : va_D A [(a2, .inl (K 0, 7, .inl (fun _ => 0)))] := hD
      obtain rfl : r_18 = 0 := hw
      exact W.iret (v := 0) hx hb hr (fun t ht hW => ⟨⟨0, (), rfl, (by first | exact Or.inl (⟨rfl, by first | omega | decide | (subst_vars; assumption) | (subst_vars; symm; assumption)⟩)), Wd.nil⟩, hS.F ht⟩) hS.2.2 dX12_terms_32
    · refine lv_if_ne (tgt := 19) hx hb dX12_terms_10 (by decide) (fun c_20 => absurd (by decide) c_20) (fun c_20 => ?_)
      refine lv_aload_n hx hb dX12_terms_13 rfl (lv_at hl 0 rfl) ?_
      refine lv_iconst (v := (-1)) hx hb dX12_terms_14 (by decide) ?_
      refine kci (wr := [(a1, .inl (K 0, 5500, .inl row0))]) (va_runV (As := [.int (-1)]) (rest := []) ⟨hx, hb, hml, hown, hts⟩ (m_tell_1 l D K a0 (.int 0) w1 a2 (.ref a1) w4 w5 w6 w7 w8 w9 w10 w11 w12 w13 w14 w15 w16 w17 w18 w19 w20 w21 w22 w23 w24 w25 w26 w27 w28 w29 w30 w31 w32 w33 w34 w35 w36 w37 w38 w39 w40 w41 w42 w43 w44 w45 w46 w47 w48 w49 w50 w51 w52 w53 w54 w55 w56 w57 w58 w59 (fun _ => 0) H.size) (cwV 1 hts gX12_terms_X12_tell rfl rfl rfl (by decide +kernel) ⟨Nat.le_of_ble_eq_true rfl, Nat.le_of_ble_eq_true rfl⟩) (mkV hK hN (hP.sub [0, 2] rfl) (hD.sub [0, 2] (by decide) rfl) (ci := 12) (q0 := 0) rfl rfl) rfl rfl hl.1 rfl (lv_room (Nat.le_of_ble_eq_true rfl)) dX12_terms_15 ⟨Nat.le_of_ble_eq_true rfl, Nat.le_of_ble_eq_true rfl⟩) hP hD hS hA [0, 2] [1] rfl rfl (by decide) (by decide) (fun r_21 u_22 H locs hw hP hD hS => ?_)
      have hP : va_P D vwCl [(a1, .inl (K 0, 5500, .inl row0))] H := hP
      have hD : va_D A [(a1, .inl (K 0, 5500, .inl row0))] := hD
      obtain rfl : r_21 = (-1) := hw
      exact W.iret (v := (-1)) hx hb hr (fun t ht hW => ⟨⟨(-1), (), rfl, (by first | exact Or.inr (Or.inr (Or.inr (⟨rfl, by first | omega | decide | (subst_vars; assumption) | (subst_vars; symm; assumption)⟩)))), Wd.nil⟩, hS.F ht⟩) hS.2.2 dX12_terms_18
  · have hlk : (2 : Int32).toInt = 2 := rfl
    refine lv_aload_n hx hb dX12_terms_0 rfl (lv_at hl 0 rfl) ?_
    refine lv_iconst (v := 0) hx hb dX12_terms_1 (by decide) ?_
    refine va_put (ci := 12) (v := .int 0) (ty := .int) (C := RX12) (T := TX12) (N := 60) hx hb hts hw12 tyX12 tyX12_ok nmX12 hown hK hP hD hS 0 rfl rfl 0 (by decide) (hts (.fieldLink RX12 158 "SmokeTuneModel" "thrown" "I") (List.mem_cons_of_mem _ (List.mem_append_left _ (List.mem_append_left _ (List.mem_of_getElem? (i := 0) rfl))))) (fun _ h9 => h9) rfl (by decide +kernel) (by first | rfl | decide) (by first | rfl | decide) (Nat.le_of_ble_eq_true rfl) dX12_terms_2 (fun H locs hP hD hS => ?_)
    have hP : va_P D vwCl [(a0, .inr (12, [.int 0, w1, .ref a2, .ref a1, w4, w5, w6, w7, w8, w9, w10, w11, w12, w13, w14, w15, w16, w17, w18, w19, w20, w21, w22, w23, w24, w25, w26, w27, w28, w29, w30, w31, w32, w33, w34, w35, w36, w37, w38, w39, w40, w41, w42, w43, w44, w45, w46, w47, w48, w49, w50, w51, w52, w53, w54, w55, w56, w57, w58, w59])), (a1, .inl (K 0, 5500, .inl row0)), (a2, .inl (K 0, 7, .inl (fun _ => 0)))] H := hP
    have hD : va_D A [(a0, .inr (12, [.int 0, w1, .ref a2, .ref a1, w4, w5, w6, w7, w8, w9, w10, w11, w12, w13, w14, w15, w16, w17, w18, w19, w20, w21, w22, w23, w24, w25, w26, w27, w28, w29, w30, w31, w32, w33, w34, w35, w36, w37, w38, w39, w40, w41, w42, w43, w44, w45, w46, w47, w48, w49, w50, w51, w52, w53, w54, w55, w56, w57, w58, w59])), (a1, .inl (K 0, 5500, .inl row0)), (a2, .inl (K 0, 7, .inl (fun _ => 0)))] := hD
    refine lv_iload_n hx hb dX12_terms_5 rfl (lv_at hl 1 rfl) ?_
    refine lv_iload_n hx hb dX12_terms_6 rfl (lv_at hl 2 rfl) ?_
    refine pci (va_runS (As := [.int 2, .int y]) (rest := []) ⟨hx, hb, hml, hown, hts⟩ (m_canBe_2 l D K y y.toInt H.size rfl) (va_cwS 2 hts gX12_terms_X12_canBe rfl rfl rfl (by decide +kernel) ⟨Nat.le_of_ble_eq_true rfl, Nat.le_of_ble_eq_true rfl⟩) (mkS hK hN (hP.sub [] rfl) (hD.sub [] (by decide) rfl)) rfl rfl hl.1 rfl (lv_room (Nat.le_of_ble_eq_true rfl)) dX12_terms_7 ⟨Nat.le_of_ble_eq_true rfl, Nat.le_of_ble_eq_true rfl⟩) (fun r_23 hw => ?_)
    rcases hw with ⟨rfl, h_24, h_25⟩ | ⟨rfl, h_26⟩
    · refine lv_if_ne (tgt := 19) hx hb dX12_terms_10 (by decide) (fun c_27 => ?_) (fun c_27 => absurd c_27 (by decide))
      refine lv_aload_n hx hb dX12_terms_19 rfl (lv_at hl 0 rfl) ?_
      refine lv_iconst (v := 0) hx hb dX12_terms_20 (by decide) ?_
      refine va_put (ci := 12) (v := .int 0) (ty := .int) (C := RX12) (T := TX12) (N := 60) hx hb hts hw12 tyX12 tyX12_ok nmX12 hown hK hP hD hS 0 rfl rfl 8 (by decide) (hts (.fieldLink RX12 164 "SmokeTuneModel" "nUndo" "I") (List.mem_cons_of_mem _ (List.mem_append_left _ (List.mem_append_left _ (List.mem_of_getElem? (i := 1) rfl))))) (fun _ h9 => h9) rfl (by decide +kernel) (by first | rfl | decide) (by first | rfl | decide) (Nat.le_of_ble_eq_true rfl) dX12_terms_21 (fun H locs hP hD hS => ?_)
      have hP : va_P D vwCl [(a0, .inr (12, [.int 0, w1, .ref a2, .ref a1, w4, w5, w6, w7, .int 0, w9, w10, w11, w12, w13, w14, w15, w16, w17, w18, w19, w20, w21, w22, w23, w24, w25, w26, w27, w28, w29, w30, w31, w32, w33, w34, w35, w36, w37, w38, w39, w40, w41, w42, w43, w44, w45, w46, w47, w48, w49, w50, w51, w52, w53, w54, w55, w56, w57, w58, w59])), (a1, .inl (K 0, 5500, .inl row0)), (a2, .inl (K 0, 7, .inl (fun _ => 0)))] H := hP
      have hD : va_D A [(a0, .inr (12, [.int 0, w1, .ref a2, .ref a1, w4, w5, w6, w7, .int 0, w9, w10, w11, w12, w13, w14, w15, w16, w17, w18, w19, w20, w21, w22, w23, w24, w25, w26, w27, w28, w29, w30, w31, w32, w33, w34, w35, w36, w37, w38, w39, w40, w41, w42, w43, w44, w45, w46, w47, w48, w49, w50, w51, w52, w53, w54, w55, w56, w57, w58, w59])), (a1, .inl (K 0, 5500, .inl row0)), (a2, .inl (K 0, 7, .inl (fun _ => 0)))] := hD
      refine lv_aload_n hx hb dX12_terms_24 rfl (lv_at hl 0 rfl) ?_
      refine lv_iconst (v := 4) hx hb dX12_terms_25 (by decide) ?_
      refine lv_iload_n hx hb dX12_terms_26 rfl (lv_at hl 1 rfl) ?_
      refine lv_iadd hx hb dX12_terms_27 ?_
      refine lv_topi (fun x_28 ex_28 => ?_)
      obtain rfl : x_28 = 6 := ex_28.trans (by first | rfl | decide)
      refine lv_iload_n hx hb dX12_terms_28 rfl (lv_at hl 2 rfl) ?_
      refine kci (wr := [(a2, .inl (K 0, 7, .inl (fun _ => 0)))]) (va_runV (As := [.int 6, .int y]) (rest := []) ⟨hx, hb, hml, hown, hts⟩ (m_change_6 l D K a0 y (.int 0) w1 (.ref a2) a1 w4 w5 w6 w7 (.int 0) w9 w10 w11 w12 w13 w14 w15 w16 w17 w18 w19 w20 w21 w22 w23 w24 w25 w26 w27 w28 w29 w30 w31 w32 w33 w34 w35 w36 w37 w38 w39 w40 w41 w42 w43 w44 w45 w46 w47 w48 w49 w50 w51 w52 w53 w54 w55 w56 w57 w58 w59 H.size) (cwV 2 hts gX12_terms_X12_change rfl rfl rfl (by decide +kernel) ⟨Nat.le_of_ble_eq_true rfl, Nat.le_of_ble_eq_true rfl⟩) (mkV hK hN (hP.sub [0, 1] rfl) (hD.sub [0, 1] (by decide) rfl) (ci := 12) (q0 := 0) rfl rfl) rfl rfl hl.1 rfl (lv_room (Nat.le_of_ble_eq_true rfl)) dX12_terms_29 ⟨Nat.le_of_ble_eq_true rfl, Nat.le_of_ble_eq_true rfl⟩) hP hD hS hA [0, 1] [2] rfl rfl (by decide) (by decide) (fun r_29 u_30 H locs hw hP hD hS => ?_)
      have hP : va_P D vwCl [(a2, .inl (K 0, 7, .inl (fun _ => 0)))] H := hP
      have hD : va_D A [(a2, .inl (K 0, 7, .inl (fun _ => 0)))] := hD
      obtain rfl : r_29 = 3 := hw
      exact W.iret (v := 3) hx hb hr (fun t ht hW => ⟨⟨3, (), rfl, (by first | exact Or.inr (Or.inl (⟨rfl, by first | omega | decide | (subst_vars; assumption) | (subst_vars; symm; assumption)⟩))), Wd.nil⟩, hS.F ht⟩) hS.2.2 dX12_terms_32
    · refine lv_if_ne (tgt := 19) hx hb dX12_terms_10 (by decide) (fun c_31 => absurd (by decide) c_31) (fun c_31 => ?_)
      refine lv_aload_n hx hb dX12_terms_13 rfl (lv_at hl 0 rfl) ?_
      refine lv_iconst (v := (-1)) hx hb dX12_terms_14 (by decide) ?_
      refine kci (wr := [(a1, .inl (K 0, 5500, .inl row0))]) (va_runV (As := [.int (-1)]) (rest := []) ⟨hx, hb, hml, hown, hts⟩ (m_tell_1 l D K a0 (.int 0) w1 a2 (.ref a1) w4 w5 w6 w7 w8 w9 w10 w11 w12 w13 w14 w15 w16 w17 w18 w19 w20 w21 w22 w23 w24 w25 w26 w27 w28 w29 w30 w31 w32 w33 w34 w35 w36 w37 w38 w39 w40 w41 w42 w43 w44 w45 w46 w47 w48 w49 w50 w51 w52 w53 w54 w55 w56 w57 w58 w59 (fun _ => 0) H.size) (cwV 1 hts gX12_terms_X12_tell rfl rfl rfl (by decide +kernel) ⟨Nat.le_of_ble_eq_true rfl, Nat.le_of_ble_eq_true rfl⟩) (mkV hK hN (hP.sub [0, 2] rfl) (hD.sub [0, 2] (by decide) rfl) (ci := 12) (q0 := 0) rfl rfl) rfl rfl hl.1 rfl (lv_room (Nat.le_of_ble_eq_true rfl)) dX12_terms_15 ⟨Nat.le_of_ble_eq_true rfl, Nat.le_of_ble_eq_true rfl⟩) hP hD hS hA [0, 2] [1] rfl rfl (by decide) (by decide) (fun r_32 u_33 H locs hw hP hD hS => ?_)
      have hP : va_P D vwCl [(a1, .inl (K 0, 5500, .inl row0))] H := hP
      have hD : va_D A [(a1, .inl (K 0, 5500, .inl row0))] := hD
      obtain rfl : r_32 = (-1) := hw
      exact W.iret (v := (-1)) hx hb hr (fun t ht hW => ⟨⟨(-1), (), rfl, (by first | exact Or.inr (Or.inr (Or.inr (⟨rfl, by first | omega | decide | (subst_vars; assumption) | (subst_vars; symm; assumption)⟩)))), Wd.nil⟩, hS.F ht⟩) hS.2.2 dX12_terms_18
  · have hlk : (3 : Int32).toInt = 3 := rfl
    refine lv_aload_n hx hb dX12_terms_0 rfl (lv_at hl 0 rfl) ?_
    refine lv_iconst (v := 0) hx hb dX12_terms_1 (by decide) ?_
    refine va_put (ci := 12) (v := .int 0) (ty := .int) (C := RX12) (T := TX12) (N := 60) hx hb hts hw12 tyX12 tyX12_ok nmX12 hown hK hP hD hS 0 rfl rfl 0 (by decide) (hts (.fieldLink RX12 158 "SmokeTuneModel" "thrown" "I") (List.mem_cons_of_mem _ (List.mem_append_left _ (List.mem_append_left _ (List.mem_of_getElem? (i := 0) rfl))))) (fun _ h9 => h9) rfl (by decide +kernel) (by first | rfl | decide) (by first | rfl | decide) (Nat.le_of_ble_eq_true rfl) dX12_terms_2 (fun H locs hP hD hS => ?_)
    have hP : va_P D vwCl [(a0, .inr (12, [.int 0, w1, .ref a2, .ref a1, w4, w5, w6, w7, w8, w9, w10, w11, w12, w13, w14, w15, w16, w17, w18, w19, w20, w21, w22, w23, w24, w25, w26, w27, w28, w29, w30, w31, w32, w33, w34, w35, w36, w37, w38, w39, w40, w41, w42, w43, w44, w45, w46, w47, w48, w49, w50, w51, w52, w53, w54, w55, w56, w57, w58, w59])), (a1, .inl (K 0, 5500, .inl row0)), (a2, .inl (K 0, 7, .inl (fun _ => 0)))] H := hP
    have hD : va_D A [(a0, .inr (12, [.int 0, w1, .ref a2, .ref a1, w4, w5, w6, w7, w8, w9, w10, w11, w12, w13, w14, w15, w16, w17, w18, w19, w20, w21, w22, w23, w24, w25, w26, w27, w28, w29, w30, w31, w32, w33, w34, w35, w36, w37, w38, w39, w40, w41, w42, w43, w44, w45, w46, w47, w48, w49, w50, w51, w52, w53, w54, w55, w56, w57, w58, w59])), (a1, .inl (K 0, 5500, .inl row0)), (a2, .inl (K 0, 7, .inl (fun _ => 0)))] := hD
    refine lv_iload_n hx hb dX12_terms_5 rfl (lv_at hl 1 rfl) ?_
    refine lv_iload_n hx hb dX12_terms_6 rfl (lv_at hl 2 rfl) ?_
    refine pci (va_runS (As := [.int 3, .int y]) (rest := []) ⟨hx, hb, hml, hown, hts⟩ (m_canBe_3 l D K y y.toInt H.size rfl) (va_cwS 2 hts gX12_terms_X12_canBe rfl rfl rfl (by decide +kernel) ⟨Nat.le_of_ble_eq_true rfl, Nat.le_of_ble_eq_true rfl⟩) (mkS hK hN (hP.sub [] rfl) (hD.sub [] (by decide) rfl)) rfl rfl hl.1 rfl (lv_room (Nat.le_of_ble_eq_true rfl)) dX12_terms_7 ⟨Nat.le_of_ble_eq_true rfl, Nat.le_of_ble_eq_true rfl⟩) (fun r_34 hw => ?_)
    rcases hw with ⟨rfl, h_35, h_36⟩ | ⟨rfl, h_37⟩
    · refine lv_if_ne (tgt := 19) hx hb dX12_terms_10 (by decide) (fun c_38 => ?_) (fun c_38 => absurd c_38 (by decide))
      refine lv_aload_n hx hb dX12_terms_19 rfl (lv_at hl 0 rfl) ?_
      refine lv_iconst (v := 0) hx hb dX12_terms_20 (by decide) ?_
      refine va_put (ci := 12) (v := .int 0) (ty := .int) (C := RX12) (T := TX12) (N := 60) hx hb hts hw12 tyX12 tyX12_ok nmX12 hown hK hP hD hS 0 rfl rfl 8 (by decide) (hts (.fieldLink RX12 164 "SmokeTuneModel" "nUndo" "I") (List.mem_cons_of_mem _ (List.mem_append_left _ (List.mem_append_left _ (List.mem_of_getElem? (i := 1) rfl))))) (fun _ h9 => h9) rfl (by decide +kernel) (by first | rfl | decide) (by first | rfl | decide) (Nat.le_of_ble_eq_true rfl) dX12_terms_21 (fun H locs hP hD hS => ?_)
      have hP : va_P D vwCl [(a0, .inr (12, [.int 0, w1, .ref a2, .ref a1, w4, w5, w6, w7, .int 0, w9, w10, w11, w12, w13, w14, w15, w16, w17, w18, w19, w20, w21, w22, w23, w24, w25, w26, w27, w28, w29, w30, w31, w32, w33, w34, w35, w36, w37, w38, w39, w40, w41, w42, w43, w44, w45, w46, w47, w48, w49, w50, w51, w52, w53, w54, w55, w56, w57, w58, w59])), (a1, .inl (K 0, 5500, .inl row0)), (a2, .inl (K 0, 7, .inl (fun _ => 0)))] H := hP
      have hD : va_D A [(a0, .inr (12, [.int 0, w1, .ref a2, .ref a1, w4, w5, w6, w7, .int 0, w9, w10, w11, w12, w13, w14, w15, w16, w17, w18, w19, w20, w21, w22, w23, w24, w25, w26, w27, w28, w29, w30, w31, w32, w33, w34, w35, w36, w37, w38, w39, w40, w41, w42, w43, w44, w45, w46, w47, w48, w49, w50, w51, w52, w53, w54, w55, w56, w57, w58, w59])), (a1, .inl (K 0, 5500, .inl row0)), (a2, .inl (K 0, 7, .inl (fun _ => 0)))] := hD
      refine lv_aload_n hx hb dX12_terms_24 rfl (lv_at hl 0 rfl) ?_
      refine lv_iconst (v := 4) hx hb dX12_terms_25 (by decide) ?_
      refine lv_iload_n hx hb dX12_terms_26 rfl (lv_at hl 1 rfl) ?_
      refine lv_iadd hx hb dX12_terms_27 ?_
      refine lv_topi (fun x_39 ex_39 => ?_)
      obtain rfl : x_39 = 7 := ex_39.trans (by first | rfl | decide)
      refine lv_iload_n hx hb dX12_terms_28 rfl (lv_at hl 2 rfl) ?_
      refine kci (wr := [(a2, .inl (K 0, 7, .inl (fun _ => 0)))]) (va_runV (As := [.int 7, .int y]) (rest := []) ⟨hx, hb, hml, hown, hts⟩ (m_change_7 l D K a0 y (.int 0) w1 (.ref a2) a1 w4 w5 w6 w7 (.int 0) w9 w10 w11 w12 w13 w14 w15 w16 w17 w18 w19 w20 w21 w22 w23 w24 w25 w26 w27 w28 w29 w30 w31 w32 w33 w34 w35 w36 w37 w38 w39 w40 w41 w42 w43 w44 w45 w46 w47 w48 w49 w50 w51 w52 w53 w54 w55 w56 w57 w58 w59 H.size) (cwV 2 hts gX12_terms_X12_change rfl rfl rfl (by decide +kernel) ⟨Nat.le_of_ble_eq_true rfl, Nat.le_of_ble_eq_true rfl⟩) (mkV hK hN (hP.sub [0, 1] rfl) (hD.sub [0, 1] (by decide) rfl) (ci := 12) (q0 := 0) rfl rfl) rfl rfl hl.1 rfl (lv_room (Nat.le_of_ble_eq_true rfl)) dX12_terms_29 ⟨Nat.le_of_ble_eq_true rfl, Nat.le_of_ble_eq_true rfl⟩) hP hD hS hA [0, 1] [2] rfl rfl (by decide) (by decide) (fun r_40 u_41 H locs hw hP hD hS => ?_)
      have hP : va_P D vwCl [(a2, .inl (K 0, 7, .inl (fun _ => 0)))] H := hP
      have hD : va_D A [(a2, .inl (K 0, 7, .inl (fun _ => 0)))] := hD
      obtain rfl : r_40 = 12 := hw
      exact W.iret (v := 12) hx hb hr (fun t ht hW => ⟨⟨12, (), rfl, (by first | exact Or.inr (Or.inr (Or.inl (⟨rfl, by first | omega | decide | (subst_vars; assumption) | (subst_vars; symm; assumption)⟩)))), Wd.nil⟩, hS.F ht⟩) hS.2.2 dX12_terms_32
    · refine lv_if_ne (tgt := 19) hx hb dX12_terms_10 (by decide) (fun c_42 => absurd (by decide) c_42) (fun c_42 => ?_)
      refine lv_aload_n hx hb dX12_terms_13 rfl (lv_at hl 0 rfl) ?_
      refine lv_iconst (v := (-1)) hx hb dX12_terms_14 (by decide) ?_
      refine kci (wr := [(a1, .inl (K 0, 5500, .inl row0))]) (va_runV (As := [.int (-1)]) (rest := []) ⟨hx, hb, hml, hown, hts⟩ (m_tell_1 l D K a0 (.int 0) w1 a2 (.ref a1) w4 w5 w6 w7 w8 w9 w10 w11 w12 w13 w14 w15 w16 w17 w18 w19 w20 w21 w22 w23 w24 w25 w26 w27 w28 w29 w30 w31 w32 w33 w34 w35 w36 w37 w38 w39 w40 w41 w42 w43 w44 w45 w46 w47 w48 w49 w50 w51 w52 w53 w54 w55 w56 w57 w58 w59 (fun _ => 0) H.size) (cwV 1 hts gX12_terms_X12_tell rfl rfl rfl (by decide +kernel) ⟨Nat.le_of_ble_eq_true rfl, Nat.le_of_ble_eq_true rfl⟩) (mkV hK hN (hP.sub [0, 2] rfl) (hD.sub [0, 2] (by decide) rfl) (ci := 12) (q0 := 0) rfl rfl) rfl rfl hl.1 rfl (lv_room (Nat.le_of_ble_eq_true rfl)) dX12_terms_15 ⟨Nat.le_of_ble_eq_true rfl, Nat.le_of_ble_eq_true rfl⟩) hP hD hS hA [0, 2] [1] rfl rfl (by decide) (by decide) (fun r_43 u_44 H locs hw hP hD hS => ?_)
      have hP : va_P D vwCl [(a1, .inl (K 0, 5500, .inl row0))] H := hP
      have hD : va_D A [(a1, .inl (K 0, 5500, .inl row0))] := hD
      obtain rfl : r_43 = (-1) := hw
      exact W.iret (v := (-1)) hx hb hr (fun t ht hW => ⟨⟨(-1), (), rfl, (by first | exact Or.inr (Or.inr (Or.inr (⟨rfl, by first | omega | decide | (subst_vars; assumption) | (subst_vars; symm; assumption)⟩)))), Wd.nil⟩, hS.F ht⟩) hS.2.2 dX12_terms_18
  · have hlk : (4 : Int32).toInt = 4 := rfl
    refine lv_aload_n hx hb dX12_terms_0 rfl (lv_at hl 0 rfl) ?_
    refine lv_iconst (v := 0) hx hb dX12_terms_1 (by decide) ?_
    refine va_put (ci := 12) (v := .int 0) (ty := .int) (C := RX12) (T := TX12) (N := 60) hx hb hts hw12 tyX12 tyX12_ok nmX12 hown hK hP hD hS 0 rfl rfl 0 (by decide) (hts (.fieldLink RX12 158 "SmokeTuneModel" "thrown" "I") (List.mem_cons_of_mem _ (List.mem_append_left _ (List.mem_append_left _ (List.mem_of_getElem? (i := 0) rfl))))) (fun _ h9 => h9) rfl (by decide +kernel) (by first | rfl | decide) (by first | rfl | decide) (Nat.le_of_ble_eq_true rfl) dX12_terms_2 (fun H locs hP hD hS => ?_)
    have hP : va_P D vwCl [(a0, .inr (12, [.int 0, w1, .ref a2, .ref a1, w4, w5, w6, w7, w8, w9, w10, w11, w12, w13, w14, w15, w16, w17, w18, w19, w20, w21, w22, w23, w24, w25, w26, w27, w28, w29, w30, w31, w32, w33, w34, w35, w36, w37, w38, w39, w40, w41, w42, w43, w44, w45, w46, w47, w48, w49, w50, w51, w52, w53, w54, w55, w56, w57, w58, w59])), (a1, .inl (K 0, 5500, .inl row0)), (a2, .inl (K 0, 7, .inl (fun _ => 0)))] H := hP
    have hD : va_D A [(a0, .inr (12, [.int 0, w1, .ref a2, .ref a1, w4, w5, w6, w7, w8, w9, w10, w11, w12, w13, w14, w15, w16, w17, w18, w19, w20, w21, w22, w23, w24, w25, w26, w27, w28, w29, w30, w31, w32, w33, w34, w35, w36, w37, w38, w39, w40, w41, w42, w43, w44, w45, w46, w47, w48, w49, w50, w51, w52, w53, w54, w55, w56, w57, w58, w59])), (a1, .inl (K 0, 5500, .inl row0)), (a2, .inl (K 0, 7, .inl (fun _ => 0)))] := hD
    refine lv_iload_n hx hb dX12_terms_5 rfl (lv_at hl 1 rfl) ?_
    refine lv_iload_n hx hb dX12_terms_6 rfl (lv_at hl 2 rfl) ?_
    refine pci (va_runS (As := [.int 4, .int y]) (rest := []) ⟨hx, hb, hml, hown, hts⟩ (m_canBe_4 l D K y y.toInt H.size rfl) (va_cwS 2 hts gX12_terms_X12_canBe rfl rfl rfl (by decide +kernel) ⟨Nat.le_of_ble_eq_true rfl, Nat.le_of_ble_eq_true rfl⟩) (mkS hK hN (hP.sub [] rfl) (hD.sub [] (by decide) rfl)) rfl rfl hl.1 rfl (lv_room (Nat.le_of_ble_eq_true rfl)) dX12_terms_7 ⟨Nat.le_of_ble_eq_true rfl, Nat.le_of_ble_eq_true rfl⟩) (fun r_45 hw => ?_)
    rcases hw with ⟨rfl, h_46, h_47⟩ | ⟨rfl, h_48⟩
    · refine lv_if_ne (tgt := 19) hx hb dX12_terms_10 (by decide) (fun c_49 => ?_) (fun c_49 => absurd c_49 (by decide))
      refine lv_aload_n hx hb dX12_terms_19 rfl (lv_at hl 0 rfl) ?_
      refine lv_iconst (v := 0) hx hb dX12_terms_20 (by decide) ?_
      refine va_put (ci := 12) (v := .int 0) (ty := .int) (C := RX12) (T := TX12) (N := 60) hx hb hts hw12 tyX12 tyX12_ok nmX12 hown hK hP hD hS 0 rfl rfl 8 (by decide) (hts (.fieldLink RX12 164 "SmokeTuneModel" "nUndo" "I") (List.mem_cons_of_mem _ (List.mem_append_left _ (List.mem_append_left _ (List.mem_of_getElem? (i := 1) rfl))))) (fun _ h9 => h9) rfl (by decide +kernel) (by first | rfl | decide) (by first | rfl | decide) (Nat.le_of_ble_eq_true rfl) dX12_terms_21 (fun H locs hP hD hS => ?_)
      have hP : va_P D vwCl [(a0, .inr (12, [.int 0, w1, .ref a2, .ref a1, w4, w5, w6, w7, .int 0, w9, w10, w11, w12, w13, w14, w15, w16, w17, w18, w19, w20, w21, w22, w23, w24, w25, w26, w27, w28, w29, w30, w31, w32, w33, w34, w35, w36, w37, w38, w39, w40, w41, w42, w43, w44, w45, w46, w47, w48, w49, w50, w51, w52, w53, w54, w55, w56, w57, w58, w59])), (a1, .inl (K 0, 5500, .inl row0)), (a2, .inl (K 0, 7, .inl (fun _ => 0)))] H := hP
      have hD : va_D A [(a0, .inr (12, [.int 0, w1, .ref a2, .ref a1, w4, w5, w6, w7, .int 0, w9, w10, w11, w12, w13, w14, w15, w16, w17, w18, w19, w20, w21, w22, w23, w24, w25, w26, w27, w28, w29, w30, w31, w32, w33, w34, w35, w36, w37, w38, w39, w40, w41, w42, w43, w44, w45, w46, w47, w48, w49, w50, w51, w52, w53, w54, w55, w56, w57, w58, w59])), (a1, .inl (K 0, 5500, .inl row0)), (a2, .inl (K 0, 7, .inl (fun _ => 0)))] := hD
      refine lv_aload_n hx hb dX12_terms_24 rfl (lv_at hl 0 rfl) ?_
      refine lv_iconst (v := 4) hx hb dX12_terms_25 (by decide) ?_
      refine lv_iload_n hx hb dX12_terms_26 rfl (lv_at hl 1 rfl) ?_
      refine lv_iadd hx hb dX12_terms_27 ?_
      refine lv_topi (fun x_50 ex_50 => ?_)
      obtain rfl : x_50 = 8 := ex_50.trans (by first | rfl | decide)
      refine lv_iload_n hx hb dX12_terms_28 rfl (lv_at hl 2 rfl) ?_
      refine kci (wr := [(a2, .inl (K 0, 7, .inl (fun _ => 0)))]) (va_runV (As := [.int 8, .int y]) (rest := []) ⟨hx, hb, hml, hown, hts⟩ (m_change_8 l D K a0 y (.int 0) w1 (.ref a2) a1 w4 w5 w6 w7 (.int 0) w9 w10 w11 w12 w13 w14 w15 w16 w17 w18 w19 w20 w21 w22 w23 w24 w25 w26 w27 w28 w29 w30 w31 w32 w33 w34 w35 w36 w37 w38 w39 w40 w41 w42 w43 w44 w45 w46 w47 w48 w49 w50 w51 w52 w53 w54 w55 w56 w57 w58 w59 H.size) (cwV 2 hts gX12_terms_X12_change rfl rfl rfl (by decide +kernel) ⟨Nat.le_of_ble_eq_true rfl, Nat.le_of_ble_eq_true rfl⟩) (mkV hK hN (hP.sub [0, 1] rfl) (hD.sub [0, 1] (by decide) rfl) (ci := 12) (q0 := 0) rfl rfl) rfl rfl hl.1 rfl (lv_room (Nat.le_of_ble_eq_true rfl)) dX12_terms_29 ⟨Nat.le_of_ble_eq_true rfl, Nat.le_of_ble_eq_true rfl⟩) hP hD hS hA [0, 1] [2] rfl rfl (by decide) (by decide) (fun r_51 u_52 H locs hw hP hD hS => ?_)
      have hP : va_P D vwCl [(a2, .inl (K 0, 7, .inl (fun _ => 0)))] H := hP
      have hD : va_D A [(a2, .inl (K 0, 7, .inl (fun _ => 0)))] := hD
      obtain rfl : r_51 = 3 := hw
      exact W.iret (v := 3) hx hb hr (fun t ht hW => ⟨⟨3, (), rfl, (by first | exact Or.inr (Or.inl (⟨rfl, by first | omega | decide | (subst_vars; assumption) | (subst_vars; symm; assumption)⟩))), Wd.nil⟩, hS.F ht⟩) hS.2.2 dX12_terms_32
    · refine lv_if_ne (tgt := 19) hx hb dX12_terms_10 (by decide) (fun c_53 => absurd (by decide) c_53) (fun c_53 => ?_)
      refine lv_aload_n hx hb dX12_terms_13 rfl (lv_at hl 0 rfl) ?_
      refine lv_iconst (v := (-1)) hx hb dX12_terms_14 (by decide) ?_
      refine kci (wr := [(a1, .inl (K 0, 5500, .inl row0))]) (va_runV (As := [.int (-1)]) (rest := []) ⟨hx, hb, hml, hown, hts⟩ (m_tell_1 l D K a0 (.int 0) w1 a2 (.ref a1) w4 w5 w6 w7 w8 w9 w10 w11 w12 w13 w14 w15 w16 w17 w18 w19 w20 w21 w22 w23 w24 w25 w26 w27 w28 w29 w30 w31 w32 w33 w34 w35 w36 w37 w38 w39 w40 w41 w42 w43 w44 w45 w46 w47 w48 w49 w50 w51 w52 w53 w54 w55 w56 w57 w58 w59 (fun _ => 0) H.size) (cwV 1 hts gX12_terms_X12_tell rfl rfl rfl (by decide +kernel) ⟨Nat.le_of_ble_eq_true rfl, Nat.le_of_ble_eq_true rfl⟩) (mkV hK hN (hP.sub [0, 2] rfl) (hD.sub [0, 2] (by decide) rfl) (ci := 12) (q0 := 0) rfl rfl) rfl rfl hl.1 rfl (lv_room (Nat.le_of_ble_eq_true rfl)) dX12_terms_15 ⟨Nat.le_of_ble_eq_true rfl, Nat.le_of_ble_eq_true rfl⟩) hP hD hS hA [0, 2] [1] rfl rfl (by decide) (by decide) (fun r_54 u_55 H locs hw hP hD hS => ?_)
      have hP : va_P D vwCl [(a1, .inl (K 0, 5500, .inl row0))] H := hP
      have hD : va_D A [(a1, .inl (K 0, 5500, .inl row0))] := hD
      obtain rfl : r_54 = (-1) := hw
      exact W.iret (v := (-1)) hx hb hr (fun t ht hW => ⟨⟨(-1), (), rfl, (by first | exact Or.inr (Or.inr (Or.inr (⟨rfl, by first | omega | decide | (subst_vars; assumption) | (subst_vars; symm; assumption)⟩)))), Wd.nil⟩, hS.F ht⟩) hS.2.2 dX12_terms_18
  · have hlk : (5 : Int32).toInt = 5 := rfl
    refine lv_aload_n hx hb dX12_terms_0 rfl (lv_at hl 0 rfl) ?_
    refine lv_iconst (v := 0) hx hb dX12_terms_1 (by decide) ?_
    refine va_put (ci := 12) (v := .int 0) (ty := .int) (C := RX12) (T := TX12) (N := 60) hx hb hts hw12 tyX12 tyX12_ok nmX12 hown hK hP hD hS 0 rfl rfl 0 (by decide) (hts (.fieldLink RX12 158 "SmokeTuneModel" "thrown" "I") (List.mem_cons_of_mem _ (List.mem_append_left _ (List.mem_append_left _ (List.mem_of_getElem? (i := 0) rfl))))) (fun _ h9 => h9) rfl (by decide +kernel) (by first | rfl | decide) (by first | rfl | decide) (Nat.le_of_ble_eq_true rfl) dX12_terms_2 (fun H locs hP hD hS => ?_)
    have hP : va_P D vwCl [(a0, .inr (12, [.int 0, w1, .ref a2, .ref a1, w4, w5, w6, w7, w8, w9, w10, w11, w12, w13, w14, w15, w16, w17, w18, w19, w20, w21, w22, w23, w24, w25, w26, w27, w28, w29, w30, w31, w32, w33, w34, w35, w36, w37, w38, w39, w40, w41, w42, w43, w44, w45, w46, w47, w48, w49, w50, w51, w52, w53, w54, w55, w56, w57, w58, w59])), (a1, .inl (K 0, 5500, .inl row0)), (a2, .inl (K 0, 7, .inl (fun _ => 0)))] H := hP
    have hD : va_D A [(a0, .inr (12, [.int 0, w1, .ref a2, .ref a1, w4, w5, w6, w7, w8, w9, w10, w11, w12, w13, w14, w15, w16, w17, w18, w19, w20, w21, w22, w23, w24, w25, w26, w27, w28, w29, w30, w31, w32, w33, w34, w35, w36, w37, w38, w39, w40, w41, w42, w43, w44, w45, w46, w47, w48, w49, w50, w51, w52, w53, w54, w55, w56, w57, w58, w59])), (a1, .inl (K 0, 5500, .inl row0)), (a2, .inl (K 0, 7, .inl (fun _ => 0)))] := hD
    refine lv_iload_n hx hb dX12_terms_5 rfl (lv_at hl 1 rfl) ?_
    refine lv_iload_n hx hb dX12_terms_6 rfl (lv_at hl 2 rfl) ?_
    refine pci (va_runS (As := [.int 5, .int y]) (rest := []) ⟨hx, hb, hml, hown, hts⟩ (m_canBe_5 l D K y y.toInt H.size rfl) (va_cwS 2 hts gX12_terms_X12_canBe rfl rfl rfl (by decide +kernel) ⟨Nat.le_of_ble_eq_true rfl, Nat.le_of_ble_eq_true rfl⟩) (mkS hK hN (hP.sub [] rfl) (hD.sub [] (by decide) rfl)) rfl rfl hl.1 rfl (lv_room (Nat.le_of_ble_eq_true rfl)) dX12_terms_7 ⟨Nat.le_of_ble_eq_true rfl, Nat.le_of_ble_eq_true rfl⟩) (fun r_56 hw => ?_)
    rcases hw with ⟨rfl, h_57, h_58⟩ | ⟨rfl, h_59⟩
    · refine lv_if_ne (tgt := 19) hx hb dX12_terms_10 (by decide) (fun c_60 => ?_) (fun c_60 => absurd c_60 (by decide))
      refine lv_aload_n hx hb dX12_terms_19 rfl (lv_at hl 0 rfl) ?_
      refine lv_iconst (v := 0) hx hb dX12_terms_20 (by decide) ?_
      refine va_put (ci := 12) (v := .int 0) (ty := .int) (C := RX12) (T := TX12) (N := 60) hx hb hts hw12 tyX12 tyX12_ok nmX12 hown hK hP hD hS 0 rfl rfl 8 (by decide) (hts (.fieldLink RX12 164 "SmokeTuneModel" "nUndo" "I") (List.mem_cons_of_mem _ (List.mem_append_left _ (List.mem_append_left _ (List.mem_of_getElem? (i := 1) rfl))))) (fun _ h9 => h9) rfl (by decide +kernel) (by first | rfl | decide) (by first | rfl | decide) (Nat.le_of_ble_eq_true rfl) dX12_terms_21 (fun H locs hP hD hS => ?_)
      have hP : va_P D vwCl [(a0, .inr (12, [.int 0, w1, .ref a2, .ref a1, w4, w5, w6, w7, .int 0, w9, w10, w11, w12, w13, w14, w15, w16, w17, w18, w19, w20, w21, w22, w23, w24, w25, w26, w27, w28, w29, w30, w31, w32, w33, w34, w35, w36, w37, w38, w39, w40, w41, w42, w43, w44, w45, w46, w47, w48, w49, w50, w51, w52, w53, w54, w55, w56, w57, w58, w59])), (a1, .inl (K 0, 5500, .inl row0)), (a2, .inl (K 0, 7, .inl (fun _ => 0)))] H := hP
      have hD : va_D A [(a0, .inr (12, [.int 0, w1, .ref a2, .ref a1, w4, w5, w6, w7, .int 0, w9, w10, w11, w12, w13, w14, w15, w16, w17, w18, w19, w20, w21, w22, w23, w24, w25, w26, w27, w28, w29, w30, w31, w32, w33, w34, w35, w36, w37, w38, w39, w40, w41, w42, w43, w44, w45, w46, w47, w48, w49, w50, w51, w52, w53, w54, w55, w56, w57, w58, w59])), (a1, .inl (K 0, 5500, .inl row0)), (a2, .inl (K 0, 7, .inl (fun _ => 0)))] := hD
      refine lv_aload_n hx hb dX12_terms_24 rfl (lv_at hl 0 rfl) ?_
      refine lv_iconst (v := 4) hx hb dX12_terms_25 (by decide) ?_
      refine lv_iload_n hx hb dX12_terms_26 rfl (lv_at hl 1 rfl) ?_
      refine lv_iadd hx hb dX12_terms_27 ?_
      refine lv_topi (fun x_61 ex_61 => ?_)
      obtain rfl : x_61 = 9 := ex_61.trans (by first | rfl | decide)
      refine lv_iload_n hx hb dX12_terms_28 rfl (lv_at hl 2 rfl) ?_
      refine kci (wr := [(a2, .inl (K 0, 7, .inl (fun _ => 0)))]) (va_runV (As := [.int 9, .int y]) (rest := []) ⟨hx, hb, hml, hown, hts⟩ (m_change_9 l D K a0 y (.int 0) w1 (.ref a2) a1 w4 w5 w6 w7 (.int 0) w9 w10 w11 w12 w13 w14 w15 w16 w17 w18 w19 w20 w21 w22 w23 w24 w25 w26 w27 w28 w29 w30 w31 w32 w33 w34 w35 w36 w37 w38 w39 w40 w41 w42 w43 w44 w45 w46 w47 w48 w49 w50 w51 w52 w53 w54 w55 w56 w57 w58 w59 H.size) (cwV 2 hts gX12_terms_X12_change rfl rfl rfl (by decide +kernel) ⟨Nat.le_of_ble_eq_true rfl, Nat.le_of_ble_eq_true rfl⟩) (mkV hK hN (hP.sub [0, 1] rfl) (hD.sub [0, 1] (by decide) rfl) (ci := 12) (q0 := 0) rfl rfl) rfl rfl hl.1 rfl (lv_room (Nat.le_of_ble_eq_true rfl)) dX12_terms_29 ⟨Nat.le_of_ble_eq_true rfl, Nat.le_of_ble_eq_true rfl⟩) hP hD hS hA [0, 1] [2] rfl rfl (by decide) (by decide) (fun r_62 u_63 H locs hw hP hD hS => ?_)
      have hP : va_P D vwCl [(a2, .inl (K 0, 7, .inl (fun _ => 0)))] H := hP
      have hD : va_D A [(a2, .inl (K 0, 7, .inl (fun _ => 0)))] := hD
      obtain rfl : r_62 = 0 := hw
      exact W.iret (v := 0) hx hb hr (fun t ht hW => ⟨⟨0, (), rfl, (by first | exact Or.inl (⟨rfl, by first | omega | decide | (subst_vars; assumption) | (subst_vars; symm; assumption)⟩)), Wd.nil⟩, hS.F ht⟩) hS.2.2 dX12_terms_32
    · refine lv_if_ne (tgt := 19) hx hb dX12_terms_10 (by decide) (fun c_64 => absurd (by decide) c_64) (fun c_64 => ?_)
      refine lv_aload_n hx hb dX12_terms_13 rfl (lv_at hl 0 rfl) ?_
      refine lv_iconst (v := (-1)) hx hb dX12_terms_14 (by decide) ?_
      refine kci (wr := [(a1, .inl (K 0, 5500, .inl row0))]) (va_runV (As := [.int (-1)]) (rest := []) ⟨hx, hb, hml, hown, hts⟩ (m_tell_1 l D K a0 (.int 0) w1 a2 (.ref a1) w4 w5 w6 w7 w8 w9 w10 w11 w12 w13 w14 w15 w16 w17 w18 w19 w20 w21 w22 w23 w24 w25 w26 w27 w28 w29 w30 w31 w32 w33 w34 w35 w36 w37 w38 w39 w40 w41 w42 w43 w44 w45 w46 w47 w48 w49 w50 w51 w52 w53 w54 w55 w56 w57 w58 w59 (fun _ => 0) H.size) (cwV 1 hts gX12_terms_X12_tell rfl rfl rfl (by decide +kernel) ⟨Nat.le_of_ble_eq_true rfl, Nat.le_of_ble_eq_true rfl⟩) (mkV hK hN (hP.sub [0, 2] rfl) (hD.sub [0, 2] (by decide) rfl) (ci := 12) (q0 := 0) rfl rfl) rfl rfl hl.1 rfl (lv_room (Nat.le_of_ble_eq_true rfl)) dX12_terms_15 ⟨Nat.le_of_ble_eq_true rfl, Nat.le_of_ble_eq_true rfl⟩) hP hD hS hA [0, 2] [1] rfl rfl (by decide) (by decide) (fun r_65 u_66 H locs hw hP hD hS => ?_)
      have hP : va_P D vwCl [(a1, .inl (K 0, 5500, .inl row0))] H := hP
      have hD : va_D A [(a1, .inl (K 0, 5500, .inl row0))] := hD
      obtain rfl : r_65 = (-1) := hw
      exact W.iret (v := (-1)) hx hb hr (fun t ht hW => ⟨⟨(-1), (), rfl, (by first | exact Or.inr (Or.inr (Or.inr (⟨rfl, by first | omega | decide | (subst_vars; assumption) | (subst_vars; symm; assumption)⟩)))), Wd.nil⟩, hS.F ht⟩) hS.2.2 dX12_terms_18
  · refine lv_aload_n hx hb dX12_terms_0 rfl (lv_at hl 0 rfl) ?_
    refine lv_iconst (v := 0) hx hb dX12_terms_1 (by decide) ?_
    refine va_put (ci := 12) (v := .int 0) (ty := .int) (C := RX12) (T := TX12) (N := 60) hx hb hts hw12 tyX12 tyX12_ok nmX12 hown hK hP hD hS 0 rfl rfl 0 (by decide) (hts (.fieldLink RX12 158 "SmokeTuneModel" "thrown" "I") (List.mem_cons_of_mem _ (List.mem_append_left _ (List.mem_append_left _ (List.mem_of_getElem? (i := 0) rfl))))) (fun _ h9 => h9) rfl (by decide +kernel) (by first | rfl | decide) (by first | rfl | decide) (Nat.le_of_ble_eq_true rfl) dX12_terms_2 (fun H locs hP hD hS => ?_)
    have hP : va_P D vwCl [(a0, .inr (12, [.int 0, w1, .ref a2, .ref a1, w4, w5, w6, w7, w8, w9, w10, w11, w12, w13, w14, w15, w16, w17, w18, w19, w20, w21, w22, w23, w24, w25, w26, w27, w28, w29, w30, w31, w32, w33, w34, w35, w36, w37, w38, w39, w40, w41, w42, w43, w44, w45, w46, w47, w48, w49, w50, w51, w52, w53, w54, w55, w56, w57, w58, w59])), (a1, .inl (K 0, 5500, .inl row0)), (a2, .inl (K 0, 7, .inl (fun _ => 0)))] H := hP
    have hD : va_D A [(a0, .inr (12, [.int 0, w1, .ref a2, .ref a1, w4, w5, w6, w7, w8, w9, w10, w11, w12, w13, w14, w15, w16, w17, w18, w19, w20, w21, w22, w23, w24, w25, w26, w27, w28, w29, w30, w31, w32, w33, w34, w35, w36, w37, w38, w39, w40, w41, w42, w43, w44, w45, w46, w47, w48, w49, w50, w51, w52, w53, w54, w55, w56, w57, w58, w59])), (a1, .inl (K 0, 5500, .inl row0)), (a2, .inl (K 0, 7, .inl (fun _ => 0)))] := hD
    refine lv_iload_n hx hb dX12_terms_5 rfl (lv_at hl 1 rfl) ?_
    refine lv_iload_n hx hb dX12_terms_6 rfl (lv_at hl 2 rfl) ?_
    refine pci (va_runS (As := [.int x, .int y]) (rest := []) ⟨hx, hb, hml, hown, hts⟩ (m_canBe_out l D K x y x.toInt H.size rfl (by omega)) (va_cwS 2 hts gX12_terms_X12_canBe rfl rfl rfl (by decide +kernel) ⟨Nat.le_of_ble_eq_true rfl, Nat.le_of_ble_eq_true rfl⟩) (mkS hK hN (hP.sub [] rfl) (hD.sub [] (by decide) rfl)) rfl rfl hl.1 rfl (lv_room (Nat.le_of_ble_eq_true rfl)) dX12_terms_7 ⟨Nat.le_of_ble_eq_true rfl, Nat.le_of_ble_eq_true rfl⟩) (fun r_67 hw => ?_)
    obtain rfl : r_67 = 0 := hw
    refine lv_if_ne (tgt := 19) hx hb dX12_terms_10 (by decide) (fun c_68 => absurd (by decide) c_68) (fun c_68 => ?_)
    refine lv_aload_n hx hb dX12_terms_13 rfl (lv_at hl 0 rfl) ?_
    refine lv_iconst (v := (-1)) hx hb dX12_terms_14 (by decide) ?_
    refine kci (wr := [(a1, .inl (K 0, 5500, .inl row0))]) (va_runV (As := [.int (-1)]) (rest := []) ⟨hx, hb, hml, hown, hts⟩ (m_tell_1 l D K a0 (.int 0) w1 a2 (.ref a1) w4 w5 w6 w7 w8 w9 w10 w11 w12 w13 w14 w15 w16 w17 w18 w19 w20 w21 w22 w23 w24 w25 w26 w27 w28 w29 w30 w31 w32 w33 w34 w35 w36 w37 w38 w39 w40 w41 w42 w43 w44 w45 w46 w47 w48 w49 w50 w51 w52 w53 w54 w55 w56 w57 w58 w59 (fun _ => 0) H.size) (cwV 1 hts gX12_terms_X12_tell rfl rfl rfl (by decide +kernel) ⟨Nat.le_of_ble_eq_true rfl, Nat.le_of_ble_eq_true rfl⟩) (mkV hK hN (hP.sub [0, 2] rfl) (hD.sub [0, 2] (by decide) rfl) (ci := 12) (q0 := 0) rfl rfl) rfl rfl hl.1 rfl (lv_room (Nat.le_of_ble_eq_true rfl)) dX12_terms_15 ⟨Nat.le_of_ble_eq_true rfl, Nat.le_of_ble_eq_true rfl⟩) hP hD hS hA [0, 2] [1] rfl rfl (by decide) (by decide) (fun r_69 u_70 H locs hw hP hD hS => ?_)
    have hP : va_P D vwCl [(a1, .inl (K 0, 5500, .inl row0))] H := hP
    have hD : va_D A [(a1, .inl (K 0, 5500, .inl row0))] := hD
    obtain rfl : r_69 = (-1) := hw
    exact W.iret (v := (-1)) hx hb hr (fun t ht hW => ⟨⟨(-1), (), rfl, (by first | exact Or.inr (Or.inr (Or.inr (⟨rfl, by first | omega | decide | (subst_vars; assumption) | (subst_vars; symm; assumption)⟩)))), Wd.nil⟩, hS.F ht⟩) hS.2.2 dX12_terms_18
