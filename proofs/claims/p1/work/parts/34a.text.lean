theorem dX11_terms_0 : decode cX11_terms 0 = .ok (.iload_n 1, 1) := by decide +kernel
theorem dX11_terms_1 : decode cX11_terms 1 = .ok (.iconst 0, 1) := by decide +kernel
theorem dX11_terms_2 : decode cX11_terms 2 = .ok (.iconst 5, 1) := by decide +kernel
theorem dX11_terms_3 : decode cX11_terms 3 = .ok (.invokestatic 97, 3) := by decide +kernel
theorem dX11_terms_6 : decode cX11_terms 6 = .ok (.ifCond .eq 20, 3) := by decide +kernel
theorem dX11_terms_9 : decode cX11_terms 9 = .ok (.iload_n 2, 1) := by decide +kernel
theorem dX11_terms_10 : decode cX11_terms 10 = .ok (.getstatic 152, 3) := by decide +kernel
theorem dX11_terms_13 : decode cX11_terms 13 = .ok (.iload_n 1, 1) := by decide +kernel
theorem dX11_terms_14 : decode cX11_terms 14 = .ok (.iaload, 1) := by decide +kernel
theorem dX11_terms_15 : decode cX11_terms 15 = .ok (.getstatic 155, 3) := by decide +kernel
theorem dX11_terms_18 : decode cX11_terms 18 = .ok (.iload_n 1, 1) := by decide +kernel
theorem dX11_terms_19 : decode cX11_terms 19 = .ok (.iaload, 1) := by decide +kernel
theorem dX11_terms_20 : decode cX11_terms 20 = .ok (.invokestatic 97, 3) := by decide +kernel
theorem dX11_terms_23 : decode cX11_terms 23 = .ok (.ifCond .ne 9, 3) := by decide +kernel
theorem dX11_terms_32 : decode cX11_terms 32 = .ok (.aload_n 0, 1) := by decide +kernel
theorem dX11_terms_33 : decode cX11_terms 33 = .ok (.getfield 10, 3) := by decide +kernel
theorem dX11_terms_36 : decode cX11_terms 36 = .ok (.getfield 158, 3) := by decide +kernel
theorem dX11_terms_39 : decode cX11_terms 39 = .ok (.iload_n 1, 1) := by decide +kernel
theorem dX11_terms_40 : decode cX11_terms 40 = .ok (.iaload, 1) := by decide +kernel
theorem dX11_terms_41 : decode cX11_terms 41 = .ok (.istore_n 3, 1) := by decide +kernel
theorem dX11_terms_42 : decode cX11_terms 42 = .ok (.aload_n 0, 1) := by decide +kernel
theorem dX11_terms_43 : decode cX11_terms 43 = .ok (.getfield 10, 3) := by decide +kernel
theorem dX11_terms_46 : decode cX11_terms 46 = .ok (.getfield 158, 3) := by decide +kernel
theorem dX11_terms_49 : decode cX11_terms 49 = .ok (.iload_n 1, 1) := by decide +kernel
theorem dX11_terms_50 : decode cX11_terms 50 = .ok (.iload_n 2, 1) := by decide +kernel
theorem dX11_terms_51 : decode cX11_terms 51 = .ok (.iastore, 1) := by decide +kernel
theorem dX11_terms_52 : decode cX11_terms 52 = .ok (.aload_n 0, 1) := by decide +kernel
theorem dX11_terms_53 : decode cX11_terms 53 = .ok (.getfield 61, 3) := by decide +kernel
theorem dX11_terms_56 : decode cX11_terms 56 = .ok (.invokevirtual 111, 3) := by decide +kernel
theorem dX11_terms_59 : decode cX11_terms 59 = .ok (.aload_n 0, 1) := by decide +kernel
theorem dX11_terms_60 : decode cX11_terms 60 = .ok (.iload_n 3, 1) := by decide +kernel
theorem dX11_terms_61 : decode cX11_terms 61 = .ok (.invokevirtual 118, 3) := by decide +kernel
theorem dX11_terms_64 : decode cX11_terms 64 = .ok (.ireturn, 1) := by decide +kernel
theorem dX11_terms_26 : decode cX11_terms 26 = .ok (.aload_n 0, 1) := by decide +kernel
theorem dX11_terms_27 : decode cX11_terms 27 = .ok (.iconst (-1), 1) := by decide +kernel
theorem dX11_terms_28 : decode cX11_terms 28 = .ok (.invokevirtual 101, 3) := by decide +kernel
theorem dX11_terms_31 : decode cX11_terms 31 = .ok (.ireturn, 1) := by decide +kernel
theorem dJ3_checkIndex_8e157_0 : decode cJ3_checkIndex_8e157 0 = .ok (.iload_n 0, 1) := by decide +kernel
theorem dJ3_checkIndex_8e157_1 : decode cJ3_checkIndex_8e157 1 = .ok (.ifCond .lt 8, 3) := by decide +kernel
theorem dJ3_checkIndex_8e157_4 : decode cJ3_checkIndex_8e157 4 = .ok (.iload_n 0, 1) := by decide +kernel
theorem dJ3_checkIndex_8e157_5 : decode cJ3_checkIndex_8e157 5 = .ok (.iload_n 1, 1) := by decide +kernel
theorem dJ3_checkIndex_8e157_6 : decode cJ3_checkIndex_8e157 6 = .ok (.if_icmp .lt 10, 3) := by decide +kernel
theorem dJ3_checkIndex_8e157_16 : decode cJ3_checkIndex_8e157 16 = .ok (.iload_n 0, 1) := by decide +kernel
theorem dJ3_checkIndex_8e157_17 : decode cJ3_checkIndex_8e157 17 = .ok (.ireturn, 1) := by decide +kernel
theorem dJ0_checkIndex_df160_0 : decode cJ0_checkIndex_df160 0 = .ok (.iload_n 0, 1) := by decide +kernel
theorem dJ0_checkIndex_df160_1 : decode cJ0_checkIndex_df160 1 = .ok (.iload_n 1, 1) := by decide +kernel
theorem dJ0_checkIndex_df160_2 : decode cJ0_checkIndex_df160 2 = .ok (.getstatic 1053, 3) := by decide +kernel
theorem dJ0_checkIndex_df160_5 : decode cJ0_checkIndex_df160 5 = .ok (.invokestatic 1059, 3) := by decide +kernel
theorem dJ0_checkIndex_df160_8 : decode cJ0_checkIndex_df160 8 = .ok (.pop, 1) := by decide +kernel
theorem dJ0_checkIndex_df160_9 : decode cJ0_checkIndex_df160 9 = .ok (.return_, 1) := by decide +kernel
theorem dJ0_coder_7d493_0 : decode cJ0_coder_7d493 0 = .ok (.getstatic 38, 3) := by decide +kernel
theorem dJ0_coder_7d493_3 : decode cJ0_coder_7d493 3 = .ok (.ifCond .eq 10, 3) := by decide +kernel
theorem dJ0_coder_7d493_6 : decode cJ0_coder_7d493 6 = .ok (.aload_n 0, 1) := by decide +kernel
theorem dJ0_coder_7d493_7 : decode cJ0_coder_7d493 7 = .ok (.getfield 15, 3) := by decide +kernel
theorem dJ0_coder_7d493_10 : decode cJ0_coder_7d493 10 = .ok (.goto 4, 3) := by decide +kernel
theorem dJ0_coder_7d493_14 : decode cJ0_coder_7d493 14 = .ok (.ireturn, 1) := by decide +kernel
theorem dJ0_isLatin1_aae02_0 : decode cJ0_isLatin1_aae02 0 = .ok (.getstatic 38, 3) := by decide +kernel
theorem dJ0_isLatin1_aae02_3 : decode cJ0_isLatin1_aae02 3 = .ok (.ifCond .eq 14, 3) := by decide +kernel
theorem dJ0_isLatin1_aae02_6 : decode cJ0_isLatin1_aae02 6 = .ok (.aload_n 0, 1) := by decide +kernel
theorem dJ0_isLatin1_aae02_7 : decode cJ0_isLatin1_aae02 7 = .ok (.getfield 15, 3) := by decide +kernel
theorem dJ0_isLatin1_aae02_10 : decode cJ0_isLatin1_aae02 10 = .ok (.ifCond .ne 7, 3) := by decide +kernel
theorem dJ0_isLatin1_aae02_13 : decode cJ0_isLatin1_aae02 13 = .ok (.iconst 1, 1) := by decide +kernel
theorem dJ0_isLatin1_aae02_14 : decode cJ0_isLatin1_aae02 14 = .ok (.goto 4, 3) := by decide +kernel
theorem dJ0_isLatin1_aae02_18 : decode cJ0_isLatin1_aae02 18 = .ok (.ireturn, 1) := by decide +kernel
theorem dJ0_length_8abf5_0 : decode cJ0_length_8abf5 0 = .ok (.aload_n 0, 1) := by decide +kernel
theorem dJ0_length_8abf5_1 : decode cJ0_length_8abf5 1 = .ok (.getfield 9, 3) := by decide +kernel
theorem dJ0_length_8abf5_4 : decode cJ0_length_8abf5 4 = .ok (.arraylength, 1) := by decide +kernel
theorem dJ0_length_8abf5_5 : decode cJ0_length_8abf5 5 = .ok (.aload_n 0, 1) := by decide +kernel
theorem dJ0_length_8abf5_6 : decode cJ0_length_8abf5 6 = .ok (.invokevirtual 335, 3) := by decide +kernel
theorem dJ0_length_8abf5_9 : decode cJ0_length_8abf5 9 = .ok (.ishr, 1) := by decide +kernel
theorem dJ0_length_8abf5_10 : decode cJ0_length_8abf5 10 = .ok (.ireturn, 1) := by decide +kernel
theorem dJ1_charAt_3b067_0 : decode cJ1_charAt_3b067 0 = .ok (.iload_n 1, 1) := by decide +kernel
theorem dJ1_charAt_3b067_1 : decode cJ1_charAt_3b067 1 = .ok (.aload_n 0, 1) := by decide +kernel
theorem dJ1_charAt_3b067_2 : decode cJ1_charAt_3b067 2 = .ok (.arraylength, 1) := by decide +kernel
theorem dJ1_charAt_3b067_3 : decode cJ1_charAt_3b067 3 = .ok (.invokestatic 9, 3) := by decide +kernel
theorem dJ1_charAt_3b067_6 : decode cJ1_charAt_3b067 6 = .ok (.aload_n 0, 1) := by decide +kernel
theorem dJ1_charAt_3b067_7 : decode cJ1_charAt_3b067 7 = .ok (.iload_n 1, 1) := by decide +kernel
theorem dJ1_charAt_3b067_8 : decode cJ1_charAt_3b067 8 = .ok (.baload, 1) := by decide +kernel
theorem dJ1_charAt_3b067_9 : decode cJ1_charAt_3b067 9 = .ok (.sipush 255, 3) := by decide +kernel
theorem dJ1_charAt_3b067_12 : decode cJ1_charAt_3b067 12 = .ok (.iand, 1) := by decide +kernel
theorem dJ1_charAt_3b067_13 : decode cJ1_charAt_3b067 13 = .ok (.i2c, 1) := by decide +kernel
theorem dJ1_charAt_3b067_14 : decode cJ1_charAt_3b067 14 = .ok (.ireturn, 1) := by decide +kernel
theorem dJ0_charAt_5068e_0 : decode cJ0_charAt_5068e 0 = .ok (.aload_n 0, 1) := by decide +kernel
theorem dJ0_charAt_5068e_1 : decode cJ0_charAt_5068e 1 = .ok (.invokevirtual 492, 3) := by decide +kernel
theorem dJ0_charAt_5068e_4 : decode cJ0_charAt_5068e 4 = .ok (.ifCond .eq 12, 3) := by decide +kernel
theorem dJ0_charAt_5068e_7 : decode cJ0_charAt_5068e 7 = .ok (.aload_n 0, 1) := by decide +kernel
theorem dJ0_charAt_5068e_8 : decode cJ0_charAt_5068e 8 = .ok (.getfield 9, 3) := by decide +kernel
theorem dJ0_charAt_5068e_11 : decode cJ0_charAt_5068e 11 = .ok (.iload_n 1, 1) := by decide +kernel
theorem dJ0_charAt_5068e_12 : decode cJ0_charAt_5068e 12 = .ok (.invokestatic 495, 3) := by decide +kernel
theorem dJ0_charAt_5068e_15 : decode cJ0_charAt_5068e 15 = .ok (.ireturn, 1) := by decide +kernel
set_option maxRecDepth 20000 in
theorem ggX11_terms_X11_within : GoodIn wsX11_terms wsX11_within := goodIn_r _ [8] (by decide +kernel) (by decide +kernel)
set_option maxRecDepth 20000 in
theorem gX11_terms_X11_within : GoodIn wsX11_terms (va_wsS RX11 97 yX11_within wsX11_within) := goodIn_app (goodIn_of _ (by decide +kernel)) ggX11_terms_X11_within
set_option maxRecDepth 20000 in
theorem ggX11_terms_X2_clear : GoodIn wsX11_terms wsX2_clear := goodIn_r _ [18, 19, 51, 52, 53] (by decide +kernel) (by decide +kernel)
set_option maxRecDepth 20000 in
theorem gX11_terms_X2_clear_n111 : GoodIn wsX11_terms (wsX2_clear) := ggX11_terms_X2_clear
set_option maxRecDepth 20000 in
theorem ggX11_terms_X11_accept : GoodIn wsX11_terms wsX11_accept := goodIn_r _ [23, 14, 24, 25, 26, 27, 28, 29, 30, 31, 32, 33, 34, 35, 36, 37, 38, 39, 40] (by decide +kernel) (by decide +kernel)
set_option maxRecDepth 20000 in
theorem gX11_terms_X11_accept : GoodIn wsX11_terms (wsV RX11 118 RX11 yX11_accept wsX11_accept) := goodIn_app (goodIn_of _ (by decide +kernel)) ggX11_terms_X11_accept
set_option maxRecDepth 20000 in
theorem ggX11_terms_X11_refuse : GoodIn wsX11_terms wsX11_refuse := goodIn_r _ [12, 13, 14, 5, 6, 7, 8, 24, 25, 26, 27, 28, 29, 30, 31, 32, 33, 34, 35, 36, 37, 38, 39, 40] (by decide +kernel) (by decide +kernel)
set_option maxRecDepth 20000 in
theorem gX11_terms_X11_refuse : GoodIn wsX11_terms (wsV RX11 101 RX11 yX11_refuse wsX11_refuse) := goodIn_app (goodIn_of _ (by decide +kernel)) ggX11_terms_X11_refuse
set_option maxRecDepth 20000 in
theorem ggJ0_checkIndex_df160_J3_checkIndex_8e157 : GoodIn wsJ0_checkIndex_df160 wsJ3_checkIndex_8e157 := goodIn_r _ [5] (by decide +kernel) (by decide +kernel)
set_option maxRecDepth 20000 in
theorem gJ0_checkIndex_df160_J3_checkIndex_8e157 : GoodIn wsJ0_checkIndex_df160 (va_wsS RJ0 1059 yJ3_checkIndex_8e157 wsJ3_checkIndex_8e157) := goodIn_app (goodIn_of _ (by decide +kernel)) ggJ0_checkIndex_df160_J3_checkIndex_8e157
set_option maxRecDepth 20000 in
theorem ggJ0_length_8abf5_J0_coder_7d493 : GoodIn wsJ0_length_8abf5 wsJ0_coder_7d493 := goodIn_r _ [6, 7, 8] (by decide +kernel) (by decide +kernel)
set_option maxRecDepth 20000 in
theorem gJ0_length_8abf5_J0_coder_7d493 : GoodIn wsJ0_length_8abf5 (wsV RJ0 335 RJ0 yJ0_coder_7d493 wsJ0_coder_7d493) := goodIn_app (goodIn_of _ (by decide +kernel)) ggJ0_length_8abf5_J0_coder_7d493
set_option maxRecDepth 20000 in
theorem ggJ1_charAt_3b067_J0_checkIndex_df160 : GoodIn wsJ1_charAt_3b067 wsJ0_checkIndex_df160 := goodIn_r _ [4, 5, 6, 7, 8, 9] (by decide +kernel) (by decide +kernel)
set_option maxRecDepth 20000 in
theorem gJ1_charAt_3b067_J0_checkIndex_df160 : GoodIn wsJ1_charAt_3b067 (va_wsS RJ1 9 yJ0_checkIndex_df160 wsJ0_checkIndex_df160) := goodIn_app (goodIn_of _ (by decide +kernel)) ggJ1_charAt_3b067_J0_checkIndex_df160
set_option maxRecDepth 20000 in
theorem ggJ0_charAt_5068e_J0_isLatin1_aae02 : GoodIn wsJ0_charAt_5068e wsJ0_isLatin1_aae02 := goodIn_r _ [6, 7, 8] (by decide +kernel) (by decide +kernel)
set_option maxRecDepth 20000 in
theorem gJ0_charAt_5068e_J0_isLatin1_aae02 : GoodIn wsJ0_charAt_5068e (wsV RJ0 492 RJ0 yJ0_isLatin1_aae02 wsJ0_isLatin1_aae02) := goodIn_app (goodIn_of _ (by decide +kernel)) ggJ0_charAt_5068e_J0_isLatin1_aae02
set_option maxRecDepth 20000 in
theorem ggJ0_charAt_5068e_J1_charAt_3b067 : GoodIn wsJ0_charAt_5068e wsJ1_charAt_3b067 := goodIn_r _ [12, 13, 14, 5, 15, 16, 17, 18, 19, 20] (by decide +kernel) (by decide +kernel)
set_option maxRecDepth 20000 in
theorem gJ0_charAt_5068e_J1_charAt_3b067 : GoodIn wsJ0_charAt_5068e (va_wsS RJ0 495 yJ1_charAt_3b067 wsJ1_charAt_3b067) := goodIn_app (goodIn_of _ (by decide +kernel)) ggJ0_charAt_5068e_J1_charAt_3b067
set_option maxHeartbeats 4000000 in
set_option maxRecDepth 100000 in
theorem t_terms (l : Launch) (D : va_G) (K : Nat → ClassId) (a0 : Nat) (x : Int32) (y : Int32) (a2 : Nat) (g1 : Value) (g2 : Value) (g3 : Value) (g4 : Value) (g5 : Value) (g6 : Value) (g7 : Value) (g8 : Value) (a3 : Nat) (g10 : Value) (g11 : Value) (a1 : Nat) (g13 : Value) (g14 : Value) (g15 : Value) (g16 : Value) (f : Nat → Int32) (k0 : Value) (k1 : Value) (a4 : Nat) (k3 : Value) (k4 : Value) (k5 : Value) (k6 : Value) (k7 : Value) (k8 : Value) (k9 : Value) (p0 : Value) (p1 : Value) (p2 : Value) (g : Nat → Nat) (sz : Nat) : Met l yX11_terms wsX11_terms ({ frames := 2, cells := 0, slots := 0, locals := 44 }) (va_Pc [.ref a0, .int x, .int y] (PreX D K [(a0, .inr (11, [.ref a2, g1, g2, g3, g4, g5, g6, g7, g8, .ref a3, g10, g11, .ref a1, g13, g14, g15, g16])), (a1, .inl (K 0, 5, .inl f)), (a2, .inr (9, [k0, k1, .ref a4, k3, k4, k5, k6, k7, k8, k9])), (a3, .inr (2, [p0, p1, p2])), (a4, .inl (K 0, 6, .inl tm0))] sz g (va_A [(a0, .inr (11, [.ref a2, g1, g2, g3, g4, g5, g6, g7, g8, .ref a3, g10, g11, .ref a1, g13, g14, g15, g16])), (a1, .inl (K 0, 5, .inl f)), (a2, .inr (9, [k0, k1, .ref a4, k3, k4, k5, k6, k7, k8, k9])), (a3, .inr (2, [p0, p1, p2])), (a4, .inl (K 0, 6, .inl tm0))] sz))) (va_Qi (S := Unit) (fun (r : Int32) (_ : Unit) => (r = 0 ∧ ((x.toInt = 0 ∧ 0 ≤ y.toInt ∧ y.toInt ≤ 23) ∨ (x.toInt = 1 ∧ 0 ≤ y.toInt ∧ y.toInt ≤ 999) ∨ (x.toInt = 5 ∧ 0 ≤ y.toInt ∧ y.toInt ≤ 9))) ∨ (r = 3 ∧ ((x.toInt = 2 ∧ 1 ≤ y.toInt ∧ y.toInt ≤ 20) ∨ (x.toInt = 4 ∧ 0 ≤ y.toInt ∧ y.toInt ≤ 10))) ∨ (r = 12 ∧ (x.toInt = 3 ∧ 1 ≤ y.toInt ∧ y.toInt ≤ 20)) ∨ (r = (-1) ∧ ((x.toInt ≠ 0 ∨ y.toInt < 0 ∨ 23 < y.toInt) ∧ (x.toInt ≠ 1 ∨ y.toInt < 0 ∨ 999 < y.toInt) ∧ (x.toInt ≠ 2 ∨ y.toInt < 1 ∨ 20 < y.toInt) ∧ (x.toInt ≠ 3 ∨ y.toInt < 1 ∨ 20 < y.toInt) ∧ (x.toInt ≠ 4 ∨ y.toInt < 0 ∨ 10 < y.toInt) ∧ (x.toInt ≠ 5 ∨ y.toInt < 0 ∨ 9 < y.toInt)))) (fun u t => Wd D (va_A [(a0, .inr (11, [.ref a2, g1, g2, g3, g4, g5, g6, g7, g8, .ref a3, g10, g11, .ref a1, g13, g14, g15, g16])), (a1, .inl (K 0, 5, .inl f)), (a2, .inr (9, [k0, k1, .ref a4, k3, k4, k5, k6, k7, k8, k9])), (a3, .inr (2, [p0, p1, p2])), (a4, .inl (K 0, 6, .inl tm0))] sz) ((fun _ => []) u) t) (va_A [(a0, .inr (11, [.ref a2, g1, g2, g3, g4, g5, g6, g7, g8, .ref a3, g10, g11, .ref a1, g13, g14, g15, g16])), (a1, .inl (K 0, 5, .inl f)), (a2, .inr (9, [k0, k1, .ref a4, k3, k4, k5, k6, k7, k8, k9])), (a3, .inr (2, [p0, p1, p2])), (a4, .inl (K 0, 6, .inl tm0))] sz)) 0 0 (va_A [(a0, .inr (11, [.ref a2, g1, g2, g3, g4, g5, g6, g7, g8, .ref a3, g10, g11, .ref a1, g13, g14, g15, g16])), (a1, .inl (K 0, 5, .inl f)), (a2, .inr (9, [k0, k1, .ref a4, k3, k4, k5, k6, k7, k8, k9])), (a3, .inr (2, [p0, p1, p2])), (a4, .inl (K 0, 6, .inl tm0))] sz) := by
  refine Met.ofW (cc := cX11_terms) (maxL := 4) (ret := (some .int)) (by decide) rfl ?_
  intro p e s m args below meth c s₁ B hml hv
  obtain ⟨rfl, ⟨hsz, hP, hK, hD0, hN⟩, hG⟩ := hv
  have hx := B.exec
  have hb := B.bytes
  have hr := B.returns
  have hts := atoms_spec (ws := wsX11_terms) B.pre
  have hown : s.vm.findClass RX11 = some m.cls := findClass_of_methodNamed B.named
  have hlocks := B.notSynchronized
  subst hsz
  have hD := hD0.self (sz := s.heap.size)
  generalize hAe : va_A [(a0, .inr (11, [.ref a2, g1, g2, g3, g4, g5, g6, g7, g8, .ref a3, g10, g11, .ref a1, g13, g14, g15, g16])), (a1, .inl (K 0, 5, .inl f)), (a2, .inr (9, [k0, k1, .ref a4, k3, k4, k5, k6, k7, k8, k9])), (a3, .inr (2, [p0, p1, p2])), (a4, .inl (K 0, 6, .inl tm0))] s.heap.size = A at hD hG ⊢
  have hA : ∀ q : Nat, s.heap.size ≤ q → A q := fun q h => by rw [← hAe]; exact Or.inr h
  have hS : va_S A s.heap s.heap [] := va_S.rf
  have hP : va_P D vwCl [(a0, .inr (11, [.ref a2, g1, g2, g3, g4, g5, g6, g7, g8, .ref a3, g10, g11, .ref a1, g13, g14, g15, g16])), (a1, .inl (K 0, 5, .inl f)), (a2, .inr (9, [k0, k1, .ref a4, k3, k4, k5, k6, k7, k8, k9])), (a3, .inr (2, [p0, p1, p2])), (a4, .inl (K 0, 6, .inl tm0))] s.heap := hP
  have hl := lv_entry [.ref a0, .int x, .int y] (n := 4) (Nat.le_of_ble_eq_true rfl)
  rw [lg_entry_eq]
  generalize (lg_sl [.ref a0, .int x, .int y] ++ List.replicate (4 - (lg_sl [.ref a0, .int x, .int y]).length) Slot.unset).toArray = ls at hl ⊢
  have hl : lv_has ls 4 [(0, .ref a0), (1, .int x), (2, .int y)] := hl
  have hw2 : ∀ w ∈ wsX20, w ∈ wsX11_terms := fun w h => (List.mem_cons_of_mem _ (List.mem_append_right _ h))
  have hw9 : ∀ w ∈ wsX90, w ∈ wsX11_terms := fun w h => (List.mem_cons_of_mem _ (List.mem_append_left _ (List.mem_append_right _ h)))
  have hw11 : ∀ w ∈ wsX110, w ∈ wsX11_terms := fun w h => (List.mem_cons_of_mem _ (List.mem_append_left _ (List.mem_append_left _ (List.mem_append_right _ h))))
  have hsp : (x = 0 ∨ x = 1 ∨ x = 2 ∨ x = 3 ∨ x = 4 ∨ x = 5) ∨ (x.toInt < 0 ∨ 5 < x.toInt) := by
    by_cases q1 : x.toInt < 0
    · exact Or.inr (Or.inl q1)
    · by_cases q2 : 5 < x.toInt
      · exact Or.inr (Or.inr q2)
      · refine Or.inl ?_
        have q3 : x.toInt = 0 ∨ x.toInt = 1 ∨ x.toInt = 2 ∨ x.toInt = 3 ∨ x.toInt = 4 ∨ x.toInt = 5 := by omega
        rcases q3 with q3 | q3 | q3 | q3 | q3 | q3
        · exact Or.inl (i_lit q3 rfl)
        · exact Or.inr (Or.inl (i_lit q3 rfl))
        · exact Or.inr (Or.inr (Or.inl (i_lit q3 rfl)))
        · exact Or.inr (Or.inr (Or.inr (Or.inl (i_lit q3 rfl))))
        · exact Or.inr (Or.inr (Or.inr (Or.inr (Or.inl (i_lit q3 rfl)))))
        · exact Or.inr (Or.inr (Or.inr (Or.inr (Or.inr (i_lit q3 rfl)))))
  rcases hsp with (rfl | rfl | rfl | rfl | rfl | rfl) | hsp
  · have hlk : (0 : Int32).toInt = 0 := rfl
    refine lv_iload_n hx hb dX11_terms_0 rfl (lv_at hl 1 rfl) ?_
    refine lv_iconst (v := 0) hx hb dX11_terms_1 (by decide) ?_
    refine lv_iconst (v := 5) hx hb dX11_terms_2 (by decide) ?_
    refine pci (va_runS (As := [.int 0, .int 0, .int 5]) (rest := []) ⟨hx, hb, hml, hown, hts⟩ (c_within l D K 0 0 5 0 0 5 s.heap.size rfl rfl rfl) (va_cwS 3 hts gX11_terms_X11_within rfl rfl rfl (by decide +kernel) ⟨Nat.le_of_ble_eq_true rfl, Nat.le_of_ble_eq_true rfl⟩) (mkS hK hN (hP.sub [] rfl) (hD.sub [] (by decide) rfl)) rfl rfl hl.1 rfl (lv_room (Nat.le_of_ble_eq_true rfl)) dX11_terms_3 ⟨Nat.le_of_ble_eq_true rfl, Nat.le_of_ble_eq_true rfl⟩) (fun r_1 hw => ?_)
    rcases hw with ⟨rfl, h_2, h_3⟩ | ⟨rfl, h_4⟩
    · refine lv_if_eq (tgt := 26) hx hb dX11_terms_6 (by decide) (fun c_5 => absurd c_5 (by decide)) (fun c_5 => ?_)
      refine lv_iload_n hx hb dX11_terms_9 rfl (lv_at hl 2 rfl) ?_
      refine va_gets hx hb hG.1.1 hS hown (hts (.fieldLink RX11 152 "SmokeTune" "TERM_LEAST" "[I") (List.mem_cons_of_mem _ (List.mem_append_left _ (List.mem_append_left _ (List.mem_append_left _ (List.mem_of_getElem? (i := 0) rfl)))))) (fun _ h9 => h9) dX11_terms_10 ?_
      refine lv_iload_n hx hb dX11_terms_13 rfl (lv_at hl 1 rfl) ?_
      refine va_ti (v := .int 0) hx hb hG.1.2.1 hS (i_in (x := 0) rfl (by omega)) rfl dX11_terms_14 ?_
      refine va_gets hx hb hG.1.2.2.1 hS hown (hts (.fieldLink RX11 155 "SmokeTune" "TERM_MOST" "[I") (List.mem_cons_of_mem _ (List.mem_append_left _ (List.mem_append_left _ (List.mem_append_left _ (List.mem_of_getElem? (i := 1) rfl)))))) (fun _ h9 => h9) dX11_terms_15 ?_
      refine lv_iload_n hx hb dX11_terms_18 rfl (lv_at hl 1 rfl) ?_
      refine va_ti (v := .int 23) hx hb hG.1.2.2.2 hS (i_in (x := 0) rfl (by omega)) rfl dX11_terms_19 ?_
      refine pci (va_runS (As := [.int y, .int 0, .int 23]) (rest := []) ⟨hx, hb, hml, hown, hts⟩ (c_within l D K y 0 23 y.toInt 0 23 s.heap.size rfl rfl rfl) (va_cwS 3 hts gX11_terms_X11_within rfl rfl rfl (by decide +kernel) ⟨Nat.le_of_ble_eq_true rfl, Nat.le_of_ble_eq_true rfl⟩) (mkS hK hN (hP.sub [] rfl) (hD.sub [] (by decide) rfl)) rfl rfl hl.1 rfl (lv_room (Nat.le_of_ble_eq_true rfl)) dX11_terms_20 ⟨Nat.le_of_ble_eq_true rfl, Nat.le_of_ble_eq_true rfl⟩) (fun r_6 hw => ?_)
      rcases hw with ⟨rfl, h_7, h_8⟩ | ⟨rfl, h_9⟩
      · refine lv_if_ne (tgt := 32) hx hb dX11_terms_23 (by decide) (fun c_10 => ?_) (fun c_10 => absurd c_10 (by decide))
        refine lv_aload_n hx hb dX11_terms_32 rfl (lv_at hl 0 rfl) ?_
        refine va_get (ci := 11) (v := .ref a2) (C := RX11) (T := TX11) (N := 17) hx hb hts hw11 hown hK hP 0 rfl rfl 0 (by decide) (hts (.fieldLink RX11 10 "SmokeTune" "town" "LSmokeTune$Town;") (List.mem_cons_of_mem _ (List.mem_append_left _ (List.mem_append_left _ (List.mem_append_left _ (List.mem_of_getElem? (i := 2) rfl)))))) (fun _ h9 => h9) rfl dX11_terms_33 ?_
        refine va_getN (ci := 9) (v := .ref a4) (C := RX9) (T := TX9) (N := 10) hx hb hts hw9 hown hK hP 2 rfl rfl 2 (by decide) (nst_use hN 104 rfl) (fun _ h9 => h9) rfl dX11_terms_36 ?_
        refine lv_iload_n hx hb dX11_terms_39 rfl (lv_at hl 1 rfl) ?_
        refine va_iald hx hb hK hP 4 0 rfl rfl (i_in (x := 0) rfl (by omega)) dX11_terms_40 ?_
        refine lv_topi (fun x_11 ex_11 => ?_)
        obtain rfl : x_11 = 0 := ex_11.trans (by first | rfl | decide | exact rfl)
        refine lv_istore_n (lv' := [(3, .int 0), (0, .ref a0), (1, .int 0), (2, .int y)]) hx hb dX11_terms_41 rfl hl (by decide) rfl (fun ls hl => ?_)
        refine lv_aload_n hx hb dX11_terms_42 rfl (lv_at hl 1 rfl) ?_
        refine va_get (ci := 11) (v := .ref a2) (C := RX11) (T := TX11) (N := 17) hx hb hts hw11 hown hK hP 0 rfl rfl 0 (by decide) (hts (.fieldLink RX11 10 "SmokeTune" "town" "LSmokeTune$Town;") (List.mem_cons_of_mem _ (List.mem_append_left _ (List.mem_append_left _ (List.mem_append_left _ (List.mem_of_getElem? (i := 2) rfl)))))) (fun _ h9 => h9) rfl dX11_terms_43 ?_
        refine va_getN (ci := 9) (v := .ref a4) (C := RX9) (T := TX9) (N := 10) hx hb hts hw9 hown hK hP 2 rfl rfl 2 (by decide) (nst_use hN 104 rfl) (fun _ h9 => h9) rfl dX11_terms_46 ?_
        refine lv_iload_n hx hb dX11_terms_49 rfl (lv_at hl 2 rfl) ?_
        refine lv_iload_n hx hb dX11_terms_50 rfl (lv_at hl 3 rfl) ?_
        refine va_iast hx hb hK hP hD hS 4 0 rfl rfl (i_in (x := 0) rfl (by omega)) dX11_terms_51 (fun H locs hP hD hS => ?_)
        generalize hf_12 : (upd tm0 (0 : Int32).toNatClampNeg y) = f_12 at hP hD
        have hP : va_P D vwCl [(a0, .inr (11, [.ref a2, g1, g2, g3, g4, g5, g6, g7, g8, .ref a3, g10, g11, .ref a1, g13, g14, g15, g16])), (a1, .inl (K 0, 5, .inl f)), (a2, .inr (9, [k0, k1, .ref a4, k3, k4, k5, k6, k7, k8, k9])), (a3, .inr (2, [p0, p1, p2])), (a4, .inl (K 0, 6, .inl f_12))] H := hP
        have hD : va_D A [(a0, .inr (11, [.ref a2, g1, g2, g3, g4, g5, g6, g7, g8, .ref a3, g10, g11, .ref a1, g13, g14, g15, g16])), (a1, .inl (K 0, 5, .inl f)), (a2, .inr (9, [k0, k1, .ref a4, k3, k4, k5, k6, k7, k8, k9])), (a3, .inr (2, [p0, p1, p2])), (a4, .inl (K 0, 6, .inl f_12))] := hD
        refine lv_aload_n hx hb dX11_terms_52 rfl (lv_at hl 1 rfl) ?_
        refine va_get (ci := 11) (v := .ref a3) (C := RX11) (T := TX11) (N := 17) hx hb hts hw11 hown hK hP 0 rfl rfl 9 (by decide) (hts (.fieldLink RX11 61 "SmokeTune" "history" "LSmokeTune$History;") (List.mem_cons_of_mem _ (List.mem_append_left _ (List.mem_append_left _ (List.mem_append_left _ (List.mem_of_getElem? (i := 3) rfl)))))) (fun _ h9 => h9) rfl dX11_terms_53 ?_
        refine kcv (wr := [(a0, .inr (11, [.ref a2, g1, g2, g3, g4, g5, g6, g7, g8, .ref a3, g10, g11, .ref a1, g13, g14, g15, g16])), (a1, .inl (K 0, 5, .inl f)), (a2, .inr (9, [k0, k1, .ref a4, k3, k4, k5, k6, k7, k8, k9])), (a4, .inl (K 0, 6, .inl f_12))]) (va_runVN (As := []) (rest := []) ⟨hx, hb, hml, hown, hts⟩ (c_clear l D K a3 p0 p1 p2 H.size) ⟨va_cnB 0 hts gX11_terms_X2_clear_n111 rfl rfl rfl (nst_at hN 16 rfl) (hts (.initialized RX2) (List.mem_cons_of_mem _ (List.mem_append_left _ (List.mem_append_left _ (List.mem_append_left _ (List.mem_of_getElem? (i := 15) rfl)))))) (by decide +kernel) ⟨Nat.le_of_ble_eq_true rfl, Nat.le_of_ble_eq_true rfl⟩, (hts (.instanceMethod yX2_clear) (List.mem_cons_of_mem _ (List.mem_append_left _ (List.mem_append_left _ (List.mem_append_left _ (List.mem_of_getElem? (i := 14) rfl)))))), (hts (.selects RX2 yX2_clear yX2_clear) (List.mem_cons_of_mem _ (List.mem_append_left _ (List.mem_append_left _ (List.mem_append_left _ (List.mem_of_getElem? (i := 16) rfl))))))⟩ (mkV hK hN (hP.sub [3] rfl) (hD.sub [3] (by decide) rfl) (ci := 2) (q0 := 0) rfl rfl) rfl rfl hl.1 rfl (lv_room (Nat.le_of_ble_eq_true rfl)) dX11_terms_56 ⟨Nat.le_of_ble_eq_true rfl, Nat.le_of_ble_eq_true rfl⟩) hP hD hS hA [3] [0, 1, 2, 4] rfl rfl (by decide) (by decide) (fun u_14 H locs hw hP hD hS => ?_)
        have hP : va_P D vwCl [(a0, .inr (11, [.ref a2, g1, g2, g3, g4, g5, g6, g7, g8, .ref a3, g10, g11, .ref a1, g13, g14, g15, g16])), (a1, .inl (K 0, 5, .inl f)), (a2, .inr (9, [k0, k1, .ref a4, k3, k4, k5, k6, k7, k8, k9])), (a4, .inl (K 0, 6, .inl f_12))] H := hP
        have hD : va_D A [(a0, .inr (11, [.ref a2, g1, g2, g3, g4, g5, g6, g7, g8, .ref a3, g10, g11, .ref a1, g13, g14, g15, g16])), (a1, .inl (K 0, 5, .inl f)), (a2, .inr (9, [k0, k1, .ref a4, k3, k4, k5, k6, k7, k8, k9])), (a4, .inl (K 0, 6, .inl f_12))] := hD
        refine lv_aload_n hx hb dX11_terms_59 rfl (lv_at hl 1 rfl) ?_
        refine lv_iload_n hx hb dX11_terms_60 rfl (lv_at hl 0 rfl) ?_
        refine kci (wr := [(a1, .inl (K 0, 5, .inl f)), (a2, .inr (9, [k0, k1, .ref a4, k3, k4, k5, k6, k7, k8, k9])), (a4, .inl (K 0, 6, .inl f_12))]) (va_runV (As := [.int 0]) (rest := []) ⟨hx, hb, hml, hown, hts⟩ (c_accept l D K a0 0 (.ref a2) g1 g2 g3 g4 g5 g6 g7 g8 (.ref a3) g10 g11 (.ref a1) g13 g14 g15 g16 H.size) (cwV 1 hts gX11_terms_X11_accept rfl rfl rfl (by decide +kernel) ⟨Nat.le_of_ble_eq_true rfl, Nat.le_of_ble_eq_true rfl⟩) (mkV hK hN (hP.sub [0] rfl) (hD.sub [0] (by decide) rfl) (ci := 11) (q0 := 0) rfl rfl) rfl rfl hl.1 rfl (lv_room (Nat.le_of_ble_eq_true rfl)) dX11_terms_61 ⟨Nat.le_of_ble_eq_true rfl, Nat.le_of_ble_eq_true rfl⟩) hP hD hS hA [0] [1, 2, 3] rfl rfl (by decide) (by decide) (fun r_15 u_16 H locs hw hP hD hS => ?_)
        have hP : va_P D vwCl [(a1, .inl (K 0, 5, .inl f)), (a2, .inr (9, [k0, k1, .ref a4, k3, k4, k5, k6, k7, k8, k9])), (a4, .inl (K 0, 6, .inl f_12))] H := hP
        have hD : va_D A [(a1, .inl (K 0, 5, .inl f)), (a2, .inr (9, [k0, k1, .ref a4, k3, k4, k5, k6, k7, k8, k9])), (a4, .inl (K 0, 6, .inl f_12))] := hD
        obtain rfl : r_15 = 0 := hw
        exact W.iret (v := 0) hx hb hr (fun t ht hW => ⟨⟨0, (), rfl, (by first | exact Or.inl (⟨rfl, by first | omega | decide | (subst_vars; assumption) | (subst_vars; symm; assumption)⟩)), Wd.nil⟩, hS.F ht⟩) hS.2.2 dX11_terms_64
      · refine lv_if_ne (tgt := 32) hx hb dX11_terms_23 (by decide) (fun c_17 => absurd (by decide) c_17) (fun c_17 => ?_)
        refine lv_aload_n hx hb dX11_terms_26 rfl (lv_at hl 0 rfl) ?_
        refine lv_iconst (v := (-1)) hx hb dX11_terms_27 (by decide) ?_
        refine kci (wr := [(a2, .inr (9, [k0, k1, .ref a4, k3, k4, k5, k6, k7, k8, k9])), (a3, .inr (2, [p0, p1, p2])), (a4, .inl (K 0, 6, .inl tm0))]) (va_runV (As := [.int (-1)]) (rest := []) ⟨hx, hb, hml, hown, hts⟩ (c_refuse_1 l D K a0 (.ref a2) g1 g2 g3 g4 g5 g6 g7 g8 (.ref a3) g10 g11 a1 g13 g14 g15 g16 f s.heap.size) (cwV 1 hts gX11_terms_X11_refuse rfl rfl rfl (by decide +kernel) ⟨Nat.le_of_ble_eq_true rfl, Nat.le_of_ble_eq_true rfl⟩) (mkV hK hN (hP.sub [0, 1] rfl) (hD.sub [0, 1] (by decide) rfl) (ci := 11) (q0 := 0) rfl rfl) rfl rfl hl.1 rfl (lv_room (Nat.le_of_ble_eq_true rfl)) dX11_terms_28 ⟨Nat.le_of_ble_eq_true rfl, Nat.le_of_ble_eq_true rfl⟩) hP hD hS hA [0, 1] [2, 3, 4] rfl rfl (by decide) (by decide) (fun r_18 u_19 H locs hw hP hD hS => ?_)
        have hP : va_P D vwCl [(a2, .inr (9, [k0, k1, .ref a4, k3, k4, k5, k6, k7, k8, k9])), (a3, .inr (2, [p0, p1, p2])), (a4, .inl (K 0, 6, .inl tm0))] H := hP
        have hD : va_D A [(a2, .inr (9, [k0, k1, .ref a4, k3, k4, k5, k6, k7, k8, k9])), (a3, .inr (2, [p0, p1, p2])), (a4, .inl (K 0, 6, .inl tm0))] := hD
        obtain rfl : r_18 = (-1) := hw
        exact W.iret (v := (-1)) hx hb hr (fun t ht hW => ⟨⟨(-1), (), rfl, (by first | exact Or.inr (Or.inr (Or.inr (⟨rfl, by first | omega | decide | (subst_vars; assumption) | (subst_vars; symm; assumption)⟩)))), Wd.nil⟩, hS.F ht⟩) hS.2.2 dX11_terms_31
    · exfalso; omega
  · have hlk : (1 : Int32).toInt = 1 := rfl
    refine lv_iload_n hx hb dX11_terms_0 rfl (lv_at hl 1 rfl) ?_
    refine lv_iconst (v := 0) hx hb dX11_terms_1 (by decide) ?_
    refine lv_iconst (v := 5) hx hb dX11_terms_2 (by decide) ?_
    refine pci (va_runS (As := [.int 1, .int 0, .int 5]) (rest := []) ⟨hx, hb, hml, hown, hts⟩ (c_within l D K 1 0 5 1 0 5 s.heap.size rfl rfl rfl) (va_cwS 3 hts gX11_terms_X11_within rfl rfl rfl (by decide +kernel) ⟨Nat.le_of_ble_eq_true rfl, Nat.le_of_ble_eq_true rfl⟩) (mkS hK hN (hP.sub [] rfl) (hD.sub [] (by decide) rfl)) rfl rfl hl.1 rfl (lv_room (Nat.le_of_ble_eq_true rfl)) dX11_terms_3 ⟨Nat.le_of_ble_eq_true rfl, Nat.le_of_ble_eq_true rfl⟩) (fun r_20 hw => ?_)
    rcases hw with ⟨rfl, h_21, h_22⟩ | ⟨rfl, h_23⟩
    · refine lv_if_eq (tgt := 26) hx hb dX11_terms_6 (by decide) (fun c_24 => absurd c_24 (by decide)) (fun c_24 => ?_)
      refine lv_iload_n hx hb dX11_terms_9 rfl (lv_at hl 2 rfl) ?_
      refine va_gets hx hb hG.1.1 hS hown (hts (.fieldLink RX11 152 "SmokeTune" "TERM_LEAST" "[I") (List.mem_cons_of_mem _ (List.mem_append_left _ (List.mem_append_left _ (List.mem_append_left _ (List.mem_of_getElem? (i := 0) rfl)))))) (fun _ h9 => h9) dX11_terms_10 ?_
      refine lv_iload_n hx hb dX11_terms_13 rfl (lv_at hl 1 rfl) ?_
      refine va_ti (v := .int 0) hx hb hG.1.2.1 hS (i_in (x := 1) rfl (by omega)) rfl dX11_terms_14 ?_
      refine va_gets hx hb hG.1.2.2.1 hS hown (hts (.fieldLink RX11 155 "SmokeTune" "TERM_MOST" "[I") (List.mem_cons_of_mem _ (List.mem_append_left _ (List.mem_append_left _ (List.mem_append_left _ (List.mem_of_getElem? (i := 1) rfl)))))) (fun _ h9 => h9) dX11_terms_15 ?_
      refine lv_iload_n hx hb dX11_terms_18 rfl (lv_at hl 1 rfl) ?_
      refine va_ti (v := .int 999) hx hb hG.1.2.2.2 hS (i_in (x := 1) rfl (by omega)) rfl dX11_terms_19 ?_
      refine pci (va_runS (As := [.int y, .int 0, .int 999]) (rest := []) ⟨hx, hb, hml, hown, hts⟩ (c_within l D K y 0 999 y.toInt 0 999 s.heap.size rfl rfl rfl) (va_cwS 3 hts gX11_terms_X11_within rfl rfl rfl (by decide +kernel) ⟨Nat.le_of_ble_eq_true rfl, Nat.le_of_ble_eq_true rfl⟩) (mkS hK hN (hP.sub [] rfl) (hD.sub [] (by decide) rfl)) rfl rfl hl.1 rfl (lv_room (Nat.le_of_ble_eq_true rfl)) dX11_terms_20 ⟨Nat.le_of_ble_eq_true rfl, Nat.le_of_ble_eq_true rfl⟩) (fun r_25 hw => ?_)
      rcases hw with ⟨rfl, h_26, h_27⟩ | ⟨rfl, h_28⟩
      · refine lv_if_ne (tgt := 32) hx hb dX11_terms_23 (by decide) (fun c_29 => ?_) (fun c_29 => absurd c_29 (by decide))
        refine lv_aload_n hx hb dX11_terms_32 rfl (lv_at hl 0 rfl) ?_
        refine va_get (ci := 11) (v := .ref a2) (C := RX11) (T := TX11) (N := 17) hx hb hts hw11 hown hK hP 0 rfl rfl 0 (by decide) (hts (.fieldLink RX11 10 "SmokeTune" "town" "LSmokeTune$Town;") (List.mem_cons_of_mem _ (List.mem_append_left _ (List.mem_append_left _ (List.mem_append_left _ (List.mem_of_getElem? (i := 2) rfl)))))) (fun _ h9 => h9) rfl dX11_terms_33 ?_
        refine va_getN (ci := 9) (v := .ref a4) (C := RX9) (T := TX9) (N := 10) hx hb hts hw9 hown hK hP 2 rfl rfl 2 (by decide) (nst_use hN 104 rfl) (fun _ h9 => h9) rfl dX11_terms_36 ?_
        refine lv_iload_n hx hb dX11_terms_39 rfl (lv_at hl 1 rfl) ?_
        refine va_iald hx hb hK hP 4 0 rfl rfl (i_in (x := 1) rfl (by omega)) dX11_terms_40 ?_
        refine lv_topi (fun x_30 ex_30 => ?_)
        obtain rfl : x_30 = 0 := ex_30.trans (by first | rfl | decide | exact rfl)
        refine lv_istore_n (lv' := [(3, .int 0), (0, .ref a0), (1, .int 1), (2, .int y)]) hx hb dX11_terms_41 rfl hl (by decide) rfl (fun ls hl => ?_)
        refine lv_aload_n hx hb dX11_terms_42 rfl (lv_at hl 1 rfl) ?_
        refine va_get (ci := 11) (v := .ref a2) (C := RX11) (T := TX11) (N := 17) hx hb hts hw11 hown hK hP 0 rfl rfl 0 (by decide) (hts (.fieldLink RX11 10 "SmokeTune" "town" "LSmokeTune$Town;") (List.mem_cons_of_mem _ (List.mem_append_left _ (List.mem_append_left _ (List.mem_append_left _ (List.mem_of_getElem? (i := 2) rfl)))))) (fun _ h9 => h9) rfl dX11_terms_43 ?_
        refine va_getN (ci := 9) (v := .ref a4) (C := RX9) (T := TX9) (N := 10) hx hb hts hw9 hown hK hP 2 rfl rfl 2 (by decide) (nst_use hN 104 rfl) (fun _ h9 => h9) rfl dX11_terms_46 ?_
        refine lv_iload_n hx hb dX11_terms_49 rfl (lv_at hl 2 rfl) ?_
        refine lv_iload_n hx hb dX11_terms_50 rfl (lv_at hl 3 rfl) ?_
        refine va_iast hx hb hK hP hD hS 4 0 rfl rfl (i_in (x := 1) rfl (by omega)) dX11_terms_51 (fun H locs hP hD hS => ?_)
        generalize hf_31 : (upd tm0 (1 : Int32).toNatClampNeg y) = f_31 at hP hD
        have hP : va_P D vwCl [(a0, .inr (11, [.ref a2, g1, g2, g3, g4, g5, g6, g7, g8, .ref a3, g10, g11, .ref a1, g13, g14, g15, g16])), (a1, .inl (K 0, 5, .inl f)), (a2, .inr (9, [k0, k1, .ref a4, k3, k4, k5, k6, k7, k8, k9])), (a3, .inr (2, [p0, p1, p2])), (a4, .inl (K 0, 6, .inl f_31))] H := hP
        have hD : va_D A [(a0, .inr (11, [.ref a2, g1, g2, g3, g4, g5, g6, g7, g8, .ref a3, g10, g11, .ref a1, g13, g14, g15, g16])), (a1, .inl (K 0, 5, .inl f)), (a2, .inr (9, [k0, k1, .ref a4, k3, k4, k5, k6, k7, k8, k9])), (a3, .inr (2, [p0, p1, p2])), (a4, .inl (K 0, 6, .inl f_31))] := hD
        refine lv_aload_n hx hb dX11_terms_52 rfl (lv_at hl 1 rfl) ?_
        refine va_get (ci := 11) (v := .ref a3) (C := RX11) (T := TX11) (N := 17) hx hb hts hw11 hown hK hP 0 rfl rfl 9 (by decide) (hts (.fieldLink RX11 61 "SmokeTune" "history" "LSmokeTune$History;") (List.mem_cons_of_mem _ (List.mem_append_left _ (List.mem_append_left _ (List.mem_append_left _ (List.mem_of_getElem? (i := 3) rfl)))))) (fun _ h9 => h9) rfl dX11_terms_53 ?_
        refine kcv (wr := [(a0, .inr (11, [.ref a2, g1, g2, g3, g4, g5, g6, g7, g8, .ref a3, g10, g11, .ref a1, g13, g14, g15, g16])), (a1, .inl (K 0, 5, .inl f)), (a2, .inr (9, [k0, k1, .ref a4, k3, k4, k5, k6, k7, k8, k9])), (a4, .inl (K 0, 6, .inl f_31))]) (va_runVN (As := []) (rest := []) ⟨hx, hb, hml, hown, hts⟩ (c_clear l D K a3 p0 p1 p2 H.size) ⟨va_cnB 0 hts gX11_terms_X2_clear_n111 rfl rfl rfl (nst_at hN 16 rfl) (hts (.initialized RX2) (List.mem_cons_of_mem _ (List.mem_append_left _ (List.mem_append_left _ (List.mem_append_left _ (List.mem_of_getElem? (i := 15) rfl)))))) (by decide +kernel) ⟨Nat.le_of_ble_eq_true rfl, Nat.le_of_ble_eq_true rfl⟩, (hts (.instanceMethod yX2_clear) (List.mem_cons_of_mem _ (List.mem_append_left _ (List.mem_append_left _ (List.mem_append_left _ (List.mem_of_getElem? (i := 14) rfl)))))), (hts (.selects RX2 yX2_clear yX2_clear) (List.mem_cons_of_mem _ (List.mem_append_left _ (List.mem_append_left _ (List.mem_append_left _ (List.mem_of_getElem? (i := 16) rfl))))))⟩ (mkV hK hN (hP.sub [3] rfl) (hD.sub [3] (by decide) rfl) (ci := 2) (q0 := 0) rfl rfl) rfl rfl hl.1 rfl (lv_room (Nat.le_of_ble_eq_true rfl)) dX11_terms_56 ⟨Nat.le_of_ble_eq_true rfl, Nat.le_of_ble_eq_true rfl⟩) hP hD hS hA [3] [0, 1, 2, 4] rfl rfl (by decide) (by decide) (fun u_33 H locs hw hP hD hS => ?_)
        have hP : va_P D vwCl [(a0, .inr (11, [.ref a2, g1, g2, g3, g4, g5, g6, g7, g8, .ref a3, g10, g11, .ref a1, g13, g14, g15, g16])), (a1, .inl (K 0, 5, .inl f)), (a2, .inr (9, [k0, k1, .ref a4, k3, k4, k5, k6, k7, k8, k9])), (a4, .inl (K 0, 6, .inl f_31))] H := hP
        have hD : va_D A [(a0, .inr (11, [.ref a2, g1, g2, g3, g4, g5, g6, g7, g8, .ref a3, g10, g11, .ref a1, g13, g14, g15, g16])), (a1, .inl (K 0, 5, .inl f)), (a2, .inr (9, [k0, k1, .ref a4, k3, k4, k5, k6, k7, k8, k9])), (a4, .inl (K 0, 6, .inl f_31))] := hD
        refine lv_aload_n hx hb dX11_terms_59 rfl (lv_at hl 1 rfl) ?_
        refine lv_iload_n hx hb dX11_terms_60 rfl (lv_at hl 0 rfl) ?_
        refine kci (wr := [(a1, .inl (K 0, 5, .inl f)), (a2, .inr (9, [k0, k1, .ref a4, k3, k4, k5, k6, k7, k8, k9])), (a4, .inl (K 0, 6, .inl f_31))]) (va_runV (As := [.int 0]) (rest := []) ⟨hx, hb, hml, hown, hts⟩ (c_accept l D K a0 0 (.ref a2) g1 g2 g3 g4 g5 g6 g7 g8 (.ref a3) g10 g11 (.ref a1) g13 g14 g15 g16 H.size) (cwV 1 hts gX11_terms_X11_accept rfl rfl rfl (by decide +kernel) ⟨Nat.le_of_ble_eq_true rfl, Nat.le_of_ble_eq_true rfl⟩) (mkV hK hN (hP.sub [0] rfl) (hD.sub [0] (by decide) rfl) (ci := 11) (q0 := 0) rfl rfl) rfl rfl hl.1 rfl (lv_room (Nat.le_of_ble_eq_true rfl)) dX11_terms_61 ⟨Nat.le_of_ble_eq_true rfl, Nat.le_of_ble_eq_true rfl⟩) hP hD hS hA [0] [1, 2, 3] rfl rfl (by decide) (by decide) (fun r_34 u_35 H locs hw hP hD hS => ?_)
        have hP : va_P D vwCl [(a1, .inl (K 0, 5, .inl f)), (a2, .inr (9, [k0, k1, .ref a4, k3, k4, k5, k6, k7, k8, k9])), (a4, .inl (K 0, 6, .inl f_31))] H := hP
        have hD : va_D A [(a1, .inl (K 0, 5, .inl f)), (a2, .inr (9, [k0, k1, .ref a4, k3, k4, k5, k6, k7, k8, k9])), (a4, .inl (K 0, 6, .inl f_31))] := hD
        obtain rfl : r_34 = 0 := hw
        exact W.iret (v := 0) hx hb hr (fun t ht hW => ⟨⟨0, (), rfl, (by first | exact Or.inl (⟨rfl, by first | omega | decide | (subst_vars; assumption) | (subst_vars; symm; assumption)⟩)), Wd.nil⟩, hS.F ht⟩) hS.2.2 dX11_terms_64
      · refine lv_if_ne (tgt := 32) hx hb dX11_terms_23 (by decide) (fun c_36 => absurd (by decide) c_36) (fun c_36 => ?_)
        refine lv_aload_n hx hb dX11_terms_26 rfl (lv_at hl 0 rfl) ?_
        refine lv_iconst (v := (-1)) hx hb dX11_terms_27 (by decide) ?_
        refine kci (wr := [(a2, .inr (9, [k0, k1, .ref a4, k3, k4, k5, k6, k7, k8, k9])), (a3, .inr (2, [p0, p1, p2])), (a4, .inl (K 0, 6, .inl tm0))]) (va_runV (As := [.int (-1)]) (rest := []) ⟨hx, hb, hml, hown, hts⟩ (c_refuse_1 l D K a0 (.ref a2) g1 g2 g3 g4 g5 g6 g7 g8 (.ref a3) g10 g11 a1 g13 g14 g15 g16 f s.heap.size) (cwV 1 hts gX11_terms_X11_refuse rfl rfl rfl (by decide +kernel) ⟨Nat.le_of_ble_eq_true rfl, Nat.le_of_ble_eq_true rfl⟩) (mkV hK hN (hP.sub [0, 1] rfl) (hD.sub [0, 1] (by decide) rfl) (ci := 11) (q0 := 0) rfl rfl) rfl rfl hl.1 rfl (lv_room (Nat.le_of_ble_eq_true rfl)) dX11_terms_28 ⟨Nat.le_of_ble_eq_true rfl, Nat.le_of_ble_eq_true rfl⟩) hP hD hS hA [0, 1] [2, 3, 4] rfl rfl (by decide) (by decide) (fun r_37 u_38 H locs hw hP hD hS => ?_)
        have hP : va_P D vwCl [(a2, .inr (9, [k0, k1, .ref a4, k3, k4, k5, k6, k7, k8, k9])), (a3, .inr (2, [p0, p1, p2])), (a4, .inl (K 0, 6, .inl tm0))] H := hP
        have hD : va_D A [(a2, .inr (9, [k0, k1, .ref a4, k3, k4, k5, k6, k7, k8, k9])), (a3, .inr (2, [p0, p1, p2])), (a4, .inl (K 0, 6, .inl tm0))] := hD
        obtain rfl : r_37 = (-1) := hw
        exact W.iret (v := (-1)) hx hb hr (fun t ht hW => ⟨⟨(-1), (), rfl, (by first | exact Or.inr (Or.inr (Or.inr (⟨rfl, by first | omega | decide | (subst_vars; assumption) | (subst_vars; symm; assumption)⟩)))), Wd.nil⟩, hS.F ht⟩) hS.2.2 dX11_terms_31
    · exfalso; omega
  · have hlk : (2 : Int32).toInt = 2 := rfl
    refine lv_iload_n hx hb dX11_terms_0 rfl (lv_at hl 1 rfl) ?_
    refine lv_iconst (v := 0) hx hb dX11_terms_1 (by decide) ?_
    refine lv_iconst (v := 5) hx hb dX11_terms_2 (by decide) ?_
    refine pci (va_runS (As := [.int 2, .int 0, .int 5]) (rest := []) ⟨hx, hb, hml, hown, hts⟩ (c_within l D K 2 0 5 2 0 5 s.heap.size rfl rfl rfl) (va_cwS 3 hts gX11_terms_X11_within rfl rfl rfl (by decide +kernel) ⟨Nat.le_of_ble_eq_true rfl, Nat.le_of_ble_eq_true rfl⟩) (mkS hK hN (hP.sub [] rfl) (hD.sub [] (by decide) rfl)) rfl rfl hl.1 rfl (lv_room (Nat.le_of_ble_eq_true rfl)) dX11_terms_3 ⟨Nat.le_of_ble_eq_true rfl, Nat.le_of_ble_eq_true rfl⟩) (fun r_39 hw => ?_)
    rcases hw with ⟨rfl, h_40, h_41⟩ | ⟨rfl, h_42⟩
    · refine lv_if_eq (tgt := 26) hx hb dX11_terms_6 (by decide) (fun c_43 => absurd c_43 (by decide)) (fun c_43 => ?_)
      refine lv_iload_n hx hb dX11_terms_9 rfl (lv_at hl 2 rfl) ?_
      refine va_gets hx hb hG.1.1 hS hown (hts (.fieldLink RX11 152 "SmokeTune" "TERM_LEAST" "[I") (List.mem_cons_of_mem _ (List.mem_append_left _ (List.mem_append_left _ (List.mem_append_left _ (List.mem_of_getElem? (i := 0) rfl)))))) (fun _ h9 => h9) dX11_terms_10 ?_
      refine lv_iload_n hx hb dX11_terms_13 rfl (lv_at hl 1 rfl) ?_
      refine va_ti (v := .int 1) hx hb hG.1.2.1 hS (i_in (x := 2) rfl (by omega)) rfl dX11_terms_14 ?_
      refine va_gets hx hb hG.1.2.2.1 hS hown (hts (.fieldLink RX11 155 "SmokeTune" "TERM_MOST" "[I") (List.mem_cons_of_mem _ (List.mem_append_left _ (List.mem_append_left _ (List.mem_append_left _ (List.mem_of_getElem? (i := 1) rfl)))))) (fun _ h9 => h9) dX11_terms_15 ?_
      refine lv_iload_n hx hb dX11_terms_18 rfl (lv_at hl 1 rfl) ?_
      refine va_ti (v := .int 20) hx hb hG.1.2.2.2 hS (i_in (x := 2) rfl (by omega)) rfl dX11_terms_19 ?_
      refine pci (va_runS (As := [.int y, .int 1, .int 20]) (rest := []) ⟨hx, hb, hml, hown, hts⟩ (c_within l D K y 1 20 y.toInt 1 20 s.heap.size rfl rfl rfl) (va_cwS 3 hts gX11_terms_X11_within rfl rfl rfl (by decide +kernel) ⟨Nat.le_of_ble_eq_true rfl, Nat.le_of_ble_eq_true rfl⟩) (mkS hK hN (hP.sub [] rfl) (hD.sub [] (by decide) rfl)) rfl rfl hl.1 rfl (lv_room (Nat.le_of_ble_eq_true rfl)) dX11_terms_20 ⟨Nat.le_of_ble_eq_true rfl, Nat.le_of_ble_eq_true rfl⟩) (fun r_44 hw => ?_)
      rcases hw with ⟨rfl, h_45, h_46⟩ | ⟨rfl, h_47⟩
      · refine lv_if_ne (tgt := 32) hx hb dX11_terms_23 (by decide) (fun c_48 => ?_) (fun c_48 => absurd c_48 (by decide))
        refine lv_aload_n hx hb dX11_terms_32 rfl (lv_at hl 0 rfl) ?_
        refine va_get (ci := 11) (v := .ref a2) (C := RX11) (T := TX11) (N := 17) hx hb hts hw11 hown hK hP 0 rfl rfl 0 (by decide) (hts (.fieldLink RX11 10 "SmokeTune" "town" "LSmokeTune$Town;") (List.mem_cons_of_mem _ (List.mem_append_left _ (List.mem_append_left _ (List.mem_append_left _ (List.mem_of_getElem? (i := 2) rfl)))))) (fun _ h9 => h9) rfl dX11_terms_33 ?_
        refine va_getN (ci := 9) (v := .ref a4) (C := RX9) (T := TX9) (N := 10) hx hb hts hw9 hown hK hP 2 rfl rfl 2 (by decide) (nst_use hN 104 rfl) (fun _ h9 => h9) rfl dX11_terms_36 ?_
        refine lv_iload_n hx hb dX11_terms_39 rfl (lv_at hl 1 rfl) ?_
        refine va_iald hx hb hK hP 4 0 rfl rfl (i_in (x := 2) rfl (by omega)) dX11_terms_40 ?_
        refine lv_topi (fun x_49 ex_49 => ?_)
        obtain rfl : x_49 = 3 := ex_49.trans (by first | rfl | decide | exact rfl)
        refine lv_istore_n (lv' := [(3, .int 3), (0, .ref a0), (1, .int 2), (2, .int y)]) hx hb dX11_terms_41 rfl hl (by decide) rfl (fun ls hl => ?_)
        refine lv_aload_n hx hb dX11_terms_42 rfl (lv_at hl 1 rfl) ?_
        refine va_get (ci := 11) (v := .ref a2) (C := RX11) (T := TX11) (N := 17) hx hb hts hw11 hown hK hP 0 rfl rfl 0 (by decide) (hts (.fieldLink RX11 10 "SmokeTune" "town" "LSmokeTune$Town;") (List.mem_cons_of_mem _ (List.mem_append_left _ (List.mem_append_left _ (List.mem_append_left _ (List.mem_of_getElem? (i := 2) rfl)))))) (fun _ h9 => h9) rfl dX11_terms_43 ?_
        refine va_getN (ci := 9) (v := .ref a4) (C := RX9) (T := TX9) (N := 10) hx hb hts hw9 hown hK hP 2 rfl rfl 2 (by decide) (nst_use hN 104 rfl) (fun _ h9 => h9) rfl dX11_terms_46 ?_
        refine lv_iload_n hx hb dX11_terms_49 rfl (lv_at hl 2 rfl) ?_
        refine lv_iload_n hx hb dX11_terms_50 rfl (lv_at hl 3 rfl) ?_
        refine va_iast hx hb hK hP hD hS 4 0 rfl rfl (i_in (x := 2) rfl (by omega)) dX11_terms_51 (fun H locs hP hD hS => ?_)
        generalize hf_50 : (upd tm0 (2 : Int32).toNatClampNeg y) = f_50 at hP hD
        have hP : va_P D vwCl [(a0, .inr (11, [.ref a2, g1, g2, g3, g4, g5, g6, g7, g8, .ref a3, g10, g11, .ref a1, g13, g14, g15, g16])), (a1, .inl (K 0, 5, .inl f)), (a2, .inr (9, [k0, k1, .ref a4, k3, k4, k5, k6, k7, k8, k9])), (a3, .inr (2, [p0, p1, p2])), (a4, .inl (K 0, 6, .inl f_50))] H := hP
        have hD : va_D A [(a0, .inr (11, [.ref a2, g1, g2, g3, g4, g5, g6, g7, g8, .ref a3, g10, g11, .ref a1, g13, g14, g15, g16])), (a1, .inl (K 0, 5, .inl f)), (a2, .inr (9, [k0, k1, .ref a4, k3, k4, k5, k6, k7, k8, k9])), (a3, .inr (2, [p0, p1, p2])), (a4, .inl (K 0, 6, .inl f_50))] := hD
        refine lv_aload_n hx hb dX11_terms_52 rfl (lv_at hl 1 rfl) ?_
        refine va_get (ci := 11) (v := .ref a3) (C := RX11) (T := TX11) (N := 17) hx hb hts hw11 hown hK hP 0 rfl rfl 9 (by decide) (hts (.fieldLink RX11 61 "SmokeTune" "history" "LSmokeTune$History;") (List.mem_cons_of_mem _ (List.mem_append_left _ (List.mem_append_left _ (List.mem_append_left _ (List.mem_of_getElem? (i := 3) rfl)))))) (fun _ h9 => h9) rfl dX11_terms_53 ?_
        refine kcv (wr := [(a0, .inr (11, [.ref a2, g1, g2, g3, g4, g5, g6, g7, g8, .ref a3, g10, g11, .ref a1, g13, g14, g15, g16])), (a1, .inl (K 0, 5, .inl f)), (a2, .inr (9, [k0, k1, .ref a4, k3, k4, k5, k6, k7, k8, k9])), (a4, .inl (K 0, 6, .inl f_50))]) (va_runVN (As := []) (rest := []) ⟨hx, hb, hml, hown, hts⟩ (c_clear l D K a3 p0 p1 p2 H.size) ⟨va_cnB 0 hts gX11_terms_X2_clear_n111 rfl rfl rfl (nst_at hN 16 rfl) (hts (.initialized RX2) (List.mem_cons_of_mem _ (List.mem_append_left _ (List.mem_append_left _ (List.mem_append_left _ (List.mem_of_getElem? (i := 15) rfl)))))) (by decide +kernel) ⟨Nat.le_of_ble_eq_true rfl, Nat.le_of_ble_eq_true rfl⟩, (hts (.instanceMethod yX2_clear) (List.mem_cons_of_mem _ (List.mem_append_left _ (List.mem_append_left _ (List.mem_append_left _ (List.mem_of_getElem? (i := 14) rfl)))))), (hts (.selects RX2 yX2_clear yX2_clear) (List.mem_cons_of_mem _ (List.mem_append_left _ (List.mem_append_left _ (List.mem_append_left _ (List.mem_of_getElem? (i := 16) rfl))))))⟩ (mkV hK hN (hP.sub [3] rfl) (hD.sub [3] (by decide) rfl) (ci := 2) (q0 := 0) rfl rfl) rfl rfl hl.1 rfl (lv_room (Nat.le_of_ble_eq_true rfl)) dX11_terms_56 ⟨Nat.le_of_ble_eq_true rfl, Nat.le_of_ble_eq_true rfl⟩) hP hD hS hA [3] [0, 1, 2, 4] rfl rfl (by decide) (by decide) (fun u_52 H locs hw hP hD hS => ?_)
        have hP : va_P D vwCl [(a0, .inr (11, [.ref a2, g1, g2, g3, g4, g5, g6, g7, g8, .ref a3, g10, g11, .ref a1, g13, g14, g15, g16])), (a1, .inl (K 0, 5, .inl f)), (a2, .inr (9, [k0, k1, .ref a4, k3, k4, k5, k6, k7, k8, k9])), (a4, .inl (K 0, 6, .inl f_50))] H := hP
        have hD : va_D A [(a0, .inr (11, [.ref a2, g1, g2, g3, g4, g5, g6, g7, g8, .ref a3, g10, g11, .ref a1, g13, g14, g15, g16])), (a1, .inl (K 0, 5, .inl f)), (a2, .inr (9, [k0, k1, .ref a4, k3, k4, k5, k6, k7, k8, k9])), (a4, .inl (K 0, 6, .inl f_50))] := hD
        refine lv_aload_n hx hb dX11_terms_59 rfl (lv_at hl 1 rfl) ?_
        refine lv_iload_n hx hb dX11_terms_60 rfl (lv_at hl 0 rfl) ?_
        refine kci (wr := [(a1, .inl (K 0, 5, .inl f)), (a2, .inr (9, [k0, k1, .ref a4, k3, k4, k5, k6, k7, k8, k9])), (a4, .inl (K 0, 6, .inl f_50))]) (va_runV (As := [.int 3]) (rest := []) ⟨hx, hb, hml, hown, hts⟩ (c_accept l D K a0 3 (.ref a2) g1 g2 g3 g4 g5 g6 g7 g8 (.ref a3) g10 g11 (.ref a1) g13 g14 g15 g16 H.size) (cwV 1 hts gX11_terms_X11_accept rfl rfl rfl (by decide +kernel) ⟨Nat.le_of_ble_eq_true rfl, Nat.le_of_ble_eq_true rfl⟩) (mkV hK hN (hP.sub [0] rfl) (hD.sub [0] (by decide) rfl) (ci := 11) (q0 := 0) rfl rfl) rfl rfl hl.1 rfl (lv_room (Nat.le_of_ble_eq_true rfl)) dX11_terms_61 ⟨Nat.le_of_ble_eq_true rfl, Nat.le_of_ble_eq_true rfl⟩) hP hD hS hA [0] [1, 2, 3] rfl rfl (by decide) (by decide) (fun r_53 u_54 H locs hw hP hD hS => ?_)
        have hP : va_P D vwCl [(a1, .inl (K 0, 5, .inl f)), (a2, .inr (9, [k0, k1, .ref a4, k3, k4, k5, k6, k7, k8, k9])), (a4, .inl (K 0, 6, .inl f_50))] H := hP
        have hD : va_D A [(a1, .inl (K 0, 5, .inl f)), (a2, .inr (9, [k0, k1, .ref a4, k3, k4, k5, k6, k7, k8, k9])), (a4, .inl (K 0, 6, .inl f_50))] := hD
        obtain rfl : r_53 = 3 := hw
        exact W.iret (v := 3) hx hb hr (fun t ht hW => ⟨⟨3, (), rfl, (by first | exact Or.inr (Or.inl (⟨rfl, by first | omega | decide | (subst_vars; assumption) | (subst_vars; symm; assumption)⟩))), Wd.nil⟩, hS.F ht⟩) hS.2.2 dX11_terms_64
      · refine lv_if_ne (tgt := 32) hx hb dX11_terms_23 (by decide) (fun c_55 => absurd (by decide) c_55) (fun c_55 => ?_)
        refine lv_aload_n hx hb dX11_terms_26 rfl (lv_at hl 0 rfl) ?_
        refine lv_iconst (v := (-1)) hx hb dX11_terms_27 (by decide) ?_
        refine kci (wr := [(a2, .inr (9, [k0, k1, .ref a4, k3, k4, k5, k6, k7, k8, k9])), (a3, .inr (2, [p0, p1, p2])), (a4, .inl (K 0, 6, .inl tm0))]) (va_runV (As := [.int (-1)]) (rest := []) ⟨hx, hb, hml, hown, hts⟩ (c_refuse_1 l D K a0 (.ref a2) g1 g2 g3 g4 g5 g6 g7 g8 (.ref a3) g10 g11 a1 g13 g14 g15 g16 f s.heap.size) (cwV 1 hts gX11_terms_X11_refuse rfl rfl rfl (by decide +kernel) ⟨Nat.le_of_ble_eq_true rfl, Nat.le_of_ble_eq_true rfl⟩) (mkV hK hN (hP.sub [0, 1] rfl) (hD.sub [0, 1] (by decide) rfl) (ci := 11) (q0 := 0) rfl rfl) rfl rfl hl.1 rfl (lv_room (Nat.le_of_ble_eq_true rfl)) dX11_terms_28 ⟨Nat.le_of_ble_eq_true rfl, Nat.le_of_ble_eq_true rfl⟩) hP hD hS hA [0, 1] [2, 3, 4] rfl rfl (by decide) (by decide) (fun r_56 u_57 H locs hw hP hD hS => ?_)
        have hP : va_P D vwCl [(a2, .inr (9, [k0, k1, .ref a4, k3, k4, k5, k6, k7, k8, k9])), (a3, .inr (2, [p0, p1, p2])), (a4, .inl (K 0, 6, .inl tm0))] H := hP
        have hD : va_D A [(a2, .inr (9, [k0, k1, .ref a4, k3, k4, k5, k6, k7, k8, k9])), (a3, .inr (2, [p0, p1, p2])), (a4, .inl (K 0, 6, .inl tm0))] := hD
        obtain rfl : r_56 = (-1) := hw
        exact W.iret (v := (-1)) hx hb hr (fun t ht hW => ⟨⟨(-1), (), rfl, (by first | exact Or.inr (Or.inr (Or.inr (⟨rfl, by first | omega | decide | (subst_vars; assumption) | (subst_vars; symm; assumption)⟩)))), Wd.nil⟩, hS.F ht⟩) hS.2.2 dX11_terms_31
    · exfalso; omega
  · have hlk : (3 : Int32).toInt = 3 := rfl
    refine lv_iload_n hx hb dX11_terms_0 rfl (lv_at hl 1 rfl) ?_
    refine lv_iconst (v := 0) hx hb dX11_terms_1 (by decide) ?_
    refine lv_iconst (v := 5) hx hb dX11_terms_2 (by decide) ?_
    refine pci (va_runS (As := [.int 3, .int 0, .int 5]) (rest := []) ⟨hx, hb, hml, hown, hts⟩ (c_within l D K 3 0 5 3 0 5 s.heap.size rfl rfl rfl) (va_cwS 3 hts gX11_terms_X11_within rfl rfl rfl (by decide +kernel) ⟨Nat.le_of_ble_eq_true rfl, Nat.le_of_ble_eq_true rfl⟩) (mkS hK hN (hP.sub [] rfl) (hD.sub [] (by decide) rfl)) rfl rfl hl.1 rfl (lv_room (Nat.le_of_ble_eq_true rfl)) dX11_terms_3 ⟨Nat.le_of_ble_eq_true rfl, Nat.le_of_ble_eq_true rfl⟩) (fun r_58 hw => ?_)
    rcases hw with ⟨rfl, h_59, h_60⟩ | ⟨rfl, h_61⟩
    · refine lv_if_eq (tgt := 26) hx hb dX11_terms_6 (by decide) (fun c_62 => absurd c_62 (by decide)) (fun c_62 => ?_)
      refine lv_iload_n hx hb dX11_terms_9 rfl (lv_at hl 2 rfl) ?_
      refine va_gets hx hb hG.1.1 hS hown (hts (.fieldLink RX11 152 "SmokeTune" "TERM_LEAST" "[I") (List.mem_cons_of_mem _ (List.mem_append_left _ (List.mem_append_left _ (List.mem_append_left _ (List.mem_of_getElem? (i := 0) rfl)))))) (fun _ h9 => h9) dX11_terms_10 ?_
      refine lv_iload_n hx hb dX11_terms_13 rfl (lv_at hl 1 rfl) ?_
      refine va_ti (v := .int 1) hx hb hG.1.2.1 hS (i_in (x := 3) rfl (by omega)) rfl dX11_terms_14 ?_
      refine va_gets hx hb hG.1.2.2.1 hS hown (hts (.fieldLink RX11 155 "SmokeTune" "TERM_MOST" "[I") (List.mem_cons_of_mem _ (List.mem_append_left _ (List.mem_append_left _ (List.mem_append_left _ (List.mem_of_getElem? (i := 1) rfl)))))) (fun _ h9 => h9) dX11_terms_15 ?_
      refine lv_iload_n hx hb dX11_terms_18 rfl (lv_at hl 1 rfl) ?_
      refine va_ti (v := .int 20) hx hb hG.1.2.2.2 hS (i_in (x := 3) rfl (by omega)) rfl dX11_terms_19 ?_
      refine pci (va_runS (As := [.int y, .int 1, .int 20]) (rest := []) ⟨hx, hb, hml, hown, hts⟩ (c_within l D K y 1 20 y.toInt 1 20 s.heap.size rfl rfl rfl) (va_cwS 3 hts gX11_terms_X11_within rfl rfl rfl (by decide +kernel) ⟨Nat.le_of_ble_eq_true rfl, Nat.le_of_ble_eq_true rfl⟩) (mkS hK hN (hP.sub [] rfl) (hD.sub [] (by decide) rfl)) rfl rfl hl.1 rfl (lv_room (Nat.le_of_ble_eq_true rfl)) dX11_terms_20 ⟨Nat.le_of_ble_eq_true rfl, Nat.le_of_ble_eq_true rfl⟩) (fun r_63 hw => ?_)
      rcases hw with ⟨rfl, h_64, h_65⟩ | ⟨rfl, h_66⟩
      · refine lv_if_ne (tgt := 32) hx hb dX11_terms_23 (by decide) (fun c_67 => ?_) (fun c_67 => absurd c_67 (by decide))
        refine lv_aload_n hx hb dX11_terms_32 rfl (lv_at hl 0 rfl) ?_
        refine va_get (ci := 11) (v := .ref a2) (C := RX11) (T := TX11) (N := 17) hx hb hts hw11 hown hK hP 0 rfl rfl 0 (by decide) (hts (.fieldLink RX11 10 "SmokeTune" "town" "LSmokeTune$Town;") (List.mem_cons_of_mem _ (List.mem_append_left _ (List.mem_append_left _ (List.mem_append_left _ (List.mem_of_getElem? (i := 2) rfl)))))) (fun _ h9 => h9) rfl dX11_terms_33 ?_
        refine va_getN (ci := 9) (v := .ref a4) (C := RX9) (T := TX9) (N := 10) hx hb hts hw9 hown hK hP 2 rfl rfl 2 (by decide) (nst_use hN 104 rfl) (fun _ h9 => h9) rfl dX11_terms_36 ?_
        refine lv_iload_n hx hb dX11_terms_39 rfl (lv_at hl 1 rfl) ?_
        refine va_iald hx hb hK hP 4 0 rfl rfl (i_in (x := 3) rfl (by omega)) dX11_terms_40 ?_
        refine lv_topi (fun x_68 ex_68 => ?_)
        obtain rfl : x_68 = 12 := ex_68.trans (by first | rfl | decide | exact rfl)
        refine lv_istore_n (lv' := [(3, .int 12), (0, .ref a0), (1, .int 3), (2, .int y)]) hx hb dX11_terms_41 rfl hl (by decide) rfl (fun ls hl => ?_)
        refine lv_aload_n hx hb dX11_terms_42 rfl (lv_at hl 1 rfl) ?_
        refine va_get (ci := 11) (v := .ref a2) (C := RX11) (T := TX11) (N := 17) hx hb hts hw11 hown hK hP 0 rfl rfl 0 (by decide) (hts (.fieldLink RX11 10 "SmokeTune" "town" "LSmokeTune$Town;") (List.mem_cons_of_mem _ (List.mem_append_left _ (List.mem_append_left _ (List.mem_append_left _ (List.mem_of_getElem? (i := 2) rfl)))))) (fun _ h9 => h9) rfl dX11_terms_43 ?_
        refine va_getN (ci := 9) (v := .ref a4) (C := RX9) (T := TX9) (N := 10) hx hb hts hw9 hown hK hP 2 rfl rfl 2 (by decide) (nst_use hN 104 rfl) (fun _ h9 => h9) rfl dX11_terms_46 ?_
        refine lv_iload_n hx hb dX11_terms_49 rfl (lv_at hl 2 rfl) ?_
        refine lv_iload_n hx hb dX11_terms_50 rfl (lv_at hl 3 rfl) ?_
        refine va_iast hx hb hK hP hD hS 4 0 rfl rfl (i_in (x := 3) rfl (by omega)) dX11_terms_51 (fun H locs hP hD hS => ?_)
        generalize hf_69 : (upd tm0 (3 : Int32).toNatClampNeg y) = f_69 at hP hD
        have hP : va_P D vwCl [(a0, .inr (11, [.ref a2, g1, g2, g3, g4, g5, g6, g7, g8, .ref a3, g10, g11, .ref a1, g13, g14, g15, g16])), (a1, .inl (K 0, 5, .inl f)), (a2, .inr (9, [k0, k1, .ref a4, k3, k4, k5, k6, k7, k8, k9])), (a3, .inr (2, [p0, p1, p2])), (a4, .inl (K 0, 6, .inl f_69))] H := hP
        have hD : va_D A [(a0, .inr (11, [.ref a2, g1, g2, g3, g4, g5, g6, g7, g8, .ref a3, g10, g11, .ref a1, g13, g14, g15, g16])), (a1, .inl (K 0, 5, .inl f)), (a2, .inr (9, [k0, k1, .ref a4, k3, k4, k5, k6, k7, k8, k9])), (a3, .inr (2, [p0, p1, p2])), (a4, .inl (K 0, 6, .inl f_69))] := hD
        refine lv_aload_n hx hb dX11_terms_52 rfl (lv_at hl 1 rfl) ?_
        refine va_get (ci := 11) (v := .ref a3) (C := RX11) (T := TX11) (N := 17) hx hb hts hw11 hown hK hP 0 rfl rfl 9 (by decide) (hts (.fieldLink RX11 61 "SmokeTune" "history" "LSmokeTune$History;") (List.mem_cons_of_mem _ (List.mem_append_left _ (List.mem_append_left _ (List.mem_append_left _ (List.mem_of_getElem? (i := 3) rfl)))))) (fun _ h9 => h9) rfl dX11_terms_53 ?_
        refine kcv (wr := [(a0, .inr (11, [.ref a2, g1, g2, g3, g4, g5, g6, g7, g8, .ref a3, g10, g11, .ref a1, g13, g14, g15, g16])), (a1, .inl (K 0, 5, .inl f)), (a2, .inr (9, [k0, k1, .ref a4, k3, k4, k5, k6, k7, k8, k9])), (a4, .inl (K 0, 6, .inl f_69))]) (va_runVN (As := []) (rest := []) ⟨hx, hb, hml, hown, hts⟩ (c_clear l D K a3 p0 p1 p2 H.size) ⟨va_cnB 0 hts gX11_terms_X2_clear_n111 rfl rfl rfl (nst_at hN 16 rfl) (hts (.initialized RX2) (List.mem_cons_of_mem _ (List.mem_append_left _ (List.mem_append_left _ (List.mem_append_left _ (List.mem_of_getElem? (i := 15) rfl)))))) (by decide +kernel) ⟨Nat.le_of_ble_eq_true rfl, Nat.le_of_ble_eq_true rfl⟩, (hts (.instanceMethod yX2_clear) (List.mem_cons_of_mem _ (List.mem_append_left _ (List.mem_append_left _ (List.mem_append_left _ (List.mem_of_getElem? (i := 14) rfl)))))), (hts (.selects RX2 yX2_clear yX2_clear) (List.mem_cons_of_mem _ (List.mem_append_left _ (List.mem_append_left _ (List.mem_append_left _ (List.mem_of_getElem? (i := 16) rfl))))))⟩ (mkV hK hN (hP.sub [3] rfl) (hD.sub [3] (by decide) rfl) (ci := 2) (q0 := 0) rfl rfl) rfl rfl hl.1 rfl (lv_room (Nat.le_of_ble_eq_true rfl)) dX11_terms_56 ⟨Nat.le_of_ble_eq_true rfl, Nat.le_of_ble_eq_true rfl⟩) hP hD hS hA [3] [0, 1, 2, 4] rfl rfl (by decide) (by decide) (fun u_71 H locs hw hP hD hS => ?_)
        have hP : va_P D vwCl [(a0, .inr (11, [.ref a2, g1, g2, g3, g4, g5, g6, g7, g8, .ref a3, g10, g11, .ref a1, g13, g14, g15, g16])), (a1, .inl (K 0, 5, .inl f)), (a2, .inr (9, [k0, k1, .ref a4, k3, k4, k5, k6, k7, k8, k9])), (a4, .inl (K 0, 6, .inl f_69))] H := hP
        have hD : va_D A [(a0, .inr (11, [.ref a2, g1, g2, g3, g4, g5, g6, g7, g8, .ref a3, g10, g11, .ref a1, g13, g14, g15, g16])), (a1, .inl (K 0, 5, .inl f)), (a2, .inr (9, [k0, k1, .ref a4, k3, k4, k5, k6, k7, k8, k9])), (a4, .inl (K 0, 6, .inl f_69))] := hD
        refine lv_aload_n hx hb dX11_terms_59 rfl (lv_at hl 1 rfl) ?_
        refine lv_iload_n hx hb dX11_terms_60 rfl (lv_at hl 0 rfl) ?_
        refine kci (wr := [(a1, .inl (K 0, 5, .inl f)), (a2, .inr (9, [k0, k1, .ref a4, k3, k4, k5, k6, k7, k8, k9])), (a4, .inl (K 0, 6, .inl f_69))]) (va_runV (As := [.int 12]) (rest := []) ⟨hx, hb, hml, hown, hts⟩ (c_accept l D K a0 12 (.ref a2) g1 g2 g3 g4 g5 g6 g7 g8 (.ref a3) g10 g11 (.ref a1) g13 g14 g15 g16 H.size) (cwV 1 hts gX11_terms_X11_accept rfl rfl rfl (by decide +kernel) ⟨Nat.le_of_ble_eq_true rfl, Nat.le_of_ble_eq_true rfl⟩) (mkV hK hN (hP.sub [0] rfl) (hD.sub [0] (by decide) rfl) (ci := 11) (q0 := 0) rfl rfl) rfl rfl hl.1 rfl (lv_room (Nat.le_of_ble_eq_true rfl)) dX11_terms_61 ⟨Nat.le_of_ble_eq_true rfl, Nat.le_of_ble_eq_true rfl⟩) hP hD hS hA [0] [1, 2, 3] rfl rfl (by decide) (by decide) (fun r_72 u_73 H locs hw hP hD hS => ?_)
        have hP : va_P D vwCl [(a1, .inl (K 0, 5, .inl f)), (a2, .inr (9, [k0, k1, .ref a4, k3, k4, k5, k6, k7, k8, k9])), (a4, .inl (K 0, 6, .inl f_69))] H := hP
        have hD : va_D A [(a1, .inl (K 0, 5, .inl f)), (a2, .inr (9, [k0, k1, .ref a4, k3, k4, k5, k6, k7, k8, k9])), (a4, .inl (K 0, 6, .inl f_69))] := hD
        obtain rfl : r_72 = 12 := hw
        exact W.iret (v := 12) hx hb hr (fun t ht hW => ⟨⟨12, (), rfl, (by first | exact Or.inr (Or.inr (Or.inl (⟨rfl, by first | omega | decide | (subst_vars; assumption) | (subst_vars; symm; assumption)⟩)))), Wd.nil⟩, hS.F ht⟩) hS.2.2 dX11_terms_64
      · refine lv_if_ne (tgt := 32) hx hb dX11_terms_23 (by decide) (fun c_74 => absurd (by decide) c_74) (fun c_74 => ?_)
        refine lv_aload_n hx hb dX11_terms_26 rfl (lv_at hl 0 rfl) ?_
        refine lv_iconst (v := (-1)) hx hb dX11_terms_27 (by decide) ?_
        refine kci (wr := [(a2, .inr (9, [k0, k1, .ref a4, k3, k4, k5, k6, k7, k8, k9])), (a3, .inr (2, [p0, p1, p2])), (a4, .inl (K 0, 6, .inl tm0))]) (va_runV (As := [.int (-1)]) (rest := []) ⟨hx, hb, hml, hown, hts⟩ (c_refuse_1 l D K a0 (.ref a2) g1 g2 g3 g4 g5 g6 g7 g8 (.ref a3) g10 g11 a1 g13 g14 g15 g16 f s.heap.size) (cwV 1 hts gX11_terms_X11_refuse rfl rfl rfl (by decide +kernel) ⟨Nat.le_of_ble_eq_true rfl, Nat.le_of_ble_eq_true rfl⟩) (mkV hK hN (hP.sub [0, 1] rfl) (hD.sub [0, 1] (by decide) rfl) (ci := 11) (q0 := 0) rfl rfl) rfl rfl hl.1 rfl (lv_room (Nat.le_of_ble_eq_true rfl)) dX11_terms_28 ⟨Nat.le_of_ble_eq_true rfl, Nat.le_of_ble_eq_true rfl⟩) hP hD hS hA [0, 1] [2, 3, 4] rfl rfl (by decide) (by decide) (fun r_75 u_76 H locs hw hP hD hS => ?_)
        have hP : va_P D vwCl [(a2, .inr (9, [k0, k1, .ref a4, k3, k4, k5, k6, k7, k8, k9])), (a3, .inr (2, [p0, p1, p2])), (a4, .inl (K 0, 6, .inl tm0))] H := hP
        have hD : va_D A [(a2, .inr (9, [k0, k1, .ref a4, k3, k4, k5, k6, k7, k8, k9])), (a3, .inr (2, [p0, p1, p2])), (a4, .inl (K 0, 6, .inl tm0))] := hD
        obtain rfl : r_75 = (-1) := hw
        exact W.iret (v := (-1)) hx hb hr (fun t ht hW => ⟨⟨(-1), (), rfl, (by first | exact Or.inr (Or.inr (Or.inr (⟨rfl, by first | omega | decide | (subst_vars; assumption) | (subst_vars; symm; assumption)⟩)))), Wd.nil⟩, hS.F ht⟩) hS.2.2 dX11_terms_31
    · exfalso; omega
  · have hlk : (4 : Int32).toInt = 4 := rfl
    refine lv_iload_n hx hb dX11_terms_0 rfl (lv_at hl 1 rfl) ?_
    refine lv_iconst (v := 0) hx hb dX11_terms_1 (by decide) ?_
    refine lv_iconst (v := 5) hx hb dX11_terms_2 (by decide) ?_
    refine pci (va_runS (As := [.int 4, .int 0, .int 5]) (rest := []) ⟨hx, hb, hml, hown, hts⟩ (c_within l D K 4 0 5 4 0 5 s.heap.size rfl rfl rfl) (va_cwS 3 hts gX11_terms_X11_within rfl rfl rfl (by decide +kernel) ⟨Nat.le_of_ble_eq_true rfl, Nat.le_of_ble_eq_true rfl⟩) (mkS hK hN (hP.sub [] rfl) (hD.sub [] (by decide) rfl)) rfl rfl hl.1 rfl (lv_room (Nat.le_of_ble_eq_true rfl)) dX11_terms_3 ⟨Nat.le_of_ble_eq_true rfl, Nat.le_of_ble_eq_true rfl⟩) (fun r_77 hw => ?_)
    rcases hw with ⟨rfl, h_78, h_79⟩ | ⟨rfl, h_80⟩
    · refine lv_if_eq (tgt := 26) hx hb dX11_terms_6 (by decide) (fun c_81 => absurd c_81 (by decide)) (fun c_81 => ?_)
      refine lv_iload_n hx hb dX11_terms_9 rfl (lv_at hl 2 rfl) ?_
      refine va_gets hx hb hG.1.1 hS hown (hts (.fieldLink RX11 152 "SmokeTune" "TERM_LEAST" "[I") (List.mem_cons_of_mem _ (List.mem_append_left _ (List.mem_append_left _ (List.mem_append_left _ (List.mem_of_getElem? (i := 0) rfl)))))) (fun _ h9 => h9) dX11_terms_10 ?_
      refine lv_iload_n hx hb dX11_terms_13 rfl (lv_at hl 1 rfl) ?_
      refine va_ti (v := .int 0) hx hb hG.1.2.1 hS (i_in (x := 4) rfl (by omega)) rfl dX11_terms_14 ?_
      refine va_gets hx hb hG.1.2.2.1 hS hown (hts (.fieldLink RX11 155 "SmokeTune" "TERM_MOST" "[I") (List.mem_cons_of_mem _ (List.mem_append_left _ (List.mem_append_left _ (List.mem_append_left _ (List.mem_of_getElem? (i := 1) rfl)))))) (fun _ h9 => h9) dX11_terms_15 ?_
      refine lv_iload_n hx hb dX11_terms_18 rfl (lv_at hl 1 rfl) ?_
      refine va_ti (v := .int 10) hx hb hG.1.2.2.2 hS (i_in (x := 4) rfl (by omega)) rfl dX11_terms_19 ?_
      refine pci (va_runS (As := [.int y, .int 0, .int 10]) (rest := []) ⟨hx, hb, hml, hown, hts⟩ (c_within l D K y 0 10 y.toInt 0 10 s.heap.size rfl rfl rfl) (va_cwS 3 hts gX11_terms_X11_within rfl rfl rfl (by decide +kernel) ⟨Nat.le_of_ble_eq_true rfl, Nat.le_of_ble_eq_true rfl⟩) (mkS hK hN (hP.sub [] rfl) (hD.sub [] (by decide) rfl)) rfl rfl hl.1 rfl (lv_room (Nat.le_of_ble_eq_true rfl)) dX11_terms_20 ⟨Nat.le_of_ble_eq_true rfl, Nat.le_of_ble_eq_true rfl⟩) (fun r_82 hw => ?_)
      rcases hw with ⟨rfl, h_83, h_84⟩ | ⟨rfl, h_85⟩
      · refine lv_if_ne (tgt := 32) hx hb dX11_terms_23 (by decide) (fun c_86 => ?_) (fun c_86 => absurd c_86 (by decide))
        refine lv_aload_n hx hb dX11_terms_32 rfl (lv_at hl 0 rfl) ?_
        refine va_get (ci := 11) (v := .ref a2) (C := RX11) (T := TX11) (N := 17) hx hb hts hw11 hown hK hP 0 rfl rfl 0 (by decide) (hts (.fieldLink RX11 10 "SmokeTune" "town" "LSmokeTune$Town;") (List.mem_cons_of_mem _ (List.mem_append_left _ (List.mem_append_left _ (List.mem_append_left _ (List.mem_of_getElem? (i := 2) rfl)))))) (fun _ h9 => h9) rfl dX11_terms_33 ?_
        refine va_getN (ci := 9) (v := .ref a4) (C := RX9) (T := TX9) (N := 10) hx hb hts hw9 hown hK hP 2 rfl rfl 2 (by decide) (nst_use hN 104 rfl) (fun _ h9 => h9) rfl dX11_terms_36 ?_
        refine lv_iload_n hx hb dX11_terms_39 rfl (lv_at hl 1 rfl) ?_
        refine va_iald hx hb hK hP 4 0 rfl rfl (i_in (x := 4) rfl (by omega)) dX11_terms_40 ?_
        refine lv_topi (fun x_87 ex_87 => ?_)
        obtain rfl : x_87 = 3 := ex_87.trans (by first | rfl | decide | exact rfl)
        refine lv_istore_n (lv' := [(3, .int 3), (0, .ref a0), (1, .int 4), (2, .int y)]) hx hb dX11_terms_41 rfl hl (by decide) rfl (fun ls hl => ?_)
        refine lv_aload_n hx hb dX11_terms_42 rfl (lv_at hl 1 rfl) ?_
        refine va_get (ci := 11) (v := .ref a2) (C := RX11) (T := TX11) (N := 17) hx hb hts hw11 hown hK hP 0 rfl rfl 0 (by decide) (hts (.fieldLink RX11 10 "SmokeTune" "town" "LSmokeTune$Town;") (List.mem_cons_of_mem _ (List.mem_append_left _ (List.mem_append_left _ (List.mem_append_left _ (List.mem_of_getElem? (i := 2) rfl)))))) (fun _ h9 => h9) rfl dX11_terms_43 ?_
        refine va_getN (ci := 9) (v := .ref a4) (C := RX9) (T := TX9) (N := 10) hx hb hts hw9 hown hK hP 2 rfl rfl 2 (by decide) (nst_use hN 104 rfl) (fun _ h9 => h9) rfl dX11_terms_46 ?_
        refine lv_iload_n hx hb dX11_terms_49 rfl (lv_at hl 2 rfl) ?_
        refine lv_iload_n hx hb dX11_terms_50 rfl (lv_at hl 3 rfl) ?_
        refine va_iast hx hb hK hP hD hS 4 0 rfl rfl (i_in (x := 4) rfl (by omega)) dX11_terms_51 (fun H locs hP hD hS => ?_)
        generalize hf_88 : (upd tm0 (4 : Int32).toNatClampNeg y) = f_88 at hP hD
        have hP : va_P D vwCl [(a0, .inr (11, [.ref a2, g1, g2, g3, g4, g5, g6, g7, g8, .ref a3, g10, g11, .ref a1, g13, g14, g15, g16])), (a1, .inl (K 0, 5, .inl f)), (a2, .inr (9, [k0, k1, .ref a4, k3, k4, k5, k6, k7, k8, k9])), (a3, .inr (2, [p0, p1, p2])), (a4, .inl (K 0, 6, .inl f_88))] H := hP
        have hD : va_D A [(a0, .inr (11, [.ref a2, g1, g2, g3, g4, g5, g6, g7, g8, .ref a3, g10, g11, .ref a1, g13, g14, g15, g16])), (a1, .inl (K 0, 5, .inl f)), (a2, .inr (9, [k0, k1, .ref a4, k3, k4, k5, k6, k7, k8, k9])), (a3, .inr (2, [p0, p1, p2])), (a4, .inl (K 0, 6, .inl f_88))] := hD
        refine lv_aload_n hx hb dX11_terms_52 rfl (lv_at hl 1 rfl) ?_
        refine va_get (ci := 11) (v := .ref a3) (C := RX11) (T := TX11) (N := 17) hx hb hts hw11 hown hK hP 0 rfl rfl 9 (by decide) (hts (.fieldLink RX11 61 "SmokeTune" "history" "LSmokeTune$History;") (List.mem_cons_of_mem _ (List.mem_append_left _ (List.mem_append_left _ (List.mem_append_left _ (List.mem_of_getElem? (i := 3) rfl)))))) (fun _ h9 => h9) rfl dX11_terms_53 ?_
        refine kcv (wr := [(a0, .inr (11, [.ref a2, g1, g2, g3, g4, g5, g6, g7, g8, .ref a3, g10, g11, .ref a1, g13, g14, g15, g16])), (a1, .inl (K 0, 5, .inl f)), (a2, .inr (9, [k0, k1, .ref a4, k3, k4, k5, k6, k7, k8, k9])), (a4, .inl (K 0, 6, .inl f_88))]) (va_runVN (As := []) (rest := []) ⟨hx, hb, hml, hown, hts⟩ (c_clear l D K a3 p0 p1 p2 H.size) ⟨va_cnB 0 hts gX11_terms_X2_clear_n111 rfl rfl rfl (nst_at hN 16 rfl) (hts (.initialized RX2) (List.mem_cons_of_mem _ (List.mem_append_left _ (List.mem_append_left _ (List.mem_append_left _ (List.mem_of_getElem? (i := 15) rfl)))))) (by decide +kernel) ⟨Nat.le_of_ble_eq_true rfl, Nat.le_of_ble_eq_true rfl⟩, (hts (.instanceMethod yX2_clear) (List.mem_cons_of_mem _ (List.mem_append_left _ (List.mem_append_left _ (List.mem_append_left _ (List.mem_of_getElem? (i := 14) rfl)))))), (hts (.selects RX2 yX2_clear yX2_clear) (List.mem_cons_of_mem _ (List.mem_append_left _ (List.mem_append_left _ (List.mem_append_left _ (List.mem_of_getElem? (i := 16) rfl))))))⟩ (mkV hK hN (hP.sub [3] rfl) (hD.sub [3] (by decide) rfl) (ci := 2) (q0 := 0) rfl rfl) rfl rfl hl.1 rfl (lv_room (Nat.le_of_ble_eq_true rfl)) dX11_terms_56 ⟨Nat.le_of_ble_eq_true rfl, Nat.le_of_ble_eq_true rfl⟩) hP hD hS hA [3] [0, 1, 2, 4] rfl rfl (by decide) (by decide) (fun u_90 H locs hw hP hD hS => ?_)
        have hP : va_P D vwCl [(a0, .inr (11, [.ref a2, g1, g2, g3, g4, g5, g6, g7, g8, .ref a3, g10, g11, .ref a1, g13, g14, g15, g16])), (a1, .inl (K 0, 5, .inl f)), (a2, .inr (9, [k0, k1, .ref a4, k3, k4, k5, k6, k7, k8, k9])), (a4, .inl (K 0, 6, .inl f_88))] H := hP
        have hD : va_D A [(a0, .inr (11, [.ref a2, g1, g2, g3, g4, g5, g6, g7, g8, .ref a3, g10, g11, .ref a1, g13, g14, g15, g16])), (a1, .inl (K 0, 5, .inl f)), (a2, .inr (9, [k0, k1, .ref a4, k3, k4, k5, k6, k7, k8, k9])), (a4, .inl (K 0, 6, .inl f_88))] := hD
        refine lv_aload_n hx hb dX11_terms_59 rfl (lv_at hl 1 rfl) ?_
        refine lv_iload_n hx hb dX11_terms_60 rfl (lv_at hl 0 rfl) ?_
        refine kci (wr := [(a1, .inl (K 0, 5, .inl f)), (a2, .inr (9, [k0, k1, .ref a4, k3, k4, k5, k6, k7, k8, k9])), (a4, .inl (K 0, 6, .inl f_88))]) (va_runV (As := [.int 3]) (rest := []) ⟨hx, hb, hml, hown, hts⟩ (c_accept l D K a0 3 (.ref a2) g1 g2 g3 g4 g5 g6 g7 g8 (.ref a3) g10 g11 (.ref a1) g13 g14 g15 g16 H.size) (cwV 1 hts gX11_terms_X11_accept rfl rfl rfl (by decide +kernel) ⟨Nat.le_of_ble_eq_true rfl, Nat.le_of_ble_eq_true rfl⟩) (mkV hK hN (hP.sub [0] rfl) (hD.sub [0] (by decide) rfl) (ci := 11) (q0 := 0) rfl rfl) rfl rfl hl.1 rfl (lv_room (Nat.le_of_ble_eq_true rfl)) dX11_terms_61 ⟨Nat.le_of_ble_eq_true rfl, Nat.le_of_ble_eq_true rfl⟩) hP hD hS hA [0] [1, 2, 3] rfl rfl (by decide) (by decide) (fun r_91 u_92 H locs hw hP hD hS => ?_)
        have hP : va_P D vwCl [(a1, .inl (K 0, 5, .inl f)), (a2, .inr (9, [k0, k1, .ref a4, k3, k4, k5, k6, k7, k8, k9])), (a4, .inl (K 0, 6, .inl f_88))] H := hP
        have hD : va_D A [(a1, .inl (K 0, 5, .inl f)), (a2, .inr (9, [k0, k1, .ref a4, k3, k4, k5, k6, k7, k8, k9])), (a4, .inl (K 0, 6, .inl f_88))] := hD
        obtain rfl : r_91 = 3 := hw
        exact W.iret (v := 3) hx hb hr (fun t ht hW => ⟨⟨3, (), rfl, (by first | exact Or.inr (Or.inl (⟨rfl, by first | omega | decide | (subst_vars; assumption) | (subst_vars; symm; assumption)⟩))), Wd.nil⟩, hS.F ht⟩) hS.2.2 dX11_terms_64
      · refine lv_if_ne (tgt := 32) hx hb dX11_terms_23 (by decide) (fun c_93 => absurd (by decide) c_93) (fun c_93 => ?_)
        refine lv_aload_n hx hb dX11_terms_26 rfl (lv_at hl 0 rfl) ?_
        refine lv_iconst (v := (-1)) hx hb dX11_terms_27 (by decide) ?_
        refine kci (wr := [(a2, .inr (9, [k0, k1, .ref a4, k3, k4, k5, k6, k7, k8, k9])), (a3, .inr (2, [p0, p1, p2])), (a4, .inl (K 0, 6, .inl tm0))]) (va_runV (As := [.int (-1)]) (rest := []) ⟨hx, hb, hml, hown, hts⟩ (c_refuse_1 l D K a0 (.ref a2) g1 g2 g3 g4 g5 g6 g7 g8 (.ref a3) g10 g11 a1 g13 g14 g15 g16 f s.heap.size) (cwV 1 hts gX11_terms_X11_refuse rfl rfl rfl (by decide +kernel) ⟨Nat.le_of_ble_eq_true rfl, Nat.le_of_ble_eq_true rfl⟩) (mkV hK hN (hP.sub [0, 1] rfl) (hD.sub [0, 1] (by decide) rfl) (ci := 11) (q0 := 0) rfl rfl) rfl rfl hl.1 rfl (lv_room (Nat.le_of_ble_eq_true rfl)) dX11_terms_28 ⟨Nat.le_of_ble_eq_true rfl, Nat.le_of_ble_eq_true rfl⟩) hP hD hS hA [0, 1] [2, 3, 4] rfl rfl (by decide) (by decide) (fun r_94 u_95 H locs hw hP hD hS => ?_)
        have hP : va_P D vwCl [(a2, .inr (9, [k0, k1, .ref a4, k3, k4, k5, k6, k7, k8, k9])), (a3, .inr (2, [p0, p1, p2])), (a4, .inl (K 0, 6, .inl tm0))] H := hP
        have hD : va_D A [(a2, .inr (9, [k0, k1, .ref a4, k3, k4, k5, k6, k7, k8, k9])), (a3, .inr (2, [p0, p1, p2])), (a4, .inl (K 0, 6, .inl tm0))] := hD
        obtain rfl : r_94 = (-1) := hw
        exact W.iret (v := (-1)) hx hb hr (fun t ht hW => ⟨⟨(-1), (), rfl, (by first | exact Or.inr (Or.inr (Or.inr (⟨rfl, by first | omega | decide | (subst_vars; assumption) | (subst_vars; symm; assumption)⟩)))), Wd.nil⟩, hS.F ht⟩) hS.2.2 dX11_terms_31
    · exfalso; omega
  · have hlk : (5 : Int32).toInt = 5 := rfl
    refine lv_iload_n hx hb dX11_terms_0 rfl (lv_at hl 1 rfl) ?_
    refine lv_iconst (v := 0) hx hb dX11_terms_1 (by decide) ?_
    refine lv_iconst (v := 5) hx hb dX11_terms_2 (by decide) ?_
    refine pci (va_runS (As := [.int 5, .int 0, .int 5]) (rest := []) ⟨hx, hb, hml, hown, hts⟩ (c_within l D K 5 0 5 5 0 5 s.heap.size rfl rfl rfl) (va_cwS 3 hts gX11_terms_X11_within rfl rfl rfl (by decide +kernel) ⟨Nat.le_of_ble_eq_true rfl, Nat.le_of_ble_eq_true rfl⟩) (mkS hK hN (hP.sub [] rfl) (hD.sub [] (by decide) rfl)) rfl rfl hl.1 rfl (lv_room (Nat.le_of_ble_eq_true rfl)) dX11_terms_3 ⟨Nat.le_of_ble_eq_true rfl, Nat.le_of_ble_eq_true rfl⟩) (fun r_96 hw => ?_)
    rcases hw with ⟨rfl, h_97, h_98⟩ | ⟨rfl, h_99⟩
    · refine lv_if_eq (tgt := 26) hx hb dX11_terms_6 (by decide) (fun c_100 => absurd c_100 (by decide)) (fun c_100 => ?_)
      refine lv_iload_n hx hb dX11_terms_9 rfl (lv_at hl 2 rfl) ?_
      refine va_gets hx hb hG.1.1 hS hown (hts (.fieldLink RX11 152 "SmokeTune" "TERM_LEAST" "[I") (List.mem_cons_of_mem _ (List.mem_append_left _ (List.mem_append_left _ (List.mem_append_left _ (List.mem_of_getElem? (i := 0) rfl)))))) (fun _ h9 => h9) dX11_terms_10 ?_
      refine lv_iload_n hx hb dX11_terms_13 rfl (lv_at hl 1 rfl) ?_
      refine va_ti (v := .int 0) hx hb hG.1.2.1 hS (i_in (x := 5) rfl (by omega)) rfl dX11_terms_14 ?_
      refine va_gets hx hb hG.1.2.2.1 hS hown (hts (.fieldLink RX11 155 "SmokeTune" "TERM_MOST" "[I") (List.mem_cons_of_mem _ (List.mem_append_left _ (List.mem_append_left _ (List.mem_append_left _ (List.mem_of_getElem? (i := 1) rfl)))))) (fun _ h9 => h9) dX11_terms_15 ?_
      refine lv_iload_n hx hb dX11_terms_18 rfl (lv_at hl 1 rfl) ?_
      refine va_ti (v := .int 9) hx hb hG.1.2.2.2 hS (i_in (x := 5) rfl (by omega)) rfl dX11_terms_19 ?_
      refine pci (va_runS (As := [.int y, .int 0, .int 9]) (rest := []) ⟨hx, hb, hml, hown, hts⟩ (c_within l D K y 0 9 y.toInt 0 9 s.heap.size rfl rfl rfl) (va_cwS 3 hts gX11_terms_X11_within rfl rfl rfl (by decide +kernel) ⟨Nat.le_of_ble_eq_true rfl, Nat.le_of_ble_eq_true rfl⟩) (mkS hK hN (hP.sub [] rfl) (hD.sub [] (by decide) rfl)) rfl rfl hl.1 rfl (lv_room (Nat.le_of_ble_eq_true rfl)) dX11_terms_20 ⟨Nat.le_of_ble_eq_true rfl, Nat.le_of_ble_eq_true rfl⟩) (fun r_101 hw => ?_)
      rcases hw with ⟨rfl, h_102, h_103⟩ | ⟨rfl, h_104⟩
      · refine lv_if_ne (tgt := 32) hx hb dX11_terms_23 (by decide) (fun c_105 => ?_) (fun c_105 => absurd c_105 (by decide))
        refine lv_aload_n hx hb dX11_terms_32 rfl (lv_at hl 0 rfl) ?_
        refine va_get (ci := 11) (v := .ref a2) (C := RX11) (T := TX11) (N := 17) hx hb hts hw11 hown hK hP 0 rfl rfl 0 (by decide) (hts (.fieldLink RX11 10 "SmokeTune" "town" "LSmokeTune$Town;") (List.mem_cons_of_mem _ (List.mem_append_left _ (List.mem_append_left _ (List.mem_append_left _ (List.mem_of_getElem? (i := 2) rfl)))))) (fun _ h9 => h9) rfl dX11_terms_33 ?_
        refine va_getN (ci := 9) (v := .ref a4) (C := RX9) (T := TX9) (N := 10) hx hb hts hw9 hown hK hP 2 rfl rfl 2 (by decide) (nst_use hN 104 rfl) (fun _ h9 => h9) rfl dX11_terms_36 ?_
        refine lv_iload_n hx hb dX11_terms_39 rfl (lv_at hl 1 rfl) ?_
        refine va_iald hx hb hK hP 4 0 rfl rfl (i_in (x := 5) rfl (by omega)) dX11_terms_40 ?_
        refine lv_topi (fun x_106 ex_106 => ?_)
        obtain rfl : x_106 = 0 := ex_106.trans (by first | rfl | decide | exact rfl)
        refine lv_istore_n (lv' := [(3, .int 0), (0, .ref a0), (1, .int 5), (2, .int y)]) hx hb dX11_terms_41 rfl hl (by decide) rfl (fun ls hl => ?_)
        refine lv_aload_n hx hb dX11_terms_42 rfl (lv_at hl 1 rfl) ?_
        refine va_get (ci := 11) (v := .ref a2) (C := RX11) (T := TX11) (N := 17) hx hb hts hw11 hown hK hP 0 rfl rfl 0 (by decide) (hts (.fieldLink RX11 10 "SmokeTune" "town" "LSmokeTune$Town;") (List.mem_cons_of_mem _ (List.mem_append_left _ (List.mem_append_left _ (List.mem_append_left _ (List.mem_of_getElem? (i := 2) rfl)))))) (fun _ h9 => h9) rfl dX11_terms_43 ?_
        refine va_getN (ci := 9) (v := .ref a4) (C := RX9) (T := TX9) (N := 10) hx hb hts hw9 hown hK hP 2 rfl rfl 2 (by decide) (nst_use hN 104 rfl) (fun _ h9 => h9) rfl dX11_terms_46 ?_
        refine lv_iload_n hx hb dX11_terms_49 rfl (lv_at hl 2 rfl) ?_
        refine lv_iload_n hx hb dX11_terms_50 rfl (lv_at hl 3 rfl) ?_
        refine va_iast hx hb hK hP hD hS 4 0 rfl rfl (i_in (x := 5) rfl (by omega)) dX11_terms_51 (fun H locs hP hD hS => ?_)
        generalize hf_107 : (upd tm0 (5 : Int32).toNatClampNeg y) = f_107 at hP hD
        have hP : va_P D vwCl [(a0, .inr (11, [.ref a2, g1, g2, g3, g4, g5, g6, g7, g8, .ref a3, g10, g11, .ref a1, g13, g14, g15, g16])), (a1, .inl (K 0, 5, .inl f)), (a2, .inr (9, [k0, k1, .ref a4, k3, k4, k5, k6, k7, k8, k9])), (a3, .inr (2, [p0, p1, p2])), (a4, .inl (K 0, 6, .inl f_107))] H := hP
        have hD : va_D A [(a0, .inr (11, [.ref a2, g1, g2, g3, g4, g5, g6, g7, g8, .ref a3, g10, g11, .ref a1, g13, g14, g15, g16])), (a1, .inl (K 0, 5, .inl f)), (a2, .inr (9, [k0, k1, .ref a4, k3, k4, k5, k6, k7, k8, k9])), (a3, .inr (2, [p0, p1, p2])), (a4, .inl (K 0, 6, .inl f_107))] := hD
        refine lv_aload_n hx hb dX11_terms_52 rfl (lv_at hl 1 rfl) ?_
        refine va_get (ci := 11) (v := .ref a3) (C := RX11) (T := TX11) (N := 17) hx hb hts hw11 hown hK hP 0 rfl rfl 9 (by decide) (hts (.fieldLink RX11 61 "SmokeTune" "history" "LSmokeTune$History;") (List.mem_cons_of_mem _ (List.mem_append_left _ (List.mem_append_left _ (List.mem_append_left _ (List.mem_of_getElem? (i := 3) rfl)))))) (fun _ h9 => h9) rfl dX11_terms_53 ?_
        refine kcv (wr := [(a0, .inr (11, [.ref a2, g1, g2, g3, g4, g5, g6, g7, g8, .ref a3, g10, g11, .ref a1, g13, g14, g15, g16])), (a1, .inl (K 0, 5, .inl f)), (a2, .inr (9, [k0, k1, .ref a4, k3, k4, k5, k6, k7, k8, k9])), (a4, .inl (K 0, 6, .inl f_107))]) (va_runVN (As := []) (rest := []) ⟨hx, hb, hml, hown, hts⟩ (c_clear l D K a3 p0 p1 p2 H.size) ⟨va_cnB 0 hts gX11_terms_X2_clear_n111 rfl rfl rfl (nst_at hN 16 rfl) (hts (.initialized RX2) (List.mem_cons_of_mem _ (List.mem_append_left _ (List.mem_append_left _ (List.mem_append_left _ (List.mem_of_getElem? (i := 15) rfl)))))) (by decide +kernel) ⟨Nat.le_of_ble_eq_true rfl, Nat.le_of_ble_eq_true rfl⟩, (hts (.instanceMethod yX2_clear) (List.mem_cons_of_mem _ (List.mem_append_left _ (List.mem_append_left _ (List.mem_append_left _ (List.mem_of_getElem? (i := 14) rfl)))))), (hts (.selects RX2 yX2_clear yX2_clear) (List.mem_cons_of_mem _ (List.mem_append_left _ (List.mem_append_left _ (List.mem_append_left _ (List.mem_of_getElem? (i := 16) rfl))))))⟩ (mkV hK hN (hP.sub [3] rfl) (hD.sub [3] (by decide) rfl) (ci := 2) (q0 := 0) rfl rfl) rfl rfl hl.1 rfl (lv_room (Nat.le_of_ble_eq_true rfl)) dX11_terms_56 ⟨Nat.le_of_ble_eq_true rfl, Nat.le_of_ble_eq_true rfl⟩) hP hD hS hA [3] [0, 1, 2, 4] rfl rfl (by decide) (by decide) (fun u_109 H locs hw hP hD hS => ?_)
        have hP : va_P D vwCl [(a0, .inr (11, [.ref a2, g1, g2, g3, g4, g5, g6, g7, g8, .ref a3, g10, g11, .ref a1, g13, g14, g15, g16])), (a1, .inl (K 0, 5, .inl f)), (a2, .inr (9, [k0, k1, .ref a4, k3, k4, k5, k6, k7, k8, k9])), (a4, .inl (K 0, 6, .inl f_107))] H := hP
        have hD : va_D A [(a0, .inr (11, [.ref a2, g1, g2, g3, g4, g5, g6, g7, g8, .ref a3, g10, g11, .ref a1, g13, g14, g15, g16])), (a1, .inl (K 0, 5, .inl f)), (a2, .inr (9, [k0, k1, .ref a4, k3, k4, k5, k6, k7, k8, k9])), (a4, .inl (K 0, 6, .inl f_107))] := hD
        refine lv_aload_n hx hb dX11_terms_59 rfl (lv_at hl 1 rfl) ?_
        refine lv_iload_n hx hb dX11_terms_60 rfl (lv_at hl 0 rfl) ?_
        refine kci (wr := [(a1, .inl (K 0, 5, .inl f)), (a2, .inr (9, [k0, k1, .ref a4, k3, k4, k5, k6, k7, k8, k9])), (a4, .inl (K 0, 6, .inl f_107))]) (va_runV (As := [.int 0]) (rest := []) ⟨hx, hb, hml, hown, hts⟩ (c_accept l D K a0 0 (.ref a2) g1 g2 g3 g4 g5 g6 g7 g8 (.ref a3) g10 g11 (.ref a1) g13 g14 g15 g16 H.size) (cwV 1 hts gX11_terms_X11_accept rfl rfl rfl (by decide +kernel) ⟨Nat.le_of_ble_eq_true rfl, Nat.le_of_ble_eq_true rfl⟩) (mkV hK hN (hP.sub [0] rfl) (hD.sub [0] (by decide) rfl) (ci := 11) (q0 := 0) rfl rfl) rfl rfl hl.1 rfl (lv_room (Nat.le_of_ble_eq_true rfl)) dX11_terms_61 ⟨Nat.le_of_ble_eq_true rfl, Nat.le_of_ble_eq_true rfl⟩) hP hD hS hA [0] [1, 2, 3] rfl rfl (by decide) (by decide) (fun r_110 u_111 H locs hw hP hD hS => ?_)
        have hP : va_P D vwCl [(a1, .inl (K 0, 5, .inl f)), (a2, .inr (9, [k0, k1, .ref a4, k3, k4, k5, k6, k7, k8, k9])), (a4, .inl (K 0, 6, .inl f_107))] H := hP
        have hD : va_D A [(a1, .inl (K 0, 5, .inl f)), (a2, .inr (9, [k0, k1, .ref a4, k3, k4, k5, k6, k7, k8, k9])), (a4, .inl (K 0, 6, .inl f_107))] := hD
        obtain rfl : r_110 = 0 := hw
        exact W.iret (v := 0) hx hb hr (fun t ht hW => ⟨⟨0, (), rfl, (by first | exact Or.inl (⟨rfl, by first | omega | decide | (subst_vars; assumption) | (subst_vars; symm; assumption)⟩)), Wd.nil⟩, hS.F ht⟩) hS.2.2 dX11_terms_64
      · refine lv_if_ne (tgt := 32) hx hb dX11_terms_23 (by decide) (fun c_112 => absurd (by decide) c_112) (fun c_112 => ?_)
        refine lv_aload_n hx hb dX11_terms_26 rfl (lv_at hl 0 rfl) ?_
        refine lv_iconst (v := (-1)) hx hb dX11_terms_27 (by decide) ?_
        refine kci (wr := [(a2, .inr (9, [k0, k1, .ref a4, k3, k4, k5, k6, k7, k8, k9])), (a3, .inr (2, [p0, p1, p2])), (a4, .inl (K 0, 6, .inl tm0))]) (va_runV (As := [.int (-1)]) (rest := []) ⟨hx, hb, hml, hown, hts⟩ (c_refuse_1 l D K a0 (.ref a2) g1 g2 g3 g4 g5 g6 g7 g8 (.ref a3) g10 g11 a1 g13 g14 g15 g16 f s.heap.size) (cwV 1 hts gX11_terms_X11_refuse rfl rfl rfl (by decide +kernel) ⟨Nat.le_of_ble_eq_true rfl, Nat.le_of_ble_eq_true rfl⟩) (mkV hK hN (hP.sub [0, 1] rfl) (hD.sub [0, 1] (by decide) rfl) (ci := 11) (q0 := 0) rfl rfl) rfl rfl hl.1 rfl (lv_room (Nat.le_of_ble_eq_true rfl)) dX11_terms_28 ⟨Nat.le_of_ble_eq_true rfl, Nat.le_of_ble_eq_true rfl⟩) hP hD hS hA [0, 1] [2, 3, 4] rfl rfl (by decide) (by decide) (fun r_113 u_114 H locs hw hP hD hS => ?_)
        have hP : va_P D vwCl [(a2, .inr (9, [k0, k1, .ref a4, k3, k4, k5, k6, k7, k8, k9])), (a3, .inr (2, [p0, p1, p2])), (a4, .inl (K 0, 6, .inl tm0))] H := hP
        have hD : va_D A [(a2, .inr (9, [k0, k1, .ref a4, k3, k4, k5, k6, k7, k8, k9])), (a3, .inr (2, [p0, p1, p2])), (a4, .inl (K 0, 6, .inl tm0))] := hD
        obtain rfl : r_113 = (-1) := hw
        exact W.iret (v := (-1)) hx hb hr (fun t ht hW => ⟨⟨(-1), (), rfl, (by first | exact Or.inr (Or.inr (Or.inr (⟨rfl, by first | omega | decide | (subst_vars; assumption) | (subst_vars; symm; assumption)⟩)))), Wd.nil⟩, hS.F ht⟩) hS.2.2 dX11_terms_31
    · exfalso; omega
  · refine lv_iload_n hx hb dX11_terms_0 rfl (lv_at hl 1 rfl) ?_
    refine lv_iconst (v := 0) hx hb dX11_terms_1 (by decide) ?_
    refine lv_iconst (v := 5) hx hb dX11_terms_2 (by decide) ?_
    refine pci (va_runS (As := [.int x, .int 0, .int 5]) (rest := []) ⟨hx, hb, hml, hown, hts⟩ (c_within l D K x 0 5 x.toInt 0 5 s.heap.size rfl rfl rfl) (va_cwS 3 hts gX11_terms_X11_within rfl rfl rfl (by decide +kernel) ⟨Nat.le_of_ble_eq_true rfl, Nat.le_of_ble_eq_true rfl⟩) (mkS hK hN (hP.sub [] rfl) (hD.sub [] (by decide) rfl)) rfl rfl hl.1 rfl (lv_room (Nat.le_of_ble_eq_true rfl)) dX11_terms_3 ⟨Nat.le_of_ble_eq_true rfl, Nat.le_of_ble_eq_true rfl⟩) (fun r_115 hw => ?_)
    rcases hw with ⟨rfl, h_116, h_117⟩ | ⟨rfl, h_118⟩
    · exfalso; omega
    · refine lv_if_eq (tgt := 26) hx hb dX11_terms_6 (by decide) (fun c_119 => ?_) (fun c_119 => absurd (by decide) c_119)
      refine lv_aload_n hx hb dX11_terms_26 rfl (lv_at hl 0 rfl) ?_
      refine lv_iconst (v := (-1)) hx hb dX11_terms_27 (by decide) ?_
      refine kci (wr := [(a2, .inr (9, [k0, k1, .ref a4, k3, k4, k5, k6, k7, k8, k9])), (a3, .inr (2, [p0, p1, p2])), (a4, .inl (K 0, 6, .inl tm0))]) (va_runV (As := [.int (-1)]) (rest := []) ⟨hx, hb, hml, hown, hts⟩ (c_refuse_1 l D K a0 (.ref a2) g1 g2 g3 g4 g5 g6 g7 g8 (.ref a3) g10 g11 a1 g13 g14 g15 g16 f s.heap.size) (cwV 1 hts gX11_terms_X11_refuse rfl rfl rfl (by decide +kernel) ⟨Nat.le_of_ble_eq_true rfl, Nat.le_of_ble_eq_true rfl⟩) (mkV hK hN (hP.sub [0, 1] rfl) (hD.sub [0, 1] (by decide) rfl) (ci := 11) (q0 := 0) rfl rfl) rfl rfl hl.1 rfl (lv_room (Nat.le_of_ble_eq_true rfl)) dX11_terms_28 ⟨Nat.le_of_ble_eq_true rfl, Nat.le_of_ble_eq_true rfl⟩) hP hD hS hA [0, 1] [2, 3, 4] rfl rfl (by decide) (by decide) (fun r_120 u_121 H locs hw hP hD hS => ?_)
      have hP : va_P D vwCl [(a2, .inr (9, [k0, k1, .ref a4, k3, k4, k5, k6, k7, k8, k9])), (a3, .inr (2, [p0, p1, p2])), (a4, .inl (K 0, 6, .inl tm0))] H := hP
      have hD : va_D A [(a2, .inr (9, [k0, k1, .ref a4, k3, k4, k5, k6, k7, k8, k9])), (a3, .inr (2, [p0, p1, p2])), (a4, .inl (K 0, 6, .inl tm0))] := hD
      obtain rfl : r_120 = (-1) := hw
      exact W.iret (v := (-1)) hx hb hr (fun t ht hW => ⟨⟨(-1), (), rfl, (by first | exact Or.inr (Or.inr (Or.inr (⟨rfl, by first | omega | decide | (subst_vars; assumption) | (subst_vars; symm; assumption)⟩)))), Wd.nil⟩, hS.F ht⟩) hS.2.2 dX11_terms_31
set_option maxHeartbeats 4000000 in
set_option maxRecDepth 100000 in
theorem j_check3_23_0 (l : Launch) (D : va_G) (K : Nat → ClassId) (x : Int32) (X : Int) (sz : Nat) (qx : x.toInt = X) (hix : 0 ≤ X ∧ X < 23) : Met l yJ3_checkIndex_8e157 wsJ3_checkIndex_8e157 ({ frames := 0, cells := 0, slots := 0, locals := 0 }) (va_Pc [.int x, .int 23, .null] (Pre D K [] sz)) (vp_Si (fun r : Int32 => (r = x))) 0 0 (fun _ => False) := by
  refine Met.ofW (cc := cJ3_checkIndex_8e157) (maxL := 3) (ret := (some .int)) (by decide) rfl ?_
  intro p e s m args below meth c s₁ B hml hv
  obtain ⟨rfl, hsz, hP, hK, hD0, hN⟩ := hv
  have hx := B.exec
  have hb := B.bytes
  have hr := B.returns
  have hts := atoms_spec (ws := wsJ3_checkIndex_8e157) B.pre
  have hown : s.vm.findClass RJ3 = some m.cls := findClass_of_methodNamed B.named
  have hlocks := B.notSynchronized
  subst hsz
  have hD := hD0
  have hP : va_P D vwCl [] s.heap := hP
  have hl := lv_entry [.int x, .int 23, .null] (n := 3) (Nat.le_of_ble_eq_true rfl)
  rw [lg_entry_eq]
  generalize (lg_sl [.int x, .int 23, .null] ++ List.replicate (3 - (lg_sl [.int x, .int 23, .null]).length) Slot.unset).toArray = ls at hl ⊢
  have hl : lv_has ls 3 [(0, .int x), (1, .int 23), (2, .null)] := hl
  refine lv_iload_n hx hb dJ3_checkIndex_8e157_0 rfl (lv_at hl 0 rfl) ?_
  refine lv_if_lt (tgt := 9) hx hb dJ3_checkIndex_8e157_1 (by decide) (fun c_1 => ?_) (fun c_1 => ?_)
  · have c_1i := i_lt (x := X) (y := 0) qx rfl c_1
    exfalso; omega
  · have c_1i := i_nlt (x := X) (y := 0) qx rfl c_1
    refine lv_iload_n hx hb dJ3_checkIndex_8e157_4 rfl (lv_at hl 0 rfl) ?_
    refine lv_iload_n hx hb dJ3_checkIndex_8e157_5 rfl (lv_at hl 1 rfl) ?_
    refine lv_icmp_lt (tgt := 16) hx hb dJ3_checkIndex_8e157_6 (by decide) (fun c_2 => ?_) (fun c_2 => ?_)
    · have c_2i := i_lt (x := X) (y := 23) qx rfl c_2
      refine lv_iload_n hx hb dJ3_checkIndex_8e157_16 rfl (lv_at hl 0 rfl) ?_
      exact W.iret (v := x) hx hb hr (fun t ht hW => ⟨_, rfl, (by first | exact rfl), ht⟩) (fun q hq => by cases hq) dJ3_checkIndex_8e157_17
    · have c_2i := i_nlt (x := X) (y := 23) qx rfl c_2
      exfalso; omega
set_option maxHeartbeats 4000000 in
set_option maxRecDepth 100000 in
theorem j_check3_23_1 (l : Launch) (D : va_G) (K : Nat → ClassId) (x : Int32) (a9 : Nat) (X : Int) (sz : Nat) (qx : x.toInt = X) (hix : 0 ≤ X ∧ X < 23) : Met l yJ3_checkIndex_8e157 wsJ3_checkIndex_8e157 ({ frames := 0, cells := 0, slots := 0, locals := 0 }) (va_Pc [.int x, .int 23, .ref a9] (Pre D K [] sz)) (vp_Si (fun r : Int32 => (r = x))) 0 0 (fun _ => False) := by
  refine Met.ofW (cc := cJ3_checkIndex_8e157) (maxL := 3) (ret := (some .int)) (by decide) rfl ?_
  intro p e s m args below meth c s₁ B hml hv
  obtain ⟨rfl, hsz, hP, hK, hD0, hN⟩ := hv
  have hx := B.exec
  have hb := B.bytes
  have hr := B.returns
  have hts := atoms_spec (ws := wsJ3_checkIndex_8e157) B.pre
  have hown : s.vm.findClass RJ3 = some m.cls := findClass_of_methodNamed B.named
  have hlocks := B.notSynchronized
  subst hsz
  have hD := hD0
  have hP : va_P D vwCl [] s.heap := hP
  have hl := lv_entry [.int x, .int 23, .ref a9] (n := 3) (Nat.le_of_ble_eq_true rfl)
  rw [lg_entry_eq]
  generalize (lg_sl [.int x, .int 23, .ref a9] ++ List.replicate (3 - (lg_sl [.int x, .int 23, .ref a9]).length) Slot.unset).toArray = ls at hl ⊢
  have hl : lv_has ls 3 [(0, .int x), (1, .int 23), (2, .ref a9)] := hl
  refine lv_iload_n hx hb dJ3_checkIndex_8e157_0 rfl (lv_at hl 0 rfl) ?_
  refine lv_if_lt (tgt := 9) hx hb dJ3_checkIndex_8e157_1 (by decide) (fun c_1 => ?_) (fun c_1 => ?_)
  · have c_1i := i_lt (x := X) (y := 0) qx rfl c_1
    exfalso; omega
  · have c_1i := i_nlt (x := X) (y := 0) qx rfl c_1
    refine lv_iload_n hx hb dJ3_checkIndex_8e157_4 rfl (lv_at hl 0 rfl) ?_
    refine lv_iload_n hx hb dJ3_checkIndex_8e157_5 rfl (lv_at hl 1 rfl) ?_
    refine lv_icmp_lt (tgt := 16) hx hb dJ3_checkIndex_8e157_6 (by decide) (fun c_2 => ?_) (fun c_2 => ?_)
    · have c_2i := i_lt (x := X) (y := 23) qx rfl c_2
      refine lv_iload_n hx hb dJ3_checkIndex_8e157_16 rfl (lv_at hl 0 rfl) ?_
      exact W.iret (v := x) hx hb hr (fun t ht hW => ⟨_, rfl, (by first | exact rfl), ht⟩) (fun q hq => by cases hq) dJ3_checkIndex_8e157_17
    · have c_2i := i_nlt (x := X) (y := 23) qx rfl c_2
      exfalso; omega
set_option maxHeartbeats 4000000 in
set_option maxRecDepth 100000 in
theorem j_check_23 (l : Launch) (D : va_G) (K : Nat → ClassId) (x : Int32) (g : Nat → Nat) (X : Int) (sz : Nat) (qx : x.toInt = X) (hix : 0 ≤ X ∧ X < 23) : Met l yJ0_checkIndex_df160 wsJ0_checkIndex_df160 ({ frames := 1, cells := 0, slots := 0, locals := 22 }) (va_Pc [.int x, .int 23] (PreX D K [] sz g (fun _ => False))) (va_Sv (fun _ => True)) 0 0 (fun _ => False) := by
  refine Met.ofW (cc := cJ0_checkIndex_df160) (maxL := 2) (ret := none) (by decide) rfl ?_
  intro p e s m args below meth c s₁ B hml hv
  obtain ⟨rfl, ⟨hsz, hP, hK, hD0, hN⟩, hG⟩ := hv
  have hx := B.exec
  have hb := B.bytes
  have hr := B.returns
  have hts := atoms_spec (ws := wsJ0_checkIndex_df160) B.pre
  have hown : s.vm.findClass RJ0 = some m.cls := findClass_of_methodNamed B.named
  have hlocks := B.notSynchronized
  subst hsz
  have hD := hD0
  have hS : va_S (fun _ => False) s.heap s.heap [] := va_S.rf
  have hP : va_P D vwCl [] s.heap := hP
  have hl := lv_entry [.int x, .int 23] (n := 2) (Nat.le_of_ble_eq_true rfl)
  rw [lg_entry_eq]
  generalize (lg_sl [.int x, .int 23] ++ List.replicate (2 - (lg_sl [.int x, .int 23]).length) Slot.unset).toArray = ls at hl ⊢
  have hl : lv_has ls 2 [(0, .int x), (1, .int 23)] := hl
  refine lv_iload_n hx hb dJ0_checkIndex_df160_0 rfl (lv_at hl 0 rfl) ?_
  refine lv_iload_n hx hb dJ0_checkIndex_df160_1 rfl (lv_at hl 1 rfl) ?_
  rcases hG.2.1.2 with hZq | ⟨tq, hZq⟩
  · refine va_gets hx hb hZq hS hown (hts (.fieldLink RJ0 1053 "jdk/internal/util/Preconditions" "SIOOBE_FORMATTER" "Ljava/util/function/BiFunction;") (List.mem_cons_of_mem _ (List.mem_of_getElem? (i := 0) rfl))) (fun _ h9 => h9) dJ0_checkIndex_df160_2 ?_
    refine pci (va_runS (As := [.int x, .int 23, .null]) (rest := []) ⟨hx, hb, hml, hown, hts⟩ (j_check3_23_0 l D K x X s.heap.size qx (by omega)) (va_cwS 3 hts gJ0_checkIndex_df160_J3_checkIndex_8e157 rfl rfl rfl (by decide +kernel) ⟨Nat.le_of_ble_eq_true rfl, Nat.le_of_ble_eq_true rfl⟩) (mkS hK hN (hP.sub [] rfl) (hD.sub [] (by decide) rfl)) rfl rfl hl.1 rfl (lv_room (Nat.le_of_ble_eq_true rfl)) dJ0_checkIndex_df160_5 ⟨Nat.le_of_ble_eq_true rfl, Nat.le_of_ble_eq_true rfl⟩) (fun r_1 hw => ?_)
    obtain rfl : r_1 = x := hw
    refine lv_pop hx hb dJ0_checkIndex_df160_8 rfl ?_
    exact W.vret hx hb hr (fun t ht hW => ⟨rfl, trivial, ht⟩) (fun q hq => by cases hq) dJ0_checkIndex_df160_9
  · refine va_gets hx hb hZq hS hown (hts (.fieldLink RJ0 1053 "jdk/internal/util/Preconditions" "SIOOBE_FORMATTER" "Ljava/util/function/BiFunction;") (List.mem_cons_of_mem _ (List.mem_of_getElem? (i := 0) rfl))) (fun _ h9 => h9) dJ0_checkIndex_df160_2 ?_
    refine pci (va_runS (As := [.int x, .int 23, .ref tq]) (rest := []) ⟨hx, hb, hml, hown, hts⟩ (j_check3_23_1 l D K x tq X s.heap.size qx (by omega)) (va_cwS 3 hts gJ0_checkIndex_df160_J3_checkIndex_8e157 rfl rfl rfl (by decide +kernel) ⟨Nat.le_of_ble_eq_true rfl, Nat.le_of_ble_eq_true rfl⟩) (mkS hK hN (hP.sub [] rfl) (hD.sub [] (by decide) rfl)) rfl rfl hl.1 rfl (lv_room (Nat.le_of_ble_eq_true rfl)) dJ0_checkIndex_df160_5 ⟨Nat.le_of_ble_eq_true rfl, Nat.le_of_ble_eq_true rfl⟩) (fun r_2 hw => ?_)
    obtain rfl : r_2 = x := hw
    refine lv_pop hx hb dJ0_checkIndex_df160_8 rfl ?_
    exact W.vret hx hb hr (fun t ht hW => ⟨rfl, trivial, ht⟩) (fun q hq => by cases hq) dJ0_checkIndex_df160_9
set_option maxHeartbeats 4000000 in
set_option maxRecDepth 100000 in
theorem j_check3_19_0 (l : Launch) (D : va_G) (K : Nat → ClassId) (x : Int32) (X : Int) (sz : Nat) (qx : x.toInt = X) (hix : 0 ≤ X ∧ X < 19) : Met l yJ3_checkIndex_8e157 wsJ3_checkIndex_8e157 ({ frames := 0, cells := 0, slots := 0, locals := 0 }) (va_Pc [.int x, .int 19, .null] (Pre D K [] sz)) (vp_Si (fun r : Int32 => (r = x))) 0 0 (fun _ => False) := by
  refine Met.ofW (cc := cJ3_checkIndex_8e157) (maxL := 3) (ret := (some .int)) (by decide) rfl ?_
  intro p e s m args below meth c s₁ B hml hv
  obtain ⟨rfl, hsz, hP, hK, hD0, hN⟩ := hv
  have hx := B.exec
  have hb := B.bytes
  have hr := B.returns
  have hts := atoms_spec (ws := wsJ3_checkIndex_8e157) B.pre
  have hown : s.vm.findClass RJ3 = some m.cls := findClass_of_methodNamed B.named
  have hlocks := B.notSynchronized
  subst hsz
  have hD := hD0
  have hP : va_P D vwCl [] s.heap := hP
  have hl := lv_entry [.int x, .int 19, .null] (n := 3) (Nat.le_of_ble_eq_true rfl)
  rw [lg_entry_eq]
  generalize (lg_sl [.int x, .int 19, .null] ++ List.replicate (3 - (lg_sl [.int x, .int 19, .null]).length) Slot.unset).toArray = ls at hl ⊢
  have hl : lv_has ls 3 [(0, .int x), (1, .int 19), (2, .null)] := hl
  refine lv_iload_n hx hb dJ3_checkIndex_8e157_0 rfl (lv_at hl 0 rfl) ?_
  refine lv_if_lt (tgt := 9) hx hb dJ3_checkIndex_8e157_1 (by decide) (fun c_1 => ?_) (fun c_1 => ?_)
  · have c_1i := i_lt (x := X) (y := 0) qx rfl c_1
    exfalso; omega
  · have c_1i := i_nlt (x := X) (y := 0) qx rfl c_1
    refine lv_iload_n hx hb dJ3_checkIndex_8e157_4 rfl (lv_at hl 0 rfl) ?_
    refine lv_iload_n hx hb dJ3_checkIndex_8e157_5 rfl (lv_at hl 1 rfl) ?_
    refine lv_icmp_lt (tgt := 16) hx hb dJ3_checkIndex_8e157_6 (by decide) (fun c_2 => ?_) (fun c_2 => ?_)
    · have c_2i := i_lt (x := X) (y := 19) qx rfl c_2
      refine lv_iload_n hx hb dJ3_checkIndex_8e157_16 rfl (lv_at hl 0 rfl) ?_
      exact W.iret (v := x) hx hb hr (fun t ht hW => ⟨_, rfl, (by first | exact rfl), ht⟩) (fun q hq => by cases hq) dJ3_checkIndex_8e157_17
    · have c_2i := i_nlt (x := X) (y := 19) qx rfl c_2
      exfalso; omega
set_option maxHeartbeats 4000000 in
set_option maxRecDepth 100000 in
theorem j_check3_19_1 (l : Launch) (D : va_G) (K : Nat → ClassId) (x : Int32) (a9 : Nat) (X : Int) (sz : Nat) (qx : x.toInt = X) (hix : 0 ≤ X ∧ X < 19) : Met l yJ3_checkIndex_8e157 wsJ3_checkIndex_8e157 ({ frames := 0, cells := 0, slots := 0, locals := 0 }) (va_Pc [.int x, .int 19, .ref a9] (Pre D K [] sz)) (vp_Si (fun r : Int32 => (r = x))) 0 0 (fun _ => False) := by
  refine Met.ofW (cc := cJ3_checkIndex_8e157) (maxL := 3) (ret := (some .int)) (by decide) rfl ?_
  intro p e s m args below meth c s₁ B hml hv
  obtain ⟨rfl, hsz, hP, hK, hD0, hN⟩ := hv
  have hx := B.exec
  have hb := B.bytes
  have hr := B.returns
  have hts := atoms_spec (ws := wsJ3_checkIndex_8e157) B.pre
  have hown : s.vm.findClass RJ3 = some m.cls := findClass_of_methodNamed B.named
  have hlocks := B.notSynchronized
  subst hsz
  have hD := hD0
  have hP : va_P D vwCl [] s.heap := hP
  have hl := lv_entry [.int x, .int 19, .ref a9] (n := 3) (Nat.le_of_ble_eq_true rfl)
  rw [lg_entry_eq]
  generalize (lg_sl [.int x, .int 19, .ref a9] ++ List.replicate (3 - (lg_sl [.int x, .int 19, .ref a9]).length) Slot.unset).toArray = ls at hl ⊢
  have hl : lv_has ls 3 [(0, .int x), (1, .int 19), (2, .ref a9)] := hl
  refine lv_iload_n hx hb dJ3_checkIndex_8e157_0 rfl (lv_at hl 0 rfl) ?_
  refine lv_if_lt (tgt := 9) hx hb dJ3_checkIndex_8e157_1 (by decide) (fun c_1 => ?_) (fun c_1 => ?_)
  · have c_1i := i_lt (x := X) (y := 0) qx rfl c_1
    exfalso; omega
  · have c_1i := i_nlt (x := X) (y := 0) qx rfl c_1
    refine lv_iload_n hx hb dJ3_checkIndex_8e157_4 rfl (lv_at hl 0 rfl) ?_
    refine lv_iload_n hx hb dJ3_checkIndex_8e157_5 rfl (lv_at hl 1 rfl) ?_
    refine lv_icmp_lt (tgt := 16) hx hb dJ3_checkIndex_8e157_6 (by decide) (fun c_2 => ?_) (fun c_2 => ?_)
    · have c_2i := i_lt (x := X) (y := 19) qx rfl c_2
      refine lv_iload_n hx hb dJ3_checkIndex_8e157_16 rfl (lv_at hl 0 rfl) ?_
      exact W.iret (v := x) hx hb hr (fun t ht hW => ⟨_, rfl, (by first | exact rfl), ht⟩) (fun q hq => by cases hq) dJ3_checkIndex_8e157_17
    · have c_2i := i_nlt (x := X) (y := 19) qx rfl c_2
      exfalso; omega
set_option maxHeartbeats 4000000 in
set_option maxRecDepth 100000 in
theorem j_check_19 (l : Launch) (D : va_G) (K : Nat → ClassId) (x : Int32) (g : Nat → Nat) (X : Int) (sz : Nat) (qx : x.toInt = X) (hix : 0 ≤ X ∧ X < 19) : Met l yJ0_checkIndex_df160 wsJ0_checkIndex_df160 ({ frames := 1, cells := 0, slots := 0, locals := 22 }) (va_Pc [.int x, .int 19] (PreX D K [] sz g (fun _ => False))) (va_Sv (fun _ => True)) 0 0 (fun _ => False) := by
  refine Met.ofW (cc := cJ0_checkIndex_df160) (maxL := 2) (ret := none) (by decide) rfl ?_
  intro p e s m args below meth c s₁ B hml hv
  obtain ⟨rfl, ⟨hsz, hP, hK, hD0, hN⟩, hG⟩ := hv
  have hx := B.exec
  have hb := B.bytes
  have hr := B.returns
  have hts := atoms_spec (ws := wsJ0_checkIndex_df160) B.pre
  have hown : s.vm.findClass RJ0 = some m.cls := findClass_of_methodNamed B.named
  have hlocks := B.notSynchronized
  subst hsz
  have hD := hD0
  have hS : va_S (fun _ => False) s.heap s.heap [] := va_S.rf
  have hP : va_P D vwCl [] s.heap := hP
  have hl := lv_entry [.int x, .int 19] (n := 2) (Nat.le_of_ble_eq_true rfl)
  rw [lg_entry_eq]
  generalize (lg_sl [.int x, .int 19] ++ List.replicate (2 - (lg_sl [.int x, .int 19]).length) Slot.unset).toArray = ls at hl ⊢
  have hl : lv_has ls 2 [(0, .int x), (1, .int 19)] := hl
  refine lv_iload_n hx hb dJ0_checkIndex_df160_0 rfl (lv_at hl 0 rfl) ?_
  refine lv_iload_n hx hb dJ0_checkIndex_df160_1 rfl (lv_at hl 1 rfl) ?_
  rcases hG.2.1.2 with hZq | ⟨tq, hZq⟩
  · refine va_gets hx hb hZq hS hown (hts (.fieldLink RJ0 1053 "jdk/internal/util/Preconditions" "SIOOBE_FORMATTER" "Ljava/util/function/BiFunction;") (List.mem_cons_of_mem _ (List.mem_of_getElem? (i := 0) rfl))) (fun _ h9 => h9) dJ0_checkIndex_df160_2 ?_
    refine pci (va_runS (As := [.int x, .int 19, .null]) (rest := []) ⟨hx, hb, hml, hown, hts⟩ (j_check3_19_0 l D K x X s.heap.size qx (by omega)) (va_cwS 3 hts gJ0_checkIndex_df160_J3_checkIndex_8e157 rfl rfl rfl (by decide +kernel) ⟨Nat.le_of_ble_eq_true rfl, Nat.le_of_ble_eq_true rfl⟩) (mkS hK hN (hP.sub [] rfl) (hD.sub [] (by decide) rfl)) rfl rfl hl.1 rfl (lv_room (Nat.le_of_ble_eq_true rfl)) dJ0_checkIndex_df160_5 ⟨Nat.le_of_ble_eq_true rfl, Nat.le_of_ble_eq_true rfl⟩) (fun r_1 hw => ?_)
    obtain rfl : r_1 = x := hw
    refine lv_pop hx hb dJ0_checkIndex_df160_8 rfl ?_
    exact W.vret hx hb hr (fun t ht hW => ⟨rfl, trivial, ht⟩) (fun q hq => by cases hq) dJ0_checkIndex_df160_9
  · refine va_gets hx hb hZq hS hown (hts (.fieldLink RJ0 1053 "jdk/internal/util/Preconditions" "SIOOBE_FORMATTER" "Ljava/util/function/BiFunction;") (List.mem_cons_of_mem _ (List.mem_of_getElem? (i := 0) rfl))) (fun _ h9 => h9) dJ0_checkIndex_df160_2 ?_
    refine pci (va_runS (As := [.int x, .int 19, .ref tq]) (rest := []) ⟨hx, hb, hml, hown, hts⟩ (j_check3_19_1 l D K x tq X s.heap.size qx (by omega)) (va_cwS 3 hts gJ0_checkIndex_df160_J3_checkIndex_8e157 rfl rfl rfl (by decide +kernel) ⟨Nat.le_of_ble_eq_true rfl, Nat.le_of_ble_eq_true rfl⟩) (mkS hK hN (hP.sub [] rfl) (hD.sub [] (by decide) rfl)) rfl rfl hl.1 rfl (lv_room (Nat.le_of_ble_eq_true rfl)) dJ0_checkIndex_df160_5 ⟨Nat.le_of_ble_eq_true rfl, Nat.le_of_ble_eq_true rfl⟩) (fun r_2 hw => ?_)
    obtain rfl : r_2 = x := hw
    refine lv_pop hx hb dJ0_checkIndex_df160_8 rfl ?_
    exact W.vret hx hb hr (fun t ht hW => ⟨rfl, trivial, ht⟩) (fun q hq => by cases hq) dJ0_checkIndex_df160_9
set_option maxHeartbeats 4000000 in
set_option maxRecDepth 100000 in
theorem j_coder_0 (l : Launch) (D : va_G) (K : Nat → ClassId) (g : Nat → Nat) (sz : Nat) : Met l yJ0_coder_7d493 wsJ0_coder_7d493 ({ frames := 0, cells := 0, slots := 0, locals := 0 }) (va_Pc [.ref (g 2)] (PreX D K [] sz g (fun _ => False))) (vp_Si (fun r : Int32 => (r = 0))) 0 0 (fun _ => False) := by
  refine Met.ofW (cc := cJ0_coder_7d493) (maxL := 1) (ret := (some .byte)) (by decide) rfl ?_
  intro p e s m args below meth c s₁ B hml hv
  obtain ⟨rfl, ⟨hsz, hP, hK, hD0, hN⟩, hG⟩ := hv
  have hx := B.exec
  have hb := B.bytes
  have hr := B.returns
  have hts := atoms_spec (ws := wsJ0_coder_7d493) B.pre
  have hown : s.vm.findClass RJ0 = some m.cls := findClass_of_methodNamed B.named
  have hlocks := B.notSynchronized
  subst hsz
  have hD := hD0
  have hS : va_S (fun _ => False) s.heap s.heap [] := va_S.rf
  have hP : va_P D vwCl [] s.heap := hP
  have hl := lv_entry [.ref (g 2)] (n := 1) (Nat.le_of_ble_eq_true rfl)
  rw [lg_entry_eq]
  generalize (lg_sl [.ref (g 2)] ++ List.replicate (1 - (lg_sl [.ref (g 2)]).length) Slot.unset).toArray = ls at hl ⊢
  have hl : lv_has ls 1 [(0, .ref (g 2))] := hl
  refine va_gets hx hb hG.2.1.1 hS hown (hts (.fieldLink RJ0 38 "java/lang/String" "COMPACT_STRINGS" "Z") (List.mem_cons_of_mem _ (List.mem_of_getElem? (i := 0) rfl))) (fun _ h9 => h9) dJ0_coder_7d493_0 ?_
  refine lv_if_eq (tgt := 13) hx hb dJ0_coder_7d493_3 (by decide) (fun c_1 => absurd c_1 (by decide)) (fun c_1 => ?_)
  refine lv_aload_n hx hb dJ0_coder_7d493_6 rfl (lv_at hl 0 rfl) ?_
  refine vk_getf hx hb hG.2.2.1.2.2.1 hS hown (hts (.fieldLink RJ0 15 "java/lang/String" "coder" "B") (List.mem_cons_of_mem _ (List.mem_of_getElem? (i := 1) rfl))) (fun _ h9 => h9) dJ0_coder_7d493_7 ?_
  refine lv_goto (tgt := 14) hx hb dJ0_coder_7d493_10 (by decide) ?_
  exact W.zret (v := 0) hx hb hr (by first | rfl | decide | exact pk_nc _ | assumption) (fun t ht hW => ⟨_, rfl, (by first | exact rfl), ht⟩) (fun q hq => by cases hq) dJ0_coder_7d493_14
set_option maxHeartbeats 4000000 in
set_option maxRecDepth 100000 in
theorem j_latin_0 (l : Launch) (D : va_G) (K : Nat → ClassId) (g : Nat → Nat) (sz : Nat) : Met l yJ0_isLatin1_aae02 wsJ0_isLatin1_aae02 ({ frames := 0, cells := 0, slots := 0, locals := 0 }) (va_Pc [.ref (g 2)] (PreX D K [] sz g (fun _ => False))) (vp_Si (fun r : Int32 => (r = 1))) 0 0 (fun _ => False) := by
  refine Met.ofW (cc := cJ0_isLatin1_aae02) (maxL := 1) (ret := (some .boolean)) (by decide) rfl ?_
  intro p e s m args below meth c s₁ B hml hv
  obtain ⟨rfl, ⟨hsz, hP, hK, hD0, hN⟩, hG⟩ := hv
  have hx := B.exec
  have hb := B.bytes
  have hr := B.returns
  have hts := atoms_spec (ws := wsJ0_isLatin1_aae02) B.pre
  have hown : s.vm.findClass RJ0 = some m.cls := findClass_of_methodNamed B.named
  have hlocks := B.notSynchronized
  subst hsz
  have hD := hD0
  have hS : va_S (fun _ => False) s.heap s.heap [] := va_S.rf
  have hP : va_P D vwCl [] s.heap := hP
  have hl := lv_entry [.ref (g 2)] (n := 1) (Nat.le_of_ble_eq_true rfl)
  rw [lg_entry_eq]
  generalize (lg_sl [.ref (g 2)] ++ List.replicate (1 - (lg_sl [.ref (g 2)]).length) Slot.unset).toArray = ls at hl ⊢
  have hl : lv_has ls 1 [(0, .ref (g 2))] := hl
  refine va_gets hx hb hG.2.1.1 hS hown (hts (.fieldLink RJ0 38 "java/lang/String" "COMPACT_STRINGS" "Z") (List.mem_cons_of_mem _ (List.mem_of_getElem? (i := 0) rfl))) (fun _ h9 => h9) dJ0_isLatin1_aae02_0 ?_
  refine lv_if_eq (tgt := 17) hx hb dJ0_isLatin1_aae02_3 (by decide) (fun c_1 => absurd c_1 (by decide)) (fun c_1 => ?_)
  refine lv_aload_n hx hb dJ0_isLatin1_aae02_6 rfl (lv_at hl 0 rfl) ?_
  refine vk_getf hx hb hG.2.2.1.2.2.1 hS hown (hts (.fieldLink RJ0 15 "java/lang/String" "coder" "B") (List.mem_cons_of_mem _ (List.mem_of_getElem? (i := 1) rfl))) (fun _ h9 => h9) dJ0_isLatin1_aae02_7 ?_
  refine lv_if_ne (tgt := 17) hx hb dJ0_isLatin1_aae02_10 (by decide) (fun c_2 => absurd (by decide) c_2) (fun c_2 => ?_)
  refine lv_iconst (v := 1) hx hb dJ0_isLatin1_aae02_13 (by decide) ?_
  refine lv_goto (tgt := 18) hx hb dJ0_isLatin1_aae02_14 (by decide) ?_
  exact W.zret (v := 1) hx hb hr (by first | rfl | decide | exact pk_nc _ | assumption) (fun t ht hW => ⟨_, rfl, (by first | exact rfl), ht⟩) (fun q hq => by cases hq) dJ0_isLatin1_aae02_18
set_option maxHeartbeats 4000000 in
set_option maxRecDepth 100000 in
theorem j_length_0 (l : Launch) (D : va_G) (K : Nat → ClassId) (g : Nat → Nat) (sz : Nat) : Met l yJ0_length_8abf5 wsJ0_length_8abf5 ({ frames := 1, cells := 0, slots := 0, locals := 20 }) (va_Pc [.ref (g 2)] (PreX D K [] sz g (fun _ => False))) (vp_Si (fun r : Int32 => (r = 23))) 0 0 (fun _ => False) := by
  refine Met.ofW (cc := cJ0_length_8abf5) (maxL := 1) (ret := (some .int)) (by decide) rfl ?_
  intro p e s m args below meth c s₁ B hml hv
  obtain ⟨rfl, ⟨hsz, hP, hK, hD0, hN⟩, hG⟩ := hv
  have hx := B.exec
  have hb := B.bytes
  have hr := B.returns
  have hts := atoms_spec (ws := wsJ0_length_8abf5) B.pre
  have hown : s.vm.findClass RJ0 = some m.cls := findClass_of_methodNamed B.named
  have hlocks := B.notSynchronized
  subst hsz
  have hD := hD0
  have hS : va_S (fun _ => False) s.heap s.heap [] := va_S.rf
  have hP : va_P D vwCl [] s.heap := hP
  have hl := lv_entry [.ref (g 2)] (n := 1) (Nat.le_of_ble_eq_true rfl)
  rw [lg_entry_eq]
  generalize (lg_sl [.ref (g 2)] ++ List.replicate (1 - (lg_sl [.ref (g 2)]).length) Slot.unset).toArray = ls at hl ⊢
  have hl : lv_has ls 1 [(0, .ref (g 2))] := hl
  refine lv_aload_n hx hb dJ0_length_8abf5_0 rfl (lv_at hl 0 rfl) ?_
  refine vk_getf hx hb hG.2.2.1.2.2.2.1 hS hown (hts (.fieldLink RJ0 9 "java/lang/String" "value" "[B") (List.mem_cons_of_mem _ (List.mem_of_getElem? (i := 0) rfl))) (fun _ h9 => h9) dJ0_length_8abf5_1 ?_
  refine va_tlen (v := 23) hx hb hG.2.2.1.2.2.2.2 hS rfl dJ0_length_8abf5_4 ?_
  refine lv_aload_n hx hb dJ0_length_8abf5_5 rfl (lv_at hl 0 rfl) ?_
  refine pci (va_runV (As := []) (rest := [.int 23]) ⟨hx, hb, hml, hown, hts⟩ (j_coder_0 l D K g s.heap.size) (cwV 0 hts gJ0_length_8abf5_J0_coder_7d493 rfl rfl rfl (by decide +kernel) ⟨Nat.le_of_ble_eq_true rfl, Nat.le_of_ble_eq_true rfl⟩) (mkVS hK hN hG.2.2.1.2 hS (fun U hU hW => Gl.atF hG hS hW hU)) rfl rfl hl.1 rfl (lv_room (Nat.le_of_ble_eq_true rfl)) dJ0_length_8abf5_6 ⟨Nat.le_of_ble_eq_true rfl, Nat.le_of_ble_eq_true rfl⟩) (fun r_1 hw => ?_)
  obtain rfl : r_1 = 0 := hw
  refine lv_ishr hx hb dJ0_length_8abf5_9 ?_
  refine lv_topi (fun x_2 ex_2 => ?_)
  obtain rfl : x_2 = 23 := ex_2.trans (by first | rfl | decide)
  exact W.iret (v := 23) hx hb hr (fun t ht hW => ⟨_, rfl, (by first | exact rfl), ht⟩) (fun q hq => by cases hq) dJ0_length_8abf5_10
set_option maxHeartbeats 4000000 in
set_option maxRecDepth 100000 in
theorem j_char1_0 (l : Launch) (D : va_G) (K : Nat → ClassId) (x : Int32) (g : Nat → Nat) (X : Int) (sz : Nat) (qx : x.toInt = X) (hix : 0 ≤ X ∧ X < 23) : Met l yJ1_charAt_3b067 wsJ1_charAt_3b067 ({ frames := 2, cells := 0, slots := 0, locals := 43 }) (va_Pc [.ref (g 3), .int x] (PreX D K [] sz g (fun _ => False))) (vp_Si (fun r : Int32 => narrow .char (.int r) = .int r)) 0 0 (fun _ => False) := by
  refine Met.ofW (cc := cJ1_charAt_3b067) (maxL := 2) (ret := (some .char)) (by decide) rfl ?_
  intro p e s m args below meth c s₁ B hml hv
  obtain ⟨rfl, ⟨hsz, hP, hK, hD0, hN⟩, hG⟩ := hv
  have hx := B.exec
  have hb := B.bytes
  have hr := B.returns
  have hts := atoms_spec (ws := wsJ1_charAt_3b067) B.pre
  have hown : s.vm.findClass RJ1 = some m.cls := findClass_of_methodNamed B.named
  have hlocks := B.notSynchronized
  subst hsz
  have hD := hD0
  have hS : va_S (fun _ => False) s.heap s.heap [] := va_S.rf
  have hP : va_P D vwCl [] s.heap := hP
  have hl := lv_entry [.ref (g 3), .int x] (n := 2) (Nat.le_of_ble_eq_true rfl)
  rw [lg_entry_eq]
  generalize (lg_sl [.ref (g 3), .int x] ++ List.replicate (2 - (lg_sl [.ref (g 3), .int x]).length) Slot.unset).toArray = ls at hl ⊢
  have hl : lv_has ls 2 [(0, .ref (g 3)), (1, .int x)] := hl
  refine lv_iload_n hx hb dJ1_charAt_3b067_0 rfl (lv_at hl 1 rfl) ?_
  refine lv_aload_n hx hb dJ1_charAt_3b067_1 rfl (lv_at hl 0 rfl) ?_
  refine va_tlen (v := 23) hx hb hG.2.2.1.2.2.2.2 hS rfl dJ1_charAt_3b067_2 ?_
  refine pcv (va_runS (As := [.int x, .int 23]) (rest := []) ⟨hx, hb, hml, hown, hts⟩ (j_check_23 l D K x g X s.heap.size qx (by omega)) (va_cwS 2 hts gJ1_charAt_3b067_J0_checkIndex_df160 rfl rfl rfl (by decide +kernel) ⟨Nat.le_of_ble_eq_true rfl, Nat.le_of_ble_eq_true rfl⟩) (mkSX hK hN (hP.sub [] rfl) (hD.sub [] (by decide) rfl) (fun U hU hW => Gl.atF hG hS hW hU)) rfl rfl hl.1 rfl (lv_room (Nat.le_of_ble_eq_true rfl)) dJ1_charAt_3b067_3 ⟨Nat.le_of_ble_eq_true rfl, Nat.le_of_ble_eq_true rfl⟩) (fun hw => ?_)
  refine lv_aload_n hx hb dJ1_charAt_3b067_6 rfl (lv_at hl 0 rfl) ?_
  refine lv_iload_n hx hb dJ1_charAt_3b067_7 rfl (lv_at hl 1 rfl) ?_
  refine va_tb (v := .int (sb0 (x : Int32).toNatClampNeg)) hx hb hG.2.2.1.2.2.2.2 hS (i_in qx (by omega)) rfl dJ1_charAt_3b067_8 ?_
  refine lv_topi (fun x_2 ex_2 => ?_)
  refine lv_sipush (v := 255) hx hb dJ1_charAt_3b067_9 (by decide) ?_
  refine lv_iand hx hb dJ1_charAt_3b067_12 ?_
  refine lv_topi (fun x_3 ex_3 => ?_)
  refine lv_i2c hx hb dJ1_charAt_3b067_13 rfl ?_
  exact W.zret (v := (x_3.toUInt32 % 65536).toInt32) hx hb hr (by first | rfl | decide | exact pk_nc _ | assumption) (fun t ht hW => ⟨_, rfl, pk_nc _, ht⟩) (fun q hq => by cases hq) dJ1_charAt_3b067_14
set_option maxHeartbeats 4000000 in
set_option maxRecDepth 100000 in
theorem j_char_0 (l : Launch) (D : va_G) (K : Nat → ClassId) (x : Int32) (g : Nat → Nat) (X : Int) (sz : Nat) (qx : x.toInt = X) (hix : 0 ≤ X ∧ X < 23) : Met l yJ0_charAt_5068e wsJ0_charAt_5068e ({ frames := 3, cells := 0, slots := 0, locals := 64 }) (va_Pc [.ref (g 2), .int x] (PreX D K [] sz g (fun _ => False))) (vp_Si (fun r : Int32 => narrow .char (.int r) = .int r)) 0 0 (fun _ => False) := by
  refine Met.ofW (cc := cJ0_charAt_5068e) (maxL := 2) (ret := (some .char)) (by decide) rfl ?_
  intro p e s m args below meth c s₁ B hml hv
  obtain ⟨rfl, ⟨hsz, hP, hK, hD0, hN⟩, hG⟩ := hv
  have hx := B.exec
  have hb := B.bytes
  have hr := B.returns
  have hts := atoms_spec (ws := wsJ0_charAt_5068e) B.pre
  have hown : s.vm.findClass RJ0 = some m.cls := findClass_of_methodNamed B.named
  have hlocks := B.notSynchronized
  subst hsz
  have hD := hD0
  have hS : va_S (fun _ => False) s.heap s.heap [] := va_S.rf
  have hP : va_P D vwCl [] s.heap := hP
  have hl := lv_entry [.ref (g 2), .int x] (n := 2) (Nat.le_of_ble_eq_true rfl)
  rw [lg_entry_eq]
  generalize (lg_sl [.ref (g 2), .int x] ++ List.replicate (2 - (lg_sl [.ref (g 2), .int x]).length) Slot.unset).toArray = ls at hl ⊢
  have hl : lv_has ls 2 [(0, .ref (g 2)), (1, .int x)] := hl
  refine lv_aload_n hx hb dJ0_charAt_5068e_0 rfl (lv_at hl 0 rfl) ?_
  refine pci (va_runV (As := []) (rest := []) ⟨hx, hb, hml, hown, hts⟩ (j_latin_0 l D K g s.heap.size) (cwV 0 hts gJ0_charAt_5068e_J0_isLatin1_aae02 rfl rfl rfl (by decide +kernel) ⟨Nat.le_of_ble_eq_true rfl, Nat.le_of_ble_eq_true rfl⟩) (mkVS hK hN hG.2.2.1.2 hS (fun U hU hW => Gl.atF hG hS hW hU)) rfl rfl hl.1 rfl (lv_room (Nat.le_of_ble_eq_true rfl)) dJ0_charAt_5068e_1 ⟨Nat.le_of_ble_eq_true rfl, Nat.le_of_ble_eq_true rfl⟩) (fun r_1 hw => ?_)
  obtain rfl : r_1 = 1 := hw
  refine lv_if_eq (tgt := 16) hx hb dJ0_charAt_5068e_4 (by decide) (fun c_2 => absurd c_2 (by decide)) (fun c_2 => ?_)
  refine lv_aload_n hx hb dJ0_charAt_5068e_7 rfl (lv_at hl 0 rfl) ?_
  refine vk_getf hx hb hG.2.2.1.2.2.2.1 hS hown (hts (.fieldLink RJ0 9 "java/lang/String" "value" "[B") (List.mem_cons_of_mem _ (List.mem_append_left _ (List.mem_of_getElem? (i := 0) rfl)))) (fun _ h9 => h9) dJ0_charAt_5068e_8 ?_
  refine lv_iload_n hx hb dJ0_charAt_5068e_11 rfl (lv_at hl 1 rfl) ?_
  refine pci (va_runS (As := [.ref (g 3), .int x]) (rest := []) ⟨hx, hb, hml, hown, hts⟩ (j_char1_0 l D K x g X s.heap.size qx (by omega)) (va_cwS 2 hts gJ0_charAt_5068e_J1_charAt_3b067 rfl rfl rfl (by decide +kernel) ⟨Nat.le_of_ble_eq_true rfl, Nat.le_of_ble_eq_true rfl⟩) (mkSX hK hN (hP.sub [] rfl) (hD.sub [] (by decide) rfl) (fun U hU hW => Gl.atF hG hS hW hU)) rfl rfl hl.1 rfl (lv_room (Nat.le_of_ble_eq_true rfl)) dJ0_charAt_5068e_12 ⟨Nat.le_of_ble_eq_true rfl, Nat.le_of_ble_eq_true rfl⟩) (fun r_3 hw => ?_)
  exact W.zret (v := r_3) hx hb hr (by first | rfl | decide | exact pk_nc _ | assumption) (fun t ht hW => ⟨_, rfl, hw, ht⟩) (fun q hq => by cases hq) dJ0_charAt_5068e_15
set_option maxHeartbeats 4000000 in
set_option maxRecDepth 100000 in
theorem j_coder_1 (l : Launch) (D : va_G) (K : Nat → ClassId) (g : Nat → Nat) (sz : Nat) : Met l yJ0_coder_7d493 wsJ0_coder_7d493 ({ frames := 0, cells := 0, slots := 0, locals := 0 }) (va_Pc [.ref (g 4)] (PreX D K [] sz g (fun _ => False))) (vp_Si (fun r : Int32 => (r = 0))) 0 0 (fun _ => False) := by
  refine Met.ofW (cc := cJ0_coder_7d493) (maxL := 1) (ret := (some .byte)) (by decide) rfl ?_
  intro p e s m args below meth c s₁ B hml hv
  obtain ⟨rfl, ⟨hsz, hP, hK, hD0, hN⟩, hG⟩ := hv
  have hx := B.exec
  have hb := B.bytes
  have hr := B.returns
  have hts := atoms_spec (ws := wsJ0_coder_7d493) B.pre
  have hown : s.vm.findClass RJ0 = some m.cls := findClass_of_methodNamed B.named
  have hlocks := B.notSynchronized
  subst hsz
  have hD := hD0
  have hS : va_S (fun _ => False) s.heap s.heap [] := va_S.rf
  have hP : va_P D vwCl [] s.heap := hP
  have hl := lv_entry [.ref (g 4)] (n := 1) (Nat.le_of_ble_eq_true rfl)
  rw [lg_entry_eq]
  generalize (lg_sl [.ref (g 4)] ++ List.replicate (1 - (lg_sl [.ref (g 4)]).length) Slot.unset).toArray = ls at hl ⊢
  have hl : lv_has ls 1 [(0, .ref (g 4))] := hl
  refine va_gets hx hb hG.2.1.1 hS hown (hts (.fieldLink RJ0 38 "java/lang/String" "COMPACT_STRINGS" "Z") (List.mem_cons_of_mem _ (List.mem_of_getElem? (i := 0) rfl))) (fun _ h9 => h9) dJ0_coder_7d493_0 ?_
  refine lv_if_eq (tgt := 13) hx hb dJ0_coder_7d493_3 (by decide) (fun c_1 => absurd c_1 (by decide)) (fun c_1 => ?_)
  refine lv_aload_n hx hb dJ0_coder_7d493_6 rfl (lv_at hl 0 rfl) ?_
  refine vk_getf hx hb hG.2.2.2.2.2.1 hS hown (hts (.fieldLink RJ0 15 "java/lang/String" "coder" "B") (List.mem_cons_of_mem _ (List.mem_of_getElem? (i := 1) rfl))) (fun _ h9 => h9) dJ0_coder_7d493_7 ?_
  refine lv_goto (tgt := 14) hx hb dJ0_coder_7d493_10 (by decide) ?_
  exact W.zret (v := 0) hx hb hr (by first | rfl | decide | exact pk_nc _ | assumption) (fun t ht hW => ⟨_, rfl, (by first | exact rfl), ht⟩) (fun q hq => by cases hq) dJ0_coder_7d493_14
set_option maxHeartbeats 4000000 in
set_option maxRecDepth 100000 in
theorem j_latin_1 (l : Launch) (D : va_G) (K : Nat → ClassId) (g : Nat → Nat) (sz : Nat) : Met l yJ0_isLatin1_aae02 wsJ0_isLatin1_aae02 ({ frames := 0, cells := 0, slots := 0, locals := 0 }) (va_Pc [.ref (g 4)] (PreX D K [] sz g (fun _ => False))) (vp_Si (fun r : Int32 => (r = 1))) 0 0 (fun _ => False) := by
  refine Met.ofW (cc := cJ0_isLatin1_aae02) (maxL := 1) (ret := (some .boolean)) (by decide) rfl ?_
  intro p e s m args below meth c s₁ B hml hv
  obtain ⟨rfl, ⟨hsz, hP, hK, hD0, hN⟩, hG⟩ := hv
  have hx := B.exec
  have hb := B.bytes
  have hr := B.returns
  have hts := atoms_spec (ws := wsJ0_isLatin1_aae02) B.pre
  have hown : s.vm.findClass RJ0 = some m.cls := findClass_of_methodNamed B.named
  have hlocks := B.notSynchronized
  subst hsz
  have hD := hD0
  have hS : va_S (fun _ => False) s.heap s.heap [] := va_S.rf
  have hP : va_P D vwCl [] s.heap := hP
  have hl := lv_entry [.ref (g 4)] (n := 1) (Nat.le_of_ble_eq_true rfl)
  rw [lg_entry_eq]
  generalize (lg_sl [.ref (g 4)] ++ List.replicate (1 - (lg_sl [.ref (g 4)]).length) Slot.unset).toArray = ls at hl ⊢
  have hl : lv_has ls 1 [(0, .ref (g 4))] := hl
  refine va_gets hx hb hG.2.1.1 hS hown (hts (.fieldLink RJ0 38 "java/lang/String" "COMPACT_STRINGS" "Z") (List.mem_cons_of_mem _ (List.mem_of_getElem? (i := 0) rfl))) (fun _ h9 => h9) dJ0_isLatin1_aae02_0 ?_
  refine lv_if_eq (tgt := 17) hx hb dJ0_isLatin1_aae02_3 (by decide) (fun c_1 => absurd c_1 (by decide)) (fun c_1 => ?_)
  refine lv_aload_n hx hb dJ0_isLatin1_aae02_6 rfl (lv_at hl 0 rfl) ?_
  refine vk_getf hx hb hG.2.2.2.2.2.1 hS hown (hts (.fieldLink RJ0 15 "java/lang/String" "coder" "B") (List.mem_cons_of_mem _ (List.mem_of_getElem? (i := 1) rfl))) (fun _ h9 => h9) dJ0_isLatin1_aae02_7 ?_
  refine lv_if_ne (tgt := 17) hx hb dJ0_isLatin1_aae02_10 (by decide) (fun c_2 => absurd (by decide) c_2) (fun c_2 => ?_)
  refine lv_iconst (v := 1) hx hb dJ0_isLatin1_aae02_13 (by decide) ?_
  refine lv_goto (tgt := 18) hx hb dJ0_isLatin1_aae02_14 (by decide) ?_
  exact W.zret (v := 1) hx hb hr (by first | rfl | decide | exact pk_nc _ | assumption) (fun t ht hW => ⟨_, rfl, (by first | exact rfl), ht⟩) (fun q hq => by cases hq) dJ0_isLatin1_aae02_18
