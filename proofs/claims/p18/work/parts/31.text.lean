theorem dJ3_checkIndex_8e157_0 : decode cJ3_checkIndex_8e157 0 = .ok (.iload_n 0, 1) := by decide +kernel
theorem dJ3_checkIndex_8e157_1 : decode cJ3_checkIndex_8e157 1 = .ok (.ifCond .lt 8, 3) := by decide +kernel
theorem dJ3_checkIndex_8e157_4 : decode cJ3_checkIndex_8e157 4 = .ok (.iload_n 0, 1) := by decide +kernel
theorem dJ3_checkIndex_8e157_5 : decode cJ3_checkIndex_8e157 5 = .ok (.iload_n 1, 1) := by decide +kernel
theorem dJ3_checkIndex_8e157_6 : decode cJ3_checkIndex_8e157 6 = .ok (.if_icmp .lt 10, 3) := by decide +kernel
theorem dJ3_checkIndex_8e157_16 : decode cJ3_checkIndex_8e157 16 = .ok (.iload_n 0, 1) := by decide +kernel
theorem dJ3_checkIndex_8e157_17 : decode cJ3_checkIndex_8e157 17 = .ok (.ireturn, 1) := by decide +kernel
theorem dJ0_checkIndex_df160_0 : decode cJ0_checkIndex_df160 0 = .ok (.iload_n 0, 1) := by decide +kernel
theorem dJ0_checkIndex_df160_1 : decode cJ0_checkIndex_df160 1 = .ok (.iload_n 1, 1) := by decide +kernel
theorem dJ0_checkIndex_df160_2 : decode cJ0_checkIndex_df160 2 = .ok (.getstatic 1053, 3) := by decide +kernel
theorem dJ0_checkIndex_df160_5 : decode cJ0_checkIndex_df160 5 = .ok (.invokestatic 1059, 3) := by decide +kernel
theorem dJ0_checkIndex_df160_8 : decode cJ0_checkIndex_df160 8 = .ok (.pop, 1) := by decide +kernel
theorem dJ0_checkIndex_df160_9 : decode cJ0_checkIndex_df160 9 = .ok (.return_, 1) := by decide +kernel
theorem dJ0_coder_7d493_0 : decode cJ0_coder_7d493 0 = .ok (.getstatic 38, 3) := by decide +kernel
theorem dJ0_coder_7d493_3 : decode cJ0_coder_7d493 3 = .ok (.ifCond .eq 10, 3) := by decide +kernel
theorem dJ0_coder_7d493_6 : decode cJ0_coder_7d493 6 = .ok (.aload_n 0, 1) := by decide +kernel
theorem dJ0_coder_7d493_7 : decode cJ0_coder_7d493 7 = .ok (.getfield 15, 3) := by decide +kernel
theorem dJ0_coder_7d493_10 : decode cJ0_coder_7d493 10 = .ok (.goto 4, 3) := by decide +kernel
theorem dJ0_coder_7d493_14 : decode cJ0_coder_7d493 14 = .ok (.ireturn, 1) := by decide +kernel
theorem dJ0_isLatin1_aae02_0 : decode cJ0_isLatin1_aae02 0 = .ok (.getstatic 38, 3) := by decide +kernel
theorem dJ0_isLatin1_aae02_3 : decode cJ0_isLatin1_aae02 3 = .ok (.ifCond .eq 14, 3) := by decide +kernel
theorem dJ0_isLatin1_aae02_6 : decode cJ0_isLatin1_aae02 6 = .ok (.aload_n 0, 1) := by decide +kernel
theorem dJ0_isLatin1_aae02_7 : decode cJ0_isLatin1_aae02 7 = .ok (.getfield 15, 3) := by decide +kernel
theorem dJ0_isLatin1_aae02_10 : decode cJ0_isLatin1_aae02 10 = .ok (.ifCond .ne 7, 3) := by decide +kernel
theorem dJ0_isLatin1_aae02_13 : decode cJ0_isLatin1_aae02 13 = .ok (.iconst 1, 1) := by decide +kernel
theorem dJ0_isLatin1_aae02_14 : decode cJ0_isLatin1_aae02 14 = .ok (.goto 4, 3) := by decide +kernel
theorem dJ0_isLatin1_aae02_18 : decode cJ0_isLatin1_aae02 18 = .ok (.ireturn, 1) := by decide +kernel
theorem dJ0_length_8abf5_0 : decode cJ0_length_8abf5 0 = .ok (.aload_n 0, 1) := by decide +kernel
theorem dJ0_length_8abf5_1 : decode cJ0_length_8abf5 1 = .ok (.getfield 9, 3) := by decide +kernel
theorem dJ0_length_8abf5_4 : decode cJ0_length_8abf5 4 = .ok (.arraylength, 1) := by decide +kernel
theorem dJ0_length_8abf5_5 : decode cJ0_length_8abf5 5 = .ok (.aload_n 0, 1) := by decide +kernel
theorem dJ0_length_8abf5_6 : decode cJ0_length_8abf5 6 = .ok (.invokevirtual 335, 3) := by decide +kernel
theorem dJ0_length_8abf5_9 : decode cJ0_length_8abf5 9 = .ok (.ishr, 1) := by decide +kernel
theorem dJ0_length_8abf5_10 : decode cJ0_length_8abf5 10 = .ok (.ireturn, 1) := by decide +kernel
theorem dJ1_charAt_3b067_0 : decode cJ1_charAt_3b067 0 = .ok (.iload_n 1, 1) := by decide +kernel
theorem dJ1_charAt_3b067_1 : decode cJ1_charAt_3b067 1 = .ok (.aload_n 0, 1) := by decide +kernel
theorem dJ1_charAt_3b067_2 : decode cJ1_charAt_3b067 2 = .ok (.arraylength, 1) := by decide +kernel
theorem dJ1_charAt_3b067_3 : decode cJ1_charAt_3b067 3 = .ok (.invokestatic 9, 3) := by decide +kernel
theorem dJ1_charAt_3b067_6 : decode cJ1_charAt_3b067 6 = .ok (.aload_n 0, 1) := by decide +kernel
theorem dJ1_charAt_3b067_7 : decode cJ1_charAt_3b067 7 = .ok (.iload_n 1, 1) := by decide +kernel
theorem dJ1_charAt_3b067_8 : decode cJ1_charAt_3b067 8 = .ok (.baload, 1) := by decide +kernel
theorem dJ1_charAt_3b067_9 : decode cJ1_charAt_3b067 9 = .ok (.sipush 255, 3) := by decide +kernel
theorem dJ1_charAt_3b067_12 : decode cJ1_charAt_3b067 12 = .ok (.iand, 1) := by decide +kernel
theorem dJ1_charAt_3b067_13 : decode cJ1_charAt_3b067 13 = .ok (.i2c, 1) := by decide +kernel
theorem dJ1_charAt_3b067_14 : decode cJ1_charAt_3b067 14 = .ok (.ireturn, 1) := by decide +kernel
theorem dJ0_charAt_5068e_0 : decode cJ0_charAt_5068e 0 = .ok (.aload_n 0, 1) := by decide +kernel
theorem dJ0_charAt_5068e_1 : decode cJ0_charAt_5068e 1 = .ok (.invokevirtual 492, 3) := by decide +kernel
theorem dJ0_charAt_5068e_4 : decode cJ0_charAt_5068e 4 = .ok (.ifCond .eq 12, 3) := by decide +kernel
theorem dJ0_charAt_5068e_7 : decode cJ0_charAt_5068e 7 = .ok (.aload_n 0, 1) := by decide +kernel
theorem dJ0_charAt_5068e_8 : decode cJ0_charAt_5068e 8 = .ok (.getfield 9, 3) := by decide +kernel
theorem dJ0_charAt_5068e_11 : decode cJ0_charAt_5068e 11 = .ok (.iload_n 1, 1) := by decide +kernel
theorem dJ0_charAt_5068e_12 : decode cJ0_charAt_5068e 12 = .ok (.invokestatic 495, 3) := by decide +kernel
theorem dJ0_charAt_5068e_15 : decode cJ0_charAt_5068e 15 = .ok (.ireturn, 1) := by decide +kernel
theorem dX8_find_0 : decode cX8_find 0 = .ok (.iconst 0, 1) := by decide +kernel
theorem dX8_find_1 : decode cX8_find 1 = .ok (.istore_n 2, 1) := by decide +kernel
theorem dX8_find_2 : decode cX8_find 2 = .ok (.iconst 0, 1) := by decide +kernel
theorem dX8_find_3 : decode cX8_find 3 = .ok (.istore_n 3, 1) := by decide +kernel
theorem dX8_find_4 : decode cX8_find 4 = .ok (.iconst 0, 1) := by decide +kernel
theorem dX8_find_5 : decode cX8_find 5 = .ok (.istore 4, 2) := by decide +kernel
theorem dX8_find_7 : decode cX8_find 7 = .ok (.iload 4, 2) := by decide +kernel
theorem dX8_find_9 : decode cX8_find 9 = .ok (.aload_n 1, 1) := by decide +kernel
theorem dX8_find_10 : decode cX8_find 10 = .ok (.invokevirtual 38, 3) := by decide +kernel
theorem dX8_find_13 : decode cX8_find 13 = .ok (.if_icmp .gt 106, 3) := by decide +kernel
theorem dX8_find_16 : decode cX8_find 16 = .ok (.iload 4, 2) := by decide +kernel
theorem dX8_find_18 : decode cX8_find 18 = .ok (.aload_n 1, 1) := by decide +kernel
theorem dX8_find_19 : decode cX8_find 19 = .ok (.invokevirtual 38, 3) := by decide +kernel
theorem dX8_find_22 : decode cX8_find 22 = .ok (.if_icmp .ge 12, 3) := by decide +kernel
theorem dX8_find_34 : decode cX8_find 34 = .ok (.bipush 32, 2) := by decide +kernel
theorem dX8_find_36 : decode cX8_find 36 = .ok (.istore 5, 2) := by decide +kernel
theorem dX8_find_38 : decode cX8_find 38 = .ok (.iload 5, 2) := by decide +kernel
theorem dX8_find_40 : decode cX8_find 40 = .ok (.bipush 32, 2) := by decide +kernel
theorem dX8_find_42 : decode cX8_find 42 = .ok (.if_icmp .eq 47, 3) := by decide +kernel
theorem dX8_find_89 : decode cX8_find 89 = .ok (.iload_n 3, 1) := by decide +kernel
theorem dX8_find_90 : decode cX8_find 90 = .ok (.ifCond .le 18, 3) := by decide +kernel
theorem dX8_find_25 : decode cX8_find 25 = .ok (.aload_n 1, 1) := by decide +kernel
theorem dX8_find_26 : decode cX8_find 26 = .ok (.iload 4, 2) := by decide +kernel
theorem dX8_find_28 : decode cX8_find 28 = .ok (.invokevirtual 43, 3) := by decide +kernel
theorem dX8_find_31 : decode cX8_find 31 = .ok (.goto 5, 3) := by decide +kernel
theorem dX8_find_45 : decode cX8_find 45 = .ok (.iload_n 3, 1) := by decide +kernel
theorem dX8_find_46 : decode cX8_find 46 = .ok (.ifCond .lt 38, 3) := by decide +kernel
theorem dX8_find_49 : decode cX8_find 49 = .ok (.aload_n 0, 1) := by decide +kernel
theorem dX8_find_50 : decode cX8_find 50 = .ok (.getfield 19, 3) := by decide +kernel
theorem dX8_find_53 : decode cX8_find 53 = .ok (.iload_n 3, 1) := by decide +kernel
theorem dX8_find_54 : decode cX8_find 54 = .ok (.iadd, 1) := by decide +kernel
theorem dX8_find_55 : decode cX8_find 55 = .ok (.aload_n 0, 1) := by decide +kernel
theorem dX8_find_56 : decode cX8_find 56 = .ok (.getfield 22, 3) := by decide +kernel
theorem dX8_find_59 : decode cX8_find 59 = .ok (.if_icmp .ge 25, 3) := by decide +kernel
theorem dX8_find_62 : decode cX8_find 62 = .ok (.aload_n 0, 1) := by decide +kernel
theorem dX8_find_63 : decode cX8_find 63 = .ok (.getfield 11, 3) := by decide +kernel
theorem dX8_find_66 : decode cX8_find 66 = .ok (.aload_n 0, 1) := by decide +kernel
theorem dX8_find_67 : decode cX8_find 67 = .ok (.getfield 19, 3) := by decide +kernel
theorem dX8_find_70 : decode cX8_find 70 = .ok (.iload_n 3, 1) := by decide +kernel
theorem dX8_find_71 : decode cX8_find 71 = .ok (.iadd, 1) := by decide +kernel
theorem dX8_find_72 : decode cX8_find 72 = .ok (.iaload, 1) := by decide +kernel
theorem dX8_find_73 : decode cX8_find 73 = .ok (.iload 5, 2) := by decide +kernel
theorem dX8_find_75 : decode cX8_find 75 = .ok (.if_icmp .ne 9, 3) := by decide +kernel
theorem dX8_find_78 : decode cX8_find 78 = .ok (.iload_n 3, 1) := by decide +kernel
theorem dX8_find_79 : decode cX8_find 79 = .ok (.iconst 1, 1) := by decide +kernel
theorem dX8_find_80 : decode cX8_find 80 = .ok (.iadd, 1) := by decide +kernel
theorem dX8_find_81 : decode cX8_find 81 = .ok (.goto 4, 3) := by decide +kernel
theorem dX8_find_85 : decode cX8_find 85 = .ok (.istore_n 3, 1) := by decide +kernel
theorem dX8_find_86 : decode cX8_find 86 = .ok (.goto 27, 3) := by decide +kernel
theorem dX8_find_113 : decode cX8_find 113 = .ok (.iinc 4 1, 3) := by decide +kernel
theorem dX8_find_116 : decode cX8_find 116 = .ok (.goto (-109), 3) := by decide +kernel
theorem dX8_find_84 : decode cX8_find 84 = .ok (.iconst (-1), 1) := by decide +kernel
theorem dX8_find_108 : decode cX8_find 108 = .ok (.iinc 2 1, 3) := by decide +kernel
theorem dX8_find_111 : decode cX8_find 111 = .ok (.iconst 0, 1) := by decide +kernel
theorem dX8_find_112 : decode cX8_find 112 = .ok (.istore_n 3, 1) := by decide +kernel
theorem dX8_find_93 : decode cX8_find 93 = .ok (.aload_n 0, 1) := by decide +kernel
theorem dX8_find_94 : decode cX8_find 94 = .ok (.getfield 19, 3) := by decide +kernel
theorem dX8_find_97 : decode cX8_find 97 = .ok (.iload_n 3, 1) := by decide +kernel
theorem dX8_find_98 : decode cX8_find 98 = .ok (.iadd, 1) := by decide +kernel
theorem dX8_find_99 : decode cX8_find 99 = .ok (.aload_n 0, 1) := by decide +kernel
theorem dX8_find_100 : decode cX8_find 100 = .ok (.getfield 22, 3) := by decide +kernel
theorem dX8_find_103 : decode cX8_find 103 = .ok (.if_icmp .ne 5, 3) := by decide +kernel
theorem dX8_find_119 : decode cX8_find 119 = .ok (.iconst (-1), 1) := by decide +kernel
theorem dX8_find_120 : decode cX8_find 120 = .ok (.ireturn, 1) := by decide +kernel
theorem dX8_find_106 : decode cX8_find 106 = .ok (.iload_n 2, 1) := by decide +kernel
theorem dX8_find_107 : decode cX8_find 107 = .ok (.ireturn, 1) := by decide +kernel
theorem ggJ0_checkIndex_df160_J3_checkIndex_8e157 : GoodIn wsJ0_checkIndex_df160 wsJ3_checkIndex_8e157 := goodIn_q _ [5] [] rfl (by decide +kernel) (by decide +kernel)
set_option maxRecDepth 20000 in
theorem gJ0_checkIndex_df160_J3_checkIndex_8e157 : GoodIn wsJ0_checkIndex_df160 (va_wsS RJ0 1059 yJ3_checkIndex_8e157 wsJ3_checkIndex_8e157) := goodIn_app (goodIn_of _ (by decide +kernel)) ggJ0_checkIndex_df160_J3_checkIndex_8e157
theorem ggJ0_length_8abf5_J0_coder_7d493 : GoodIn wsJ0_length_8abf5 wsJ0_coder_7d493 := goodIn_q _ [6] [7, 8] rfl (by decide +kernel) (by decide +kernel)
set_option maxRecDepth 20000 in
theorem gJ0_length_8abf5_J0_coder_7d493 : GoodIn wsJ0_length_8abf5 (wsV RJ0 335 RJ0 yJ0_coder_7d493 wsJ0_coder_7d493) := goodIn_app (goodIn_of _ (by decide +kernel)) ggJ0_length_8abf5_J0_coder_7d493
theorem ggJ1_charAt_3b067_J0_checkIndex_df160 : GoodIn wsJ1_charAt_3b067 wsJ0_checkIndex_df160 := goodIn_q _ [4, 9] [5, 6, 7, 8] rfl (by decide +kernel) (by decide +kernel)
set_option maxRecDepth 20000 in
theorem gJ1_charAt_3b067_J0_checkIndex_df160 : GoodIn wsJ1_charAt_3b067 (va_wsS RJ1 9 yJ0_checkIndex_df160 wsJ0_checkIndex_df160) := goodIn_app (goodIn_of _ (by decide +kernel)) ggJ1_charAt_3b067_J0_checkIndex_df160
theorem ggJ0_charAt_5068e_J0_isLatin1_aae02 : GoodIn wsJ0_charAt_5068e wsJ0_isLatin1_aae02 := goodIn_q _ [6] [7, 8] rfl (by decide +kernel) (by decide +kernel)
set_option maxRecDepth 20000 in
theorem gJ0_charAt_5068e_J0_isLatin1_aae02 : GoodIn wsJ0_charAt_5068e (wsV RJ0 492 RJ0 yJ0_isLatin1_aae02 wsJ0_isLatin1_aae02) := goodIn_app (goodIn_of _ (by decide +kernel)) ggJ0_charAt_5068e_J0_isLatin1_aae02
theorem ggJ0_charAt_5068e_J1_charAt_3b067 : GoodIn wsJ0_charAt_5068e wsJ1_charAt_3b067 := goodIn_q _ [12, 15, 20] [13, 14, 5, 16, 17, 18, 19] rfl (by decide +kernel) (by decide +kernel)
set_option maxRecDepth 20000 in
theorem gJ0_charAt_5068e_J1_charAt_3b067 : GoodIn wsJ0_charAt_5068e (va_wsS RJ0 495 yJ1_charAt_3b067 wsJ1_charAt_3b067) := goodIn_app (goodIn_of _ (by decide +kernel)) ggJ0_charAt_5068e_J1_charAt_3b067
theorem ggX8_find_J0_length_8abf5 : GoodIn wsX8_find wsJ0_length_8abf5 := goodIn_q _ [8, 13] [9, 10, 11, 12, 7, 14, 15] rfl (by decide +kernel) (by decide +kernel)
set_option maxRecDepth 20000 in
theorem gX8_find_J0_length_8abf5 : GoodIn wsX8_find (wsV RX8 38 RJ0 yJ0_length_8abf5 wsJ0_length_8abf5) := goodIn_app (goodIn_of _ (by decide +kernel)) ggX8_find_J0_length_8abf5
set_option maxRecDepth 100000 in
set_option maxHeartbeats 4000000 in
theorem ggX8_find_J0_charAt_5068e : GoodIn wsX8_find wsJ0_charAt_5068e := goodIn_q _ [19, 23, 27, 30, 35, 39, 42, 45, 49] [9, 20, 21, 22, 7, 14, 15, 24, 25, 26, 28, 29, 31, 32, 33, 34, 36, 37, 38, 40, 41, 43, 44, 46, 47, 48, 50, 51, 52] rfl (by decide +kernel) (by decide +kernel)
set_option maxRecDepth 20000 in
theorem gX8_find_J0_charAt_5068e : GoodIn wsX8_find (wsV RX8 43 RJ0 yJ0_charAt_5068e wsJ0_charAt_5068e) := goodIn_app (goodIn_of _ (by decide +kernel)) ggX8_find_J0_charAt_5068e
set_option maxHeartbeats 4000000 in
set_option maxRecDepth 100000 in
theorem w_check3_0 (l : Launch) (D : va_G) (K : Nat → ClassId) (X : Int) (Y : Int) (x : Int32) (y : Int32) (sz : Nat) (qx : x.toInt = X) (qy : y.toInt = Y) (hix : 0 ≤ X ∧ X < Y) : Met l yJ3_checkIndex_8e157 wsJ3_checkIndex_8e157 ({ frames := 0, cells := 0, slots := 0, locals := 0 }) (va_Pc [.int x, .int y, .null] (Pre D K [] sz)) (vp_Si (fun r : Int32 => ((r = x)) ∧ True)) 0 0 (fun _ => False) := by
  refine Met.ofW (cc := cJ3_checkIndex_8e157) (maxL := 3) (ret := (some .int)) (by decide) rfl ?_
  intro p e s m args below meth c s₁ B hml hv
  obtain ⟨rfl, hsz, hP, hK, hD0, hN⟩ := hv
  have hx := B.exec
  have hb := B.bytes
  have hr := B.returns
  have hts := atoms_spec (ws := wsJ3_checkIndex_8e157) B.pre
  have hown : s.vm.findClass RJ3 = some m.cls := findClass_of_methodNamed B.named
  have hlocks := B.notSynchronized
  subst hsz
  have hD := hD0
  have hP : va_P D vwCl [] s.heap := hP
  have hl := lv_entry [.int x, .int y, .null] (n := 3) (Nat.le_of_ble_eq_true rfl)
  rw [lg_entry_eq]
  generalize (lg_sl [.int x, .int y, .null] ++ List.replicate (3 - (lg_sl [.int x, .int y, .null]).length) Slot.unset).toArray = ls at hl ⊢
  have hl : lv_has ls 3 [(0, .int x), (1, .int y), (2, .null)] := hl
  generalize hQ : MQ below _ _ s _ _ _ = Q
  refine lv_iload_n hx hb dJ3_checkIndex_8e157_0 rfl (lv_at hl 0 rfl) ?_
  refine lv_if_lt (tgt := 9) hx hb dJ3_checkIndex_8e157_1 (by decide) (fun c_63 => ?_) (fun c_63 => ?_)
  · have c_63i := i_lt (x := X) (y := 0) qx rfl c_63
    exfalso; omega
  · have c_63i := i_nlt (x := X) (y := 0) qx rfl c_63
    refine lv_iload_n hx hb dJ3_checkIndex_8e157_4 rfl (lv_at hl 0 rfl) ?_
    refine lv_iload_n hx hb dJ3_checkIndex_8e157_5 rfl (lv_at hl 1 rfl) ?_
    refine lv_icmp_lt (tgt := 16) hx hb dJ3_checkIndex_8e157_6 (by decide) (fun c_64 => ?_) (fun c_64 => ?_)
    · have c_64i := i_lt (x := X) (y := Y) qx qy c_64
      refine lv_iload_n hx hb dJ3_checkIndex_8e157_16 rfl (lv_at hl 0 rfl) ?_
      rw [← hQ]
      exact W.iret (v := x) hx hb hr (fun t ht hW => ⟨_, rfl, ⟨(by first | exact rfl | assumption), trivial⟩, ht⟩) (fun q hq => by cases hq) dJ3_checkIndex_8e157_17
    · have c_64i := i_nlt (x := X) (y := Y) qx qy c_64
      exfalso; omega
set_option maxHeartbeats 4000000 in
set_option maxRecDepth 100000 in
theorem w_check3_1 (l : Launch) (D : va_G) (K : Nat → ClassId) (X : Int) (Y : Int) (x : Int32) (y : Int32) (a9 : Nat) (sz : Nat) (qx : x.toInt = X) (qy : y.toInt = Y) (hix : 0 ≤ X ∧ X < Y) : Met l yJ3_checkIndex_8e157 wsJ3_checkIndex_8e157 ({ frames := 0, cells := 0, slots := 0, locals := 0 }) (va_Pc [.int x, .int y, .ref a9] (Pre D K [] sz)) (vp_Si (fun r : Int32 => ((r = x)) ∧ True)) 0 0 (fun _ => False) := by
  refine Met.ofW (cc := cJ3_checkIndex_8e157) (maxL := 3) (ret := (some .int)) (by decide) rfl ?_
  intro p e s m args below meth c s₁ B hml hv
  obtain ⟨rfl, hsz, hP, hK, hD0, hN⟩ := hv
  have hx := B.exec
  have hb := B.bytes
  have hr := B.returns
  have hts := atoms_spec (ws := wsJ3_checkIndex_8e157) B.pre
  have hown : s.vm.findClass RJ3 = some m.cls := findClass_of_methodNamed B.named
  have hlocks := B.notSynchronized
  subst hsz
  have hD := hD0
  have hP : va_P D vwCl [] s.heap := hP
  have hl := lv_entry [.int x, .int y, .ref a9] (n := 3) (Nat.le_of_ble_eq_true rfl)
  rw [lg_entry_eq]
  generalize (lg_sl [.int x, .int y, .ref a9] ++ List.replicate (3 - (lg_sl [.int x, .int y, .ref a9]).length) Slot.unset).toArray = ls at hl ⊢
  have hl : lv_has ls 3 [(0, .int x), (1, .int y), (2, .ref a9)] := hl
  generalize hQ : MQ below _ _ s _ _ _ = Q
  refine lv_iload_n hx hb dJ3_checkIndex_8e157_0 rfl (lv_at hl 0 rfl) ?_
  refine lv_if_lt (tgt := 9) hx hb dJ3_checkIndex_8e157_1 (by decide) (fun c_63 => ?_) (fun c_63 => ?_)
  · have c_63i := i_lt (x := X) (y := 0) qx rfl c_63
    exfalso; omega
  · have c_63i := i_nlt (x := X) (y := 0) qx rfl c_63
    refine lv_iload_n hx hb dJ3_checkIndex_8e157_4 rfl (lv_at hl 0 rfl) ?_
    refine lv_iload_n hx hb dJ3_checkIndex_8e157_5 rfl (lv_at hl 1 rfl) ?_
    refine lv_icmp_lt (tgt := 16) hx hb dJ3_checkIndex_8e157_6 (by decide) (fun c_64 => ?_) (fun c_64 => ?_)
    · have c_64i := i_lt (x := X) (y := Y) qx qy c_64
      refine lv_iload_n hx hb dJ3_checkIndex_8e157_16 rfl (lv_at hl 0 rfl) ?_
      rw [← hQ]
      exact W.iret (v := x) hx hb hr (fun t ht hW => ⟨_, rfl, ⟨(by first | exact rfl | assumption), trivial⟩, ht⟩) (fun q hq => by cases hq) dJ3_checkIndex_8e157_17
    · have c_64i := i_nlt (x := X) (y := Y) qx qy c_64
      exfalso; omega
set_option maxHeartbeats 4000000 in
set_option maxRecDepth 100000 in
theorem w_check (l : Launch) (D : va_G) (K : Nat → ClassId) (g : Nat → Nat) (L : Nat → Prop) (G : Nat → LC) (X : Int) (Y : Int) (x : Int32) (y : Int32) (sz : Nat) (qx : x.toInt = X) (qy : y.toInt = Y) (hix : 0 ≤ X ∧ X < Y) : Met l yJ0_checkIndex_df160 wsJ0_checkIndex_df160 ({ frames := 1, cells := 0, slots := 0, locals := 22 }) (va_Pc [.int x, .int y] (PreY D K [] [] sz g L G (fun _ => False))) (va_Sv (fun _ => True)) 0 0 (fun _ => False) := by
  refine Met.ofW (cc := cJ0_checkIndex_df160) (maxL := 2) (ret := none) (by decide) rfl ?_
  intro p e s m args below meth c s₁ B hml hv
  obtain ⟨rfl, ⟨hsz, hP, hK, hD0, hN⟩, hG, hPl, hRo⟩ := hv
  have hx := B.exec
  have hb := B.bytes
  have hr := B.returns
  have hts := atoms_spec (ws := wsJ0_checkIndex_df160) B.pre
  have hown : s.vm.findClass RJ0 = some m.cls := findClass_of_methodNamed B.named
  have hlocks := B.notSynchronized
  subst hsz
  have hD := hD0
  have hS : va_S (fun _ => False) s.heap s.heap [] := va_S.rf
  have hP : va_P D vwCl [] s.heap := hP
  have hl := lv_entry [.int x, .int y] (n := 2) (Nat.le_of_ble_eq_true rfl)
  rw [lg_entry_eq]
  generalize (lg_sl [.int x, .int y] ++ List.replicate (2 - (lg_sl [.int x, .int y]).length) Slot.unset).toArray = ls at hl ⊢
  have hl : lv_has ls 2 [(0, .int x), (1, .int y)] := hl
  generalize hQ : MQ below _ _ s _ _ _ = Q
  refine lv_iload_n hx hb dJ0_checkIndex_df160_0 rfl (lv_at hl 0 rfl) ?_
  refine lv_iload_n hx hb dJ0_checkIndex_df160_1 rfl (lv_at hl 1 rfl) ?_
  rcases hG.2.1.2 with hZq | ⟨tq, hZq⟩
  · refine va_gets hx hb hZq hS hown (hts (.fieldLink RJ0 1053 "jdk/internal/util/Preconditions" "SIOOBE_FORMATTER" "Ljava/util/function/BiFunction;") (List.mem_cons_of_mem _ (List.mem_of_getElem? (i := 0) rfl))) (fun _ h9 => h9) dJ0_checkIndex_df160_2 ?_
    refine pci (va_runS (As := [.int x, .int y, .null]) (rest := []) ⟨hx, hb, hml, hown, hts⟩ (w_check3_0 l D K X Y x y s.heap.size qx qy (by first | omega | decide)) (va_cwS 3 hts gJ0_checkIndex_df160_J3_checkIndex_8e157 rfl rfl rfl (by decide +kernel) ⟨Nat.le_of_ble_eq_true rfl, Nat.le_of_ble_eq_true rfl⟩) (mkS hK hN (va_P.nil) (va_D.nil (A := fun _ => True))) rfl rfl hl.1 rfl (lv_room (Nat.le_of_ble_eq_true rfl)) dJ0_checkIndex_df160_5 ⟨Nat.le_of_ble_eq_true rfl, Nat.le_of_ble_eq_true rfl⟩) (fun r_65 hw => ?_)
    obtain ⟨hw, -⟩ := hw
    have er_r_65 := hw
    have hr_r_65 : r_65.toInt = X := (congrArg Int32.toInt er_r_65).trans qx
    refine lv_pop hx hb dJ0_checkIndex_df160_8 rfl ?_
    rw [← hQ]
    exact W.vret hx hb hr (fun t ht hW => ⟨rfl, trivial, ht⟩) (fun q hq => by cases hq) dJ0_checkIndex_df160_9
  · refine va_gets hx hb hZq hS hown (hts (.fieldLink RJ0 1053 "jdk/internal/util/Preconditions" "SIOOBE_FORMATTER" "Ljava/util/function/BiFunction;") (List.mem_cons_of_mem _ (List.mem_of_getElem? (i := 0) rfl))) (fun _ h9 => h9) dJ0_checkIndex_df160_2 ?_
    refine pci (va_runS (As := [.int x, .int y, .ref tq]) (rest := []) ⟨hx, hb, hml, hown, hts⟩ (w_check3_1 l D K X Y x y tq s.heap.size qx qy (by first | omega | decide)) (va_cwS 3 hts gJ0_checkIndex_df160_J3_checkIndex_8e157 rfl rfl rfl (by decide +kernel) ⟨Nat.le_of_ble_eq_true rfl, Nat.le_of_ble_eq_true rfl⟩) (mkS hK hN (va_P.nil) (va_D.nil (A := fun _ => True))) rfl rfl hl.1 rfl (lv_room (Nat.le_of_ble_eq_true rfl)) dJ0_checkIndex_df160_5 ⟨Nat.le_of_ble_eq_true rfl, Nat.le_of_ble_eq_true rfl⟩) (fun r_66 hw => ?_)
    obtain ⟨hw, -⟩ := hw
    have er_r_66 := hw
    have hr_r_66 : r_66.toInt = X := (congrArg Int32.toInt er_r_66).trans qx
    refine lv_pop hx hb dJ0_checkIndex_df160_8 rfl ?_
    rw [← hQ]
    exact W.vret hx hb hr (fun t ht hW => ⟨rfl, trivial, ht⟩) (fun q hq => by cases hq) dJ0_checkIndex_df160_9
set_option maxRecDepth 100000 in
noncomputable def E_w_coder (k : Nat) : Int32 :=
  (0 : Int32)
set_option maxHeartbeats 4000000 in
set_option maxRecDepth 100000 in
theorem w_coder (l : Launch) (D : va_G) (K : Nat → ClassId) (g : Nat → Nat) (L : Nat → Prop) (G : Nat → LC) (k : Nat) (sz : Nat) (hk : k < 13) : Met l yJ0_coder_7d493 wsJ0_coder_7d493 ({ frames := 0, cells := 0, slots := 0, locals := 0 }) (va_Pc [.ref (g (8 + 2 * k))] (PreY D K [] [] sz g L G (fun _ => False))) (vp_Si (fun r : Int32 => ((r = 0)) ∧ (r = E_w_coder k) ∧ True)) 0 0 (fun _ => False) := by
  refine Met.ofW (cc := cJ0_coder_7d493) (maxL := 1) (ret := (some .byte)) (by decide) rfl ?_
  intro p e s m args below meth c s₁ B hml hv
  obtain ⟨rfl, ⟨hsz, hP, hK, hD0, hN⟩, hG, hPl, hRo⟩ := hv
  have hx := B.exec
  have hb := B.bytes
  have hr := B.returns
  have hts := atoms_spec (ws := wsJ0_coder_7d493) B.pre
  have hown : s.vm.findClass RJ0 = some m.cls := findClass_of_methodNamed B.named
  have hlocks := B.notSynchronized
  subst hsz
  have hD := hD0
  have hS : va_S (fun _ => False) s.heap s.heap [] := va_S.rf
  have hP : va_P D vwCl [] s.heap := hP
  have hl := lv_entry [.ref (g (8 + 2 * k))] (n := 1) (Nat.le_of_ble_eq_true rfl)
  rw [lg_entry_eq]
  generalize (lg_sl [.ref (g (8 + 2 * k))] ++ List.replicate (1 - (lg_sl [.ref (g (8 + 2 * k))]).length) Slot.unset).toArray = ls at hl ⊢
  have hl : lv_has ls 1 [(0, .ref (g (8 + 2 * k)))] := hl
  generalize hQ : MQ below _ _ s _ _ _ = Q
  have hE := E_w_coder.eq_def k
  refine va_gets hx hb hG.cs hS hown (hts (.fieldLink RJ0 38 "java/lang/String" "COMPACT_STRINGS" "Z") (List.mem_cons_of_mem _ (List.mem_of_getElem? (i := 0) rfl))) (fun _ h9 => h9) dJ0_coder_7d493_0 ?_
  refine lv_if_eq (tgt := 13) hx hb dJ0_coder_7d493_3 (by decide) (fun c_63 => absurd c_63 (by decide)) (fun c_63 => ?_)
  refine lv_aload_n hx hb dJ0_coder_7d493_6 rfl (lv_at hl 0 rfl) ?_
  refine vk_getf hx hb (hG.str k hk).2.2.1 hS hown (hts (.fieldLink RJ0 15 "java/lang/String" "coder" "B") (List.mem_cons_of_mem _ (List.mem_of_getElem? (i := 1) rfl))) (fun _ h9 => h9) dJ0_coder_7d493_7 ?_
  refine lv_goto (tgt := 14) hx hb dJ0_coder_7d493_10 (by decide) ?_
  rw [← hQ]
  exact W.zret (v := 0) hx hb hr (by decide) (fun t ht hW => ⟨_, rfl, ⟨(by first | exact rfl), hE.symm, trivial⟩, ht⟩) (fun q hq => by cases hq) dJ0_coder_7d493_14
set_option maxRecDepth 100000 in
noncomputable def E_w_latin (k : Nat) : Int32 :=
  (1 : Int32)
set_option maxHeartbeats 4000000 in
set_option maxRecDepth 100000 in
theorem w_latin (l : Launch) (D : va_G) (K : Nat → ClassId) (g : Nat → Nat) (L : Nat → Prop) (G : Nat → LC) (k : Nat) (sz : Nat) (hk : k < 13) : Met l yJ0_isLatin1_aae02 wsJ0_isLatin1_aae02 ({ frames := 0, cells := 0, slots := 0, locals := 0 }) (va_Pc [.ref (g (8 + 2 * k))] (PreY D K [] [] sz g L G (fun _ => False))) (vp_Si (fun r : Int32 => ((r = 1)) ∧ (r = E_w_latin k) ∧ True)) 0 0 (fun _ => False) := by
  refine Met.ofW (cc := cJ0_isLatin1_aae02) (maxL := 1) (ret := (some .boolean)) (by decide) rfl ?_
  intro p e s m args below meth c s₁ B hml hv
  obtain ⟨rfl, ⟨hsz, hP, hK, hD0, hN⟩, hG, hPl, hRo⟩ := hv
  have hx := B.exec
  have hb := B.bytes
  have hr := B.returns
  have hts := atoms_spec (ws := wsJ0_isLatin1_aae02) B.pre
  have hown : s.vm.findClass RJ0 = some m.cls := findClass_of_methodNamed B.named
  have hlocks := B.notSynchronized
  subst hsz
  have hD := hD0
  have hS : va_S (fun _ => False) s.heap s.heap [] := va_S.rf
  have hP : va_P D vwCl [] s.heap := hP
  have hl := lv_entry [.ref (g (8 + 2 * k))] (n := 1) (Nat.le_of_ble_eq_true rfl)
  rw [lg_entry_eq]
  generalize (lg_sl [.ref (g (8 + 2 * k))] ++ List.replicate (1 - (lg_sl [.ref (g (8 + 2 * k))]).length) Slot.unset).toArray = ls at hl ⊢
  have hl : lv_has ls 1 [(0, .ref (g (8 + 2 * k)))] := hl
  generalize hQ : MQ below _ _ s _ _ _ = Q
  have hE := E_w_latin.eq_def k
  refine va_gets hx hb hG.cs hS hown (hts (.fieldLink RJ0 38 "java/lang/String" "COMPACT_STRINGS" "Z") (List.mem_cons_of_mem _ (List.mem_of_getElem? (i := 0) rfl))) (fun _ h9 => h9) dJ0_isLatin1_aae02_0 ?_
  refine lv_if_eq (tgt := 17) hx hb dJ0_isLatin1_aae02_3 (by decide) (fun c_71 => absurd c_71 (by decide)) (fun c_71 => ?_)
  refine lv_aload_n hx hb dJ0_isLatin1_aae02_6 rfl (lv_at hl 0 rfl) ?_
  refine vk_getf hx hb (hG.str k hk).2.2.1 hS hown (hts (.fieldLink RJ0 15 "java/lang/String" "coder" "B") (List.mem_cons_of_mem _ (List.mem_of_getElem? (i := 1) rfl))) (fun _ h9 => h9) dJ0_isLatin1_aae02_7 ?_
  refine lv_if_ne (tgt := 17) hx hb dJ0_isLatin1_aae02_10 (by decide) (fun c_72 => absurd (by decide) c_72) (fun c_72 => ?_)
  refine lv_iconst (v := 1) hx hb dJ0_isLatin1_aae02_13 (by decide) ?_
  refine lv_goto (tgt := 18) hx hb dJ0_isLatin1_aae02_14 (by decide) ?_
  rw [← hQ]
  exact W.zret (v := 1) hx hb hr (by decide) (fun t ht hW => ⟨_, rfl, ⟨(by first | exact rfl), hE.symm, trivial⟩, ht⟩) (fun q hq => by cases hq) dJ0_isLatin1_aae02_18
set_option maxRecDepth 100000 in
noncomputable def E_w_slen (k : Nat) : Int32 :=
  Lt (E_w_coder k) (fun r_67 => Lt ((nI (sn k)) >>> (0 &&& 31) : Int32) (fun x_69 => (x_69 : Int32)))
set_option maxHeartbeats 4000000 in
set_option maxRecDepth 100000 in
theorem w_slen (l : Launch) (D : va_G) (K : Nat → ClassId) (g : Nat → Nat) (L : Nat → Prop) (G : Nat → LC) (k : Nat) (sz : Nat) (hk : k < 13) : Met l yJ0_length_8abf5 wsJ0_length_8abf5 ({ frames := 1, cells := 0, slots := 0, locals := 20 }) (va_Pc [.ref (g (8 + 2 * k))] (PreY D K [] [] sz g L G (fun _ => False))) (vp_Si (fun r : Int32 => ((0 ≤ r.toInt ∧ r.toInt ≤ ((sn k : Nat) : Int)) ∧ True) ∧ r = E_w_slen k)) 0 0 (fun _ => False) := by
  refine Met.ofW (cc := cJ0_length_8abf5) (maxL := 1) (ret := (some .int)) (by decide) rfl ?_
  intro p e s m args below meth c s₁ B hml hv
  obtain ⟨rfl, ⟨hsz, hP, hK, hD0, hN⟩, hG, hPl, hRo⟩ := hv
  have hx := B.exec
  have hb := B.bytes
  have hr := B.returns
  have hts := atoms_spec (ws := wsJ0_length_8abf5) B.pre
  have hown : s.vm.findClass RJ0 = some m.cls := findClass_of_methodNamed B.named
  have hlocks := B.notSynchronized
  subst hsz
  have hD := hD0
  have hS : va_S (fun _ => False) s.heap s.heap [] := va_S.rf
  have hP : va_P D vwCl [] s.heap := hP
  have hl := lv_entry [.ref (g (8 + 2 * k))] (n := 1) (Nat.le_of_ble_eq_true rfl)
  rw [lg_entry_eq]
  generalize (lg_sl [.ref (g (8 + 2 * k))] ++ List.replicate (1 - (lg_sl [.ref (g (8 + 2 * k))]).length) Slot.unset).toArray = ls at hl ⊢
  have hl : lv_has ls 1 [(0, .ref (g (8 + 2 * k)))] := hl
  generalize hQ : MQ below _ _ s _ _ _ = Q
  have hE := E_w_slen.eq_def k
  have hsn := sn_le k
  refine lv_aload_n hx hb dJ0_length_8abf5_0 rfl (lv_at hl 0 rfl) ?_
  refine vk_getf hx hb (hG.str k hk).2.2.2.1 hS hown (hts (.fieldLink RJ0 9 "java/lang/String" "value" "[B") (List.mem_cons_of_mem _ (List.mem_of_getElem? (i := 0) rfl))) (fun _ h9 => h9) dJ0_length_8abf5_1 ?_
  refine va_tlen (v := nI (sn k)) hx hb (hG.str k hk).2.2.2.2 hS rfl dJ0_length_8abf5_4 ?_
  refine lv_aload_n hx hb dJ0_length_8abf5_5 rfl (lv_at hl 0 rfl) ?_
  refine pci (va_runV (As := []) (rest := [.int (nI (sn k))]) ⟨hx, hb, hml, hown, hts⟩ (w_coder l D K g L G k s.heap.size hk) (cwV 0 hts gJ0_length_8abf5_J0_coder_7d493 rfl rfl rfl (by decide +kernel) ⟨Nat.le_of_ble_eq_true rfl, Nat.le_of_ble_eq_true rfl⟩) (mkVSY hK hN (hG.str k hk).2 hS (fun U hU hW => ⟨Gl.at hG hS hW hU (fun _ h9 => h9.elim), Pool.at hPl hS hU (fun _ h9 => h9.elim), Ro.heap hU (Ro.nil)⟩)) rfl rfl hl.1 rfl (lv_room (Nat.le_of_ble_eq_true rfl)) dJ0_length_8abf5_6 ⟨Nat.le_of_ble_eq_true rfl, Nat.le_of_ble_eq_true rfl⟩) (fun r_67 hw => ?_)
  obtain ⟨hw, k_68, -⟩ := hw
  replace hE := hE.trans (Lt_in k_68)
  obtain rfl := hw
  refine lv_ishr hx hb dJ0_length_8abf5_9 ?_
  refine lv_topi (fun x_69 ex_69 => ?_)
  replace hE := hE.trans (Lt_in ex_69)
  have hx_69 : 0 ≤ x_69.toInt ∧ x_69.toInt ≤ ((sn k : Nat) : Int) := by rw [ex_69]; exact i_shr (nI_toInt (by omega)) (by omega)
  rw [← hQ]
  exact W.iret (v := x_69) hx hb hr (fun t ht hW => ⟨_, rfl, ⟨⟨by omega, trivial⟩, hE.symm⟩, ht⟩) (fun q hq => by cases hq) dJ0_length_8abf5_10
set_option maxRecDepth 100000 in
noncomputable def E_w_char1 (k : Nat) (x : Int32) : Int32 :=
  Lt (sf k (x : Int32).toNatClampNeg : Int32) (fun x_68 => Lt (x_68 &&& 255 : Int32) (fun x_69 => ((x_69.toUInt32 % 65536).toInt32 : Int32)))
set_option maxHeartbeats 4000000 in
set_option maxRecDepth 100000 in
theorem w_char1 (l : Launch) (D : va_G) (K : Nat → ClassId) (g : Nat → Nat) (L : Nat → Prop) (G : Nat → LC) (k : Nat) (X : Int) (x : Int32) (sz : Nat) (hk : k < 13) (qx : x.toInt = X) (hix : 0 ≤ X ∧ X < ((sn k : Nat) : Int)) : Met l yJ1_charAt_3b067 wsJ1_charAt_3b067 ({ frames := 2, cells := 0, slots := 0, locals := 43 }) (va_Pc [.ref (g (9 + 2 * k)), .int x] (PreY D K [] [] sz g L G (fun _ => False))) (vp_Si (fun r : Int32 => (narrow .char (.int r) = .int r) ∧ r = E_w_char1 k x)) 0 0 (fun _ => False) := by
  refine Met.ofW (cc := cJ1_charAt_3b067) (maxL := 2) (ret := (some .char)) (by decide) rfl ?_
  intro p e s m args below meth c s₁ B hml hv
  obtain ⟨rfl, ⟨hsz, hP, hK, hD0, hN⟩, hG, hPl, hRo⟩ := hv
  have hx := B.exec
  have hb := B.bytes
  have hr := B.returns
  have hts := atoms_spec (ws := wsJ1_charAt_3b067) B.pre
  have hown : s.vm.findClass RJ1 = some m.cls := findClass_of_methodNamed B.named
  have hlocks := B.notSynchronized
  subst hsz
  have hD := hD0
  have hS : va_S (fun _ => False) s.heap s.heap [] := va_S.rf
  have hP : va_P D vwCl [] s.heap := hP
  have hl := lv_entry [.ref (g (9 + 2 * k)), .int x] (n := 2) (Nat.le_of_ble_eq_true rfl)
  rw [lg_entry_eq]
  generalize (lg_sl [.ref (g (9 + 2 * k)), .int x] ++ List.replicate (2 - (lg_sl [.ref (g (9 + 2 * k)), .int x]).length) Slot.unset).toArray = ls at hl ⊢
  have hl : lv_has ls 2 [(0, .ref (g (9 + 2 * k))), (1, .int x)] := hl
  generalize hQ : MQ below _ _ s _ _ _ = Q
  have hE := E_w_char1.eq_def k x
  have hsn := sn_le k
  refine lv_iload_n hx hb dJ1_charAt_3b067_0 rfl (lv_at hl 1 rfl) ?_
  refine lv_aload_n hx hb dJ1_charAt_3b067_1 rfl (lv_at hl 0 rfl) ?_
  refine va_tlen (v := nI (sn k)) hx hb (hG.str k hk).2.2.2.2 hS rfl dJ1_charAt_3b067_2 ?_
  refine pcv (va_runS (As := [.int x, .int (nI (sn k))]) (rest := []) ⟨hx, hb, hml, hown, hts⟩ (w_check l D K g L G X ((sn k : Nat) : Int) x (nI (sn k)) s.heap.size qx (nI_toInt (by omega)) (by first | omega | decide)) (va_cwS 2 hts gJ1_charAt_3b067_J0_checkIndex_df160 rfl rfl rfl (by decide +kernel) ⟨Nat.le_of_ble_eq_true rfl, Nat.le_of_ble_eq_true rfl⟩) (mkSY hK hN (va_P.nil) (va_D.nil (A := fun _ => True)) (fun U hU hW => ⟨Gl.at hG hS hW hU (fun _ h9 => h9.elim), Pool.at hPl hS hU (fun _ h9 => h9.elim), Ro.heap hU (Ro.nil)⟩)) rfl rfl hl.1 rfl (lv_room (Nat.le_of_ble_eq_true rfl)) dJ1_charAt_3b067_3 ⟨Nat.le_of_ble_eq_true rfl, Nat.le_of_ble_eq_true rfl⟩) (fun hw => ?_)
  refine lv_aload_n hx hb dJ1_charAt_3b067_6 rfl (lv_at hl 0 rfl) ?_
  refine lv_iload_n hx hb dJ1_charAt_3b067_7 rfl (lv_at hl 1 rfl) ?_
  refine va_tb (v := .int (sf k (x : Int32).toNatClampNeg)) hx hb (hG.str k hk).2.2.2.2 hS (i_in qx (by omega)) rfl dJ1_charAt_3b067_8 ?_
  refine lv_topi (fun x_68 ex_68 => ?_)
  replace hE := hE.trans (Lt_in ex_68)
  refine lv_sipush (v := 255) hx hb dJ1_charAt_3b067_9 (by decide) ?_
  refine lv_iand hx hb dJ1_charAt_3b067_12 ?_
  refine lv_topi (fun x_69 ex_69 => ?_)
  replace hE := hE.trans (Lt_in ex_69)
  have hx_69 : 0 ≤ x_69.toInt ∧ x_69.toInt ≤ 255 := by rw [ex_69]; exact i_mask x_68 8 rfl (by decide)
  refine lv_i2c hx hb dJ1_charAt_3b067_13 rfl ?_
  rw [← hQ]
  exact W.zret (v := (x_69.toUInt32 % 65536).toInt32) hx hb hr (by first | exact pk_nc _ | assumption) (fun t ht hW => ⟨_, rfl, ⟨pk_nc _, hE.symm⟩, ht⟩) (fun q hq => by cases hq) dJ1_charAt_3b067_14
set_option maxRecDepth 100000 in
noncomputable def E_w_char (k : Nat) (x : Int32) : Int32 :=
  Lt (E_w_latin k) (fun r_71 => Lt (E_w_char1 k x) (fun r_74 => (r_74 : Int32)))
set_option maxHeartbeats 4000000 in
set_option maxRecDepth 100000 in
theorem w_char (l : Launch) (D : va_G) (K : Nat → ClassId) (g : Nat → Nat) (L : Nat → Prop) (G : Nat → LC) (k : Nat) (X : Int) (x : Int32) (sz : Nat) (hk : k < 13) (qx : x.toInt = X) (hix : 0 ≤ X ∧ X < ((sn k : Nat) : Int)) : Met l yJ0_charAt_5068e wsJ0_charAt_5068e ({ frames := 3, cells := 0, slots := 0, locals := 64 }) (va_Pc [.ref (g (8 + 2 * k)), .int x] (PreY D K [] [] sz g L G (fun _ => False))) (vp_Si (fun r : Int32 => (narrow .char (.int r) = .int r) ∧ r = E_w_char k x)) 0 0 (fun _ => False) := by
  refine Met.ofW (cc := cJ0_charAt_5068e) (maxL := 2) (ret := (some .char)) (by decide) rfl ?_
  intro p e s m args below meth c s₁ B hml hv
  obtain ⟨rfl, ⟨hsz, hP, hK, hD0, hN⟩, hG, hPl, hRo⟩ := hv
  have hx := B.exec
  have hb := B.bytes
  have hr := B.returns
  have hts := atoms_spec (ws := wsJ0_charAt_5068e) B.pre
  have hown : s.vm.findClass RJ0 = some m.cls := findClass_of_methodNamed B.named
  have hlocks := B.notSynchronized
  subst hsz
  have hD := hD0
  have hS : va_S (fun _ => False) s.heap s.heap [] := va_S.rf
  have hP : va_P D vwCl [] s.heap := hP
  have hl := lv_entry [.ref (g (8 + 2 * k)), .int x] (n := 2) (Nat.le_of_ble_eq_true rfl)
  rw [lg_entry_eq]
  generalize (lg_sl [.ref (g (8 + 2 * k)), .int x] ++ List.replicate (2 - (lg_sl [.ref (g (8 + 2 * k)), .int x]).length) Slot.unset).toArray = ls at hl ⊢
  have hl : lv_has ls 2 [(0, .ref (g (8 + 2 * k))), (1, .int x)] := hl
  generalize hQ : MQ below _ _ s _ _ _ = Q
  have hE := E_w_char.eq_def k x
  have hsn := sn_le k
  refine lv_aload_n hx hb dJ0_charAt_5068e_0 rfl (lv_at hl 0 rfl) ?_
  refine pci (va_runV (As := []) (rest := []) ⟨hx, hb, hml, hown, hts⟩ (w_latin l D K g L G k s.heap.size hk) (cwV 0 hts gJ0_charAt_5068e_J0_isLatin1_aae02 rfl rfl rfl (by decide +kernel) ⟨Nat.le_of_ble_eq_true rfl, Nat.le_of_ble_eq_true rfl⟩) (mkVSY hK hN (hG.str k hk).2 hS (fun U hU hW => ⟨Gl.at hG hS hW hU (fun _ h9 => h9.elim), Pool.at hPl hS hU (fun _ h9 => h9.elim), Ro.heap hU (Ro.nil)⟩)) rfl rfl hl.1 rfl (lv_room (Nat.le_of_ble_eq_true rfl)) dJ0_charAt_5068e_1 ⟨Nat.le_of_ble_eq_true rfl, Nat.le_of_ble_eq_true rfl⟩) (fun r_71 hw => ?_)
  obtain ⟨hw, k_72, -⟩ := hw
  replace hE := hE.trans (Lt_in k_72)
  obtain rfl := hw
  refine lv_if_eq (tgt := 16) hx hb dJ0_charAt_5068e_4 (by decide) (fun c_73 => absurd c_73 (by decide)) (fun c_73 => ?_)
  refine lv_aload_n hx hb dJ0_charAt_5068e_7 rfl (lv_at hl 0 rfl) ?_
  refine vk_getf hx hb (hG.str k hk).2.2.2.1 hS hown (hts (.fieldLink RJ0 9 "java/lang/String" "value" "[B") (List.mem_cons_of_mem _ (List.mem_append_left _ (List.mem_of_getElem? (i := 0) rfl)))) (fun _ h9 => h9) dJ0_charAt_5068e_8 ?_
  refine lv_iload_n hx hb dJ0_charAt_5068e_11 rfl (lv_at hl 1 rfl) ?_
  refine pci (va_runS (As := [.ref (g (9 + 2 * k)), .int x]) (rest := []) ⟨hx, hb, hml, hown, hts⟩ (w_char1 l D K g L G k X x s.heap.size hk qx (by first | omega | decide)) (va_cwS 2 hts gJ0_charAt_5068e_J1_charAt_3b067 rfl rfl rfl (by decide +kernel) ⟨Nat.le_of_ble_eq_true rfl, Nat.le_of_ble_eq_true rfl⟩) (mkSY hK hN (va_P.nil) (va_D.nil (A := fun _ => True)) (fun U hU hW => ⟨Gl.at hG hS hW hU (fun _ h9 => h9.elim), Pool.at hPl hS hU (fun _ h9 => h9.elim), Ro.heap hU (Ro.nil)⟩)) rfl rfl hl.1 rfl (lv_room (Nat.le_of_ble_eq_true rfl)) dJ0_charAt_5068e_12 ⟨Nat.le_of_ble_eq_true rfl, Nat.le_of_ble_eq_true rfl⟩) (fun r_74 hw => ?_)
  obtain ⟨hw, k_75⟩ := hw
  replace hE := hE.trans (Lt_in k_75)
  rw [← hQ]
  exact W.zret (v := r_74) hx hb hr (by first | exact pk_nc _ | assumption) (fun t ht hW => ⟨_, rfl, ⟨hw, hE.symm⟩, ht⟩) (fun q hq => by cases hq) dJ0_charAt_5068e_15
set_option maxRecDepth 100000 in
noncomputable def E_w_find_j108 (v_826 : Int32) (v_828 : Int32) (rec_934 : Int32 → Int32 → Int32 → (Int32)) : Int32 :=
  Lt (v_828 + Int32.ofInt 1 : Int32) (fun x_966 => Lt (v_826 + Int32.ofInt 1 : Int32) (fun x_967 => rec_934 x_967 0 x_966))
set_option maxRecDepth 100000 in
noncomputable def E_w_find_j84 (v_826 : Int32) (v_828 : Int32) (rec_934 : Int32 → Int32 → Int32 → (Int32)) : Int32 :=
  Lt (v_826 + Int32.ofInt 1 : Int32) (fun x_970 => rec_934 x_970 (-1) v_828)
set_option maxRecDepth 100000 in
noncomputable def E_w_find_l7 (k : Nat) (tf : Int32) (tt : Int32) (fb : Nat → Int32) (rec_934 : Int32 → Int32 → Int32 → (Int32)) (v_826 : Int32) (v_827 : Int32) (v_828 : Int32) : Int32 :=
  Lt (E_w_slen k) (fun r_936 => if r_936 < v_826 then (((-1) : Int32)) else (Lt (E_w_slen k) (fun r_939 => if r_939 ≤ v_826 then (if v_827 ≤ 0 then (E_w_find_j108 v_826 v_828 rec_934) else (Lt (tf + v_827 : Int32) (fun x_975 => if x_975 = tt then ((v_828 : Int32)) else (E_w_find_j108 v_826 v_828 rec_934)))) else (Lt (E_w_char k v_826) (fun r_977 => if r_977 = 32 then (if v_827 ≤ 0 then (E_w_find_j108 v_826 v_828 rec_934) else (Lt (tf + v_827 : Int32) (fun x_981 => if x_981 = tt then ((v_828 : Int32)) else (E_w_find_j108 v_826 v_828 rec_934)))) else (if v_827 < 0 then (E_w_find_j84 v_826 v_828 rec_934) else (Lt (tf + v_827 : Int32) (fun x_984 => if tt ≤ x_984 then (E_w_find_j84 v_826 v_828 rec_934) else (Lt (tf + v_827 : Int32) (fun x_986 => Lt (fb (x_986 : Int32).toNatClampNeg : Int32) (fun x_987 => if x_987 = r_977 then (Lt (v_827 + 1 : Int32) (fun x_989 => Lt (v_826 + Int32.ofInt 1 : Int32) (fun x_990 => rec_934 x_990 x_989 v_828))) else (E_w_find_j84 v_826 v_828 rec_934))))))))))))
set_option maxRecDepth 100000 in
noncomputable def E_w_find (k : Nat) (ln : Int32) (tf : Int32) (tt : Int32) (ti : Int32) (tu : Int32) (fb : Nat → Int32) : Int32 :=
  Lp (α := Int32 → Int32 → Int32 → (Int32)) (E_w_find_l7 k tf tt fb) (fun _ _ _ => ((0) : Int32)) ((49 - (0 : Int32).toInt : Int).toNat + 1) 0 0 0
set_option maxHeartbeats 4000000 in
set_option maxRecDepth 100000 in
theorem w_find (l : Launch) (D : va_G) (K : Nat → ClassId) (g : Nat → Nat) (L : Nat → Prop) (G : Nat → LC) (k : Nat) (t0 : Nat) (t1 : Nat) (ln : Int32) (tf : Int32) (tt : Int32) (ti : Int32) (tu : Int32) (fb : Nat → Int32) (sz : Nat) (hk : k < 13) (zln : 0 ≤ ln.toInt ∧ ln.toInt ≤ 400) (ztf : 0 ≤ tf.toInt ∧ tf.toInt ≤ 400) (ztt : 0 ≤ tt.toInt ∧ tt.toInt ≤ 400) (ztu : (-1) ≤ tu.toInt ∧ tu.toInt ≤ 1000000) : Met l yX8_find wsX8_find ({ frames := 4, cells := 0, slots := 0, locals := 85 }) (va_Pc [.ref t0, .ref (g (8 + 2 * k))] (PreY D K [(t0, .inr (8, [.ref t1, .int ln, .int tf, .int tt, .int ti, .int tu])), (t1, .inl (K 0, 400, .inl fb))] [] sz g L G (fun _ => False))) (vp_Si (fun r : Int32 => ((-1) ≤ r.toInt ∧ r.toInt ≤ 48) ∧ (r = E_w_find k ln tf tt ti tu fb) ∧ True)) 0 0 (fun _ => False) := by
  refine Met.ofW (cc := cX8_find) (maxL := 6) (ret := (some .int)) (by decide) rfl ?_
  intro p e s m args below meth c s₁ B hml hv
  obtain ⟨rfl, ⟨hsz, hP, hK, hD0, hN⟩, hG, hPl, hRo⟩ := hv
  have hx := B.exec
  have hb := B.bytes
  have hr := B.returns
  have hts := atoms_spec (ws := wsX8_find) B.pre
  have hown : s.vm.findClass RX8 = some m.cls := findClass_of_methodNamed B.named
  have hlocks := B.notSynchronized
  subst hsz
  have hD := hD0
  have hS : va_S (fun _ => False) s.heap s.heap [] := va_S.rf
  have hP : va_P D vwCl [(t0, .inr (8, [.ref t1, .int ln, .int tf, .int tt, .int ti, .int tu])), (t1, .inl (K 0, 400, .inl fb))] s.heap := hP
  have hl := lv_entry [.ref t0, .ref (g (8 + 2 * k))] (n := 6) (Nat.le_of_ble_eq_true rfl)
  rw [lg_entry_eq]
  generalize (lg_sl [.ref t0, .ref (g (8 + 2 * k))] ++ List.replicate (6 - (lg_sl [.ref t0, .ref (g (8 + 2 * k))]).length) Slot.unset).toArray = ls at hl ⊢
  have hl : lv_has ls 6 [(0, .ref t0), (1, .ref (g (8 + 2 * k)))] := hl
  have hw8 : ∀ w ∈ wsX80, w ∈ wsX8_find := fun w h => (List.mem_cons_of_mem _ (List.mem_append_right _ h))
  generalize hQ : MQ below _ _ s _ _ _ = Q
  have hE := E_w_find.eq_def k ln tf tt ti tu fb
  refine lv_iconst (v := 0) hx hb dX8_find_0 (by decide) ?_
  refine lv_istore_n (lv' := [(2, .int 0), (0, .ref t0), (1, .ref (g (8 + 2 * k)))]) hx hb dX8_find_1 rfl hl (by decide) rfl (fun ls hl => ?_)
  refine lv_iconst (v := 0) hx hb dX8_find_2 (by decide) ?_
  refine lv_istore_n (lv' := [(3, .int 0), (2, .int 0), (0, .ref t0), (1, .ref (g (8 + 2 * k)))]) hx hb dX8_find_3 rfl hl (by decide) rfl (fun ls hl => ?_)
  refine lv_iconst (v := 0) hx hb dX8_find_4 (by decide) ?_
  refine lv_istore (lv' := [(4, .int 0), (3, .int 0), (2, .int 0), (0, .ref t0), (1, .ref (g (8 + 2 * k)))]) hx hb dX8_find_5 hl (by decide) rfl (fun ls hl => ?_)
  have lp_934 : ∀ (nn_ : Nat) (v_826 : Int32) (v_827 : Int32) (v_828 : Int32) (hv_826 : 0 ≤ v_826.toInt ∧ v_826.toInt ≤ 48) (hv_827 : (-1) ≤ v_827.toInt ∧ v_827.toInt ≤ 400) (hv_828 : 0 ≤ v_828.toInt ∧ v_828.toInt ≤ 48) (hr0_lp_934 : 0 ≤ v_828.toInt ∧ v_828.toInt ≤ v_826.toInt) (hn : (49 - v_826.toInt : Int).toNat < nn_) (hE : E_w_find k ln tf tt ti tu fb = Lp (α := Int32 → Int32 → Int32 → (Int32)) (E_w_find_l7 k tf tt fb) (fun _ _ _ => ((0) : Int32)) nn_ v_826 v_827 v_828) (ls : Array Slot) (hl : lv_has ls 6 [(4, .int v_826), (3, .int v_827), (2, .int v_828), (0, .ref t0), (1, .ref (g (8 + 2 * k)))]), W p l e ({ frames := 4, cells := 0, slots := 0, locals := 85 }) s m (([.ref t0, .ref (g (8 + 2 * k))] : List Value).toArray) below meth c s.heap [] 0 0 Q (F0 m 7 ls []) := by
    intro nn_
    induction nn_ with
    | zero =>
      intro v_826 v_827 v_828 hv_826 hv_827 hv_828 hr0_lp_934 hn hE ls hl
      exact absurd hn (Nat.not_lt_zero _)
    | succ nn_ ih_935 =>
      intro v_826 v_827 v_828 hv_826 hv_827 hv_828 hr0_lp_934 hn hE ls hl
      replace hE : E_w_find k ln tf tt ti tu fb = E_w_find_l7 k tf tt fb (Lp (α := Int32 → Int32 → Int32 → (Int32)) (E_w_find_l7 k tf tt fb) (fun _ _ _ => ((0) : Int32)) nn_) v_826 v_827 v_828 := hE
      obtain ⟨rec_934, hrec_934⟩ : ∃ z9, z9 = Lp (α := Int32 → Int32 → Int32 → (Int32)) (E_w_find_l7 k tf tt fb) (fun _ _ _ => ((0) : Int32)) nn_ := ⟨_, rfl⟩
      rw [← hrec_934] at hE
      replace hE := hE.trans (E_w_find_l7.eq_def _ _ _ _ _ _ _ _)
      refine lv_iload hx hb dX8_find_7 (lv_at hl 0 rfl) ?_
      refine lv_aload_n hx hb dX8_find_9 rfl (lv_at hl 4 rfl) ?_
      refine pci (va_runV (As := []) (rest := [.int v_826]) ⟨hx, hb, hml, hown, hts⟩ (w_slen l D K g L G k s.heap.size hk) (cwV 0 hts gX8_find_J0_length_8abf5 rfl rfl rfl (by decide +kernel) ⟨Nat.le_of_ble_eq_true rfl, Nat.le_of_ble_eq_true rfl⟩) (mkVSY hK hN (hG.str k hk).2 hS (fun U hU hW => ⟨Gl.at hG hS hW hU (fun _ h9 => h9.elim), Pool.at hPl hS hU (fun _ h9 => h9.elim), Ro.heap hU (Ro.nil)⟩)) rfl rfl hl.1 rfl (lv_room (Nat.le_of_ble_eq_true rfl)) dX8_find_10 ⟨Nat.le_of_ble_eq_true rfl, Nat.le_of_ble_eq_true rfl⟩) (fun r_936 hw => ?_)
      obtain ⟨hw, k_937⟩ := hw
      replace hE := hE.trans (Lt_in k_937)
      obtain ⟨hr_936, -⟩ := hw
      have hnr_936 := sn_le k
      refine lv_icmp_gt (tgt := 119) hx hb dX8_find_13 (by decide) (fun c_938 => ?_) (fun c_938 => ?_)
      · have c_938i := i_lt (x := r_936.toInt) (y := v_826.toInt) rfl rfl c_938
        replace hE := hE.trans (if_pos c_938)
        refine lv_iconst (v := (-1)) hx hb dX8_find_119 (by decide) ?_
        rw [← hQ]
        exact W.iret (v := (-1)) hx hb hr (fun t ht hW => ⟨_, rfl, ⟨(show (-1) ≤ ((-1) : Int32).toInt ∧ ((-1) : Int32).toInt ≤ 48 by decide), hE.symm, trivial⟩, ht⟩) (fun q hq => by cases hq) dX8_find_120
      · have c_938i := i_nlt (x := r_936.toInt) (y := v_826.toInt) rfl rfl c_938
        replace hE := hE.trans (if_neg c_938)
        refine lv_iload hx hb dX8_find_16 (lv_at hl 0 rfl) ?_
        refine lv_aload_n hx hb dX8_find_18 rfl (lv_at hl 4 rfl) ?_
        refine pci (va_runV (As := []) (rest := [.int v_826]) ⟨hx, hb, hml, hown, hts⟩ (w_slen l D K g L G k s.heap.size hk) (cwV 0 hts gX8_find_J0_length_8abf5 rfl rfl rfl (by decide +kernel) ⟨Nat.le_of_ble_eq_true rfl, Nat.le_of_ble_eq_true rfl⟩) (mkVSY hK hN (hG.str k hk).2 hS (fun U hU hW => ⟨Gl.at hG hS hW hU (fun _ h9 => h9.elim), Pool.at hPl hS hU (fun _ h9 => h9.elim), Ro.heap hU (Ro.nil)⟩)) rfl rfl hl.1 rfl (lv_room (Nat.le_of_ble_eq_true rfl)) dX8_find_19 ⟨Nat.le_of_ble_eq_true rfl, Nat.le_of_ble_eq_true rfl⟩) (fun r_939 hw => ?_)
        obtain ⟨hw, k_940⟩ := hw
        replace hE := hE.trans (Lt_in k_940)
        obtain ⟨hr_939, -⟩ := hw
        have hnr_939 := sn_le k
        have j_965 : ∀ (hE : E_w_find k ln tf tt ti tu fb = E_w_find_j108 v_826 v_828 rec_934) (ls : Array Slot) (hl : lv_has ls 6 [(4, .int v_826), (2, .int v_828), (0, .ref t0), (1, .ref (g (8 + 2 * k)))]), W p l e ({ frames := 4, cells := 0, slots := 0, locals := 85 }) s m (([.ref t0, .ref (g (8 + 2 * k))] : List Value).toArray) below meth c s.heap [] 0 0 Q (F0 m 108 ls []) := by
          intro hE ls hl
          replace hE := hE.trans (E_w_find_j108.eq_def _ _ _)
          obtain ⟨x_966, ex_966⟩ : ∃ y : Int32, y = v_828 + Int32.ofInt 1 := ⟨_, rfl⟩
          replace hE := hE.trans (Lt_in ex_966)
          have hx_966 : x_966.toInt = (v_828.toInt + 1) := by rw [ex_966]; exact i_add rfl (show (Int32.ofInt 1).toInt = 1 from rfl) (by omega)
          refine lv_iinc (v := x_966) (lv' := [(2, .int x_966), (4, .int v_826), (0, .ref t0), (1, .ref (g (8 + 2 * k)))]) hx hb dX8_find_108 hl (k := 1) rfl (by rw [ex_966]) (by decide) rfl (fun ls hl => ?_)
          refine lv_iconst (v := 0) hx hb dX8_find_111 (by decide) ?_
          refine lv_istore_n (lv' := [(3, .int 0), (2, .int x_966), (4, .int v_826), (0, .ref t0), (1, .ref (g (8 + 2 * k)))]) hx hb dX8_find_112 rfl hl (by decide) rfl (fun ls hl => ?_)
          obtain ⟨x_967, ex_967⟩ : ∃ y : Int32, y = v_826 + Int32.ofInt 1 := ⟨_, rfl⟩
          replace hE := hE.trans (Lt_in ex_967)
          have hx_967 : x_967.toInt = (v_826.toInt + 1) := by rw [ex_967]; exact i_add rfl (show (Int32.ofInt 1).toInt = 1 from rfl) (by omega)
          refine lv_iinc (v := x_967) (lv' := [(4, .int x_967), (3, .int 0), (2, .int x_966), (0, .ref t0), (1, .ref (g (8 + 2 * k)))]) hx hb dX8_find_113 hl (k := 2) rfl (by rw [ex_967]) (by decide) rfl (fun ls hl => ?_)
          refine lv_goto (tgt := 7) hx hb dX8_find_116 (by decide) ?_
          have hz_968 : (0 : Int32).toInt = 0 := rfl
          exact ih_935 x_967 0 x_966 (by rw [hx_967]; omega) (by decide) (by rw [hx_966]; omega) (show 0 ≤ (x_966 : Int32).toInt ∧ (x_966 : Int32).toInt ≤ (x_967 : Int32).toInt by omega) (by omega) (hE.trans (by rw [hrec_934])) ls (lv_sub hl [0, 1, 2, 3, 4] rfl)
        have j_969 : ∀ (hk0_j_969 : v_826.toInt ≤ 46) (hE : E_w_find k ln tf tt ti tu fb = E_w_find_j84 v_826 v_828 rec_934) (ls : Array Slot) (hl : lv_has ls 6 [(4, .int v_826), (2, .int v_828), (0, .ref t0), (1, .ref (g (8 + 2 * k)))]), W p l e ({ frames := 4, cells := 0, slots := 0, locals := 85 }) s m (([.ref t0, .ref (g (8 + 2 * k))] : List Value).toArray) below meth c s.heap [] 0 0 Q (F0 m 84 ls []) := by
          intro hk0_j_969 hE ls hl
          replace hE := hE.trans (E_w_find_j84.eq_def _ _ _)
          refine lv_iconst (v := (-1)) hx hb dX8_find_84 (by decide) ?_
          refine lv_istore_n (lv' := [(3, .int (-1)), (4, .int v_826), (2, .int v_828), (0, .ref t0), (1, .ref (g (8 + 2 * k)))]) hx hb dX8_find_85 rfl hl (by decide) rfl (fun ls hl => ?_)
          refine lv_goto (tgt := 113) hx hb dX8_find_86 (by decide) ?_
          obtain ⟨x_970, ex_970⟩ : ∃ y : Int32, y = v_826 + Int32.ofInt 1 := ⟨_, rfl⟩
          replace hE := hE.trans (Lt_in ex_970)
          have hx_970 : x_970.toInt = (v_826.toInt + 1) := by rw [ex_970]; exact i_add rfl (show (Int32.ofInt 1).toInt = 1 from rfl) (by omega)
          refine lv_iinc (v := x_970) (lv' := [(4, .int x_970), (3, .int (-1)), (2, .int v_828), (0, .ref t0), (1, .ref (g (8 + 2 * k)))]) hx hb dX8_find_113 hl (k := 1) rfl (by rw [ex_970]) (by decide) rfl (fun ls hl => ?_)
          refine lv_goto (tgt := 7) hx hb dX8_find_116 (by decide) ?_
          have hz_971 : ((-1) : Int32).toInt = (-1) := rfl
          exact ih_935 x_970 (-1) v_828 (by rw [hx_970]; omega) (by decide) (by omega) (show 0 ≤ (v_828 : Int32).toInt ∧ (v_828 : Int32).toInt ≤ (x_970 : Int32).toInt by omega) (by omega) (hE.trans (by rw [hrec_934])) ls (lv_sub hl [0, 1, 2, 3, 4] rfl)
        refine lv_icmp_ge (tgt := 34) hx hb dX8_find_22 (by decide) (fun c_972 => ?_) (fun c_972 => ?_)
        · have c_972i := i_le (x := r_939.toInt) (y := v_826.toInt) rfl rfl c_972
          replace hE := hE.trans (if_pos c_972)
          refine lv_bipush (v := 32) hx hb dX8_find_34 (by decide) ?_
          refine lv_istore (lv' := [(5, .int 32), (4, .int v_826), (3, .int v_827), (2, .int v_828), (0, .ref t0), (1, .ref (g (8 + 2 * k)))]) hx hb dX8_find_36 hl (by decide) rfl (fun ls hl => ?_)
          refine lv_iload hx hb dX8_find_38 (lv_at hl 0 rfl) ?_
          refine lv_bipush (v := 32) hx hb dX8_find_40 (by decide) ?_
          refine lv_icmp_eq (tgt := 89) hx hb dX8_find_42 (by decide) (fun c_973 => ?_) (fun c_973 => absurd (by decide) c_973)
          refine lv_iload_n hx hb dX8_find_89 rfl (lv_at hl 2 rfl) ?_
          refine lv_if_le (tgt := 108) hx hb dX8_find_90 (by decide) (fun c_974 => ?_) (fun c_974 => ?_)
          · have c_974i := i_le (x := v_827.toInt) (y := 0) rfl rfl c_974
            replace hE := hE.trans (if_pos c_974)
            exact j_965   hE ls (lv_sub hl [1, 3, 4, 5] rfl)
          · have c_974i := i_nle (x := v_827.toInt) (y := 0) rfl rfl c_974
            replace hE := hE.trans (if_neg c_974)
            refine lv_aload_n hx hb dX8_find_93 rfl (lv_at hl 4 rfl) ?_
            refine va_get (ci := 8) (v := .int tf) (C := RX8) (T := TX8) (N := 6) hx hb hts hw8 hown hK hP 0 rfl rfl 2 (by decide) (hts (.fieldLink RX8 19 "SmokeTune$Tape" "from" "I") (List.mem_cons_of_mem _ (List.mem_append_left _ (List.mem_append_left _ (List.mem_of_getElem? (i := 0) rfl))))) (fun _ h9 => h9) rfl dX8_find_94 ?_
            refine lv_iload_n hx hb dX8_find_97 rfl (lv_at hl 2 rfl) ?_
            refine lv_iadd hx hb dX8_find_98 ?_
            refine lv_topi (fun x_975 ex_975 => ?_)
            replace hE := hE.trans (Lt_in ex_975)
            have hx_975 : x_975.toInt = (tf.toInt + v_827.toInt) := by rw [ex_975]; exact i_add rfl rfl (by omega)
            refine lv_aload_n hx hb dX8_find_99 rfl (lv_at hl 4 rfl) ?_
            refine va_get (ci := 8) (v := .int tt) (C := RX8) (T := TX8) (N := 6) hx hb hts hw8 hown hK hP 0 rfl rfl 3 (by decide) (hts (.fieldLink RX8 22 "SmokeTune$Tape" "to" "I") (List.mem_cons_of_mem _ (List.mem_append_left _ (List.mem_append_left _ (List.mem_of_getElem? (i := 1) rfl))))) (fun _ h9 => h9) rfl dX8_find_100 ?_
            refine lv_icmp_ne (tgt := 108) hx hb dX8_find_103 (by decide) (fun c_976 => ?_) (fun c_976 => ?_)
            · have c_976i := i_ne (x := (tf.toInt + v_827.toInt)) (y := tt.toInt) hx_975 rfl c_976
              replace hE := hE.trans (if_neg c_976)
              exact j_965   hE ls (lv_sub hl [1, 3, 4, 5] rfl)
            · have c_976i := i_eq (x := (tf.toInt + v_827.toInt)) (y := tt.toInt) hx_975 rfl c_976
              replace hE := hE.trans (if_pos c_976)
              refine lv_iload_n hx hb dX8_find_106 rfl (lv_at hl 3 rfl) ?_
              rw [← hQ]
              exact W.iret (v := v_828) hx hb hr (fun t ht hW => ⟨_, rfl, ⟨(show (-1) ≤ v_828.toInt ∧ v_828.toInt ≤ 48 by omega), hE.symm, trivial⟩, ht⟩) (fun q hq => by cases hq) dX8_find_107
        · have c_972i := i_nle (x := r_939.toInt) (y := v_826.toInt) rfl rfl c_972
          replace hE := hE.trans (if_neg c_972)
          refine lv_aload_n hx hb dX8_find_25 rfl (lv_at hl 4 rfl) ?_
          refine lv_iload hx hb dX8_find_26 (lv_at hl 0 rfl) ?_
          refine pci (va_runV (As := [.int v_826]) (rest := []) ⟨hx, hb, hml, hown, hts⟩ (w_char l D K g L G k v_826.toInt v_826 s.heap.size hk rfl (by first | omega | decide)) (cwV 1 hts gX8_find_J0_charAt_5068e rfl rfl rfl (by decide +kernel) ⟨Nat.le_of_ble_eq_true rfl, Nat.le_of_ble_eq_true rfl⟩) (mkVSY hK hN (hG.str k hk).2 hS (fun U hU hW => ⟨Gl.at hG hS hW hU (fun _ h9 => h9.elim), Pool.at hPl hS hU (fun _ h9 => h9.elim), Ro.heap hU (Ro.nil)⟩)) rfl rfl hl.1 rfl (lv_room (Nat.le_of_ble_eq_true rfl)) dX8_find_28 ⟨Nat.le_of_ble_eq_true rfl, Nat.le_of_ble_eq_true rfl⟩) (fun r_977 hw => ?_)
          obtain ⟨hw, k_978⟩ := hw
          replace hE := hE.trans (Lt_in k_978)
          refine lv_goto (tgt := 36) hx hb dX8_find_31 (by decide) ?_
          refine lv_istore (lv' := [(5, .int r_977), (4, .int v_826), (3, .int v_827), (2, .int v_828), (0, .ref t0), (1, .ref (g (8 + 2 * k)))]) hx hb dX8_find_36 hl (by decide) rfl (fun ls hl => ?_)
          refine lv_iload hx hb dX8_find_38 (lv_at hl 0 rfl) ?_
          refine lv_bipush (v := 32) hx hb dX8_find_40 (by decide) ?_
          refine lv_icmp_eq (tgt := 89) hx hb dX8_find_42 (by decide) (fun c_979 => ?_) (fun c_979 => ?_)
          · have c_979i := i_eq (x := r_977.toInt) (y := 32) rfl rfl c_979
            replace hE := hE.trans (if_pos c_979)
            refine lv_iload_n hx hb dX8_find_89 rfl (lv_at hl 2 rfl) ?_
            refine lv_if_le (tgt := 108) hx hb dX8_find_90 (by decide) (fun c_980 => ?_) (fun c_980 => ?_)
            · have c_980i := i_le (x := v_827.toInt) (y := 0) rfl rfl c_980
              replace hE := hE.trans (if_pos c_980)
              exact j_965   hE ls (lv_sub hl [1, 3, 4, 5] rfl)
            · have c_980i := i_nle (x := v_827.toInt) (y := 0) rfl rfl c_980
              replace hE := hE.trans (if_neg c_980)
              refine lv_aload_n hx hb dX8_find_93 rfl (lv_at hl 4 rfl) ?_
              refine va_get (ci := 8) (v := .int tf) (C := RX8) (T := TX8) (N := 6) hx hb hts hw8 hown hK hP 0 rfl rfl 2 (by decide) (hts (.fieldLink RX8 19 "SmokeTune$Tape" "from" "I") (List.mem_cons_of_mem _ (List.mem_append_left _ (List.mem_append_left _ (List.mem_of_getElem? (i := 0) rfl))))) (fun _ h9 => h9) rfl dX8_find_94 ?_
              refine lv_iload_n hx hb dX8_find_97 rfl (lv_at hl 2 rfl) ?_
              refine lv_iadd hx hb dX8_find_98 ?_
              refine lv_topi (fun x_981 ex_981 => ?_)
              replace hE := hE.trans (Lt_in ex_981)
              have hx_981 : x_981.toInt = (tf.toInt + v_827.toInt) := by rw [ex_981]; exact i_add rfl rfl (by omega)
              refine lv_aload_n hx hb dX8_find_99 rfl (lv_at hl 4 rfl) ?_
              refine va_get (ci := 8) (v := .int tt) (C := RX8) (T := TX8) (N := 6) hx hb hts hw8 hown hK hP 0 rfl rfl 3 (by decide) (hts (.fieldLink RX8 22 "SmokeTune$Tape" "to" "I") (List.mem_cons_of_mem _ (List.mem_append_left _ (List.mem_append_left _ (List.mem_of_getElem? (i := 1) rfl))))) (fun _ h9 => h9) rfl dX8_find_100 ?_
              refine lv_icmp_ne (tgt := 108) hx hb dX8_find_103 (by decide) (fun c_982 => ?_) (fun c_982 => ?_)
              · have c_982i := i_ne (x := (tf.toInt + v_827.toInt)) (y := tt.toInt) hx_981 rfl c_982
                replace hE := hE.trans (if_neg c_982)
                exact j_965   hE ls (lv_sub hl [1, 3, 4, 5] rfl)
              · have c_982i := i_eq (x := (tf.toInt + v_827.toInt)) (y := tt.toInt) hx_981 rfl c_982
                replace hE := hE.trans (if_pos c_982)
                refine lv_iload_n hx hb dX8_find_106 rfl (lv_at hl 3 rfl) ?_
                rw [← hQ]
                exact W.iret (v := v_828) hx hb hr (fun t ht hW => ⟨_, rfl, ⟨(show (-1) ≤ v_828.toInt ∧ v_828.toInt ≤ 48 by omega), hE.symm, trivial⟩, ht⟩) (fun q hq => by cases hq) dX8_find_107
          · have c_979i := i_ne (x := r_977.toInt) (y := 32) rfl rfl c_979
            replace hE := hE.trans (if_neg c_979)
            refine lv_iload_n hx hb dX8_find_45 rfl (lv_at hl 2 rfl) ?_
            refine lv_if_lt (tgt := 84) hx hb dX8_find_46 (by decide) (fun c_983 => ?_) (fun c_983 => ?_)
            · have c_983i := i_lt (x := v_827.toInt) (y := 0) rfl rfl c_983
              replace hE := hE.trans (if_pos c_983)
              exact j_969  (by omega) hE ls (lv_sub hl [1, 3, 4, 5] rfl)
            · have c_983i := i_nlt (x := v_827.toInt) (y := 0) rfl rfl c_983
              replace hE := hE.trans (if_neg c_983)
              refine lv_aload_n hx hb dX8_find_49 rfl (lv_at hl 4 rfl) ?_
              refine va_get (ci := 8) (v := .int tf) (C := RX8) (T := TX8) (N := 6) hx hb hts hw8 hown hK hP 0 rfl rfl 2 (by decide) (hts (.fieldLink RX8 19 "SmokeTune$Tape" "from" "I") (List.mem_cons_of_mem _ (List.mem_append_left _ (List.mem_append_left _ (List.mem_of_getElem? (i := 0) rfl))))) (fun _ h9 => h9) rfl dX8_find_50 ?_
              refine lv_iload_n hx hb dX8_find_53 rfl (lv_at hl 2 rfl) ?_
              refine lv_iadd hx hb dX8_find_54 ?_
              refine lv_topi (fun x_984 ex_984 => ?_)
              replace hE := hE.trans (Lt_in ex_984)
              have hx_984 : x_984.toInt = (tf.toInt + v_827.toInt) := by rw [ex_984]; exact i_add rfl rfl (by omega)
              refine lv_aload_n hx hb dX8_find_55 rfl (lv_at hl 4 rfl) ?_
              refine va_get (ci := 8) (v := .int tt) (C := RX8) (T := TX8) (N := 6) hx hb hts hw8 hown hK hP 0 rfl rfl 3 (by decide) (hts (.fieldLink RX8 22 "SmokeTune$Tape" "to" "I") (List.mem_cons_of_mem _ (List.mem_append_left _ (List.mem_append_left _ (List.mem_of_getElem? (i := 1) rfl))))) (fun _ h9 => h9) rfl dX8_find_56 ?_
              refine lv_icmp_ge (tgt := 84) hx hb dX8_find_59 (by decide) (fun c_985 => ?_) (fun c_985 => ?_)
              · have c_985i := i_le (x := tt.toInt) (y := (tf.toInt + v_827.toInt)) rfl hx_984 c_985
                replace hE := hE.trans (if_pos c_985)
                exact j_969  (by omega) hE ls (lv_sub hl [1, 3, 4, 5] rfl)
              · have c_985i := i_nle (x := tt.toInt) (y := (tf.toInt + v_827.toInt)) rfl hx_984 c_985
                replace hE := hE.trans (if_neg c_985)
                refine lv_aload_n hx hb dX8_find_62 rfl (lv_at hl 4 rfl) ?_
                refine va_get (ci := 8) (v := .ref t1) (C := RX8) (T := TX8) (N := 6) hx hb hts hw8 hown hK hP 0 rfl rfl 0 (by decide) (hts (.fieldLink RX8 11 "SmokeTune$Tape" "bytes" "[I") (List.mem_cons_of_mem _ (List.mem_append_left _ (List.mem_append_left _ (List.mem_of_getElem? (i := 2) rfl))))) (fun _ h9 => h9) rfl dX8_find_63 ?_
                refine lv_aload_n hx hb dX8_find_66 rfl (lv_at hl 4 rfl) ?_
                refine va_get (ci := 8) (v := .int tf) (C := RX8) (T := TX8) (N := 6) hx hb hts hw8 hown hK hP 0 rfl rfl 2 (by decide) (hts (.fieldLink RX8 19 "SmokeTune$Tape" "from" "I") (List.mem_cons_of_mem _ (List.mem_append_left _ (List.mem_append_left _ (List.mem_of_getElem? (i := 0) rfl))))) (fun _ h9 => h9) rfl dX8_find_67 ?_
                refine lv_iload_n hx hb dX8_find_70 rfl (lv_at hl 2 rfl) ?_
                refine lv_iadd hx hb dX8_find_71 ?_
                refine lv_topi (fun x_986 ex_986 => ?_)
                replace hE := hE.trans (Lt_in ex_986)
                have hx_986 : x_986.toInt = (tf.toInt + v_827.toInt) := by rw [ex_986]; exact i_add rfl rfl (by omega)
                refine va_iald hx hb hK hP 1 0 rfl rfl (i_in hx_986 (by omega)) dX8_find_72 ?_
                refine lv_topi (fun x_987 ex_987 => ?_)
                replace hE := hE.trans (Lt_in ex_987)
                refine lv_iload hx hb dX8_find_73 (lv_at hl 0 rfl) ?_
                refine lv_icmp_ne (tgt := 84) hx hb dX8_find_75 (by decide) (fun c_988 => ?_) (fun c_988 => ?_)
                · have c_988i := i_ne (x := x_987.toInt) (y := r_977.toInt) rfl rfl c_988
                  replace hE := hE.trans (if_neg c_988)
                  exact j_969  (by omega) hE ls (lv_sub hl [1, 3, 4, 5] rfl)
                · have c_988i := i_eq (x := x_987.toInt) (y := r_977.toInt) rfl rfl c_988
                  replace hE := hE.trans (if_pos c_988)
                  refine lv_iload_n hx hb dX8_find_78 rfl (lv_at hl 2 rfl) ?_
                  refine lv_iconst (v := 1) hx hb dX8_find_79 (by decide) ?_
                  refine lv_iadd hx hb dX8_find_80 ?_
                  refine lv_topi (fun x_989 ex_989 => ?_)
                  replace hE := hE.trans (Lt_in ex_989)
                  have hx_989 : x_989.toInt = (v_827.toInt + 1) := by rw [ex_989]; exact i_add rfl (show (1 : Int32).toInt = 1 from rfl) (by omega)
                  refine lv_goto (tgt := 85) hx hb dX8_find_81 (by decide) ?_
                  refine lv_istore_n (lv' := [(3, .int x_989), (5, .int r_977), (4, .int v_826), (2, .int v_828), (0, .ref t0), (1, .ref (g (8 + 2 * k)))]) hx hb dX8_find_85 rfl hl (by decide) rfl (fun ls hl => ?_)
                  refine lv_goto (tgt := 113) hx hb dX8_find_86 (by decide) ?_
                  obtain ⟨x_990, ex_990⟩ : ∃ y : Int32, y = v_826 + Int32.ofInt 1 := ⟨_, rfl⟩
                  replace hE := hE.trans (Lt_in ex_990)
                  have hx_990 : x_990.toInt = (v_826.toInt + 1) := by rw [ex_990]; exact i_add rfl (show (Int32.ofInt 1).toInt = 1 from rfl) (by omega)
                  refine lv_iinc (v := x_990) (lv' := [(4, .int x_990), (3, .int x_989), (5, .int r_977), (2, .int v_828), (0, .ref t0), (1, .ref (g (8 + 2 * k)))]) hx hb dX8_find_113 hl (k := 2) rfl (by rw [ex_990]) (by decide) rfl (fun ls hl => ?_)
                  refine lv_goto (tgt := 7) hx hb dX8_find_116 (by decide) ?_
                  exact ih_935 x_990 x_989 v_828 (by rw [hx_990]; omega) (by rw [hx_989]; omega) (by omega) (show 0 ≤ (v_828 : Int32).toInt ∧ (v_828 : Int32).toInt ≤ (x_990 : Int32).toInt by omega) (by omega) (hE.trans (by rw [hrec_934])) ls (lv_sub hl [0, 1, 3, 4, 5] rfl)
  have hz_991 : (0 : Int32).toInt = 0 := rfl
  have hz_992 : (0 : Int32).toInt = 0 := rfl
  have hz_993 : (0 : Int32).toInt = 0 := rfl
  exact lp_934 ((49 - (0 : Int32).toInt : Int).toNat + 1) 0 0 0 (by decide) (by decide) (by decide) (show 0 ≤ (0 : Int32).toInt ∧ (0 : Int32).toInt ≤ (0 : Int32).toInt by omega) (Nat.lt_succ_self _) hE ls (lv_sub hl [0, 1, 2, 3, 4] rfl)
