theorem dJ3_checkIndex_8e157_0 : decode cJ3_checkIndex_8e157 0 = .ok (.iload_n 0, 1) := by decide +kernel
theorem dJ3_checkIndex_8e157_1 : decode cJ3_checkIndex_8e157 1 = .ok (.ifCond .lt 8, 3) := by decide +kernel
theorem dJ3_checkIndex_8e157_4 : decode cJ3_checkIndex_8e157 4 = .ok (.iload_n 0, 1) := by decide +kernel
theorem dJ3_checkIndex_8e157_5 : decode cJ3_checkIndex_8e157 5 = .ok (.iload_n 1, 1) := by decide +kernel
theorem dJ3_checkIndex_8e157_6 : decode cJ3_checkIndex_8e157 6 = .ok (.if_icmp .lt 10, 3) := by decide +kernel
theorem dJ3_checkIndex_8e157_16 : decode cJ3_checkIndex_8e157 16 = .ok (.iload_n 0, 1) := by decide +kernel
theorem dJ3_checkIndex_8e157_17 : decode cJ3_checkIndex_8e157 17 = .ok (.ireturn, 1) := by decide +kernel
theorem dJ0_checkIndex_df160_0 : decode cJ0_checkIndex_df160 0 = .ok (.iload_n 0, 1) := by decide +kernel
theorem dJ0_checkIndex_df160_1 : decode cJ0_checkIndex_df160 1 = .ok (.iload_n 1, 1) := by decide +kernel
theorem dJ0_checkIndex_df160_2 : decode cJ0_checkIndex_df160 2 = .ok (.getstatic 1053, 3) := by decide +kernel
theorem dJ0_checkIndex_df160_5 : decode cJ0_checkIndex_df160 5 = .ok (.invokestatic 1059, 3) := by decide +kernel
theorem dJ0_checkIndex_df160_8 : decode cJ0_checkIndex_df160 8 = .ok (.pop, 1) := by decide +kernel
theorem dJ0_checkIndex_df160_9 : decode cJ0_checkIndex_df160 9 = .ok (.return_, 1) := by decide +kernel
theorem dJ0_coder_7d493_0 : decode cJ0_coder_7d493 0 = .ok (.getstatic 38, 3) := by decide +kernel
theorem dJ0_coder_7d493_3 : decode cJ0_coder_7d493 3 = .ok (.ifCond .eq 10, 3) := by decide +kernel
theorem dJ0_coder_7d493_6 : decode cJ0_coder_7d493 6 = .ok (.aload_n 0, 1) := by decide +kernel
theorem dJ0_coder_7d493_7 : decode cJ0_coder_7d493 7 = .ok (.getfield 15, 3) := by decide +kernel
theorem dJ0_coder_7d493_10 : decode cJ0_coder_7d493 10 = .ok (.goto 4, 3) := by decide +kernel
theorem dJ0_coder_7d493_14 : decode cJ0_coder_7d493 14 = .ok (.ireturn, 1) := by decide +kernel
theorem dJ0_isLatin1_aae02_0 : decode cJ0_isLatin1_aae02 0 = .ok (.getstatic 38, 3) := by decide +kernel
theorem dJ0_isLatin1_aae02_3 : decode cJ0_isLatin1_aae02 3 = .ok (.ifCond .eq 14, 3) := by decide +kernel
theorem dJ0_isLatin1_aae02_6 : decode cJ0_isLatin1_aae02 6 = .ok (.aload_n 0, 1) := by decide +kernel
theorem dJ0_isLatin1_aae02_7 : decode cJ0_isLatin1_aae02 7 = .ok (.getfield 15, 3) := by decide +kernel
theorem dJ0_isLatin1_aae02_10 : decode cJ0_isLatin1_aae02 10 = .ok (.ifCond .ne 7, 3) := by decide +kernel
theorem dJ0_isLatin1_aae02_13 : decode cJ0_isLatin1_aae02 13 = .ok (.iconst 1, 1) := by decide +kernel
theorem dJ0_isLatin1_aae02_14 : decode cJ0_isLatin1_aae02 14 = .ok (.goto 4, 3) := by decide +kernel
theorem dJ0_isLatin1_aae02_18 : decode cJ0_isLatin1_aae02 18 = .ok (.ireturn, 1) := by decide +kernel
theorem dJ0_length_8abf5_0 : decode cJ0_length_8abf5 0 = .ok (.aload_n 0, 1) := by decide +kernel
theorem dJ0_length_8abf5_1 : decode cJ0_length_8abf5 1 = .ok (.getfield 9, 3) := by decide +kernel
theorem dJ0_length_8abf5_4 : decode cJ0_length_8abf5 4 = .ok (.arraylength, 1) := by decide +kernel
theorem dJ0_length_8abf5_5 : decode cJ0_length_8abf5 5 = .ok (.aload_n 0, 1) := by decide +kernel
theorem dJ0_length_8abf5_6 : decode cJ0_length_8abf5 6 = .ok (.invokevirtual 335, 3) := by decide +kernel
theorem dJ0_length_8abf5_9 : decode cJ0_length_8abf5 9 = .ok (.ishr, 1) := by decide +kernel
theorem dJ0_length_8abf5_10 : decode cJ0_length_8abf5 10 = .ok (.ireturn, 1) := by decide +kernel
theorem dJ1_charAt_3b067_0 : decode cJ1_charAt_3b067 0 = .ok (.iload_n 1, 1) := by decide +kernel
theorem dJ1_charAt_3b067_1 : decode cJ1_charAt_3b067 1 = .ok (.aload_n 0, 1) := by decide +kernel
theorem dJ1_charAt_3b067_2 : decode cJ1_charAt_3b067 2 = .ok (.arraylength, 1) := by decide +kernel
theorem dJ1_charAt_3b067_3 : decode cJ1_charAt_3b067 3 = .ok (.invokestatic 9, 3) := by decide +kernel
theorem dJ1_charAt_3b067_6 : decode cJ1_charAt_3b067 6 = .ok (.aload_n 0, 1) := by decide +kernel
theorem dJ1_charAt_3b067_7 : decode cJ1_charAt_3b067 7 = .ok (.iload_n 1, 1) := by decide +kernel
theorem dJ1_charAt_3b067_8 : decode cJ1_charAt_3b067 8 = .ok (.baload, 1) := by decide +kernel
theorem dJ1_charAt_3b067_9 : decode cJ1_charAt_3b067 9 = .ok (.sipush 255, 3) := by decide +kernel
theorem dJ1_charAt_3b067_12 : decode cJ1_charAt_3b067 12 = .ok (.iand, 1) := by decide +kernel
theorem dJ1_charAt_3b067_13 : decode cJ1_charAt_3b067 13 = .ok (.i2c, 1) := by decide +kernel
theorem dJ1_charAt_3b067_14 : decode cJ1_charAt_3b067 14 = .ok (.ireturn, 1) := by decide +kernel
theorem dJ0_charAt_5068e_0 : decode cJ0_charAt_5068e 0 = .ok (.aload_n 0, 1) := by decide +kernel
theorem dJ0_charAt_5068e_1 : decode cJ0_charAt_5068e 1 = .ok (.invokevirtual 492, 3) := by decide +kernel
theorem dJ0_charAt_5068e_4 : decode cJ0_charAt_5068e 4 = .ok (.ifCond .eq 12, 3) := by decide +kernel
theorem dJ0_charAt_5068e_7 : decode cJ0_charAt_5068e 7 = .ok (.aload_n 0, 1) := by decide +kernel
theorem dJ0_charAt_5068e_8 : decode cJ0_charAt_5068e 8 = .ok (.getfield 9, 3) := by decide +kernel
theorem dJ0_charAt_5068e_11 : decode cJ0_charAt_5068e 11 = .ok (.iload_n 1, 1) := by decide +kernel
theorem dJ0_charAt_5068e_12 : decode cJ0_charAt_5068e 12 = .ok (.invokestatic 495, 3) := by decide +kernel
theorem dJ0_charAt_5068e_15 : decode cJ0_charAt_5068e 15 = .ok (.ireturn, 1) := by decide +kernel
theorem dX8_find_0 : decode cX8_find 0 = .ok (.iconst 0, 1) := by decide +kernel
theorem dX8_find_1 : decode cX8_find 1 = .ok (.istore_n 2, 1) := by decide +kernel
theorem dX8_find_2 : decode cX8_find 2 = .ok (.iconst 0, 1) := by decide +kernel
theorem dX8_find_3 : decode cX8_find 3 = .ok (.istore_n 3, 1) := by decide +kernel
theorem dX8_find_4 : decode cX8_find 4 = .ok (.iconst 0, 1) := by decide +kernel
theorem dX8_find_5 : decode cX8_find 5 = .ok (.istore 4, 2) := by decide +kernel
theorem dX8_find_7 : decode cX8_find 7 = .ok (.iload 4, 2) := by decide +kernel
theorem dX8_find_9 : decode cX8_find 9 = .ok (.aload_n 1, 1) := by decide +kernel
theorem dX8_find_10 : decode cX8_find 10 = .ok (.invokevirtual 38, 3) := by decide +kernel
theorem dX8_find_13 : decode cX8_find 13 = .ok (.if_icmp .gt 106, 3) := by decide +kernel
theorem dX8_find_16 : decode cX8_find 16 = .ok (.iload 4, 2) := by decide +kernel
theorem dX8_find_18 : decode cX8_find 18 = .ok (.aload_n 1, 1) := by decide +kernel
theorem dX8_find_19 : decode cX8_find 19 = .ok (.invokevirtual 38, 3) := by decide +kernel
theorem dX8_find_22 : decode cX8_find 22 = .ok (.if_icmp .ge 12, 3) := by decide +kernel
theorem dX8_find_34 : decode cX8_find 34 = .ok (.bipush 32, 2) := by decide +kernel
theorem dX8_find_36 : decode cX8_find 36 = .ok (.istore 5, 2) := by decide +kernel
theorem dX8_find_38 : decode cX8_find 38 = .ok (.iload 5, 2) := by decide +kernel
theorem dX8_find_40 : decode cX8_find 40 = .ok (.bipush 32, 2) := by decide +kernel
theorem dX8_find_42 : decode cX8_find 42 = .ok (.if_icmp .eq 47, 3) := by decide +kernel
theorem dX8_find_89 : decode cX8_find 89 = .ok (.iload_n 3, 1) := by decide +kernel
theorem dX8_find_90 : decode cX8_find 90 = .ok (.ifCond .le 18, 3) := by decide +kernel
theorem dX8_find_25 : decode cX8_find 25 = .ok (.aload_n 1, 1) := by decide +kernel
theorem dX8_find_26 : decode cX8_find 26 = .ok (.iload 4, 2) := by decide +kernel
theorem dX8_find_28 : decode cX8_find 28 = .ok (.invokevirtual 43, 3) := by decide +kernel
theorem dX8_find_31 : decode cX8_find 31 = .ok (.goto 5, 3) := by decide +kernel
theorem dX8_find_45 : decode cX8_find 45 = .ok (.iload_n 3, 1) := by decide +kernel
theorem dX8_find_46 : decode cX8_find 46 = .ok (.ifCond .lt 38, 3) := by decide +kernel
theorem dX8_find_49 : decode cX8_find 49 = .ok (.aload_n 0, 1) := by decide +kernel
theorem dX8_find_50 : decode cX8_find 50 = .ok (.getfield 19, 3) := by decide +kernel
theorem dX8_find_53 : decode cX8_find 53 = .ok (.iload_n 3, 1) := by decide +kernel
theorem dX8_find_54 : decode cX8_find 54 = .ok (.iadd, 1) := by decide +kernel
theorem dX8_find_55 : decode cX8_find 55 = .ok (.aload_n 0, 1) := by decide +kernel
theorem dX8_find_56 : decode cX8_find 56 = .ok (.getfield 22, 3) := by decide +kernel
theorem dX8_find_59 : decode cX8_find 59 = .ok (.if_icmp .ge 25, 3) := by decide +kernel
theorem dX8_find_62 : decode cX8_find 62 = .ok (.aload_n 0, 1) := by decide +kernel
theorem dX8_find_63 : decode cX8_find 63 = .ok (.getfield 11, 3) := by decide +kernel
theorem dX8_find_66 : decode cX8_find 66 = .ok (.aload_n 0, 1) := by decide +kernel
theorem dX8_find_67 : decode cX8_find 67 = .ok (.getfield 19, 3) := by decide +kernel
theorem dX8_find_70 : decode cX8_find 70 = .ok (.iload_n 3, 1) := by decide +kernel
theorem dX8_find_71 : decode cX8_find 71 = .ok (.iadd, 1) := by decide +kernel
theorem dX8_find_72 : decode cX8_find 72 = .ok (.iaload, 1) := by decide +kernel
theorem dX8_find_73 : decode cX8_find 73 = .ok (.iload 5, 2) := by decide +kernel
theorem dX8_find_75 : decode cX8_find 75 = .ok (.if_icmp .ne 9, 3) := by decide +kernel
theorem dX8_find_78 : decode cX8_find 78 = .ok (.iload_n 3, 1) := by decide +kernel
theorem dX8_find_79 : decode cX8_find 79 = .ok (.iconst 1, 1) := by decide +kernel
theorem dX8_find_80 : decode cX8_find 80 = .ok (.iadd, 1) := by decide +kernel
theorem dX8_find_81 : decode cX8_find 81 = .ok (.goto 4, 3) := by decide +kernel
theorem dX8_find_85 : decode cX8_find 85 = .ok (.istore_n 3, 1) := by decide +kernel
theorem dX8_find_86 : decode cX8_find 86 = .ok (.goto 27, 3) := by decide +kernel
theorem dX8_find_113 : decode cX8_find 113 = .ok (.iinc 4 1, 3) := by decide +kernel
theorem dX8_find_116 : decode cX8_find 116 = .ok (.goto (-109), 3) := by decide +kernel
theorem dX8_find_84 : decode cX8_find 84 = .ok (.iconst (-1), 1) := by decide +kernel
theorem dX8_find_108 : decode cX8_find 108 = .ok (.iinc 2 1, 3) := by decide +kernel
theorem dX8_find_111 : decode cX8_find 111 = .ok (.iconst 0, 1) := by decide +kernel
theorem dX8_find_112 : decode cX8_find 112 = .ok (.istore_n 3, 1) := by decide +kernel
theorem dX8_find_93 : decode cX8_find 93 = .ok (.aload_n 0, 1) := by decide +kernel
theorem dX8_find_94 : decode cX8_find 94 = .ok (.getfield 19, 3) := by decide +kernel
theorem dX8_find_97 : decode cX8_find 97 = .ok (.iload_n 3, 1) := by decide +kernel
theorem dX8_find_98 : decode cX8_find 98 = .ok (.iadd, 1) := by decide +kernel
theorem dX8_find_99 : decode cX8_find 99 = .ok (.aload_n 0, 1) := by decide +kernel
theorem dX8_find_100 : decode cX8_find 100 = .ok (.getfield 22, 3) := by decide +kernel
theorem dX8_find_103 : decode cX8_find 103 = .ok (.if_icmp .ne 5, 3) := by decide +kernel
theorem dX8_find_119 : decode cX8_find 119 = .ok (.iconst (-1), 1) := by decide +kernel
theorem dX8_find_120 : decode cX8_find 120 = .ok (.ireturn, 1) := by decide +kernel
theorem dX8_find_106 : decode cX8_find 106 = .ok (.iload_n 2, 1) := by decide +kernel
theorem dX8_find_107 : decode cX8_find 107 = .ok (.ireturn, 1) := by decide +kernel
set_option maxRecDepth 20000 in
theorem ggJ0_checkIndex_df160_J3_checkIndex_8e157 : GoodIn wsJ0_checkIndex_df160 wsJ3_checkIndex_8e157 := goodIn_r _ [5] (by decide +kernel) (by decide +kernel)
set_option maxRecDepth 20000 in
theorem gJ0_checkIndex_df160_J3_checkIndex_8e157 : GoodIn wsJ0_checkIndex_df160 (va_wsS RJ0 1059 yJ3_checkIndex_8e157 wsJ3_checkIndex_8e157) := goodIn_app (goodIn_of _ (by decide +kernel)) ggJ0_checkIndex_df160_J3_checkIndex_8e157
set_option maxRecDepth 20000 in
theorem ggJ0_length_8abf5_J0_coder_7d493 : GoodIn wsJ0_length_8abf5 wsJ0_coder_7d493 := goodIn_r _ [6, 7, 8] (by decide +kernel) (by decide +kernel)
set_option maxRecDepth 20000 in
theorem gJ0_length_8abf5_J0_coder_7d493 : GoodIn wsJ0_length_8abf5 (wsV RJ0 335 RJ0 yJ0_coder_7d493 wsJ0_coder_7d493) := goodIn_app (goodIn_of _ (by decide +kernel)) ggJ0_length_8abf5_J0_coder_7d493
set_option maxRecDepth 20000 in
theorem ggJ1_charAt_3b067_J0_checkIndex_df160 : GoodIn wsJ1_charAt_3b067 wsJ0_checkIndex_df160 := goodIn_r _ [4, 5, 6, 7, 8, 9] (by decide +kernel) (by decide +kernel)
set_option maxRecDepth 20000 in
theorem gJ1_charAt_3b067_J0_checkIndex_df160 : GoodIn wsJ1_charAt_3b067 (va_wsS RJ1 9 yJ0_checkIndex_df160 wsJ0_checkIndex_df160) := goodIn_app (goodIn_of _ (by decide +kernel)) ggJ1_charAt_3b067_J0_checkIndex_df160
set_option maxRecDepth 20000 in
theorem ggJ0_charAt_5068e_J0_isLatin1_aae02 : GoodIn wsJ0_charAt_5068e wsJ0_isLatin1_aae02 := goodIn_r _ [6, 7, 8] (by decide +kernel) (by decide +kernel)
set_option maxRecDepth 20000 in
theorem gJ0_charAt_5068e_J0_isLatin1_aae02 : GoodIn wsJ0_charAt_5068e (wsV RJ0 492 RJ0 yJ0_isLatin1_aae02 wsJ0_isLatin1_aae02) := goodIn_app (goodIn_of _ (by decide +kernel)) ggJ0_charAt_5068e_J0_isLatin1_aae02
set_option maxRecDepth 20000 in
theorem ggJ0_charAt_5068e_J1_charAt_3b067 : GoodIn wsJ0_charAt_5068e wsJ1_charAt_3b067 := goodIn_r _ [12, 13, 14, 5, 15, 16, 17, 18, 19, 20] (by decide +kernel) (by decide +kernel)
set_option maxRecDepth 20000 in
theorem gJ0_charAt_5068e_J1_charAt_3b067 : GoodIn wsJ0_charAt_5068e (va_wsS RJ0 495 yJ1_charAt_3b067 wsJ1_charAt_3b067) := goodIn_app (goodIn_of _ (by decide +kernel)) ggJ0_charAt_5068e_J1_charAt_3b067
set_option maxRecDepth 20000 in
theorem ggX8_find_J0_length_8abf5 : GoodIn wsX8_find wsJ0_length_8abf5 := goodIn_r _ [8, 9, 10, 11, 12, 7, 13, 14, 15] (by decide +kernel) (by decide +kernel)
set_option maxRecDepth 20000 in
theorem gX8_find_J0_length_8abf5 : GoodIn wsX8_find (wsV RX8 38 RJ0 yJ0_length_8abf5 wsJ0_length_8abf5) := goodIn_app (goodIn_of _ (by decide +kernel)) ggX8_find_J0_length_8abf5
set_option maxRecDepth 100000 in
set_option maxHeartbeats 4000000 in
theorem ggX8_find_J0_charAt_5068e : GoodIn wsX8_find wsJ0_charAt_5068e := goodIn_q _ [19, 23, 27, 30, 35, 39, 42, 45, 49] [9, 20, 21, 22, 7, 14, 15, 24, 25, 26, 28, 29, 31, 32, 33, 34, 36, 37, 38, 40, 41, 43, 44, 46, 47, 48, 50, 51, 52] rfl (by decide +kernel) (by decide +kernel)
set_option maxRecDepth 20000 in
theorem gX8_find_J0_charAt_5068e : GoodIn wsX8_find (wsV RX8 43 RJ0 yJ0_charAt_5068e wsJ0_charAt_5068e) := goodIn_app (goodIn_of _ (by decide +kernel)) ggX8_find_J0_charAt_5068e
set_option maxHeartbeats 4000000 in
set_option maxRecDepth 100000 in
theorem w_check3_0 (l : Launch) (D : va_G) (K : Nat → ClassId) (X : Int) (Y : Int) (x : Int32) (y : Int32) (sz : Nat) (qx : x.toInt = X) (qy : y.toInt = Y) (hix : 0 ≤ X ∧ X < Y) : Met l yJ3_checkIndex_8e157 wsJ3_checkIndex_8e157 ({ frames := 0, cells := 0, slots := 0, locals := 0 }) (va_Pc [.int x, .int y, .null] (Pre D K [] sz)) (vp_Si (fun r : Int32 => ((r = x)) ∧ True)) 0 0 (fun _ => False) := by
  refine Met.ofW (cc := cJ3_checkIndex_8e157) (maxL := 3) (ret := (some .int)) (by decide) rfl ?_
  intro p e s m args below meth c s₁ B hml hv
  obtain ⟨rfl, hsz, hP, hK, hD0, hN⟩ := hv
  have hx := B.exec
  have hb := B.bytes
  have hr := B.returns
  have hts := atoms_spec (ws := wsJ3_checkIndex_8e157) B.pre
  have hown : s.vm.findClass RJ3 = some m.cls := findClass_of_methodNamed B.named
  have hlocks := B.notSynchronized
  subst hsz
  have hD := hD0
  have hP : va_P D vwCl [] s.heap := hP
  have hl := lv_entry [.int x, .int y, .null] (n := 3) (Nat.le_of_ble_eq_true rfl)
  rw [lg_entry_eq]
  generalize (lg_sl [.int x, .int y, .null] ++ List.replicate (3 - (lg_sl [.int x, .int y, .null]).length) Slot.unset).toArray = ls at hl ⊢
  have hl : lv_has ls 3 [(0, .int x), (1, .int y), (2, .null)] := hl
  generalize hQ : MQ below _ _ s _ _ _ = Q
  refine lv_iload_n hx hb dJ3_checkIndex_8e157_0 rfl (lv_at hl 0 rfl) ?_
  refine lv_if_lt (tgt := 9) hx hb dJ3_checkIndex_8e157_1 (by decide) (fun c_3 => ?_) (fun c_3 => ?_)
  · have c_3i := i_lt (x := X) (y := 0) qx rfl c_3
    exfalso; omega
  · have c_3i := i_nlt (x := X) (y := 0) qx rfl c_3
    refine lv_iload_n hx hb dJ3_checkIndex_8e157_4 rfl (lv_at hl 0 rfl) ?_
    refine lv_iload_n hx hb dJ3_checkIndex_8e157_5 rfl (lv_at hl 1 rfl) ?_
    refine lv_icmp_lt (tgt := 16) hx hb dJ3_checkIndex_8e157_6 (by decide) (fun c_4 => ?_) (fun c_4 => ?_)
    · have c_4i := i_lt (x := X) (y := Y) qx qy c_4
      refine lv_iload_n hx hb dJ3_checkIndex_8e157_16 rfl (lv_at hl 0 rfl) ?_
      rw [← hQ]
      exact W.iret (v := x) hx hb hr (fun t ht hW => ⟨_, rfl, ⟨(by first | exact rfl), trivial⟩, ht⟩) (fun q hq => by cases hq) dJ3_checkIndex_8e157_17
    · have c_4i := i_nlt (x := X) (y := Y) qx qy c_4
      exfalso; omega
set_option maxHeartbeats 4000000 in
set_option maxRecDepth 100000 in
theorem w_check3_1 (l : Launch) (D : va_G) (K : Nat → ClassId) (X : Int) (Y : Int) (x : Int32) (y : Int32) (a9 : Nat) (sz : Nat) (qx : x.toInt = X) (qy : y.toInt = Y) (hix : 0 ≤ X ∧ X < Y) : Met l yJ3_checkIndex_8e157 wsJ3_checkIndex_8e157 ({ frames := 0, cells := 0, slots := 0, locals := 0 }) (va_Pc [.int x, .int y, .ref a9] (Pre D K [] sz)) (vp_Si (fun r : Int32 => ((r = x)) ∧ True)) 0 0 (fun _ => False) := by
  refine Met.ofW (cc := cJ3_checkIndex_8e157) (maxL := 3) (ret := (some .int)) (by decide) rfl ?_
  intro p e s m args below meth c s₁ B hml hv
  obtain ⟨rfl, hsz, hP, hK, hD0, hN⟩ := hv
  have hx := B.exec
  have hb := B.bytes
  have hr := B.returns
  have hts := atoms_spec (ws := wsJ3_checkIndex_8e157) B.pre
  have hown : s.vm.findClass RJ3 = some m.cls := findClass_of_methodNamed B.named
  have hlocks := B.notSynchronized
  subst hsz
  have hD := hD0
  have hP : va_P D vwCl [] s.heap := hP
  have hl := lv_entry [.int x, .int y, .ref a9] (n := 3) (Nat.le_of_ble_eq_true rfl)
  rw [lg_entry_eq]
  generalize (lg_sl [.int x, .int y, .ref a9] ++ List.replicate (3 - (lg_sl [.int x, .int y, .ref a9]).length) Slot.unset).toArray = ls at hl ⊢
  have hl : lv_has ls 3 [(0, .int x), (1, .int y), (2, .ref a9)] := hl
  generalize hQ : MQ below _ _ s _ _ _ = Q
  refine lv_iload_n hx hb dJ3_checkIndex_8e157_0 rfl (lv_at hl 0 rfl) ?_
  refine lv_if_lt (tgt := 9) hx hb dJ3_checkIndex_8e157_1 (by decide) (fun c_3 => ?_) (fun c_3 => ?_)
  · have c_3i := i_lt (x := X) (y := 0) qx rfl c_3
    exfalso; omega
  · have c_3i := i_nlt (x := X) (y := 0) qx rfl c_3
    refine lv_iload_n hx hb dJ3_checkIndex_8e157_4 rfl (lv_at hl 0 rfl) ?_
    refine lv_iload_n hx hb dJ3_checkIndex_8e157_5 rfl (lv_at hl 1 rfl) ?_
    refine lv_icmp_lt (tgt := 16) hx hb dJ3_checkIndex_8e157_6 (by decide) (fun c_4 => ?_) (fun c_4 => ?_)
    · have c_4i := i_lt (x := X) (y := Y) qx qy c_4
      refine lv_iload_n hx hb dJ3_checkIndex_8e157_16 rfl (lv_at hl 0 rfl) ?_
      rw [← hQ]
      exact W.iret (v := x) hx hb hr (fun t ht hW => ⟨_, rfl, ⟨(by first | exact rfl), trivial⟩, ht⟩) (fun q hq => by cases hq) dJ3_checkIndex_8e157_17
    · have c_4i := i_nlt (x := X) (y := Y) qx qy c_4
      exfalso; omega
set_option maxHeartbeats 4000000 in
set_option maxRecDepth 100000 in
theorem w_check (l : Launch) (D : va_G) (K : Nat → ClassId) (g : Nat → Nat) (L : Nat → Prop) (X : Int) (Y : Int) (x : Int32) (y : Int32) (sz : Nat) (qx : x.toInt = X) (qy : y.toInt = Y) (hix : 0 ≤ X ∧ X < Y) : Met l yJ0_checkIndex_df160 wsJ0_checkIndex_df160 ({ frames := 1, cells := 0, slots := 0, locals := 22 }) (va_Pc [.int x, .int y] (PreY D K [] [] sz g L (fun _ => False))) (va_Sv (fun _ => True)) 0 0 (fun _ => False) := by
  refine Met.ofW (cc := cJ0_checkIndex_df160) (maxL := 2) (ret := none) (by decide) rfl ?_
  intro p e s m args below meth c s₁ B hml hv
  obtain ⟨rfl, ⟨hsz, hP, hK, hD0, hN⟩, hG, hPl, hRo⟩ := hv
  have hx := B.exec
  have hb := B.bytes
  have hr := B.returns
  have hts := atoms_spec (ws := wsJ0_checkIndex_df160) B.pre
  have hown : s.vm.findClass RJ0 = some m.cls := findClass_of_methodNamed B.named
  have hlocks := B.notSynchronized
  subst hsz
  have hD := hD0
  have hS : va_S (fun _ => False) s.heap s.heap [] := va_S.rf
  have hP : va_P D vwCl [] s.heap := hP
  have hl := lv_entry [.int x, .int y] (n := 2) (Nat.le_of_ble_eq_true rfl)
  rw [lg_entry_eq]
  generalize (lg_sl [.int x, .int y] ++ List.replicate (2 - (lg_sl [.int x, .int y]).length) Slot.unset).toArray = ls at hl ⊢
  have hl : lv_has ls 2 [(0, .int x), (1, .int y)] := hl
  generalize hQ : MQ below _ _ s _ _ _ = Q
  refine lv_iload_n hx hb dJ0_checkIndex_df160_0 rfl (lv_at hl 0 rfl) ?_
  refine lv_iload_n hx hb dJ0_checkIndex_df160_1 rfl (lv_at hl 1 rfl) ?_
  rcases hG.2.1.2 with hZq | ⟨tq, hZq⟩
  · refine va_gets hx hb hZq hS hown (hts (.fieldLink RJ0 1053 "jdk/internal/util/Preconditions" "SIOOBE_FORMATTER" "Ljava/util/function/BiFunction;") (List.mem_cons_of_mem _ (List.mem_of_getElem? (i := 0) rfl))) (fun _ h9 => h9) dJ0_checkIndex_df160_2 ?_
    refine pci (va_runS (As := [.int x, .int y, .null]) (rest := []) ⟨hx, hb, hml, hown, hts⟩ (w_check3_0 l D K X Y x y s.heap.size qx qy (by first | omega | decide)) (va_cwS 3 hts gJ0_checkIndex_df160_J3_checkIndex_8e157 rfl rfl rfl (by decide +kernel) ⟨Nat.le_of_ble_eq_true rfl, Nat.le_of_ble_eq_true rfl⟩) (mkS hK hN (va_P.nil) (va_D.nil (A := fun _ => True))) rfl rfl hl.1 rfl (lv_room (Nat.le_of_ble_eq_true rfl)) dJ0_checkIndex_df160_5 ⟨Nat.le_of_ble_eq_true rfl, Nat.le_of_ble_eq_true rfl⟩) (fun r_5 hw => ?_)
    obtain ⟨hw, -⟩ := hw
    obtain rfl := hw
    refine lv_pop hx hb dJ0_checkIndex_df160_8 rfl ?_
    rw [← hQ]
    exact W.vret hx hb hr (fun t ht hW => ⟨rfl, trivial, ht⟩) (fun q hq => by cases hq) dJ0_checkIndex_df160_9
  · refine va_gets hx hb hZq hS hown (hts (.fieldLink RJ0 1053 "jdk/internal/util/Preconditions" "SIOOBE_FORMATTER" "Ljava/util/function/BiFunction;") (List.mem_cons_of_mem _ (List.mem_of_getElem? (i := 0) rfl))) (fun _ h9 => h9) dJ0_checkIndex_df160_2 ?_
    refine pci (va_runS (As := [.int x, .int y, .ref tq]) (rest := []) ⟨hx, hb, hml, hown, hts⟩ (w_check3_1 l D K X Y x y tq s.heap.size qx qy (by first | omega | decide)) (va_cwS 3 hts gJ0_checkIndex_df160_J3_checkIndex_8e157 rfl rfl rfl (by decide +kernel) ⟨Nat.le_of_ble_eq_true rfl, Nat.le_of_ble_eq_true rfl⟩) (mkS hK hN (va_P.nil) (va_D.nil (A := fun _ => True))) rfl rfl hl.1 rfl (lv_room (Nat.le_of_ble_eq_true rfl)) dJ0_checkIndex_df160_5 ⟨Nat.le_of_ble_eq_true rfl, Nat.le_of_ble_eq_true rfl⟩) (fun r_6 hw => ?_)
    obtain ⟨hw, -⟩ := hw
    obtain rfl := hw
    refine lv_pop hx hb dJ0_checkIndex_df160_8 rfl ?_
    rw [← hQ]
    exact W.vret hx hb hr (fun t ht hW => ⟨rfl, trivial, ht⟩) (fun q hq => by cases hq) dJ0_checkIndex_df160_9
set_option maxHeartbeats 4000000 in
set_option maxRecDepth 100000 in
theorem w_coder (l : Launch) (D : va_G) (K : Nat → ClassId) (g : Nat → Nat) (L : Nat → Prop) (k : Nat) (sz : Nat) (hk : k < 13) : Met l yJ0_coder_7d493 wsJ0_coder_7d493 ({ frames := 0, cells := 0, slots := 0, locals := 0 }) (va_Pc [.ref (g (8 + 2 * k))] (PreY D K [] [] sz g L (fun _ => False))) (vp_Si (fun r : Int32 => ((r = 0)) ∧ True)) 0 0 (fun _ => False) := by
  refine Met.ofW (cc := cJ0_coder_7d493) (maxL := 1) (ret := (some .byte)) (by decide) rfl ?_
  intro p e s m args below meth c s₁ B hml hv
  obtain ⟨rfl, ⟨hsz, hP, hK, hD0, hN⟩, hG, hPl, hRo⟩ := hv
  have hx := B.exec
  have hb := B.bytes
  have hr := B.returns
  have hts := atoms_spec (ws := wsJ0_coder_7d493) B.pre
  have hown : s.vm.findClass RJ0 = some m.cls := findClass_of_methodNamed B.named
  have hlocks := B.notSynchronized
  subst hsz
  have hD := hD0
  have hS : va_S (fun _ => False) s.heap s.heap [] := va_S.rf
  have hP : va_P D vwCl [] s.heap := hP
  have hl := lv_entry [.ref (g (8 + 2 * k))] (n := 1) (Nat.le_of_ble_eq_true rfl)
  rw [lg_entry_eq]
  generalize (lg_sl [.ref (g (8 + 2 * k))] ++ List.replicate (1 - (lg_sl [.ref (g (8 + 2 * k))]).length) Slot.unset).toArray = ls at hl ⊢
  have hl : lv_has ls 1 [(0, .ref (g (8 + 2 * k)))] := hl
  generalize hQ : MQ below _ _ s _ _ _ = Q
  refine va_gets hx hb hG.cs hS hown (hts (.fieldLink RJ0 38 "java/lang/String" "COMPACT_STRINGS" "Z") (List.mem_cons_of_mem _ (List.mem_of_getElem? (i := 0) rfl))) (fun _ h9 => h9) dJ0_coder_7d493_0 ?_
  refine lv_if_eq (tgt := 13) hx hb dJ0_coder_7d493_3 (by decide) (fun c_2 => absurd c_2 (by decide)) (fun c_2 => ?_)
  refine lv_aload_n hx hb dJ0_coder_7d493_6 rfl (lv_at hl 0 rfl) ?_
  refine vk_getf hx hb (hG.str k hk).2.2.1 hS hown (hts (.fieldLink RJ0 15 "java/lang/String" "coder" "B") (List.mem_cons_of_mem _ (List.mem_of_getElem? (i := 1) rfl))) (fun _ h9 => h9) dJ0_coder_7d493_7 ?_
  refine lv_goto (tgt := 14) hx hb dJ0_coder_7d493_10 (by decide) ?_
  rw [← hQ]
  exact W.zret (v := 0) hx hb hr (by decide) (fun t ht hW => ⟨_, rfl, ⟨(by first | exact rfl), trivial⟩, ht⟩) (fun q hq => by cases hq) dJ0_coder_7d493_14
set_option maxHeartbeats 4000000 in
set_option maxRecDepth 100000 in
theorem w_latin (l : Launch) (D : va_G) (K : Nat → ClassId) (g : Nat → Nat) (L : Nat → Prop) (k : Nat) (sz : Nat) (hk : k < 13) : Met l yJ0_isLatin1_aae02 wsJ0_isLatin1_aae02 ({ frames := 0, cells := 0, slots := 0, locals := 0 }) (va_Pc [.ref (g (8 + 2 * k))] (PreY D K [] [] sz g L (fun _ => False))) (vp_Si (fun r : Int32 => ((r = 1)) ∧ True)) 0 0 (fun _ => False) := by
  refine Met.ofW (cc := cJ0_isLatin1_aae02) (maxL := 1) (ret := (some .boolean)) (by decide) rfl ?_
  intro p e s m args below meth c s₁ B hml hv
  obtain ⟨rfl, ⟨hsz, hP, hK, hD0, hN⟩, hG, hPl, hRo⟩ := hv
  have hx := B.exec
  have hb := B.bytes
  have hr := B.returns
  have hts := atoms_spec (ws := wsJ0_isLatin1_aae02) B.pre
  have hown : s.vm.findClass RJ0 = some m.cls := findClass_of_methodNamed B.named
  have hlocks := B.notSynchronized
  subst hsz
  have hD := hD0
  have hS : va_S (fun _ => False) s.heap s.heap [] := va_S.rf
  have hP : va_P D vwCl [] s.heap := hP
  have hl := lv_entry [.ref (g (8 + 2 * k))] (n := 1) (Nat.le_of_ble_eq_true rfl)
  rw [lg_entry_eq]
  generalize (lg_sl [.ref (g (8 + 2 * k))] ++ List.replicate (1 - (lg_sl [.ref (g (8 + 2 * k))]).length) Slot.unset).toArray = ls at hl ⊢
  have hl : lv_has ls 1 [(0, .ref (g (8 + 2 * k)))] := hl
  generalize hQ : MQ below _ _ s _ _ _ = Q
  refine va_gets hx hb hG.cs hS hown (hts (.fieldLink RJ0 38 "java/lang/String" "COMPACT_STRINGS" "Z") (List.mem_cons_of_mem _ (List.mem_of_getElem? (i := 0) rfl))) (fun _ h9 => h9) dJ0_isLatin1_aae02_0 ?_
  refine lv_if_eq (tgt := 17) hx hb dJ0_isLatin1_aae02_3 (by decide) (fun c_7 => absurd c_7 (by decide)) (fun c_7 => ?_)
  refine lv_aload_n hx hb dJ0_isLatin1_aae02_6 rfl (lv_at hl 0 rfl) ?_
  refine vk_getf hx hb (hG.str k hk).2.2.1 hS hown (hts (.fieldLink RJ0 15 "java/lang/String" "coder" "B") (List.mem_cons_of_mem _ (List.mem_of_getElem? (i := 1) rfl))) (fun _ h9 => h9) dJ0_isLatin1_aae02_7 ?_
  refine lv_if_ne (tgt := 17) hx hb dJ0_isLatin1_aae02_10 (by decide) (fun c_8 => absurd (by decide) c_8) (fun c_8 => ?_)
  refine lv_iconst (v := 1) hx hb dJ0_isLatin1_aae02_13 (by decide) ?_
  refine lv_goto (tgt := 18) hx hb dJ0_isLatin1_aae02_14 (by decide) ?_
  rw [← hQ]
  exact W.zret (v := 1) hx hb hr (by decide) (fun t ht hW => ⟨_, rfl, ⟨(by first | exact rfl), trivial⟩, ht⟩) (fun q hq => by cases hq) dJ0_isLatin1_aae02_18
set_option maxHeartbeats 4000000 in
set_option maxRecDepth 100000 in
theorem w_slen (l : Launch) (D : va_G) (K : Nat → ClassId) (g : Nat → Nat) (L : Nat → Prop) (k : Nat) (sz : Nat) (hk : k < 13) : Met l yJ0_length_8abf5 wsJ0_length_8abf5 ({ frames := 1, cells := 0, slots := 0, locals := 20 }) (va_Pc [.ref (g (8 + 2 * k))] (PreY D K [] [] sz g L (fun _ => False))) (vp_Si (fun r : Int32 => (0 ≤ r.toInt ∧ r.toInt ≤ ((sn k : Nat) : Int)) ∧ True)) 0 0 (fun _ => False) := by
  refine Met.ofW (cc := cJ0_length_8abf5) (maxL := 1) (ret := (some .int)) (by decide) rfl ?_
  intro p e s m args below meth c s₁ B hml hv
  obtain ⟨rfl, ⟨hsz, hP, hK, hD0, hN⟩, hG, hPl, hRo⟩ := hv
  have hx := B.exec
  have hb := B.bytes
  have hr := B.returns
  have hts := atoms_spec (ws := wsJ0_length_8abf5) B.pre
  have hown : s.vm.findClass RJ0 = some m.cls := findClass_of_methodNamed B.named
  have hlocks := B.notSynchronized
  subst hsz
  have hD := hD0
  have hS : va_S (fun _ => False) s.heap s.heap [] := va_S.rf
  have hP : va_P D vwCl [] s.heap := hP
  have hl := lv_entry [.ref (g (8 + 2 * k))] (n := 1) (Nat.le_of_ble_eq_true rfl)
  rw [lg_entry_eq]
  generalize (lg_sl [.ref (g (8 + 2 * k))] ++ List.replicate (1 - (lg_sl [.ref (g (8 + 2 * k))]).length) Slot.unset).toArray = ls at hl ⊢
  have hl : lv_has ls 1 [(0, .ref (g (8 + 2 * k)))] := hl
  generalize hQ : MQ below _ _ s _ _ _ = Q
  have hsn := sn_le k
  refine lv_aload_n hx hb dJ0_length_8abf5_0 rfl (lv_at hl 0 rfl) ?_
  refine vk_getf hx hb (hG.str k hk).2.2.2.1 hS hown (hts (.fieldLink RJ0 9 "java/lang/String" "value" "[B") (List.mem_cons_of_mem _ (List.mem_of_getElem? (i := 0) rfl))) (fun _ h9 => h9) dJ0_length_8abf5_1 ?_
  refine va_tlen (v := nI (sn k)) hx hb (hG.str k hk).2.2.2.2 hS rfl dJ0_length_8abf5_4 ?_
  refine lv_aload_n hx hb dJ0_length_8abf5_5 rfl (lv_at hl 0 rfl) ?_
  refine pci (va_runV (As := []) (rest := [.int (nI (sn k))]) ⟨hx, hb, hml, hown, hts⟩ (w_coder l D K g L k s.heap.size hk) (cwV 0 hts gJ0_length_8abf5_J0_coder_7d493 rfl rfl rfl (by decide +kernel) ⟨Nat.le_of_ble_eq_true rfl, Nat.le_of_ble_eq_true rfl⟩) (mkVSY hK hN (hG.str k hk).2 hS (fun U hU hW => ⟨Gl.at hG hS hW hU (fun _ h9 => h9.elim), Pool.at hPl hS hU (fun _ h9 => h9.elim), Ro.heap hU (Ro.nil)⟩)) rfl rfl hl.1 rfl (lv_room (Nat.le_of_ble_eq_true rfl)) dJ0_length_8abf5_6 ⟨Nat.le_of_ble_eq_true rfl, Nat.le_of_ble_eq_true rfl⟩) (fun r_5 hw => ?_)
  obtain ⟨hw, -⟩ := hw
  obtain rfl := hw
  refine lv_ishr hx hb dJ0_length_8abf5_9 ?_
  refine lv_topi (fun x_6 ex_6 => ?_)
  have hx_6 : 0 ≤ x_6.toInt ∧ x_6.toInt ≤ ((sn k : Nat) : Int) := by rw [ex_6]; exact i_shr (nI_toInt (by omega)) (by omega)
  rw [← hQ]
  exact W.iret (v := x_6) hx hb hr (fun t ht hW => ⟨_, rfl, ⟨by omega, trivial⟩, ht⟩) (fun q hq => by cases hq) dJ0_length_8abf5_10
set_option maxHeartbeats 4000000 in
set_option maxRecDepth 100000 in
theorem w_char1 (l : Launch) (D : va_G) (K : Nat → ClassId) (g : Nat → Nat) (L : Nat → Prop) (k : Nat) (X : Int) (x : Int32) (sz : Nat) (hk : k < 13) (qx : x.toInt = X) (hix : 0 ≤ X ∧ X < ((sn k : Nat) : Int)) : Met l yJ1_charAt_3b067 wsJ1_charAt_3b067 ({ frames := 2, cells := 0, slots := 0, locals := 43 }) (va_Pc [.ref (g (9 + 2 * k)), .int x] (PreY D K [] [] sz g L (fun _ => False))) (vp_Si (fun r : Int32 => narrow .char (.int r) = .int r)) 0 0 (fun _ => False) := by
  refine Met.ofW (cc := cJ1_charAt_3b067) (maxL := 2) (ret := (some .char)) (by decide) rfl ?_
  intro p e s m args below meth c s₁ B hml hv
  obtain ⟨rfl, ⟨hsz, hP, hK, hD0, hN⟩, hG, hPl, hRo⟩ := hv
  have hx := B.exec
  have hb := B.bytes
  have hr := B.returns
  have hts := atoms_spec (ws := wsJ1_charAt_3b067) B.pre
  have hown : s.vm.findClass RJ1 = some m.cls := findClass_of_methodNamed B.named
  have hlocks := B.notSynchronized
  subst hsz
  have hD := hD0
  have hS : va_S (fun _ => False) s.heap s.heap [] := va_S.rf
  have hP : va_P D vwCl [] s.heap := hP
  have hl := lv_entry [.ref (g (9 + 2 * k)), .int x] (n := 2) (Nat.le_of_ble_eq_true rfl)
  rw [lg_entry_eq]
  generalize (lg_sl [.ref (g (9 + 2 * k)), .int x] ++ List.replicate (2 - (lg_sl [.ref (g (9 + 2 * k)), .int x]).length) Slot.unset).toArray = ls at hl ⊢
  have hl : lv_has ls 2 [(0, .ref (g (9 + 2 * k))), (1, .int x)] := hl
  generalize hQ : MQ below _ _ s _ _ _ = Q
  have hsn := sn_le k
  refine lv_iload_n hx hb dJ1_charAt_3b067_0 rfl (lv_at hl 1 rfl) ?_
  refine lv_aload_n hx hb dJ1_charAt_3b067_1 rfl (lv_at hl 0 rfl) ?_
  refine va_tlen (v := nI (sn k)) hx hb (hG.str k hk).2.2.2.2 hS rfl dJ1_charAt_3b067_2 ?_
  refine pcv (va_runS (As := [.int x, .int (nI (sn k))]) (rest := []) ⟨hx, hb, hml, hown, hts⟩ (w_check l D K g L X ((sn k : Nat) : Int) x (nI (sn k)) s.heap.size qx (nI_toInt (by omega)) (by first | omega | decide)) (va_cwS 2 hts gJ1_charAt_3b067_J0_checkIndex_df160 rfl rfl rfl (by decide +kernel) ⟨Nat.le_of_ble_eq_true rfl, Nat.le_of_ble_eq_true rfl⟩) (mkSY hK hN (va_P.nil) (va_D.nil (A := fun _ => True)) (fun U hU hW => ⟨Gl.at hG hS hW hU (fun _ h9 => h9.elim), Pool.at hPl hS hU (fun _ h9 => h9.elim), Ro.heap hU (Ro.nil)⟩)) rfl rfl hl.1 rfl (lv_room (Nat.le_of_ble_eq_true rfl)) dJ1_charAt_3b067_3 ⟨Nat.le_of_ble_eq_true rfl, Nat.le_of_ble_eq_true rfl⟩) (fun hw => ?_)
  refine lv_aload_n hx hb dJ1_charAt_3b067_6 rfl (lv_at hl 0 rfl) ?_
  refine lv_iload_n hx hb dJ1_charAt_3b067_7 rfl (lv_at hl 1 rfl) ?_
  refine va_tb (v := .int (sf k (x : Int32).toNatClampNeg)) hx hb (hG.str k hk).2.2.2.2 hS (i_in qx (by omega)) rfl dJ1_charAt_3b067_8 ?_
  refine lv_topi (fun x_8 ex_8 => ?_)
  refine lv_sipush (v := 255) hx hb dJ1_charAt_3b067_9 (by decide) ?_
  refine lv_iand hx hb dJ1_charAt_3b067_12 ?_
  refine lv_topi (fun x_9 ex_9 => ?_)
  have hx_9 : 0 ≤ x_9.toInt ∧ x_9.toInt ≤ 255 := by rw [ex_9]; exact i_mask x_8 8 rfl (by decide)
  refine lv_i2c hx hb dJ1_charAt_3b067_13 rfl ?_
  rw [← hQ]
  exact W.zret (v := (x_9.toUInt32 % 65536).toInt32) hx hb hr (by first | exact pk_nc _ | assumption) (fun t ht hW => ⟨_, rfl, pk_nc _, ht⟩) (fun q hq => by cases hq) dJ1_charAt_3b067_14
set_option maxHeartbeats 4000000 in
set_option maxRecDepth 100000 in
theorem w_char (l : Launch) (D : va_G) (K : Nat → ClassId) (g : Nat → Nat) (L : Nat → Prop) (k : Nat) (X : Int) (x : Int32) (sz : Nat) (hk : k < 13) (qx : x.toInt = X) (hix : 0 ≤ X ∧ X < ((sn k : Nat) : Int)) : Met l yJ0_charAt_5068e wsJ0_charAt_5068e ({ frames := 3, cells := 0, slots := 0, locals := 64 }) (va_Pc [.ref (g (8 + 2 * k)), .int x] (PreY D K [] [] sz g L (fun _ => False))) (vp_Si (fun r : Int32 => narrow .char (.int r) = .int r)) 0 0 (fun _ => False) := by
  refine Met.ofW (cc := cJ0_charAt_5068e) (maxL := 2) (ret := (some .char)) (by decide) rfl ?_
  intro p e s m args below meth c s₁ B hml hv
  obtain ⟨rfl, ⟨hsz, hP, hK, hD0, hN⟩, hG, hPl, hRo⟩ := hv
  have hx := B.exec
  have hb := B.bytes
  have hr := B.returns
  have hts := atoms_spec (ws := wsJ0_charAt_5068e) B.pre
  have hown : s.vm.findClass RJ0 = some m.cls := findClass_of_methodNamed B.named
  have hlocks := B.notSynchronized
  subst hsz
  have hD := hD0
  have hS : va_S (fun _ => False) s.heap s.heap [] := va_S.rf
  have hP : va_P D vwCl [] s.heap := hP
  have hl := lv_entry [.ref (g (8 + 2 * k)), .int x] (n := 2) (Nat.le_of_ble_eq_true rfl)
  rw [lg_entry_eq]
  generalize (lg_sl [.ref (g (8 + 2 * k)), .int x] ++ List.replicate (2 - (lg_sl [.ref (g (8 + 2 * k)), .int x]).length) Slot.unset).toArray = ls at hl ⊢
  have hl : lv_has ls 2 [(0, .ref (g (8 + 2 * k))), (1, .int x)] := hl
  generalize hQ : MQ below _ _ s _ _ _ = Q
  have hsn := sn_le k
  refine lv_aload_n hx hb dJ0_charAt_5068e_0 rfl (lv_at hl 0 rfl) ?_
  refine pci (va_runV (As := []) (rest := []) ⟨hx, hb, hml, hown, hts⟩ (w_latin l D K g L k s.heap.size hk) (cwV 0 hts gJ0_charAt_5068e_J0_isLatin1_aae02 rfl rfl rfl (by decide +kernel) ⟨Nat.le_of_ble_eq_true rfl, Nat.le_of_ble_eq_true rfl⟩) (mkVSY hK hN (hG.str k hk).2 hS (fun U hU hW => ⟨Gl.at hG hS hW hU (fun _ h9 => h9.elim), Pool.at hPl hS hU (fun _ h9 => h9.elim), Ro.heap hU (Ro.nil)⟩)) rfl rfl hl.1 rfl (lv_room (Nat.le_of_ble_eq_true rfl)) dJ0_charAt_5068e_1 ⟨Nat.le_of_ble_eq_true rfl, Nat.le_of_ble_eq_true rfl⟩) (fun r_7 hw => ?_)
  obtain ⟨hw, -⟩ := hw
  obtain rfl := hw
  refine lv_if_eq (tgt := 16) hx hb dJ0_charAt_5068e_4 (by decide) (fun c_8 => absurd c_8 (by decide)) (fun c_8 => ?_)
  refine lv_aload_n hx hb dJ0_charAt_5068e_7 rfl (lv_at hl 0 rfl) ?_
  refine vk_getf hx hb (hG.str k hk).2.2.2.1 hS hown (hts (.fieldLink RJ0 9 "java/lang/String" "value" "[B") (List.mem_cons_of_mem _ (List.mem_append_left _ (List.mem_of_getElem? (i := 0) rfl)))) (fun _ h9 => h9) dJ0_charAt_5068e_8 ?_
  refine lv_iload_n hx hb dJ0_charAt_5068e_11 rfl (lv_at hl 1 rfl) ?_
  refine pci (va_runS (As := [.ref (g (9 + 2 * k)), .int x]) (rest := []) ⟨hx, hb, hml, hown, hts⟩ (w_char1 l D K g L k X x s.heap.size hk qx (by first | omega | decide)) (va_cwS 2 hts gJ0_charAt_5068e_J1_charAt_3b067 rfl rfl rfl (by decide +kernel) ⟨Nat.le_of_ble_eq_true rfl, Nat.le_of_ble_eq_true rfl⟩) (mkSY hK hN (va_P.nil) (va_D.nil (A := fun _ => True)) (fun U hU hW => ⟨Gl.at hG hS hW hU (fun _ h9 => h9.elim), Pool.at hPl hS hU (fun _ h9 => h9.elim), Ro.heap hU (Ro.nil)⟩)) rfl rfl hl.1 rfl (lv_room (Nat.le_of_ble_eq_true rfl)) dJ0_charAt_5068e_12 ⟨Nat.le_of_ble_eq_true rfl, Nat.le_of_ble_eq_true rfl⟩) (fun r_9 hw => ?_)
  rw [← hQ]
  exact W.zret (v := r_9) hx hb hr (by first | exact pk_nc _ | assumption) (fun t ht hW => ⟨_, rfl, hw, ht⟩) (fun q hq => by cases hq) dJ0_charAt_5068e_15
set_option maxHeartbeats 4000000 in
set_option maxRecDepth 100000 in
theorem w_find (l : Launch) (D : va_G) (K : Nat → ClassId) (g : Nat → Nat) (L : Nat → Prop) (k : Nat) (t0 : Nat) (t1 : Nat) (ln : Int32) (tf : Int32) (tt : Int32) (ti : Int32) (tu : Int32) (fb : Nat → Int32) (sz : Nat) (hk : k < 13) (zln : 0 ≤ ln.toInt ∧ ln.toInt ≤ 400) (ztf : 0 ≤ tf.toInt ∧ tf.toInt ≤ 400) (ztt : 0 ≤ tt.toInt ∧ tt.toInt ≤ 400) (ztu : (-1) ≤ tu.toInt ∧ tu.toInt ≤ 1000000) : Met l yX8_find wsX8_find ({ frames := 4, cells := 0, slots := 0, locals := 85 }) (va_Pc [.ref t0, .ref (g (8 + 2 * k))] (PreY D K [(t0, .inr (8, [.ref t1, .int ln, .int tf, .int tt, .int ti, .int tu])), (t1, .inl (K 0, 400, .inl fb))] [] sz g L (fun _ => False))) (vp_Si (fun r : Int32 => ((-1) ≤ r.toInt ∧ r.toInt ≤ 48) ∧ True)) 0 0 (fun _ => False) := by
  refine Met.ofW (cc := cX8_find) (maxL := 6) (ret := (some .int)) (by decide) rfl ?_
  intro p e s m args below meth c s₁ B hml hv
  obtain ⟨rfl, ⟨hsz, hP, hK, hD0, hN⟩, hG, hPl, hRo⟩ := hv
  have hx := B.exec
  have hb := B.bytes
  have hr := B.returns
  have hts := atoms_spec (ws := wsX8_find) B.pre
  have hown : s.vm.findClass RX8 = some m.cls := findClass_of_methodNamed B.named
  have hlocks := B.notSynchronized
  subst hsz
  have hD := hD0
  have hS : va_S (fun _ => False) s.heap s.heap [] := va_S.rf
  have hP : va_P D vwCl [(t0, .inr (8, [.ref t1, .int ln, .int tf, .int tt, .int ti, .int tu])), (t1, .inl (K 0, 400, .inl fb))] s.heap := hP
  have hl := lv_entry [.ref t0, .ref (g (8 + 2 * k))] (n := 6) (Nat.le_of_ble_eq_true rfl)
  rw [lg_entry_eq]
  generalize (lg_sl [.ref t0, .ref (g (8 + 2 * k))] ++ List.replicate (6 - (lg_sl [.ref t0, .ref (g (8 + 2 * k))]).length) Slot.unset).toArray = ls at hl ⊢
  have hl : lv_has ls 6 [(0, .ref t0), (1, .ref (g (8 + 2 * k)))] := hl
  have hw8 : ∀ w ∈ wsX80, w ∈ wsX8_find := fun w h => (List.mem_cons_of_mem _ (List.mem_append_right _ h))
  generalize hQ : MQ below _ _ s _ _ _ = Q
  refine lv_iconst (v := 0) hx hb dX8_find_0 (by decide) ?_
  refine lv_istore_n (lv' := [(2, .int 0), (0, .ref t0), (1, .ref (g (8 + 2 * k)))]) hx hb dX8_find_1 rfl hl (by decide) rfl (fun ls hl => ?_)
  refine lv_iconst (v := 0) hx hb dX8_find_2 (by decide) ?_
  refine lv_istore_n (lv' := [(3, .int 0), (2, .int 0), (0, .ref t0), (1, .ref (g (8 + 2 * k)))]) hx hb dX8_find_3 rfl hl (by decide) rfl (fun ls hl => ?_)
  refine lv_iconst (v := 0) hx hb dX8_find_4 (by decide) ?_
  refine lv_istore (lv' := [(4, .int 0), (3, .int 0), (2, .int 0), (0, .ref t0), (1, .ref (g (8 + 2 * k)))]) hx hb dX8_find_5 hl (by decide) rfl (fun ls hl => ?_)
  have lp_806 : ∀ (nn_ : Nat) (v_706 : Int32) (v_707 : Int32) (v_708 : Int32) (hv_706 : 0 ≤ v_706.toInt ∧ v_706.toInt ≤ 48) (hv_707 : (-1) ≤ v_707.toInt ∧ v_707.toInt ≤ 400) (hv_708 : 0 ≤ v_708.toInt ∧ v_708.toInt ≤ 48) (hr0_lp_806 : 0 ≤ v_708.toInt ∧ v_708.toInt ≤ v_706.toInt) (hn : (49 - v_706.toInt : Int).toNat < nn_) (ls : Array Slot) (hl : lv_has ls 6 [(4, .int v_706), (3, .int v_707), (2, .int v_708), (0, .ref t0), (1, .ref (g (8 + 2 * k)))]), W p l e ({ frames := 4, cells := 0, slots := 0, locals := 85 }) s m (([.ref t0, .ref (g (8 + 2 * k))] : List Value).toArray) below meth c s.heap [] 0 0 Q (F0 m 7 ls []) := by
    intro nn_
    induction nn_ with
    | zero =>
      intro v_706 v_707 v_708 hv_706 hv_707 hv_708 hr0_lp_806 hn ls hl
      exact absurd hn (Nat.not_lt_zero _)
    | succ nn_ ih_807 =>
      intro v_706 v_707 v_708 hv_706 hv_707 hv_708 hr0_lp_806 hn ls hl
      refine lv_iload hx hb dX8_find_7 (lv_at hl 0 rfl) ?_
      refine lv_aload_n hx hb dX8_find_9 rfl (lv_at hl 4 rfl) ?_
      refine pci (va_runV (As := []) (rest := [.int v_706]) ⟨hx, hb, hml, hown, hts⟩ (w_slen l D K g L k s.heap.size hk) (cwV 0 hts gX8_find_J0_length_8abf5 rfl rfl rfl (by decide +kernel) ⟨Nat.le_of_ble_eq_true rfl, Nat.le_of_ble_eq_true rfl⟩) (mkVSY hK hN (hG.str k hk).2 hS (fun U hU hW => ⟨Gl.at hG hS hW hU (fun _ h9 => h9.elim), Pool.at hPl hS hU (fun _ h9 => h9.elim), Ro.heap hU (Ro.nil)⟩)) rfl rfl hl.1 rfl (lv_room (Nat.le_of_ble_eq_true rfl)) dX8_find_10 ⟨Nat.le_of_ble_eq_true rfl, Nat.le_of_ble_eq_true rfl⟩) (fun r_808 hw => ?_)
      obtain ⟨hr_808, -⟩ := hw
      have hnr_808 := sn_le k
      refine lv_icmp_gt (tgt := 119) hx hb dX8_find_13 (by decide) (fun c_809 => ?_) (fun c_809 => ?_)
      · have c_809i := i_lt (x := r_808.toInt) (y := v_706.toInt) rfl rfl c_809
        refine lv_iconst (v := (-1)) hx hb dX8_find_119 (by decide) ?_
        rw [← hQ]
        exact W.iret (v := (-1)) hx hb hr (fun t ht hW => ⟨_, rfl, ⟨(show (-1) ≤ ((-1) : Int32).toInt ∧ ((-1) : Int32).toInt ≤ 48 by decide), trivial⟩, ht⟩) (fun q hq => by cases hq) dX8_find_120
      · have c_809i := i_nlt (x := r_808.toInt) (y := v_706.toInt) rfl rfl c_809
        refine lv_iload hx hb dX8_find_16 (lv_at hl 0 rfl) ?_
        refine lv_aload_n hx hb dX8_find_18 rfl (lv_at hl 4 rfl) ?_
        refine pci (va_runV (As := []) (rest := [.int v_706]) ⟨hx, hb, hml, hown, hts⟩ (w_slen l D K g L k s.heap.size hk) (cwV 0 hts gX8_find_J0_length_8abf5 rfl rfl rfl (by decide +kernel) ⟨Nat.le_of_ble_eq_true rfl, Nat.le_of_ble_eq_true rfl⟩) (mkVSY hK hN (hG.str k hk).2 hS (fun U hU hW => ⟨Gl.at hG hS hW hU (fun _ h9 => h9.elim), Pool.at hPl hS hU (fun _ h9 => h9.elim), Ro.heap hU (Ro.nil)⟩)) rfl rfl hl.1 rfl (lv_room (Nat.le_of_ble_eq_true rfl)) dX8_find_19 ⟨Nat.le_of_ble_eq_true rfl, Nat.le_of_ble_eq_true rfl⟩) (fun r_810 hw => ?_)
        obtain ⟨hr_810, -⟩ := hw
        have hnr_810 := sn_le k
        have j_834 : ∀ (ls : Array Slot) (hl : lv_has ls 6 [(4, .int v_706), (2, .int v_708), (0, .ref t0), (1, .ref (g (8 + 2 * k)))]), W p l e ({ frames := 4, cells := 0, slots := 0, locals := 85 }) s m (([.ref t0, .ref (g (8 + 2 * k))] : List Value).toArray) below meth c s.heap [] 0 0 Q (F0 m 108 ls []) := by
          intro ls hl
          obtain ⟨x_835, ex_835⟩ : ∃ y : Int32, y = v_708 + Int32.ofInt 1 := ⟨_, rfl⟩
          have hx_835 : x_835.toInt = (v_708.toInt + 1) := by rw [ex_835]; exact i_add rfl (show (Int32.ofInt 1).toInt = 1 from rfl) (by omega)
          refine lv_iinc (v := x_835) (lv' := [(2, .int x_835), (4, .int v_706), (0, .ref t0), (1, .ref (g (8 + 2 * k)))]) hx hb dX8_find_108 hl (k := 1) rfl (by rw [ex_835]) (by decide) rfl (fun ls hl => ?_)
          refine lv_iconst (v := 0) hx hb dX8_find_111 (by decide) ?_
          refine lv_istore_n (lv' := [(3, .int 0), (2, .int x_835), (4, .int v_706), (0, .ref t0), (1, .ref (g (8 + 2 * k)))]) hx hb dX8_find_112 rfl hl (by decide) rfl (fun ls hl => ?_)
          obtain ⟨x_836, ex_836⟩ : ∃ y : Int32, y = v_706 + Int32.ofInt 1 := ⟨_, rfl⟩
          have hx_836 : x_836.toInt = (v_706.toInt + 1) := by rw [ex_836]; exact i_add rfl (show (Int32.ofInt 1).toInt = 1 from rfl) (by omega)
          refine lv_iinc (v := x_836) (lv' := [(4, .int x_836), (3, .int 0), (2, .int x_835), (0, .ref t0), (1, .ref (g (8 + 2 * k)))]) hx hb dX8_find_113 hl (k := 2) rfl (by rw [ex_836]) (by decide) rfl (fun ls hl => ?_)
          refine lv_goto (tgt := 7) hx hb dX8_find_116 (by decide) ?_
          have hz_837 : (0 : Int32).toInt = 0 := rfl
          exact ih_807 x_836 0 x_835 (by rw [hx_836]; omega) (by decide) (by rw [hx_835]; omega) (show 0 ≤ (x_835 : Int32).toInt ∧ (x_835 : Int32).toInt ≤ (x_836 : Int32).toInt by omega) (by omega) ls (lv_sub hl [0, 1, 2, 3, 4] rfl)
        have j_838 : ∀ (hk0_j_838 : v_706.toInt ≤ 46) (ls : Array Slot) (hl : lv_has ls 6 [(4, .int v_706), (2, .int v_708), (0, .ref t0), (1, .ref (g (8 + 2 * k)))]), W p l e ({ frames := 4, cells := 0, slots := 0, locals := 85 }) s m (([.ref t0, .ref (g (8 + 2 * k))] : List Value).toArray) below meth c s.heap [] 0 0 Q (F0 m 84 ls []) := by
          intro hk0_j_838 ls hl
          refine lv_iconst (v := (-1)) hx hb dX8_find_84 (by decide) ?_
          refine lv_istore_n (lv' := [(3, .int (-1)), (4, .int v_706), (2, .int v_708), (0, .ref t0), (1, .ref (g (8 + 2 * k)))]) hx hb dX8_find_85 rfl hl (by decide) rfl (fun ls hl => ?_)
          refine lv_goto (tgt := 113) hx hb dX8_find_86 (by decide) ?_
          obtain ⟨x_839, ex_839⟩ : ∃ y : Int32, y = v_706 + Int32.ofInt 1 := ⟨_, rfl⟩
          have hx_839 : x_839.toInt = (v_706.toInt + 1) := by rw [ex_839]; exact i_add rfl (show (Int32.ofInt 1).toInt = 1 from rfl) (by omega)
          refine lv_iinc (v := x_839) (lv' := [(4, .int x_839), (3, .int (-1)), (2, .int v_708), (0, .ref t0), (1, .ref (g (8 + 2 * k)))]) hx hb dX8_find_113 hl (k := 1) rfl (by rw [ex_839]) (by decide) rfl (fun ls hl => ?_)
          refine lv_goto (tgt := 7) hx hb dX8_find_116 (by decide) ?_
          have hz_840 : ((-1) : Int32).toInt = (-1) := rfl
          exact ih_807 x_839 (-1) v_708 (by rw [hx_839]; omega) (by decide) (by omega) (show 0 ≤ (v_708 : Int32).toInt ∧ (v_708 : Int32).toInt ≤ (x_839 : Int32).toInt by omega) (by omega) ls (lv_sub hl [0, 1, 2, 3, 4] rfl)
        refine lv_icmp_ge (tgt := 34) hx hb dX8_find_22 (by decide) (fun c_841 => ?_) (fun c_841 => ?_)
        · have c_841i := i_le (x := r_810.toInt) (y := v_706.toInt) rfl rfl c_841
          refine lv_bipush (v := 32) hx hb dX8_find_34 (by decide) ?_
          refine lv_istore (lv' := [(5, .int 32), (4, .int v_706), (3, .int v_707), (2, .int v_708), (0, .ref t0), (1, .ref (g (8 + 2 * k)))]) hx hb dX8_find_36 hl (by decide) rfl (fun ls hl => ?_)
          refine lv_iload hx hb dX8_find_38 (lv_at hl 0 rfl) ?_
          refine lv_bipush (v := 32) hx hb dX8_find_40 (by decide) ?_
          refine lv_icmp_eq (tgt := 89) hx hb dX8_find_42 (by decide) (fun c_842 => ?_) (fun c_842 => absurd (by decide) c_842)
          refine lv_iload_n hx hb dX8_find_89 rfl (lv_at hl 2 rfl) ?_
          refine lv_if_le (tgt := 108) hx hb dX8_find_90 (by decide) (fun c_843 => ?_) (fun c_843 => ?_)
          · have c_843i := i_le (x := v_707.toInt) (y := 0) rfl rfl c_843
            exact j_834   ls (lv_sub hl [1, 3, 4, 5] rfl)
          · have c_843i := i_nle (x := v_707.toInt) (y := 0) rfl rfl c_843
            refine lv_aload_n hx hb dX8_find_93 rfl (lv_at hl 4 rfl) ?_
            refine va_get (ci := 8) (v := .int tf) (C := RX8) (T := TX8) (N := 6) hx hb hts hw8 hown hK hP 0 rfl rfl 2 (by decide) (hts (.fieldLink RX8 19 "SmokeTune$Tape" "from" "I") (List.mem_cons_of_mem _ (List.mem_append_left _ (List.mem_append_left _ (List.mem_of_getElem? (i := 0) rfl))))) (fun _ h9 => h9) rfl dX8_find_94 ?_
            refine lv_iload_n hx hb dX8_find_97 rfl (lv_at hl 2 rfl) ?_
            refine lv_iadd hx hb dX8_find_98 ?_
            refine lv_topi (fun x_844 ex_844 => ?_)
            have hx_844 : x_844.toInt = (tf.toInt + v_707.toInt) := by rw [ex_844]; exact i_add rfl rfl (by omega)
            refine lv_aload_n hx hb dX8_find_99 rfl (lv_at hl 4 rfl) ?_
            refine va_get (ci := 8) (v := .int tt) (C := RX8) (T := TX8) (N := 6) hx hb hts hw8 hown hK hP 0 rfl rfl 3 (by decide) (hts (.fieldLink RX8 22 "SmokeTune$Tape" "to" "I") (List.mem_cons_of_mem _ (List.mem_append_left _ (List.mem_append_left _ (List.mem_of_getElem? (i := 1) rfl))))) (fun _ h9 => h9) rfl dX8_find_100 ?_
            refine lv_icmp_ne (tgt := 108) hx hb dX8_find_103 (by decide) (fun c_845 => ?_) (fun c_845 => ?_)
            · have c_845i := i_ne (x := (tf.toInt + v_707.toInt)) (y := tt.toInt) hx_844 rfl c_845
              exact j_834   ls (lv_sub hl [1, 3, 4, 5] rfl)
            · have c_845i := i_eq (x := (tf.toInt + v_707.toInt)) (y := tt.toInt) hx_844 rfl c_845
              refine lv_iload_n hx hb dX8_find_106 rfl (lv_at hl 3 rfl) ?_
              rw [← hQ]
              exact W.iret (v := v_708) hx hb hr (fun t ht hW => ⟨_, rfl, ⟨(show (-1) ≤ v_708.toInt ∧ v_708.toInt ≤ 48 by omega), trivial⟩, ht⟩) (fun q hq => by cases hq) dX8_find_107
        · have c_841i := i_nle (x := r_810.toInt) (y := v_706.toInt) rfl rfl c_841
          refine lv_aload_n hx hb dX8_find_25 rfl (lv_at hl 4 rfl) ?_
          refine lv_iload hx hb dX8_find_26 (lv_at hl 0 rfl) ?_
          refine pci (va_runV (As := [.int v_706]) (rest := []) ⟨hx, hb, hml, hown, hts⟩ (w_char l D K g L k v_706.toInt v_706 s.heap.size hk rfl (by first | omega | decide)) (cwV 1 hts gX8_find_J0_charAt_5068e rfl rfl rfl (by decide +kernel) ⟨Nat.le_of_ble_eq_true rfl, Nat.le_of_ble_eq_true rfl⟩) (mkVSY hK hN (hG.str k hk).2 hS (fun U hU hW => ⟨Gl.at hG hS hW hU (fun _ h9 => h9.elim), Pool.at hPl hS hU (fun _ h9 => h9.elim), Ro.heap hU (Ro.nil)⟩)) rfl rfl hl.1 rfl (lv_room (Nat.le_of_ble_eq_true rfl)) dX8_find_28 ⟨Nat.le_of_ble_eq_true rfl, Nat.le_of_ble_eq_true rfl⟩) (fun r_846 hw => ?_)
          refine lv_goto (tgt := 36) hx hb dX8_find_31 (by decide) ?_
          refine lv_istore (lv' := [(5, .int r_846), (4, .int v_706), (3, .int v_707), (2, .int v_708), (0, .ref t0), (1, .ref (g (8 + 2 * k)))]) hx hb dX8_find_36 hl (by decide) rfl (fun ls hl => ?_)
          refine lv_iload hx hb dX8_find_38 (lv_at hl 0 rfl) ?_
          refine lv_bipush (v := 32) hx hb dX8_find_40 (by decide) ?_
          refine lv_icmp_eq (tgt := 89) hx hb dX8_find_42 (by decide) (fun c_847 => ?_) (fun c_847 => ?_)
          · have c_847i := i_eq (x := r_846.toInt) (y := 32) rfl rfl c_847
            refine lv_iload_n hx hb dX8_find_89 rfl (lv_at hl 2 rfl) ?_
            refine lv_if_le (tgt := 108) hx hb dX8_find_90 (by decide) (fun c_848 => ?_) (fun c_848 => ?_)
            · have c_848i := i_le (x := v_707.toInt) (y := 0) rfl rfl c_848
              exact j_834   ls (lv_sub hl [1, 3, 4, 5] rfl)
            · have c_848i := i_nle (x := v_707.toInt) (y := 0) rfl rfl c_848
              refine lv_aload_n hx hb dX8_find_93 rfl (lv_at hl 4 rfl) ?_
              refine va_get (ci := 8) (v := .int tf) (C := RX8) (T := TX8) (N := 6) hx hb hts hw8 hown hK hP 0 rfl rfl 2 (by decide) (hts (.fieldLink RX8 19 "SmokeTune$Tape" "from" "I") (List.mem_cons_of_mem _ (List.mem_append_left _ (List.mem_append_left _ (List.mem_of_getElem? (i := 0) rfl))))) (fun _ h9 => h9) rfl dX8_find_94 ?_
              refine lv_iload_n hx hb dX8_find_97 rfl (lv_at hl 2 rfl) ?_
              refine lv_iadd hx hb dX8_find_98 ?_
              refine lv_topi (fun x_849 ex_849 => ?_)
              have hx_849 : x_849.toInt = (tf.toInt + v_707.toInt) := by rw [ex_849]; exact i_add rfl rfl (by omega)
              refine lv_aload_n hx hb dX8_find_99 rfl (lv_at hl 4 rfl) ?_
              refine va_get (ci := 8) (v := .int tt) (C := RX8) (T := TX8) (N := 6) hx hb hts hw8 hown hK hP 0 rfl rfl 3 (by decide) (hts (.fieldLink RX8 22 "SmokeTune$Tape" "to" "I") (List.mem_cons_of_mem _ (List.mem_append_left _ (List.mem_append_left _ (List.mem_of_getElem? (i := 1) rfl))))) (fun _ h9 => h9) rfl dX8_find_100 ?_
              refine lv_icmp_ne (tgt := 108) hx hb dX8_find_103 (by decide) (fun c_850 => ?_) (fun c_850 => ?_)
              · have c_850i := i_ne (x := (tf.toInt + v_707.toInt)) (y := tt.toInt) hx_849 rfl c_850
                exact j_834   ls (lv_sub hl [1, 3, 4, 5] rfl)
              · have c_850i := i_eq (x := (tf.toInt + v_707.toInt)) (y := tt.toInt) hx_849 rfl c_850
                refine lv_iload_n hx hb dX8_find_106 rfl (lv_at hl 3 rfl) ?_
                rw [← hQ]
                exact W.iret (v := v_708) hx hb hr (fun t ht hW => ⟨_, rfl, ⟨(show (-1) ≤ v_708.toInt ∧ v_708.toInt ≤ 48 by omega), trivial⟩, ht⟩) (fun q hq => by cases hq) dX8_find_107
          · have c_847i := i_ne (x := r_846.toInt) (y := 32) rfl rfl c_847
            refine lv_iload_n hx hb dX8_find_45 rfl (lv_at hl 2 rfl) ?_
            refine lv_if_lt (tgt := 84) hx hb dX8_find_46 (by decide) (fun c_851 => ?_) (fun c_851 => ?_)
            · have c_851i := i_lt (x := v_707.toInt) (y := 0) rfl rfl c_851
              exact j_838  (by omega) ls (lv_sub hl [1, 3, 4, 5] rfl)
            · have c_851i := i_nlt (x := v_707.toInt) (y := 0) rfl rfl c_851
              refine lv_aload_n hx hb dX8_find_49 rfl (lv_at hl 4 rfl) ?_
              refine va_get (ci := 8) (v := .int tf) (C := RX8) (T := TX8) (N := 6) hx hb hts hw8 hown hK hP 0 rfl rfl 2 (by decide) (hts (.fieldLink RX8 19 "SmokeTune$Tape" "from" "I") (List.mem_cons_of_mem _ (List.mem_append_left _ (List.mem_append_left _ (List.mem_of_getElem? (i := 0) rfl))))) (fun _ h9 => h9) rfl dX8_find_50 ?_
              refine lv_iload_n hx hb dX8_find_53 rfl (lv_at hl 2 rfl) ?_
              refine lv_iadd hx hb dX8_find_54 ?_
              refine lv_topi (fun x_852 ex_852 => ?_)
              have hx_852 : x_852.toInt = (tf.toInt + v_707.toInt) := by rw [ex_852]; exact i_add rfl rfl (by omega)
              refine lv_aload_n hx hb dX8_find_55 rfl (lv_at hl 4 rfl) ?_
              refine va_get (ci := 8) (v := .int tt) (C := RX8) (T := TX8) (N := 6) hx hb hts hw8 hown hK hP 0 rfl rfl 3 (by decide) (hts (.fieldLink RX8 22 "SmokeTune$Tape" "to" "I") (List.mem_cons_of_mem _ (List.mem_append_left _ (List.mem_append_left _ (List.mem_of_getElem? (i := 1) rfl))))) (fun _ h9 => h9) rfl dX8_find_56 ?_
              refine lv_icmp_ge (tgt := 84) hx hb dX8_find_59 (by decide) (fun c_853 => ?_) (fun c_853 => ?_)
              · have c_853i := i_le (x := tt.toInt) (y := (tf.toInt + v_707.toInt)) rfl hx_852 c_853
                exact j_838  (by omega) ls (lv_sub hl [1, 3, 4, 5] rfl)
              · have c_853i := i_nle (x := tt.toInt) (y := (tf.toInt + v_707.toInt)) rfl hx_852 c_853
                refine lv_aload_n hx hb dX8_find_62 rfl (lv_at hl 4 rfl) ?_
                refine va_get (ci := 8) (v := .ref t1) (C := RX8) (T := TX8) (N := 6) hx hb hts hw8 hown hK hP 0 rfl rfl 0 (by decide) (hts (.fieldLink RX8 11 "SmokeTune$Tape" "bytes" "[I") (List.mem_cons_of_mem _ (List.mem_append_left _ (List.mem_append_left _ (List.mem_of_getElem? (i := 2) rfl))))) (fun _ h9 => h9) rfl dX8_find_63 ?_
                refine lv_aload_n hx hb dX8_find_66 rfl (lv_at hl 4 rfl) ?_
                refine va_get (ci := 8) (v := .int tf) (C := RX8) (T := TX8) (N := 6) hx hb hts hw8 hown hK hP 0 rfl rfl 2 (by decide) (hts (.fieldLink RX8 19 "SmokeTune$Tape" "from" "I") (List.mem_cons_of_mem _ (List.mem_append_left _ (List.mem_append_left _ (List.mem_of_getElem? (i := 0) rfl))))) (fun _ h9 => h9) rfl dX8_find_67 ?_
                refine lv_iload_n hx hb dX8_find_70 rfl (lv_at hl 2 rfl) ?_
                refine lv_iadd hx hb dX8_find_71 ?_
                refine lv_topi (fun x_854 ex_854 => ?_)
                have hx_854 : x_854.toInt = (tf.toInt + v_707.toInt) := by rw [ex_854]; exact i_add rfl rfl (by omega)
                refine va_iald hx hb hK hP 1 0 rfl rfl (i_in hx_854 (by omega)) dX8_find_72 ?_
                refine lv_topi (fun x_855 ex_855 => ?_)
                refine lv_iload hx hb dX8_find_73 (lv_at hl 0 rfl) ?_
                refine lv_icmp_ne (tgt := 84) hx hb dX8_find_75 (by decide) (fun c_856 => ?_) (fun c_856 => ?_)
                · have c_856i := i_ne (x := x_855.toInt) (y := r_846.toInt) rfl rfl c_856
                  exact j_838  (by omega) ls (lv_sub hl [1, 3, 4, 5] rfl)
                · have c_856i := i_eq (x := x_855.toInt) (y := r_846.toInt) rfl rfl c_856
                  refine lv_iload_n hx hb dX8_find_78 rfl (lv_at hl 2 rfl) ?_
                  refine lv_iconst (v := 1) hx hb dX8_find_79 (by decide) ?_
                  refine lv_iadd hx hb dX8_find_80 ?_
                  refine lv_topi (fun x_857 ex_857 => ?_)
                  have hx_857 : x_857.toInt = (v_707.toInt + 1) := by rw [ex_857]; exact i_add rfl (show (1 : Int32).toInt = 1 from rfl) (by omega)
                  refine lv_goto (tgt := 85) hx hb dX8_find_81 (by decide) ?_
                  refine lv_istore_n (lv' := [(3, .int x_857), (5, .int r_846), (4, .int v_706), (2, .int v_708), (0, .ref t0), (1, .ref (g (8 + 2 * k)))]) hx hb dX8_find_85 rfl hl (by decide) rfl (fun ls hl => ?_)
                  refine lv_goto (tgt := 113) hx hb dX8_find_86 (by decide) ?_
                  obtain ⟨x_858, ex_858⟩ : ∃ y : Int32, y = v_706 + Int32.ofInt 1 := ⟨_, rfl⟩
                  have hx_858 : x_858.toInt = (v_706.toInt + 1) := by rw [ex_858]; exact i_add rfl (show (Int32.ofInt 1).toInt = 1 from rfl) (by omega)
                  refine lv_iinc (v := x_858) (lv' := [(4, .int x_858), (3, .int x_857), (5, .int r_846), (2, .int v_708), (0, .ref t0), (1, .ref (g (8 + 2 * k)))]) hx hb dX8_find_113 hl (k := 2) rfl (by rw [ex_858]) (by decide) rfl (fun ls hl => ?_)
                  refine lv_goto (tgt := 7) hx hb dX8_find_116 (by decide) ?_
                  exact ih_807 x_858 x_857 v_708 (by rw [hx_858]; omega) (by rw [hx_857]; omega) (by omega) (show 0 ≤ (v_708 : Int32).toInt ∧ (v_708 : Int32).toInt ≤ (x_858 : Int32).toInt by omega) (by omega) ls (lv_sub hl [0, 1, 3, 4, 5] rfl)
  have hz_859 : (0 : Int32).toInt = 0 := rfl
  have hz_860 : (0 : Int32).toInt = 0 := rfl
  have hz_861 : (0 : Int32).toInt = 0 := rfl
  exact lp_806 ((49 - (0 : Int32).toInt : Int).toNat + 1) 0 0 0 (by decide) (by decide) (by decide) (show 0 ≤ (0 : Int32).toInt ∧ (0 : Int32).toInt ≤ (0 : Int32).toInt by omega) (Nat.lt_succ_self _) ls (lv_sub hl [0, 1, 2, 3, 4] rfl)
