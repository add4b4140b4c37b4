theorem dX12_goOnBy_0 : decode cX12_goOnBy 0 = .ok (.iconst 0, 1) := by decide +kernel
theorem dX12_goOnBy_1 : decode cX12_goOnBy 1 = .ok (.istore_n 2, 1) := by decide +kernel
theorem dX12_goOnBy_2 : decode cX12_goOnBy 2 = .ok (.iload_n 2, 1) := by decide +kernel
theorem dX12_goOnBy_3 : decode cX12_goOnBy 3 = .ok (.iload_n 1, 1) := by decide +kernel
theorem dX12_goOnBy_4 : decode cX12_goOnBy 4 = .ok (.if_icmp .ge 13, 3) := by decide +kernel
theorem dX12_goOnBy_7 : decode cX12_goOnBy 7 = .ok (.aload_n 0, 1) := by decide +kernel
theorem dX12_goOnBy_8 : decode cX12_goOnBy 8 = .ok (.invokevirtual 464, 3) := by decide +kernel
theorem dX12_goOnBy_11 : decode cX12_goOnBy 11 = .ok (.iinc 2 1, 3) := by decide +kernel
theorem dX12_goOnBy_14 : decode cX12_goOnBy 14 = .ok (.goto (-12), 3) := by decide +kernel
theorem dX12_goOnBy_17 : decode cX12_goOnBy 17 = .ok (.return_, 1) := by decide +kernel
theorem dX12_hear_0 : decode cX12_hear 0 = .ok (.aload_n 0, 1) := by decide +kernel
theorem dX12_hear_1 : decode cX12_hear 1 = .ok (.iconst 0, 1) := by decide +kernel
theorem dX12_hear_2 : decode cX12_hear 2 = .ok (.putfield 158, 3) := by decide +kernel
theorem dX12_hear_5 : decode cX12_hear 5 = .ok (.iload_n 1, 1) := by decide +kernel
theorem dX12_hear_6 : decode cX12_hear 6 = .ok (.i2l, 1) := by decide +kernel
theorem dX12_hear_7 : decode cX12_hear 7 = .ok (.lconst 0, 1) := by decide +kernel
theorem dX12_hear_8 : decode cX12_hear 8 = .ok (.ldc2_w 212, 3) := by decide +kernel
theorem dX12_hear_11 : decode cX12_hear 11 = .ok (.invokestatic 178, 3) := by decide +kernel
theorem dX12_hear_14 : decode cX12_hear 14 = .ok (.ifCond .ne 9, 3) := by decide +kernel
theorem dX12_hear_23 : decode cX12_hear 23 = .ok (.aload_n 0, 1) := by decide +kernel
theorem dX12_hear_24 : decode cX12_hear 24 = .ok (.getfield 13, 3) := by decide +kernel
theorem dX12_hear_27 : decode cX12_hear 27 = .ok (.iconst 1, 1) := by decide +kernel
theorem dX12_hear_28 : decode cX12_hear 28 = .ok (.iaload, 1) := by decide +kernel
theorem dX12_hear_29 : decode cX12_hear 29 = .ok (.istore_n 2, 1) := by decide +kernel
theorem dX12_hear_30 : decode cX12_hear 30 = .ok (.iload_n 2, 1) := by decide +kernel
theorem dX12_hear_31 : decode cX12_hear 31 = .ok (.bipush 6, 2) := by decide +kernel
theorem dX12_hear_33 : decode cX12_hear 33 = .ok (.if_icmp .ne 10, 3) := by decide +kernel
theorem dX12_hear_43 : decode cX12_hear 43 = .ok (.aload_n 0, 1) := by decide +kernel
theorem dX12_hear_44 : decode cX12_hear 44 = .ok (.getfield 13, 3) := by decide +kernel
theorem dX12_hear_47 : decode cX12_hear 47 = .ok (.bipush 91, 2) := by decide +kernel
theorem dX12_hear_49 : decode cX12_hear 49 = .ok (.iload_n 2, 1) := by decide +kernel
theorem dX12_hear_50 : decode cX12_hear 50 = .ok (.iadd, 1) := by decide +kernel
theorem dX12_hear_51 : decode cX12_hear 51 = .ok (.iload_n 1, 1) := by decide +kernel
theorem dX12_hear_52 : decode cX12_hear 52 = .ok (.iastore, 1) := by decide +kernel
theorem dX12_hear_53 : decode cX12_hear 53 = .ok (.aload_n 0, 1) := by decide +kernel
theorem dX12_hear_54 : decode cX12_hear 54 = .ok (.getfield 13, 3) := by decide +kernel
theorem dX12_hear_57 : decode cX12_hear 57 = .ok (.iconst 1, 1) := by decide +kernel
theorem dX12_hear_58 : decode cX12_hear 58 = .ok (.dup2, 1) := by decide +kernel
theorem dX12_hear_59 : decode cX12_hear 59 = .ok (.iaload, 1) := by decide +kernel
theorem dX12_hear_60 : decode cX12_hear 60 = .ok (.iconst 1, 1) := by decide +kernel
theorem dX12_hear_61 : decode cX12_hear 61 = .ok (.iadd, 1) := by decide +kernel
theorem dX12_hear_62 : decode cX12_hear 62 = .ok (.iastore, 1) := by decide +kernel
theorem dX12_hear_63 : decode cX12_hear 63 = .ok (.aload_n 0, 1) := by decide +kernel
theorem dX12_hear_64 : decode cX12_hear 64 = .ok (.iload_n 2, 1) := by decide +kernel
theorem dX12_hear_65 : decode cX12_hear 65 = .ok (.iconst 1, 1) := by decide +kernel
theorem dX12_hear_66 : decode cX12_hear 66 = .ok (.iadd, 1) := by decide +kernel
theorem dX12_hear_67 : decode cX12_hear 67 = .ok (.invokevirtual 171, 3) := by decide +kernel
theorem dX12_hear_70 : decode cX12_hear 70 = .ok (.ireturn, 1) := by decide +kernel
theorem dX12_hear_36 : decode cX12_hear 36 = .ok (.aload_n 0, 1) := by decide +kernel
theorem dX12_hear_37 : decode cX12_hear 37 = .ok (.bipush (-5), 2) := by decide +kernel
theorem dX12_hear_39 : decode cX12_hear 39 = .ok (.invokevirtual 171, 3) := by decide +kernel
theorem dX12_hear_42 : decode cX12_hear 42 = .ok (.ireturn, 1) := by decide +kernel
theorem dX12_hear_17 : decode cX12_hear 17 = .ok (.aload_n 0, 1) := by decide +kernel
theorem dX12_hear_18 : decode cX12_hear 18 = .ok (.iconst (-1), 1) := by decide +kernel
theorem dX12_hear_19 : decode cX12_hear 19 = .ok (.invokevirtual 171, 3) := by decide +kernel
theorem dX12_hear_22 : decode cX12_hear 22 = .ok (.ireturn, 1) := by decide +kernel
theorem dX12_forget_0 : decode cX12_forget 0 = .ok (.aload_n 0, 1) := by decide +kernel
theorem dX12_forget_1 : decode cX12_forget 1 = .ok (.iconst 0, 1) := by decide +kernel
theorem dX12_forget_2 : decode cX12_forget 2 = .ok (.putfield 158, 3) := by decide +kernel
theorem dX12_forget_5 : decode cX12_forget 5 = .ok (.aload_n 0, 1) := by decide +kernel
theorem dX12_forget_6 : decode cX12_forget 6 = .ok (.getfield 13, 3) := by decide +kernel
theorem dX12_forget_9 : decode cX12_forget 9 = .ok (.iconst 1, 1) := by decide +kernel
theorem dX12_forget_10 : decode cX12_forget 10 = .ok (.iaload, 1) := by decide +kernel
theorem dX12_forget_11 : decode cX12_forget 11 = .ok (.istore_n 1, 1) := by decide +kernel
theorem dX12_forget_12 : decode cX12_forget 12 = .ok (.aload_n 0, 1) := by decide +kernel
theorem dX12_forget_13 : decode cX12_forget 13 = .ok (.getfield 13, 3) := by decide +kernel
theorem dX12_forget_16 : decode cX12_forget 16 = .ok (.iconst 1, 1) := by decide +kernel
theorem dX12_forget_17 : decode cX12_forget 17 = .ok (.iconst 0, 1) := by decide +kernel
theorem dX12_forget_18 : decode cX12_forget 18 = .ok (.iastore, 1) := by decide +kernel
theorem dX12_forget_19 : decode cX12_forget 19 = .ok (.iload_n 1, 1) := by decide +kernel
theorem dX12_forget_20 : decode cX12_forget 20 = .ok (.ireturn, 1) := by decide +kernel
theorem dX12_isAsHeard_0 : decode cX12_isAsHeard 0 = .ok (.iconst 0, 1) := by decide +kernel
theorem dX12_isAsHeard_1 : decode cX12_isAsHeard 1 = .ok (.istore_n 2, 1) := by decide +kernel
theorem dX12_isAsHeard_2 : decode cX12_isAsHeard 2 = .ok (.iconst 0, 1) := by decide +kernel
theorem dX12_isAsHeard_3 : decode cX12_isAsHeard 3 = .ok (.istore_n 3, 1) := by decide +kernel
theorem dX12_isAsHeard_4 : decode cX12_isAsHeard 4 = .ok (.iload_n 3, 1) := by decide +kernel
theorem dX12_isAsHeard_5 : decode cX12_isAsHeard 5 = .ok (.aload_n 0, 1) := by decide +kernel
theorem dX12_isAsHeard_6 : decode cX12_isAsHeard 6 = .ok (.getfield 13, 3) := by decide +kernel
theorem dX12_isAsHeard_9 : decode cX12_isAsHeard 9 = .ok (.iconst 1, 1) := by decide +kernel
theorem dX12_isAsHeard_10 : decode cX12_isAsHeard 10 = .ok (.iaload, 1) := by decide +kernel
theorem dX12_isAsHeard_11 : decode cX12_isAsHeard 11 = .ok (.if_icmp .ge 21, 3) := by decide +kernel
theorem dX12_isAsHeard_14 : decode cX12_isAsHeard 14 = .ok (.iload_n 2, 1) := by decide +kernel
theorem dX12_isAsHeard_15 : decode cX12_isAsHeard 15 = .ok (.aload_n 0, 1) := by decide +kernel
theorem dX12_isAsHeard_16 : decode cX12_isAsHeard 16 = .ok (.getfield 13, 3) := by decide +kernel
theorem dX12_isAsHeard_19 : decode cX12_isAsHeard 19 = .ok (.bipush 91, 2) := by decide +kernel
theorem dX12_isAsHeard_21 : decode cX12_isAsHeard 21 = .ok (.iload_n 3, 1) := by decide +kernel
theorem dX12_isAsHeard_22 : decode cX12_isAsHeard 22 = .ok (.iadd, 1) := by decide +kernel
theorem dX12_isAsHeard_23 : decode cX12_isAsHeard 23 = .ok (.iaload, 1) := by decide +kernel
theorem dX12_isAsHeard_24 : decode cX12_isAsHeard 24 = .ok (.ior, 1) := by decide +kernel
theorem dX12_isAsHeard_25 : decode cX12_isAsHeard 25 = .ok (.istore_n 2, 1) := by decide +kernel
theorem dX12_isAsHeard_26 : decode cX12_isAsHeard 26 = .ok (.iinc 3 1, 3) := by decide +kernel
theorem dX12_isAsHeard_29 : decode cX12_isAsHeard 29 = .ok (.goto (-25), 3) := by decide +kernel
theorem dX12_isAsHeard_32 : decode cX12_isAsHeard 32 = .ok (.iconst 0, 1) := by decide +kernel
theorem dX12_isAsHeard_33 : decode cX12_isAsHeard 33 = .ok (.istore_n 3, 1) := by decide +kernel
theorem dX12_isAsHeard_34 : decode cX12_isAsHeard 34 = .ok (.iconst 0, 1) := by decide +kernel
theorem dX12_isAsHeard_35 : decode cX12_isAsHeard 35 = .ok (.istore 4, 2) := by decide +kernel
theorem dX12_isAsHeard_37 : decode cX12_isAsHeard 37 = .ok (.iload 4, 2) := by decide +kernel
theorem dX12_isAsHeard_39 : decode cX12_isAsHeard 39 = .ok (.aload_n 0, 1) := by decide +kernel
theorem dX12_isAsHeard_40 : decode cX12_isAsHeard 40 = .ok (.getfield 13, 3) := by decide +kernel
theorem dX12_isAsHeard_43 : decode cX12_isAsHeard 43 = .ok (.iconst 0, 1) := by decide +kernel
theorem dX12_isAsHeard_44 : decode cX12_isAsHeard 44 = .ok (.iaload, 1) := by decide +kernel
theorem dX12_isAsHeard_45 : decode cX12_isAsHeard 45 = .ok (.if_icmp .ge 37, 3) := by decide +kernel
theorem dX12_isAsHeard_48 : decode cX12_isAsHeard 48 = .ok (.iload_n 3, 1) := by decide +kernel
theorem dX12_isAsHeard_49 : decode cX12_isAsHeard 49 = .ok (.iload_n 1, 1) := by decide +kernel
theorem dX12_isAsHeard_50 : decode cX12_isAsHeard 50 = .ok (.iload 4, 2) := by decide +kernel
theorem dX12_isAsHeard_52 : decode cX12_isAsHeard 52 = .ok (.invokestatic 436, 3) := by decide +kernel
theorem dX12_isAsHeard_55 : decode cX12_isAsHeard 55 = .ok (.ifCond .eq 18, 3) := by decide +kernel
theorem dX12_isAsHeard_73 : decode cX12_isAsHeard 73 = .ok (.iconst 0, 1) := by decide +kernel
theorem dX12_isAsHeard_74 : decode cX12_isAsHeard 74 = .ok (.ior, 1) := by decide +kernel
theorem dX12_isAsHeard_75 : decode cX12_isAsHeard 75 = .ok (.istore_n 3, 1) := by decide +kernel
theorem dX12_isAsHeard_76 : decode cX12_isAsHeard 76 = .ok (.iinc 4 1, 3) := by decide +kernel
theorem dX12_isAsHeard_79 : decode cX12_isAsHeard 79 = .ok (.goto (-42), 3) := by decide +kernel
theorem dX12_isAsHeard_58 : decode cX12_isAsHeard 58 = .ok (.iconst 1, 1) := by decide +kernel
theorem dX12_isAsHeard_59 : decode cX12_isAsHeard 59 = .ok (.aload_n 0, 1) := by decide +kernel
theorem dX12_isAsHeard_60 : decode cX12_isAsHeard 60 = .ok (.getfield 13, 3) := by decide +kernel
theorem dX12_isAsHeard_63 : decode cX12_isAsHeard 63 = .ok (.bipush 35, 2) := by decide +kernel
theorem dX12_isAsHeard_65 : decode cX12_isAsHeard 65 = .ok (.iload 4, 2) := by decide +kernel
theorem dX12_isAsHeard_67 : decode cX12_isAsHeard 67 = .ok (.iadd, 1) := by decide +kernel
theorem dX12_isAsHeard_68 : decode cX12_isAsHeard 68 = .ok (.iaload, 1) := by decide +kernel
theorem dX12_isAsHeard_69 : decode cX12_isAsHeard 69 = .ok (.ishl, 1) := by decide +kernel
theorem dX12_isAsHeard_70 : decode cX12_isAsHeard 70 = .ok (.goto 4, 3) := by decide +kernel
theorem dX12_isAsHeard_82 : decode cX12_isAsHeard 82 = .ok (.iload_n 3, 1) := by decide +kernel
theorem dX12_isAsHeard_83 : decode cX12_isAsHeard 83 = .ok (.iload_n 2, 1) := by decide +kernel
theorem dX12_isAsHeard_84 : decode cX12_isAsHeard 84 = .ok (.if_icmp .ne 7, 3) := by decide +kernel
theorem dX12_isAsHeard_91 : decode cX12_isAsHeard 91 = .ok (.iconst 0, 1) := by decide +kernel
theorem dX12_isAsHeard_92 : decode cX12_isAsHeard 92 = .ok (.ireturn, 1) := by decide +kernel
theorem dX12_isAsHeard_87 : decode cX12_isAsHeard 87 = .ok (.iconst 1, 1) := by decide +kernel
theorem dX12_isAsHeard_88 : decode cX12_isAsHeard 88 = .ok (.goto 4, 3) := by decide +kernel
theorem dX12_hill_0 : decode cX12_hill 0 = .ok (.aload_n 0, 1) := by decide +kernel
theorem dX12_hill_1 : decode cX12_hill 1 = .ok (.iconst 0, 1) := by decide +kernel
theorem dX12_hill_2 : decode cX12_hill 2 = .ok (.putfield 158, 3) := by decide +kernel
theorem dX12_hill_5 : decode cX12_hill 5 = .ok (.iconst 0, 1) := by decide +kernel
theorem dX12_hill_6 : decode cX12_hill 6 = .ok (.istore_n 2, 1) := by decide +kernel
theorem dX12_hill_7 : decode cX12_hill 7 = .ok (.iconst (-1), 1) := by decide +kernel
theorem dX12_hill_8 : decode cX12_hill 8 = .ok (.istore_n 3, 1) := by decide +kernel
theorem dX12_hill_9 : decode cX12_hill 9 = .ok (.iconst 0, 1) := by decide +kernel
theorem dX12_hill_10 : decode cX12_hill 10 = .ok (.istore 4, 2) := by decide +kernel
theorem dX12_hill_12 : decode cX12_hill 12 = .ok (.iload 4, 2) := by decide +kernel
theorem dX12_hill_14 : decode cX12_hill 14 = .ok (.iconst 1, 1) := by decide +kernel
theorem dX12_hill_15 : decode cX12_hill 15 = .ok (.aload_n 0, 1) := by decide +kernel
theorem dX12_hill_16 : decode cX12_hill 16 = .ok (.getfield 13, 3) := by decide +kernel
theorem dX12_hill_19 : decode cX12_hill 19 = .ok (.iconst 0, 1) := by decide +kernel
theorem dX12_hill_20 : decode cX12_hill 20 = .ok (.iaload, 1) := by decide +kernel
theorem dX12_hill_21 : decode cX12_hill 21 = .ok (.ishl, 1) := by decide +kernel
theorem dX12_hill_22 : decode cX12_hill 22 = .ok (.if_icmp .ge 33, 3) := by decide +kernel
theorem dX12_hill_25 : decode cX12_hill 25 = .ok (.aload_n 0, 1) := by decide +kernel
theorem dX12_hill_26 : decode cX12_hill 26 = .ok (.iload 4, 2) := by decide +kernel
theorem dX12_hill_28 : decode cX12_hill 28 = .ok (.invokevirtual 515, 3) := by decide +kernel
theorem dX12_hill_31 : decode cX12_hill 31 = .ok (.ifCond .eq 18, 3) := by decide +kernel
theorem dX12_hill_34 : decode cX12_hill 34 = .ok (.iload_n 2, 1) := by decide +kernel
theorem dX12_hill_35 : decode cX12_hill 35 = .ok (.iload_n 1, 1) := by decide +kernel
theorem dX12_hill_36 : decode cX12_hill 36 = .ok (.if_icmp .ne 8, 3) := by decide +kernel
theorem dX12_hill_44 : decode cX12_hill 44 = .ok (.iload_n 3, 1) := by decide +kernel
theorem dX12_hill_45 : decode cX12_hill 45 = .ok (.istore_n 3, 1) := by decide +kernel
theorem dX12_hill_46 : decode cX12_hill 46 = .ok (.iinc 2 1, 3) := by decide +kernel
theorem dX12_hill_39 : decode cX12_hill 39 = .ok (.iload 4, 2) := by decide +kernel
theorem dX12_hill_41 : decode cX12_hill 41 = .ok (.goto 4, 3) := by decide +kernel
theorem dX12_hill_49 : decode cX12_hill 49 = .ok (.iinc 4 1, 3) := by decide +kernel
theorem dX12_hill_52 : decode cX12_hill 52 = .ok (.goto (-40), 3) := by decide +kernel
theorem dX12_hill_55 : decode cX12_hill 55 = .ok (.iload_n 1, 1) := by decide +kernel
theorem dX12_hill_56 : decode cX12_hill 56 = .ok (.iconst (-1), 1) := by decide +kernel
theorem dX12_hill_57 : decode cX12_hill 57 = .ok (.if_icmp .ne 7, 3) := by decide +kernel
theorem dX12_hill_64 : decode cX12_hill 64 = .ok (.iload_n 3, 1) := by decide +kernel
theorem dX12_hill_65 : decode cX12_hill 65 = .ok (.ireturn, 1) := by decide +kernel
theorem dX12_hill_60 : decode cX12_hill 60 = .ok (.iload_n 2, 1) := by decide +kernel
theorem dX12_hill_61 : decode cX12_hill 61 = .ok (.goto 4, 3) := by decide +kernel
set_option maxRecDepth 100000 in
set_option maxHeartbeats 4000000 in
theorem ggX12_goOnBy_X12_goOn : GoodIn wsX12_goOnBy wsX12_goOn := goodIn_q _ [5, 10] [6, 7, 8, 9, 4, 11, 12, 13, 14, 15, 16, 17, 18, 19, 20, 21, 22, 23, 24, 25, 26, 27, 28, 29, 30, 31, 32, 33, 34, 35, 36, 37, 38, 39, 40, 41, 42, 43, 44, 45, 46, 47, 48, 49, 50, 51, 52, 53, 54, 55, 56, 57, 58, 59, 60, 61, 62, 63, 64, 65, 66, 67, 68, 69, 70] rfl (by decide +kernel) (by decide +kernel)
set_option maxRecDepth 20000 in
theorem gX12_goOnBy_X12_goOn : GoodIn wsX12_goOnBy (wsV RX12 464 RX12 yX12_goOn wsX12_goOn) := goodIn_app (goodIn_of _ (by decide +kernel)) ggX12_goOnBy_X12_goOn
set_option maxRecDepth 20000 in
theorem ggX12_hear_X12_in : GoodIn wsX12_hear wsX12_in := goodIn_r _ [7] (by decide +kernel) (by decide +kernel)
set_option maxRecDepth 20000 in
theorem gX12_hear_X12_in : GoodIn wsX12_hear (va_wsS RX12 178 yX12_in wsX12_in) := goodIn_app (goodIn_of _ (by decide +kernel)) ggX12_hear_X12_in
set_option maxRecDepth 100000 in
set_option maxHeartbeats 4000000 in
theorem ggX12_hear_X12_tell : GoodIn wsX12_hear wsX12_tell := goodIn_q _ [11] [12, 13, 14, 15, 16, 17, 18, 19, 20, 21, 22, 23, 24, 25, 26, 27, 28, 29, 30, 31, 32, 33, 34, 35, 36, 37, 38, 39, 40, 41, 42, 43, 44, 45, 46, 47, 48, 49, 50, 51, 52, 53, 54, 55, 56, 57, 58, 59, 60, 61, 62, 63, 64, 65, 66, 67, 68, 69, 70, 71, 72, 73] rfl (by decide +kernel) (by decide +kernel)
set_option maxRecDepth 20000 in
theorem gX12_hear_X12_tell : GoodIn wsX12_hear (wsV RX12 171 RX12 yX12_tell wsX12_tell) := goodIn_app (goodIn_of _ (by decide +kernel)) ggX12_hear_X12_tell
set_option maxRecDepth 20000 in
theorem ggX12_isAsHeard_X12_is : GoodIn wsX12_isAsHeard wsX12_is := goodIn_r _ [5] (by decide +kernel) (by decide +kernel)
set_option maxRecDepth 20000 in
theorem gX12_isAsHeard_X12_is : GoodIn wsX12_isAsHeard (va_wsS RX12 436 yX12_is wsX12_is) := goodIn_app (goodIn_of _ (by decide +kernel)) ggX12_isAsHeard_X12_is
set_option maxRecDepth 100000 in
set_option maxHeartbeats 4000000 in
theorem ggX12_hill_X12_isAsHeard : GoodIn wsX12_hill wsX12_isAsHeard := goodIn_q _ [7, 10] [2, 8, 9, 6, 11, 12, 13, 14, 15, 16, 17, 18, 19, 20, 21, 22, 23, 24, 25, 26, 27, 28, 29, 30, 31, 32, 33, 34, 35, 36, 37, 38, 39, 40, 41, 42, 43, 44, 45, 46, 47, 48, 49, 50, 51, 52, 53, 54, 55, 56, 57, 58, 59, 60, 61, 62, 63, 64, 65, 66, 67, 68, 69, 70] rfl (by decide +kernel) (by decide +kernel)
set_option maxRecDepth 20000 in
theorem gX12_hill_X12_isAsHeard : GoodIn wsX12_hill (wsV RX12 515 RX12 yX12_isAsHeard wsX12_isAsHeard) := goodIn_app (goodIn_of _ (by decide +kernel)) ggX12_hill_X12_isAsHeard
set_option maxHeartbeats 4000000 in
set_option maxRecDepth 100000 in
theorem v_goOnBy (l : Launch) (D : va_G) (K : Nat → ClassId) (m0 : Nat) (x : Int32) (m_0 : Value) (m_1 : Value) (m_2 : Value) (w0 : Nat) (m_4 : Value) (m_5 : Value) (m_6 : Value) (m_7 : Value) (m_8 : Value) (m_9 : Value) (m_10 : Value) (m_11 : Value) (m_12 : Value) (m_13 : Value) (m_14 : Value) (m_15 : Value) (m_16 : Value) (m_17 : Value) (m_18 : Value) (m_19 : Value) (m_20 : Value) (m_21 : Value) (m_22 : Value) (m_23 : Value) (m_24 : Value) (m_25 : Value) (m_26 : Value) (m_27 : Value) (m_28 : Value) (m_29 : Value) (m_30 : Value) (m_31 : Value) (m_32 : Value) (m_33 : Value) (m_34 : Value) (m_35 : Value) (m_36 : Value) (m_37 : Value) (m_38 : Value) (m_39 : Value) (m_40 : Value) (m_41 : Value) (m_42 : Value) (m_43 : Value) (m_44 : Value) (m_45 : Value) (m_46 : Value) (m_47 : Value) (m_48 : Value) (m_49 : Value) (m_50 : Value) (m_51 : Value) (m_52 : Value) (m_53 : Value) (m_54 : Value) (m_55 : Value) (m_56 : Value) (m_57 : Value) (m_58 : Value) (m_59 : Value) (fw : Nat → Int32) (sz : Nat) (zx : 0 ≤ x.toInt ∧ x.toInt ≤ 12) (zfw : RwOK fw) : Met l yX12_goOnBy wsX12_goOnBy ({ frames := 2, cells := 0, slots := 0, locals := 41 }) (va_Pc [.ref m0, .int x] (Pre D K [(m0, .inr (12, [m_0, m_1, m_2, .ref w0, m_4, m_5, m_6, m_7, m_8, m_9, m_10, m_11, m_12, m_13, m_14, m_15, m_16, m_17, m_18, m_19, m_20, m_21, m_22, m_23, m_24, m_25, m_26, m_27, m_28, m_29, m_30, m_31, m_32, m_33, m_34, m_35, m_36, m_37, m_38, m_39, m_40, m_41, m_42, m_43, m_44, m_45, m_46, m_47, m_48, m_49, m_50, m_51, m_52, m_53, m_54, m_55, m_56, m_57, m_58, m_59])), (w0, .inl (K 0, 5500, .inl fw))] sz)) (va_Qv (S := Su) (fun (u : Su) => (RwOK (u.2.1 0)) ∧ True) (fun u t => Wd D (va_A [(m0, .inr (12, [m_0, m_1, m_2, .ref w0, m_4, m_5, m_6, m_7, m_8, m_9, m_10, m_11, m_12, m_13, m_14, m_15, m_16, m_17, m_18, m_19, m_20, m_21, m_22, m_23, m_24, m_25, m_26, m_27, m_28, m_29, m_30, m_31, m_32, m_33, m_34, m_35, m_36, m_37, m_38, m_39, m_40, m_41, m_42, m_43, m_44, m_45, m_46, m_47, m_48, m_49, m_50, m_51, m_52, m_53, m_54, m_55, m_56, m_57, m_58, m_59])), (w0, .inl (K 0, 5500, .inl fw))] sz) ((fun u => [(m0, .inr (12, [m_0, m_1, m_2, .ref w0, m_4, m_5, m_6, m_7, m_8, m_9, m_10, m_11, m_12, m_13, m_14, m_15, m_16, m_17, m_18, m_19, m_20, m_21, m_22, m_23, m_24, m_25, m_26, m_27, m_28, m_29, m_30, m_31, m_32, m_33, m_34, m_35, m_36, m_37, m_38, m_39, m_40, m_41, m_42, m_43, m_44, m_45, m_46, m_47, m_48, m_49, m_50, m_51, m_52, m_53, m_54, m_55, m_56, m_57, m_58, m_59])), (w0, .inl (K 0, 5500, .inl (u.2.1 0)))]) u) t) (va_A [(m0, .inr (12, [m_0, m_1, m_2, .ref w0, m_4, m_5, m_6, m_7, m_8, m_9, m_10, m_11, m_12, m_13, m_14, m_15, m_16, m_17, m_18, m_19, m_20, m_21, m_22, m_23, m_24, m_25, m_26, m_27, m_28, m_29, m_30, m_31, m_32, m_33, m_34, m_35, m_36, m_37, m_38, m_39, m_40, m_41, m_42, m_43, m_44, m_45, m_46, m_47, m_48, m_49, m_50, m_51, m_52, m_53, m_54, m_55, m_56, m_57, m_58, m_59])), (w0, .inl (K 0, 5500, .inl fw))] sz)) 0 0 (va_A [(m0, .inr (12, [m_0, m_1, m_2, .ref w0, m_4, m_5, m_6, m_7, m_8, m_9, m_10, m_11, m_12, m_13, m_14, m_15, m_16, m_17, m_18, m_19, m_20, m_21, m_22, m_23, m_24, m_25, m_26, m_27, m_28, m_29, m_30, m_31, m_32, m_33, m_34, m_35, m_36, m_37, m_38, m_39, m_40, m_41, m_42, m_43, m_44, m_45, m_46, m_47, m_48, m_49, m_50, m_51, m_52, m_53, m_54, m_55, m_56, m_57, m_58, m_59])), (w0, .inl (K 0, 5500, .inl fw))] sz) := by
  refine Met.ofW (cc := cX12_goOnBy) (maxL := 3) (ret := none) (by decide) rfl ?_
  intro p e s m args below meth c s₁ B hml hv
  obtain ⟨rfl, hsz, hP, hK, hD0, hN⟩ := hv
  have hx := B.exec
  have hb := B.bytes
  have hr := B.returns
  have hts := atoms_spec (ws := wsX12_goOnBy) B.pre
  have hown : s.vm.findClass RX12 = some m.cls := findClass_of_methodNamed B.named
  have hlocks := B.notSynchronized
  subst hsz
  have hD := hD0.self (sz := s.heap.size)
  generalize hAe : va_A [(m0, .inr (12, [m_0, m_1, m_2, .ref w0, m_4, m_5, m_6, m_7, m_8, m_9, m_10, m_11, m_12, m_13, m_14, m_15, m_16, m_17, m_18, m_19, m_20, m_21, m_22, m_23, m_24, m_25, m_26, m_27, m_28, m_29, m_30, m_31, m_32, m_33, m_34, m_35, m_36, m_37, m_38, m_39, m_40, m_41, m_42, m_43, m_44, m_45, m_46, m_47, m_48, m_49, m_50, m_51, m_52, m_53, m_54, m_55, m_56, m_57, m_58, m_59])), (w0, .inl (K 0, 5500, .inl fw))] s.heap.size = A at hD ⊢
  have hA : ∀ q : Nat, s.heap.size ≤ q → A q := fun q h => by rw [← hAe]; exact Or.inr h
  have hS : va_S A s.heap s.heap [] := va_S.rf
  have hP : va_P D vwCl [(m0, .inr (12, [m_0, m_1, m_2, .ref w0, m_4, m_5, m_6, m_7, m_8, m_9, m_10, m_11, m_12, m_13, m_14, m_15, m_16, m_17, m_18, m_19, m_20, m_21, m_22, m_23, m_24, m_25, m_26, m_27, m_28, m_29, m_30, m_31, m_32, m_33, m_34, m_35, m_36, m_37, m_38, m_39, m_40, m_41, m_42, m_43, m_44, m_45, m_46, m_47, m_48, m_49, m_50, m_51, m_52, m_53, m_54, m_55, m_56, m_57, m_58, m_59])), (w0, .inl (K 0, 5500, .inl fw))] s.heap := hP
  have hl := lv_entry [.ref m0, .int x] (n := 3) (Nat.le_of_ble_eq_true rfl)
  rw [lg_entry_eq]
  generalize (lg_sl [.ref m0, .int x] ++ List.replicate (3 - (lg_sl [.ref m0, .int x]).length) Slot.unset).toArray = ls at hl ⊢
  have hl : lv_has ls 3 [(0, .ref m0), (1, .int x)] := hl
  have hw12 : ∀ w ∈ wsX120, w ∈ wsX12_goOnBy := fun w h => (List.mem_cons_of_mem _ (List.mem_append_right _ h))
  generalize hQ : MQ below _ _ s _ _ _ = Q
  refine lv_iconst (v := 0) hx hb dX12_goOnBy_0 (by decide) ?_
  refine lv_istore_n (lv' := [(2, .int 0), (0, .ref m0), (1, .int x)]) hx hb dX12_goOnBy_1 rfl hl (by decide) rfl (fun ls hl => ?_)
  have lp_192 : ∀ (nn_ : Nat) (v_178 : Int32) (f_179 : Nat → Int32) (hv_178 : 0 ≤ v_178.toInt ∧ v_178.toInt ≤ 12) (hf_179_0 : RwOK f_179) (hn : (13 - v_178.toInt : Int).toNat < nn_) (H : Heap) (locs : List Loc) (hP : va_P D vwCl [(m0, .inr (12, [m_0, m_1, m_2, .ref w0, m_4, m_5, m_6, m_7, m_8, m_9, m_10, m_11, m_12, m_13, m_14, m_15, m_16, m_17, m_18, m_19, m_20, m_21, m_22, m_23, m_24, m_25, m_26, m_27, m_28, m_29, m_30, m_31, m_32, m_33, m_34, m_35, m_36, m_37, m_38, m_39, m_40, m_41, m_42, m_43, m_44, m_45, m_46, m_47, m_48, m_49, m_50, m_51, m_52, m_53, m_54, m_55, m_56, m_57, m_58, m_59])), (w0, .inl (K 0, 5500, .inl f_179))] H) (hD : va_D A [(m0, .inr (12, [m_0, m_1, m_2, .ref w0, m_4, m_5, m_6, m_7, m_8, m_9, m_10, m_11, m_12, m_13, m_14, m_15, m_16, m_17, m_18, m_19, m_20, m_21, m_22, m_23, m_24, m_25, m_26, m_27, m_28, m_29, m_30, m_31, m_32, m_33, m_34, m_35, m_36, m_37, m_38, m_39, m_40, m_41, m_42, m_43, m_44, m_45, m_46, m_47, m_48, m_49, m_50, m_51, m_52, m_53, m_54, m_55, m_56, m_57, m_58, m_59])), (w0, .inl (K 0, 5500, .inl f_179))]) (hS : va_S A s.heap H locs) (ls : Array Slot) (hl : lv_has ls 3 [(2, .int v_178), (0, .ref m0), (1, .int x)]), W p l e ({ frames := 2, cells := 0, slots := 0, locals := 41 }) s m (([.ref m0, .int x] : List Value).toArray) below meth c H locs 0 0 Q (F0 m 2 ls []) := by
    intro nn_
    induction nn_ with
    | zero =>
      intro v_178 f_179 hv_178 hf_179_0 hn H locs hP hD hS ls hl
      exact absurd hn (Nat.not_lt_zero _)
    | succ nn_ ih_193 =>
      intro v_178 f_179 hv_178 hf_179_0 hn H locs hP hD hS ls hl
      refine lv_iload_n hx hb dX12_goOnBy_2 rfl (lv_at hl 0 rfl) ?_
      refine lv_iload_n hx hb dX12_goOnBy_3 rfl (lv_at hl 2 rfl) ?_
      refine lv_icmp_ge (tgt := 17) hx hb dX12_goOnBy_4 (by decide) (fun c_194 => ?_) (fun c_194 => ?_)
      · have c_194i := i_le (x := x.toInt) (y := v_178.toInt) rfl rfl c_194
        rw [← hQ]
        have hP9 := hP.sub (ws' := [(m0, .inr (12, [m_0, m_1, m_2, .ref w0, m_4, m_5, m_6, m_7, m_8, m_9, m_10, m_11, m_12, m_13, m_14, m_15, m_16, m_17, m_18, m_19, m_20, m_21, m_22, m_23, m_24, m_25, m_26, m_27, m_28, m_29, m_30, m_31, m_32, m_33, m_34, m_35, m_36, m_37, m_38, m_39, m_40, m_41, m_42, m_43, m_44, m_45, m_46, m_47, m_48, m_49, m_50, m_51, m_52, m_53, m_54, m_55, m_56, m_57, m_58, m_59])), (w0, .inl (K 0, 5500, .inl f_179))]) [0, 1] rfl
        have hD9 := hD.sub (ws' := [(m0, .inr (12, [m_0, m_1, m_2, .ref w0, m_4, m_5, m_6, m_7, m_8, m_9, m_10, m_11, m_12, m_13, m_14, m_15, m_16, m_17, m_18, m_19, m_20, m_21, m_22, m_23, m_24, m_25, m_26, m_27, m_28, m_29, m_30, m_31, m_32, m_33, m_34, m_35, m_36, m_37, m_38, m_39, m_40, m_41, m_42, m_43, m_44, m_45, m_46, m_47, m_48, m_49, m_50, m_51, m_52, m_53, m_54, m_55, m_56, m_57, m_58, m_59])), (w0, .inl (K 0, 5500, .inl f_179))]) [0, 1] (by decide) rfl
        exact W.vret hx hb hr (fun t ht hW => ⟨⟨((fun _ => 0, fun i => match i with | _ => f_179, fun _ => fun _ => 0, fun _ => 0, fun _ => 0, fun _ => fun _ => none) : Su), rfl, ⟨hf_179_0, trivial⟩, (⟨by rw [ht]; exact hP9, hD9⟩ : Wd D A _ t)⟩, hS.F ht⟩) hS.2.2 dX12_goOnBy_17
      · have c_194i := i_nle (x := x.toInt) (y := v_178.toInt) rfl rfl c_194
        refine lv_aload_n hx hb dX12_goOnBy_7 rfl (lv_at hl 1 rfl) ?_
        refine kcv (S := Su) (wr := []) (va_runV (As := []) (rest := []) ⟨hx, hb, hml, hown, hts⟩ (v_goOn l D K m0 m_0 m_1 m_2 w0 m_4 m_5 m_6 m_7 m_8 m_9 m_10 m_11 m_12 m_13 m_14 m_15 m_16 m_17 m_18 m_19 m_20 m_21 m_22 m_23 m_24 m_25 m_26 m_27 m_28 m_29 m_30 m_31 m_32 m_33 m_34 m_35 m_36 m_37 m_38 m_39 m_40 m_41 m_42 m_43 m_44 m_45 m_46 m_47 m_48 m_49 m_50 m_51 m_52 m_53 m_54 m_55 m_56 m_57 m_58 m_59 f_179 H.size hf_179_0) (cwV 0 hts gX12_goOnBy_X12_goOn rfl rfl rfl (by decide +kernel) ⟨Nat.le_of_ble_eq_true rfl, Nat.le_of_ble_eq_true rfl⟩) (mkV hK hN (hP.sub [0, 1] rfl) (hD.sub [0, 1] (by decide) rfl) (ci := 12) (q0 := 0) rfl rfl) rfl rfl hl.1 rfl (lv_room (Nat.le_of_ble_eq_true rfl)) dX12_goOnBy_8 ⟨Nat.le_of_ble_eq_true rfl, Nat.le_of_ble_eq_true rfl⟩) hP hD hS hA [0, 1] [] rfl rfl (by decide) (by decide) (fun u_196 H locs hw hP hD hS => ?_)
        have hP : va_P D vwCl [(m0, .inr (12, [m_0, m_1, m_2, .ref w0, m_4, m_5, m_6, m_7, m_8, m_9, m_10, m_11, m_12, m_13, m_14, m_15, m_16, m_17, m_18, m_19, m_20, m_21, m_22, m_23, m_24, m_25, m_26, m_27, m_28, m_29, m_30, m_31, m_32, m_33, m_34, m_35, m_36, m_37, m_38, m_39, m_40, m_41, m_42, m_43, m_44, m_45, m_46, m_47, m_48, m_49, m_50, m_51, m_52, m_53, m_54, m_55, m_56, m_57, m_58, m_59])), (w0, .inl (K 0, 5500, .inl (u_196.2.1 0)))] H := hP
        have hD : va_D A [(m0, .inr (12, [m_0, m_1, m_2, .ref w0, m_4, m_5, m_6, m_7, m_8, m_9, m_10, m_11, m_12, m_13, m_14, m_15, m_16, m_17, m_18, m_19, m_20, m_21, m_22, m_23, m_24, m_25, m_26, m_27, m_28, m_29, m_30, m_31, m_32, m_33, m_34, m_35, m_36, m_37, m_38, m_39, m_40, m_41, m_42, m_43, m_44, m_45, m_46, m_47, m_48, m_49, m_50, m_51, m_52, m_53, m_54, m_55, m_56, m_57, m_58, m_59])), (w0, .inl (K 0, 5500, .inl (u_196.2.1 0)))] := hD
        obtain ⟨k_197, -⟩ := hw
        obtain ⟨x_198, ex_198⟩ : ∃ y : Int32, y = v_178 + Int32.ofInt 1 := ⟨_, rfl⟩
        have hx_198 : x_198.toInt = (v_178.toInt + 1) := by rw [ex_198]; exact i_add rfl (show (Int32.ofInt 1).toInt = 1 from rfl) (by omega)
        refine lv_iinc (v := x_198) (lv' := [(2, .int x_198), (0, .ref m0), (1, .int x)]) hx hb dX12_goOnBy_11 hl (k := 0) rfl (by rw [ex_198]) (by decide) rfl (fun ls hl => ?_)
        refine lv_goto (tgt := 2) hx hb dX12_goOnBy_14 (by decide) ?_
        exact ih_193 x_198 (u_196.2.1 0) (by rw [hx_198]; omega) k_197 (by omega) _ _ hP hD hS ls (lv_sub hl [0, 1, 2] rfl)
  exact lp_192 ((13 - (0 : Int32).toInt : Int).toNat + 1) 0 fw (by decide) zfw (Nat.lt_succ_self _) _ _ hP hD hS ls (lv_sub hl [0, 1, 2] rfl)
set_option maxHeartbeats 4000000 in
set_option maxRecDepth 100000 in
theorem v_hear (l : Launch) (D : va_G) (K : Nat → ClassId) (m0 : Nat) (x : Int32) (thr : Int32) (sta : Int32) (r0 : Nat) (w0 : Nat) (m_4 : Value) (m_5 : Value) (m_6 : Value) (m_7 : Value) (m_8 : Value) (m_9 : Value) (m_10 : Value) (m_11 : Value) (m_12 : Value) (m_13 : Value) (m_14 : Value) (m_15 : Value) (m_16 : Value) (m_17 : Value) (m_18 : Value) (m_19 : Value) (m_20 : Value) (m_21 : Value) (m_22 : Value) (m_23 : Value) (m_24 : Value) (m_25 : Value) (m_26 : Value) (m_27 : Value) (m_28 : Value) (m_29 : Value) (m_30 : Value) (m_31 : Value) (m_32 : Value) (m_33 : Value) (m_34 : Value) (m_35 : Value) (m_36 : Value) (m_37 : Value) (m_38 : Value) (m_39 : Value) (m_40 : Value) (m_41 : Value) (m_42 : Value) (m_43 : Value) (m_44 : Value) (m_45 : Value) (m_46 : Value) (m_47 : Value) (m_48 : Value) (m_49 : Value) (m_50 : Value) (m_51 : Value) (m_52 : Value) (m_53 : Value) (m_54 : Value) (m_55 : Value) (m_56 : Value) (m_57 : Value) (m_58 : Value) (m_59 : Value) (fw : Nat → Int32) (frf : Nat → Int32) (sz : Nat) (zfw : RwOK fw) : Met l yX12_hear wsX12_hear ({ frames := 1, cells := 0, slots := 0, locals := 25 }) (va_Pc [.ref m0, .int x] (Pre D K [(m0, .inr (12, [.int thr, .int sta, .ref r0, .ref w0, m_4, m_5, m_6, m_7, m_8, m_9, m_10, m_11, m_12, m_13, m_14, m_15, m_16, m_17, m_18, m_19, m_20, m_21, m_22, m_23, m_24, m_25, m_26, m_27, m_28, m_29, m_30, m_31, m_32, m_33, m_34, m_35, m_36, m_37, m_38, m_39, m_40, m_41, m_42, m_43, m_44, m_45, m_46, m_47, m_48, m_49, m_50, m_51, m_52, m_53, m_54, m_55, m_56, m_57, m_58, m_59])), (w0, .inl (K 0, 5500, .inl fw)), (r0, .inl (K 0, 7, .inl frf))] sz)) (va_Qi (S := Su) (fun (r : Int32) (u : Su) => ((-6) ≤ r.toInt) ∧ ((-6) ≤ (u.2.2.2.1 0).toInt ∧ (u.2.2.2.1 0).toInt ≤ 0) ∧ (RwOK (u.2.1 0)) ∧ True) (fun u t => Wd D (va_A [(m0, .inr (12, [.int thr, .int sta, .ref r0, .ref w0, m_4, m_5, m_6, m_7, m_8, m_9, m_10, m_11, m_12, m_13, m_14, m_15, m_16, m_17, m_18, m_19, m_20, m_21, m_22, m_23, m_24, m_25, m_26, m_27, m_28, m_29, m_30, m_31, m_32, m_33, m_34, m_35, m_36, m_37, m_38, m_39, m_40, m_41, m_42, m_43, m_44, m_45, m_46, m_47, m_48, m_49, m_50, m_51, m_52, m_53, m_54, m_55, m_56, m_57, m_58, m_59])), (w0, .inl (K 0, 5500, .inl fw)), (r0, .inl (K 0, 7, .inl frf))] sz) ((fun u => [(m0, .inr (12, [.int 0, .int (u.2.2.2.1 0), .ref r0, .ref w0, m_4, m_5, m_6, m_7, m_8, m_9, m_10, m_11, m_12, m_13, m_14, m_15, m_16, m_17, m_18, m_19, m_20, m_21, m_22, m_23, m_24, m_25, m_26, m_27, m_28, m_29, m_30, m_31, m_32, m_33, m_34, m_35, m_36, m_37, m_38, m_39, m_40, m_41, m_42, m_43, m_44, m_45, m_46, m_47, m_48, m_49, m_50, m_51, m_52, m_53, m_54, m_55, m_56, m_57, m_58, m_59])), (w0, .inl (K 0, 5500, .inl (u.2.1 0))), (r0, .inl (K 0, 7, .inl (u.2.1 1)))]) u) t) (va_A [(m0, .inr (12, [.int thr, .int sta, .ref r0, .ref w0, m_4, m_5, m_6, m_7, m_8, m_9, m_10, m_11, m_12, m_13, m_14, m_15, m_16, m_17, m_18, m_19, m_20, m_21, m_22, m_23, m_24, m_25, m_26, m_27, m_28, m_29, m_30, m_31, m_32, m_33, m_34, m_35, m_36, m_37, m_38, m_39, m_40, m_41, m_42, m_43, m_44, m_45, m_46, m_47, m_48, m_49, m_50, m_51, m_52, m_53, m_54, m_55, m_56, m_57, m_58, m_59])), (w0, .inl (K 0, 5500, .inl fw)), (r0, .inl (K 0, 7, .inl frf))] sz)) 0 0 (va_A [(m0, .inr (12, [.int thr, .int sta, .ref r0, .ref w0, m_4, m_5, m_6, m_7, m_8, m_9, m_10, m_11, m_12, m_13, m_14, m_15, m_16, m_17, m_18, m_19, m_20, m_21, m_22, m_23, m_24, m_25, m_26, m_27, m_28, m_29, m_30, m_31, m_32, m_33, m_34, m_35, m_36, m_37, m_38, m_39, m_40, m_41, m_42, m_43, m_44, m_45, m_46, m_47, m_48, m_49, m_50, m_51, m_52, m_53, m_54, m_55, m_56, m_57, m_58, m_59])), (w0, .inl (K 0, 5500, .inl fw)), (r0, .inl (K 0, 7, .inl frf))] sz) := by
  refine Met.ofW (cc := cX12_hear) (maxL := 3) (ret := (some .int)) (by decide) rfl ?_
  intro p e s m args below meth c s₁ B hml hv
  obtain ⟨rfl, hsz, hP, hK, hD0, hN⟩ := hv
  have hx := B.exec
  have hb := B.bytes
  have hr := B.returns
  have hts := atoms_spec (ws := wsX12_hear) B.pre
  have hown : s.vm.findClass RX12 = some m.cls := findClass_of_methodNamed B.named
  have hlocks := B.notSynchronized
  subst hsz
  have hD := hD0.self (sz := s.heap.size)
  generalize hAe : va_A [(m0, .inr (12, [.int thr, .int sta, .ref r0, .ref w0, m_4, m_5, m_6, m_7, m_8, m_9, m_10, m_11, m_12, m_13, m_14, m_15, m_16, m_17, m_18, m_19, m_20, m_21, m_22, m_23, m_24, m_25, m_26, m_27, m_28, m_29, m_30, m_31, m_32, m_33, m_34, m_35, m_36, m_37, m_38, m_39, m_40, m_41, m_42, m_43, m_44, m_45, m_46, m_47, m_48, m_49, m_50, m_51, m_52, m_53, m_54, m_55, m_56, m_57, m_58, m_59])), (w0, .inl (K 0, 5500, .inl fw)), (r0, .inl (K 0, 7, .inl frf))] s.heap.size = A at hD ⊢
  have hA : ∀ q : Nat, s.heap.size ≤ q → A q := fun q h => by rw [← hAe]; exact Or.inr h
  have hS : va_S A s.heap s.heap [] := va_S.rf
  have hP : va_P D vwCl [(m0, .inr (12, [.int thr, .int sta, .ref r0, .ref w0, m_4, m_5, m_6, m_7, m_8, m_9, m_10, m_11, m_12, m_13, m_14, m_15, m_16, m_17, m_18, m_19, m_20, m_21, m_22, m_23, m_24, m_25, m_26, m_27, m_28, m_29, m_30, m_31, m_32, m_33, m_34, m_35, m_36, m_37, m_38, m_39, m_40, m_41, m_42, m_43, m_44, m_45, m_46, m_47, m_48, m_49, m_50, m_51, m_52, m_53, m_54, m_55, m_56, m_57, m_58, m_59])), (w0, .inl (K 0, 5500, .inl fw)), (r0, .inl (K 0, 7, .inl frf))] s.heap := hP
  have hl := lv_entry [.ref m0, .int x] (n := 3) (Nat.le_of_ble_eq_true rfl)
  rw [lg_entry_eq]
  generalize (lg_sl [.ref m0, .int x] ++ List.replicate (3 - (lg_sl [.ref m0, .int x]).length) Slot.unset).toArray = ls at hl ⊢
  have hl : lv_has ls 3 [(0, .ref m0), (1, .int x)] := hl
  have hw12 : ∀ w ∈ wsX120, w ∈ wsX12_hear := fun w h => (List.mem_cons_of_mem _ (List.mem_append_right _ h))
  generalize hQ : MQ below _ _ s _ _ _ = Q
  refine lv_aload_n hx hb dX12_hear_0 rfl (lv_at hl 0 rfl) ?_
  refine lv_iconst (v := 0) hx hb dX12_hear_1 (by decide) ?_
  refine va_put (ci := 12) (v := .int 0) (ty := .int) (C := RX12) (T := TX12) (N := 60) hx hb hts hw12 tyX12 tyX12_ok nmX12 hown hK hP hD hS 0 rfl rfl 0 (by decide) (hts (.fieldLink RX12 158 "SmokeTuneModel" "thrown" "I") (List.mem_cons_of_mem _ (List.mem_append_left _ (List.mem_of_getElem? (i := 0) rfl)))) (fun _ h9 => h9) rfl (by decide +kernel) (by first | rfl | decide) (by first | rfl | decide) (Nat.le_of_ble_eq_true rfl) dX12_hear_2 (fun H locs hP hD hS => ?_)
  have hP : va_P D vwCl [(m0, .inr (12, [.int 0, .int sta, .ref r0, .ref w0, m_4, m_5, m_6, m_7, m_8, m_9, m_10, m_11, m_12, m_13, m_14, m_15, m_16, m_17, m_18, m_19, m_20, m_21, m_22, m_23, m_24, m_25, m_26, m_27, m_28, m_29, m_30, m_31, m_32, m_33, m_34, m_35, m_36, m_37, m_38, m_39, m_40, m_41, m_42, m_43, m_44, m_45, m_46, m_47, m_48, m_49, m_50, m_51, m_52, m_53, m_54, m_55, m_56, m_57, m_58, m_59])), (w0, .inl (K 0, 5500, .inl fw)), (r0, .inl (K 0, 7, .inl frf))] H := hP
  have hD : va_D A [(m0, .inr (12, [.int 0, .int sta, .ref r0, .ref w0, m_4, m_5, m_6, m_7, m_8, m_9, m_10, m_11, m_12, m_13, m_14, m_15, m_16, m_17, m_18, m_19, m_20, m_21, m_22, m_23, m_24, m_25, m_26, m_27, m_28, m_29, m_30, m_31, m_32, m_33, m_34, m_35, m_36, m_37, m_38, m_39, m_40, m_41, m_42, m_43, m_44, m_45, m_46, m_47, m_48, m_49, m_50, m_51, m_52, m_53, m_54, m_55, m_56, m_57, m_58, m_59])), (w0, .inl (K 0, 5500, .inl fw)), (r0, .inl (K 0, 7, .inl frf))] := hD
  refine lv_iload_n hx hb dX12_hear_5 rfl (lv_at hl 1 rfl) ?_
  refine lv_i2l hx hb dX12_hear_6 rfl ?_
  refine lv_topl (fun x_115 ex_115 => ?_)
  have hx_115 : x_115.toInt = x.toInt := by rw [ex_115]; exact i_wide rfl
  have hbx_115 := i_rng (a := x) rfl
  refine lv_lconst (v := 0) hx hb dX12_hear_7 (by decide) ?_
  refine lv_ldc2 (v := 127) hx hb hown (hts (.constantLong RX12 212 (127)) (List.mem_cons_of_mem _ (List.mem_append_left _ (List.mem_of_getElem? (i := 1) rfl)))) dX12_hear_8 ?_
  refine pci (va_runS (As := [.long x_115, .long 0, .long 127]) (rest := []) ⟨hx, hb, hml, hown, hts⟩ (v_in l D K x.toInt 0 127 x_115 0 127 H.size hx_115 (show (0 : Int64).toInt = 0 from rfl) (show (127 : Int64).toInt = 127 from rfl)) (va_cwS 3 hts gX12_hear_X12_in rfl rfl rfl (by decide +kernel) ⟨Nat.le_of_ble_eq_true rfl, Nat.le_of_ble_eq_true rfl⟩) (mkS hK hN (va_P.nil) (va_D.nil (A := fun _ => True))) rfl rfl hl.1 rfl (lv_room (Nat.le_of_ble_eq_true rfl)) dX12_hear_11 ⟨Nat.le_of_ble_eq_true rfl, Nat.le_of_ble_eq_true rfl⟩) (fun r_116 hw => ?_)
  obtain ⟨hw, -⟩ := hw
  rcases hw with ⟨rfl, h_117, h_118⟩ | ⟨rfl, h_119⟩
  · refine lv_if_ne (tgt := 23) hx hb dX12_hear_14 (by decide) (fun c_120 => ?_) (fun c_120 => absurd c_120 (by decide))
    refine lv_aload_n hx hb dX12_hear_23 rfl (lv_at hl 0 rfl) ?_
    refine va_get (ci := 12) (v := .ref w0) (C := RX12) (T := TX12) (N := 60) hx hb hts hw12 hown hK hP 0 rfl rfl 3 (by decide) (hts (.fieldLink RX12 13 "SmokeTuneModel" "row" "[I") (List.mem_cons_of_mem _ (List.mem_append_left _ (List.mem_of_getElem? (i := 2) rfl)))) (fun _ h9 => h9) rfl dX12_hear_24 ?_
    refine lv_iconst (v := 1) hx hb dX12_hear_27 (by decide) ?_
    refine va_iald hx hb hK hP 1 0 rfl rfl (i_in (x := 1) rfl (by omega)) dX12_hear_28 ?_
    refine lv_topi (fun x_121 ex_121 => ?_)
    have px_121 := RwOK.at zfw (show (1 : Int32).toInt = 1 from rfl) (show 0 ≤ 1 ∧ 1 < 100 by omega)
    rw [← ex_121] at px_121
    have hx_121 := PR.r_1 px_121 (by omega)
    have kx_121 : fw 1 = x_121 := ex_121.symm
    refine lv_istore_n (lv' := [(2, .int x_121), (0, .ref m0), (1, .int x)]) hx hb dX12_hear_29 rfl hl (by decide) rfl (fun ls hl => ?_)
    refine lv_iload_n hx hb dX12_hear_30 rfl (lv_at hl 0 rfl) ?_
    refine lv_bipush (v := 6) hx hb dX12_hear_31 (by decide) ?_
    refine lv_icmp_ne (tgt := 43) hx hb dX12_hear_33 (by decide) (fun c_122 => ?_) (fun c_122 => ?_)
    · have c_122i := i_ne (x := x_121.toInt) (y := 6) rfl rfl c_122
      refine lv_aload_n hx hb dX12_hear_43 rfl (lv_at hl 1 rfl) ?_
      refine va_get (ci := 12) (v := .ref w0) (C := RX12) (T := TX12) (N := 60) hx hb hts hw12 hown hK hP 0 rfl rfl 3 (by decide) (hts (.fieldLink RX12 13 "SmokeTuneModel" "row" "[I") (List.mem_cons_of_mem _ (List.mem_append_left _ (List.mem_of_getElem? (i := 2) rfl)))) (fun _ h9 => h9) rfl dX12_hear_44 ?_
      refine lv_bipush (v := 91) hx hb dX12_hear_47 (by decide) ?_
      refine lv_iload_n hx hb dX12_hear_49 rfl (lv_at hl 0 rfl) ?_
      refine lv_iadd hx hb dX12_hear_50 ?_
      refine lv_topi (fun x_123 ex_123 => ?_)
      have hx_123 : x_123.toInt = (91 + x_121.toInt) := by rw [ex_123]; exact i_add (show (91 : Int32).toInt = 91 from rfl) rfl (by omega)
      refine lv_iload_n hx hb dX12_hear_51 rfl (lv_at hl 2 rfl) ?_
      refine va_iast hx hb hK hP hD hS 1 0 rfl rfl (i_in hx_123 (by omega)) dX12_hear_52 (fun H locs hP hD hS => ?_)
      generalize hf_124 : (upd fw (x_123 : Int32).toNatClampNeg x) = f_124 at hP hD
      have hf_124_0 : RwOK f_124 := by rw [← hf_124]; exact RwOK.upd zfw hx_123 (by omega) rfl (PR.free (by omega))
      have hf_124_1 : f_124 1 = x_121 := by rw [← hf_124]; exact (pk_un (show ¬ 1 = _ by rw [i_clamp hx_123]; omega)).trans kx_121
      have hP : va_P D vwCl [(m0, .inr (12, [.int 0, .int sta, .ref r0, .ref w0, m_4, m_5, m_6, m_7, m_8, m_9, m_10, m_11, m_12, m_13, m_14, m_15, m_16, m_17, m_18, m_19, m_20, m_21, m_22, m_23, m_24, m_25, m_26, m_27, m_28, m_29, m_30, m_31, m_32, m_33, m_34, m_35, m_36, m_37, m_38, m_39, m_40, m_41, m_42, m_43, m_44, m_45, m_46, m_47, m_48, m_49, m_50, m_51, m_52, m_53, m_54, m_55, m_56, m_57, m_58, m_59])), (w0, .inl (K 0, 5500, .inl f_124)), (r0, .inl (K 0, 7, .inl frf))] H := hP
      have hD : va_D A [(m0, .inr (12, [.int 0, .int sta, .ref r0, .ref w0, m_4, m_5, m_6, m_7, m_8, m_9, m_10, m_11, m_12, m_13, m_14, m_15, m_16, m_17, m_18, m_19, m_20, m_21, m_22, m_23, m_24, m_25, m_26, m_27, m_28, m_29, m_30, m_31, m_32, m_33, m_34, m_35, m_36, m_37, m_38, m_39, m_40, m_41, m_42, m_43, m_44, m_45, m_46, m_47, m_48, m_49, m_50, m_51, m_52, m_53, m_54, m_55, m_56, m_57, m_58, m_59])), (w0, .inl (K 0, 5500, .inl f_124)), (r0, .inl (K 0, 7, .inl frf))] := hD
      refine lv_aload_n hx hb dX12_hear_53 rfl (lv_at hl 1 rfl) ?_
      refine va_get (ci := 12) (v := .ref w0) (C := RX12) (T := TX12) (N := 60) hx hb hts hw12 hown hK hP 0 rfl rfl 3 (by decide) (hts (.fieldLink RX12 13 "SmokeTuneModel" "row" "[I") (List.mem_cons_of_mem _ (List.mem_append_left _ (List.mem_of_getElem? (i := 2) rfl)))) (fun _ h9 => h9) rfl dX12_hear_54 ?_
      refine lv_iconst (v := 1) hx hb dX12_hear_57 (by decide) ?_
      refine lv_dup2_11 hx hb dX12_hear_58 rfl rfl ?_
      refine va_iald hx hb hK hP 1 0 rfl rfl (i_in (x := 1) rfl (by omega)) dX12_hear_59 ?_
      refine lv_topi (fun x_125 ex_125 => ?_)
      have erx_125 : x_125 = x_121 := ex_125.trans hf_124_1
      have hrx_125 : x_125.toInt = x_121.toInt := (congrArg Int32.toInt erx_125).trans rfl
      refine lv_iconst (v := 1) hx hb dX12_hear_60 (by decide) ?_
      refine lv_iadd hx hb dX12_hear_61 ?_
      refine lv_topi (fun x_126 ex_126 => ?_)
      have hx_126 : x_126.toInt = (x_121.toInt + 1) := by rw [ex_126]; exact i_add hrx_125 (show (1 : Int32).toInt = 1 from rfl) (by omega)
      refine va_iast hx hb hK hP hD hS 1 0 rfl rfl (i_in (x := 1) rfl (by omega)) dX12_hear_62 (fun H locs hP hD hS => ?_)
      generalize hf_127 : (upd f_124 (1 : Int32).toNatClampNeg x_126) = f_127 at hP hD
      have hf_127_0 : RwOK f_127 := by rw [← hf_127]; exact RwOK.upd hf_124_0 (show (1 : Int32).toInt = 1 from rfl) (by omega) hx_126 (PR.w_1 (by omega) (by omega))
      have kf_127 : f_127 1 = x_126 := by rw [← hf_127]; exact pk_us
      have hP : va_P D vwCl [(m0, .inr (12, [.int 0, .int sta, .ref r0, .ref w0, m_4, m_5, m_6, m_7, m_8, m_9, m_10, m_11, m_12, m_13, m_14, m_15, m_16, m_17, m_18, m_19, m_20, m_21, m_22, m_23, m_24, m_25, m_26, m_27, m_28, m_29, m_30, m_31, m_32, m_33, m_34, m_35, m_36, m_37, m_38, m_39, m_40, m_41, m_42, m_43, m_44, m_45, m_46, m_47, m_48, m_49, m_50, m_51, m_52, m_53, m_54, m_55, m_56, m_57, m_58, m_59])), (w0, .inl (K 0, 5500, .inl f_127)), (r0, .inl (K 0, 7, .inl frf))] H := hP
      have hD : va_D A [(m0, .inr (12, [.int 0, .int sta, .ref r0, .ref w0, m_4, m_5, m_6, m_7, m_8, m_9, m_10, m_11, m_12, m_13, m_14, m_15, m_16, m_17, m_18, m_19, m_20, m_21, m_22, m_23, m_24, m_25, m_26, m_27, m_28, m_29, m_30, m_31, m_32, m_33, m_34, m_35, m_36, m_37, m_38, m_39, m_40, m_41, m_42, m_43, m_44, m_45, m_46, m_47, m_48, m_49, m_50, m_51, m_52, m_53, m_54, m_55, m_56, m_57, m_58, m_59])), (w0, .inl (K 0, 5500, .inl f_127)), (r0, .inl (K 0, 7, .inl frf))] := hD
      refine lv_aload_n hx hb dX12_hear_63 rfl (lv_at hl 1 rfl) ?_
      refine lv_iload_n hx hb dX12_hear_64 rfl (lv_at hl 0 rfl) ?_
      refine lv_iconst (v := 1) hx hb dX12_hear_65 (by decide) ?_
      refine lv_iadd hx hb dX12_hear_66 ?_
      refine lv_topi (fun x_128 ex_128 => ?_)
      have hx_128 : x_128.toInt = (x_121.toInt + 1) := by rw [ex_128]; exact i_add rfl (show (1 : Int32).toInt = 1 from rfl) (by omega)
      refine kci (S := Su) (wr := [(w0, .inl (K 0, 5500, .inl f_127))]) (va_runV (As := [.int x_128]) (rest := []) ⟨hx, hb, hml, hown, hts⟩ (v_tell l D K m0 x_128 (.int 0) sta r0 (.ref w0) m_4 m_5 m_6 m_7 m_8 m_9 m_10 m_11 m_12 m_13 m_14 m_15 m_16 m_17 m_18 m_19 m_20 m_21 m_22 m_23 m_24 m_25 m_26 m_27 m_28 m_29 m_30 m_31 m_32 m_33 m_34 m_35 m_36 m_37 m_38 m_39 m_40 m_41 m_42 m_43 m_44 m_45 m_46 m_47 m_48 m_49 m_50 m_51 m_52 m_53 m_54 m_55 m_56 m_57 m_58 m_59 frf H.size (by first | omega | decide)) (cwV 1 hts gX12_hear_X12_tell rfl rfl rfl (by decide +kernel) ⟨Nat.le_of_ble_eq_true rfl, Nat.le_of_ble_eq_true rfl⟩) (mkV hK hN (hP.sub [0, 2] rfl) (hD.sub [0, 2] (by decide) rfl) (ci := 12) (q0 := 0) rfl rfl) rfl rfl hl.1 rfl (lv_room (Nat.le_of_ble_eq_true rfl)) dX12_hear_67 ⟨Nat.le_of_ble_eq_true rfl, Nat.le_of_ble_eq_true rfl⟩) hP hD hS hA [0, 2] [1] rfl rfl (by decide) (by decide) (fun r_129 u_130 H locs hw hP hD hS => ?_)
      have hP : va_P D vwCl [(w0, .inl (K 0, 5500, .inl f_127)), (m0, .inr (12, [.int 0, .int (u_130.2.2.2.1 0), .ref r0, .ref w0, m_4, m_5, m_6, m_7, m_8, m_9, m_10, m_11, m_12, m_13, m_14, m_15, m_16, m_17, m_18, m_19, m_20, m_21, m_22, m_23, m_24, m_25, m_26, m_27, m_28, m_29, m_30, m_31, m_32, m_33, m_34, m_35, m_36, m_37, m_38, m_39, m_40, m_41, m_42, m_43, m_44, m_45, m_46, m_47, m_48, m_49, m_50, m_51, m_52, m_53, m_54, m_55, m_56, m_57, m_58, m_59])), (r0, .inl (K 0, 7, .inl (u_130.2.1 0)))] H := hP
      have hD : va_D A [(w0, .inl (K 0, 5500, .inl f_127)), (m0, .inr (12, [.int 0, .int (u_130.2.2.2.1 0), .ref r0, .ref w0, m_4, m_5, m_6, m_7, m_8, m_9, m_10, m_11, m_12, m_13, m_14, m_15, m_16, m_17, m_18, m_19, m_20, m_21, m_22, m_23, m_24, m_25, m_26, m_27, m_28, m_29, m_30, m_31, m_32, m_33, m_34, m_35, m_36, m_37, m_38, m_39, m_40, m_41, m_42, m_43, m_44, m_45, m_46, m_47, m_48, m_49, m_50, m_51, m_52, m_53, m_54, m_55, m_56, m_57, m_58, m_59])), (r0, .inl (K 0, 7, .inl (u_130.2.1 0)))] := hD
      obtain ⟨h_132, k_131, -⟩ := hw
      rw [← hQ]
      have hP9 := hP.sub (ws' := [(m0, .inr (12, [.int 0, .int (u_130.2.2.2.1 0), .ref r0, .ref w0, m_4, m_5, m_6, m_7, m_8, m_9, m_10, m_11, m_12, m_13, m_14, m_15, m_16, m_17, m_18, m_19, m_20, m_21, m_22, m_23, m_24, m_25, m_26, m_27, m_28, m_29, m_30, m_31, m_32, m_33, m_34, m_35, m_36, m_37, m_38, m_39, m_40, m_41, m_42, m_43, m_44, m_45, m_46, m_47, m_48, m_49, m_50, m_51, m_52, m_53, m_54, m_55, m_56, m_57, m_58, m_59])), (w0, .inl (K 0, 5500, .inl f_127)), (r0, .inl (K 0, 7, .inl (u_130.2.1 0)))]) [1, 0, 2] rfl
      have hD9 := hD.sub (ws' := [(m0, .inr (12, [.int 0, .int (u_130.2.2.2.1 0), .ref r0, .ref w0, m_4, m_5, m_6, m_7, m_8, m_9, m_10, m_11, m_12, m_13, m_14, m_15, m_16, m_17, m_18, m_19, m_20, m_21, m_22, m_23, m_24, m_25, m_26, m_27, m_28, m_29, m_30, m_31, m_32, m_33, m_34, m_35, m_36, m_37, m_38, m_39, m_40, m_41, m_42, m_43, m_44, m_45, m_46, m_47, m_48, m_49, m_50, m_51, m_52, m_53, m_54, m_55, m_56, m_57, m_58, m_59])), (w0, .inl (K 0, 5500, .inl f_127)), (r0, .inl (K 0, 7, .inl (u_130.2.1 0)))]) [1, 0, 2] (by decide) rfl
      exact W.iret (v := r_129) hx hb hr (fun t ht hW => ⟨⟨r_129, ((fun _ => 0, fun i => match i with | 0 => f_127 | _ => (u_130.2.1 0), fun _ => fun _ => 0, fun i => match i with | _ => (u_130.2.2.2.1 0), fun _ => 0, fun _ => fun _ => none) : Su), rfl, ⟨(show (-6) ≤ r_129.toInt by omega), (show (-6) ≤ ((u_130.2.2.2.1 0) : Int32).toInt ∧ ((u_130.2.2.2.1 0) : Int32).toInt ≤ 0 by omega), hf_127_0, trivial⟩, (⟨by rw [ht]; exact hP9, hD9⟩ : Wd D A _ t)⟩, hS.F ht⟩) hS.2.2 dX12_hear_70
    · have c_122i := i_eq (x := x_121.toInt) (y := 6) rfl rfl c_122
      refine lv_aload_n hx hb dX12_hear_36 rfl (lv_at hl 1 rfl) ?_
      refine lv_bipush (v := (-5)) hx hb dX12_hear_37 (by decide) ?_
      refine kci (S := Su) (wr := [(w0, .inl (K 0, 5500, .inl fw))]) (va_runV (As := [.int (-5)]) (rest := []) ⟨hx, hb, hml, hown, hts⟩ (v_tell l D K m0 (-5) (.int 0) sta r0 (.ref w0) m_4 m_5 m_6 m_7 m_8 m_9 m_10 m_11 m_12 m_13 m_14 m_15 m_16 m_17 m_18 m_19 m_20 m_21 m_22 m_23 m_24 m_25 m_26 m_27 m_28 m_29 m_30 m_31 m_32 m_33 m_34 m_35 m_36 m_37 m_38 m_39 m_40 m_41 m_42 m_43 m_44 m_45 m_46 m_47 m_48 m_49 m_50 m_51 m_52 m_53 m_54 m_55 m_56 m_57 m_58 m_59 frf H.size (by first | omega | decide)) (cwV 1 hts gX12_hear_X12_tell rfl rfl rfl (by decide +kernel) ⟨Nat.le_of_ble_eq_true rfl, Nat.le_of_ble_eq_true rfl⟩) (mkV hK hN (hP.sub [0, 2] rfl) (hD.sub [0, 2] (by decide) rfl) (ci := 12) (q0 := 0) rfl rfl) rfl rfl hl.1 rfl (lv_room (Nat.le_of_ble_eq_true rfl)) dX12_hear_39 ⟨Nat.le_of_ble_eq_true rfl, Nat.le_of_ble_eq_true rfl⟩) hP hD hS hA [0, 2] [1] rfl rfl (by decide) (by decide) (fun r_133 u_134 H locs hw hP hD hS => ?_)
      have hP : va_P D vwCl [(w0, .inl (K 0, 5500, .inl fw)), (m0, .inr (12, [.int 0, .int (u_134.2.2.2.1 0), .ref r0, .ref w0, m_4, m_5, m_6, m_7, m_8, m_9, m_10, m_11, m_12, m_13, m_14, m_15, m_16, m_17, m_18, m_19, m_20, m_21, m_22, m_23, m_24, m_25, m_26, m_27, m_28, m_29, m_30, m_31, m_32, m_33, m_34, m_35, m_36, m_37, m_38, m_39, m_40, m_41, m_42, m_43, m_44, m_45, m_46, m_47, m_48, m_49, m_50, m_51, m_52, m_53, m_54, m_55, m_56, m_57, m_58, m_59])), (r0, .inl (K 0, 7, .inl (u_134.2.1 0)))] H := hP
      have hD : va_D A [(w0, .inl (K 0, 5500, .inl fw)), (m0, .inr (12, [.int 0, .int (u_134.2.2.2.1 0), .ref r0, .ref w0, m_4, m_5, m_6, m_7, m_8, m_9, m_10, m_11, m_12, m_13, m_14, m_15, m_16, m_17, m_18, m_19, m_20, m_21, m_22, m_23, m_24, m_25, m_26, m_27, m_28, m_29, m_30, m_31, m_32, m_33, m_34, m_35, m_36, m_37, m_38, m_39, m_40, m_41, m_42, m_43, m_44, m_45, m_46, m_47, m_48, m_49, m_50, m_51, m_52, m_53, m_54, m_55, m_56, m_57, m_58, m_59])), (r0, .inl (K 0, 7, .inl (u_134.2.1 0)))] := hD
      obtain ⟨h_136, k_135, -⟩ := hw
      rw [← hQ]
      have hP9 := hP.sub (ws' := [(m0, .inr (12, [.int 0, .int (u_134.2.2.2.1 0), .ref r0, .ref w0, m_4, m_5, m_6, m_7, m_8, m_9, m_10, m_11, m_12, m_13, m_14, m_15, m_16, m_17, m_18, m_19, m_20, m_21, m_22, m_23, m_24, m_25, m_26, m_27, m_28, m_29, m_30, m_31, m_32, m_33, m_34, m_35, m_36, m_37, m_38, m_39, m_40, m_41, m_42, m_43, m_44, m_45, m_46, m_47, m_48, m_49, m_50, m_51, m_52, m_53, m_54, m_55, m_56, m_57, m_58, m_59])), (w0, .inl (K 0, 5500, .inl fw)), (r0, .inl (K 0, 7, .inl (u_134.2.1 0)))]) [1, 0, 2] rfl
      have hD9 := hD.sub (ws' := [(m0, .inr (12, [.int 0, .int (u_134.2.2.2.1 0), .ref r0, .ref w0, m_4, m_5, m_6, m_7, m_8, m_9, m_10, m_11, m_12, m_13, m_14, m_15, m_16, m_17, m_18, m_19, m_20, m_21, m_22, m_23, m_24, m_25, m_26, m_27, m_28, m_29, m_30, m_31, m_32, m_33, m_34, m_35, m_36, m_37, m_38, m_39, m_40, m_41, m_42, m_43, m_44, m_45, m_46, m_47, m_48, m_49, m_50, m_51, m_52, m_53, m_54, m_55, m_56, m_57, m_58, m_59])), (w0, .inl (K 0, 5500, .inl fw)), (r0, .inl (K 0, 7, .inl (u_134.2.1 0)))]) [1, 0, 2] (by decide) rfl
      exact W.iret (v := r_133) hx hb hr (fun t ht hW => ⟨⟨r_133, ((fun _ => 0, fun i => match i with | 0 => fw | _ => (u_134.2.1 0), fun _ => fun _ => 0, fun i => match i with | _ => (u_134.2.2.2.1 0), fun _ => 0, fun _ => fun _ => none) : Su), rfl, ⟨(show (-6) ≤ r_133.toInt by omega), (show (-6) ≤ ((u_134.2.2.2.1 0) : Int32).toInt ∧ ((u_134.2.2.2.1 0) : Int32).toInt ≤ 0 by omega), zfw, trivial⟩, (⟨by rw [ht]; exact hP9, hD9⟩ : Wd D A _ t)⟩, hS.F ht⟩) hS.2.2 dX12_hear_42
  · refine lv_if_ne (tgt := 23) hx hb dX12_hear_14 (by decide) (fun c_137 => absurd (by decide) c_137) (fun c_137 => ?_)
    refine lv_aload_n hx hb dX12_hear_17 rfl (lv_at hl 0 rfl) ?_
    refine lv_iconst (v := (-1)) hx hb dX12_hear_18 (by decide) ?_
    refine kci (S := Su) (wr := [(w0, .inl (K 0, 5500, .inl fw))]) (va_runV (As := [.int (-1)]) (rest := []) ⟨hx, hb, hml, hown, hts⟩ (v_tell l D K m0 (-1) (.int 0) sta r0 (.ref w0) m_4 m_5 m_6 m_7 m_8 m_9 m_10 m_11 m_12 m_13 m_14 m_15 m_16 m_17 m_18 m_19 m_20 m_21 m_22 m_23 m_24 m_25 m_26 m_27 m_28 m_29 m_30 m_31 m_32 m_33 m_34 m_35 m_36 m_37 m_38 m_39 m_40 m_41 m_42 m_43 m_44 m_45 m_46 m_47 m_48 m_49 m_50 m_51 m_52 m_53 m_54 m_55 m_56 m_57 m_58 m_59 frf H.size (by first | omega | decide)) (cwV 1 hts gX12_hear_X12_tell rfl rfl rfl (by decide +kernel) ⟨Nat.le_of_ble_eq_true rfl, Nat.le_of_ble_eq_true rfl⟩) (mkV hK hN (hP.sub [0, 2] rfl) (hD.sub [0, 2] (by decide) rfl) (ci := 12) (q0 := 0) rfl rfl) rfl rfl hl.1 rfl (lv_room (Nat.le_of_ble_eq_true rfl)) dX12_hear_19 ⟨Nat.le_of_ble_eq_true rfl, Nat.le_of_ble_eq_true rfl⟩) hP hD hS hA [0, 2] [1] rfl rfl (by decide) (by decide) (fun r_138 u_139 H locs hw hP hD hS => ?_)
    have hP : va_P D vwCl [(w0, .inl (K 0, 5500, .inl fw)), (m0, .inr (12, [.int 0, .int (u_139.2.2.2.1 0), .ref r0, .ref w0, m_4, m_5, m_6, m_7, m_8, m_9, m_10, m_11, m_12, m_13, m_14, m_15, m_16, m_17, m_18, m_19, m_20, m_21, m_22, m_23, m_24, m_25, m_26, m_27, m_28, m_29, m_30, m_31, m_32, m_33, m_34, m_35, m_36, m_37, m_38, m_39, m_40, m_41, m_42, m_43, m_44, m_45, m_46, m_47, m_48, m_49, m_50, m_51, m_52, m_53, m_54, m_55, m_56, m_57, m_58, m_59])), (r0, .inl (K 0, 7, .inl (u_139.2.1 0)))] H := hP
    have hD : va_D A [(w0, .inl (K 0, 5500, .inl fw)), (m0, .inr (12, [.int 0, .int (u_139.2.2.2.1 0), .ref r0, .ref w0, m_4, m_5, m_6, m_7, m_8, m_9, m_10, m_11, m_12, m_13, m_14, m_15, m_16, m_17, m_18, m_19, m_20, m_21, m_22, m_23, m_24, m_25, m_26, m_27, m_28, m_29, m_30, m_31, m_32, m_33, m_34, m_35, m_36, m_37, m_38, m_39, m_40, m_41, m_42, m_43, m_44, m_45, m_46, m_47, m_48, m_49, m_50, m_51, m_52, m_53, m_54, m_55, m_56, m_57, m_58, m_59])), (r0, .inl (K 0, 7, .inl (u_139.2.1 0)))] := hD
    obtain ⟨h_141, k_140, -⟩ := hw
    rw [← hQ]
    have hP9 := hP.sub (ws' := [(m0, .inr (12, [.int 0, .int (u_139.2.2.2.1 0), .ref r0, .ref w0, m_4, m_5, m_6, m_7, m_8, m_9, m_10, m_11, m_12, m_13, m_14, m_15, m_16, m_17, m_18, m_19, m_20, m_21, m_22, m_23, m_24, m_25, m_26, m_27, m_28, m_29, m_30, m_31, m_32, m_33, m_34, m_35, m_36, m_37, m_38, m_39, m_40, m_41, m_42, m_43, m_44, m_45, m_46, m_47, m_48, m_49, m_50, m_51, m_52, m_53, m_54, m_55, m_56, m_57, m_58, m_59])), (w0, .inl (K 0, 5500, .inl fw)), (r0, .inl (K 0, 7, .inl (u_139.2.1 0)))]) [1, 0, 2] rfl
    have hD9 := hD.sub (ws' := [(m0, .inr (12, [.int 0, .int (u_139.2.2.2.1 0), .ref r0, .ref w0, m_4, m_5, m_6, m_7, m_8, m_9, m_10, m_11, m_12, m_13, m_14, m_15, m_16, m_17, m_18, m_19, m_20, m_21, m_22, m_23, m_24, m_25, m_26, m_27, m_28, m_29, m_30, m_31, m_32, m_33, m_34, m_35, m_36, m_37, m_38, m_39, m_40, m_41, m_42, m_43, m_44, m_45, m_46, m_47, m_48, m_49, m_50, m_51, m_52, m_53, m_54, m_55, m_56, m_57, m_58, m_59])), (w0, .inl (K 0, 5500, .inl fw)), (r0, .inl (K 0, 7, .inl (u_139.2.1 0)))]) [1, 0, 2] (by decide) rfl
    exact W.iret (v := r_138) hx hb hr (fun t ht hW => ⟨⟨r_138, ((fun _ => 0, fun i => match i with | 0 => fw | _ => (u_139.2.1 0), fun _ => fun _ => 0, fun i => match i with | _ => (u_139.2.2.2.1 0), fun _ => 0, fun _ => fun _ => none) : Su), rfl, ⟨(show (-6) ≤ r_138.toInt by omega), (show (-6) ≤ ((u_139.2.2.2.1 0) : Int32).toInt ∧ ((u_139.2.2.2.1 0) : Int32).toInt ≤ 0 by omega), zfw, trivial⟩, (⟨by rw [ht]; exact hP9, hD9⟩ : Wd D A _ t)⟩, hS.F ht⟩) hS.2.2 dX12_hear_22
set_option maxHeartbeats 4000000 in
set_option maxRecDepth 100000 in
theorem v_forget (l : Launch) (D : va_G) (K : Nat → ClassId) (m0 : Nat) (thr : Int32) (m_1 : Value) (m_2 : Value) (w0 : Nat) (m_4 : Value) (m_5 : Value) (m_6 : Value) (m_7 : Value) (m_8 : Value) (m_9 : Value) (m_10 : Value) (m_11 : Value) (m_12 : Value) (m_13 : Value) (m_14 : Value) (m_15 : Value) (m_16 : Value) (m_17 : Value) (m_18 : Value) (m_19 : Value) (m_20 : Value) (m_21 : Value) (m_22 : Value) (m_23 : Value) (m_24 : Value) (m_25 : Value) (m_26 : Value) (m_27 : Value) (m_28 : Value) (m_29 : Value) (m_30 : Value) (m_31 : Value) (m_32 : Value) (m_33 : Value) (m_34 : Value) (m_35 : Value) (m_36 : Value) (m_37 : Value) (m_38 : Value) (m_39 : Value) (m_40 : Value) (m_41 : Value) (m_42 : Value) (m_43 : Value) (m_44 : Value) (m_45 : Value) (m_46 : Value) (m_47 : Value) (m_48 : Value) (m_49 : Value) (m_50 : Value) (m_51 : Value) (m_52 : Value) (m_53 : Value) (m_54 : Value) (m_55 : Value) (m_56 : Value) (m_57 : Value) (m_58 : Value) (m_59 : Value) (fw : Nat → Int32) (sz : Nat) (zfw : RwOK fw) : Met l yX12_forget wsX12_forget ({ frames := 0, cells := 0, slots := 0, locals := 0 }) (va_Pc [.ref m0] (Pre D K [(m0, .inr (12, [.int thr, m_1, m_2, .ref w0, m_4, m_5, m_6, m_7, m_8, m_9, m_10, m_11, m_12, m_13, m_14, m_15, m_16, m_17, m_18, m_19, m_20, m_21, m_22, m_23, m_24, m_25, m_26, m_27, m_28, m_29, m_30, m_31, m_32, m_33, m_34, m_35, m_36, m_37, m_38, m_39, m_40, m_41, m_42, m_43, m_44, m_45, m_46, m_47, m_48, m_49, m_50, m_51, m_52, m_53, m_54, m_55, m_56, m_57, m_58, m_59])), (w0, .inl (K 0, 5500, .inl fw))] sz)) (va_Qi (S := Su) (fun (r : Int32) (u : Su) => (0 ≤ r.toInt ∧ r.toInt ≤ 6) ∧ (RwOK (u.2.1 0)) ∧ True) (fun u t => Wd D (va_A [(m0, .inr (12, [.int thr, m_1, m_2, .ref w0, m_4, m_5, m_6, m_7, m_8, m_9, m_10, m_11, m_12, m_13, m_14, m_15, m_16, m_17, m_18, m_19, m_20, m_21, m_22, m_23, m_24, m_25, m_26, m_27, m_28, m_29, m_30, m_31, m_32, m_33, m_34, m_35, m_36, m_37, m_38, m_39, m_40, m_41, m_42, m_43, m_44, m_45, m_46, m_47, m_48, m_49, m_50, m_51, m_52, m_53, m_54, m_55, m_56, m_57, m_58, m_59])), (w0, .inl (K 0, 5500, .inl fw))] sz) ((fun u => [(m0, .inr (12, [.int 0, m_1, m_2, .ref w0, m_4, m_5, m_6, m_7, m_8, m_9, m_10, m_11, m_12, m_13, m_14, m_15, m_16, m_17, m_18, m_19, m_20, m_21, m_22, m_23, m_24, m_25, m_26, m_27, m_28, m_29, m_30, m_31, m_32, m_33, m_34, m_35, m_36, m_37, m_38, m_39, m_40, m_41, m_42, m_43, m_44, m_45, m_46, m_47, m_48, m_49, m_50, m_51, m_52, m_53, m_54, m_55, m_56, m_57, m_58, m_59])), (w0, .inl (K 0, 5500, .inl (u.2.1 0)))]) u) t) (va_A [(m0, .inr (12, [.int thr, m_1, m_2, .ref w0, m_4, m_5, m_6, m_7, m_8, m_9, m_10, m_11, m_12, m_13, m_14, m_15, m_16, m_17, m_18, m_19, m_20, m_21, m_22, m_23, m_24, m_25, m_26, m_27, m_28, m_29, m_30, m_31, m_32, m_33, m_34, m_35, m_36, m_37, m_38, m_39, m_40, m_41, m_42, m_43, m_44, m_45, m_46, m_47, m_48, m_49, m_50, m_51, m_52, m_53, m_54, m_55, m_56, m_57, m_58, m_59])), (w0, .inl (K 0, 5500, .inl fw))] sz)) 0 0 (va_A [(m0, .inr (12, [.int thr, m_1, m_2, .ref w0, m_4, m_5, m_6, m_7, m_8, m_9, m_10, m_11, m_12, m_13, m_14, m_15, m_16, m_17, m_18, m_19, m_20, m_21, m_22, m_23, m_24, m_25, m_26, m_27, m_28, m_29, m_30, m_31, m_32, m_33, m_34, m_35, m_36, m_37, m_38, m_39, m_40, m_41, m_42, m_43, m_44, m_45, m_46, m_47, m_48, m_49, m_50, m_51, m_52, m_53, m_54, m_55, m_56, m_57, m_58, m_59])), (w0, .inl (K 0, 5500, .inl fw))] sz) := by
  refine Met.ofW (cc := cX12_forget) (maxL := 2) (ret := (some .int)) (by decide) rfl ?_
  intro p e s m args below meth c s₁ B hml hv
  obtain ⟨rfl, hsz, hP, hK, hD0, hN⟩ := hv
  have hx := B.exec
  have hb := B.bytes
  have hr := B.returns
  have hts := atoms_spec (ws := wsX12_forget) B.pre
  have hown : s.vm.findClass RX12 = some m.cls := findClass_of_methodNamed B.named
  have hlocks := B.notSynchronized
  subst hsz
  have hD := hD0.self (sz := s.heap.size)
  generalize hAe : va_A [(m0, .inr (12, [.int thr, m_1, m_2, .ref w0, m_4, m_5, m_6, m_7, m_8, m_9, m_10, m_11, m_12, m_13, m_14, m_15, m_16, m_17, m_18, m_19, m_20, m_21, m_22, m_23, m_24, m_25, m_26, m_27, m_28, m_29, m_30, m_31, m_32, m_33, m_34, m_35, m_36, m_37, m_38, m_39, m_40, m_41, m_42, m_43, m_44, m_45, m_46, m_47, m_48, m_49, m_50, m_51, m_52, m_53, m_54, m_55, m_56, m_57, m_58, m_59])), (w0, .inl (K 0, 5500, .inl fw))] s.heap.size = A at hD ⊢
  have hA : ∀ q : Nat, s.heap.size ≤ q → A q := fun q h => by rw [← hAe]; exact Or.inr h
  have hS : va_S A s.heap s.heap [] := va_S.rf
  have hP : va_P D vwCl [(m0, .inr (12, [.int thr, m_1, m_2, .ref w0, m_4, m_5, m_6, m_7, m_8, m_9, m_10, m_11, m_12, m_13, m_14, m_15, m_16, m_17, m_18, m_19, m_20, m_21, m_22, m_23, m_24, m_25, m_26, m_27, m_28, m_29, m_30, m_31, m_32, m_33, m_34, m_35, m_36, m_37, m_38, m_39, m_40, m_41, m_42, m_43, m_44, m_45, m_46, m_47, m_48, m_49, m_50, m_51, m_52, m_53, m_54, m_55, m_56, m_57, m_58, m_59])), (w0, .inl (K 0, 5500, .inl fw))] s.heap := hP
  have hl := lv_entry [.ref m0] (n := 2) (Nat.le_of_ble_eq_true rfl)
  rw [lg_entry_eq]
  generalize (lg_sl [.ref m0] ++ List.replicate (2 - (lg_sl [.ref m0]).length) Slot.unset).toArray = ls at hl ⊢
  have hl : lv_has ls 2 [(0, .ref m0)] := hl
  have hw12 : ∀ w ∈ wsX120, w ∈ wsX12_forget := fun w h => (List.mem_cons_of_mem _ (List.mem_append_right _ h))
  generalize hQ : MQ below _ _ s _ _ _ = Q
  refine lv_aload_n hx hb dX12_forget_0 rfl (lv_at hl 0 rfl) ?_
  refine lv_iconst (v := 0) hx hb dX12_forget_1 (by decide) ?_
  refine va_put (ci := 12) (v := .int 0) (ty := .int) (C := RX12) (T := TX12) (N := 60) hx hb hts hw12 tyX12 tyX12_ok nmX12 hown hK hP hD hS 0 rfl rfl 0 (by decide) (hts (.fieldLink RX12 158 "SmokeTuneModel" "thrown" "I") (List.mem_cons_of_mem _ (List.mem_append_left _ (List.mem_of_getElem? (i := 0) rfl)))) (fun _ h9 => h9) rfl (by decide +kernel) (by first | rfl | decide) (by first | rfl | decide) (Nat.le_of_ble_eq_true rfl) dX12_forget_2 (fun H locs hP hD hS => ?_)
  have hP : va_P D vwCl [(m0, .inr (12, [.int 0, m_1, m_2, .ref w0, m_4, m_5, m_6, m_7, m_8, m_9, m_10, m_11, m_12, m_13, m_14, m_15, m_16, m_17, m_18, m_19, m_20, m_21, m_22, m_23, m_24, m_25, m_26, m_27, m_28, m_29, m_30, m_31, m_32, m_33, m_34, m_35, m_36, m_37, m_38, m_39, m_40, m_41, m_42, m_43, m_44, m_45, m_46, m_47, m_48, m_49, m_50, m_51, m_52, m_53, m_54, m_55, m_56, m_57, m_58, m_59])), (w0, .inl (K 0, 5500, .inl fw))] H := hP
  have hD : va_D A [(m0, .inr (12, [.int 0, m_1, m_2, .ref w0, m_4, m_5, m_6, m_7, m_8, m_9, m_10, m_11, m_12, m_13, m_14, m_15, m_16, m_17, m_18, m_19, m_20, m_21, m_22, m_23, m_24, m_25, m_26, m_27, m_28, m_29, m_30, m_31, m_32, m_33, m_34, m_35, m_36, m_37, m_38, m_39, m_40, m_41, m_42, m_43, m_44, m_45, m_46, m_47, m_48, m_49, m_50, m_51, m_52, m_53, m_54, m_55, m_56, m_57, m_58, m_59])), (w0, .inl (K 0, 5500, .inl fw))] := hD
  refine lv_aload_n hx hb dX12_forget_5 rfl (lv_at hl 0 rfl) ?_
  refine va_get (ci := 12) (v := .ref w0) (C := RX12) (T := TX12) (N := 60) hx hb hts hw12 hown hK hP 0 rfl rfl 3 (by decide) (hts (.fieldLink RX12 13 "SmokeTuneModel" "row" "[I") (List.mem_cons_of_mem _ (List.mem_append_left _ (List.mem_of_getElem? (i := 1) rfl)))) (fun _ h9 => h9) rfl dX12_forget_6 ?_
  refine lv_iconst (v := 1) hx hb dX12_forget_9 (by decide) ?_
  refine va_iald hx hb hK hP 1 0 rfl rfl (i_in (x := 1) rfl (by omega)) dX12_forget_10 ?_
  refine lv_topi (fun x_65 ex_65 => ?_)
  have px_65 := RwOK.at zfw (show (1 : Int32).toInt = 1 from rfl) (show 0 ≤ 1 ∧ 1 < 100 by omega)
  rw [← ex_65] at px_65
  have hx_65 := PR.r_1 px_65 (by omega)
  refine lv_istore_n (lv' := [(1, .int x_65), (0, .ref m0)]) hx hb dX12_forget_11 rfl hl (by decide) rfl (fun ls hl => ?_)
  refine lv_aload_n hx hb dX12_forget_12 rfl (lv_at hl 1 rfl) ?_
  refine va_get (ci := 12) (v := .ref w0) (C := RX12) (T := TX12) (N := 60) hx hb hts hw12 hown hK hP 0 rfl rfl 3 (by decide) (hts (.fieldLink RX12 13 "SmokeTuneModel" "row" "[I") (List.mem_cons_of_mem _ (List.mem_append_left _ (List.mem_of_getElem? (i := 1) rfl)))) (fun _ h9 => h9) rfl dX12_forget_13 ?_
  refine lv_iconst (v := 1) hx hb dX12_forget_16 (by decide) ?_
  refine lv_iconst (v := 0) hx hb dX12_forget_17 (by decide) ?_
  refine va_iast hx hb hK hP hD hS 1 0 rfl rfl (i_in (x := 1) rfl (by omega)) dX12_forget_18 (fun H locs hP hD hS => ?_)
  generalize hf_66 : (upd fw (1 : Int32).toNatClampNeg 0) = f_66 at hP hD
  have hf_66_0 : RwOK f_66 := by rw [← hf_66]; exact RwOK.upd zfw (show (1 : Int32).toInt = 1 from rfl) (by omega) (show (0 : Int32).toInt = 0 from rfl) (PR.w_1 (by omega) (by omega))
  have hP : va_P D vwCl [(m0, .inr (12, [.int 0, m_1, m_2, .ref w0, m_4, m_5, m_6, m_7, m_8, m_9, m_10, m_11, m_12, m_13, m_14, m_15, m_16, m_17, m_18, m_19, m_20, m_21, m_22, m_23, m_24, m_25, m_26, m_27, m_28, m_29, m_30, m_31, m_32, m_33, m_34, m_35, m_36, m_37, m_38, m_39, m_40, m_41, m_42, m_43, m_44, m_45, m_46, m_47, m_48, m_49, m_50, m_51, m_52, m_53, m_54, m_55, m_56, m_57, m_58, m_59])), (w0, .inl (K 0, 5500, .inl f_66))] H := hP
  have hD : va_D A [(m0, .inr (12, [.int 0, m_1, m_2, .ref w0, m_4, m_5, m_6, m_7, m_8, m_9, m_10, m_11, m_12, m_13, m_14, m_15, m_16, m_17, m_18, m_19, m_20, m_21, m_22, m_23, m_24, m_25, m_26, m_27, m_28, m_29, m_30, m_31, m_32, m_33, m_34, m_35, m_36, m_37, m_38, m_39, m_40, m_41, m_42, m_43, m_44, m_45, m_46, m_47, m_48, m_49, m_50, m_51, m_52, m_53, m_54, m_55, m_56, m_57, m_58, m_59])), (w0, .inl (K 0, 5500, .inl f_66))] := hD
  refine lv_iload_n hx hb dX12_forget_19 rfl (lv_at hl 0 rfl) ?_
  rw [← hQ]
  have hP9 := hP.sub (ws' := [(m0, .inr (12, [.int 0, m_1, m_2, .ref w0, m_4, m_5, m_6, m_7, m_8, m_9, m_10, m_11, m_12, m_13, m_14, m_15, m_16, m_17, m_18, m_19, m_20, m_21, m_22, m_23, m_24, m_25, m_26, m_27, m_28, m_29, m_30, m_31, m_32, m_33, m_34, m_35, m_36, m_37, m_38, m_39, m_40, m_41, m_42, m_43, m_44, m_45, m_46, m_47, m_48, m_49, m_50, m_51, m_52, m_53, m_54, m_55, m_56, m_57, m_58, m_59])), (w0, .inl (K 0, 5500, .inl f_66))]) [0, 1] rfl
  have hD9 := hD.sub (ws' := [(m0, .inr (12, [.int 0, m_1, m_2, .ref w0, m_4, m_5, m_6, m_7, m_8, m_9, m_10, m_11, m_12, m_13, m_14, m_15, m_16, m_17, m_18, m_19, m_20, m_21, m_22, m_23, m_24, m_25, m_26, m_27, m_28, m_29, m_30, m_31, m_32, m_33, m_34, m_35, m_36, m_37, m_38, m_39, m_40, m_41, m_42, m_43, m_44, m_45, m_46, m_47, m_48, m_49, m_50, m_51, m_52, m_53, m_54, m_55, m_56, m_57, m_58, m_59])), (w0, .inl (K 0, 5500, .inl f_66))]) [0, 1] (by decide) rfl
  exact W.iret (v := x_65) hx hb hr (fun t ht hW => ⟨⟨x_65, ((fun _ => 0, fun i => match i with | _ => f_66, fun _ => fun _ => 0, fun _ => 0, fun _ => 0, fun _ => fun _ => none) : Su), rfl, ⟨(show 0 ≤ x_65.toInt ∧ x_65.toInt ≤ 6 by omega), hf_66_0, trivial⟩, (⟨by rw [ht]; exact hP9, hD9⟩ : Wd D A _ t)⟩, hS.F ht⟩) hS.2.2 dX12_forget_20
set_option maxHeartbeats 4000000 in
set_option maxRecDepth 100000 in
theorem v_isAsHeard (l : Launch) (D : va_G) (K : Nat → ClassId) (m0 : Nat) (x : Int32) (m_0 : Value) (m_1 : Value) (m_2 : Value) (w0 : Nat) (m_4 : Value) (m_5 : Value) (m_6 : Value) (m_7 : Value) (m_8 : Value) (m_9 : Value) (m_10 : Value) (m_11 : Value) (m_12 : Value) (m_13 : Value) (m_14 : Value) (m_15 : Value) (m_16 : Value) (m_17 : Value) (m_18 : Value) (m_19 : Value) (m_20 : Value) (m_21 : Value) (m_22 : Value) (m_23 : Value) (m_24 : Value) (m_25 : Value) (m_26 : Value) (m_27 : Value) (m_28 : Value) (m_29 : Value) (m_30 : Value) (m_31 : Value) (m_32 : Value) (m_33 : Value) (m_34 : Value) (m_35 : Value) (m_36 : Value) (m_37 : Value) (m_38 : Value) (m_39 : Value) (m_40 : Value) (m_41 : Value) (m_42 : Value) (m_43 : Value) (m_44 : Value) (m_45 : Value) (m_46 : Value) (m_47 : Value) (m_48 : Value) (m_49 : Value) (m_50 : Value) (m_51 : Value) (m_52 : Value) (m_53 : Value) (m_54 : Value) (m_55 : Value) (m_56 : Value) (m_57 : Value) (m_58 : Value) (m_59 : Value) (fw : Nat → Int32) (sz : Nat) (zfw : RwOK fw) : Met l yX12_isAsHeard wsX12_isAsHeard ({ frames := 1, cells := 0, slots := 0, locals := 21 }) (va_Pc [.ref m0, .int x] (Pre D K [(m0, .inr (12, [m_0, m_1, m_2, .ref w0, m_4, m_5, m_6, m_7, m_8, m_9, m_10, m_11, m_12, m_13, m_14, m_15, m_16, m_17, m_18, m_19, m_20, m_21, m_22, m_23, m_24, m_25, m_26, m_27, m_28, m_29, m_30, m_31, m_32, m_33, m_34, m_35, m_36, m_37, m_38, m_39, m_40, m_41, m_42, m_43, m_44, m_45, m_46, m_47, m_48, m_49, m_50, m_51, m_52, m_53, m_54, m_55, m_56, m_57, m_58, m_59])), (w0, .inl (K 0, 5500, .inl fw))] sz)) (vp_Si (fun r : Int32 => (0 ≤ r.toInt ∧ r.toInt ≤ 1) ∧ True)) 0 0 (fun _ => False) := by
  refine Met.ofW (cc := cX12_isAsHeard) (maxL := 5) (ret := (some .boolean)) (by decide) rfl ?_
  intro p e s m args below meth c s₁ B hml hv
  obtain ⟨rfl, hsz, hP, hK, hD0, hN⟩ := hv
  have hx := B.exec
  have hb := B.bytes
  have hr := B.returns
  have hts := atoms_spec (ws := wsX12_isAsHeard) B.pre
  have hown : s.vm.findClass RX12 = some m.cls := findClass_of_methodNamed B.named
  have hlocks := B.notSynchronized
  subst hsz
  have hD := hD0
  have hP : va_P D vwCl [(m0, .inr (12, [m_0, m_1, m_2, .ref w0, m_4, m_5, m_6, m_7, m_8, m_9, m_10, m_11, m_12, m_13, m_14, m_15, m_16, m_17, m_18, m_19, m_20, m_21, m_22, m_23, m_24, m_25, m_26, m_27, m_28, m_29, m_30, m_31, m_32, m_33, m_34, m_35, m_36, m_37, m_38, m_39, m_40, m_41, m_42, m_43, m_44, m_45, m_46, m_47, m_48, m_49, m_50, m_51, m_52, m_53, m_54, m_55, m_56, m_57, m_58, m_59])), (w0, .inl (K 0, 5500, .inl fw))] s.heap := hP
  have hl := lv_entry [.ref m0, .int x] (n := 5) (Nat.le_of_ble_eq_true rfl)
  rw [lg_entry_eq]
  generalize (lg_sl [.ref m0, .int x] ++ List.replicate (5 - (lg_sl [.ref m0, .int x]).length) Slot.unset).toArray = ls at hl ⊢
  have hl : lv_has ls 5 [(0, .ref m0), (1, .int x)] := hl
  have hw12 : ∀ w ∈ wsX120, w ∈ wsX12_isAsHeard := fun w h => (List.mem_cons_of_mem _ (List.mem_append_right _ h))
  generalize hQ : MQ below _ _ s _ _ _ = Q
  refine lv_iconst (v := 0) hx hb dX12_isAsHeard_0 (by decide) ?_
  refine lv_istore_n (lv' := [(2, .int 0), (0, .ref m0), (1, .int x)]) hx hb dX12_isAsHeard_1 rfl hl (by decide) rfl (fun ls hl => ?_)
  refine lv_iconst (v := 0) hx hb dX12_isAsHeard_2 (by decide) ?_
  refine lv_istore_n (lv' := [(3, .int 0), (2, .int 0), (0, .ref m0), (1, .int x)]) hx hb dX12_isAsHeard_3 rfl hl (by decide) rfl (fun ls hl => ?_)
  have lp_402 : ∀ (nn_ : Nat) (v_386 : Int32) (v_387 : Int32) (hv_386 : 0 ≤ v_386.toInt ∧ v_386.toInt ≤ 6) (hn : (7 - v_386.toInt : Int).toNat < nn_) (ls : Array Slot) (hl : lv_has ls 5 [(3, .int v_386), (2, .int v_387), (0, .ref m0), (1, .int x)]), W p l e ({ frames := 1, cells := 0, slots := 0, locals := 21 }) s m (([.ref m0, .int x] : List Value).toArray) below meth c s.heap [] 0 0 Q (F0 m 4 ls []) := by
    intro nn_
    induction nn_ with
    | zero =>
      intro v_386 v_387 hv_386 hn ls hl
      exact absurd hn (Nat.not_lt_zero _)
    | succ nn_ ih_403 =>
      intro v_386 v_387 hv_386 hn ls hl
      refine lv_iload_n hx hb dX12_isAsHeard_4 rfl (lv_at hl 0 rfl) ?_
      refine lv_aload_n hx hb dX12_isAsHeard_5 rfl (lv_at hl 2 rfl) ?_
      refine va_get (ci := 12) (v := .ref w0) (C := RX12) (T := TX12) (N := 60) hx hb hts hw12 hown hK hP 0 rfl rfl 3 (by decide) (hts (.fieldLink RX12 13 "SmokeTuneModel" "row" "[I") (List.mem_cons_of_mem _ (List.mem_append_left _ (List.mem_of_getElem? (i := 0) rfl)))) (fun _ h9 => h9) rfl dX12_isAsHeard_6 ?_
      refine lv_iconst (v := 1) hx hb dX12_isAsHeard_9 (by decide) ?_
      refine va_iald hx hb hK hP 1 0 rfl rfl (i_in (x := 1) rfl (by omega)) dX12_isAsHeard_10 ?_
      refine lv_topi (fun x_404 ex_404 => ?_)
      have px_404 := RwOK.at zfw (show (1 : Int32).toInt = 1 from rfl) (show 0 ≤ 1 ∧ 1 < 100 by omega)
      rw [← ex_404] at px_404
      have hx_404 := PR.r_1 px_404 (by omega)
      refine lv_icmp_ge (tgt := 32) hx hb dX12_isAsHeard_11 (by decide) (fun c_405 => ?_) (fun c_405 => ?_)
      · have c_405i := i_le (x := x_404.toInt) (y := v_386.toInt) rfl rfl c_405
        refine lv_iconst (v := 0) hx hb dX12_isAsHeard_32 (by decide) ?_
        refine lv_istore_n (lv' := [(3, .int 0), (2, .int v_387), (0, .ref m0), (1, .int x)]) hx hb dX12_isAsHeard_33 rfl hl (by decide) rfl (fun ls hl => ?_)
        refine lv_iconst (v := 0) hx hb dX12_isAsHeard_34 (by decide) ?_
        refine lv_istore (lv' := [(4, .int 0), (3, .int 0), (2, .int v_387), (0, .ref m0), (1, .int x)]) hx hb dX12_isAsHeard_35 hl (by decide) rfl (fun ls hl => ?_)
        have lp_486 : ∀ (nn_ : Nat) (v_458 : Int32) (v_459 : Int32) (hv_458 : 0 ≤ v_458.toInt ∧ v_458.toInt ≤ 8) (hv_459 : 0 ≤ v_459.toInt ∧ v_459.toInt ≤ 127) (hn : (9 - v_458.toInt : Int).toNat < nn_) (ls : Array Slot) (hl : lv_has ls 5 [(4, .int v_458), (3, .int v_459), (2, .int v_387), (0, .ref m0), (1, .int x)]), W p l e ({ frames := 1, cells := 0, slots := 0, locals := 21 }) s m (([.ref m0, .int x] : List Value).toArray) below meth c s.heap [] 0 0 Q (F0 m 37 ls []) := by
          intro nn_
          induction nn_ with
          | zero =>
            intro v_458 v_459 hv_458 hv_459 hn ls hl
            exact absurd hn (Nat.not_lt_zero _)
          | succ nn_ ih_487 =>
            intro v_458 v_459 hv_458 hv_459 hn ls hl
            refine lv_iload hx hb dX12_isAsHeard_37 (lv_at hl 0 rfl) ?_
            refine lv_aload_n hx hb dX12_isAsHeard_39 rfl (lv_at hl 3 rfl) ?_
            refine va_get (ci := 12) (v := .ref w0) (C := RX12) (T := TX12) (N := 60) hx hb hts hw12 hown hK hP 0 rfl rfl 3 (by decide) (hts (.fieldLink RX12 13 "SmokeTuneModel" "row" "[I") (List.mem_cons_of_mem _ (List.mem_append_left _ (List.mem_of_getElem? (i := 0) rfl)))) (fun _ h9 => h9) rfl dX12_isAsHeard_40 ?_
            refine lv_iconst (v := 0) hx hb dX12_isAsHeard_43 (by decide) ?_
            refine va_iald hx hb hK hP 1 0 rfl rfl (i_in (x := 0) rfl (by omega)) dX12_isAsHeard_44 ?_
            refine lv_topi (fun x_488 ex_488 => ?_)
            have px_488 := RwOK.at zfw (show (0 : Int32).toInt = 0 from rfl) (show 0 ≤ 0 ∧ 0 < 100 by omega)
            rw [← ex_488] at px_488
            have hx_488 := PR.r_0 px_488 (by omega)
            refine lv_icmp_ge (tgt := 82) hx hb dX12_isAsHeard_45 (by decide) (fun c_489 => ?_) (fun c_489 => ?_)
            · have c_489i := i_le (x := x_488.toInt) (y := v_458.toInt) rfl rfl c_489
              refine lv_iload_n hx hb dX12_isAsHeard_82 rfl (lv_at hl 1 rfl) ?_
              refine lv_iload_n hx hb dX12_isAsHeard_83 rfl (lv_at hl 2 rfl) ?_
              refine lv_icmp_ne (tgt := 91) hx hb dX12_isAsHeard_84 (by decide) (fun c_490 => ?_) (fun c_490 => ?_)
              · have c_490i := i_ne (x := v_459.toInt) (y := v_387.toInt) rfl rfl c_490
                refine lv_iconst (v := 0) hx hb dX12_isAsHeard_91 (by decide) ?_
                rw [← hQ]
                exact W.zret (v := 0) hx hb hr (by decide) (fun t ht hW => ⟨_, rfl, ⟨(show 0 ≤ (0 : Int32).toInt ∧ (0 : Int32).toInt ≤ 1 by decide), trivial⟩, ht⟩) (fun q hq => by cases hq) dX12_isAsHeard_92
              · have c_490i := i_eq (x := v_459.toInt) (y := v_387.toInt) rfl rfl c_490
                refine lv_iconst (v := 1) hx hb dX12_isAsHeard_87 (by decide) ?_
                refine lv_goto (tgt := 92) hx hb dX12_isAsHeard_88 (by decide) ?_
                rw [← hQ]
                exact W.zret (v := 1) hx hb hr (by decide) (fun t ht hW => ⟨_, rfl, ⟨(show 0 ≤ (1 : Int32).toInt ∧ (1 : Int32).toInt ≤ 1 by decide), trivial⟩, ht⟩) (fun q hq => by cases hq) dX12_isAsHeard_92
            · have c_489i := i_nle (x := x_488.toInt) (y := v_458.toInt) rfl rfl c_489
              refine lv_iload_n hx hb dX12_isAsHeard_48 rfl (lv_at hl 1 rfl) ?_
              refine lv_iload_n hx hb dX12_isAsHeard_49 rfl (lv_at hl 4 rfl) ?_
              refine lv_iload hx hb dX12_isAsHeard_50 (lv_at hl 0 rfl) ?_
              refine pci (va_runS (As := [.int x, .int v_458]) (rest := [.int v_459]) ⟨hx, hb, hml, hown, hts⟩ (v_is l D K x v_458 s.heap.size) (va_cwS 2 hts gX12_isAsHeard_X12_is rfl rfl rfl (by decide +kernel) ⟨Nat.le_of_ble_eq_true rfl, Nat.le_of_ble_eq_true rfl⟩) (mkS hK hN (va_P.nil) (va_D.nil (A := fun _ => True))) rfl rfl hl.1 rfl (lv_room (Nat.le_of_ble_eq_true rfl)) dX12_isAsHeard_52 ⟨Nat.le_of_ble_eq_true rfl, Nat.le_of_ble_eq_true rfl⟩) (fun r_491 hw => ?_)
              obtain ⟨h_492, -⟩ := hw
              refine lv_if_eq (tgt := 73) hx hb dX12_isAsHeard_55 (by decide) (fun c_493 => ?_) (fun c_493 => ?_)
              · have c_493i := i_eq (x := r_491.toInt) (y := 0) rfl rfl c_493
                refine lv_iconst (v := 0) hx hb dX12_isAsHeard_73 (by decide) ?_
                refine lv_ior hx hb dX12_isAsHeard_74 ?_
                refine lv_topi (fun x_494 ex_494 => ?_)
                have hx_494 : 0 ≤ x_494.toInt ∧ x_494.toInt < 128 := by rw [ex_494]; exact i_or (k := 7) rfl (show (0 : Int32).toInt = 0 from rfl) (by decide) (by omega) (by omega)
                refine lv_istore_n (lv' := [(3, .int x_494), (4, .int v_458), (2, .int v_387), (0, .ref m0), (1, .int x)]) hx hb dX12_isAsHeard_75 rfl hl (by decide) rfl (fun ls hl => ?_)
                obtain ⟨x_495, ex_495⟩ : ∃ y : Int32, y = v_458 + Int32.ofInt 1 := ⟨_, rfl⟩
                have hx_495 : x_495.toInt = (v_458.toInt + 1) := by rw [ex_495]; exact i_add rfl (show (Int32.ofInt 1).toInt = 1 from rfl) (by omega)
                refine lv_iinc (v := x_495) (lv' := [(4, .int x_495), (3, .int x_494), (2, .int v_387), (0, .ref m0), (1, .int x)]) hx hb dX12_isAsHeard_76 hl (k := 1) rfl (by rw [ex_495]) (by decide) rfl (fun ls hl => ?_)
                refine lv_goto (tgt := 37) hx hb dX12_isAsHeard_79 (by decide) ?_
                exact ih_487 x_495 x_494 (by rw [hx_495]; omega) (by omega) (by omega) ls (lv_sub hl [0, 1, 2, 3, 4] rfl)
              · have c_493i := i_ne (x := r_491.toInt) (y := 0) rfl rfl c_493
                refine lv_iconst (v := 1) hx hb dX12_isAsHeard_58 (by decide) ?_
                refine lv_aload_n hx hb dX12_isAsHeard_59 rfl (lv_at hl 3 rfl) ?_
                refine va_get (ci := 12) (v := .ref w0) (C := RX12) (T := TX12) (N := 60) hx hb hts hw12 hown hK hP 0 rfl rfl 3 (by decide) (hts (.fieldLink RX12 13 "SmokeTuneModel" "row" "[I") (List.mem_cons_of_mem _ (List.mem_append_left _ (List.mem_of_getElem? (i := 0) rfl)))) (fun _ h9 => h9) rfl dX12_isAsHeard_60 ?_
                refine lv_bipush (v := 35) hx hb dX12_isAsHeard_63 (by decide) ?_
                refine lv_iload hx hb dX12_isAsHeard_65 (lv_at hl 0 rfl) ?_
                refine lv_iadd hx hb dX12_isAsHeard_67 ?_
                refine lv_topi (fun x_496 ex_496 => ?_)
                have hx_496 : x_496.toInt = (35 + v_458.toInt) := by rw [ex_496]; exact i_add (show (35 : Int32).toInt = 35 from rfl) rfl (by omega)
                refine va_iald hx hb hK hP 1 0 rfl rfl (i_in hx_496 (by omega)) dX12_isAsHeard_68 ?_
                refine lv_topi (fun x_497 ex_497 => ?_)
                have px_497 := RwOK.at zfw hx_496 (show 0 ≤ (35 + v_458.toInt) ∧ (35 + v_458.toInt) < 100 by omega)
                rw [← ex_497] at px_497
                have hx_497 := PR.r_35 px_497 (by omega)
                refine lv_ishl hx hb dX12_isAsHeard_69 ?_
                refine lv_topi (fun x_498 ex_498 => ?_)
                have hx_498 : 1 ≤ x_498.toInt ∧ x_498.toInt ≤ 64 := by rw [ex_498]; exact i_shl1 rfl (n := 6) (by decide) (by omega)
                refine lv_goto (tgt := 74) hx hb dX12_isAsHeard_70 (by decide) ?_
                refine lv_ior hx hb dX12_isAsHeard_74 ?_
                refine lv_topi (fun x_499 ex_499 => ?_)
                have hx_499 : 0 ≤ x_499.toInt ∧ x_499.toInt < 128 := by rw [ex_499]; exact i_or (k := 7) rfl rfl (by decide) (by omega) (by omega)
                refine lv_istore_n (lv' := [(3, .int x_499), (4, .int v_458), (2, .int v_387), (0, .ref m0), (1, .int x)]) hx hb dX12_isAsHeard_75 rfl hl (by decide) rfl (fun ls hl => ?_)
                obtain ⟨x_500, ex_500⟩ : ∃ y : Int32, y = v_458 + Int32.ofInt 1 := ⟨_, rfl⟩
                have hx_500 : x_500.toInt = (v_458.toInt + 1) := by rw [ex_500]; exact i_add rfl (show (Int32.ofInt 1).toInt = 1 from rfl) (by omega)
                refine lv_iinc (v := x_500) (lv' := [(4, .int x_500), (3, .int x_499), (2, .int v_387), (0, .ref m0), (1, .int x)]) hx hb dX12_isAsHeard_76 hl (k := 1) rfl (by rw [ex_500]) (by decide) rfl (fun ls hl => ?_)
                refine lv_goto (tgt := 37) hx hb dX12_isAsHeard_79 (by decide) ?_
                exact ih_487 x_500 x_499 (by rw [hx_500]; omega) (by omega) (by omega) ls (lv_sub hl [0, 1, 2, 3, 4] rfl)
        exact lp_486 ((9 - (0 : Int32).toInt : Int).toNat + 1) 0 0 (by decide) (by decide) (Nat.lt_succ_self _) ls (lv_sub hl [0, 1, 2, 3, 4] rfl)
      · have c_405i := i_nle (x := x_404.toInt) (y := v_386.toInt) rfl rfl c_405
        refine lv_iload_n hx hb dX12_isAsHeard_14 rfl (lv_at hl 1 rfl) ?_
        refine lv_aload_n hx hb dX12_isAsHeard_15 rfl (lv_at hl 2 rfl) ?_
        refine va_get (ci := 12) (v := .ref w0) (C := RX12) (T := TX12) (N := 60) hx hb hts hw12 hown hK hP 0 rfl rfl 3 (by decide) (hts (.fieldLink RX12 13 "SmokeTuneModel" "row" "[I") (List.mem_cons_of_mem _ (List.mem_append_left _ (List.mem_of_getElem? (i := 0) rfl)))) (fun _ h9 => h9) rfl dX12_isAsHeard_16 ?_
        refine lv_bipush (v := 91) hx hb dX12_isAsHeard_19 (by decide) ?_
        refine lv_iload_n hx hb dX12_isAsHeard_21 rfl (lv_at hl 0 rfl) ?_
        refine lv_iadd hx hb dX12_isAsHeard_22 ?_
        refine lv_topi (fun x_501 ex_501 => ?_)
        have hx_501 : x_501.toInt = (91 + v_386.toInt) := by rw [ex_501]; exact i_add (show (91 : Int32).toInt = 91 from rfl) rfl (by omega)
        refine va_iald hx hb hK hP 1 0 rfl rfl (i_in hx_501 (by omega)) dX12_isAsHeard_23 ?_
        refine lv_topi (fun x_502 ex_502 => ?_)
        have px_502 := RwOK.at zfw hx_501 (show 0 ≤ (91 + v_386.toInt) ∧ (91 + v_386.toInt) < 100 by omega)
        rw [← ex_502] at px_502
        refine lv_ior hx hb dX12_isAsHeard_24 ?_
        refine lv_topi (fun x_503 ex_503 => ?_)
        refine lv_istore_n (lv' := [(2, .int x_503), (3, .int v_386), (0, .ref m0), (1, .int x)]) hx hb dX12_isAsHeard_25 rfl hl (by decide) rfl (fun ls hl => ?_)
        obtain ⟨x_504, ex_504⟩ : ∃ y : Int32, y = v_386 + Int32.ofInt 1 := ⟨_, rfl⟩
        have hx_504 : x_504.toInt = (v_386.toInt + 1) := by rw [ex_504]; exact i_add rfl (show (Int32.ofInt 1).toInt = 1 from rfl) (by omega)
        refine lv_iinc (v := x_504) (lv' := [(3, .int x_504), (2, .int x_503), (0, .ref m0), (1, .int x)]) hx hb dX12_isAsHeard_26 hl (k := 1) rfl (by rw [ex_504]) (by decide) rfl (fun ls hl => ?_)
        refine lv_goto (tgt := 4) hx hb dX12_isAsHeard_29 (by decide) ?_
        exact ih_403 x_504 x_503 (by rw [hx_504]; omega) (by omega) ls (lv_sub hl [0, 1, 2, 3] rfl)
  exact lp_402 ((7 - (0 : Int32).toInt : Int).toNat + 1) 0 0 (by decide) (Nat.lt_succ_self _) ls (lv_sub hl [0, 1, 2, 3] rfl)
set_option maxHeartbeats 4000000 in
set_option maxRecDepth 100000 in
theorem v_hill (l : Launch) (D : va_G) (K : Nat → ClassId) (m0 : Nat) (x : Int32) (thr : Int32) (m_1 : Value) (m_2 : Value) (w0 : Nat) (m_4 : Value) (m_5 : Value) (m_6 : Value) (m_7 : Value) (m_8 : Value) (m_9 : Value) (m_10 : Value) (m_11 : Value) (m_12 : Value) (m_13 : Value) (m_14 : Value) (m_15 : Value) (m_16 : Value) (m_17 : Value) (m_18 : Value) (m_19 : Value) (m_20 : Value) (m_21 : Value) (m_22 : Value) (m_23 : Value) (m_24 : Value) (m_25 : Value) (m_26 : Value) (m_27 : Value) (m_28 : Value) (m_29 : Value) (m_30 : Value) (m_31 : Value) (m_32 : Value) (m_33 : Value) (m_34 : Value) (m_35 : Value) (m_36 : Value) (m_37 : Value) (m_38 : Value) (m_39 : Value) (m_40 : Value) (m_41 : Value) (m_42 : Value) (m_43 : Value) (m_44 : Value) (m_45 : Value) (m_46 : Value) (m_47 : Value) (m_48 : Value) (m_49 : Value) (m_50 : Value) (m_51 : Value) (m_52 : Value) (m_53 : Value) (m_54 : Value) (m_55 : Value) (m_56 : Value) (m_57 : Value) (m_58 : Value) (m_59 : Value) (fw : Nat → Int32) (sz : Nat) (zfw : RwOK fw) : Met l yX12_hill wsX12_hill ({ frames := 2, cells := 0, slots := 0, locals := 45 }) (va_Pc [.ref m0, .int x] (Pre D K [(m0, .inr (12, [.int thr, m_1, m_2, .ref w0, m_4, m_5, m_6, m_7, m_8, m_9, m_10, m_11, m_12, m_13, m_14, m_15, m_16, m_17, m_18, m_19, m_20, m_21, m_22, m_23, m_24, m_25, m_26, m_27, m_28, m_29, m_30, m_31, m_32, m_33, m_34, m_35, m_36, m_37, m_38, m_39, m_40, m_41, m_42, m_43, m_44, m_45, m_46, m_47, m_48, m_49, m_50, m_51, m_52, m_53, m_54, m_55, m_56, m_57, m_58, m_59])), (w0, .inl (K 0, 5500, .inl fw))] sz)) (va_Qi (S := Su) (fun (r : Int32) (u : Su) => True) (fun u t => Wd D (va_A [(m0, .inr (12, [.int thr, m_1, m_2, .ref w0, m_4, m_5, m_6, m_7, m_8, m_9, m_10, m_11, m_12, m_13, m_14, m_15, m_16, m_17, m_18, m_19, m_20, m_21, m_22, m_23, m_24, m_25, m_26, m_27, m_28, m_29, m_30, m_31, m_32, m_33, m_34, m_35, m_36, m_37, m_38, m_39, m_40, m_41, m_42, m_43, m_44, m_45, m_46, m_47, m_48, m_49, m_50, m_51, m_52, m_53, m_54, m_55, m_56, m_57, m_58, m_59])), (w0, .inl (K 0, 5500, .inl fw))] sz) ((fun u => [(m0, .inr (12, [.int 0, m_1, m_2, .ref w0, m_4, m_5, m_6, m_7, m_8, m_9, m_10, m_11, m_12, m_13, m_14, m_15, m_16, m_17, m_18, m_19, m_20, m_21, m_22, m_23, m_24, m_25, m_26, m_27, m_28, m_29, m_30, m_31, m_32, m_33, m_34, m_35, m_36, m_37, m_38, m_39, m_40, m_41, m_42, m_43, m_44, m_45, m_46, m_47, m_48, m_49, m_50, m_51, m_52, m_53, m_54, m_55, m_56, m_57, m_58, m_59])), (w0, .inl (K 0, 5500, .inl fw))]) u) t) (va_A [(m0, .inr (12, [.int thr, m_1, m_2, .ref w0, m_4, m_5, m_6, m_7, m_8, m_9, m_10, m_11, m_12, m_13, m_14, m_15, m_16, m_17, m_18, m_19, m_20, m_21, m_22, m_23, m_24, m_25, m_26, m_27, m_28, m_29, m_30, m_31, m_32, m_33, m_34, m_35, m_36, m_37, m_38, m_39, m_40, m_41, m_42, m_43, m_44, m_45, m_46, m_47, m_48, m_49, m_50, m_51, m_52, m_53, m_54, m_55, m_56, m_57, m_58, m_59])), (w0, .inl (K 0, 5500, .inl fw))] sz)) 0 0 (va_A [(m0, .inr (12, [.int thr, m_1, m_2, .ref w0, m_4, m_5, m_6, m_7, m_8, m_9, m_10, m_11, m_12, m_13, m_14, m_15, m_16, m_17, m_18, m_19, m_20, m_21, m_22, m_23, m_24, m_25, m_26, m_27, m_28, m_29, m_30, m_31, m_32, m_33, m_34, m_35, m_36, m_37, m_38, m_39, m_40, m_41, m_42, m_43, m_44, m_45, m_46, m_47, m_48, m_49, m_50, m_51, m_52, m_53, m_54, m_55, m_56, m_57, m_58, m_59])), (w0, .inl (K 0, 5500, .inl fw))] sz) := by
  refine Met.ofW (cc := cX12_hill) (maxL := 5) (ret := (some .int)) (by decide) rfl ?_
  intro p e s m args below meth c s₁ B hml hv
  obtain ⟨rfl, hsz, hP, hK, hD0, hN⟩ := hv
  have hx := B.exec
  have hb := B.bytes
  have hr := B.returns
  have hts := atoms_spec (ws := wsX12_hill) B.pre
  have hown : s.vm.findClass RX12 = some m.cls := findClass_of_methodNamed B.named
  have hlocks := B.notSynchronized
  subst hsz
  have hD := hD0.self (sz := s.heap.size)
  generalize hAe : va_A [(m0, .inr (12, [.int thr, m_1, m_2, .ref w0, m_4, m_5, m_6, m_7, m_8, m_9, m_10, m_11, m_12, m_13, m_14, m_15, m_16, m_17, m_18, m_19, m_20, m_21, m_22, m_23, m_24, m_25, m_26, m_27, m_28, m_29, m_30, m_31, m_32, m_33, m_34, m_35, m_36, m_37, m_38, m_39, m_40, m_41, m_42, m_43, m_44, m_45, m_46, m_47, m_48, m_49, m_50, m_51, m_52, m_53, m_54, m_55, m_56, m_57, m_58, m_59])), (w0, .inl (K 0, 5500, .inl fw))] s.heap.size = A at hD ⊢
  have hA : ∀ q : Nat, s.heap.size ≤ q → A q := fun q h => by rw [← hAe]; exact Or.inr h
  have hS : va_S A s.heap s.heap [] := va_S.rf
  have hP : va_P D vwCl [(m0, .inr (12, [.int thr, m_1, m_2, .ref w0, m_4, m_5, m_6, m_7, m_8, m_9, m_10, m_11, m_12, m_13, m_14, m_15, m_16, m_17, m_18, m_19, m_20, m_21, m_22, m_23, m_24, m_25, m_26, m_27, m_28, m_29, m_30, m_31, m_32, m_33, m_34, m_35, m_36, m_37, m_38, m_39, m_40, m_41, m_42, m_43, m_44, m_45, m_46, m_47, m_48, m_49, m_50, m_51, m_52, m_53, m_54, m_55, m_56, m_57, m_58, m_59])), (w0, .inl (K 0, 5500, .inl fw))] s.heap := hP
  have hl := lv_entry [.ref m0, .int x] (n := 5) (Nat.le_of_ble_eq_true rfl)
  rw [lg_entry_eq]
  generalize (lg_sl [.ref m0, .int x] ++ List.replicate (5 - (lg_sl [.ref m0, .int x]).length) Slot.unset).toArray = ls at hl ⊢
  have hl : lv_has ls 5 [(0, .ref m0), (1, .int x)] := hl
  have hw12 : ∀ w ∈ wsX120, w ∈ wsX12_hill := fun w h => (List.mem_cons_of_mem _ (List.mem_append_right _ h))
  generalize hQ : MQ below _ _ s _ _ _ = Q
  refine lv_aload_n hx hb dX12_hill_0 rfl (lv_at hl 0 rfl) ?_
  refine lv_iconst (v := 0) hx hb dX12_hill_1 (by decide) ?_
  refine va_put (ci := 12) (v := .int 0) (ty := .int) (C := RX12) (T := TX12) (N := 60) hx hb hts hw12 tyX12 tyX12_ok nmX12 hown hK hP hD hS 0 rfl rfl 0 (by decide) (hts (.fieldLink RX12 158 "SmokeTuneModel" "thrown" "I") (List.mem_cons_of_mem _ (List.mem_append_left _ (List.mem_of_getElem? (i := 0) rfl)))) (fun _ h9 => h9) rfl (by decide +kernel) (by first | rfl | decide) (by first | rfl | decide) (Nat.le_of_ble_eq_true rfl) dX12_hill_2 (fun H locs hP hD hS => ?_)
  have hP : va_P D vwCl [(m0, .inr (12, [.int 0, m_1, m_2, .ref w0, m_4, m_5, m_6, m_7, m_8, m_9, m_10, m_11, m_12, m_13, m_14, m_15, m_16, m_17, m_18, m_19, m_20, m_21, m_22, m_23, m_24, m_25, m_26, m_27, m_28, m_29, m_30, m_31, m_32, m_33, m_34, m_35, m_36, m_37, m_38, m_39, m_40, m_41, m_42, m_43, m_44, m_45, m_46, m_47, m_48, m_49, m_50, m_51, m_52, m_53, m_54, m_55, m_56, m_57, m_58, m_59])), (w0, .inl (K 0, 5500, .inl fw))] H := hP
  have hD : va_D A [(m0, .inr (12, [.int 0, m_1, m_2, .ref w0, m_4, m_5, m_6, m_7, m_8, m_9, m_10, m_11, m_12, m_13, m_14, m_15, m_16, m_17, m_18, m_19, m_20, m_21, m_22, m_23, m_24, m_25, m_26, m_27, m_28, m_29, m_30, m_31, m_32, m_33, m_34, m_35, m_36, m_37, m_38, m_39, m_40, m_41, m_42, m_43, m_44, m_45, m_46, m_47, m_48, m_49, m_50, m_51, m_52, m_53, m_54, m_55, m_56, m_57, m_58, m_59])), (w0, .inl (K 0, 5500, .inl fw))] := hD
  refine lv_iconst (v := 0) hx hb dX12_hill_5 (by decide) ?_
  refine lv_istore_n (lv' := [(2, .int 0), (0, .ref m0), (1, .int x)]) hx hb dX12_hill_6 rfl hl (by decide) rfl (fun ls hl => ?_)
  refine lv_iconst (v := (-1)) hx hb dX12_hill_7 (by decide) ?_
  refine lv_istore_n (lv' := [(3, .int (-1)), (2, .int 0), (0, .ref m0), (1, .int x)]) hx hb dX12_hill_8 rfl hl (by decide) rfl (fun ls hl => ?_)
  refine lv_iconst (v := 0) hx hb dX12_hill_9 (by decide) ?_
  refine lv_istore (lv' := [(4, .int 0), (3, .int (-1)), (2, .int 0), (0, .ref m0), (1, .int x)]) hx hb dX12_hill_10 hl (by decide) rfl (fun ls hl => ?_)
  have lp_517 : ∀ (nn_ : Nat) (v_475 : Int32) (v_476 : Int32) (v_477 : Int32) (hv_475 : 0 ≤ v_475.toInt ∧ v_475.toInt ≤ 256) (hv_476 : (-1) ≤ v_476.toInt) (hn : (257 - v_475.toInt : Int).toNat < nn_) (H : Heap) (locs : List Loc) (hP : va_P D vwCl [(m0, .inr (12, [.int 0, m_1, m_2, .ref w0, m_4, m_5, m_6, m_7, m_8, m_9, m_10, m_11, m_12, m_13, m_14, m_15, m_16, m_17, m_18, m_19, m_20, m_21, m_22, m_23, m_24, m_25, m_26, m_27, m_28, m_29, m_30, m_31, m_32, m_33, m_34, m_35, m_36, m_37, m_38, m_39, m_40, m_41, m_42, m_43, m_44, m_45, m_46, m_47, m_48, m_49, m_50, m_51, m_52, m_53, m_54, m_55, m_56, m_57, m_58, m_59])), (w0, .inl (K 0, 5500, .inl fw))] H) (hD : va_D A [(m0, .inr (12, [.int 0, m_1, m_2, .ref w0, m_4, m_5, m_6, m_7, m_8, m_9, m_10, m_11, m_12, m_13, m_14, m_15, m_16, m_17, m_18, m_19, m_20, m_21, m_22, m_23, m_24, m_25, m_26, m_27, m_28, m_29, m_30, m_31, m_32, m_33, m_34, m_35, m_36, m_37, m_38, m_39, m_40, m_41, m_42, m_43, m_44, m_45, m_46, m_47, m_48, m_49, m_50, m_51, m_52, m_53, m_54, m_55, m_56, m_57, m_58, m_59])), (w0, .inl (K 0, 5500, .inl fw))]) (hS : va_S A s.heap H locs) (ls : Array Slot) (hl : lv_has ls 5 [(4, .int v_475), (3, .int v_476), (2, .int v_477), (0, .ref m0), (1, .int x)]), W p l e ({ frames := 2, cells := 0, slots := 0, locals := 45 }) s m (([.ref m0, .int x] : List Value).toArray) below meth c H locs 0 0 Q (F0 m 12 ls []) := by
    intro nn_
    induction nn_ with
    | zero =>
      intro v_475 v_476 v_477 hv_475 hv_476 hn H locs hP hD hS ls hl
      exact absurd hn (Nat.not_lt_zero _)
    | succ nn_ ih_518 =>
      intro v_475 v_476 v_477 hv_475 hv_476 hn H locs hP hD hS ls hl
      refine lv_iload hx hb dX12_hill_12 (lv_at hl 0 rfl) ?_
      refine lv_iconst (v := 1) hx hb dX12_hill_14 (by decide) ?_
      refine lv_aload_n hx hb dX12_hill_15 rfl (lv_at hl 3 rfl) ?_
      refine va_get (ci := 12) (v := .ref w0) (C := RX12) (T := TX12) (N := 60) hx hb hts hw12 hown hK hP 0 rfl rfl 3 (by decide) (hts (.fieldLink RX12 13 "SmokeTuneModel" "row" "[I") (List.mem_cons_of_mem _ (List.mem_append_left _ (List.mem_of_getElem? (i := 1) rfl)))) (fun _ h9 => h9) rfl dX12_hill_16 ?_
      refine lv_iconst (v := 0) hx hb dX12_hill_19 (by decide) ?_
      refine va_iald hx hb hK hP 1 0 rfl rfl (i_in (x := 0) rfl (by omega)) dX12_hill_20 ?_
      refine lv_topi (fun x_519 ex_519 => ?_)
      have px_519 := RwOK.at zfw (show (0 : Int32).toInt = 0 from rfl) (show 0 ≤ 0 ∧ 0 < 100 by omega)
      rw [← ex_519] at px_519
      have hx_519 := PR.r_0 px_519 (by omega)
      refine lv_ishl hx hb dX12_hill_21 ?_
      refine lv_topi (fun x_520 ex_520 => ?_)
      have hx_520 : 1 ≤ x_520.toInt ∧ x_520.toInt ≤ 256 := by rw [ex_520]; exact i_shl1 rfl (n := 8) (by decide) (by omega)
      refine lv_icmp_ge (tgt := 55) hx hb dX12_hill_22 (by decide) (fun c_521 => ?_) (fun c_521 => ?_)
      · have c_521i := i_le (x := x_520.toInt) (y := v_475.toInt) rfl rfl c_521
        refine lv_iload_n hx hb dX12_hill_55 rfl (lv_at hl 4 rfl) ?_
        refine lv_iconst (v := (-1)) hx hb dX12_hill_56 (by decide) ?_
        refine lv_icmp_ne (tgt := 64) hx hb dX12_hill_57 (by decide) (fun c_522 => ?_) (fun c_522 => ?_)
        · have c_522i := i_ne (x := x.toInt) (y := (-1)) rfl rfl c_522
          refine lv_iload_n hx hb dX12_hill_64 rfl (lv_at hl 1 rfl) ?_
          rw [← hQ]
          have hP9 := hP.sub (ws' := [(m0, .inr (12, [.int 0, m_1, m_2, .ref w0, m_4, m_5, m_6, m_7, m_8, m_9, m_10, m_11, m_12, m_13, m_14, m_15, m_16, m_17, m_18, m_19, m_20, m_21, m_22, m_23, m_24, m_25, m_26, m_27, m_28, m_29, m_30, m_31, m_32, m_33, m_34, m_35, m_36, m_37, m_38, m_39, m_40, m_41, m_42, m_43, m_44, m_45, m_46, m_47, m_48, m_49, m_50, m_51, m_52, m_53, m_54, m_55, m_56, m_57, m_58, m_59])), (w0, .inl (K 0, 5500, .inl fw))]) [0, 1] rfl
          have hD9 := hD.sub (ws' := [(m0, .inr (12, [.int 0, m_1, m_2, .ref w0, m_4, m_5, m_6, m_7, m_8, m_9, m_10, m_11, m_12, m_13, m_14, m_15, m_16, m_17, m_18, m_19, m_20, m_21, m_22, m_23, m_24, m_25, m_26, m_27, m_28, m_29, m_30, m_31, m_32, m_33, m_34, m_35, m_36, m_37, m_38, m_39, m_40, m_41, m_42, m_43, m_44, m_45, m_46, m_47, m_48, m_49, m_50, m_51, m_52, m_53, m_54, m_55, m_56, m_57, m_58, m_59])), (w0, .inl (K 0, 5500, .inl fw))]) [0, 1] (by decide) rfl
          exact W.iret (v := v_476) hx hb hr (fun t ht hW => ⟨⟨v_476, ((fun _ => 0, fun _ => fun _ => 0, fun _ => fun _ => 0, fun _ => 0, fun _ => 0, fun _ => fun _ => none) : Su), rfl, trivial, (⟨by rw [ht]; exact hP9, hD9⟩ : Wd D A _ t)⟩, hS.F ht⟩) hS.2.2 dX12_hill_65
        · have c_522i := i_eq (x := x.toInt) (y := (-1)) rfl rfl c_522
          refine lv_iload_n hx hb dX12_hill_60 rfl (lv_at hl 2 rfl) ?_
          refine lv_goto (tgt := 65) hx hb dX12_hill_61 (by decide) ?_
          rw [← hQ]
          have hP9 := hP.sub (ws' := [(m0, .inr (12, [.int 0, m_1, m_2, .ref w0, m_4, m_5, m_6, m_7, m_8, m_9, m_10, m_11, m_12, m_13, m_14, m_15, m_16, m_17, m_18, m_19, m_20, m_21, m_22, m_23, m_24, m_25, m_26, m_27, m_28, m_29, m_30, m_31, m_32, m_33, m_34, m_35, m_36, m_37, m_38, m_39, m_40, m_41, m_42, m_43, m_44, m_45, m_46, m_47, m_48, m_49, m_50, m_51, m_52, m_53, m_54, m_55, m_56, m_57, m_58, m_59])), (w0, .inl (K 0, 5500, .inl fw))]) [0, 1] rfl
          have hD9 := hD.sub (ws' := [(m0, .inr (12, [.int 0, m_1, m_2, .ref w0, m_4, m_5, m_6, m_7, m_8, m_9, m_10, m_11, m_12, m_13, m_14, m_15, m_16, m_17, m_18, m_19, m_20, m_21, m_22, m_23, m_24, m_25, m_26, m_27, m_28, m_29, m_30, m_31, m_32, m_33, m_34, m_35, m_36, m_37, m_38, m_39, m_40, m_41, m_42, m_43, m_44, m_45, m_46, m_47, m_48, m_49, m_50, m_51, m_52, m_53, m_54, m_55, m_56, m_57, m_58, m_59])), (w0, .inl (K 0, 5500, .inl fw))]) [0, 1] (by decide) rfl
          exact W.iret (v := v_477) hx hb hr (fun t ht hW => ⟨⟨v_477, ((fun _ => 0, fun _ => fun _ => 0, fun _ => fun _ => 0, fun _ => 0, fun _ => 0, fun _ => fun _ => none) : Su), rfl, trivial, (⟨by rw [ht]; exact hP9, hD9⟩ : Wd D A _ t)⟩, hS.F ht⟩) hS.2.2 dX12_hill_65
      · have c_521i := i_nle (x := x_520.toInt) (y := v_475.toInt) rfl rfl c_521
        refine lv_aload_n hx hb dX12_hill_25 rfl (lv_at hl 3 rfl) ?_
        refine lv_iload hx hb dX12_hill_26 (lv_at hl 0 rfl) ?_
        refine pci (va_runV (As := [.int v_475]) (rest := []) ⟨hx, hb, hml, hown, hts⟩ (v_isAsHeard l D K m0 v_475 (.int 0) m_1 m_2 w0 m_4 m_5 m_6 m_7 m_8 m_9 m_10 m_11 m_12 m_13 m_14 m_15 m_16 m_17 m_18 m_19 m_20 m_21 m_22 m_23 m_24 m_25 m_26 m_27 m_28 m_29 m_30 m_31 m_32 m_33 m_34 m_35 m_36 m_37 m_38 m_39 m_40 m_41 m_42 m_43 m_44 m_45 m_46 m_47 m_48 m_49 m_50 m_51 m_52 m_53 m_54 m_55 m_56 m_57 m_58 m_59 fw H.size zfw) (cwV 1 hts gX12_hill_X12_isAsHeard rfl rfl rfl (by decide +kernel) ⟨Nat.le_of_ble_eq_true rfl, Nat.le_of_ble_eq_true rfl⟩) (mkV hK hN (hP.sub [0, 1] rfl) (hD.sub [0, 1] (by decide) rfl) (ci := 12) (q0 := 0) rfl rfl) rfl rfl hl.1 rfl (lv_room (Nat.le_of_ble_eq_true rfl)) dX12_hill_28 ⟨Nat.le_of_ble_eq_true rfl, Nat.le_of_ble_eq_true rfl⟩) (fun r_523 hw => ?_)
        obtain ⟨h_524, -⟩ := hw
        have j_532 : ∀ (v_529 : Int32) (v_530 : Int32) (hv_529 : (-1) ≤ v_529.toInt) (H : Heap) (locs : List Loc) (hP : va_P D vwCl [(m0, .inr (12, [.int 0, m_1, m_2, .ref w0, m_4, m_5, m_6, m_7, m_8, m_9, m_10, m_11, m_12, m_13, m_14, m_15, m_16, m_17, m_18, m_19, m_20, m_21, m_22, m_23, m_24, m_25, m_26, m_27, m_28, m_29, m_30, m_31, m_32, m_33, m_34, m_35, m_36, m_37, m_38, m_39, m_40, m_41, m_42, m_43, m_44, m_45, m_46, m_47, m_48, m_49, m_50, m_51, m_52, m_53, m_54, m_55, m_56, m_57, m_58, m_59])), (w0, .inl (K 0, 5500, .inl fw))] H) (hD : va_D A [(m0, .inr (12, [.int 0, m_1, m_2, .ref w0, m_4, m_5, m_6, m_7, m_8, m_9, m_10, m_11, m_12, m_13, m_14, m_15, m_16, m_17, m_18, m_19, m_20, m_21, m_22, m_23, m_24, m_25, m_26, m_27, m_28, m_29, m_30, m_31, m_32, m_33, m_34, m_35, m_36, m_37, m_38, m_39, m_40, m_41, m_42, m_43, m_44, m_45, m_46, m_47, m_48, m_49, m_50, m_51, m_52, m_53, m_54, m_55, m_56, m_57, m_58, m_59])), (w0, .inl (K 0, 5500, .inl fw))]) (hS : va_S A s.heap H locs) (ls : Array Slot) (hl : lv_has ls 5 [(4, .int v_475), (3, .int v_529), (2, .int v_530), (0, .ref m0), (1, .int x)]), W p l e ({ frames := 2, cells := 0, slots := 0, locals := 45 }) s m (([.ref m0, .int x] : List Value).toArray) below meth c H locs 0 0 Q (F0 m 49 ls []) := by
          intro v_529 v_530 hv_529 H locs hP hD hS ls hl
          obtain ⟨x_533, ex_533⟩ : ∃ y : Int32, y = v_475 + Int32.ofInt 1 := ⟨_, rfl⟩
          have hx_533 : x_533.toInt = (v_475.toInt + 1) := by rw [ex_533]; exact i_add rfl (show (Int32.ofInt 1).toInt = 1 from rfl) (by omega)
          refine lv_iinc (v := x_533) (lv' := [(4, .int x_533), (3, .int v_529), (2, .int v_530), (0, .ref m0), (1, .int x)]) hx hb dX12_hill_49 hl (k := 0) rfl (by rw [ex_533]) (by decide) rfl (fun ls hl => ?_)
          refine lv_goto (tgt := 12) hx hb dX12_hill_52 (by decide) ?_
          exact ih_518 x_533 v_529 v_530 (by rw [hx_533]; omega) (by omega) (by omega) _ _ hP hD hS ls (lv_sub hl [0, 1, 2, 3, 4] rfl)
        refine lv_if_eq (tgt := 49) hx hb dX12_hill_31 (by decide) (fun c_534 => ?_) (fun c_534 => ?_)
        · have c_534i := i_eq (x := r_523.toInt) (y := 0) rfl rfl c_534
          exact j_532 v_476 v_477 (by omega) _ _ hP hD hS ls (lv_sub hl [0, 1, 2, 3, 4] rfl)
        · have c_534i := i_ne (x := r_523.toInt) (y := 0) rfl rfl c_534
          refine lv_iload_n hx hb dX12_hill_34 rfl (lv_at hl 2 rfl) ?_
          refine lv_iload_n hx hb dX12_hill_35 rfl (lv_at hl 4 rfl) ?_
          refine lv_icmp_ne (tgt := 44) hx hb dX12_hill_36 (by decide) (fun c_535 => ?_) (fun c_535 => ?_)
          · have c_535i := i_ne (x := v_477.toInt) (y := x.toInt) rfl rfl c_535
            refine lv_iload_n hx hb dX12_hill_44 rfl (lv_at hl 1 rfl) ?_
            refine lv_istore_n (lv' := [(3, .int v_476), (4, .int v_475), (2, .int v_477), (0, .ref m0), (1, .int x)]) hx hb dX12_hill_45 rfl hl (by decide) rfl (fun ls hl => ?_)
            obtain ⟨x_536, ex_536⟩ : ∃ y : Int32, y = v_477 + Int32.ofInt 1 := ⟨_, rfl⟩
            refine lv_iinc (v := x_536) (lv' := [(2, .int x_536), (3, .int v_476), (4, .int v_475), (0, .ref m0), (1, .int x)]) hx hb dX12_hill_46 hl (k := 2) rfl (by rw [ex_536]) (by decide) rfl (fun ls hl => ?_)
            exact j_532 v_476 x_536 (by omega) _ _ hP hD hS ls (lv_sub hl [2, 1, 0, 3, 4] rfl)
          · have c_535i := i_eq (x := v_477.toInt) (y := x.toInt) rfl rfl c_535
            refine lv_iload hx hb dX12_hill_39 (lv_at hl 0 rfl) ?_
            refine lv_goto (tgt := 45) hx hb dX12_hill_41 (by decide) ?_
            refine lv_istore_n (lv' := [(3, .int v_475), (4, .int v_475), (2, .int v_477), (0, .ref m0), (1, .int x)]) hx hb dX12_hill_45 rfl hl (by decide) rfl (fun ls hl => ?_)
            obtain ⟨x_537, ex_537⟩ : ∃ y : Int32, y = v_477 + Int32.ofInt 1 := ⟨_, rfl⟩
            refine lv_iinc (v := x_537) (lv' := [(2, .int x_537), (3, .int v_475), (4, .int v_475), (0, .ref m0), (1, .int x)]) hx hb dX12_hill_46 hl (k := 2) rfl (by rw [ex_537]) (by decide) rfl (fun ls hl => ?_)
            exact j_532 v_475 x_537 (by omega) _ _ hP hD hS ls (lv_sub hl [2, 1, 0, 3, 4] rfl)
  exact lp_517 ((257 - (0 : Int32).toInt : Int).toNat + 1) 0 (-1) 0 (by decide) (by decide) (Nat.lt_succ_self _) _ _ hP hD hS ls (lv_sub hl [0, 1, 2, 3, 4] rfl)
