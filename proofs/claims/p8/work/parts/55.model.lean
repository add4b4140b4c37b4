theorem dX12_goOnBy_0 : decode cX12_goOnBy 0 = .ok (.iconst 0, 1) := by decide +kernel
theorem dX12_goOnBy_1 : decode cX12_goOnBy 1 = .ok (.istore_n 2, 1) := by decide +kernel
theorem dX12_goOnBy_2 : decode cX12_goOnBy 2 = .ok (.iload_n 2, 1) := by decide +kernel
theorem dX12_goOnBy_3 : decode cX12_goOnBy 3 = .ok (.iload_n 1, 1) := by decide +kernel
theorem dX12_goOnBy_4 : decode cX12_goOnBy 4 = .ok (.if_icmp .ge 13, 3) := by decide +kernel
theorem dX12_goOnBy_7 : decode cX12_goOnBy 7 = .ok (.aload_n 0, 1) := by decide +kernel
theorem dX12_goOnBy_8 : decode cX12_goOnBy 8 = .ok (.invokevirtual 464, 3) := by decide +kernel
theorem dX12_goOnBy_11 : decode cX12_goOnBy 11 = .ok (.iinc 2 1, 3) := by decide +kernel
theorem dX12_goOnBy_14 : decode cX12_goOnBy 14 = .ok (.goto (-12), 3) := by decide +kernel
theorem dX12_goOnBy_17 : decode cX12_goOnBy 17 = .ok (.return_, 1) := by decide +kernel
theorem dX12_hear_0 : decode cX12_hear 0 = .ok (.aload_n 0, 1) := by decide +kernel
theorem dX12_hear_1 : decode cX12_hear 1 = .ok (.iconst 0, 1) := by decide +kernel
theorem dX12_hear_2 : decode cX12_hear 2 = .ok (.putfield 158, 3) := by decide +kernel
theorem dX12_hear_5 : decode cX12_hear 5 = .ok (.iload_n 1, 1) := by decide +kernel
theorem dX12_hear_6 : decode cX12_hear 6 = .ok (.i2l, 1) := by decide +kernel
theorem dX12_hear_7 : decode cX12_hear 7 = .ok (.lconst 0, 1) := by decide +kernel
theorem dX12_hear_8 : decode cX12_hear 8 = .ok (.ldc2_w 212, 3) := by decide +kernel
theorem dX12_hear_11 : decode cX12_hear 11 = .ok (.invokestatic 178, 3) := by decide +kernel
theorem dX12_hear_14 : decode cX12_hear 14 = .ok (.ifCond .ne 9, 3) := by decide +kernel
theorem dX12_hear_23 : decode cX12_hear 23 = .ok (.aload_n 0, 1) := by decide +kernel
theorem dX12_hear_24 : decode cX12_hear 24 = .ok (.getfield 13, 3) := by decide +kernel
theorem dX12_hear_27 : decode cX12_hear 27 = .ok (.iconst 1, 1) := by decide +kernel
theorem dX12_hear_28 : decode cX12_hear 28 = .ok (.iaload, 1) := by decide +kernel
theorem dX12_hear_29 : decode cX12_hear 29 = .ok (.istore_n 2, 1) := by decide +kernel
theorem dX12_hear_30 : decode cX12_hear 30 = .ok (.iload_n 2, 1) := by decide +kernel
theorem dX12_hear_31 : decode cX12_hear 31 = .ok (.bipush 6, 2) := by decide +kernel
theorem dX12_hear_33 : decode cX12_hear 33 = .ok (.if_icmp .ne 10, 3) := by decide +kernel
theorem dX12_hear_43 : decode cX12_hear 43 = .ok (.aload_n 0, 1) := by decide +kernel
theorem dX12_hear_44 : decode cX12_hear 44 = .ok (.getfield 13, 3) := by decide +kernel
theorem dX12_hear_47 : decode cX12_hear 47 = .ok (.bipush 91, 2) := by decide +kernel
theorem dX12_hear_49 : decode cX12_hear 49 = .ok (.iload_n 2, 1) := by decide +kernel
theorem dX12_hear_50 : decode cX12_hear 50 = .ok (.iadd, 1) := by decide +kernel
theorem dX12_hear_51 : decode cX12_hear 51 = .ok (.iload_n 1, 1) := by decide +kernel
theorem dX12_hear_52 : decode cX12_hear 52 = .ok (.iastore, 1) := by decide +kernel
theorem dX12_hear_53 : decode cX12_hear 53 = .ok (.aload_n 0, 1) := by decide +kernel
theorem dX12_hear_54 : decode cX12_hear 54 = .ok (.getfield 13, 3) := by decide +kernel
theorem dX12_hear_57 : decode cX12_hear 57 = .ok (.iconst 1, 1) := by decide +kernel
theorem dX12_hear_58 : decode cX12_hear 58 = .ok (.dup2, 1) := by decide +kernel
theorem dX12_hear_59 : decode cX12_hear 59 = .ok (.iaload, 1) := by decide +kernel
theorem dX12_hear_60 : decode cX12_hear 60 = .ok (.iconst 1, 1) := by decide +kernel
theorem dX12_hear_61 : decode cX12_hear 61 = .ok (.iadd, 1) := by decide +kernel
theorem dX12_hear_62 : decode cX12_hear 62 = .ok (.iastore, 1) := by decide +kernel
theorem dX12_hear_63 : decode cX12_hear 63 = .ok (.aload_n 0, 1) := by decide +kernel
theorem dX12_hear_64 : decode cX12_hear 64 = .ok (.iload_n 2, 1) := by decide +kernel
theorem dX12_hear_65 : decode cX12_hear 65 = .ok (.iconst 1, 1) := by decide +kernel
theorem dX12_hear_66 : decode cX12_hear 66 = .ok (.iadd, 1) := by decide +kernel
theorem dX12_hear_67 : decode cX12_hear 67 = .ok (.invokevirtual 171, 3) := by decide +kernel
theorem dX12_hear_70 : decode cX12_hear 70 = .ok (.ireturn, 1) := by decide +kernel
theorem dX12_hear_36 : decode cX12_hear 36 = .ok (.aload_n 0, 1) := by decide +kernel
theorem dX12_hear_37 : decode cX12_hear 37 = .ok (.bipush (-5), 2) := by decide +kernel
theorem dX12_hear_39 : decode cX12_hear 39 = .ok (.invokevirtual 171, 3) := by decide +kernel
theorem dX12_hear_42 : decode cX12_hear 42 = .ok (.ireturn, 1) := by decide +kernel
theorem dX12_hear_17 : decode cX12_hear 17 = .ok (.aload_n 0, 1) := by decide +kernel
theorem dX12_hear_18 : decode cX12_hear 18 = .ok (.iconst (-1), 1) := by decide +kernel
theorem dX12_hear_19 : decode cX12_hear 19 = .ok (.invokevirtual 171, 3) := by decide +kernel
theorem dX12_hear_22 : decode cX12_hear 22 = .ok (.ireturn, 1) := by decide +kernel
theorem dX12_forget_0 : decode cX12_forget 0 = .ok (.aload_n 0, 1) := by decide +kernel
theorem dX12_forget_1 : decode cX12_forget 1 = .ok (.iconst 0, 1) := by decide +kernel
theorem dX12_forget_2 : decode cX12_forget 2 = .ok (.putfield 158, 3) := by decide +kernel
theorem dX12_forget_5 : decode cX12_forget 5 = .ok (.aload_n 0, 1) := by decide +kernel
theorem dX12_forget_6 : decode cX12_forget 6 = .ok (.getfield 13, 3) := by decide +kernel
theorem dX12_forget_9 : decode cX12_forget 9 = .ok (.iconst 1, 1) := by decide +kernel
theorem dX12_forget_10 : decode cX12_forget 10 = .ok (.iaload, 1) := by decide +kernel
theorem dX12_forget_11 : decode cX12_forget 11 = .ok (.istore_n 1, 1) := by decide +kernel
theorem dX12_forget_12 : decode cX12_forget 12 = .ok (.aload_n 0, 1) := by decide +kernel
theorem dX12_forget_13 : decode cX12_forget 13 = .ok (.getfield 13, 3) := by decide +kernel
theorem dX12_forget_16 : decode cX12_forget 16 = .ok (.iconst 1, 1) := by decide +kernel
theorem dX12_forget_17 : decode cX12_forget 17 = .ok (.iconst 0, 1) := by decide +kernel
theorem dX12_forget_18 : decode cX12_forget 18 = .ok (.iastore, 1) := by decide +kernel
theorem dX12_forget_19 : decode cX12_forget 19 = .ok (.iload_n 1, 1) := by decide +kernel
theorem dX12_forget_20 : decode cX12_forget 20 = .ok (.ireturn, 1) := by decide +kernel
theorem dX12_isAsHeard_0 : decode cX12_isAsHeard 0 = .ok (.iconst 0, 1) := by decide +kernel
theorem dX12_isAsHeard_1 : decode cX12_isAsHeard 1 = .ok (.istore_n 2, 1) := by decide +kernel
theorem dX12_isAsHeard_2 : decode cX12_isAsHeard 2 = .ok (.iconst 0, 1) := by decide +kernel
theorem dX12_isAsHeard_3 : decode cX12_isAsHeard 3 = .ok (.istore_n 3, 1) := by decide +kernel
theorem dX12_isAsHeard_4 : decode cX12_isAsHeard 4 = .ok (.iload_n 3, 1) := by decide +kernel
theorem dX12_isAsHeard_5 : decode cX12_isAsHeard 5 = .ok (.aload_n 0, 1) := by decide +kernel
theorem dX12_isAsHeard_6 : decode cX12_isAsHeard 6 = .ok (.getfield 13, 3) := by decide +kernel
theorem dX12_isAsHeard_9 : decode cX12_isAsHeard 9 = .ok (.iconst 1, 1) := by decide +kernel
theorem dX12_isAsHeard_10 : decode cX12_isAsHeard 10 = .ok (.iaload, 1) := by decide +kernel
theorem dX12_isAsHeard_11 : decode cX12_isAsHeard 11 = .ok (.if_icmp .ge 21, 3) := by decide +kernel
theorem dX12_isAsHeard_14 : decode cX12_isAsHeard 14 = .ok (.iload_n 2, 1) := by decide +kernel
theorem dX12_isAsHeard_15 : decode cX12_isAsHeard 15 = .ok (.aload_n 0, 1) := by decide +kernel
theorem dX12_isAsHeard_16 : decode cX12_isAsHeard 16 = .ok (.getfield 13, 3) := by decide +kernel
theorem dX12_isAsHeard_19 : decode cX12_isAsHeard 19 = .ok (.bipush 91, 2) := by decide +kernel
theorem dX12_isAsHeard_21 : decode cX12_isAsHeard 21 = .ok (.iload_n 3, 1) := by decide +kernel
theorem dX12_isAsHeard_22 : decode cX12_isAsHeard 22 = .ok (.iadd, 1) := by decide +kernel
theorem dX12_isAsHeard_23 : decode cX12_isAsHeard 23 = .ok (.iaload, 1) := by decide +kernel
theorem dX12_isAsHeard_24 : decode cX12_isAsHeard 24 = .ok (.ior, 1) := by decide +kernel
theorem dX12_isAsHeard_25 : decode cX12_isAsHeard 25 = .ok (.istore_n 2, 1) := by decide +kernel
theorem dX12_isAsHeard_26 : decode cX12_isAsHeard 26 = .ok (.iinc 3 1, 3) := by decide +kernel
theorem dX12_isAsHeard_29 : decode cX12_isAsHeard 29 = .ok (.goto (-25), 3) := by decide +kernel
theorem dX12_isAsHeard_32 : decode cX12_isAsHeard 32 = .ok (.iconst 0, 1) := by decide +kernel
theorem dX12_isAsHeard_33 : decode cX12_isAsHeard 33 = .ok (.istore_n 3, 1) := by decide +kernel
theorem dX12_isAsHeard_34 : decode cX12_isAsHeard 34 = .ok (.iconst 0, 1) := by decide +kernel
theorem dX12_isAsHeard_35 : decode cX12_isAsHeard 35 = .ok (.istore 4, 2) := by decide +kernel
theorem dX12_isAsHeard_37 : decode cX12_isAsHeard 37 = .ok (.iload 4, 2) := by decide +kernel
theorem dX12_isAsHeard_39 : decode cX12_isAsHeard 39 = .ok (.aload_n 0, 1) := by decide +kernel
theorem dX12_isAsHeard_40 : decode cX12_isAsHeard 40 = .ok (.getfield 13, 3) := by decide +kernel
theorem dX12_isAsHeard_43 : decode cX12_isAsHeard 43 = .ok (.iconst 0, 1) := by decide +kernel
theorem dX12_isAsHeard_44 : decode cX12_isAsHeard 44 = .ok (.iaload, 1) := by decide +kernel
theorem dX12_isAsHeard_45 : decode cX12_isAsHeard 45 = .ok (.if_icmp .ge 37, 3) := by decide +kernel
theorem dX12_isAsHeard_48 : decode cX12_isAsHeard 48 = .ok (.iload_n 3, 1) := by decide +kernel
theorem dX12_isAsHeard_49 : decode cX12_isAsHeard 49 = .ok (.iload_n 1, 1) := by decide +kernel
theorem dX12_isAsHeard_50 : decode cX12_isAsHeard 50 = .ok (.iload 4, 2) := by decide +kernel
theorem dX12_isAsHeard_52 : decode cX12_isAsHeard 52 = .ok (.invokestatic 436, 3) := by decide +kernel
theorem dX12_isAsHeard_55 : decode cX12_isAsHeard 55 = .ok (.ifCond .eq 18, 3) := by decide +kernel
theorem dX12_isAsHeard_73 : decode cX12_isAsHeard 73 = .ok (.iconst 0, 1) := by decide +kernel
theorem dX12_isAsHeard_74 : decode cX12_isAsHeard 74 = .ok (.ior, 1) := by decide +kernel
theorem dX12_isAsHeard_75 : decode cX12_isAsHeard 75 = .ok (.istore_n 3, 1) := by decide +kernel
theorem dX12_isAsHeard_76 : decode cX12_isAsHeard 76 = .ok (.iinc 4 1, 3) := by decide +kernel
theorem dX12_isAsHeard_79 : decode cX12_isAsHeard 79 = .ok (.goto (-42), 3) := by decide +kernel
theorem dX12_isAsHeard_58 : decode cX12_isAsHeard 58 = .ok (.iconst 1, 1) := by decide +kernel
theorem dX12_isAsHeard_59 : decode cX12_isAsHeard 59 = .ok (.aload_n 0, 1) := by decide +kernel
theorem dX12_isAsHeard_60 : decode cX12_isAsHeard 60 = .ok (.getfield 13, 3) := by decide +kernel
theorem dX12_isAsHeard_63 : decode cX12_isAsHeard 63 = .ok (.bipush 35, 2) := by decide +kernel
theorem dX12_isAsHeard_65 : decode cX12_isAsHeard 65 = .ok (.iload 4, 2) := by decide +kernel
theorem dX12_isAsHeard_67 : decode cX12_isAsHeard 67 = .ok (.iadd, 1) := by decide +kernel
theorem dX12_isAsHeard_68 : decode cX12_isAsHeard 68 = .ok (.iaload, 1) := by decide +kernel
theorem dX12_isAsHeard_69 : decode cX12_isAsHeard 69 = .ok (.ishl, 1) := by decide +kernel
theorem dX12_isAsHeard_70 : decode cX12_isAsHeard 70 = .ok (.goto 4, 3) := by decide +kernel
theorem dX12_isAsHeard_82 : decode cX12_isAsHeard 82 = .ok (.iload_n 3, 1) := by decide +kernel
theorem dX12_isAsHeard_83 : decode cX12_isAsHeard 83 = .ok (.iload_n 2, 1) := by decide +kernel
theorem dX12_isAsHeard_84 : decode cX12_isAsHeard 84 = .ok (.if_icmp .ne 7, 3) := by decide +kernel
theorem dX12_isAsHeard_91 : decode cX12_isAsHeard 91 = .ok (.iconst 0, 1) := by decide +kernel
theorem dX12_isAsHeard_92 : decode cX12_isAsHeard 92 = .ok (.ireturn, 1) := by decide +kernel
theorem dX12_isAsHeard_87 : decode cX12_isAsHeard 87 = .ok (.iconst 1, 1) := by decide +kernel
theorem dX12_isAsHeard_88 : decode cX12_isAsHeard 88 = .ok (.goto 4, 3) := by decide +kernel
theorem dX12_hill_0 : decode cX12_hill 0 = .ok (.aload_n 0, 1) := by decide +kernel
theorem dX12_hill_1 : decode cX12_hill 1 = .ok (.iconst 0, 1) := by decide +kernel
theorem dX12_hill_2 : decode cX12_hill 2 = .ok (.putfield 158, 3) := by decide +kernel
theorem dX12_hill_5 : decode cX12_hill 5 = .ok (.iconst 0, 1) := by decide +kernel
theorem dX12_hill_6 : decode cX12_hill 6 = .ok (.istore_n 2, 1) := by decide +kernel
theorem dX12_hill_7 : decode cX12_hill 7 = .ok (.iconst (-1), 1) := by decide +kernel
theorem dX12_hill_8 : decode cX12_hill 8 = .ok (.istore_n 3, 1) := by decide +kernel
theorem dX12_hill_9 : decode cX12_hill 9 = .ok (.iconst 0, 1) := by decide +kernel
theorem dX12_hill_10 : decode cX12_hill 10 = .ok (.istore 4, 2) := by decide +kernel
theorem dX12_hill_12 : decode cX12_hill 12 = .ok (.iload 4, 2) := by decide +kernel
theorem dX12_hill_14 : decode cX12_hill 14 = .ok (.iconst 1, 1) := by decide +kernel
theorem dX12_hill_15 : decode cX12_hill 15 = .ok (.aload_n 0, 1) := by decide +kernel
theorem dX12_hill_16 : decode cX12_hill 16 = .ok (.getfield 13, 3) := by decide +kernel
theorem dX12_hill_19 : decode cX12_hill 19 = .ok (.iconst 0, 1) := by decide +kernel
theorem dX12_hill_20 : decode cX12_hill 20 = .ok (.iaload, 1) := by decide +kernel
theorem dX12_hill_21 : decode cX12_hill 21 = .ok (.ishl, 1) := by decide +kernel
theorem dX12_hill_22 : decode cX12_hill 22 = .ok (.if_icmp .ge 33, 3) := by decide +kernel
theorem dX12_hill_25 : decode cX12_hill 25 = .ok (.aload_n 0, 1) := by decide +kernel
theorem dX12_hill_26 : decode cX12_hill 26 = .ok (.iload 4, 2) := by decide +kernel
theorem dX12_hill_28 : decode cX12_hill 28 = .ok (.invokevirtual 515, 3) := by decide +kernel
theorem dX12_hill_31 : decode cX12_hill 31 = .ok (.ifCond .eq 18, 3) := by decide +kernel
theorem dX12_hill_34 : decode cX12_hill 34 = .ok (.iload_n 2, 1) := by decide +kernel
theorem dX12_hill_35 : decode cX12_hill 35 = .ok (.iload_n 1, 1) := by decide +kernel
theorem dX12_hill_36 : decode cX12_hill 36 = .ok (.if_icmp .ne 8, 3) := by decide +kernel
theorem dX12_hill_44 : decode cX12_hill 44 = .ok (.iload_n 3, 1) := by decide +kernel
theorem dX12_hill_45 : decode cX12_hill 45 = .ok (.istore_n 3, 1) := by decide +kernel
theorem dX12_hill_46 : decode cX12_hill 46 = .ok (.iinc 2 1, 3) := by decide +kernel
theorem dX12_hill_39 : decode cX12_hill 39 = .ok (.iload 4, 2) := by decide +kernel
theorem dX12_hill_41 : decode cX12_hill 41 = .ok (.goto 4, 3) := by decide +kernel
theorem dX12_hill_49 : decode cX12_hill 49 = .ok (.iinc 4 1, 3) := by decide +kernel
theorem dX12_hill_52 : decode cX12_hill 52 = .ok (.goto (-40), 3) := by decide +kernel
theorem dX12_hill_55 : decode cX12_hill 55 = .ok (.iload_n 1, 1) := by decide +kernel
theorem dX12_hill_56 : decode cX12_hill 56 = .ok (.iconst (-1), 1) := by decide +kernel
theorem dX12_hill_57 : decode cX12_hill 57 = .ok (.if_icmp .ne 7, 3) := by decide +kernel
theorem dX12_hill_64 : decode cX12_hill 64 = .ok (.iload_n 3, 1) := by decide +kernel
theorem dX12_hill_65 : decode cX12_hill 65 = .ok (.ireturn, 1) := by decide +kernel
theorem dX12_hill_60 : decode cX12_hill 60 = .ok (.iload_n 2, 1) := by decide +kernel
theorem dX12_hill_61 : decode cX12_hill 61 = .ok (.goto 4, 3) := by decide +kernel
theorem dX12_ask_0 : decode cX12_ask 0 = .ok (.aload_n 0, 1) := by decide +kernel
theorem dX12_ask_1 : decode cX12_ask 1 = .ok (.iconst 0, 1) := by decide +kernel
theorem dX12_ask_2 : decode cX12_ask 2 = .ok (.putfield 158, 3) := by decide +kernel
theorem dX12_ask_5 : decode cX12_ask 5 = .ok (.iload_n 1, 1) := by decide +kernel
theorem dX12_ask_6 : decode cX12_ask 6 = .ok (.i2l, 1) := by decide +kernel
theorem dX12_ask_7 : decode cX12_ask 7 = .ok (.lconst 0, 1) := by decide +kernel
theorem dX12_ask_8 : decode cX12_ask 8 = .ok (.lconst 1, 1) := by decide +kernel
theorem dX12_ask_9 : decode cX12_ask 9 = .ok (.invokestatic 178, 3) := by decide +kernel
theorem dX12_ask_12 : decode cX12_ask 12 = .ok (.ifCond .ne 5, 3) := by decide +kernel
theorem dX12_ask_17 : decode cX12_ask 17 = .ok (.iconst 0, 1) := by decide +kernel
theorem dX12_ask_18 : decode cX12_ask 18 = .ok (.istore_n 2, 1) := by decide +kernel
theorem dX12_ask_19 : decode cX12_ask 19 = .ok (.iconst 0, 1) := by decide +kernel
theorem dX12_ask_20 : decode cX12_ask 20 = .ok (.istore_n 3, 1) := by decide +kernel
theorem dX12_ask_21 : decode cX12_ask 21 = .ok (.iload_n 3, 1) := by decide +kernel
theorem dX12_ask_22 : decode cX12_ask 22 = .ok (.bipush 8, 2) := by decide +kernel
theorem dX12_ask_24 : decode cX12_ask 24 = .ok (.if_icmp .ge 16, 3) := by decide +kernel
theorem dX12_ask_27 : decode cX12_ask 27 = .ok (.aload_n 0, 1) := by decide +kernel
theorem dX12_ask_28 : decode cX12_ask 28 = .ok (.getfield 132, 3) := by decide +kernel
theorem dX12_ask_31 : decode cX12_ask 31 = .ok (.iload_n 3, 1) := by decide +kernel
theorem dX12_ask_32 : decode cX12_ask 32 = .ok (.iconst 0, 1) := by decide +kernel
theorem dX12_ask_33 : decode cX12_ask 33 = .ok (.iastore, 1) := by decide +kernel
theorem dX12_ask_34 : decode cX12_ask 34 = .ok (.iinc 3 1, 3) := by decide +kernel
theorem dX12_ask_37 : decode cX12_ask 37 = .ok (.goto (-16), 3) := by decide +kernel
theorem dX12_ask_40 : decode cX12_ask 40 = .ok (.iconst 0, 1) := by decide +kernel
theorem dX12_ask_41 : decode cX12_ask 41 = .ok (.istore_n 3, 1) := by decide +kernel
theorem dX12_ask_42 : decode cX12_ask 42 = .ok (.iload_n 3, 1) := by decide +kernel
theorem dX12_ask_43 : decode cX12_ask 43 = .ok (.iconst 1, 1) := by decide +kernel
theorem dX12_ask_44 : decode cX12_ask 44 = .ok (.aload_n 0, 1) := by decide +kernel
theorem dX12_ask_45 : decode cX12_ask 45 = .ok (.getfield 13, 3) := by decide +kernel
theorem dX12_ask_48 : decode cX12_ask 48 = .ok (.iconst 0, 1) := by decide +kernel
theorem dX12_ask_49 : decode cX12_ask 49 = .ok (.iaload, 1) := by decide +kernel
theorem dX12_ask_50 : decode cX12_ask 50 = .ok (.ishl, 1) := by decide +kernel
theorem dX12_ask_51 : decode cX12_ask 51 = .ok (.if_icmp .ge 52, 3) := by decide +kernel
theorem dX12_ask_54 : decode cX12_ask 54 = .ok (.aload_n 0, 1) := by decide +kernel
theorem dX12_ask_55 : decode cX12_ask 55 = .ok (.iload_n 3, 1) := by decide +kernel
theorem dX12_ask_56 : decode cX12_ask 56 = .ok (.invokevirtual 515, 3) := by decide +kernel
theorem dX12_ask_59 : decode cX12_ask 59 = .ok (.ifCond .eq 38, 3) := by decide +kernel
theorem dX12_ask_62 : decode cX12_ask 62 = .ok (.iinc 2 1, 3) := by decide +kernel
theorem dX12_ask_65 : decode cX12_ask 65 = .ok (.iconst 0, 1) := by decide +kernel
theorem dX12_ask_66 : decode cX12_ask 66 = .ok (.istore 4, 2) := by decide +kernel
theorem dX12_ask_68 : decode cX12_ask 68 = .ok (.iload 4, 2) := by decide +kernel
theorem dX12_ask_70 : decode cX12_ask 70 = .ok (.bipush 8, 2) := by decide +kernel
theorem dX12_ask_72 : decode cX12_ask 72 = .ok (.if_icmp .ge 25, 3) := by decide +kernel
theorem dX12_ask_75 : decode cX12_ask 75 = .ok (.aload_n 0, 1) := by decide +kernel
theorem dX12_ask_76 : decode cX12_ask 76 = .ok (.getfield 132, 3) := by decide +kernel
theorem dX12_ask_79 : decode cX12_ask 79 = .ok (.iload 4, 2) := by decide +kernel
theorem dX12_ask_81 : decode cX12_ask 81 = .ok (.dup2, 1) := by decide +kernel
theorem dX12_ask_82 : decode cX12_ask 82 = .ok (.iaload, 1) := by decide +kernel
theorem dX12_ask_83 : decode cX12_ask 83 = .ok (.iload_n 3, 1) := by decide +kernel
theorem dX12_ask_84 : decode cX12_ask 84 = .ok (.iload 4, 2) := by decide +kernel
theorem dX12_ask_86 : decode cX12_ask 86 = .ok (.ishr, 1) := by decide +kernel
theorem dX12_ask_87 : decode cX12_ask 87 = .ok (.iconst 1, 1) := by decide +kernel
theorem dX12_ask_88 : decode cX12_ask 88 = .ok (.iand, 1) := by decide +kernel
theorem dX12_ask_89 : decode cX12_ask 89 = .ok (.iadd, 1) := by decide +kernel
theorem dX12_ask_90 : decode cX12_ask 90 = .ok (.iastore, 1) := by decide +kernel
theorem dX12_ask_91 : decode cX12_ask 91 = .ok (.iinc 4 1, 3) := by decide +kernel
theorem dX12_ask_94 : decode cX12_ask 94 = .ok (.goto (-26), 3) := by decide +kernel
theorem dX12_ask_97 : decode cX12_ask 97 = .ok (.iinc 3 1, 3) := by decide +kernel
theorem dX12_ask_100 : decode cX12_ask 100 = .ok (.goto (-58), 3) := by decide +kernel
theorem dX12_ask_103 : decode cX12_ask 103 = .ok (.iconst (-1), 1) := by decide +kernel
theorem dX12_ask_104 : decode cX12_ask 104 = .ok (.istore_n 3, 1) := by decide +kernel
theorem dX12_ask_105 : decode cX12_ask 105 = .ok (.ldc_w 476, 3) := by decide +kernel
theorem dX12_ask_108 : decode cX12_ask 108 = .ok (.istore 4, 2) := by decide +kernel
theorem dX12_ask_110 : decode cX12_ask 110 = .ok (.iconst 0, 1) := by decide +kernel
theorem dX12_ask_111 : decode cX12_ask 111 = .ok (.istore 5, 2) := by decide +kernel
theorem dX12_ask_113 : decode cX12_ask 113 = .ok (.iload 5, 2) := by decide +kernel
theorem dX12_ask_115 : decode cX12_ask 115 = .ok (.aload_n 0, 1) := by decide +kernel
theorem dX12_ask_116 : decode cX12_ask 116 = .ok (.getfield 13, 3) := by decide +kernel
theorem dX12_ask_119 : decode cX12_ask 119 = .ok (.iconst 0, 1) := by decide +kernel
theorem dX12_ask_120 : decode cX12_ask 120 = .ok (.iaload, 1) := by decide +kernel
theorem dX12_ask_121 : decode cX12_ask 121 = .ok (.if_icmp .ge 83, 3) := by decide +kernel
theorem dX12_ask_124 : decode cX12_ask 124 = .ok (.iload_n 2, 1) := by decide +kernel
theorem dX12_ask_125 : decode cX12_ask 125 = .ok (.ifCond .le 79, 3) := by decide +kernel
theorem dX12_ask_128 : decode cX12_ask 128 = .ok (.aload_n 0, 1) := by decide +kernel
theorem dX12_ask_129 : decode cX12_ask 129 = .ok (.getfield 132, 3) := by decide +kernel
theorem dX12_ask_132 : decode cX12_ask 132 = .ok (.iload 5, 2) := by decide +kernel
theorem dX12_ask_134 : decode cX12_ask 134 = .ok (.iaload, 1) := by decide +kernel
theorem dX12_ask_135 : decode cX12_ask 135 = .ok (.iload_n 2, 1) := by decide +kernel
theorem dX12_ask_136 : decode cX12_ask 136 = .ok (.aload_n 0, 1) := by decide +kernel
theorem dX12_ask_137 : decode cX12_ask 137 = .ok (.getfield 132, 3) := by decide +kernel
theorem dX12_ask_140 : decode cX12_ask 140 = .ok (.iload 5, 2) := by decide +kernel
theorem dX12_ask_142 : decode cX12_ask 142 = .ok (.iaload, 1) := by decide +kernel
theorem dX12_ask_143 : decode cX12_ask 143 = .ok (.isub, 1) := by decide +kernel
theorem dX12_ask_144 : decode cX12_ask 144 = .ok (.if_icmp .le 13, 3) := by decide +kernel
theorem dX12_ask_157 : decode cX12_ask 157 = .ok (.iload_n 2, 1) := by decide +kernel
theorem dX12_ask_158 : decode cX12_ask 158 = .ok (.aload_n 0, 1) := by decide +kernel
theorem dX12_ask_159 : decode cX12_ask 159 = .ok (.getfield 132, 3) := by decide +kernel
theorem dX12_ask_162 : decode cX12_ask 162 = .ok (.iload 5, 2) := by decide +kernel
theorem dX12_ask_164 : decode cX12_ask 164 = .ok (.iaload, 1) := by decide +kernel
theorem dX12_ask_165 : decode cX12_ask 165 = .ok (.isub, 1) := by decide +kernel
theorem dX12_ask_166 : decode cX12_ask 166 = .ok (.istore 6, 2) := by decide +kernel
theorem dX12_ask_168 : decode cX12_ask 168 = .ok (.iload 6, 2) := by decide +kernel
theorem dX12_ask_170 : decode cX12_ask 170 = .ok (.iload 4, 2) := by decide +kernel
theorem dX12_ask_172 : decode cX12_ask 172 = .ok (.if_icmp .ge 8, 3) := by decide +kernel
theorem dX12_ask_180 : decode cX12_ask 180 = .ok (.iload_n 3, 1) := by decide +kernel
theorem dX12_ask_181 : decode cX12_ask 181 = .ok (.istore_n 3, 1) := by decide +kernel
theorem dX12_ask_182 : decode cX12_ask 182 = .ok (.iload 6, 2) := by decide +kernel
theorem dX12_ask_184 : decode cX12_ask 184 = .ok (.iload 4, 2) := by decide +kernel
theorem dX12_ask_186 : decode cX12_ask 186 = .ok (.if_icmp .ge 8, 3) := by decide +kernel
theorem dX12_ask_194 : decode cX12_ask 194 = .ok (.iload 4, 2) := by decide +kernel
theorem dX12_ask_196 : decode cX12_ask 196 = .ok (.istore 4, 2) := by decide +kernel
theorem dX12_ask_198 : decode cX12_ask 198 = .ok (.iinc 5 1, 3) := by decide +kernel
theorem dX12_ask_201 : decode cX12_ask 201 = .ok (.goto (-88), 3) := by decide +kernel
theorem dX12_ask_175 : decode cX12_ask 175 = .ok (.iload 5, 2) := by decide +kernel
theorem dX12_ask_177 : decode cX12_ask 177 = .ok (.goto 4, 3) := by decide +kernel
theorem dX12_ask_189 : decode cX12_ask 189 = .ok (.iload 6, 2) := by decide +kernel
theorem dX12_ask_191 : decode cX12_ask 191 = .ok (.goto 5, 3) := by decide +kernel
theorem dX12_ask_147 : decode cX12_ask 147 = .ok (.aload_n 0, 1) := by decide +kernel
theorem dX12_ask_148 : decode cX12_ask 148 = .ok (.getfield 132, 3) := by decide +kernel
theorem dX12_ask_151 : decode cX12_ask 151 = .ok (.iload 5, 2) := by decide +kernel
theorem dX12_ask_153 : decode cX12_ask 153 = .ok (.iaload, 1) := by decide +kernel
theorem dX12_ask_154 : decode cX12_ask 154 = .ok (.goto 12, 3) := by decide +kernel
theorem dX12_ask_204 : decode cX12_ask 204 = .ok (.iload_n 3, 1) := by decide +kernel
theorem dX12_ask_205 : decode cX12_ask 205 = .ok (.iconst (-1), 1) := by decide +kernel
theorem dX12_ask_206 : decode cX12_ask 206 = .ok (.if_icmp .eq 7, 3) := by decide +kernel
theorem dX12_ask_209 : decode cX12_ask 209 = .ok (.iload_n 1, 1) := by decide +kernel
theorem dX12_ask_210 : decode cX12_ask 210 = .ok (.ifCond .ne 7, 3) := by decide +kernel
theorem dX12_ask_217 : decode cX12_ask 217 = .ok (.iload 4, 2) := by decide +kernel
theorem dX12_ask_219 : decode cX12_ask 219 = .ok (.ireturn, 1) := by decide +kernel
theorem dX12_ask_213 : decode cX12_ask 213 = .ok (.iload_n 3, 1) := by decide +kernel
theorem dX12_ask_214 : decode cX12_ask 214 = .ok (.goto 5, 3) := by decide +kernel
theorem dX12_ask_15 : decode cX12_ask 15 = .ok (.iconst (-1), 1) := by decide +kernel
theorem dX12_ask_16 : decode cX12_ask 16 = .ok (.ireturn, 1) := by decide +kernel
theorem dX12_chance_0 : decode cX12_chance 0 = .ok (.aload_n 0, 1) := by decide +kernel
theorem dX12_chance_1 : decode cX12_chance 1 = .ok (.iconst 0, 1) := by decide +kernel
theorem dX12_chance_2 : decode cX12_chance 2 = .ok (.putfield 158, 3) := by decide +kernel
theorem dX12_chance_5 : decode cX12_chance 5 = .ok (.iload_n 1, 1) := by decide +kernel
theorem dX12_chance_6 : decode cX12_chance 6 = .ok (.i2l, 1) := by decide +kernel
theorem dX12_chance_7 : decode cX12_chance 7 = .ok (.lconst 0, 1) := by decide +kernel
theorem dX12_chance_8 : decode cX12_chance 8 = .ok (.ldc2_w 212, 3) := by decide +kernel
theorem dX12_chance_11 : decode cX12_chance 11 = .ok (.invokestatic 178, 3) := by decide +kernel
theorem dX12_chance_14 : decode cX12_chance 14 = .ok (.ifCond .ne 7, 3) := by decide +kernel
theorem dX12_chance_21 : decode cX12_chance 21 = .ok (.ldc2_w 518, 3) := by decide +kernel
theorem dX12_chance_24 : decode cX12_chance 24 = .ok (.lstore_n 2, 1) := by decide +kernel
theorem dX12_chance_25 : decode cX12_chance 25 = .ok (.iconst 0, 1) := by decide +kernel
theorem dX12_chance_26 : decode cX12_chance 26 = .ok (.istore 4, 2) := by decide +kernel
theorem dX12_chance_28 : decode cX12_chance 28 = .ok (.iload 4, 2) := by decide +kernel
theorem dX12_chance_30 : decode cX12_chance 30 = .ok (.bipush 7, 2) := by decide +kernel
theorem dX12_chance_32 : decode cX12_chance 32 = .ok (.if_icmp .ge 60, 3) := by decide +kernel
theorem dX12_chance_35 : decode cX12_chance 35 = .ok (.iload_n 1, 1) := by decide +kernel
theorem dX12_chance_36 : decode cX12_chance 36 = .ok (.iload 4, 2) := by decide +kernel
theorem dX12_chance_38 : decode cX12_chance 38 = .ok (.invokestatic 436, 3) := by decide +kernel
theorem dX12_chance_41 : decode cX12_chance 41 = .ok (.ifCond .eq 45, 3) := by decide +kernel
theorem dX12_chance_44 : decode cX12_chance 44 = .ok (.lload_n 2, 1) := by decide +kernel
theorem dX12_chance_45 : decode cX12_chance 45 = .ok (.lstore 5, 2) := by decide +kernel
theorem dX12_chance_47 : decode cX12_chance 47 = .ok (.aload_n 0, 1) := by decide +kernel
theorem dX12_chance_48 : decode cX12_chance 48 = .ok (.iload 4, 2) := by decide +kernel
theorem dX12_chance_50 : decode cX12_chance 50 = .ok (.invokevirtual 392, 3) := by decide +kernel
theorem dX12_chance_53 : decode cX12_chance 53 = .ok (.istore 7, 2) := by decide +kernel
theorem dX12_chance_55 : decode cX12_chance 55 = .ok (.iload 7, 2) := by decide +kernel
theorem dX12_chance_57 : decode cX12_chance 57 = .ok (.ifCond .le 24, 3) := by decide +kernel
theorem dX12_chance_60 : decode cX12_chance 60 = .ok (.lload 5, 2) := by decide +kernel
theorem dX12_chance_62 : decode cX12_chance 62 = .ok (.aload_n 0, 1) := by decide +kernel
theorem dX12_chance_63 : decode cX12_chance 63 = .ok (.iconst 4, 1) := by decide +kernel
theorem dX12_chance_64 : decode cX12_chance 64 = .ok (.invokevirtual 182, 3) := by decide +kernel
theorem dX12_chance_67 : decode cX12_chance 67 = .ok (.i2l, 1) := by decide +kernel
theorem dX12_chance_68 : decode cX12_chance 68 = .ok (.lmul, 1) := by decide +kernel
theorem dX12_chance_69 : decode cX12_chance 69 = .ok (.ldc2_w 219, 3) := by decide +kernel
theorem dX12_chance_72 : decode cX12_chance 72 = .ok (.ldiv, 1) := by decide +kernel
theorem dX12_chance_73 : decode cX12_chance 73 = .ok (.lstore 5, 2) := by decide +kernel
theorem dX12_chance_75 : decode cX12_chance 75 = .ok (.iinc 7 (-1), 3) := by decide +kernel
theorem dX12_chance_78 : decode cX12_chance 78 = .ok (.goto (-23), 3) := by decide +kernel
theorem dX12_chance_81 : decode cX12_chance 81 = .ok (.lload_n 2, 1) := by decide +kernel
theorem dX12_chance_82 : decode cX12_chance 82 = .ok (.lload 5, 2) := by decide +kernel
theorem dX12_chance_84 : decode cX12_chance 84 = .ok (.lsub, 1) := by decide +kernel
theorem dX12_chance_85 : decode cX12_chance 85 = .ok (.lstore_n 2, 1) := by decide +kernel
theorem dX12_chance_86 : decode cX12_chance 86 = .ok (.iinc 4 1, 3) := by decide +kernel
theorem dX12_chance_89 : decode cX12_chance 89 = .ok (.goto (-61), 3) := by decide +kernel
theorem dX12_chance_92 : decode cX12_chance 92 = .ok (.lload_n 2, 1) := by decide +kernel
theorem dX12_chance_93 : decode cX12_chance 93 = .ok (.lreturn, 1) := by decide +kernel
theorem dX12_chance_17 : decode cX12_chance 17 = .ok (.ldc2_w 266, 3) := by decide +kernel
theorem dX12_chance_20 : decode cX12_chance 20 = .ok (.lreturn, 1) := by decide +kernel
theorem dX12_compare_0 : decode cX12_compare 0 = .ok (.aload_n 0, 1) := by decide +kernel
theorem dX12_compare_1 : decode cX12_compare 1 = .ok (.iconst 0, 1) := by decide +kernel
theorem dX12_compare_2 : decode cX12_compare 2 = .ok (.putfield 158, 3) := by decide +kernel
theorem dX12_compare_5 : decode cX12_compare 5 = .ok (.aload_n 0, 1) := by decide +kernel
theorem dX12_compare_6 : decode cX12_compare 6 = .ok (.iload_n 1, 1) := by decide +kernel
theorem dX12_compare_7 : decode cX12_compare 7 = .ok (.invokevirtual 383, 3) := by decide +kernel
theorem dX12_compare_10 : decode cX12_compare 10 = .ok (.ifCond .eq 15, 3) := by decide +kernel
theorem dX12_compare_13 : decode cX12_compare 13 = .ok (.iload_n 2, 1) := by decide +kernel
theorem dX12_compare_14 : decode cX12_compare 14 = .ok (.i2l, 1) := by decide +kernel
theorem dX12_compare_15 : decode cX12_compare 15 = .ok (.lconst 1, 1) := by decide +kernel
theorem dX12_compare_16 : decode cX12_compare 16 = .ok (.ldc2_w 520, 3) := by decide +kernel
theorem dX12_compare_19 : decode cX12_compare 19 = .ok (.invokestatic 178, 3) := by decide +kernel
theorem dX12_compare_22 : decode cX12_compare 22 = .ok (.ifCond .ne 5, 3) := by decide +kernel
theorem dX12_compare_27 : decode cX12_compare 27 = .ok (.aload_n 0, 1) := by decide +kernel
theorem dX12_compare_28 : decode cX12_compare 28 = .ok (.bipush 16, 2) := by decide +kernel
theorem dX12_compare_30 : decode cX12_compare 30 = .ok (.invokevirtual 167, 3) := by decide +kernel
theorem dX12_compare_33 : decode cX12_compare 33 = .ok (.iconst 0, 1) := by decide +kernel
theorem dX12_compare_34 : decode cX12_compare 34 = .ok (.istore_n 3, 1) := by decide +kernel
theorem dX12_compare_35 : decode cX12_compare 35 = .ok (.iconst 0, 1) := by decide +kernel
theorem dX12_compare_36 : decode cX12_compare 36 = .ok (.istore 4, 2) := by decide +kernel
theorem dX12_compare_38 : decode cX12_compare 38 = .ok (.iload 4, 2) := by decide +kernel
theorem dX12_compare_40 : decode cX12_compare 40 = .ok (.iload_n 2, 1) := by decide +kernel
theorem dX12_compare_41 : decode cX12_compare 41 = .ok (.if_icmp .ge 96, 3) := by decide +kernel
theorem dX12_compare_44 : decode cX12_compare 44 = .ok (.iconst 0, 1) := by decide +kernel
theorem dX12_compare_45 : decode cX12_compare 45 = .ok (.istore 5, 2) := by decide +kernel
theorem dX12_compare_47 : decode cX12_compare 47 = .ok (.iload 5, 2) := by decide +kernel
theorem dX12_compare_49 : decode cX12_compare 49 = .ok (.aload_n 0, 1) := by decide +kernel
theorem dX12_compare_50 : decode cX12_compare 50 = .ok (.getfield 13, 3) := by decide +kernel
theorem dX12_compare_53 : decode cX12_compare 53 = .ok (.iconst 0, 1) := by decide +kernel
theorem dX12_compare_54 : decode cX12_compare 54 = .ok (.iaload, 1) := by decide +kernel
theorem dX12_compare_55 : decode cX12_compare 55 = .ok (.if_icmp .ge 72, 3) := by decide +kernel
theorem dX12_compare_58 : decode cX12_compare 58 = .ok (.aload_n 0, 1) := by decide +kernel
theorem dX12_compare_59 : decode cX12_compare 59 = .ok (.getfield 13, 3) := by decide +kernel
theorem dX12_compare_62 : decode cX12_compare 62 = .ok (.bipush 11, 2) := by decide +kernel
theorem dX12_compare_64 : decode cX12_compare 64 = .ok (.iload 5, 2) := by decide +kernel
theorem dX12_compare_66 : decode cX12_compare 66 = .ok (.iadd, 1) := by decide +kernel
theorem dX12_compare_67 : decode cX12_compare 67 = .ok (.iaload, 1) := by decide +kernel
theorem dX12_compare_68 : decode cX12_compare 68 = .ok (.aload_n 0, 1) := by decide +kernel
theorem dX12_compare_69 : decode cX12_compare 69 = .ok (.iconst 2, 1) := by decide +kernel
theorem dX12_compare_70 : decode cX12_compare 70 = .ok (.invokevirtual 182, 3) := by decide +kernel
theorem dX12_compare_73 : decode cX12_compare 73 = .ok (.if_icmp .ge 13, 3) := by decide +kernel
theorem dX12_compare_76 : decode cX12_compare 76 = .ok (.aload_n 0, 1) := by decide +kernel
theorem dX12_compare_77 : decode cX12_compare 77 = .ok (.iload_n 1, 1) := by decide +kernel
theorem dX12_compare_78 : decode cX12_compare 78 = .ok (.iload 5, 2) := by decide +kernel
theorem dX12_compare_80 : decode cX12_compare 80 = .ok (.invokevirtual 442, 3) := by decide +kernel
theorem dX12_compare_83 : decode cX12_compare 83 = .ok (.iinc 3 1, 3) := by decide +kernel
theorem dX12_compare_86 : decode cX12_compare 86 = .ok (.aload_n 0, 1) := by decide +kernel
theorem dX12_compare_87 : decode cX12_compare 87 = .ok (.getfield 13, 3) := by decide +kernel
theorem dX12_compare_90 : decode cX12_compare 90 = .ok (.bipush 11, 2) := by decide +kernel
theorem dX12_compare_92 : decode cX12_compare 92 = .ok (.iload 5, 2) := by decide +kernel
theorem dX12_compare_94 : decode cX12_compare 94 = .ok (.iadd, 1) := by decide +kernel
theorem dX12_compare_95 : decode cX12_compare 95 = .ok (.aload_n 0, 1) := by decide +kernel
theorem dX12_compare_96 : decode cX12_compare 96 = .ok (.getfield 13, 3) := by decide +kernel
theorem dX12_compare_99 : decode cX12_compare 99 = .ok (.bipush 11, 2) := by decide +kernel
theorem dX12_compare_101 : decode cX12_compare 101 = .ok (.iload 5, 2) := by decide +kernel
theorem dX12_compare_103 : decode cX12_compare 103 = .ok (.iadd, 1) := by decide +kernel
theorem dX12_compare_104 : decode cX12_compare 104 = .ok (.iaload, 1) := by decide +kernel
theorem dX12_compare_105 : decode cX12_compare 105 = .ok (.aload_n 0, 1) := by decide +kernel
theorem dX12_compare_106 : decode cX12_compare 106 = .ok (.iload_n 1, 1) := by decide +kernel
theorem dX12_compare_107 : decode cX12_compare 107 = .ok (.iload 5, 2) := by decide +kernel
theorem dX12_compare_109 : decode cX12_compare 109 = .ok (.invokevirtual 200, 3) := by decide +kernel
theorem dX12_compare_112 : decode cX12_compare 112 = .ok (.isub, 1) := by decide +kernel
theorem dX12_compare_113 : decode cX12_compare 113 = .ok (.i2l, 1) := by decide +kernel
theorem dX12_compare_114 : decode cX12_compare 114 = .ok (.iconst 0, 1) := by decide +kernel
theorem dX12_compare_115 : decode cX12_compare 115 = .ok (.bipush 20, 2) := by decide +kernel
theorem dX12_compare_117 : decode cX12_compare 117 = .ok (.invokestatic 419, 3) := by decide +kernel
theorem dX12_compare_120 : decode cX12_compare 120 = .ok (.iastore, 1) := by decide +kernel
theorem dX12_compare_121 : decode cX12_compare 121 = .ok (.iinc 5 1, 3) := by decide +kernel
theorem dX12_compare_124 : decode cX12_compare 124 = .ok (.goto (-77), 3) := by decide +kernel
theorem dX12_compare_127 : decode cX12_compare 127 = .ok (.aload_n 0, 1) := by decide +kernel
theorem dX12_compare_128 : decode cX12_compare 128 = .ok (.invokevirtual 464, 3) := by decide +kernel
theorem dX12_compare_131 : decode cX12_compare 131 = .ok (.iinc 4 1, 3) := by decide +kernel
theorem dX12_compare_134 : decode cX12_compare 134 = .ok (.goto (-96), 3) := by decide +kernel
theorem dX12_compare_137 : decode cX12_compare 137 = .ok (.aload_n 0, 1) := by decide +kernel
theorem dX12_compare_138 : decode cX12_compare 138 = .ok (.bipush 16, 2) := by decide +kernel
theorem dX12_compare_140 : decode cX12_compare 140 = .ok (.invokevirtual 175, 3) := by decide +kernel
theorem dX12_compare_143 : decode cX12_compare 143 = .ok (.iload_n 3, 1) := by decide +kernel
theorem dX12_compare_144 : decode cX12_compare 144 = .ok (.ireturn, 1) := by decide +kernel
theorem dX12_compare_25 : decode cX12_compare 25 = .ok (.iconst (-1), 1) := by decide +kernel
theorem dX12_compare_26 : decode cX12_compare 26 = .ok (.ireturn, 1) := by decide +kernel
theorem dX12_draw_0 : decode cX12_draw 0 = .ok (.aload_n 0, 1) := by decide +kernel
theorem dX12_draw_1 : decode cX12_draw 1 = .ok (.aload_n 0, 1) := by decide +kernel
theorem dX12_draw_2 : decode cX12_draw 2 = .ok (.getfield 553, 3) := by decide +kernel
theorem dX12_draw_5 : decode cX12_draw 5 = .ok (.ldc2_w 556, 3) := by decide +kernel
theorem dX12_draw_8 : decode cX12_draw 8 = .ok (.lmul, 1) := by decide +kernel
theorem dX12_draw_9 : decode cX12_draw 9 = .ok (.ldc2_w 558, 3) := by decide +kernel
theorem dX12_draw_12 : decode cX12_draw 12 = .ok (.ladd, 1) := by decide +kernel
theorem dX12_draw_13 : decode cX12_draw 13 = .ok (.ldc2_w 560, 3) := by decide +kernel
theorem dX12_draw_16 : decode cX12_draw 16 = .ok (.lrem, 1) := by decide +kernel
theorem dX12_draw_17 : decode cX12_draw 17 = .ok (.putfield 553, 3) := by decide +kernel
theorem dX12_draw_20 : decode cX12_draw 20 = .ok (.aload_n 0, 1) := by decide +kernel
theorem dX12_draw_21 : decode cX12_draw 21 = .ok (.getfield 553, 3) := by decide +kernel
theorem dX12_draw_24 : decode cX12_draw 24 = .ok (.iload_n 1, 1) := by decide +kernel
theorem dX12_draw_25 : decode cX12_draw 25 = .ok (.i2l, 1) := by decide +kernel
theorem dX12_draw_26 : decode cX12_draw 26 = .ok (.lrem, 1) := by decide +kernel
theorem dX12_draw_27 : decode cX12_draw 27 = .ok (.l2i, 1) := by decide +kernel
theorem dX12_draw_28 : decode cX12_draw 28 = .ok (.ireturn, 1) := by decide +kernel
theorem dX12_days_0 : decode cX12_days 0 = .ok (.aload_n 0, 1) := by decide +kernel
theorem dX12_days_1 : decode cX12_days 1 = .ok (.iconst 0, 1) := by decide +kernel
theorem dX12_days_2 : decode cX12_days 2 = .ok (.putfield 158, 3) := by decide +kernel
theorem dX12_days_5 : decode cX12_days 5 = .ok (.iload_n 1, 1) := by decide +kernel
theorem dX12_days_6 : decode cX12_days 6 = .ok (.i2l, 1) := by decide +kernel
theorem dX12_days_7 : decode cX12_days 7 = .ok (.lconst 0, 1) := by decide +kernel
theorem dX12_days_8 : decode cX12_days 8 = .ok (.ldc2_w 268, 3) := by decide +kernel
theorem dX12_days_11 : decode cX12_days 11 = .ok (.invokestatic 178, 3) := by decide +kernel
theorem dX12_days_14 : decode cX12_days 14 = .ok (.ifCond .eq 15, 3) := by decide +kernel
theorem dX12_days_17 : decode cX12_days 17 = .ok (.iload_n 2, 1) := by decide +kernel
theorem dX12_days_18 : decode cX12_days 18 = .ok (.i2l, 1) := by decide +kernel
theorem dX12_days_19 : decode cX12_days 19 = .ok (.lconst 1, 1) := by decide +kernel
theorem dX12_days_20 : decode cX12_days 20 = .ok (.ldc2_w 562, 3) := by decide +kernel
theorem dX12_days_23 : decode cX12_days 23 = .ok (.invokestatic 178, 3) := by decide +kernel
theorem dX12_days_26 : decode cX12_days 26 = .ok (.ifCond .ne 9, 3) := by decide +kernel
theorem dX12_days_35 : decode cX12_days 35 = .ok (.aload_n 0, 1) := by decide +kernel
theorem dX12_days_36 : decode cX12_days 36 = .ok (.bipush 16, 2) := by decide +kernel
theorem dX12_days_38 : decode cX12_days 38 = .ok (.invokevirtual 167, 3) := by decide +kernel
theorem dX12_days_41 : decode cX12_days 41 = .ok (.aload_n 0, 1) := by decide +kernel
theorem dX12_days_42 : decode cX12_days 42 = .ok (.iload_n 1, 1) := by decide +kernel
theorem dX12_days_43 : decode cX12_days 43 = .ok (.i2l, 1) := by decide +kernel
theorem dX12_days_44 : decode cX12_days 44 = .ok (.putfield 553, 3) := by decide +kernel
theorem dX12_days_47 : decode cX12_days 47 = .ok (.aload_n 0, 1) := by decide +kernel
theorem dX12_days_48 : decode cX12_days 48 = .ok (.getfield 13, 3) := by decide +kernel
theorem dX12_days_51 : decode cX12_days 51 = .ok (.bipush 10, 2) := by decide +kernel
theorem dX12_days_53 : decode cX12_days 53 = .ok (.iaload, 1) := by decide +kernel
theorem dX12_days_54 : decode cX12_days 54 = .ok (.istore_n 3, 1) := by decide +kernel
theorem dX12_days_55 : decode cX12_days 55 = .ok (.iconst 0, 1) := by decide +kernel
theorem dX12_days_56 : decode cX12_days 56 = .ok (.istore 4, 2) := by decide +kernel
theorem dX12_days_58 : decode cX12_days 58 = .ok (.iconst 0, 1) := by decide +kernel
theorem dX12_days_59 : decode cX12_days 59 = .ok (.istore 5, 2) := by decide +kernel
theorem dX12_days_61 : decode cX12_days 61 = .ok (.iload 5, 2) := by decide +kernel
theorem dX12_days_63 : decode cX12_days 63 = .ok (.iload_n 2, 1) := by decide +kernel
theorem dX12_days_64 : decode cX12_days 64 = .ok (.if_icmp .ge 69, 3) := by decide +kernel
theorem dX12_days_67 : decode cX12_days 67 = .ok (.aload_n 0, 1) := by decide +kernel
theorem dX12_days_68 : decode cX12_days 68 = .ok (.invokevirtual 467, 3) := by decide +kernel
theorem dX12_days_71 : decode cX12_days 71 = .ok (.ifCond .eq 62, 3) := by decide +kernel
theorem dX12_days_74 : decode cX12_days 74 = .ok (.aload_n 0, 1) := by decide +kernel
theorem dX12_days_75 : decode cX12_days 75 = .ok (.getfield 13, 3) := by decide +kernel
theorem dX12_days_78 : decode cX12_days 78 = .ok (.iconst 0, 1) := by decide +kernel
theorem dX12_days_79 : decode cX12_days 79 = .ok (.iaload, 1) := by decide +kernel
theorem dX12_days_80 : decode cX12_days 80 = .ok (.ifCond .le 30, 3) := by decide +kernel
theorem dX12_days_83 : decode cX12_days 83 = .ok (.aload_n 0, 1) := by decide +kernel
theorem dX12_days_84 : decode cX12_days 84 = .ok (.aload_n 0, 1) := by decide +kernel
theorem dX12_days_85 : decode cX12_days 85 = .ok (.getfield 13, 3) := by decide +kernel
theorem dX12_days_88 : decode cX12_days 88 = .ok (.iconst 0, 1) := by decide +kernel
theorem dX12_days_89 : decode cX12_days 89 = .ok (.iaload, 1) := by decide +kernel
theorem dX12_days_90 : decode cX12_days 90 = .ok (.invokevirtual 564, 3) := by decide +kernel
theorem dX12_days_93 : decode cX12_days 93 = .ok (.istore 6, 2) := by decide +kernel
theorem dX12_days_95 : decode cX12_days 95 = .ok (.aload_n 0, 1) := by decide +kernel
theorem dX12_days_96 : decode cX12_days 96 = .ok (.iload 6, 2) := by decide +kernel
theorem dX12_days_98 : decode cX12_days 98 = .ok (.invokevirtual 445, 3) := by decide +kernel
theorem dX12_days_101 : decode cX12_days 101 = .ok (.ifCond .eq 9, 3) := by decide +kernel
theorem dX12_days_104 : decode cX12_days 104 = .ok (.aload_n 0, 1) := by decide +kernel
theorem dX12_days_105 : decode cX12_days 105 = .ok (.iload 6, 2) := by decide +kernel
theorem dX12_days_107 : decode cX12_days 107 = .ok (.invokevirtual 451, 3) := by decide +kernel
theorem dX12_days_110 : decode cX12_days 110 = .ok (.iload 4, 2) := by decide +kernel
theorem dX12_days_112 : decode cX12_days 112 = .ok (.aload_n 0, 1) := by decide +kernel
theorem dX12_days_113 : decode cX12_days 113 = .ok (.invokevirtual 470, 3) := by decide +kernel
theorem dX12_days_116 : decode cX12_days 116 = .ok (.ifCond .eq 7, 3) := by decide +kernel
theorem dX12_days_123 : decode cX12_days 123 = .ok (.iconst 0, 1) := by decide +kernel
theorem dX12_days_124 : decode cX12_days 124 = .ok (.iadd, 1) := by decide +kernel
theorem dX12_days_125 : decode cX12_days 125 = .ok (.istore 4, 2) := by decide +kernel
theorem dX12_days_127 : decode cX12_days 127 = .ok (.iinc 5 1, 3) := by decide +kernel
theorem dX12_days_130 : decode cX12_days 130 = .ok (.goto (-69), 3) := by decide +kernel
theorem dX12_days_119 : decode cX12_days 119 = .ok (.iconst 1, 1) := by decide +kernel
theorem dX12_days_120 : decode cX12_days 120 = .ok (.goto 4, 3) := by decide +kernel
theorem dX12_days_133 : decode cX12_days 133 = .ok (.aload_n 0, 1) := by decide +kernel
theorem dX12_days_134 : decode cX12_days 134 = .ok (.aload_n 0, 1) := by decide +kernel
theorem dX12_days_135 : decode cX12_days 135 = .ok (.getfield 13, 3) := by decide +kernel
theorem dX12_days_138 : decode cX12_days 138 = .ok (.iconst 0, 1) := by decide +kernel
theorem dX12_days_139 : decode cX12_days 139 = .ok (.iaload, 1) := by decide +kernel
theorem dX12_days_140 : decode cX12_days 140 = .ok (.putfield 155, 3) := by decide +kernel
theorem dX12_days_143 : decode cX12_days 143 = .ok (.iconst 0, 1) := by decide +kernel
theorem dX12_days_144 : decode cX12_days 144 = .ok (.istore 5, 2) := by decide +kernel
theorem dX12_days_146 : decode cX12_days 146 = .ok (.iload 5, 2) := by decide +kernel
theorem dX12_days_148 : decode cX12_days 148 = .ok (.aload_n 0, 1) := by decide +kernel
theorem dX12_days_149 : decode cX12_days 149 = .ok (.getfield 155, 3) := by decide +kernel
theorem dX12_days_152 : decode cX12_days 152 = .ok (.if_icmp .ge 49, 3) := by decide +kernel
theorem dX12_days_155 : decode cX12_days 155 = .ok (.aload_n 0, 1) := by decide +kernel
theorem dX12_days_156 : decode cX12_days 156 = .ok (.getfield 152, 3) := by decide +kernel
theorem dX12_days_159 : decode cX12_days 159 = .ok (.iconst 2, 1) := by decide +kernel
theorem dX12_days_160 : decode cX12_days 160 = .ok (.iload 5, 2) := by decide +kernel
theorem dX12_days_162 : decode cX12_days 162 = .ok (.imul, 1) := by decide +kernel
theorem dX12_days_163 : decode cX12_days 163 = .ok (.aload_n 0, 1) := by decide +kernel
theorem dX12_days_164 : decode cX12_days 164 = .ok (.getfield 13, 3) := by decide +kernel
theorem dX12_days_167 : decode cX12_days 167 = .ok (.bipush 11, 2) := by decide +kernel
theorem dX12_days_169 : decode cX12_days 169 = .ok (.iload 5, 2) := by decide +kernel
theorem dX12_days_171 : decode cX12_days 171 = .ok (.iadd, 1) := by decide +kernel
theorem dX12_days_172 : decode cX12_days 172 = .ok (.iaload, 1) := by decide +kernel
theorem dX12_days_173 : decode cX12_days 173 = .ok (.iastore, 1) := by decide +kernel
theorem dX12_days_174 : decode cX12_days 174 = .ok (.aload_n 0, 1) := by decide +kernel
theorem dX12_days_175 : decode cX12_days 175 = .ok (.getfield 152, 3) := by decide +kernel
theorem dX12_days_178 : decode cX12_days 178 = .ok (.iconst 2, 1) := by decide +kernel
theorem dX12_days_179 : decode cX12_days 179 = .ok (.iload 5, 2) := by decide +kernel
theorem dX12_days_181 : decode cX12_days 181 = .ok (.imul, 1) := by decide +kernel
theorem dX12_days_182 : decode cX12_days 182 = .ok (.iconst 1, 1) := by decide +kernel
theorem dX12_days_183 : decode cX12_days 183 = .ok (.iadd, 1) := by decide +kernel
theorem dX12_days_184 : decode cX12_days 184 = .ok (.aload_n 0, 1) := by decide +kernel
theorem dX12_days_185 : decode cX12_days 185 = .ok (.getfield 13, 3) := by decide +kernel
theorem dX12_days_188 : decode cX12_days 188 = .ok (.bipush 19, 2) := by decide +kernel
theorem dX12_days_190 : decode cX12_days 190 = .ok (.iload 5, 2) := by decide +kernel
theorem dX12_days_192 : decode cX12_days 192 = .ok (.iadd, 1) := by decide +kernel
theorem dX12_days_193 : decode cX12_days 193 = .ok (.iaload, 1) := by decide +kernel
theorem dX12_days_194 : decode cX12_days 194 = .ok (.iastore, 1) := by decide +kernel
theorem dX12_days_195 : decode cX12_days 195 = .ok (.iinc 5 1, 3) := by decide +kernel
theorem dX12_days_198 : decode cX12_days 198 = .ok (.goto (-52), 3) := by decide +kernel
theorem dX12_days_201 : decode cX12_days 201 = .ok (.aload_n 0, 1) := by decide +kernel
theorem dX12_days_202 : decode cX12_days 202 = .ok (.aload_n 0, 1) := by decide +kernel
theorem dX12_days_203 : decode cX12_days 203 = .ok (.getfield 13, 3) := by decide +kernel
theorem dX12_days_206 : decode cX12_days 206 = .ok (.bipush 10, 2) := by decide +kernel
theorem dX12_days_208 : decode cX12_days 208 = .ok (.iaload, 1) := by decide +kernel
theorem dX12_days_209 : decode cX12_days 209 = .ok (.iload_n 3, 1) := by decide +kernel
theorem dX12_days_210 : decode cX12_days 210 = .ok (.isub, 1) := by decide +kernel
theorem dX12_days_211 : decode cX12_days 211 = .ok (.putfield 567, 3) := by decide +kernel
theorem dX12_days_214 : decode cX12_days 214 = .ok (.aload_n 0, 1) := by decide +kernel
theorem dX12_days_215 : decode cX12_days 215 = .ok (.bipush 16, 2) := by decide +kernel
theorem dX12_days_217 : decode cX12_days 217 = .ok (.invokevirtual 175, 3) := by decide +kernel
theorem dX12_days_220 : decode cX12_days 220 = .ok (.aload_n 0, 1) := by decide +kernel
theorem dX12_days_221 : decode cX12_days 221 = .ok (.iload 4, 2) := by decide +kernel
theorem dX12_days_223 : decode cX12_days 223 = .ok (.invokevirtual 171, 3) := by decide +kernel
theorem dX12_days_226 : decode cX12_days 226 = .ok (.ireturn, 1) := by decide +kernel
theorem dX12_days_29 : decode cX12_days 29 = .ok (.aload_n 0, 1) := by decide +kernel
theorem dX12_days_30 : decode cX12_days 30 = .ok (.iconst (-1), 1) := by decide +kernel
theorem dX12_days_31 : decode cX12_days 31 = .ok (.invokevirtual 171, 3) := by decide +kernel
theorem dX12_days_34 : decode cX12_days 34 = .ok (.ireturn, 1) := by decide +kernel
theorem dX12_drawn_0 : decode cX12_drawn 0 = .ok (.aload_n 0, 1) := by decide +kernel
theorem dX12_drawn_1 : decode cX12_drawn 1 = .ok (.iconst 0, 1) := by decide +kernel
theorem dX12_drawn_2 : decode cX12_drawn 2 = .ok (.putfield 158, 3) := by decide +kernel
theorem dX12_drawn_5 : decode cX12_drawn 5 = .ok (.aload_n 0, 1) := by decide +kernel
theorem dX12_drawn_6 : decode cX12_drawn 6 = .ok (.getfield 155, 3) := by decide +kernel
theorem dX12_drawn_9 : decode cX12_drawn 9 = .ok (.iconst (-1), 1) := by decide +kernel
theorem dX12_drawn_10 : decode cX12_drawn 10 = .ok (.if_icmp .eq 36, 3) := by decide +kernel
theorem dX12_drawn_13 : decode cX12_drawn 13 = .ok (.iload_n 2, 1) := by decide +kernel
theorem dX12_drawn_14 : decode cX12_drawn 14 = .ok (.i2l, 1) := by decide +kernel
theorem dX12_drawn_15 : decode cX12_drawn 15 = .ok (.lconst 0, 1) := by decide +kernel
theorem dX12_drawn_16 : decode cX12_drawn 16 = .ok (.ldc2_w 434, 3) := by decide +kernel
theorem dX12_drawn_19 : decode cX12_drawn 19 = .ok (.invokestatic 178, 3) := by decide +kernel
theorem dX12_drawn_22 : decode cX12_drawn 22 = .ok (.ifCond .eq 24, 3) := by decide +kernel
theorem dX12_drawn_25 : decode cX12_drawn 25 = .ok (.iload_n 2, 1) := by decide +kernel
theorem dX12_drawn_26 : decode cX12_drawn 26 = .ok (.iconst 2, 1) := by decide +kernel
theorem dX12_drawn_27 : decode cX12_drawn 27 = .ok (.if_icmp .ge 21, 3) := by decide +kernel
theorem dX12_drawn_30 : decode cX12_drawn 30 = .ok (.iload_n 1, 1) := by decide +kernel
theorem dX12_drawn_31 : decode cX12_drawn 31 = .ok (.i2l, 1) := by decide +kernel
theorem dX12_drawn_32 : decode cX12_drawn 32 = .ok (.lconst 0, 1) := by decide +kernel
theorem dX12_drawn_33 : decode cX12_drawn 33 = .ok (.aload_n 0, 1) := by decide +kernel
theorem dX12_drawn_34 : decode cX12_drawn 34 = .ok (.getfield 155, 3) := by decide +kernel
theorem dX12_drawn_37 : decode cX12_drawn 37 = .ok (.i2l, 1) := by decide +kernel
theorem dX12_drawn_38 : decode cX12_drawn 38 = .ok (.lconst 1, 1) := by decide +kernel
theorem dX12_drawn_39 : decode cX12_drawn 39 = .ok (.lsub, 1) := by decide +kernel
theorem dX12_drawn_40 : decode cX12_drawn 40 = .ok (.invokestatic 178, 3) := by decide +kernel
theorem dX12_drawn_43 : decode cX12_drawn 43 = .ok (.ifCond .ne 5, 3) := by decide +kernel
theorem dX12_drawn_48 : decode cX12_drawn 48 = .ok (.iload_n 2, 1) := by decide +kernel
theorem dX12_drawn_49 : decode cX12_drawn 49 = .ok (.iconst 2, 1) := by decide +kernel
theorem dX12_drawn_50 : decode cX12_drawn 50 = .ok (.if_icmp .ne 10, 3) := by decide +kernel
theorem dX12_drawn_60 : decode cX12_drawn 60 = .ok (.aload_n 0, 1) := by decide +kernel
theorem dX12_drawn_61 : decode cX12_drawn 61 = .ok (.getfield 152, 3) := by decide +kernel
theorem dX12_drawn_64 : decode cX12_drawn 64 = .ok (.iconst 2, 1) := by decide +kernel
theorem dX12_drawn_65 : decode cX12_drawn 65 = .ok (.iload_n 1, 1) := by decide +kernel
theorem dX12_drawn_66 : decode cX12_drawn 66 = .ok (.imul, 1) := by decide +kernel
theorem dX12_drawn_67 : decode cX12_drawn 67 = .ok (.iload_n 2, 1) := by decide +kernel
theorem dX12_drawn_68 : decode cX12_drawn 68 = .ok (.iadd, 1) := by decide +kernel
theorem dX12_drawn_69 : decode cX12_drawn 69 = .ok (.iaload, 1) := by decide +kernel
theorem dX12_drawn_70 : decode cX12_drawn 70 = .ok (.ireturn, 1) := by decide +kernel
theorem dX12_drawn_53 : decode cX12_drawn 53 = .ok (.aload_n 0, 1) := by decide +kernel
theorem dX12_drawn_54 : decode cX12_drawn 54 = .ok (.getfield 567, 3) := by decide +kernel
theorem dX12_drawn_57 : decode cX12_drawn 57 = .ok (.goto 13, 3) := by decide +kernel
theorem dX12_drawn_46 : decode cX12_drawn 46 = .ok (.iconst (-1), 1) := by decide +kernel
theorem dX12_drawn_47 : decode cX12_drawn 47 = .ok (.ireturn, 1) := by decide +kernel
theorem dX12_count_0 : decode cX12_count 0 = .ok (.aload_n 0, 1) := by decide +kernel
theorem dX12_count_1 : decode cX12_count 1 = .ok (.iconst 0, 1) := by decide +kernel
theorem dX12_count_2 : decode cX12_count 2 = .ok (.putfield 158, 3) := by decide +kernel
theorem dX12_count_5 : decode cX12_count 5 = .ok (.iconst 0, 1) := by decide +kernel
theorem dX12_count_6 : decode cX12_count 6 = .ok (.istore_n 2, 1) := by decide +kernel
theorem dX12_count_7 : decode cX12_count 7 = .ok (.iconst 0, 1) := by decide +kernel
theorem dX12_count_8 : decode cX12_count 8 = .ok (.istore_n 3, 1) := by decide +kernel
theorem dX12_count_9 : decode cX12_count 9 = .ok (.iload_n 3, 1) := by decide +kernel
theorem dX12_count_10 : decode cX12_count 10 = .ok (.aload_n 0, 1) := by decide +kernel
theorem dX12_count_11 : decode cX12_count 11 = .ok (.getfield 13, 3) := by decide +kernel
theorem dX12_count_14 : decode cX12_count 14 = .ok (.iconst 0, 1) := by decide +kernel
theorem dX12_count_15 : decode cX12_count 15 = .ok (.iaload, 1) := by decide +kernel
theorem dX12_count_16 : decode cX12_count 16 = .ok (.if_icmp .ge 25, 3) := by decide +kernel
theorem dX12_count_19 : decode cX12_count 19 = .ok (.iload_n 2, 1) := by decide +kernel
theorem dX12_count_20 : decode cX12_count 20 = .ok (.aload_n 0, 1) := by decide +kernel
theorem dX12_count_21 : decode cX12_count 21 = .ok (.iload_n 3, 1) := by decide +kernel
theorem dX12_count_22 : decode cX12_count 22 = .ok (.invokevirtual 185, 3) := by decide +kernel
theorem dX12_count_25 : decode cX12_count 25 = .ok (.ifCond .eq 7, 3) := by decide +kernel
theorem dX12_count_32 : decode cX12_count 32 = .ok (.iconst 0, 1) := by decide +kernel
theorem dX12_count_33 : decode cX12_count 33 = .ok (.iadd, 1) := by decide +kernel
theorem dX12_count_34 : decode cX12_count 34 = .ok (.istore_n 2, 1) := by decide +kernel
theorem dX12_count_35 : decode cX12_count 35 = .ok (.iinc 3 1, 3) := by decide +kernel
theorem dX12_count_38 : decode cX12_count 38 = .ok (.goto (-29), 3) := by decide +kernel
theorem dX12_count_28 : decode cX12_count 28 = .ok (.iconst 1, 1) := by decide +kernel
theorem dX12_count_29 : decode cX12_count 29 = .ok (.goto 4, 3) := by decide +kernel
theorem dX12_count_41 : decode cX12_count 41 = .ok (.iload_n 1, 1) := by decide +kernel
theorem dX12_count_42 : decode cX12_count 42 = .ok (.tableswitch 150 0 12 #[66, 73, 75, 82, 89, 94, 99, 106, 113, 120, 127, 135, 142], 66) := by decide +kernel
theorem dX12_count_108 : decode cX12_count 108 = .ok (.aload_n 0, 1) := by decide +kernel
theorem dX12_count_109 : decode cX12_count 109 = .ok (.getfield 13, 3) := by decide +kernel
theorem dX12_count_112 : decode cX12_count 112 = .ok (.iconst 0, 1) := by decide +kernel
theorem dX12_count_113 : decode cX12_count 113 = .ok (.iaload, 1) := by decide +kernel
theorem dX12_count_114 : decode cX12_count 114 = .ok (.ireturn, 1) := by decide +kernel
theorem dX12_count_115 : decode cX12_count 115 = .ok (.iload_n 2, 1) := by decide +kernel
theorem dX12_count_116 : decode cX12_count 116 = .ok (.ireturn, 1) := by decide +kernel
theorem dX12_count_117 : decode cX12_count 117 = .ok (.aload_n 0, 1) := by decide +kernel
theorem dX12_count_118 : decode cX12_count 118 = .ok (.getfield 13, 3) := by decide +kernel
theorem dX12_count_121 : decode cX12_count 121 = .ok (.iconst 1, 1) := by decide +kernel
theorem dX12_count_122 : decode cX12_count 122 = .ok (.iaload, 1) := by decide +kernel
theorem dX12_count_123 : decode cX12_count 123 = .ok (.ireturn, 1) := by decide +kernel
theorem dX12_count_124 : decode cX12_count 124 = .ok (.aload_n 0, 1) := by decide +kernel
theorem dX12_count_125 : decode cX12_count 125 = .ok (.getfield 13, 3) := by decide +kernel
theorem dX12_count_128 : decode cX12_count 128 = .ok (.iconst 2, 1) := by decide +kernel
theorem dX12_count_129 : decode cX12_count 129 = .ok (.iaload, 1) := by decide +kernel
theorem dX12_count_130 : decode cX12_count 130 = .ok (.ireturn, 1) := by decide +kernel
theorem dX12_count_131 : decode cX12_count 131 = .ok (.aload_n 0, 1) := by decide +kernel
theorem dX12_count_132 : decode cX12_count 132 = .ok (.getfield 164, 3) := by decide +kernel
theorem dX12_count_135 : decode cX12_count 135 = .ok (.ireturn, 1) := by decide +kernel
theorem dX12_count_136 : decode cX12_count 136 = .ok (.aload_n 0, 1) := by decide +kernel
theorem dX12_count_137 : decode cX12_count 137 = .ok (.getfield 227, 3) := by decide +kernel
theorem dX12_count_140 : decode cX12_count 140 = .ok (.ireturn, 1) := by decide +kernel
theorem dX12_count_141 : decode cX12_count 141 = .ok (.aload_n 0, 1) := by decide +kernel
theorem dX12_count_142 : decode cX12_count 142 = .ok (.getfield 7, 3) := by decide +kernel
theorem dX12_count_145 : decode cX12_count 145 = .ok (.iconst 1, 1) := by decide +kernel
theorem dX12_count_146 : decode cX12_count 146 = .ok (.iaload, 1) := by decide +kernel
theorem dX12_count_147 : decode cX12_count 147 = .ok (.ireturn, 1) := by decide +kernel
theorem dX12_count_148 : decode cX12_count 148 = .ok (.aload_n 0, 1) := by decide +kernel
theorem dX12_count_149 : decode cX12_count 149 = .ok (.getfield 7, 3) := by decide +kernel
theorem dX12_count_152 : decode cX12_count 152 = .ok (.iconst 2, 1) := by decide +kernel
theorem dX12_count_153 : decode cX12_count 153 = .ok (.iaload, 1) := by decide +kernel
theorem dX12_count_154 : decode cX12_count 154 = .ok (.ireturn, 1) := by decide +kernel
theorem dX12_count_155 : decode cX12_count 155 = .ok (.aload_n 0, 1) := by decide +kernel
theorem dX12_count_156 : decode cX12_count 156 = .ok (.getfield 7, 3) := by decide +kernel
theorem dX12_count_159 : decode cX12_count 159 = .ok (.iconst 3, 1) := by decide +kernel
theorem dX12_count_160 : decode cX12_count 160 = .ok (.iaload, 1) := by decide +kernel
theorem dX12_count_161 : decode cX12_count 161 = .ok (.ireturn, 1) := by decide +kernel
theorem dX12_count_162 : decode cX12_count 162 = .ok (.aload_n 0, 1) := by decide +kernel
theorem dX12_count_163 : decode cX12_count 163 = .ok (.getfield 7, 3) := by decide +kernel
theorem dX12_count_166 : decode cX12_count 166 = .ok (.iconst 5, 1) := by decide +kernel
theorem dX12_count_167 : decode cX12_count 167 = .ok (.iaload, 1) := by decide +kernel
theorem dX12_count_168 : decode cX12_count 168 = .ok (.ireturn, 1) := by decide +kernel
theorem dX12_count_169 : decode cX12_count 169 = .ok (.aload_n 0, 1) := by decide +kernel
theorem dX12_count_170 : decode cX12_count 170 = .ok (.getfield 7, 3) := by decide +kernel
theorem dX12_count_173 : decode cX12_count 173 = .ok (.bipush 6, 2) := by decide +kernel
theorem dX12_count_175 : decode cX12_count 175 = .ok (.iaload, 1) := by decide +kernel
theorem dX12_count_176 : decode cX12_count 176 = .ok (.ireturn, 1) := by decide +kernel
theorem dX12_count_177 : decode cX12_count 177 = .ok (.aload_n 0, 1) := by decide +kernel
theorem dX12_count_178 : decode cX12_count 178 = .ok (.getfield 13, 3) := by decide +kernel
theorem dX12_count_181 : decode cX12_count 181 = .ok (.iconst 3, 1) := by decide +kernel
theorem dX12_count_182 : decode cX12_count 182 = .ok (.iaload, 1) := by decide +kernel
theorem dX12_count_183 : decode cX12_count 183 = .ok (.ireturn, 1) := by decide +kernel
theorem dX12_count_184 : decode cX12_count 184 = .ok (.aload_n 0, 1) := by decide +kernel
theorem dX12_count_185 : decode cX12_count 185 = .ok (.getfield 13, 3) := by decide +kernel
theorem dX12_count_188 : decode cX12_count 188 = .ok (.bipush 10, 2) := by decide +kernel
theorem dX12_count_190 : decode cX12_count 190 = .ok (.iaload, 1) := by decide +kernel
theorem dX12_count_191 : decode cX12_count 191 = .ok (.ireturn, 1) := by decide +kernel
theorem dX12_count_192 : decode cX12_count 192 = .ok (.iload_n 1, 1) := by decide +kernel
theorem dX12_count_193 : decode cX12_count 193 = .ok (.i2l, 1) := by decide +kernel
theorem dX12_count_194 : decode cX12_count 194 = .ok (.ldc2_w 570, 3) := by decide +kernel
theorem dX12_count_197 : decode cX12_count 197 = .ok (.ldc2_w 572, 3) := by decide +kernel
theorem dX12_count_200 : decode cX12_count 200 = .ok (.invokestatic 178, 3) := by decide +kernel
theorem dX12_count_203 : decode cX12_count 203 = .ok (.ifCond .eq 17, 3) := by decide +kernel
theorem dX12_count_206 : decode cX12_count 206 = .ok (.aload_n 0, 1) := by decide +kernel
theorem dX12_count_207 : decode cX12_count 207 = .ok (.getfield 13, 3) := by decide +kernel
theorem dX12_count_210 : decode cX12_count 210 = .ok (.iconst 4, 1) := by decide +kernel
theorem dX12_count_211 : decode cX12_count 211 = .ok (.iload_n 1, 1) := by decide +kernel
theorem dX12_count_212 : decode cX12_count 212 = .ok (.iadd, 1) := by decide +kernel
theorem dX12_count_213 : decode cX12_count 213 = .ok (.bipush 13, 2) := by decide +kernel
theorem dX12_count_215 : decode cX12_count 215 = .ok (.isub, 1) := by decide +kernel
theorem dX12_count_216 : decode cX12_count 216 = .ok (.iaload, 1) := by decide +kernel
theorem dX12_count_217 : decode cX12_count 217 = .ok (.goto 4, 3) := by decide +kernel
theorem dX12_count_221 : decode cX12_count 221 = .ok (.ireturn, 1) := by decide +kernel
theorem dX12_count_220 : decode cX12_count 220 = .ok (.iconst (-1), 1) := by decide +kernel
theorem dX12_status_0 : decode cX12_status 0 = .ok (.aload_n 0, 1) := by decide +kernel
theorem dX12_status_1 : decode cX12_status 1 = .ok (.iconst 0, 1) := by decide +kernel
theorem dX12_status_2 : decode cX12_status 2 = .ok (.putfield 158, 3) := by decide +kernel
theorem dX12_status_5 : decode cX12_status 5 = .ok (.aload_n 0, 1) := by decide +kernel
theorem dX12_status_6 : decode cX12_status 6 = .ok (.getfield 161, 3) := by decide +kernel
theorem dX12_status_9 : decode cX12_status 9 = .ok (.ireturn, 1) := by decide +kernel
theorem dX12_stopped_0 : decode cX12_stopped 0 = .ok (.aload_n 0, 1) := by decide +kernel
theorem dX12_stopped_1 : decode cX12_stopped 1 = .ok (.iconst 0, 1) := by decide +kernel
theorem dX12_stopped_2 : decode cX12_stopped 2 = .ok (.putfield 158, 3) := by decide +kernel
theorem dX12_stopped_5 : decode cX12_stopped 5 = .ok (.aload_n 0, 1) := by decide +kernel
theorem dX12_stopped_6 : decode cX12_stopped 6 = .ok (.getfield 149, 3) := by decide +kernel
theorem dX12_stopped_9 : decode cX12_stopped 9 = .ok (.ireturn, 1) := by decide +kernel
theorem dX12_fault_0 : decode cX12_fault 0 = .ok (.aload_n 0, 1) := by decide +kernel
theorem dX12_fault_1 : decode cX12_fault 1 = .ok (.iconst 0, 1) := by decide +kernel
theorem dX12_fault_2 : decode cX12_fault 2 = .ok (.putfield 158, 3) := by decide +kernel
theorem dX12_fault_5 : decode cX12_fault 5 = .ok (.aload_n 0, 1) := by decide +kernel
theorem dX12_fault_6 : decode cX12_fault 6 = .ok (.getfield 38, 3) := by decide +kernel
theorem dX12_fault_9 : decode cX12_fault 9 = .ok (.ireturn, 1) := by decide +kernel
set_option maxRecDepth 100000 in
set_option maxHeartbeats 4000000 in
theorem ggX12_goOnBy_X12_goOn : GoodIn wsX12_goOnBy wsX12_goOn := goodIn_q _ [5, 10] [6, 7, 8, 9, 4, 11, 12, 13, 14, 15, 16, 17, 18, 19, 20, 21, 22, 23, 24, 25, 26, 27, 28, 29, 30, 31, 32, 33, 34, 35, 36, 37, 38, 39, 40, 41, 42, 43, 44, 45, 46, 47, 48, 49, 50, 51, 52, 53, 54, 55, 56, 57, 58, 59, 60, 61, 62, 63, 64, 65, 66, 67, 68, 69, 70] rfl (by decide +kernel) (by decide +kernel)
set_option maxRecDepth 20000 in
theorem gX12_goOnBy_X12_goOn : GoodIn wsX12_goOnBy (wsV RX12 464 RX12 yX12_goOn wsX12_goOn) := goodIn_app (goodIn_of _ (by decide +kernel)) ggX12_goOnBy_X12_goOn
set_option maxRecDepth 20000 in
theorem ggX12_hear_X12_in : GoodIn wsX12_hear wsX12_in := goodIn_r _ [7] (by decide +kernel) (by decide +kernel)
set_option maxRecDepth 20000 in
theorem gX12_hear_X12_in : GoodIn wsX12_hear (va_wsS RX12 178 yX12_in wsX12_in) := goodIn_app (goodIn_of _ (by decide +kernel)) ggX12_hear_X12_in
set_option maxRecDepth 100000 in
set_option maxHeartbeats 4000000 in
theorem ggX12_hear_X12_tell : GoodIn wsX12_hear wsX12_tell := goodIn_q _ [11] [12, 13, 14, 15, 16, 17, 18, 19, 20, 21, 22, 23, 24, 25, 26, 27, 28, 29, 30, 31, 32, 33, 34, 35, 36, 37, 38, 39, 40, 41, 42, 43, 44, 45, 46, 47, 48, 49, 50, 51, 52, 53, 54, 55, 56, 57, 58, 59, 60, 61, 62, 63, 64, 65, 66, 67, 68, 69, 70, 71, 72, 73] rfl (by decide +kernel) (by decide +kernel)
set_option maxRecDepth 20000 in
theorem gX12_hear_X12_tell : GoodIn wsX12_hear (wsV RX12 171 RX12 yX12_tell wsX12_tell) := goodIn_app (goodIn_of _ (by decide +kernel)) ggX12_hear_X12_tell
set_option maxRecDepth 20000 in
theorem ggX12_isAsHeard_X12_is : GoodIn wsX12_isAsHeard wsX12_is := goodIn_r _ [5] (by decide +kernel) (by decide +kernel)
set_option maxRecDepth 20000 in
theorem gX12_isAsHeard_X12_is : GoodIn wsX12_isAsHeard (va_wsS RX12 436 yX12_is wsX12_is) := goodIn_app (goodIn_of _ (by decide +kernel)) ggX12_isAsHeard_X12_is
set_option maxRecDepth 100000 in
set_option maxHeartbeats 4000000 in
theorem ggX12_hill_X12_isAsHeard : GoodIn wsX12_hill wsX12_isAsHeard := goodIn_q _ [7, 10] [2, 8, 9, 6, 11, 12, 13, 14, 15, 16, 17, 18, 19, 20, 21, 22, 23, 24, 25, 26, 27, 28, 29, 30, 31, 32, 33, 34, 35, 36, 37, 38, 39, 40, 41, 42, 43, 44, 45, 46, 47, 48, 49, 50, 51, 52, 53, 54, 55, 56, 57, 58, 59, 60, 61, 62, 63, 64, 65, 66, 67, 68, 69, 70] rfl (by decide +kernel) (by decide +kernel)
set_option maxRecDepth 20000 in
theorem gX12_hill_X12_isAsHeard : GoodIn wsX12_hill (wsV RX12 515 RX12 yX12_isAsHeard wsX12_isAsHeard) := goodIn_app (goodIn_of _ (by decide +kernel)) ggX12_hill_X12_isAsHeard
set_option maxRecDepth 20000 in
theorem ggX12_ask_X12_in : GoodIn wsX12_ask wsX12_in := goodIn_r _ [8] (by decide +kernel) (by decide +kernel)
set_option maxRecDepth 20000 in
theorem gX12_ask_X12_in : GoodIn wsX12_ask (va_wsS RX12 178 yX12_in wsX12_in) := goodIn_app (goodIn_of _ (by decide +kernel)) ggX12_ask_X12_in
set_option maxRecDepth 100000 in
set_option maxHeartbeats 4000000 in
theorem ggX12_ask_X12_isAsHeard : GoodIn wsX12_ask wsX12_isAsHeard := goodIn_q _ [12, 15] [3, 13, 14, 7, 16, 17, 18, 19, 20, 21, 22, 23, 24, 25, 26, 27, 28, 29, 30, 31, 32, 33, 34, 35, 36, 37, 38, 39, 40, 41, 42, 43, 44, 45, 46, 47, 48, 49, 50, 51, 52, 53, 54, 55, 56, 57, 58, 59, 60, 61, 62, 63, 64, 65, 66, 67, 68, 69, 70, 71, 72, 73, 74, 75] rfl (by decide +kernel) (by decide +kernel)
set_option maxRecDepth 20000 in
theorem gX12_ask_X12_isAsHeard : GoodIn wsX12_ask (wsV RX12 515 RX12 yX12_isAsHeard wsX12_isAsHeard) := goodIn_app (goodIn_of _ (by decide +kernel)) ggX12_ask_X12_isAsHeard
set_option maxRecDepth 20000 in
theorem ggX12_chance_X12_in : GoodIn wsX12_chance wsX12_in := goodIn_r _ [9] (by decide +kernel) (by decide +kernel)
set_option maxRecDepth 20000 in
theorem gX12_chance_X12_in : GoodIn wsX12_chance (va_wsS RX12 178 yX12_in wsX12_in) := goodIn_app (goodIn_of _ (by decide +kernel)) ggX12_chance_X12_in
set_option maxRecDepth 20000 in
theorem ggX12_chance_X12_is : GoodIn wsX12_chance wsX12_is := goodIn_r _ [12] (by decide +kernel) (by decide +kernel)
set_option maxRecDepth 20000 in
theorem gX12_chance_X12_is : GoodIn wsX12_chance (va_wsS RX12 436 yX12_is wsX12_is) := goodIn_app (goodIn_of _ (by decide +kernel)) ggX12_chance_X12_is
set_option maxRecDepth 100000 in
set_option maxHeartbeats 4000000 in
theorem ggX12_chance_X12_soundWith : GoodIn wsX12_chance wsX12_soundWith := goodIn_q _ [16, 21, 25, 9] [17, 18, 19, 20, 8, 22, 23, 24, 6, 7, 26, 27, 28, 29, 30, 31, 32, 33, 34, 35, 36, 37, 38, 39, 40, 41, 42, 43, 44, 45, 46, 47, 48, 49, 50, 51, 52, 53, 54, 55, 56, 57, 58, 59, 60, 61, 62, 63, 64, 65, 66, 67, 68, 69, 70, 71, 72, 73, 74, 75, 76, 77, 78, 79, 80, 81, 82, 83, 84, 85] rfl (by decide +kernel) (by decide +kernel)
set_option maxRecDepth 20000 in
theorem gX12_chance_X12_soundWith : GoodIn wsX12_chance (wsV RX12 392 RX12 yX12_soundWith wsX12_soundWith) := goodIn_app (goodIn_of _ (by decide +kernel)) ggX12_chance_X12_soundWith
set_option maxRecDepth 100000 in
set_option maxHeartbeats 4000000 in
theorem ggX12_chance_X12_term : GoodIn wsX12_chance wsX12_term := goodIn_q _ [25] [17, 26, 27, 28, 29, 30, 31, 32, 33, 34, 35, 36, 37, 38, 39, 40, 41, 42, 43, 44, 45, 46, 47, 48, 49, 50, 51, 52, 53, 54, 55, 56, 57, 58, 59, 60, 61, 62, 63, 64, 65, 66, 67, 68, 69, 70, 71, 72, 73, 74, 75, 76, 77, 78, 79, 80, 81, 82, 83, 84, 85] rfl (by decide +kernel) (by decide +kernel)
set_option maxRecDepth 20000 in
theorem gX12_chance_X12_term : GoodIn wsX12_chance (wsV RX12 182 RX12 yX12_term wsX12_term) := goodIn_app (goodIn_of _ (by decide +kernel)) ggX12_chance_X12_term
set_option maxRecDepth 100000 in
set_option maxHeartbeats 4000000 in
theorem ggX12_compare_X12_isLaw : GoodIn wsX12_compare wsX12_isLaw := goodIn_q _ [8, 11] [3, 9, 10, 7, 86, 87, 88, 89, 90, 91, 92, 93, 94, 95, 96, 97, 98, 99, 100, 101, 102, 103, 104, 105, 106, 107, 108, 109, 110, 111, 112, 113, 114, 115, 116, 117, 118, 119, 120, 121, 122, 123, 124, 125, 126, 127, 128, 129, 130, 131, 132, 133, 134, 135, 136, 137, 138, 139, 140, 141, 142, 143, 144, 145] rfl (by decide +kernel) (by decide +kernel)
set_option maxRecDepth 20000 in
theorem gX12_compare_X12_isLaw : GoodIn wsX12_compare (wsV RX12 383 RX12 yX12_isLaw wsX12_isLaw) := goodIn_app (goodIn_of _ (by decide +kernel)) ggX12_compare_X12_isLaw
set_option maxRecDepth 20000 in
theorem ggX12_compare_X12_in : GoodIn wsX12_compare wsX12_in := goodIn_r _ [11] (by decide +kernel) (by decide +kernel)
set_option maxRecDepth 20000 in
theorem gX12_compare_X12_in : GoodIn wsX12_compare (va_wsS RX12 178 yX12_in wsX12_in) := goodIn_app (goodIn_of _ (by decide +kernel)) ggX12_compare_X12_in
set_option maxRecDepth 100000 in
set_option maxHeartbeats 4000000 in
theorem ggX12_compare_X12_keepAll : GoodIn wsX12_compare wsX12_keepAll := goodIn_q _ [15] [16, 3, 86, 87, 88, 89, 90, 91, 92, 93, 94, 95, 96, 97, 98, 99, 100, 101, 102, 103, 104, 105, 106, 107, 108, 109, 110, 111, 112, 113, 114, 115, 116, 117, 118, 119, 120, 121, 122, 123, 124, 125, 126, 127, 128, 129, 130, 131, 132, 133, 134, 135, 136, 137, 138, 139, 140, 141, 142, 143, 144, 145] rfl (by decide +kernel) (by decide +kernel)
set_option maxRecDepth 20000 in
theorem gX12_compare_X12_keepAll : GoodIn wsX12_compare (wsV RX12 167 RX12 yX12_keepAll wsX12_keepAll) := goodIn_app (goodIn_of _ (by decide +kernel)) ggX12_compare_X12_keepAll
set_option maxRecDepth 100000 in
set_option maxHeartbeats 4000000 in
theorem ggX12_compare_X12_putBack : GoodIn wsX12_compare wsX12_putBack := goodIn_q _ [85] [3, 16, 86, 87, 88, 89, 90, 91, 92, 93, 94, 95, 96, 97, 98, 99, 100, 101, 102, 103, 104, 105, 106, 107, 108, 109, 110, 111, 112, 113, 114, 115, 116, 117, 118, 119, 120, 121, 122, 123, 124, 125, 126, 127, 128, 129, 130, 131, 132, 133, 134, 135, 136, 137, 138, 139, 140, 141, 142, 143, 144, 145] rfl (by decide +kernel) (by decide +kernel)
set_option maxRecDepth 20000 in
theorem gX12_compare_X12_putBack : GoodIn wsX12_compare (wsV RX12 175 RX12 yX12_putBack wsX12_putBack) := goodIn_app (goodIn_of _ (by decide +kernel)) ggX12_compare_X12_putBack
set_option maxRecDepth 100000 in
set_option maxHeartbeats 4000000 in
theorem ggX12_compare_X12_goOn : GoodIn wsX12_compare wsX12_goOn := goodIn_q _ [81, 20] [3, 17, 18, 19, 7, 86, 87, 88, 89, 90, 91, 92, 93, 94, 95, 96, 97, 98, 99, 100, 101, 102, 103, 104, 105, 106, 107, 108, 109, 110, 111, 112, 113, 114, 115, 116, 117, 118, 119, 120, 121, 122, 123, 124, 125, 126, 127, 128, 129, 130, 131, 132, 133, 134, 135, 136, 137, 138, 139, 140, 141, 142, 143, 144, 145] rfl (by decide +kernel) (by decide +kernel)
set_option maxRecDepth 20000 in
theorem gX12_compare_X12_goOn : GoodIn wsX12_compare (wsV RX12 464 RX12 yX12_goOn wsX12_goOn) := goodIn_app (goodIn_of _ (by decide +kernel)) ggX12_compare_X12_goOn
set_option maxRecDepth 100000 in
set_option maxHeartbeats 4000000 in
theorem ggX12_compare_X12_term : GoodIn wsX12_compare wsX12_term := goodIn_q _ [20] [3, 86, 87, 88, 89, 90, 91, 92, 93, 94, 95, 96, 97, 98, 99, 100, 101, 102, 103, 104, 105, 106, 107, 108, 109, 110, 111, 112, 113, 114, 115, 116, 117, 118, 119, 120, 121, 122, 123, 124, 125, 126, 127, 128, 129, 130, 131, 132, 133, 134, 135, 136, 137, 138, 139, 140, 141, 142, 143, 144, 145] rfl (by decide +kernel) (by decide +kernel)
set_option maxRecDepth 20000 in
theorem gX12_compare_X12_term : GoodIn wsX12_compare (wsV RX12 182 RX12 yX12_term wsX12_term) := goodIn_app (goodIn_of _ (by decide +kernel)) ggX12_compare_X12_term
set_option maxRecDepth 100000 in
set_option maxHeartbeats 4000000 in
theorem ggX12_compare_X12_burnsOf : GoodIn wsX12_compare wsX12_burnsOf := goodIn_q _ [77, 33, 20, 40, 46, 58, 62, 11, 66, 70, 73] [30, 31, 32, 7, 34, 35, 3, 36, 17, 18, 19, 37, 38, 39, 41, 42, 43, 44, 45, 47, 48, 49, 50, 51, 52, 53, 54, 55, 56, 57, 59, 60, 61, 9, 10, 63, 64, 65, 67, 68, 69, 71, 72, 86, 87, 88, 89, 90, 91, 92, 93, 94, 95, 96, 97, 98, 99, 100, 101, 102, 103, 104, 105, 106, 107, 108, 109, 110, 111, 112, 113, 114, 115, 116, 117, 118, 119, 120, 121, 122, 123, 124, 125, 126, 127, 128, 129, 130, 131, 132, 133, 134, 135, 136, 137, 138, 139, 140, 141, 142, 143, 144, 145] rfl (by decide +kernel) (by decide +kernel)
set_option maxRecDepth 20000 in
theorem gX12_compare_X12_burnsOf : GoodIn wsX12_compare (wsV RX12 200 RX12 yX12_burnsOf wsX12_burnsOf) := goodIn_app (goodIn_of _ (by decide +kernel)) ggX12_compare_X12_burnsOf
set_option maxRecDepth 20000 in
theorem ggX12_compare_X12_within : GoodIn wsX12_compare wsX12_within := goodIn_r _ [73] (by decide +kernel) (by decide +kernel)
set_option maxRecDepth 20000 in
theorem gX12_compare_X12_within : GoodIn wsX12_compare (va_wsS RX12 419 yX12_within wsX12_within) := goodIn_app (goodIn_of _ (by decide +kernel)) ggX12_compare_X12_within
set_option maxRecDepth 100000 in
set_option maxHeartbeats 4000000 in
theorem ggX12_compare_X12_flare : GoodIn wsX12_compare wsX12_flare := goodIn_q _ [24, 28, 33, 20, 40, 46, 58, 62, 11, 66, 70, 73] [3, 25, 26, 27, 7, 29, 30, 31, 32, 34, 35, 36, 17, 18, 19, 37, 38, 39, 41, 42, 43, 44, 45, 47, 48, 49, 50, 51, 52, 53, 54, 55, 56, 57, 59, 60, 61, 9, 10, 63, 64, 65, 67, 68, 69, 71, 72, 86, 87, 88, 89, 90, 91, 92, 93, 94, 95, 96, 97, 98, 99, 100, 101, 102, 103, 104, 105, 106, 107, 108, 109, 110, 111, 112, 113, 114, 115, 116, 117, 118, 119, 120, 121, 122, 123, 124, 125, 126, 127, 128, 129, 130, 131, 132, 133, 134, 135, 136, 137, 138, 139, 140, 141, 142, 143, 144, 145] rfl (by decide +kernel) (by decide +kernel)
set_option maxRecDepth 20000 in
theorem gX12_compare_X12_flare : GoodIn wsX12_compare (wsV RX12 442 RX12 yX12_flare wsX12_flare) := goodIn_app (goodIn_of _ (by decide +kernel)) ggX12_compare_X12_flare
set_option maxRecDepth 100000 in
set_option maxHeartbeats 4000000 in
theorem ggX12_days_X12_tell : GoodIn wsX12_days wsX12_tell := goodIn_q _ [16] [17, 18, 137, 138, 139, 140, 141, 142, 143, 144, 145, 146, 147, 148, 149, 150, 151, 152, 153, 154, 155, 156, 157, 158, 159, 160, 161, 162, 163, 164, 165, 166, 167, 168, 169, 170, 171, 172, 173, 174, 175, 176, 177, 178, 179, 180, 181, 182, 183, 184, 185, 186, 187, 188, 189, 190, 191, 192, 193, 194, 195, 196] rfl (by decide +kernel) (by decide +kernel)
set_option maxRecDepth 20000 in
theorem gX12_days_X12_tell : GoodIn wsX12_days (wsV RX12 171 RX12 yX12_tell wsX12_tell) := goodIn_app (goodIn_of _ (by decide +kernel)) ggX12_days_X12_tell
set_option maxRecDepth 20000 in
theorem ggX12_days_X12_in : GoodIn wsX12_days wsX12_in := goodIn_r _ [12] (by decide +kernel) (by decide +kernel)
set_option maxRecDepth 20000 in
theorem gX12_days_X12_in : GoodIn wsX12_days (va_wsS RX12 178 yX12_in wsX12_in) := goodIn_app (goodIn_of _ (by decide +kernel)) ggX12_days_X12_in
set_option maxRecDepth 100000 in
set_option maxHeartbeats 4000000 in
theorem ggX12_days_X12_keepAll : GoodIn wsX12_days wsX12_keepAll := goodIn_q _ [22] [23, 5, 137, 138, 139, 140, 141, 142, 143, 144, 145, 146, 147, 148, 149, 150, 151, 152, 153, 154, 155, 156, 157, 158, 159, 160, 161, 162, 163, 164, 165, 166, 167, 168, 169, 170, 171, 172, 173, 174, 175, 176, 177, 178, 179, 180, 181, 182, 183, 184, 185, 186, 187, 188, 189, 190, 191, 192, 193, 194, 195, 196] rfl (by decide +kernel) (by decide +kernel)
set_option maxRecDepth 20000 in
theorem gX12_days_X12_keepAll : GoodIn wsX12_days (wsV RX12 167 RX12 yX12_keepAll wsX12_keepAll) := goodIn_app (goodIn_of _ (by decide +kernel)) ggX12_days_X12_keepAll
set_option maxRecDepth 100000 in
set_option maxHeartbeats 4000000 in
theorem ggX12_days_X12_putBack : GoodIn wsX12_days wsX12_putBack := goodIn_q _ [136] [5, 23, 137, 138, 139, 140, 141, 142, 143, 144, 145, 146, 147, 148, 149, 150, 151, 152, 153, 154, 155, 156, 157, 158, 159, 160, 161, 162, 163, 164, 165, 166, 167, 168, 169, 170, 171, 172, 173, 174, 175, 176, 177, 178, 179, 180, 181, 182, 183, 184, 185, 186, 187, 188, 189, 190, 191, 192, 193, 194, 195, 196] rfl (by decide +kernel) (by decide +kernel)
set_option maxRecDepth 20000 in
theorem gX12_days_X12_putBack : GoodIn wsX12_days (wsV RX12 175 RX12 yX12_putBack wsX12_putBack) := goodIn_app (goodIn_of _ (by decide +kernel)) ggX12_days_X12_putBack
set_option maxRecDepth 100000 in
set_option maxHeartbeats 4000000 in
theorem ggX12_days_X12_canPass : GoodIn wsX12_days wsX12_canPass := goodIn_q _ [27, 31] [28, 29, 30, 11, 5, 137, 138, 139, 140, 141, 142, 143, 144, 145, 146, 147, 148, 149, 150, 151, 152, 153, 154, 155, 156, 157, 158, 159, 160, 161, 162, 163, 164, 165, 166, 167, 168, 169, 170, 171, 172, 173, 174, 175, 176, 177, 178, 179, 180, 181, 182, 183, 184, 185, 186, 187, 188, 189, 190, 191, 192, 193, 194, 195, 196] rfl (by decide +kernel) (by decide +kernel)
set_option maxRecDepth 20000 in
theorem gX12_days_X12_canPass : GoodIn wsX12_days (wsV RX12 467 RX12 yX12_canPass wsX12_canPass) := goodIn_app (goodIn_of _ (by decide +kernel)) ggX12_days_X12_canPass
set_option maxRecDepth 100000 in
set_option maxHeartbeats 4000000 in
theorem ggX12_days_X12_passIt : GoodIn wsX12_days wsX12_passIt := goodIn_q _ [107, 113, 31, 117, 79, 12, 121, 124, 50, 57, 63, 75, 83, 87, 103, 128, 132] [5, 108, 109, 110, 111, 112, 11, 28, 29, 30, 114, 115, 116, 76, 77, 78, 9, 10, 118, 119, 120, 122, 123, 47, 48, 49, 51, 52, 53, 54, 55, 56, 58, 59, 60, 61, 62, 64, 65, 66, 67, 68, 69, 70, 71, 72, 73, 74, 80, 81, 82, 84, 85, 86, 101, 102, 125, 126, 127, 129, 130, 131, 137, 138, 139, 140, 141, 142, 143, 144, 145, 146, 147, 148, 149, 150, 151, 152, 153, 154, 155, 156, 157, 158, 159, 160, 161, 162, 163, 164, 165, 166, 167, 168, 169, 170, 171, 172, 173, 174, 175, 176, 177, 178, 179, 180, 181, 182, 183, 184, 185, 186, 187, 188, 189, 190, 191, 192, 193, 194, 195, 196] rfl (by decide +kernel) (by decide +kernel)
set_option maxRecDepth 20000 in
theorem gX12_days_X12_passIt : GoodIn wsX12_days (wsV RX12 470 RX12 yX12_passIt wsX12_passIt) := goodIn_app (goodIn_of _ (by decide +kernel)) ggX12_days_X12_passIt
set_option maxRecDepth 100000 in
set_option maxHeartbeats 4000000 in
theorem ggX12_days_X12_draw : GoodIn wsX12_days wsX12_draw := goodIn_q _ [35] [4, 36, 37, 38, 137, 138, 139, 140, 141, 142, 143, 144, 145, 146, 147, 148, 149, 150, 151, 152, 153, 154, 155, 156, 157, 158, 159, 160, 161, 162, 163, 164, 165, 166, 167, 168, 169, 170, 171, 172, 173, 174, 175, 176, 177, 178, 179, 180, 181, 182, 183, 184, 185, 186, 187, 188, 189, 190, 191, 192, 193, 194, 195, 196] rfl (by decide +kernel) (by decide +kernel)
set_option maxRecDepth 20000 in
theorem gX12_days_X12_draw : GoodIn wsX12_days (wsV RX12 564 RX12 yX12_draw wsX12_draw) := goodIn_app (goodIn_of _ (by decide +kernel)) ggX12_days_X12_draw
set_option maxRecDepth 100000 in
set_option maxHeartbeats 4000000 in
theorem ggX12_days_X12_canStoke : GoodIn wsX12_days wsX12_canStoke := goodIn_q _ [42, 46, 50, 31, 57, 63, 75, 79, 12, 83, 87] [5, 43, 44, 45, 11, 47, 48, 49, 51, 52, 53, 28, 29, 30, 54, 55, 56, 58, 59, 60, 61, 62, 64, 65, 66, 67, 68, 69, 70, 71, 72, 73, 74, 76, 77, 78, 9, 10, 80, 81, 82, 84, 85, 86, 137, 138, 139, 140, 141, 142, 143, 144, 145, 146, 147, 148, 149, 150, 151, 152, 153, 154, 155, 156, 157, 158, 159, 160, 161, 162, 163, 164, 165, 166, 167, 168, 169, 170, 171, 172, 173, 174, 175, 176, 177, 178, 179, 180, 181, 182, 183, 184, 185, 186, 187, 188, 189, 190, 191, 192, 193, 194, 195, 196] rfl (by decide +kernel) (by decide +kernel)
set_option maxRecDepth 20000 in
theorem gX12_days_X12_canStoke : GoodIn wsX12_days (wsV RX12 445 RX12 yX12_canStoke wsX12_canStoke) := goodIn_app (goodIn_of _ (by decide +kernel)) ggX12_days_X12_canStoke
set_option maxRecDepth 100000 in
set_option maxHeartbeats 4000000 in
theorem ggX12_days_X12_stokeIt : GoodIn wsX12_days wsX12_stokeIt := goodIn_q _ [91, 95, 99, 50, 31, 57, 63, 75, 79, 12, 83, 87, 103] [5, 92, 93, 94, 11, 96, 97, 98, 100, 47, 48, 49, 51, 52, 53, 28, 29, 30, 54, 55, 56, 58, 59, 60, 61, 62, 64, 65, 66, 67, 68, 69, 70, 71, 72, 73, 74, 76, 77, 78, 9, 10, 80, 81, 82, 84, 85, 86, 101, 102, 137, 138, 139, 140, 141, 142, 143, 144, 145, 146, 147, 148, 149, 150, 151, 152, 153, 154, 155, 156, 157, 158, 159, 160, 161, 162, 163, 164, 165, 166, 167, 168, 169, 170, 171, 172, 173, 174, 175, 176, 177, 178, 179, 180, 181, 182, 183, 184, 185, 186, 187, 188, 189, 190, 191, 192, 193, 194, 195, 196] rfl (by decide +kernel) (by decide +kernel)
set_option maxRecDepth 20000 in
theorem gX12_days_X12_stokeIt : GoodIn wsX12_days (wsV RX12 451 RX12 yX12_stokeIt wsX12_stokeIt) := goodIn_app (goodIn_of _ (by decide +kernel)) ggX12_days_X12_stokeIt
set_option maxRecDepth 20000 in
theorem ggX12_drawn_X12_in : GoodIn wsX12_drawn wsX12_in := goodIn_r _ [9] (by decide +kernel) (by decide +kernel)
set_option maxRecDepth 20000 in
theorem gX12_drawn_X12_in : GoodIn wsX12_drawn (va_wsS RX12 178 yX12_in wsX12_in) := goodIn_app (goodIn_of _ (by decide +kernel)) ggX12_drawn_X12_in
set_option maxRecDepth 20000 in
theorem ggX12_count_X12_in : GoodIn wsX12_count wsX12_in := goodIn_r _ [19] (by decide +kernel) (by decide +kernel)
set_option maxRecDepth 20000 in
theorem gX12_count_X12_in : GoodIn wsX12_count (va_wsS RX12 178 yX12_in wsX12_in) := goodIn_app (goodIn_of _ (by decide +kernel)) ggX12_count_X12_in
set_option maxRecDepth 100000 in
set_option maxHeartbeats 4000000 in
theorem ggX12_count_X12_isSounding : GoodIn wsX12_count wsX12_isSounding := goodIn_q _ [12, 16, 19] [2, 13, 14, 15, 11, 17, 18, 20, 21, 22, 23, 24, 25, 26, 27, 28, 29, 30, 31, 32, 33, 34, 35, 36, 37, 38, 39, 40, 41, 42, 43, 44, 45, 46, 47, 48, 49, 50, 51, 52, 53, 54, 55, 56, 57, 58, 59, 60, 61, 62, 63, 64, 65, 66, 67, 68, 69, 70, 71, 72, 73, 74, 75, 76, 77, 78, 79] rfl (by decide +kernel) (by decide +kernel)
set_option maxRecDepth 20000 in
theorem gX12_count_X12_isSounding : GoodIn wsX12_count (wsV RX12 185 RX12 yX12_isSounding wsX12_isSounding) := goodIn_app (goodIn_of _ (by decide +kernel)) ggX12_count_X12_isSounding
set_option maxHeartbeats 4000000 in
set_option maxRecDepth 100000 in
theorem v_goOnBy (l : Launch) (D : va_G) (K : Nat → ClassId) (m0 : Nat) (x : Int32) (m_0 : Value) (m_1 : Value) (m_2 : Value) (w0 : Nat) (m_4 : Value) (m_5 : Value) (m_6 : Value) (m_7 : Value) (m_8 : Value) (m_9 : Value) (m_10 : Value) (m_11 : Value) (m_12 : Value) (m_13 : Value) (m_14 : Value) (m_15 : Value) (m_16 : Value) (m_17 : Value) (m_18 : Value) (m_19 : Value) (m_20 : Value) (m_21 : Value) (m_22 : Value) (m_23 : Value) (m_24 : Value) (m_25 : Value) (m_26 : Value) (m_27 : Value) (m_28 : Value) (m_29 : Value) (m_30 : Value) (m_31 : Value) (m_32 : Value) (m_33 : Value) (m_34 : Value) (m_35 : Value) (m_36 : Value) (m_37 : Value) (m_38 : Value) (m_39 : Value) (m_40 : Value) (m_41 : Value) (m_42 : Value) (m_43 : Value) (m_44 : Value) (m_45 : Value) (m_46 : Value) (m_47 : Value) (m_48 : Value) (m_49 : Value) (m_50 : Value) (m_51 : Value) (m_52 : Value) (m_53 : Value) (m_54 : Value) (m_55 : Value) (m_56 : Value) (m_57 : Value) (m_58 : Value) (m_59 : Value) (fw : Nat → Int32) (sz : Nat) (zx : 0 ≤ x.toInt ∧ x.toInt ≤ 12) (zfw : RwOK fw) : Met l yX12_goOnBy wsX12_goOnBy ({ frames := 2, cells := 0, slots := 0, locals := 41 }) (va_Pc [.ref m0, .int x] (Pre D K [(m0, .inr (12, [m_0, m_1, m_2, .ref w0, m_4, m_5, m_6, m_7, m_8, m_9, m_10, m_11, m_12, m_13, m_14, m_15, m_16, m_17, m_18, m_19, m_20, m_21, m_22, m_23, m_24, m_25, m_26, m_27, m_28, m_29, m_30, m_31, m_32, m_33, m_34, m_35, m_36, m_37, m_38, m_39, m_40, m_41, m_42, m_43, m_44, m_45, m_46, m_47, m_48, m_49, m_50, m_51, m_52, m_53, m_54, m_55, m_56, m_57, m_58, m_59])), (w0, .inl (K 0, 5500, .inl fw))] sz)) (va_Qv (S := Su) (fun (u : Su) => (RwOK (u.2.1 0)) ∧ True) (fun u t => Wd D (va_A [(m0, .inr (12, [m_0, m_1, m_2, .ref w0, m_4, m_5, m_6, m_7, m_8, m_9, m_10, m_11, m_12, m_13, m_14, m_15, m_16, m_17, m_18, m_19, m_20, m_21, m_22, m_23, m_24, m_25, m_26, m_27, m_28, m_29, m_30, m_31, m_32, m_33, m_34, m_35, m_36, m_37, m_38, m_39, m_40, m_41, m_42, m_43, m_44, m_45, m_46, m_47, m_48, m_49, m_50, m_51, m_52, m_53, m_54, m_55, m_56, m_57, m_58, m_59])), (w0, .inl (K 0, 5500, .inl fw))] sz) ((fun u => [(m0, .inr (12, [m_0, m_1, m_2, .ref w0, m_4, m_5, m_6, m_7, m_8, m_9, m_10, m_11, m_12, m_13, m_14, m_15, m_16, m_17, m_18, m_19, m_20, m_21, m_22, m_23, m_24, m_25, m_26, m_27, m_28, m_29, m_30, m_31, m_32, m_33, m_34, m_35, m_36, m_37, m_38, m_39, m_40, m_41, m_42, m_43, m_44, m_45, m_46, m_47, m_48, m_49, m_50, m_51, m_52, m_53, m_54, m_55, m_56, m_57, m_58, m_59])), (w0, .inl (K 0, 5500, .inl (u.2.1 0)))]) u) t) (va_A [(m0, .inr (12, [m_0, m_1, m_2, .ref w0, m_4, m_5, m_6, m_7, m_8, m_9, m_10, m_11, m_12, m_13, m_14, m_15, m_16, m_17, m_18, m_19, m_20, m_21, m_22, m_23, m_24, m_25, m_26, m_27, m_28, m_29, m_30, m_31, m_32, m_33, m_34, m_35, m_36, m_37, m_38, m_39, m_40, m_41, m_42, m_43, m_44, m_45, m_46, m_47, m_48, m_49, m_50, m_51, m_52, m_53, m_54, m_55, m_56, m_57, m_58, m_59])), (w0, .inl (K 0, 5500, .inl fw))] sz)) 0 0 (va_A [(m0, .inr (12, [m_0, m_1, m_2, .ref w0, m_4, m_5, m_6, m_7, m_8, m_9, m_10, m_11, m_12, m_13, m_14, m_15, m_16, m_17, m_18, m_19, m_20, m_21, m_22, m_23, m_24, m_25, m_26, m_27, m_28, m_29, m_30, m_31, m_32, m_33, m_34, m_35, m_36, m_37, m_38, m_39, m_40, m_41, m_42, m_43, m_44, m_45, m_46, m_47, m_48, m_49, m_50, m_51, m_52, m_53, m_54, m_55, m_56, m_57, m_58, m_59])), (w0, .inl (K 0, 5500, .inl fw))] sz) := by
  refine Met.ofW (cc := cX12_goOnBy) (maxL := 3) (ret := none) (by decide) rfl ?_
  intro p e s m args below meth c s₁ B hml hv
  obtain ⟨rfl, hsz, hP, hK, hD0, hN⟩ := hv
  have hx := B.exec
  have hb := B.bytes
  have hr := B.returns
  have hts := atoms_spec (ws := wsX12_goOnBy) B.pre
  have hown : s.vm.findClass RX12 = some m.cls := findClass_of_methodNamed B.named
  have hlocks := B.notSynchronized
  subst hsz
  have hD := hD0.self (sz := s.heap.size)
  generalize hAe : va_A [(m0, .inr (12, [m_0, m_1, m_2, .ref w0, m_4, m_5, m_6, m_7, m_8, m_9, m_10, m_11, m_12, m_13, m_14, m_15, m_16, m_17, m_18, m_19, m_20, m_21, m_22, m_23, m_24, m_25, m_26, m_27, m_28, m_29, m_30, m_31, m_32, m_33, m_34, m_35, m_36, m_37, m_38, m_39, m_40, m_41, m_42, m_43, m_44, m_45, m_46, m_47, m_48, m_49, m_50, m_51, m_52, m_53, m_54, m_55, m_56, m_57, m_58, m_59])), (w0, .inl (K 0, 5500, .inl fw))] s.heap.size = A at hD ⊢
  have hA : ∀ q : Nat, s.heap.size ≤ q → A q := fun q h => by rw [← hAe]; exact Or.inr h
  have hS : va_S A s.heap s.heap [] := va_S.rf
  have hP : va_P D vwCl [(m0, .inr (12, [m_0, m_1, m_2, .ref w0, m_4, m_5, m_6, m_7, m_8, m_9, m_10, m_11, m_12, m_13, m_14, m_15, m_16, m_17, m_18, m_19, m_20, m_21, m_22, m_23, m_24, m_25, m_26, m_27, m_28, m_29, m_30, m_31, m_32, m_33, m_34, m_35, m_36, m_37, m_38, m_39, m_40, m_41, m_42, m_43, m_44, m_45, m_46, m_47, m_48, m_49, m_50, m_51, m_52, m_53, m_54, m_55, m_56, m_57, m_58, m_59])), (w0, .inl (K 0, 5500, .inl fw))] s.heap := hP
  have hl := lv_entry [.ref m0, .int x] (n := 3) (Nat.le_of_ble_eq_true rfl)
  rw [lg_entry_eq]
  generalize (lg_sl [.ref m0, .int x] ++ List.replicate (3 - (lg_sl [.ref m0, .int x]).length) Slot.unset).toArray = ls at hl ⊢
  have hl : lv_has ls 3 [(0, .ref m0), (1, .int x)] := hl
  have hw12 : ∀ w ∈ wsX120, w ∈ wsX12_goOnBy := fun w h => (List.mem_cons_of_mem _ (List.mem_append_right _ h))
  generalize hQ : MQ below _ _ s _ _ _ = Q
  refine lv_iconst (v := 0) hx hb dX12_goOnBy_0 (by decide) ?_
  refine lv_istore_n (lv' := [(2, .int 0), (0, .ref m0), (1, .int x)]) hx hb dX12_goOnBy_1 rfl hl (by decide) rfl (fun ls hl => ?_)
  have lp_192 : ∀ (nn_ : Nat) (v_178 : Int32) (f_179 : Nat → Int32) (hv_178 : 0 ≤ v_178.toInt ∧ v_178.toInt ≤ 12) (hf_179_0 : RwOK f_179) (hn : (13 - v_178.toInt : Int).toNat < nn_) (H : Heap) (locs : List Loc) (hP : va_P D vwCl [(m0, .inr (12, [m_0, m_1, m_2, .ref w0, m_4, m_5, m_6, m_7, m_8, m_9, m_10, m_11, m_12, m_13, m_14, m_15, m_16, m_17, m_18, m_19, m_20, m_21, m_22, m_23, m_24, m_25, m_26, m_27, m_28, m_29, m_30, m_31, m_32, m_33, m_34, m_35, m_36, m_37, m_38, m_39, m_40, m_41, m_42, m_43, m_44, m_45, m_46, m_47, m_48, m_49, m_50, m_51, m_52, m_53, m_54, m_55, m_56, m_57, m_58, m_59])), (w0, .inl (K 0, 5500, .inl f_179))] H) (hD : va_D A [(m0, .inr (12, [m_0, m_1, m_2, .ref w0, m_4, m_5, m_6, m_7, m_8, m_9, m_10, m_11, m_12, m_13, m_14, m_15, m_16, m_17, m_18, m_19, m_20, m_21, m_22, m_23, m_24, m_25, m_26, m_27, m_28, m_29, m_30, m_31, m_32, m_33, m_34, m_35, m_36, m_37, m_38, m_39, m_40, m_41, m_42, m_43, m_44, m_45, m_46, m_47, m_48, m_49, m_50, m_51, m_52, m_53, m_54, m_55, m_56, m_57, m_58, m_59])), (w0, .inl (K 0, 5500, .inl f_179))]) (hS : va_S A s.heap H locs) (ls : Array Slot) (hl : lv_has ls 3 [(2, .int v_178), (0, .ref m0), (1, .int x)]), W p l e ({ frames := 2, cells := 0, slots := 0, locals := 41 }) s m (([.ref m0, .int x] : List Value).toArray) below meth c H locs 0 0 Q (F0 m 2 ls []) := by
    intro nn_
    induction nn_ with
    | zero =>
      intro v_178 f_179 hv_178 hf_179_0 hn H locs hP hD hS ls hl
      exact absurd hn (Nat.not_lt_zero _)
    | succ nn_ ih_193 =>
      intro v_178 f_179 hv_178 hf_179_0 hn H locs hP hD hS ls hl
      refine lv_iload_n hx hb dX12_goOnBy_2 rfl (lv_at hl 0 rfl) ?_
      refine lv_iload_n hx hb dX12_goOnBy_3 rfl (lv_at hl 2 rfl) ?_
      refine lv_icmp_ge (tgt := 17) hx hb dX12_goOnBy_4 (by decide) (fun c_194 => ?_) (fun c_194 => ?_)
      · have c_194i := i_le (x := x.toInt) (y := v_178.toInt) rfl rfl c_194
        subst hQ
        have hP9 := hP.sub (ws' := [(m0, .inr (12, [m_0, m_1, m_2, .ref w0, m_4, m_5, m_6, m_7, m_8, m_9, m_10, m_11, m_12, m_13, m_14, m_15, m_16, m_17, m_18, m_19, m_20, m_21, m_22, m_23, m_24, m_25, m_26, m_27, m_28, m_29, m_30, m_31, m_32, m_33, m_34, m_35, m_36, m_37, m_38, m_39, m_40, m_41, m_42, m_43, m_44, m_45, m_46, m_47, m_48, m_49, m_50, m_51, m_52, m_53, m_54, m_55, m_56, m_57, m_58, m_59])), (w0, .inl (K 0, 5500, .inl f_179))]) [0, 1] rfl
        have hD9 := hD.sub (ws' := [(m0, .inr (12, [m_0, m_1, m_2, .ref w0, m_4, m_5, m_6, m_7, m_8, m_9, m_10, m_11, m_12, m_13, m_14, m_15, m_16, m_17, m_18, m_19, m_20, m_21, m_22, m_23, m_24, m_25, m_26, m_27, m_28, m_29, m_30, m_31, m_32, m_33, m_34, m_35, m_36, m_37, m_38, m_39, m_40, m_41, m_42, m_43, m_44, m_45, m_46, m_47, m_48, m_49, m_50, m_51, m_52, m_53, m_54, m_55, m_56, m_57, m_58, m_59])), (w0, .inl (K 0, 5500, .inl f_179))]) [0, 1] (by decide) rfl
        exact W.vret hx hb hr (fun t ht hW => ⟨⟨((fun _ => 0, fun i => match i with | _ => f_179, fun _ => fun _ => 0, fun _ => 0, fun _ => 0, fun _ => fun _ => none) : Su), rfl, ⟨hf_179_0, trivial⟩, (⟨by rw [ht]; exact hP9, hD9⟩ : Wd D A _ t)⟩, hS.F ht⟩) hS.2.2 dX12_goOnBy_17
      · have c_194i := i_nle (x := x.toInt) (y := v_178.toInt) rfl rfl c_194
        refine lv_aload_n hx hb dX12_goOnBy_7 rfl (lv_at hl 1 rfl) ?_
        refine kcv (S := Su) (wr := []) (va_runV (As := []) (rest := []) ⟨hx, hb, hml, hown, hts⟩ (v_goOn l D K m0 m_0 m_1 m_2 w0 m_4 m_5 m_6 m_7 m_8 m_9 m_10 m_11 m_12 m_13 m_14 m_15 m_16 m_17 m_18 m_19 m_20 m_21 m_22 m_23 m_24 m_25 m_26 m_27 m_28 m_29 m_30 m_31 m_32 m_33 m_34 m_35 m_36 m_37 m_38 m_39 m_40 m_41 m_42 m_43 m_44 m_45 m_46 m_47 m_48 m_49 m_50 m_51 m_52 m_53 m_54 m_55 m_56 m_57 m_58 m_59 f_179 H.size hf_179_0) (cwV 0 hts gX12_goOnBy_X12_goOn rfl rfl rfl (by decide +kernel) ⟨Nat.le_of_ble_eq_true rfl, Nat.le_of_ble_eq_true rfl⟩) (mkV hK hN (hP.sub [0, 1] rfl) (hD.sub [0, 1] (by decide) rfl) (ci := 12) (q0 := 0) rfl rfl) rfl rfl hl.1 rfl (lv_room (Nat.le_of_ble_eq_true rfl)) dX12_goOnBy_8 ⟨Nat.le_of_ble_eq_true rfl, Nat.le_of_ble_eq_true rfl⟩) hP hD hS hA [0, 1] [] rfl rfl (by decide) (by decide) (fun u_196 H locs hw hP hD hS => ?_)
        have hP : va_P D vwCl [(m0, .inr (12, [m_0, m_1, m_2, .ref w0, m_4, m_5, m_6, m_7, m_8, m_9, m_10, m_11, m_12, m_13, m_14, m_15, m_16, m_17, m_18, m_19, m_20, m_21, m_22, m_23, m_24, m_25, m_26, m_27, m_28, m_29, m_30, m_31, m_32, m_33, m_34, m_35, m_36, m_37, m_38, m_39, m_40, m_41, m_42, m_43, m_44, m_45, m_46, m_47, m_48, m_49, m_50, m_51, m_52, m_53, m_54, m_55, m_56, m_57, m_58, m_59])), (w0, .inl (K 0, 5500, .inl (u_196.2.1 0)))] H := hP
        have hD : va_D A [(m0, .inr (12, [m_0, m_1, m_2, .ref w0, m_4, m_5, m_6, m_7, m_8, m_9, m_10, m_11, m_12, m_13, m_14, m_15, m_16, m_17, m_18, m_19, m_20, m_21, m_22, m_23, m_24, m_25, m_26, m_27, m_28, m_29, m_30, m_31, m_32, m_33, m_34, m_35, m_36, m_37, m_38, m_39, m_40, m_41, m_42, m_43, m_44, m_45, m_46, m_47, m_48, m_49, m_50, m_51, m_52, m_53, m_54, m_55, m_56, m_57, m_58, m_59])), (w0, .inl (K 0, 5500, .inl (u_196.2.1 0)))] := hD
        obtain ⟨k_197, -⟩ := hw
        obtain ⟨x_198, ex_198⟩ : ∃ y : Int32, y = v_178 + Int32.ofInt 1 := ⟨_, rfl⟩
        have hx_198 : x_198.toInt = (v_178.toInt + 1) := by rw [ex_198]; exact i_add rfl (show (Int32.ofInt 1).toInt = 1 from rfl) (by omega)
        refine lv_iinc (v := x_198) (lv' := [(2, .int x_198), (0, .ref m0), (1, .int x)]) hx hb dX12_goOnBy_11 hl (k := 0) rfl (by rw [ex_198]) (by decide) rfl (fun ls hl => ?_)
        refine lv_goto (tgt := 2) hx hb dX12_goOnBy_14 (by decide) ?_
        exact ih_193 x_198 (u_196.2.1 0) (by rw [hx_198]; omega) k_197 (by omega) _ _ hP hD hS ls (lv_sub hl [0, 1, 2] rfl)
  exact lp_192 ((13 - (0 : Int32).toInt : Int).toNat + 1) 0 fw (by decide) zfw (Nat.lt_succ_self _) _ _ hP hD hS ls (lv_sub hl [0, 1, 2] rfl)
set_option maxHeartbeats 4000000 in
set_option maxRecDepth 100000 in
theorem v_hear (l : Launch) (D : va_G) (K : Nat → ClassId) (m0 : Nat) (x : Int32) (thr : Int32) (sta : Int32) (r0 : Nat) (w0 : Nat) (m_4 : Value) (m_5 : Value) (m_6 : Value) (m_7 : Value) (m_8 : Value) (m_9 : Value) (m_10 : Value) (m_11 : Value) (m_12 : Value) (m_13 : Value) (m_14 : Value) (m_15 : Value) (m_16 : Value) (m_17 : Value) (m_18 : Value) (m_19 : Value) (m_20 : Value) (m_21 : Value) (m_22 : Value) (m_23 : Value) (m_24 : Value) (m_25 : Value) (m_26 : Value) (m_27 : Value) (m_28 : Value) (m_29 : Value) (m_30 : Value) (m_31 : Value) (m_32 : Value) (m_33 : Value) (m_34 : Value) (m_35 : Value) (m_36 : Value) (m_37 : Value) (m_38 : Value) (m_39 : Value) (m_40 : Value) (m_41 : Value) (m_42 : Value) (m_43 : Value) (m_44 : Value) (m_45 : Value) (m_46 : Value) (m_47 : Value) (m_48 : Value) (m_49 : Value) (m_50 : Value) (m_51 : Value) (m_52 : Value) (m_53 : Value) (m_54 : Value) (m_55 : Value) (m_56 : Value) (m_57 : Value) (m_58 : Value) (m_59 : Value) (fw : Nat → Int32) (frf : Nat → Int32) (sz : Nat) (zfw : RwOK fw) : Met l yX12_hear wsX12_hear ({ frames := 1, cells := 0, slots := 0, locals := 25 }) (va_Pc [.ref m0, .int x] (Pre D K [(m0, .inr (12, [.int thr, .int sta, .ref r0, .ref w0, m_4, m_5, m_6, m_7, m_8, m_9, m_10, m_11, m_12, m_13, m_14, m_15, m_16, m_17, m_18, m_19, m_20, m_21, m_22, m_23, m_24, m_25, m_26, m_27, m_28, m_29, m_30, m_31, m_32, m_33, m_34, m_35, m_36, m_37, m_38, m_39, m_40, m_41, m_42, m_43, m_44, m_45, m_46, m_47, m_48, m_49, m_50, m_51, m_52, m_53, m_54, m_55, m_56, m_57, m_58, m_59])), (w0, .inl (K 0, 5500, .inl fw)), (r0, .inl (K 0, 7, .inl frf))] sz)) (va_Qi (S := Su) (fun (r : Int32) (u : Su) => ((-6) ≤ r.toInt) ∧ ((-6) ≤ (u.2.2.2.1 0).toInt ∧ (u.2.2.2.1 0).toInt ≤ 0) ∧ (RwOK (u.2.1 0)) ∧ True) (fun u t => Wd D (va_A [(m0, .inr (12, [.int thr, .int sta, .ref r0, .ref w0, m_4, m_5, m_6, m_7, m_8, m_9, m_10, m_11, m_12, m_13, m_14, m_15, m_16, m_17, m_18, m_19, m_20, m_21, m_22, m_23, m_24, m_25, m_26, m_27, m_28, m_29, m_30, m_31, m_32, m_33, m_34, m_35, m_36, m_37, m_38, m_39, m_40, m_41, m_42, m_43, m_44, m_45, m_46, m_47, m_48, m_49, m_50, m_51, m_52, m_53, m_54, m_55, m_56, m_57, m_58, m_59])), (w0, .inl (K 0, 5500, .inl fw)), (r0, .inl (K 0, 7, .inl frf))] sz) ((fun u => [(m0, .inr (12, [.int 0, .int (u.2.2.2.1 0), .ref r0, .ref w0, m_4, m_5, m_6, m_7, m_8, m_9, m_10, m_11, m_12, m_13, m_14, m_15, m_16, m_17, m_18, m_19, m_20, m_21, m_22, m_23, m_24, m_25, m_26, m_27, m_28, m_29, m_30, m_31, m_32, m_33, m_34, m_35, m_36, m_37, m_38, m_39, m_40, m_41, m_42, m_43, m_44, m_45, m_46, m_47, m_48, m_49, m_50, m_51, m_52, m_53, m_54, m_55, m_56, m_57, m_58, m_59])), (w0, .inl (K 0, 5500, .inl (u.2.1 0))), (r0, .inl (K 0, 7, .inl (u.2.1 1)))]) u) t) (va_A [(m0, .inr (12, [.int thr, .int sta, .ref r0, .ref w0, m_4, m_5, m_6, m_7, m_8, m_9, m_10, m_11, m_12, m_13, m_14, m_15, m_16, m_17, m_18, m_19, m_20, m_21, m_22, m_23, m_24, m_25, m_26, m_27, m_28, m_29, m_30, m_31, m_32, m_33, m_34, m_35, m_36, m_37, m_38, m_39, m_40, m_41, m_42, m_43, m_44, m_45, m_46, m_47, m_48, m_49, m_50, m_51, m_52, m_53, m_54, m_55, m_56, m_57, m_58, m_59])), (w0, .inl (K 0, 5500, .inl fw)), (r0, .inl (K 0, 7, .inl frf))] sz)) 0 0 (va_A [(m0, .inr (12, [.int thr, .int sta, .ref r0, .ref w0, m_4, m_5, m_6, m_7, m_8, m_9, m_10, m_11, m_12, m_13, m_14, m_15, m_16, m_17, m_18, m_19, m_20, m_21, m_22, m_23, m_24, m_25, m_26, m_27, m_28, m_29, m_30, m_31, m_32, m_33, m_34, m_35, m_36, m_37, m_38, m_39, m_40, m_41, m_42, m_43, m_44, m_45, m_46, m_47, m_48, m_49, m_50, m_51, m_52, m_53, m_54, m_55, m_56, m_57, m_58, m_59])), (w0, .inl (K 0, 5500, .inl fw)), (r0, .inl (K 0, 7, .inl frf))] sz) := by
  refine Met.ofW (cc := cX12_hear) (maxL := 3) (ret := (some .int)) (by decide) rfl ?_
  intro p e s m args below meth c s₁ B hml hv
  obtain ⟨rfl, hsz, hP, hK, hD0, hN⟩ := hv
  have hx := B.exec
  have hb := B.bytes
  have hr := B.returns
  have hts := atoms_spec (ws := wsX12_hear) B.pre
  have hown : s.vm.findClass RX12 = some m.cls := findClass_of_methodNamed B.named
  have hlocks := B.notSynchronized
  subst hsz
  have hD := hD0.self (sz := s.heap.size)
  generalize hAe : va_A [(m0, .inr (12, [.int thr, .int sta, .ref r0, .ref w0, m_4, m_5, m_6, m_7, m_8, m_9, m_10, m_11, m_12, m_13, m_14, m_15, m_16, m_17, m_18, m_19, m_20, m_21, m_22, m_23, m_24, m_25, m_26, m_27, m_28, m_29, m_30, m_31, m_32, m_33, m_34, m_35, m_36, m_37, m_38, m_39, m_40, m_41, m_42, m_43, m_44, m_45, m_46, m_47, m_48, m_49, m_50, m_51, m_52, m_53, m_54, m_55, m_56, m_57, m_58, m_59])), (w0, .inl (K 0, 5500, .inl fw)), (r0, .inl (K 0, 7, .inl frf))] s.heap.size = A at hD ⊢
  have hA : ∀ q : Nat, s.heap.size ≤ q → A q := fun q h => by rw [← hAe]; exact Or.inr h
  have hS : va_S A s.heap s.heap [] := va_S.rf
  have hP : va_P D vwCl [(m0, .inr (12, [.int thr, .int sta, .ref r0, .ref w0, m_4, m_5, m_6, m_7, m_8, m_9, m_10, m_11, m_12, m_13, m_14, m_15, m_16, m_17, m_18, m_19, m_20, m_21, m_22, m_23, m_24, m_25, m_26, m_27, m_28, m_29, m_30, m_31, m_32, m_33, m_34, m_35, m_36, m_37, m_38, m_39, m_40, m_41, m_42, m_43, m_44, m_45, m_46, m_47, m_48, m_49, m_50, m_51, m_52, m_53, m_54, m_55, m_56, m_57, m_58, m_59])), (w0, .inl (K 0, 5500, .inl fw)), (r0, .inl (K 0, 7, .inl frf))] s.heap := hP
  have hl := lv_entry [.ref m0, .int x] (n := 3) (Nat.le_of_ble_eq_true rfl)
  rw [lg_entry_eq]
  generalize (lg_sl [.ref m0, .int x] ++ List.replicate (3 - (lg_sl [.ref m0, .int x]).length) Slot.unset).toArray = ls at hl ⊢
  have hl : lv_has ls 3 [(0, .ref m0), (1, .int x)] := hl
  have hw12 : ∀ w ∈ wsX120, w ∈ wsX12_hear := fun w h => (List.mem_cons_of_mem _ (List.mem_append_right _ h))
  generalize hQ : MQ below _ _ s _ _ _ = Q
  refine lv_aload_n hx hb dX12_hear_0 rfl (lv_at hl 0 rfl) ?_
  refine lv_iconst (v := 0) hx hb dX12_hear_1 (by decide) ?_
  refine va_put (ci := 12) (v := .int 0) (ty := .int) (C := RX12) (T := TX12) (N := 60) hx hb hts hw12 tyX12 tyX12_ok nmX12 hown hK hP hD hS 0 rfl rfl 0 (by decide) (hts (.fieldLink RX12 158 "SmokeTuneModel" "thrown" "I") (List.mem_cons_of_mem _ (List.mem_append_left _ (List.mem_of_getElem? (i := 0) rfl)))) (fun _ h9 => h9) rfl (by decide +kernel) (by first | rfl | decide) (by first | rfl | decide) (Nat.le_of_ble_eq_true rfl) dX12_hear_2 (fun H locs hP hD hS => ?_)
  have hP : va_P D vwCl [(m0, .inr (12, [.int 0, .int sta, .ref r0, .ref w0, m_4, m_5, m_6, m_7, m_8, m_9, m_10, m_11, m_12, m_13, m_14, m_15, m_16, m_17, m_18, m_19, m_20, m_21, m_22, m_23, m_24, m_25, m_26, m_27, m_28, m_29, m_30, m_31, m_32, m_33, m_34, m_35, m_36, m_37, m_38, m_39, m_40, m_41, m_42, m_43, m_44, m_45, m_46, m_47, m_48, m_49, m_50, m_51, m_52, m_53, m_54, m_55, m_56, m_57, m_58, m_59])), (w0, .inl (K 0, 5500, .inl fw)), (r0, .inl (K 0, 7, .inl frf))] H := hP
  have hD : va_D A [(m0, .inr (12, [.int 0, .int sta, .ref r0, .ref w0, m_4, m_5, m_6, m_7, m_8, m_9, m_10, m_11, m_12, m_13, m_14, m_15, m_16, m_17, m_18, m_19, m_20, m_21, m_22, m_23, m_24, m_25, m_26, m_27, m_28, m_29, m_30, m_31, m_32, m_33, m_34, m_35, m_36, m_37, m_38, m_39, m_40, m_41, m_42, m_43, m_44, m_45, m_46, m_47, m_48, m_49, m_50, m_51, m_52, m_53, m_54, m_55, m_56, m_57, m_58, m_59])), (w0, .inl (K 0, 5500, .inl fw)), (r0, .inl (K 0, 7, .inl frf))] := hD
  refine lv_iload_n hx hb dX12_hear_5 rfl (lv_at hl 1 rfl) ?_
  refine lv_i2l hx hb dX12_hear_6 rfl ?_
  refine lv_topl (fun x_115 ex_115 => ?_)
  have hx_115 : x_115.toInt = x.toInt := by rw [ex_115]; exact i_wide rfl
  have hbx_115 := i_rng (a := x) rfl
  refine lv_lconst (v := 0) hx hb dX12_hear_7 (by decide) ?_
  refine lv_ldc2 (v := 127) hx hb hown (hts (.constantLong RX12 212 (127)) (List.mem_cons_of_mem _ (List.mem_append_left _ (List.mem_of_getElem? (i := 1) rfl)))) dX12_hear_8 ?_
  refine pci (va_runS (As := [.long x_115, .long 0, .long 127]) (rest := []) ⟨hx, hb, hml, hown, hts⟩ (v_in l D K x.toInt 0 127 x_115 0 127 H.size hx_115 (show (0 : Int64).toInt = 0 from rfl) (show (127 : Int64).toInt = 127 from rfl)) (va_cwS 3 hts gX12_hear_X12_in rfl rfl rfl (by decide +kernel) ⟨Nat.le_of_ble_eq_true rfl, Nat.le_of_ble_eq_true rfl⟩) (mkS hK hN (va_P.nil) (va_D.nil (A := fun _ => True))) rfl rfl hl.1 rfl (lv_room (Nat.le_of_ble_eq_true rfl)) dX12_hear_11 ⟨Nat.le_of_ble_eq_true rfl, Nat.le_of_ble_eq_true rfl⟩) (fun r_116 hw => ?_)
  obtain ⟨hw, -⟩ := hw
  rcases hw with ⟨rfl, h_117, h_118⟩ | ⟨rfl, h_119⟩
  · refine lv_if_ne (tgt := 23) hx hb dX12_hear_14 (by decide) (fun c_120 => ?_) (fun c_120 => absurd c_120 (by decide))
    refine lv_aload_n hx hb dX12_hear_23 rfl (lv_at hl 0 rfl) ?_
    refine va_get (ci := 12) (v := .ref w0) (C := RX12) (T := TX12) (N := 60) hx hb hts hw12 hown hK hP 0 rfl rfl 3 (by decide) (hts (.fieldLink RX12 13 "SmokeTuneModel" "row" "[I") (List.mem_cons_of_mem _ (List.mem_append_left _ (List.mem_of_getElem? (i := 2) rfl)))) (fun _ h9 => h9) rfl dX12_hear_24 ?_
    refine lv_iconst (v := 1) hx hb dX12_hear_27 (by decide) ?_
    refine va_iald hx hb hK hP 1 0 rfl rfl (i_in (x := 1) rfl (by omega)) dX12_hear_28 ?_
    refine lv_topi (fun x_121 ex_121 => ?_)
    have px_121 := RwOK.at zfw (show (1 : Int32).toInt = 1 from rfl) (show 0 ≤ 1 ∧ 1 < 100 by omega)
    rw [← ex_121] at px_121
    have hx_121 := PR.r_1 px_121 (by omega)
    have kx_121 : fw 1 = x_121 := ex_121.symm
    refine lv_istore_n (lv' := [(2, .int x_121), (0, .ref m0), (1, .int x)]) hx hb dX12_hear_29 rfl hl (by decide) rfl (fun ls hl => ?_)
    refine lv_iload_n hx hb dX12_hear_30 rfl (lv_at hl 0 rfl) ?_
    refine lv_bipush (v := 6) hx hb dX12_hear_31 (by decide) ?_
    refine lv_icmp_ne (tgt := 43) hx hb dX12_hear_33 (by decide) (fun c_122 => ?_) (fun c_122 => ?_)
    · have c_122i := i_ne (x := x_121.toInt) (y := 6) rfl rfl c_122
      refine lv_aload_n hx hb dX12_hear_43 rfl (lv_at hl 1 rfl) ?_
      refine va_get (ci := 12) (v := .ref w0) (C := RX12) (T := TX12) (N := 60) hx hb hts hw12 hown hK hP 0 rfl rfl 3 (by decide) (hts (.fieldLink RX12 13 "SmokeTuneModel" "row" "[I") (List.mem_cons_of_mem _ (List.mem_append_left _ (List.mem_of_getElem? (i := 2) rfl)))) (fun _ h9 => h9) rfl dX12_hear_44 ?_
      refine lv_bipush (v := 91) hx hb dX12_hear_47 (by decide) ?_
      refine lv_iload_n hx hb dX12_hear_49 rfl (lv_at hl 0 rfl) ?_
      refine lv_iadd hx hb dX12_hear_50 ?_
      refine lv_topi (fun x_123 ex_123 => ?_)
      have hx_123 : x_123.toInt = (91 + x_121.toInt) := by rw [ex_123]; exact i_add (show (91 : Int32).toInt = 91 from rfl) rfl (by omega)
      refine lv_iload_n hx hb dX12_hear_51 rfl (lv_at hl 2 rfl) ?_
      refine va_iast hx hb hK hP hD hS 1 0 rfl rfl (i_in hx_123 (by omega)) dX12_hear_52 (fun H locs hP hD hS => ?_)
      generalize hf_124 : (upd fw (x_123 : Int32).toNatClampNeg x) = f_124 at hP hD
      have hf_124_0 : RwOK f_124 := by rw [← hf_124]; exact RwOK.upd zfw hx_123 (by omega) rfl (PR.free (by omega))
      have hf_124_1 : f_124 1 = x_121 := by rw [← hf_124]; exact (pk_un (show ¬ 1 = _ by rw [i_clamp hx_123]; omega)).trans kx_121
      have hP : va_P D vwCl [(m0, .inr (12, [.int 0, .int sta, .ref r0, .ref w0, m_4, m_5, m_6, m_7, m_8, m_9, m_10, m_11, m_12, m_13, m_14, m_15, m_16, m_17, m_18, m_19, m_20, m_21, m_22, m_23, m_24, m_25, m_26, m_27, m_28, m_29, m_30, m_31, m_32, m_33, m_34, m_35, m_36, m_37, m_38, m_39, m_40, m_41, m_42, m_43, m_44, m_45, m_46, m_47, m_48, m_49, m_50, m_51, m_52, m_53, m_54, m_55, m_56, m_57, m_58, m_59])), (w0, .inl (K 0, 5500, .inl f_124)), (r0, .inl (K 0, 7, .inl frf))] H := hP
      have hD : va_D A [(m0, .inr (12, [.int 0, .int sta, .ref r0, .ref w0, m_4, m_5, m_6, m_7, m_8, m_9, m_10, m_11, m_12, m_13, m_14, m_15, m_16, m_17, m_18, m_19, m_20, m_21, m_22, m_23, m_24, m_25, m_26, m_27, m_28, m_29, m_30, m_31, m_32, m_33, m_34, m_35, m_36, m_37, m_38, m_39, m_40, m_41, m_42, m_43, m_44, m_45, m_46, m_47, m_48, m_49, m_50, m_51, m_52, m_53, m_54, m_55, m_56, m_57, m_58, m_59])), (w0, .inl (K 0, 5500, .inl f_124)), (r0, .inl (K 0, 7, .inl frf))] := hD
      refine lv_aload_n hx hb dX12_hear_53 rfl (lv_at hl 1 rfl) ?_
      refine va_get (ci := 12) (v := .ref w0) (C := RX12) (T := TX12) (N := 60) hx hb hts hw12 hown hK hP 0 rfl rfl 3 (by decide) (hts (.fieldLink RX12 13 "SmokeTuneModel" "row" "[I") (List.mem_cons_of_mem _ (List.mem_append_left _ (List.mem_of_getElem? (i := 2) rfl)))) (fun _ h9 => h9) rfl dX12_hear_54 ?_
      refine lv_iconst (v := 1) hx hb dX12_hear_57 (by decide) ?_
      refine lv_dup2_11 hx hb dX12_hear_58 rfl rfl ?_
      refine va_iald hx hb hK hP 1 0 rfl rfl (i_in (x := 1) rfl (by omega)) dX12_hear_59 ?_
      refine lv_topi (fun x_125 ex_125 => ?_)
      have erx_125 : x_125 = x_121 := ex_125.trans hf_124_1
      have hrx_125 : x_125.toInt = x_121.toInt := (congrArg Int32.toInt erx_125).trans rfl
      refine lv_iconst (v := 1) hx hb dX12_hear_60 (by decide) ?_
      refine lv_iadd hx hb dX12_hear_61 ?_
      refine lv_topi (fun x_126 ex_126 => ?_)
      have hx_126 : x_126.toInt = (x_121.toInt + 1) := by rw [ex_126]; exact i_add hrx_125 (show (1 : Int32).toInt = 1 from rfl) (by omega)
      refine va_iast hx hb hK hP hD hS 1 0 rfl rfl (i_in (x := 1) rfl (by omega)) dX12_hear_62 (fun H locs hP hD hS => ?_)
      generalize hf_127 : (upd f_124 (1 : Int32).toNatClampNeg x_126) = f_127 at hP hD
      have hf_127_0 : RwOK f_127 := by rw [← hf_127]; exact RwOK.upd hf_124_0 (show (1 : Int32).toInt = 1 from rfl) (by omega) hx_126 (PR.w_1 (by omega) (by omega))
      have kf_127 : f_127 1 = x_126 := by rw [← hf_127]; exact pk_us
      have hP : va_P D vwCl [(m0, .inr (12, [.int 0, .int sta, .ref r0, .ref w0, m_4, m_5, m_6, m_7, m_8, m_9, m_10, m_11, m_12, m_13, m_14, m_15, m_16, m_17, m_18, m_19, m_20, m_21, m_22, m_23, m_24, m_25, m_26, m_27, m_28, m_29, m_30, m_31, m_32, m_33, m_34, m_35, m_36, m_37, m_38, m_39, m_40, m_41, m_42, m_43, m_44, m_45, m_46, m_47, m_48, m_49, m_50, m_51, m_52, m_53, m_54, m_55, m_56, m_57, m_58, m_59])), (w0, .inl (K 0, 5500, .inl f_127)), (r0, .inl (K 0, 7, .inl frf))] H := hP
      have hD : va_D A [(m0, .inr (12, [.int 0, .int sta, .ref r0, .ref w0, m_4, m_5, m_6, m_7, m_8, m_9, m_10, m_11, m_12, m_13, m_14, m_15, m_16, m_17, m_18, m_19, m_20, m_21, m_22, m_23, m_24, m_25, m_26, m_27, m_28, m_29, m_30, m_31, m_32, m_33, m_34, m_35, m_36, m_37, m_38, m_39, m_40, m_41, m_42, m_43, m_44, m_45, m_46, m_47, m_48, m_49, m_50, m_51, m_52, m_53, m_54, m_55, m_56, m_57, m_58, m_59])), (w0, .inl (K 0, 5500, .inl f_127)), (r0, .inl (K 0, 7, .inl frf))] := hD
      refine lv_aload_n hx hb dX12_hear_63 rfl (lv_at hl 1 rfl) ?_
      refine lv_iload_n hx hb dX12_hear_64 rfl (lv_at hl 0 rfl) ?_
      refine lv_iconst (v := 1) hx hb dX12_hear_65 (by decide) ?_
      refine lv_iadd hx hb dX12_hear_66 ?_
      refine lv_topi (fun x_128 ex_128 => ?_)
      have hx_128 : x_128.toInt = (x_121.toInt + 1) := by rw [ex_128]; exact i_add rfl (show (1 : Int32).toInt = 1 from rfl) (by omega)
      refine kci (S := Su) (wr := [(w0, .inl (K 0, 5500, .inl f_127))]) (va_runV (As := [.int x_128]) (rest := []) ⟨hx, hb, hml, hown, hts⟩ (v_tell l D K m0 x_128 (.int 0) sta r0 (.ref w0) m_4 m_5 m_6 m_7 m_8 m_9 m_10 m_11 m_12 m_13 m_14 m_15 m_16 m_17 m_18 m_19 m_20 m_21 m_22 m_23 m_24 m_25 m_26 m_27 m_28 m_29 m_30 m_31 m_32 m_33 m_34 m_35 m_36 m_37 m_38 m_39 m_40 m_41 m_42 m_43 m_44 m_45 m_46 m_47 m_48 m_49 m_50 m_51 m_52 m_53 m_54 m_55 m_56 m_57 m_58 m_59 frf H.size (by first | omega | decide)) (cwV 1 hts gX12_hear_X12_tell rfl rfl rfl (by decide +kernel) ⟨Nat.le_of_ble_eq_true rfl, Nat.le_of_ble_eq_true rfl⟩) (mkV hK hN (hP.sub [0, 2] rfl) (hD.sub [0, 2] (by decide) rfl) (ci := 12) (q0 := 0) rfl rfl) rfl rfl hl.1 rfl (lv_room (Nat.le_of_ble_eq_true rfl)) dX12_hear_67 ⟨Nat.le_of_ble_eq_true rfl, Nat.le_of_ble_eq_true rfl⟩) hP hD hS hA [0, 2] [1] rfl rfl (by decide) (by decide) (fun r_129 u_130 H locs hw hP hD hS => ?_)
      have hP : va_P D vwCl [(w0, .inl (K 0, 5500, .inl f_127)), (m0, .inr (12, [.int 0, .int (u_130.2.2.2.1 0), .ref r0, .ref w0, m_4, m_5, m_6, m_7, m_8, m_9, m_10, m_11, m_12, m_13, m_14, m_15, m_16, m_17, m_18, m_19, m_20, m_21, m_22, m_23, m_24, m_25, m_26, m_27, m_28, m_29, m_30, m_31, m_32, m_33, m_34, m_35, m_36, m_37, m_38, m_39, m_40, m_41, m_42, m_43, m_44, m_45, m_46, m_47, m_48, m_49, m_50, m_51, m_52, m_53, m_54, m_55, m_56, m_57, m_58, m_59])), (r0, .inl (K 0, 7, .inl (u_130.2.1 0)))] H := hP
      have hD : va_D A [(w0, .inl (K 0, 5500, .inl f_127)), (m0, .inr (12, [.int 0, .int (u_130.2.2.2.1 0), .ref r0, .ref w0, m_4, m_5, m_6, m_7, m_8, m_9, m_10, m_11, m_12, m_13, m_14, m_15, m_16, m_17, m_18, m_19, m_20, m_21, m_22, m_23, m_24, m_25, m_26, m_27, m_28, m_29, m_30, m_31, m_32, m_33, m_34, m_35, m_36, m_37, m_38, m_39, m_40, m_41, m_42, m_43, m_44, m_45, m_46, m_47, m_48, m_49, m_50, m_51, m_52, m_53, m_54, m_55, m_56, m_57, m_58, m_59])), (r0, .inl (K 0, 7, .inl (u_130.2.1 0)))] := hD
      obtain ⟨h_132, k_131, -⟩ := hw
      subst hQ
      have hP9 := hP.sub (ws' := [(m0, .inr (12, [.int 0, .int (u_130.2.2.2.1 0), .ref r0, .ref w0, m_4, m_5, m_6, m_7, m_8, m_9, m_10, m_11, m_12, m_13, m_14, m_15, m_16, m_17, m_18, m_19, m_20, m_21, m_22, m_23, m_24, m_25, m_26, m_27, m_28, m_29, m_30, m_31, m_32, m_33, m_34, m_35, m_36, m_37, m_38, m_39, m_40, m_41, m_42, m_43, m_44, m_45, m_46, m_47, m_48, m_49, m_50, m_51, m_52, m_53, m_54, m_55, m_56, m_57, m_58, m_59])), (w0, .inl (K 0, 5500, .inl f_127)), (r0, .inl (K 0, 7, .inl (u_130.2.1 0)))]) [1, 0, 2] rfl
      have hD9 := hD.sub (ws' := [(m0, .inr (12, [.int 0, .int (u_130.2.2.2.1 0), .ref r0, .ref w0, m_4, m_5, m_6, m_7, m_8, m_9, m_10, m_11, m_12, m_13, m_14, m_15, m_16, m_17, m_18, m_19, m_20, m_21, m_22, m_23, m_24, m_25, m_26, m_27, m_28, m_29, m_30, m_31, m_32, m_33, m_34, m_35, m_36, m_37, m_38, m_39, m_40, m_41, m_42, m_43, m_44, m_45, m_46, m_47, m_48, m_49, m_50, m_51, m_52, m_53, m_54, m_55, m_56, m_57, m_58, m_59])), (w0, .inl (K 0, 5500, .inl f_127)), (r0, .inl (K 0, 7, .inl (u_130.2.1 0)))]) [1, 0, 2] (by decide) rfl
      exact W.iret (v := r_129) hx hb hr (fun t ht hW => ⟨⟨r_129, ((fun _ => 0, fun i => match i with | 0 => f_127 | _ => (u_130.2.1 0), fun _ => fun _ => 0, fun i => match i with | _ => (u_130.2.2.2.1 0), fun _ => 0, fun _ => fun _ => none) : Su), rfl, ⟨(show (-6) ≤ r_129.toInt by omega), (show (-6) ≤ ((u_130.2.2.2.1 0) : Int32).toInt ∧ ((u_130.2.2.2.1 0) : Int32).toInt ≤ 0 by omega), hf_127_0, trivial⟩, (⟨by rw [ht]; exact hP9, hD9⟩ : Wd D A _ t)⟩, hS.F ht⟩) hS.2.2 dX12_hear_70
    · have c_122i := i_eq (x := x_121.toInt) (y := 6) rfl rfl c_122
      refine lv_aload_n hx hb dX12_hear_36 rfl (lv_at hl 1 rfl) ?_
      refine lv_bipush (v := (-5)) hx hb dX12_hear_37 (by decide) ?_
      refine kci (S := Su) (wr := [(w0, .inl (K 0, 5500, .inl fw))]) (va_runV (As := [.int (-5)]) (rest := []) ⟨hx, hb, hml, hown, hts⟩ (v_tell l D K m0 (-5) (.int 0) sta r0 (.ref w0) m_4 m_5 m_6 m_7 m_8 m_9 m_10 m_11 m_12 m_13 m_14 m_15 m_16 m_17 m_18 m_19 m_20 m_21 m_22 m_23 m_24 m_25 m_26 m_27 m_28 m_29 m_30 m_31 m_32 m_33 m_34 m_35 m_36 m_37 m_38 m_39 m_40 m_41 m_42 m_43 m_44 m_45 m_46 m_47 m_48 m_49 m_50 m_51 m_52 m_53 m_54 m_55 m_56 m_57 m_58 m_59 frf H.size (by first | omega | decide)) (cwV 1 hts gX12_hear_X12_tell rfl rfl rfl (by decide +kernel) ⟨Nat.le_of_ble_eq_true rfl, Nat.le_of_ble_eq_true rfl⟩) (mkV hK hN (hP.sub [0, 2] rfl) (hD.sub [0, 2] (by decide) rfl) (ci := 12) (q0 := 0) rfl rfl) rfl rfl hl.1 rfl (lv_room (Nat.le_of_ble_eq_true rfl)) dX12_hear_39 ⟨Nat.le_of_ble_eq_true rfl, Nat.le_of_ble_eq_true rfl⟩) hP hD hS hA [0, 2] [1] rfl rfl (by decide) (by decide) (fun r_133 u_134 H locs hw hP hD hS => ?_)
      have hP : va_P D vwCl [(w0, .inl (K 0, 5500, .inl fw)), (m0, .inr (12, [.int 0, .int (u_134.2.2.2.1 0), .ref r0, .ref w0, m_4, m_5, m_6, m_7, m_8, m_9, m_10, m_11, m_12, m_13, m_14, m_15, m_16, m_17, m_18, m_19, m_20, m_21, m_22, m_23, m_24, m_25, m_26, m_27, m_28, m_29, m_30, m_31, m_32, m_33, m_34, m_35, m_36, m_37, m_38, m_39, m_40, m_41, m_42, m_43, m_44, m_45, m_46, m_47, m_48, m_49, m_50, m_51, m_52, m_53, m_54, m_55, m_56, m_57, m_58, m_59])), (r0, .inl (K 0, 7, .inl (u_134.2.1 0)))] H := hP
      have hD : va_D A [(w0, .inl (K 0, 5500, .inl fw)), (m0, .inr (12, [.int 0, .int (u_134.2.2.2.1 0), .ref r0, .ref w0, m_4, m_5, m_6, m_7, m_8, m_9, m_10, m_11, m_12, m_13, m_14, m_15, m_16, m_17, m_18, m_19, m_20, m_21, m_22, m_23, m_24, m_25, m_26, m_27, m_28, m_29, m_30, m_31, m_32, m_33, m_34, m_35, m_36, m_37, m_38, m_39, m_40, m_41, m_42, m_43, m_44, m_45, m_46, m_47, m_48, m_49, m_50, m_51, m_52, m_53, m_54, m_55, m_56, m_57, m_58, m_59])), (r0, .inl (K 0, 7, .inl (u_134.2.1 0)))] := hD
      obtain ⟨h_136, k_135, -⟩ := hw
      subst hQ
      have hP9 := hP.sub (ws' := [(m0, .inr (12, [.int 0, .int (u_134.2.2.2.1 0), .ref r0, .ref w0, m_4, m_5, m_6, m_7, m_8, m_9, m_10, m_11, m_12, m_13, m_14, m_15, m_16, m_17, m_18, m_19, m_20, m_21, m_22, m_23, m_24, m_25, m_26, m_27, m_28, m_29, m_30, m_31, m_32, m_33, m_34, m_35, m_36, m_37, m_38, m_39, m_40, m_41, m_42, m_43, m_44, m_45, m_46, m_47, m_48, m_49, m_50, m_51, m_52, m_53, m_54, m_55, m_56, m_57, m_58, m_59])), (w0, .inl (K 0, 5500, .inl fw)), (r0, .inl (K 0, 7, .inl (u_134.2.1 0)))]) [1, 0, 2] rfl
      have hD9 := hD.sub (ws' := [(m0, .inr (12, [.int 0, .int (u_134.2.2.2.1 0), .ref r0, .ref w0, m_4, m_5, m_6, m_7, m_8, m_9, m_10, m_11, m_12, m_13, m_14, m_15, m_16, m_17, m_18, m_19, m_20, m_21, m_22, m_23, m_24, m_25, m_26, m_27, m_28, m_29, m_30, m_31, m_32, m_33, m_34, m_35, m_36, m_37, m_38, m_39, m_40, m_41, m_42, m_43, m_44, m_45, m_46, m_47, m_48, m_49, m_50, m_51, m_52, m_53, m_54, m_55, m_56, m_57, m_58, m_59])), (w0, .inl (K 0, 5500, .inl fw)), (r0, .inl (K 0, 7, .inl (u_134.2.1 0)))]) [1, 0, 2] (by decide) rfl
      exact W.iret (v := r_133) hx hb hr (fun t ht hW => ⟨⟨r_133, ((fun _ => 0, fun i => match i with | 0 => fw | _ => (u_134.2.1 0), fun _ => fun _ => 0, fun i => match i with | _ => (u_134.2.2.2.1 0), fun _ => 0, fun _ => fun _ => none) : Su), rfl, ⟨(show (-6) ≤ r_133.toInt by omega), (show (-6) ≤ ((u_134.2.2.2.1 0) : Int32).toInt ∧ ((u_134.2.2.2.1 0) : Int32).toInt ≤ 0 by omega), zfw, trivial⟩, (⟨by rw [ht]; exact hP9, hD9⟩ : Wd D A _ t)⟩, hS.F ht⟩) hS.2.2 dX12_hear_42
  · refine lv_if_ne (tgt := 23) hx hb dX12_hear_14 (by decide) (fun c_137 => absurd (by decide) c_137) (fun c_137 => ?_)
    refine lv_aload_n hx hb dX12_hear_17 rfl (lv_at hl 0 rfl) ?_
    refine lv_iconst (v := (-1)) hx hb dX12_hear_18 (by decide) ?_
    refine kci (S := Su) (wr := [(w0, .inl (K 0, 5500, .inl fw))]) (va_runV (As := [.int (-1)]) (rest := []) ⟨hx, hb, hml, hown, hts⟩ (v_tell l D K m0 (-1) (.int 0) sta r0 (.ref w0) m_4 m_5 m_6 m_7 m_8 m_9 m_10 m_11 m_12 m_13 m_14 m_15 m_16 m_17 m_18 m_19 m_20 m_21 m_22 m_23 m_24 m_25 m_26 m_27 m_28 m_29 m_30 m_31 m_32 m_33 m_34 m_35 m_36 m_37 m_38 m_39 m_40 m_41 m_42 m_43 m_44 m_45 m_46 m_47 m_48 m_49 m_50 m_51 m_52 m_53 m_54 m_55 m_56 m_57 m_58 m_59 frf H.size (by first | omega | decide)) (cwV 1 hts gX12_hear_X12_tell rfl rfl rfl (by decide +kernel) ⟨Nat.le_of_ble_eq_true rfl, Nat.le_of_ble_eq_true rfl⟩) (mkV hK hN (hP.sub [0, 2] rfl) (hD.sub [0, 2] (by decide) rfl) (ci := 12) (q0 := 0) rfl rfl) rfl rfl hl.1 rfl (lv_room (Nat.le_of_ble_eq_true rfl)) dX12_hear_19 ⟨Nat.le_of_ble_eq_true rfl, Nat.le_of_ble_eq_true rfl⟩) hP hD hS hA [0, 2] [1] rfl rfl (by decide) (by decide) (fun r_138 u_139 H locs hw hP hD hS => ?_)
    have hP : va_P D vwCl [(w0, .inl (K 0, 5500, .inl fw)), (m0, .inr (12, [.int 0, .int (u_139.2.2.2.1 0), .ref r0, .ref w0, m_4, m_5, m_6, m_7, m_8, m_9, m_10, m_11, m_12, m_13, m_14, m_15, m_16, m_17, m_18, m_19, m_20, m_21, m_22, m_23, m_24, m_25, m_26, m_27, m_28, m_29, m_30, m_31, m_32, m_33, m_34, m_35, m_36, m_37, m_38, m_39, m_40, m_41, m_42, m_43, m_44, m_45, m_46, m_47, m_48, m_49, m_50, m_51, m_52, m_53, m_54, m_55, m_56, m_57, m_58, m_59])), (r0, .inl (K 0, 7, .inl (u_139.2.1 0)))] H := hP
    have hD : va_D A [(w0, .inl (K 0, 5500, .inl fw)), (m0, .inr (12, [.int 0, .int (u_139.2.2.2.1 0), .ref r0, .ref w0, m_4, m_5, m_6, m_7, m_8, m_9, m_10, m_11, m_12, m_13, m_14, m_15, m_16, m_17, m_18, m_19, m_20, m_21, m_22, m_23, m_24, m_25, m_26, m_27, m_28, m_29, m_30, m_31, m_32, m_33, m_34, m_35, m_36, m_37, m_38, m_39, m_40, m_41, m_42, m_43, m_44, m_45, m_46, m_47, m_48, m_49, m_50, m_51, m_52, m_53, m_54, m_55, m_56, m_57, m_58, m_59])), (r0, .inl (K 0, 7, .inl (u_139.2.1 0)))] := hD
    obtain ⟨h_141, k_140, -⟩ := hw
    subst hQ
    have hP9 := hP.sub (ws' := [(m0, .inr (12, [.int 0, .int (u_139.2.2.2.1 0), .ref r0, .ref w0, m_4, m_5, m_6, m_7, m_8, m_9, m_10, m_11, m_12, m_13, m_14, m_15, m_16, m_17, m_18, m_19, m_20, m_21, m_22, m_23, m_24, m_25, m_26, m_27, m_28, m_29, m_30, m_31, m_32, m_33, m_34, m_35, m_36, m_37, m_38, m_39, m_40, m_41, m_42, m_43, m_44, m_45, m_46, m_47, m_48, m_49, m_50, m_51, m_52, m_53, m_54, m_55, m_56, m_57, m_58, m_59])), (w0, .inl (K 0, 5500, .inl fw)), (r0, .inl (K 0, 7, .inl (u_139.2.1 0)))]) [1, 0, 2] rfl
    have hD9 := hD.sub (ws' := [(m0, .inr (12, [.int 0, .int (u_139.2.2.2.1 0), .ref r0, .ref w0, m_4, m_5, m_6, m_7, m_8, m_9, m_10, m_11, m_12, m_13, m_14, m_15, m_16, m_17, m_18, m_19, m_20, m_21, m_22, m_23, m_24, m_25, m_26, m_27, m_28, m_29, m_30, m_31, m_32, m_33, m_34, m_35, m_36, m_37, m_38, m_39, m_40, m_41, m_42, m_43, m_44, m_45, m_46, m_47, m_48, m_49, m_50, m_51, m_52, m_53, m_54, m_55, m_56, m_57, m_58, m_59])), (w0, .inl (K 0, 5500, .inl fw)), (r0, .inl (K 0, 7, .inl (u_139.2.1 0)))]) [1, 0, 2] (by decide) rfl
    exact W.iret (v := r_138) hx hb hr (fun t ht hW => ⟨⟨r_138, ((fun _ => 0, fun i => match i with | 0 => fw | _ => (u_139.2.1 0), fun _ => fun _ => 0, fun i => match i with | _ => (u_139.2.2.2.1 0), fun _ => 0, fun _ => fun _ => none) : Su), rfl, ⟨(show (-6) ≤ r_138.toInt by omega), (show (-6) ≤ ((u_139.2.2.2.1 0) : Int32).toInt ∧ ((u_139.2.2.2.1 0) : Int32).toInt ≤ 0 by omega), zfw, trivial⟩, (⟨by rw [ht]; exact hP9, hD9⟩ : Wd D A _ t)⟩, hS.F ht⟩) hS.2.2 dX12_hear_22
set_option maxHeartbeats 4000000 in
set_option maxRecDepth 100000 in
theorem v_forget (l : Launch) (D : va_G) (K : Nat → ClassId) (m0 : Nat) (thr : Int32) (m_1 : Value) (m_2 : Value) (w0 : Nat) (m_4 : Value) (m_5 : Value) (m_6 : Value) (m_7 : Value) (m_8 : Value) (m_9 : Value) (m_10 : Value) (m_11 : Value) (m_12 : Value) (m_13 : Value) (m_14 : Value) (m_15 : Value) (m_16 : Value) (m_17 : Value) (m_18 : Value) (m_19 : Value) (m_20 : Value) (m_21 : Value) (m_22 : Value) (m_23 : Value) (m_24 : Value) (m_25 : Value) (m_26 : Value) (m_27 : Value) (m_28 : Value) (m_29 : Value) (m_30 : Value) (m_31 : Value) (m_32 : Value) (m_33 : Value) (m_34 : Value) (m_35 : Value) (m_36 : Value) (m_37 : Value) (m_38 : Value) (m_39 : Value) (m_40 : Value) (m_41 : Value) (m_42 : Value) (m_43 : Value) (m_44 : Value) (m_45 : Value) (m_46 : Value) (m_47 : Value) (m_48 : Value) (m_49 : Value) (m_50 : Value) (m_51 : Value) (m_52 : Value) (m_53 : Value) (m_54 : Value) (m_55 : Value) (m_56 : Value) (m_57 : Value) (m_58 : Value) (m_59 : Value) (fw : Nat → Int32) (sz : Nat) (zfw : RwOK fw) : Met l yX12_forget wsX12_forget ({ frames := 0, cells := 0, slots := 0, locals := 0 }) (va_Pc [.ref m0] (Pre D K [(m0, .inr (12, [.int thr, m_1, m_2, .ref w0, m_4, m_5, m_6, m_7, m_8, m_9, m_10, m_11, m_12, m_13, m_14, m_15, m_16, m_17, m_18, m_19, m_20, m_21, m_22, m_23, m_24, m_25, m_26, m_27, m_28, m_29, m_30, m_31, m_32, m_33, m_34, m_35, m_36, m_37, m_38, m_39, m_40, m_41, m_42, m_43, m_44, m_45, m_46, m_47, m_48, m_49, m_50, m_51, m_52, m_53, m_54, m_55, m_56, m_57, m_58, m_59])), (w0, .inl (K 0, 5500, .inl fw))] sz)) (va_Qi (S := Su) (fun (r : Int32) (u : Su) => (0 ≤ r.toInt ∧ r.toInt ≤ 6) ∧ (RwOK (u.2.1 0)) ∧ True) (fun u t => Wd D (va_A [(m0, .inr (12, [.int thr, m_1, m_2, .ref w0, m_4, m_5, m_6, m_7, m_8, m_9, m_10, m_11, m_12, m_13, m_14, m_15, m_16, m_17, m_18, m_19, m_20, m_21, m_22, m_23, m_24, m_25, m_26, m_27, m_28, m_29, m_30, m_31, m_32, m_33, m_34, m_35, m_36, m_37, m_38, m_39, m_40, m_41, m_42, m_43, m_44, m_45, m_46, m_47, m_48, m_49, m_50, m_51, m_52, m_53, m_54, m_55, m_56, m_57, m_58, m_59])), (w0, .inl (K 0, 5500, .inl fw))] sz) ((fun u => [(m0, .inr (12, [.int 0, m_1, m_2, .ref w0, m_4, m_5, m_6, m_7, m_8, m_9, m_10, m_11, m_12, m_13, m_14, m_15, m_16, m_17, m_18, m_19, m_20, m_21, m_22, m_23, m_24, m_25, m_26, m_27, m_28, m_29, m_30, m_31, m_32, m_33, m_34, m_35, m_36, m_37, m_38, m_39, m_40, m_41, m_42, m_43, m_44, m_45, m_46, m_47, m_48, m_49, m_50, m_51, m_52, m_53, m_54, m_55, m_56, m_57, m_58, m_59])), (w0, .inl (K 0, 5500, .inl (u.2.1 0)))]) u) t) (va_A [(m0, .inr (12, [.int thr, m_1, m_2, .ref w0, m_4, m_5, m_6, m_7, m_8, m_9, m_10, m_11, m_12, m_13, m_14, m_15, m_16, m_17, m_18, m_19, m_20, m_21, m_22, m_23, m_24, m_25, m_26, m_27, m_28, m_29, m_30, m_31, m_32, m_33, m_34, m_35, m_36, m_37, m_38, m_39, m_40, m_41, m_42, m_43, m_44, m_45, m_46, m_47, m_48, m_49, m_50, m_51, m_52, m_53, m_54, m_55, m_56, m_57, m_58, m_59])), (w0, .inl (K 0, 5500, .inl fw))] sz)) 0 0 (va_A [(m0, .inr (12, [.int thr, m_1, m_2, .ref w0, m_4, m_5, m_6, m_7, m_8, m_9, m_10, m_11, m_12, m_13, m_14, m_15, m_16, m_17, m_18, m_19, m_20, m_21, m_22, m_23, m_24, m_25, m_26, m_27, m_28, m_29, m_30, m_31, m_32, m_33, m_34, m_35, m_36, m_37, m_38, m_39, m_40, m_41, m_42, m_43, m_44, m_45, m_46, m_47, m_48, m_49, m_50, m_51, m_52, m_53, m_54, m_55, m_56, m_57, m_58, m_59])), (w0, .inl (K 0, 5500, .inl fw))] sz) := by
  refine Met.ofW (cc := cX12_forget) (maxL := 2) (ret := (some .int)) (by decide) rfl ?_
  intro p e s m args below meth c s₁ B hml hv
  obtain ⟨rfl, hsz, hP, hK, hD0, hN⟩ := hv
  have hx := B.exec
  have hb := B.bytes
  have hr := B.returns
  have hts := atoms_spec (ws := wsX12_forget) B.pre
  have hown : s.vm.findClass RX12 = some m.cls := findClass_of_methodNamed B.named
  have hlocks := B.notSynchronized
  subst hsz
  have hD := hD0.self (sz := s.heap.size)
  generalize hAe : va_A [(m0, .inr (12, [.int thr, m_1, m_2, .ref w0, m_4, m_5, m_6, m_7, m_8, m_9, m_10, m_11, m_12, m_13, m_14, m_15, m_16, m_17, m_18, m_19, m_20, m_21, m_22, m_23, m_24, m_25, m_26, m_27, m_28, m_29, m_30, m_31, m_32, m_33, m_34, m_35, m_36, m_37, m_38, m_39, m_40, m_41, m_42, m_43, m_44, m_45, m_46, m_47, m_48, m_49, m_50, m_51, m_52, m_53, m_54, m_55, m_56, m_57, m_58, m_59])), (w0, .inl (K 0, 5500, .inl fw))] s.heap.size = A at hD ⊢
  have hA : ∀ q : Nat, s.heap.size ≤ q → A q := fun q h => by rw [← hAe]; exact Or.inr h
  have hS : va_S A s.heap s.heap [] := va_S.rf
  have hP : va_P D vwCl [(m0, .inr (12, [.int thr, m_1, m_2, .ref w0, m_4, m_5, m_6, m_7, m_8, m_9, m_10, m_11, m_12, m_13, m_14, m_15, m_16, m_17, m_18, m_19, m_20, m_21, m_22, m_23, m_24, m_25, m_26, m_27, m_28, m_29, m_30, m_31, m_32, m_33, m_34, m_35, m_36, m_37, m_38, m_39, m_40, m_41, m_42, m_43, m_44, m_45, m_46, m_47, m_48, m_49, m_50, m_51, m_52, m_53, m_54, m_55, m_56, m_57, m_58, m_59])), (w0, .inl (K 0, 5500, .inl fw))] s.heap := hP
  have hl := lv_entry [.ref m0] (n := 2) (Nat.le_of_ble_eq_true rfl)
  rw [lg_entry_eq]
  generalize (lg_sl [.ref m0] ++ List.replicate (2 - (lg_sl [.ref m0]).length) Slot.unset).toArray = ls at hl ⊢
  have hl : lv_has ls 2 [(0, .ref m0)] := hl
  have hw12 : ∀ w ∈ wsX120, w ∈ wsX12_forget := fun w h => (List.mem_cons_of_mem _ (List.mem_append_right _ h))
  generalize hQ : MQ below _ _ s _ _ _ = Q
  refine lv_aload_n hx hb dX12_forget_0 rfl (lv_at hl 0 rfl) ?_
  refine lv_iconst (v := 0) hx hb dX12_forget_1 (by decide) ?_
  refine va_put (ci := 12) (v := .int 0) (ty := .int) (C := RX12) (T := TX12) (N := 60) hx hb hts hw12 tyX12 tyX12_ok nmX12 hown hK hP hD hS 0 rfl rfl 0 (by decide) (hts (.fieldLink RX12 158 "SmokeTuneModel" "thrown" "I") (List.mem_cons_of_mem _ (List.mem_append_left _ (List.mem_of_getElem? (i := 0) rfl)))) (fun _ h9 => h9) rfl (by decide +kernel) (by first | rfl | decide) (by first | rfl | decide) (Nat.le_of_ble_eq_true rfl) dX12_forget_2 (fun H locs hP hD hS => ?_)
  have hP : va_P D vwCl [(m0, .inr (12, [.int 0, m_1, m_2, .ref w0, m_4, m_5, m_6, m_7, m_8, m_9, m_10, m_11, m_12, m_13, m_14, m_15, m_16, m_17, m_18, m_19, m_20, m_21, m_22, m_23, m_24, m_25, m_26, m_27, m_28, m_29, m_30, m_31, m_32, m_33, m_34, m_35, m_36, m_37, m_38, m_39, m_40, m_41, m_42, m_43, m_44, m_45, m_46, m_47, m_48, m_49, m_50, m_51, m_52, m_53, m_54, m_55, m_56, m_57, m_58, m_59])), (w0, .inl (K 0, 5500, .inl fw))] H := hP
  have hD : va_D A [(m0, .inr (12, [.int 0, m_1, m_2, .ref w0, m_4, m_5, m_6, m_7, m_8, m_9, m_10, m_11, m_12, m_13, m_14, m_15, m_16, m_17, m_18, m_19, m_20, m_21, m_22, m_23, m_24, m_25, m_26, m_27, m_28, m_29, m_30, m_31, m_32, m_33, m_34, m_35, m_36, m_37, m_38, m_39, m_40, m_41, m_42, m_43, m_44, m_45, m_46, m_47, m_48, m_49, m_50, m_51, m_52, m_53, m_54, m_55, m_56, m_57, m_58, m_59])), (w0, .inl (K 0, 5500, .inl fw))] := hD
  refine lv_aload_n hx hb dX12_forget_5 rfl (lv_at hl 0 rfl) ?_
  refine va_get (ci := 12) (v := .ref w0) (C := RX12) (T := TX12) (N := 60) hx hb hts hw12 hown hK hP 0 rfl rfl 3 (by decide) (hts (.fieldLink RX12 13 "SmokeTuneModel" "row" "[I") (List.mem_cons_of_mem _ (List.mem_append_left _ (List.mem_of_getElem? (i := 1) rfl)))) (fun _ h9 => h9) rfl dX12_forget_6 ?_
  refine lv_iconst (v := 1) hx hb dX12_forget_9 (by decide) ?_
  refine va_iald hx hb hK hP 1 0 rfl rfl (i_in (x := 1) rfl (by omega)) dX12_forget_10 ?_
  refine lv_topi (fun x_65 ex_65 => ?_)
  have px_65 := RwOK.at zfw (show (1 : Int32).toInt = 1 from rfl) (show 0 ≤ 1 ∧ 1 < 100 by omega)
  rw [← ex_65] at px_65
  have hx_65 := PR.r_1 px_65 (by omega)
  refine lv_istore_n (lv' := [(1, .int x_65), (0, .ref m0)]) hx hb dX12_forget_11 rfl hl (by decide) rfl (fun ls hl => ?_)
  refine lv_aload_n hx hb dX12_forget_12 rfl (lv_at hl 1 rfl) ?_
  refine va_get (ci := 12) (v := .ref w0) (C := RX12) (T := TX12) (N := 60) hx hb hts hw12 hown hK hP 0 rfl rfl 3 (by decide) (hts (.fieldLink RX12 13 "SmokeTuneModel" "row" "[I") (List.mem_cons_of_mem _ (List.mem_append_left _ (List.mem_of_getElem? (i := 1) rfl)))) (fun _ h9 => h9) rfl dX12_forget_13 ?_
  refine lv_iconst (v := 1) hx hb dX12_forget_16 (by decide) ?_
  refine lv_iconst (v := 0) hx hb dX12_forget_17 (by decide) ?_
  refine va_iast hx hb hK hP hD hS 1 0 rfl rfl (i_in (x := 1) rfl (by omega)) dX12_forget_18 (fun H locs hP hD hS => ?_)
  generalize hf_66 : (upd fw (1 : Int32).toNatClampNeg 0) = f_66 at hP hD
  have hf_66_0 : RwOK f_66 := by rw [← hf_66]; exact RwOK.upd zfw (show (1 : Int32).toInt = 1 from rfl) (by omega) (show (0 : Int32).toInt = 0 from rfl) (PR.w_1 (by omega) (by omega))
  have hP : va_P D vwCl [(m0, .inr (12, [.int 0, m_1, m_2, .ref w0, m_4, m_5, m_6, m_7, m_8, m_9, m_10, m_11, m_12, m_13, m_14, m_15, m_16, m_17, m_18, m_19, m_20, m_21, m_22, m_23, m_24, m_25, m_26, m_27, m_28, m_29, m_30, m_31, m_32, m_33, m_34, m_35, m_36, m_37, m_38, m_39, m_40, m_41, m_42, m_43, m_44, m_45, m_46, m_47, m_48, m_49, m_50, m_51, m_52, m_53, m_54, m_55, m_56, m_57, m_58, m_59])), (w0, .inl (K 0, 5500, .inl f_66))] H := hP
  have hD : va_D A [(m0, .inr (12, [.int 0, m_1, m_2, .ref w0, m_4, m_5, m_6, m_7, m_8, m_9, m_10, m_11, m_12, m_13, m_14, m_15, m_16, m_17, m_18, m_19, m_20, m_21, m_22, m_23, m_24, m_25, m_26, m_27, m_28, m_29, m_30, m_31, m_32, m_33, m_34, m_35, m_36, m_37, m_38, m_39, m_40, m_41, m_42, m_43, m_44, m_45, m_46, m_47, m_48, m_49, m_50, m_51, m_52, m_53, m_54, m_55, m_56, m_57, m_58, m_59])), (w0, .inl (K 0, 5500, .inl f_66))] := hD
  refine lv_iload_n hx hb dX12_forget_19 rfl (lv_at hl 0 rfl) ?_
  subst hQ
  have hP9 := hP.sub (ws' := [(m0, .inr (12, [.int 0, m_1, m_2, .ref w0, m_4, m_5, m_6, m_7, m_8, m_9, m_10, m_11, m_12, m_13, m_14, m_15, m_16, m_17, m_18, m_19, m_20, m_21, m_22, m_23, m_24, m_25, m_26, m_27, m_28, m_29, m_30, m_31, m_32, m_33, m_34, m_35, m_36, m_37, m_38, m_39, m_40, m_41, m_42, m_43, m_44, m_45, m_46, m_47, m_48, m_49, m_50, m_51, m_52, m_53, m_54, m_55, m_56, m_57, m_58, m_59])), (w0, .inl (K 0, 5500, .inl f_66))]) [0, 1] rfl
  have hD9 := hD.sub (ws' := [(m0, .inr (12, [.int 0, m_1, m_2, .ref w0, m_4, m_5, m_6, m_7, m_8, m_9, m_10, m_11, m_12, m_13, m_14, m_15, m_16, m_17, m_18, m_19, m_20, m_21, m_22, m_23, m_24, m_25, m_26, m_27, m_28, m_29, m_30, m_31, m_32, m_33, m_34, m_35, m_36, m_37, m_38, m_39, m_40, m_41, m_42, m_43, m_44, m_45, m_46, m_47, m_48, m_49, m_50, m_51, m_52, m_53, m_54, m_55, m_56, m_57, m_58, m_59])), (w0, .inl (K 0, 5500, .inl f_66))]) [0, 1] (by decide) rfl
  exact W.iret (v := x_65) hx hb hr (fun t ht hW => ⟨⟨x_65, ((fun _ => 0, fun i => match i with | _ => f_66, fun _ => fun _ => 0, fun _ => 0, fun _ => 0, fun _ => fun _ => none) : Su), rfl, ⟨(show 0 ≤ x_65.toInt ∧ x_65.toInt ≤ 6 by omega), hf_66_0, trivial⟩, (⟨by rw [ht]; exact hP9, hD9⟩ : Wd D A _ t)⟩, hS.F ht⟩) hS.2.2 dX12_forget_20
set_option maxHeartbeats 4000000 in
set_option maxRecDepth 100000 in
theorem v_isAsHeard (l : Launch) (D : va_G) (K : Nat → ClassId) (m0 : Nat) (x : Int32) (m_0 : Value) (m_1 : Value) (m_2 : Value) (w0 : Nat) (m_4 : Value) (m_5 : Value) (m_6 : Value) (m_7 : Value) (m_8 : Value) (m_9 : Value) (m_10 : Value) (m_11 : Value) (m_12 : Value) (m_13 : Value) (m_14 : Value) (m_15 : Value) (m_16 : Value) (m_17 : Value) (m_18 : Value) (m_19 : Value) (m_20 : Value) (m_21 : Value) (m_22 : Value) (m_23 : Value) (m_24 : Value) (m_25 : Value) (m_26 : Value) (m_27 : Value) (m_28 : Value) (m_29 : Value) (m_30 : Value) (m_31 : Value) (m_32 : Value) (m_33 : Value) (m_34 : Value) (m_35 : Value) (m_36 : Value) (m_37 : Value) (m_38 : Value) (m_39 : Value) (m_40 : Value) (m_41 : Value) (m_42 : Value) (m_43 : Value) (m_44 : Value) (m_45 : Value) (m_46 : Value) (m_47 : Value) (m_48 : Value) (m_49 : Value) (m_50 : Value) (m_51 : Value) (m_52 : Value) (m_53 : Value) (m_54 : Value) (m_55 : Value) (m_56 : Value) (m_57 : Value) (m_58 : Value) (m_59 : Value) (fw : Nat → Int32) (sz : Nat) (zfw : RwOK fw) : Met l yX12_isAsHeard wsX12_isAsHeard ({ frames := 1, cells := 0, slots := 0, locals := 21 }) (va_Pc [.ref m0, .int x] (Pre D K [(m0, .inr (12, [m_0, m_1, m_2, .ref w0, m_4, m_5, m_6, m_7, m_8, m_9, m_10, m_11, m_12, m_13, m_14, m_15, m_16, m_17, m_18, m_19, m_20, m_21, m_22, m_23, m_24, m_25, m_26, m_27, m_28, m_29, m_30, m_31, m_32, m_33, m_34, m_35, m_36, m_37, m_38, m_39, m_40, m_41, m_42, m_43, m_44, m_45, m_46, m_47, m_48, m_49, m_50, m_51, m_52, m_53, m_54, m_55, m_56, m_57, m_58, m_59])), (w0, .inl (K 0, 5500, .inl fw))] sz)) (vp_Si (fun r : Int32 => (0 ≤ r.toInt ∧ r.toInt ≤ 1) ∧ True)) 0 0 (fun _ => False) := by
  refine Met.ofW (cc := cX12_isAsHeard) (maxL := 5) (ret := (some .boolean)) (by decide) rfl ?_
  intro p e s m args below meth c s₁ B hml hv
  obtain ⟨rfl, hsz, hP, hK, hD0, hN⟩ := hv
  have hx := B.exec
  have hb := B.bytes
  have hr := B.returns
  have hts := atoms_spec (ws := wsX12_isAsHeard) B.pre
  have hown : s.vm.findClass RX12 = some m.cls := findClass_of_methodNamed B.named
  have hlocks := B.notSynchronized
  subst hsz
  have hD := hD0
  have hP : va_P D vwCl [(m0, .inr (12, [m_0, m_1, m_2, .ref w0, m_4, m_5, m_6, m_7, m_8, m_9, m_10, m_11, m_12, m_13, m_14, m_15, m_16, m_17, m_18, m_19, m_20, m_21, m_22, m_23, m_24, m_25, m_26, m_27, m_28, m_29, m_30, m_31, m_32, m_33, m_34, m_35, m_36, m_37, m_38, m_39, m_40, m_41, m_42, m_43, m_44, m_45, m_46, m_47, m_48, m_49, m_50, m_51, m_52, m_53, m_54, m_55, m_56, m_57, m_58, m_59])), (w0, .inl (K 0, 5500, .inl fw))] s.heap := hP
  have hl := lv_entry [.ref m0, .int x] (n := 5) (Nat.le_of_ble_eq_true rfl)
  rw [lg_entry_eq]
  generalize (lg_sl [.ref m0, .int x] ++ List.replicate (5 - (lg_sl [.ref m0, .int x]).length) Slot.unset).toArray = ls at hl ⊢
  have hl : lv_has ls 5 [(0, .ref m0), (1, .int x)] := hl
  have hw12 : ∀ w ∈ wsX120, w ∈ wsX12_isAsHeard := fun w h => (List.mem_cons_of_mem _ (List.mem_append_right _ h))
  generalize hQ : MQ below _ _ s _ _ _ = Q
  refine lv_iconst (v := 0) hx hb dX12_isAsHeard_0 (by decide) ?_
  refine lv_istore_n (lv' := [(2, .int 0), (0, .ref m0), (1, .int x)]) hx hb dX12_isAsHeard_1 rfl hl (by decide) rfl (fun ls hl => ?_)
  refine lv_iconst (v := 0) hx hb dX12_isAsHeard_2 (by decide) ?_
  refine lv_istore_n (lv' := [(3, .int 0), (2, .int 0), (0, .ref m0), (1, .int x)]) hx hb dX12_isAsHeard_3 rfl hl (by decide) rfl (fun ls hl => ?_)
  have lp_402 : ∀ (nn_ : Nat) (v_386 : Int32) (v_387 : Int32) (hv_386 : 0 ≤ v_386.toInt ∧ v_386.toInt ≤ 6) (hn : (7 - v_386.toInt : Int).toNat < nn_) (ls : Array Slot) (hl : lv_has ls 5 [(3, .int v_386), (2, .int v_387), (0, .ref m0), (1, .int x)]), W p l e ({ frames := 1, cells := 0, slots := 0, locals := 21 }) s m (([.ref m0, .int x] : List Value).toArray) below meth c s.heap [] 0 0 Q (F0 m 4 ls []) := by
    intro nn_
    induction nn_ with
    | zero =>
      intro v_386 v_387 hv_386 hn ls hl
      exact absurd hn (Nat.not_lt_zero _)
    | succ nn_ ih_403 =>
      intro v_386 v_387 hv_386 hn ls hl
      refine lv_iload_n hx hb dX12_isAsHeard_4 rfl (lv_at hl 0 rfl) ?_
      refine lv_aload_n hx hb dX12_isAsHeard_5 rfl (lv_at hl 2 rfl) ?_
      refine va_get (ci := 12) (v := .ref w0) (C := RX12) (T := TX12) (N := 60) hx hb hts hw12 hown hK hP 0 rfl rfl 3 (by decide) (hts (.fieldLink RX12 13 "SmokeTuneModel" "row" "[I") (List.mem_cons_of_mem _ (List.mem_append_left _ (List.mem_of_getElem? (i := 0) rfl)))) (fun _ h9 => h9) rfl dX12_isAsHeard_6 ?_
      refine lv_iconst (v := 1) hx hb dX12_isAsHeard_9 (by decide) ?_
      refine va_iald hx hb hK hP 1 0 rfl rfl (i_in (x := 1) rfl (by omega)) dX12_isAsHeard_10 ?_
      refine lv_topi (fun x_404 ex_404 => ?_)
      have px_404 := RwOK.at zfw (show (1 : Int32).toInt = 1 from rfl) (show 0 ≤ 1 ∧ 1 < 100 by omega)
      rw [← ex_404] at px_404
      have hx_404 := PR.r_1 px_404 (by omega)
      refine lv_icmp_ge (tgt := 32) hx hb dX12_isAsHeard_11 (by decide) (fun c_405 => ?_) (fun c_405 => ?_)
      · have c_405i := i_le (x := x_404.toInt) (y := v_386.toInt) rfl rfl c_405
        refine lv_iconst (v := 0) hx hb dX12_isAsHeard_32 (by decide) ?_
        refine lv_istore_n (lv' := [(3, .int 0), (2, .int v_387), (0, .ref m0), (1, .int x)]) hx hb dX12_isAsHeard_33 rfl hl (by decide) rfl (fun ls hl => ?_)
        refine lv_iconst (v := 0) hx hb dX12_isAsHeard_34 (by decide) ?_
        refine lv_istore (lv' := [(4, .int 0), (3, .int 0), (2, .int v_387), (0, .ref m0), (1, .int x)]) hx hb dX12_isAsHeard_35 hl (by decide) rfl (fun ls hl => ?_)
        have lp_486 : ∀ (nn_ : Nat) (v_458 : Int32) (v_459 : Int32) (hv_458 : 0 ≤ v_458.toInt ∧ v_458.toInt ≤ 8) (hv_459 : 0 ≤ v_459.toInt ∧ v_459.toInt ≤ 127) (hn : (9 - v_458.toInt : Int).toNat < nn_) (ls : Array Slot) (hl : lv_has ls 5 [(4, .int v_458), (3, .int v_459), (2, .int v_387), (0, .ref m0), (1, .int x)]), W p l e ({ frames := 1, cells := 0, slots := 0, locals := 21 }) s m (([.ref m0, .int x] : List Value).toArray) below meth c s.heap [] 0 0 Q (F0 m 37 ls []) := by
          intro nn_
          induction nn_ with
          | zero =>
            intro v_458 v_459 hv_458 hv_459 hn ls hl
            exact absurd hn (Nat.not_lt_zero _)
          | succ nn_ ih_487 =>
            intro v_458 v_459 hv_458 hv_459 hn ls hl
            refine lv_iload hx hb dX12_isAsHeard_37 (lv_at hl 0 rfl) ?_
            refine lv_aload_n hx hb dX12_isAsHeard_39 rfl (lv_at hl 3 rfl) ?_
            refine va_get (ci := 12) (v := .ref w0) (C := RX12) (T := TX12) (N := 60) hx hb hts hw12 hown hK hP 0 rfl rfl 3 (by decide) (hts (.fieldLink RX12 13 "SmokeTuneModel" "row" "[I") (List.mem_cons_of_mem _ (List.mem_append_left _ (List.mem_of_getElem? (i := 0) rfl)))) (fun _ h9 => h9) rfl dX12_isAsHeard_40 ?_
            refine lv_iconst (v := 0) hx hb dX12_isAsHeard_43 (by decide) ?_
            refine va_iald hx hb hK hP 1 0 rfl rfl (i_in (x := 0) rfl (by omega)) dX12_isAsHeard_44 ?_
            refine lv_topi (fun x_488 ex_488 => ?_)
            have px_488 := RwOK.at zfw (show (0 : Int32).toInt = 0 from rfl) (show 0 ≤ 0 ∧ 0 < 100 by omega)
            rw [← ex_488] at px_488
            have hx_488 := PR.r_0 px_488 (by omega)
            refine lv_icmp_ge (tgt := 82) hx hb dX12_isAsHeard_45 (by decide) (fun c_489 => ?_) (fun c_489 => ?_)
            · have c_489i := i_le (x := x_488.toInt) (y := v_458.toInt) rfl rfl c_489
              refine lv_iload_n hx hb dX12_isAsHeard_82 rfl (lv_at hl 1 rfl) ?_
              refine lv_iload_n hx hb dX12_isAsHeard_83 rfl (lv_at hl 2 rfl) ?_
              refine lv_icmp_ne (tgt := 91) hx hb dX12_isAsHeard_84 (by decide) (fun c_490 => ?_) (fun c_490 => ?_)
              · have c_490i := i_ne (x := v_459.toInt) (y := v_387.toInt) rfl rfl c_490
                refine lv_iconst (v := 0) hx hb dX12_isAsHeard_91 (by decide) ?_
                subst hQ
                exact W.zret (v := 0) hx hb hr (by decide) (fun t ht hW => ⟨_, rfl, ⟨(show 0 ≤ (0 : Int32).toInt ∧ (0 : Int32).toInt ≤ 1 by decide), trivial⟩, ht⟩) (fun q hq => by cases hq) dX12_isAsHeard_92
              · have c_490i := i_eq (x := v_459.toInt) (y := v_387.toInt) rfl rfl c_490
                refine lv_iconst (v := 1) hx hb dX12_isAsHeard_87 (by decide) ?_
                refine lv_goto (tgt := 92) hx hb dX12_isAsHeard_88 (by decide) ?_
                subst hQ
                exact W.zret (v := 1) hx hb hr (by decide) (fun t ht hW => ⟨_, rfl, ⟨(show 0 ≤ (1 : Int32).toInt ∧ (1 : Int32).toInt ≤ 1 by decide), trivial⟩, ht⟩) (fun q hq => by cases hq) dX12_isAsHeard_92
            · have c_489i := i_nle (x := x_488.toInt) (y := v_458.toInt) rfl rfl c_489
              refine lv_iload_n hx hb dX12_isAsHeard_48 rfl (lv_at hl 1 rfl) ?_
              refine lv_iload_n hx hb dX12_isAsHeard_49 rfl (lv_at hl 4 rfl) ?_
              refine lv_iload hx hb dX12_isAsHeard_50 (lv_at hl 0 rfl) ?_
              refine pci (va_runS (As := [.int x, .int v_458]) (rest := [.int v_459]) ⟨hx, hb, hml, hown, hts⟩ (v_is l D K x v_458 s.heap.size) (va_cwS 2 hts gX12_isAsHeard_X12_is rfl rfl rfl (by decide +kernel) ⟨Nat.le_of_ble_eq_true rfl, Nat.le_of_ble_eq_true rfl⟩) (mkS hK hN (va_P.nil) (va_D.nil (A := fun _ => True))) rfl rfl hl.1 rfl (lv_room (Nat.le_of_ble_eq_true rfl)) dX12_isAsHeard_52 ⟨Nat.le_of_ble_eq_true rfl, Nat.le_of_ble_eq_true rfl⟩) (fun r_491 hw => ?_)
              obtain ⟨h_492, -⟩ := hw
              refine lv_if_eq (tgt := 73) hx hb dX12_isAsHeard_55 (by decide) (fun c_493 => ?_) (fun c_493 => ?_)
              · have c_493i := i_eq (x := r_491.toInt) (y := 0) rfl rfl c_493
                refine lv_iconst (v := 0) hx hb dX12_isAsHeard_73 (by decide) ?_
                refine lv_ior hx hb dX12_isAsHeard_74 ?_
                refine lv_topi (fun x_494 ex_494 => ?_)
                have hx_494 : 0 ≤ x_494.toInt ∧ x_494.toInt < 128 := by rw [ex_494]; exact i_or (k := 7) rfl (show (0 : Int32).toInt = 0 from rfl) (by decide) (by omega) (by omega)
                refine lv_istore_n (lv' := [(3, .int x_494), (4, .int v_458), (2, .int v_387), (0, .ref m0), (1, .int x)]) hx hb dX12_isAsHeard_75 rfl hl (by decide) rfl (fun ls hl => ?_)
                obtain ⟨x_495, ex_495⟩ : ∃ y : Int32, y = v_458 + Int32.ofInt 1 := ⟨_, rfl⟩
                have hx_495 : x_495.toInt = (v_458.toInt + 1) := by rw [ex_495]; exact i_add rfl (show (Int32.ofInt 1).toInt = 1 from rfl) (by omega)
                refine lv_iinc (v := x_495) (lv' := [(4, .int x_495), (3, .int x_494), (2, .int v_387), (0, .ref m0), (1, .int x)]) hx hb dX12_isAsHeard_76 hl (k := 1) rfl (by rw [ex_495]) (by decide) rfl (fun ls hl => ?_)
                refine lv_goto (tgt := 37) hx hb dX12_isAsHeard_79 (by decide) ?_
                exact ih_487 x_495 x_494 (by rw [hx_495]; omega) (by omega) (by omega) ls (lv_sub hl [0, 1, 2, 3, 4] rfl)
              · have c_493i := i_ne (x := r_491.toInt) (y := 0) rfl rfl c_493
                refine lv_iconst (v := 1) hx hb dX12_isAsHeard_58 (by decide) ?_
                refine lv_aload_n hx hb dX12_isAsHeard_59 rfl (lv_at hl 3 rfl) ?_
                refine va_get (ci := 12) (v := .ref w0) (C := RX12) (T := TX12) (N := 60) hx hb hts hw12 hown hK hP 0 rfl rfl 3 (by decide) (hts (.fieldLink RX12 13 "SmokeTuneModel" "row" "[I") (List.mem_cons_of_mem _ (List.mem_append_left _ (List.mem_of_getElem? (i := 0) rfl)))) (fun _ h9 => h9) rfl dX12_isAsHeard_60 ?_
                refine lv_bipush (v := 35) hx hb dX12_isAsHeard_63 (by decide) ?_
                refine lv_iload hx hb dX12_isAsHeard_65 (lv_at hl 0 rfl) ?_
                refine lv_iadd hx hb dX12_isAsHeard_67 ?_
                refine lv_topi (fun x_496 ex_496 => ?_)
                have hx_496 : x_496.toInt = (35 + v_458.toInt) := by rw [ex_496]; exact i_add (show (35 : Int32).toInt = 35 from rfl) rfl (by omega)
                refine va_iald hx hb hK hP 1 0 rfl rfl (i_in hx_496 (by omega)) dX12_isAsHeard_68 ?_
                refine lv_topi (fun x_497 ex_497 => ?_)
                have px_497 := RwOK.at zfw hx_496 (show 0 ≤ (35 + v_458.toInt) ∧ (35 + v_458.toInt) < 100 by omega)
                rw [← ex_497] at px_497
                have hx_497 := PR.r_35 px_497 (by omega)
                refine lv_ishl hx hb dX12_isAsHeard_69 ?_
                refine lv_topi (fun x_498 ex_498 => ?_)
                have hx_498 : 1 ≤ x_498.toInt ∧ x_498.toInt ≤ 64 := by rw [ex_498]; exact i_shl1 rfl (n := 6) (by decide) (by omega)
                refine lv_goto (tgt := 74) hx hb dX12_isAsHeard_70 (by decide) ?_
                refine lv_ior hx hb dX12_isAsHeard_74 ?_
                refine lv_topi (fun x_499 ex_499 => ?_)
                have hx_499 : 0 ≤ x_499.toInt ∧ x_499.toInt < 128 := by rw [ex_499]; exact i_or (k := 7) rfl rfl (by decide) (by omega) (by omega)
                refine lv_istore_n (lv' := [(3, .int x_499), (4, .int v_458), (2, .int v_387), (0, .ref m0), (1, .int x)]) hx hb dX12_isAsHeard_75 rfl hl (by decide) rfl (fun ls hl => ?_)
                obtain ⟨x_500, ex_500⟩ : ∃ y : Int32, y = v_458 + Int32.ofInt 1 := ⟨_, rfl⟩
                have hx_500 : x_500.toInt = (v_458.toInt + 1) := by rw [ex_500]; exact i_add rfl (show (Int32.ofInt 1).toInt = 1 from rfl) (by omega)
                refine lv_iinc (v := x_500) (lv' := [(4, .int x_500), (3, .int x_499), (2, .int v_387), (0, .ref m0), (1, .int x)]) hx hb dX12_isAsHeard_76 hl (k := 1) rfl (by rw [ex_500]) (by decide) rfl (fun ls hl => ?_)
                refine lv_goto (tgt := 37) hx hb dX12_isAsHeard_79 (by decide) ?_
                exact ih_487 x_500 x_499 (by rw [hx_500]; omega) (by omega) (by omega) ls (lv_sub hl [0, 1, 2, 3, 4] rfl)
        exact lp_486 ((9 - (0 : Int32).toInt : Int).toNat + 1) 0 0 (by decide) (by decide) (Nat.lt_succ_self _) ls (lv_sub hl [0, 1, 2, 3, 4] rfl)
      · have c_405i := i_nle (x := x_404.toInt) (y := v_386.toInt) rfl rfl c_405
        refine lv_iload_n hx hb dX12_isAsHeard_14 rfl (lv_at hl 1 rfl) ?_
        refine lv_aload_n hx hb dX12_isAsHeard_15 rfl (lv_at hl 2 rfl) ?_
        refine va_get (ci := 12) (v := .ref w0) (C := RX12) (T := TX12) (N := 60) hx hb hts hw12 hown hK hP 0 rfl rfl 3 (by decide) (hts (.fieldLink RX12 13 "SmokeTuneModel" "row" "[I") (List.mem_cons_of_mem _ (List.mem_append_left _ (List.mem_of_getElem? (i := 0) rfl)))) (fun _ h9 => h9) rfl dX12_isAsHeard_16 ?_
        refine lv_bipush (v := 91) hx hb dX12_isAsHeard_19 (by decide) ?_
        refine lv_iload_n hx hb dX12_isAsHeard_21 rfl (lv_at hl 0 rfl) ?_
        refine lv_iadd hx hb dX12_isAsHeard_22 ?_
        refine lv_topi (fun x_501 ex_501 => ?_)
        have hx_501 : x_501.toInt = (91 + v_386.toInt) := by rw [ex_501]; exact i_add (show (91 : Int32).toInt = 91 from rfl) rfl (by omega)
        refine va_iald hx hb hK hP 1 0 rfl rfl (i_in hx_501 (by omega)) dX12_isAsHeard_23 ?_
        refine lv_topi (fun x_502 ex_502 => ?_)
        have px_502 := RwOK.at zfw hx_501 (show 0 ≤ (91 + v_386.toInt) ∧ (91 + v_386.toInt) < 100 by omega)
        rw [← ex_502] at px_502
        refine lv_ior hx hb dX12_isAsHeard_24 ?_
        refine lv_topi (fun x_503 ex_503 => ?_)
        refine lv_istore_n (lv' := [(2, .int x_503), (3, .int v_386), (0, .ref m0), (1, .int x)]) hx hb dX12_isAsHeard_25 rfl hl (by decide) rfl (fun ls hl => ?_)
        obtain ⟨x_504, ex_504⟩ : ∃ y : Int32, y = v_386 + Int32.ofInt 1 := ⟨_, rfl⟩
        have hx_504 : x_504.toInt = (v_386.toInt + 1) := by rw [ex_504]; exact i_add rfl (show (Int32.ofInt 1).toInt = 1 from rfl) (by omega)
        refine lv_iinc (v := x_504) (lv' := [(3, .int x_504), (2, .int x_503), (0, .ref m0), (1, .int x)]) hx hb dX12_isAsHeard_26 hl (k := 1) rfl (by rw [ex_504]) (by decide) rfl (fun ls hl => ?_)
        refine lv_goto (tgt := 4) hx hb dX12_isAsHeard_29 (by decide) ?_
        exact ih_403 x_504 x_503 (by rw [hx_504]; omega) (by omega) ls (lv_sub hl [0, 1, 2, 3] rfl)
  exact lp_402 ((7 - (0 : Int32).toInt : Int).toNat + 1) 0 0 (by decide) (Nat.lt_succ_self _) ls (lv_sub hl [0, 1, 2, 3] rfl)
set_option maxHeartbeats 4000000 in
set_option maxRecDepth 100000 in
theorem v_hill (l : Launch) (D : va_G) (K : Nat → ClassId) (m0 : Nat) (x : Int32) (thr : Int32) (m_1 : Value) (m_2 : Value) (w0 : Nat) (m_4 : Value) (m_5 : Value) (m_6 : Value) (m_7 : Value) (m_8 : Value) (m_9 : Value) (m_10 : Value) (m_11 : Value) (m_12 : Value) (m_13 : Value) (m_14 : Value) (m_15 : Value) (m_16 : Value) (m_17 : Value) (m_18 : Value) (m_19 : Value) (m_20 : Value) (m_21 : Value) (m_22 : Value) (m_23 : Value) (m_24 : Value) (m_25 : Value) (m_26 : Value) (m_27 : Value) (m_28 : Value) (m_29 : Value) (m_30 : Value) (m_31 : Value) (m_32 : Value) (m_33 : Value) (m_34 : Value) (m_35 : Value) (m_36 : Value) (m_37 : Value) (m_38 : Value) (m_39 : Value) (m_40 : Value) (m_41 : Value) (m_42 : Value) (m_43 : Value) (m_44 : Value) (m_45 : Value) (m_46 : Value) (m_47 : Value) (m_48 : Value) (m_49 : Value) (m_50 : Value) (m_51 : Value) (m_52 : Value) (m_53 : Value) (m_54 : Value) (m_55 : Value) (m_56 : Value) (m_57 : Value) (m_58 : Value) (m_59 : Value) (fw : Nat → Int32) (sz : Nat) (zfw : RwOK fw) : Met l yX12_hill wsX12_hill ({ frames := 2, cells := 0, slots := 0, locals := 45 }) (va_Pc [.ref m0, .int x] (Pre D K [(m0, .inr (12, [.int thr, m_1, m_2, .ref w0, m_4, m_5, m_6, m_7, m_8, m_9, m_10, m_11, m_12, m_13, m_14, m_15, m_16, m_17, m_18, m_19, m_20, m_21, m_22, m_23, m_24, m_25, m_26, m_27, m_28, m_29, m_30, m_31, m_32, m_33, m_34, m_35, m_36, m_37, m_38, m_39, m_40, m_41, m_42, m_43, m_44, m_45, m_46, m_47, m_48, m_49, m_50, m_51, m_52, m_53, m_54, m_55, m_56, m_57, m_58, m_59])), (w0, .inl (K 0, 5500, .inl fw))] sz)) (va_Qi (S := Su) (fun (r : Int32) (u : Su) => True) (fun u t => Wd D (va_A [(m0, .inr (12, [.int thr, m_1, m_2, .ref w0, m_4, m_5, m_6, m_7, m_8, m_9, m_10, m_11, m_12, m_13, m_14, m_15, m_16, m_17, m_18, m_19, m_20, m_21, m_22, m_23, m_24, m_25, m_26, m_27, m_28, m_29, m_30, m_31, m_32, m_33, m_34, m_35, m_36, m_37, m_38, m_39, m_40, m_41, m_42, m_43, m_44, m_45, m_46, m_47, m_48, m_49, m_50, m_51, m_52, m_53, m_54, m_55, m_56, m_57, m_58, m_59])), (w0, .inl (K 0, 5500, .inl fw))] sz) ((fun u => [(m0, .inr (12, [.int 0, m_1, m_2, .ref w0, m_4, m_5, m_6, m_7, m_8, m_9, m_10, m_11, m_12, m_13, m_14, m_15, m_16, m_17, m_18, m_19, m_20, m_21, m_22, m_23, m_24, m_25, m_26, m_27, m_28, m_29, m_30, m_31, m_32, m_33, m_34, m_35, m_36, m_37, m_38, m_39, m_40, m_41, m_42, m_43, m_44, m_45, m_46, m_47, m_48, m_49, m_50, m_51, m_52, m_53, m_54, m_55, m_56, m_57, m_58, m_59])), (w0, .inl (K 0, 5500, .inl fw))]) u) t) (va_A [(m0, .inr (12, [.int thr, m_1, m_2, .ref w0, m_4, m_5, m_6, m_7, m_8, m_9, m_10, m_11, m_12, m_13, m_14, m_15, m_16, m_17, m_18, m_19, m_20, m_21, m_22, m_23, m_24, m_25, m_26, m_27, m_28, m_29, m_30, m_31, m_32, m_33, m_34, m_35, m_36, m_37, m_38, m_39, m_40, m_41, m_42, m_43, m_44, m_45, m_46, m_47, m_48, m_49, m_50, m_51, m_52, m_53, m_54, m_55, m_56, m_57, m_58, m_59])), (w0, .inl (K 0, 5500, .inl fw))] sz)) 0 0 (va_A [(m0, .inr (12, [.int thr, m_1, m_2, .ref w0, m_4, m_5, m_6, m_7, m_8, m_9, m_10, m_11, m_12, m_13, m_14, m_15, m_16, m_17, m_18, m_19, m_20, m_21, m_22, m_23, m_24, m_25, m_26, m_27, m_28, m_29, m_30, m_31, m_32, m_33, m_34, m_35, m_36, m_37, m_38, m_39, m_40, m_41, m_42, m_43, m_44, m_45, m_46, m_47, m_48, m_49, m_50, m_51, m_52, m_53, m_54, m_55, m_56, m_57, m_58, m_59])), (w0, .inl (K 0, 5500, .inl fw))] sz) := by
  refine Met.ofW (cc := cX12_hill) (maxL := 5) (ret := (some .int)) (by decide) rfl ?_
  intro p e s m args below meth c s₁ B hml hv
  obtain ⟨rfl, hsz, hP, hK, hD0, hN⟩ := hv
  have hx := B.exec
  have hb := B.bytes
  have hr := B.returns
  have hts := atoms_spec (ws := wsX12_hill) B.pre
  have hown : s.vm.findClass RX12 = some m.cls := findClass_of_methodNamed B.named
  have hlocks := B.notSynchronized
  subst hsz
  have hD := hD0.self (sz := s.heap.size)
  generalize hAe : va_A [(m0, .inr (12, [.int thr, m_1, m_2, .ref w0, m_4, m_5, m_6, m_7, m_8, m_9, m_10, m_11, m_12, m_13, m_14, m_15, m_16, m_17, m_18, m_19, m_20, m_21, m_22, m_23, m_24, m_25, m_26, m_27, m_28, m_29, m_30, m_31, m_32, m_33, m_34, m_35, m_36, m_37, m_38, m_39, m_40, m_41, m_42, m_43, m_44, m_45, m_46, m_47, m_48, m_49, m_50, m_51, m_52, m_53, m_54, m_55, m_56, m_57, m_58, m_59])), (w0, .inl (K 0, 5500, .inl fw))] s.heap.size = A at hD ⊢
  have hA : ∀ q : Nat, s.heap.size ≤ q → A q := fun q h => by rw [← hAe]; exact Or.inr h
  have hS : va_S A s.heap s.heap [] := va_S.rf
  have hP : va_P D vwCl [(m0, .inr (12, [.int thr, m_1, m_2, .ref w0, m_4, m_5, m_6, m_7, m_8, m_9, m_10, m_11, m_12, m_13, m_14, m_15, m_16, m_17, m_18, m_19, m_20, m_21, m_22, m_23, m_24, m_25, m_26, m_27, m_28, m_29, m_30, m_31, m_32, m_33, m_34, m_35, m_36, m_37, m_38, m_39, m_40, m_41, m_42, m_43, m_44, m_45, m_46, m_47, m_48, m_49, m_50, m_51, m_52, m_53, m_54, m_55, m_56, m_57, m_58, m_59])), (w0, .inl (K 0, 5500, .inl fw))] s.heap := hP
  have hl := lv_entry [.ref m0, .int x] (n := 5) (Nat.le_of_ble_eq_true rfl)
  rw [lg_entry_eq]
  generalize (lg_sl [.ref m0, .int x] ++ List.replicate (5 - (lg_sl [.ref m0, .int x]).length) Slot.unset).toArray = ls at hl ⊢
  have hl : lv_has ls 5 [(0, .ref m0), (1, .int x)] := hl
  have hw12 : ∀ w ∈ wsX120, w ∈ wsX12_hill := fun w h => (List.mem_cons_of_mem _ (List.mem_append_right _ h))
  generalize hQ : MQ below _ _ s _ _ _ = Q
  refine lv_aload_n hx hb dX12_hill_0 rfl (lv_at hl 0 rfl) ?_
  refine lv_iconst (v := 0) hx hb dX12_hill_1 (by decide) ?_
  refine va_put (ci := 12) (v := .int 0) (ty := .int) (C := RX12) (T := TX12) (N := 60) hx hb hts hw12 tyX12 tyX12_ok nmX12 hown hK hP hD hS 0 rfl rfl 0 (by decide) (hts (.fieldLink RX12 158 "SmokeTuneModel" "thrown" "I") (List.mem_cons_of_mem _ (List.mem_append_left _ (List.mem_of_getElem? (i := 0) rfl)))) (fun _ h9 => h9) rfl (by decide +kernel) (by first | rfl | decide) (by first | rfl | decide) (Nat.le_of_ble_eq_true rfl) dX12_hill_2 (fun H locs hP hD hS => ?_)
  have hP : va_P D vwCl [(m0, .inr (12, [.int 0, m_1, m_2, .ref w0, m_4, m_5, m_6, m_7, m_8, m_9, m_10, m_11, m_12, m_13, m_14, m_15, m_16, m_17, m_18, m_19, m_20, m_21, m_22, m_23, m_24, m_25, m_26, m_27, m_28, m_29, m_30, m_31, m_32, m_33, m_34, m_35, m_36, m_37, m_38, m_39, m_40, m_41, m_42, m_43, m_44, m_45, m_46, m_47, m_48, m_49, m_50, m_51, m_52, m_53, m_54, m_55, m_56, m_57, m_58, m_59])), (w0, .inl (K 0, 5500, .inl fw))] H := hP
  have hD : va_D A [(m0, .inr (12, [.int 0, m_1, m_2, .ref w0, m_4, m_5, m_6, m_7, m_8, m_9, m_10, m_11, m_12, m_13, m_14, m_15, m_16, m_17, m_18, m_19, m_20, m_21, m_22, m_23, m_24, m_25, m_26, m_27, m_28, m_29, m_30, m_31, m_32, m_33, m_34, m_35, m_36, m_37, m_38, m_39, m_40, m_41, m_42, m_43, m_44, m_45, m_46, m_47, m_48, m_49, m_50, m_51, m_52, m_53, m_54, m_55, m_56, m_57, m_58, m_59])), (w0, .inl (K 0, 5500, .inl fw))] := hD
  refine lv_iconst (v := 0) hx hb dX12_hill_5 (by decide) ?_
  refine lv_istore_n (lv' := [(2, .int 0), (0, .ref m0), (1, .int x)]) hx hb dX12_hill_6 rfl hl (by decide) rfl (fun ls hl => ?_)
  refine lv_iconst (v := (-1)) hx hb dX12_hill_7 (by decide) ?_
  refine lv_istore_n (lv' := [(3, .int (-1)), (2, .int 0), (0, .ref m0), (1, .int x)]) hx hb dX12_hill_8 rfl hl (by decide) rfl (fun ls hl => ?_)
  refine lv_iconst (v := 0) hx hb dX12_hill_9 (by decide) ?_
  refine lv_istore (lv' := [(4, .int 0), (3, .int (-1)), (2, .int 0), (0, .ref m0), (1, .int x)]) hx hb dX12_hill_10 hl (by decide) rfl (fun ls hl => ?_)
  have lp_517 : ∀ (nn_ : Nat) (v_475 : Int32) (v_476 : Int32) (v_477 : Int32) (hv_475 : 0 ≤ v_475.toInt ∧ v_475.toInt ≤ 256) (hv_476 : (-1) ≤ v_476.toInt) (hn : (257 - v_475.toInt : Int).toNat < nn_) (H : Heap) (locs : List Loc) (hP : va_P D vwCl [(m0, .inr (12, [.int 0, m_1, m_2, .ref w0, m_4, m_5, m_6, m_7, m_8, m_9, m_10, m_11, m_12, m_13, m_14, m_15, m_16, m_17, m_18, m_19, m_20, m_21, m_22, m_23, m_24, m_25, m_26, m_27, m_28, m_29, m_30, m_31, m_32, m_33, m_34, m_35, m_36, m_37, m_38, m_39, m_40, m_41, m_42, m_43, m_44, m_45, m_46, m_47, m_48, m_49, m_50, m_51, m_52, m_53, m_54, m_55, m_56, m_57, m_58, m_59])), (w0, .inl (K 0, 5500, .inl fw))] H) (hD : va_D A [(m0, .inr (12, [.int 0, m_1, m_2, .ref w0, m_4, m_5, m_6, m_7, m_8, m_9, m_10, m_11, m_12, m_13, m_14, m_15, m_16, m_17, m_18, m_19, m_20, m_21, m_22, m_23, m_24, m_25, m_26, m_27, m_28, m_29, m_30, m_31, m_32, m_33, m_34, m_35, m_36, m_37, m_38, m_39, m_40, m_41, m_42, m_43, m_44, m_45, m_46, m_47, m_48, m_49, m_50, m_51, m_52, m_53, m_54, m_55, m_56, m_57, m_58, m_59])), (w0, .inl (K 0, 5500, .inl fw))]) (hS : va_S A s.heap H locs) (ls : Array Slot) (hl : lv_has ls 5 [(4, .int v_475), (3, .int v_476), (2, .int v_477), (0, .ref m0), (1, .int x)]), W p l e ({ frames := 2, cells := 0, slots := 0, locals := 45 }) s m (([.ref m0, .int x] : List Value).toArray) below meth c H locs 0 0 Q (F0 m 12 ls []) := by
    intro nn_
    induction nn_ with
    | zero =>
      intro v_475 v_476 v_477 hv_475 hv_476 hn H locs hP hD hS ls hl
      exact absurd hn (Nat.not_lt_zero _)
    | succ nn_ ih_518 =>
      intro v_475 v_476 v_477 hv_475 hv_476 hn H locs hP hD hS ls hl
      refine lv_iload hx hb dX12_hill_12 (lv_at hl 0 rfl) ?_
      refine lv_iconst (v := 1) hx hb dX12_hill_14 (by decide) ?_
      refine lv_aload_n hx hb dX12_hill_15 rfl (lv_at hl 3 rfl) ?_
      refine va_get (ci := 12) (v := .ref w0) (C := RX12) (T := TX12) (N := 60) hx hb hts hw12 hown hK hP 0 rfl rfl 3 (by decide) (hts (.fieldLink RX12 13 "SmokeTuneModel" "row" "[I") (List.mem_cons_of_mem _ (List.mem_append_left _ (List.mem_of_getElem? (i := 1) rfl)))) (fun _ h9 => h9) rfl dX12_hill_16 ?_
      refine lv_iconst (v := 0) hx hb dX12_hill_19 (by decide) ?_
      refine va_iald hx hb hK hP 1 0 rfl rfl (i_in (x := 0) rfl (by omega)) dX12_hill_20 ?_
      refine lv_topi (fun x_519 ex_519 => ?_)
      have px_519 := RwOK.at zfw (show (0 : Int32).toInt = 0 from rfl) (show 0 ≤ 0 ∧ 0 < 100 by omega)
      rw [← ex_519] at px_519
      have hx_519 := PR.r_0 px_519 (by omega)
      refine lv_ishl hx hb dX12_hill_21 ?_
      refine lv_topi (fun x_520 ex_520 => ?_)
      have hx_520 : 1 ≤ x_520.toInt ∧ x_520.toInt ≤ 256 := by rw [ex_520]; exact i_shl1 rfl (n := 8) (by decide) (by omega)
      refine lv_icmp_ge (tgt := 55) hx hb dX12_hill_22 (by decide) (fun c_521 => ?_) (fun c_521 => ?_)
      · have c_521i := i_le (x := x_520.toInt) (y := v_475.toInt) rfl rfl c_521
        refine lv_iload_n hx hb dX12_hill_55 rfl (lv_at hl 4 rfl) ?_
        refine lv_iconst (v := (-1)) hx hb dX12_hill_56 (by decide) ?_
        refine lv_icmp_ne (tgt := 64) hx hb dX12_hill_57 (by decide) (fun c_522 => ?_) (fun c_522 => ?_)
        · have c_522i := i_ne (x := x.toInt) (y := (-1)) rfl rfl c_522
          refine lv_iload_n hx hb dX12_hill_64 rfl (lv_at hl 1 rfl) ?_
          subst hQ
          have hP9 := hP.sub (ws' := [(m0, .inr (12, [.int 0, m_1, m_2, .ref w0, m_4, m_5, m_6, m_7, m_8, m_9, m_10, m_11, m_12, m_13, m_14, m_15, m_16, m_17, m_18, m_19, m_20, m_21, m_22, m_23, m_24, m_25, m_26, m_27, m_28, m_29, m_30, m_31, m_32, m_33, m_34, m_35, m_36, m_37, m_38, m_39, m_40, m_41, m_42, m_43, m_44, m_45, m_46, m_47, m_48, m_49, m_50, m_51, m_52, m_53, m_54, m_55, m_56, m_57, m_58, m_59])), (w0, .inl (K 0, 5500, .inl fw))]) [0, 1] rfl
          have hD9 := hD.sub (ws' := [(m0, .inr (12, [.int 0, m_1, m_2, .ref w0, m_4, m_5, m_6, m_7, m_8, m_9, m_10, m_11, m_12, m_13, m_14, m_15, m_16, m_17, m_18, m_19, m_20, m_21, m_22, m_23, m_24, m_25, m_26, m_27, m_28, m_29, m_30, m_31, m_32, m_33, m_34, m_35, m_36, m_37, m_38, m_39, m_40, m_41, m_42, m_43, m_44, m_45, m_46, m_47, m_48, m_49, m_50, m_51, m_52, m_53, m_54, m_55, m_56, m_57, m_58, m_59])), (w0, .inl (K 0, 5500, .inl fw))]) [0, 1] (by decide) rfl
          exact W.iret (v := v_476) hx hb hr (fun t ht hW => ⟨⟨v_476, ((fun _ => 0, fun _ => fun _ => 0, fun _ => fun _ => 0, fun _ => 0, fun _ => 0, fun _ => fun _ => none) : Su), rfl, trivial, (⟨by rw [ht]; exact hP9, hD9⟩ : Wd D A _ t)⟩, hS.F ht⟩) hS.2.2 dX12_hill_65
        · have c_522i := i_eq (x := x.toInt) (y := (-1)) rfl rfl c_522
          refine lv_iload_n hx hb dX12_hill_60 rfl (lv_at hl 2 rfl) ?_
          refine lv_goto (tgt := 65) hx hb dX12_hill_61 (by decide) ?_
          subst hQ
          have hP9 := hP.sub (ws' := [(m0, .inr (12, [.int 0, m_1, m_2, .ref w0, m_4, m_5, m_6, m_7, m_8, m_9, m_10, m_11, m_12, m_13, m_14, m_15, m_16, m_17, m_18, m_19, m_20, m_21, m_22, m_23, m_24, m_25, m_26, m_27, m_28, m_29, m_30, m_31, m_32, m_33, m_34, m_35, m_36, m_37, m_38, m_39, m_40, m_41, m_42, m_43, m_44, m_45, m_46, m_47, m_48, m_49, m_50, m_51, m_52, m_53, m_54, m_55, m_56, m_57, m_58, m_59])), (w0, .inl (K 0, 5500, .inl fw))]) [0, 1] rfl
          have hD9 := hD.sub (ws' := [(m0, .inr (12, [.int 0, m_1, m_2, .ref w0, m_4, m_5, m_6, m_7, m_8, m_9, m_10, m_11, m_12, m_13, m_14, m_15, m_16, m_17, m_18, m_19, m_20, m_21, m_22, m_23, m_24, m_25, m_26, m_27, m_28, m_29, m_30, m_31, m_32, m_33, m_34, m_35, m_36, m_37, m_38, m_39, m_40, m_41, m_42, m_43, m_44, m_45, m_46, m_47, m_48, m_49, m_50, m_51, m_52, m_53, m_54, m_55, m_56, m_57, m_58, m_59])), (w0, .inl (K 0, 5500, .inl fw))]) [0, 1] (by decide) rfl
          exact W.iret (v := v_477) hx hb hr (fun t ht hW => ⟨⟨v_477, ((fun _ => 0, fun _ => fun _ => 0, fun _ => fun _ => 0, fun _ => 0, fun _ => 0, fun _ => fun _ => none) : Su), rfl, trivial, (⟨by rw [ht]; exact hP9, hD9⟩ : Wd D A _ t)⟩, hS.F ht⟩) hS.2.2 dX12_hill_65
      · have c_521i := i_nle (x := x_520.toInt) (y := v_475.toInt) rfl rfl c_521
        refine lv_aload_n hx hb dX12_hill_25 rfl (lv_at hl 3 rfl) ?_
        refine lv_iload hx hb dX12_hill_26 (lv_at hl 0 rfl) ?_
        refine pci (va_runV (As := [.int v_475]) (rest := []) ⟨hx, hb, hml, hown, hts⟩ (v_isAsHeard l D K m0 v_475 (.int 0) m_1 m_2 w0 m_4 m_5 m_6 m_7 m_8 m_9 m_10 m_11 m_12 m_13 m_14 m_15 m_16 m_17 m_18 m_19 m_20 m_21 m_22 m_23 m_24 m_25 m_26 m_27 m_28 m_29 m_30 m_31 m_32 m_33 m_34 m_35 m_36 m_37 m_38 m_39 m_40 m_41 m_42 m_43 m_44 m_45 m_46 m_47 m_48 m_49 m_50 m_51 m_52 m_53 m_54 m_55 m_56 m_57 m_58 m_59 fw H.size zfw) (cwV 1 hts gX12_hill_X12_isAsHeard rfl rfl rfl (by decide +kernel) ⟨Nat.le_of_ble_eq_true rfl, Nat.le_of_ble_eq_true rfl⟩) (mkV hK hN (hP.sub [0, 1] rfl) (hD.sub [0, 1] (by decide) rfl) (ci := 12) (q0 := 0) rfl rfl) rfl rfl hl.1 rfl (lv_room (Nat.le_of_ble_eq_true rfl)) dX12_hill_28 ⟨Nat.le_of_ble_eq_true rfl, Nat.le_of_ble_eq_true rfl⟩) (fun r_523 hw => ?_)
        obtain ⟨h_524, -⟩ := hw
        have j_532 : ∀ (v_529 : Int32) (v_530 : Int32) (hv_529 : (-1) ≤ v_529.toInt) (H : Heap) (locs : List Loc) (hP : va_P D vwCl [(m0, .inr (12, [.int 0, m_1, m_2, .ref w0, m_4, m_5, m_6, m_7, m_8, m_9, m_10, m_11, m_12, m_13, m_14, m_15, m_16, m_17, m_18, m_19, m_20, m_21, m_22, m_23, m_24, m_25, m_26, m_27, m_28, m_29, m_30, m_31, m_32, m_33, m_34, m_35, m_36, m_37, m_38, m_39, m_40, m_41, m_42, m_43, m_44, m_45, m_46, m_47, m_48, m_49, m_50, m_51, m_52, m_53, m_54, m_55, m_56, m_57, m_58, m_59])), (w0, .inl (K 0, 5500, .inl fw))] H) (hD : va_D A [(m0, .inr (12, [.int 0, m_1, m_2, .ref w0, m_4, m_5, m_6, m_7, m_8, m_9, m_10, m_11, m_12, m_13, m_14, m_15, m_16, m_17, m_18, m_19, m_20, m_21, m_22, m_23, m_24, m_25, m_26, m_27, m_28, m_29, m_30, m_31, m_32, m_33, m_34, m_35, m_36, m_37, m_38, m_39, m_40, m_41, m_42, m_43, m_44, m_45, m_46, m_47, m_48, m_49, m_50, m_51, m_52, m_53, m_54, m_55, m_56, m_57, m_58, m_59])), (w0, .inl (K 0, 5500, .inl fw))]) (hS : va_S A s.heap H locs) (ls : Array Slot) (hl : lv_has ls 5 [(4, .int v_475), (3, .int v_529), (2, .int v_530), (0, .ref m0), (1, .int x)]), W p l e ({ frames := 2, cells := 0, slots := 0, locals := 45 }) s m (([.ref m0, .int x] : List Value).toArray) below meth c H locs 0 0 Q (F0 m 49 ls []) := by
          intro v_529 v_530 hv_529 H locs hP hD hS ls hl
          obtain ⟨x_533, ex_533⟩ : ∃ y : Int32, y = v_475 + Int32.ofInt 1 := ⟨_, rfl⟩
          have hx_533 : x_533.toInt = (v_475.toInt + 1) := by rw [ex_533]; exact i_add rfl (show (Int32.ofInt 1).toInt = 1 from rfl) (by omega)
          refine lv_iinc (v := x_533) (lv' := [(4, .int x_533), (3, .int v_529), (2, .int v_530), (0, .ref m0), (1, .int x)]) hx hb dX12_hill_49 hl (k := 0) rfl (by rw [ex_533]) (by decide) rfl (fun ls hl => ?_)
          refine lv_goto (tgt := 12) hx hb dX12_hill_52 (by decide) ?_
          exact ih_518 x_533 v_529 v_530 (by rw [hx_533]; omega) (by omega) (by omega) _ _ hP hD hS ls (lv_sub hl [0, 1, 2, 3, 4] rfl)
        refine lv_if_eq (tgt := 49) hx hb dX12_hill_31 (by decide) (fun c_534 => ?_) (fun c_534 => ?_)
        · have c_534i := i_eq (x := r_523.toInt) (y := 0) rfl rfl c_534
          exact j_532 v_476 v_477 (by omega) _ _ hP hD hS ls (lv_sub hl [0, 1, 2, 3, 4] rfl)
        · have c_534i := i_ne (x := r_523.toInt) (y := 0) rfl rfl c_534
          refine lv_iload_n hx hb dX12_hill_34 rfl (lv_at hl 2 rfl) ?_
          refine lv_iload_n hx hb dX12_hill_35 rfl (lv_at hl 4 rfl) ?_
          refine lv_icmp_ne (tgt := 44) hx hb dX12_hill_36 (by decide) (fun c_535 => ?_) (fun c_535 => ?_)
          · have c_535i := i_ne (x := v_477.toInt) (y := x.toInt) rfl rfl c_535
            refine lv_iload_n hx hb dX12_hill_44 rfl (lv_at hl 1 rfl) ?_
            refine lv_istore_n (lv' := [(3, .int v_476), (4, .int v_475), (2, .int v_477), (0, .ref m0), (1, .int x)]) hx hb dX12_hill_45 rfl hl (by decide) rfl (fun ls hl => ?_)
            obtain ⟨x_536, ex_536⟩ : ∃ y : Int32, y = v_477 + Int32.ofInt 1 := ⟨_, rfl⟩
            refine lv_iinc (v := x_536) (lv' := [(2, .int x_536), (3, .int v_476), (4, .int v_475), (0, .ref m0), (1, .int x)]) hx hb dX12_hill_46 hl (k := 2) rfl (by rw [ex_536]) (by decide) rfl (fun ls hl => ?_)
            exact j_532 v_476 x_536 (by omega) _ _ hP hD hS ls (lv_sub hl [2, 1, 0, 3, 4] rfl)
          · have c_535i := i_eq (x := v_477.toInt) (y := x.toInt) rfl rfl c_535
            refine lv_iload hx hb dX12_hill_39 (lv_at hl 0 rfl) ?_
            refine lv_goto (tgt := 45) hx hb dX12_hill_41 (by decide) ?_
            refine lv_istore_n (lv' := [(3, .int v_475), (4, .int v_475), (2, .int v_477), (0, .ref m0), (1, .int x)]) hx hb dX12_hill_45 rfl hl (by decide) rfl (fun ls hl => ?_)
            obtain ⟨x_537, ex_537⟩ : ∃ y : Int32, y = v_477 + Int32.ofInt 1 := ⟨_, rfl⟩
            refine lv_iinc (v := x_537) (lv' := [(2, .int x_537), (3, .int v_475), (4, .int v_475), (0, .ref m0), (1, .int x)]) hx hb dX12_hill_46 hl (k := 2) rfl (by rw [ex_537]) (by decide) rfl (fun ls hl => ?_)
            exact j_532 v_475 x_537 (by omega) _ _ hP hD hS ls (lv_sub hl [2, 1, 0, 3, 4] rfl)
  exact lp_517 ((257 - (0 : Int32).toInt : Int).toNat + 1) 0 (-1) 0 (by decide) (by decide) (Nat.lt_succ_self _) _ _ hP hD hS ls (lv_sub hl [0, 1, 2, 3, 4] rfl)
set_option maxHeartbeats 4000000 in
set_option maxRecDepth 100000 in
theorem v_ask (l : Launch) (D : va_G) (K : Nat → ClassId) (m0 : Nat) (x : Int32) (thr : Int32) (m_1 : Value) (m_2 : Value) (w0 : Nat) (m_4 : Value) (m_5 : Value) (m_6 : Value) (m_7 : Value) (m_8 : Value) (m_9 : Value) (m_10 : Value) (m_11 : Value) (m_12 : Value) (m_13 : Value) (m_14 : Value) (m_15 : Value) (m_16 : Value) (m_17 : Value) (m_18 : Value) (m_19 : Value) (m_20 : Value) (m_21 : Value) (m_22 : Value) (m_23 : Value) (m_24 : Value) (m_25 : Value) (m_26 : Value) (m_27 : Value) (m_28 : Value) (m_29 : Value) (m_30 : Value) (m_31 : Value) (m_32 : Value) (m_33 : Value) (m_34 : Value) (m_35 : Value) (m_36 : Value) (m_37 : Value) (m_38 : Value) (m_39 : Value) (m_40 : Value) (m_41 : Value) (m_42 : Value) (m_43 : Value) (m_44 : Value) (m_45 : Value) (m_46 : Value) (m_47 : Value) (m_48 : Value) (b0 : Nat) (m_50 : Value) (m_51 : Value) (m_52 : Value) (m_53 : Value) (m_54 : Value) (m_55 : Value) (m_56 : Value) (m_57 : Value) (m_58 : Value) (m_59 : Value) (fw : Nat → Int32) (fb : Nat → Int32) (sz : Nat) (zfw : RwOK fw) : Met l yX12_ask wsX12_ask ({ frames := 2, cells := 0, slots := 0, locals := 45 }) (va_Pc [.ref m0, .int x] (Pre D K [(m0, .inr (12, [.int thr, m_1, m_2, .ref w0, m_4, m_5, m_6, m_7, m_8, m_9, m_10, m_11, m_12, m_13, m_14, m_15, m_16, m_17, m_18, m_19, m_20, m_21, m_22, m_23, m_24, m_25, m_26, m_27, m_28, m_29, m_30, m_31, m_32, m_33, m_34, m_35, m_36, m_37, m_38, m_39, m_40, m_41, m_42, m_43, m_44, m_45, m_46, m_47, m_48, .ref b0, m_50, m_51, m_52, m_53, m_54, m_55, m_56, m_57, m_58, m_59])), (w0, .inl (K 0, 5500, .inl fw)), (b0, .inl (K 0, 8, .inl fb))] sz)) (va_Qi (S := Su) (fun (r : Int32) (u : Su) => True) (fun u t => Wd D (va_A [(m0, .inr (12, [.int thr, m_1, m_2, .ref w0, m_4, m_5, m_6, m_7, m_8, m_9, m_10, m_11, m_12, m_13, m_14, m_15, m_16, m_17, m_18, m_19, m_20, m_21, m_22, m_23, m_24, m_25, m_26, m_27, m_28, m_29, m_30, m_31, m_32, m_33, m_34, m_35, m_36, m_37, m_38, m_39, m_40, m_41, m_42, m_43, m_44, m_45, m_46, m_47, m_48, .ref b0, m_50, m_51, m_52, m_53, m_54, m_55, m_56, m_57, m_58, m_59])), (w0, .inl (K 0, 5500, .inl fw)), (b0, .inl (K 0, 8, .inl fb))] sz) ((fun u => [(m0, .inr (12, [.int 0, m_1, m_2, .ref w0, m_4, m_5, m_6, m_7, m_8, m_9, m_10, m_11, m_12, m_13, m_14, m_15, m_16, m_17, m_18, m_19, m_20, m_21, m_22, m_23, m_24, m_25, m_26, m_27, m_28, m_29, m_30, m_31, m_32, m_33, m_34, m_35, m_36, m_37, m_38, m_39, m_40, m_41, m_42, m_43, m_44, m_45, m_46, m_47, m_48, .ref b0, m_50, m_51, m_52, m_53, m_54, m_55, m_56, m_57, m_58, m_59])), (w0, .inl (K 0, 5500, .inl fw)), (b0, .inl (K 0, 8, .inl (u.2.1 0)))]) u) t) (va_A [(m0, .inr (12, [.int thr, m_1, m_2, .ref w0, m_4, m_5, m_6, m_7, m_8, m_9, m_10, m_11, m_12, m_13, m_14, m_15, m_16, m_17, m_18, m_19, m_20, m_21, m_22, m_23, m_24, m_25, m_26, m_27, m_28, m_29, m_30, m_31, m_32, m_33, m_34, m_35, m_36, m_37, m_38, m_39, m_40, m_41, m_42, m_43, m_44, m_45, m_46, m_47, m_48, .ref b0, m_50, m_51, m_52, m_53, m_54, m_55, m_56, m_57, m_58, m_59])), (w0, .inl (K 0, 5500, .inl fw)), (b0, .inl (K 0, 8, .inl fb))] sz)) 0 0 (va_A [(m0, .inr (12, [.int thr, m_1, m_2, .ref w0, m_4, m_5, m_6, m_7, m_8, m_9, m_10, m_11, m_12, m_13, m_14, m_15, m_16, m_17, m_18, m_19, m_20, m_21, m_22, m_23, m_24, m_25, m_26, m_27, m_28, m_29, m_30, m_31, m_32, m_33, m_34, m_35, m_36, m_37, m_38, m_39, m_40, m_41, m_42, m_43, m_44, m_45, m_46, m_47, m_48, .ref b0, m_50, m_51, m_52, m_53, m_54, m_55, m_56, m_57, m_58, m_59])), (w0, .inl (K 0, 5500, .inl fw)), (b0, .inl (K 0, 8, .inl fb))] sz) := by
  refine Met.ofW (cc := cX12_ask) (maxL := 7) (ret := (some .int)) (by decide) rfl ?_
  intro p e s m args below meth c s₁ B hml hv
  obtain ⟨rfl, hsz, hP, hK, hD0, hN⟩ := hv
  have hx := B.exec
  have hb := B.bytes
  have hr := B.returns
  have hts := atoms_spec (ws := wsX12_ask) B.pre
  have hown : s.vm.findClass RX12 = some m.cls := findClass_of_methodNamed B.named
  have hlocks := B.notSynchronized
  subst hsz
  have hD := hD0.self (sz := s.heap.size)
  generalize hAe : va_A [(m0, .inr (12, [.int thr, m_1, m_2, .ref w0, m_4, m_5, m_6, m_7, m_8, m_9, m_10, m_11, m_12, m_13, m_14, m_15, m_16, m_17, m_18, m_19, m_20, m_21, m_22, m_23, m_24, m_25, m_26, m_27, m_28, m_29, m_30, m_31, m_32, m_33, m_34, m_35, m_36, m_37, m_38, m_39, m_40, m_41, m_42, m_43, m_44, m_45, m_46, m_47, m_48, .ref b0, m_50, m_51, m_52, m_53, m_54, m_55, m_56, m_57, m_58, m_59])), (w0, .inl (K 0, 5500, .inl fw)), (b0, .inl (K 0, 8, .inl fb))] s.heap.size = A at hD ⊢
  have hA : ∀ q : Nat, s.heap.size ≤ q → A q := fun q h => by rw [← hAe]; exact Or.inr h
  have hS : va_S A s.heap s.heap [] := va_S.rf
  have hP : va_P D vwCl [(m0, .inr (12, [.int thr, m_1, m_2, .ref w0, m_4, m_5, m_6, m_7, m_8, m_9, m_10, m_11, m_12, m_13, m_14, m_15, m_16, m_17, m_18, m_19, m_20, m_21, m_22, m_23, m_24, m_25, m_26, m_27, m_28, m_29, m_30, m_31, m_32, m_33, m_34, m_35, m_36, m_37, m_38, m_39, m_40, m_41, m_42, m_43, m_44, m_45, m_46, m_47, m_48, .ref b0, m_50, m_51, m_52, m_53, m_54, m_55, m_56, m_57, m_58, m_59])), (w0, .inl (K 0, 5500, .inl fw)), (b0, .inl (K 0, 8, .inl fb))] s.heap := hP
  have hl := lv_entry [.ref m0, .int x] (n := 7) (Nat.le_of_ble_eq_true rfl)
  rw [lg_entry_eq]
  generalize (lg_sl [.ref m0, .int x] ++ List.replicate (7 - (lg_sl [.ref m0, .int x]).length) Slot.unset).toArray = ls at hl ⊢
  have hl : lv_has ls 7 [(0, .ref m0), (1, .int x)] := hl
  have hw12 : ∀ w ∈ wsX120, w ∈ wsX12_ask := fun w h => (List.mem_cons_of_mem _ (List.mem_append_right _ h))
  generalize hQ : MQ below _ _ s _ _ _ = Q
  refine lv_aload_n hx hb dX12_ask_0 rfl (lv_at hl 0 rfl) ?_
  refine lv_iconst (v := 0) hx hb dX12_ask_1 (by decide) ?_
  refine va_put (ci := 12) (v := .int 0) (ty := .int) (C := RX12) (T := TX12) (N := 60) hx hb hts hw12 tyX12 tyX12_ok nmX12 hown hK hP hD hS 0 rfl rfl 0 (by decide) (hts (.fieldLink RX12 158 "SmokeTuneModel" "thrown" "I") (List.mem_cons_of_mem _ (List.mem_append_left _ (List.mem_of_getElem? (i := 0) rfl)))) (fun _ h9 => h9) rfl (by decide +kernel) (by first | rfl | decide) (by first | rfl | decide) (Nat.le_of_ble_eq_true rfl) dX12_ask_2 (fun H locs hP hD hS => ?_)
  have hP : va_P D vwCl [(m0, .inr (12, [.int 0, m_1, m_2, .ref w0, m_4, m_5, m_6, m_7, m_8, m_9, m_10, m_11, m_12, m_13, m_14, m_15, m_16, m_17, m_18, m_19, m_20, m_21, m_22, m_23, m_24, m_25, m_26, m_27, m_28, m_29, m_30, m_31, m_32, m_33, m_34, m_35, m_36, m_37, m_38, m_39, m_40, m_41, m_42, m_43, m_44, m_45, m_46, m_47, m_48, .ref b0, m_50, m_51, m_52, m_53, m_54, m_55, m_56, m_57, m_58, m_59])), (w0, .inl (K 0, 5500, .inl fw)), (b0, .inl (K 0, 8, .inl fb))] H := hP
  have hD : va_D A [(m0, .inr (12, [.int 0, m_1, m_2, .ref w0, m_4, m_5, m_6, m_7, m_8, m_9, m_10, m_11, m_12, m_13, m_14, m_15, m_16, m_17, m_18, m_19, m_20, m_21, m_22, m_23, m_24, m_25, m_26, m_27, m_28, m_29, m_30, m_31, m_32, m_33, m_34, m_35, m_36, m_37, m_38, m_39, m_40, m_41, m_42, m_43, m_44, m_45, m_46, m_47, m_48, .ref b0, m_50, m_51, m_52, m_53, m_54, m_55, m_56, m_57, m_58, m_59])), (w0, .inl (K 0, 5500, .inl fw)), (b0, .inl (K 0, 8, .inl fb))] := hD
  refine lv_iload_n hx hb dX12_ask_5 rfl (lv_at hl 1 rfl) ?_
  refine lv_i2l hx hb dX12_ask_6 rfl ?_
  refine lv_topl (fun x_3009 ex_3009 => ?_)
  have hx_3009 : x_3009.toInt = x.toInt := by rw [ex_3009]; exact i_wide rfl
  have hbx_3009 := i_rng (a := x) rfl
  refine lv_lconst (v := 0) hx hb dX12_ask_7 (by decide) ?_
  refine lv_lconst (v := 1) hx hb dX12_ask_8 (by decide) ?_
  refine pci (va_runS (As := [.long x_3009, .long 0, .long 1]) (rest := []) ⟨hx, hb, hml, hown, hts⟩ (v_in l D K x.toInt 0 1 x_3009 0 1 H.size hx_3009 (show (0 : Int64).toInt = 0 from rfl) (show (1 : Int64).toInt = 1 from rfl)) (va_cwS 3 hts gX12_ask_X12_in rfl rfl rfl (by decide +kernel) ⟨Nat.le_of_ble_eq_true rfl, Nat.le_of_ble_eq_true rfl⟩) (mkS hK hN (va_P.nil) (va_D.nil (A := fun _ => True))) rfl rfl hl.1 rfl (lv_room (Nat.le_of_ble_eq_true rfl)) dX12_ask_9 ⟨Nat.le_of_ble_eq_true rfl, Nat.le_of_ble_eq_true rfl⟩) (fun r_3010 hw => ?_)
  obtain ⟨hw, -⟩ := hw
  rcases hw with ⟨rfl, h_3011, h_3012⟩ | ⟨rfl, h_3013⟩
  · refine lv_if_ne (tgt := 17) hx hb dX12_ask_12 (by decide) (fun c_3014 => ?_) (fun c_3014 => absurd c_3014 (by decide))
    refine lv_iconst (v := 0) hx hb dX12_ask_17 (by decide) ?_
    refine lv_istore_n (lv' := [(2, .int 0), (0, .ref m0), (1, .int x)]) hx hb dX12_ask_18 rfl hl (by decide) rfl (fun ls hl => ?_)
    refine lv_iconst (v := 0) hx hb dX12_ask_19 (by decide) ?_
    refine lv_istore_n (lv' := [(3, .int 0), (2, .int 0), (0, .ref m0), (1, .int x)]) hx hb dX12_ask_20 rfl hl (by decide) rfl (fun ls hl => ?_)
    have lp_3042 : ∀ (nn_ : Nat) (v_3032 : Int32) (f_3033 : Nat → Int32) (hv_3032 : 0 ≤ v_3032.toInt ∧ v_3032.toInt ≤ 8) (hn : (9 - v_3032.toInt : Int).toNat < nn_) (H : Heap) (locs : List Loc) (hP : va_P D vwCl [(m0, .inr (12, [.int 0, m_1, m_2, .ref w0, m_4, m_5, m_6, m_7, m_8, m_9, m_10, m_11, m_12, m_13, m_14, m_15, m_16, m_17, m_18, m_19, m_20, m_21, m_22, m_23, m_24, m_25, m_26, m_27, m_28, m_29, m_30, m_31, m_32, m_33, m_34, m_35, m_36, m_37, m_38, m_39, m_40, m_41, m_42, m_43, m_44, m_45, m_46, m_47, m_48, .ref b0, m_50, m_51, m_52, m_53, m_54, m_55, m_56, m_57, m_58, m_59])), (w0, .inl (K 0, 5500, .inl fw)), (b0, .inl (K 0, 8, .inl f_3033))] H) (hD : va_D A [(m0, .inr (12, [.int 0, m_1, m_2, .ref w0, m_4, m_5, m_6, m_7, m_8, m_9, m_10, m_11, m_12, m_13, m_14, m_15, m_16, m_17, m_18, m_19, m_20, m_21, m_22, m_23, m_24, m_25, m_26, m_27, m_28, m_29, m_30, m_31, m_32, m_33, m_34, m_35, m_36, m_37, m_38, m_39, m_40, m_41, m_42, m_43, m_44, m_45, m_46, m_47, m_48, .ref b0, m_50, m_51, m_52, m_53, m_54, m_55, m_56, m_57, m_58, m_59])), (w0, .inl (K 0, 5500, .inl fw)), (b0, .inl (K 0, 8, .inl f_3033))]) (hS : va_S A s.heap H locs) (ls : Array Slot) (hl : lv_has ls 7 [(3, .int v_3032), (2, .int 0), (0, .ref m0), (1, .int x)]), W p l e ({ frames := 2, cells := 0, slots := 0, locals := 45 }) s m (([.ref m0, .int x] : List Value).toArray) below meth c H locs 0 0 Q (F0 m 21 ls []) := by
      intro nn_
      induction nn_ with
      | zero =>
        intro v_3032 f_3033 hv_3032 hn H locs hP hD hS ls hl
        exact absurd hn (Nat.not_lt_zero _)
      | succ nn_ ih_3043 =>
        intro v_3032 f_3033 hv_3032 hn H locs hP hD hS ls hl
        refine lv_iload_n hx hb dX12_ask_21 rfl (lv_at hl 0 rfl) ?_
        refine lv_bipush (v := 8) hx hb dX12_ask_22 (by decide) ?_
        refine lv_icmp_ge (tgt := 40) hx hb dX12_ask_24 (by decide) (fun c_3044 => ?_) (fun c_3044 => ?_)
        · have c_3044i := i_le (x := 8) (y := v_3032.toInt) rfl rfl c_3044
          refine lv_iconst (v := 0) hx hb dX12_ask_40 (by decide) ?_
          refine lv_istore_n (lv' := [(3, .int 0), (2, .int 0), (0, .ref m0), (1, .int x)]) hx hb dX12_ask_41 rfl hl (by decide) rfl (fun ls hl => ?_)
          have lp_3997 : ∀ (nn_ : Nat) (v_3723 : Int32) (v_3724 : Int32) (f_3725 : Nat → Int32) (hv_3723 : 0 ≤ v_3723.toInt ∧ v_3723.toInt ≤ 256) (hn : (257 - v_3723.toInt : Int).toNat < nn_) (H : Heap) (locs : List Loc) (hP : va_P D vwCl [(m0, .inr (12, [.int 0, m_1, m_2, .ref w0, m_4, m_5, m_6, m_7, m_8, m_9, m_10, m_11, m_12, m_13, m_14, m_15, m_16, m_17, m_18, m_19, m_20, m_21, m_22, m_23, m_24, m_25, m_26, m_27, m_28, m_29, m_30, m_31, m_32, m_33, m_34, m_35, m_36, m_37, m_38, m_39, m_40, m_41, m_42, m_43, m_44, m_45, m_46, m_47, m_48, .ref b0, m_50, m_51, m_52, m_53, m_54, m_55, m_56, m_57, m_58, m_59])), (w0, .inl (K 0, 5500, .inl fw)), (b0, .inl (K 0, 8, .inl f_3725))] H) (hD : va_D A [(m0, .inr (12, [.int 0, m_1, m_2, .ref w0, m_4, m_5, m_6, m_7, m_8, m_9, m_10, m_11, m_12, m_13, m_14, m_15, m_16, m_17, m_18, m_19, m_20, m_21, m_22, m_23, m_24, m_25, m_26, m_27, m_28, m_29, m_30, m_31, m_32, m_33, m_34, m_35, m_36, m_37, m_38, m_39, m_40, m_41, m_42, m_43, m_44, m_45, m_46, m_47, m_48, .ref b0, m_50, m_51, m_52, m_53, m_54, m_55, m_56, m_57, m_58, m_59])), (w0, .inl (K 0, 5500, .inl fw)), (b0, .inl (K 0, 8, .inl f_3725))]) (hS : va_S A s.heap H locs) (ls : Array Slot) (hl : lv_has ls 7 [(3, .int v_3723), (2, .int v_3724), (0, .ref m0), (1, .int x)]), W p l e ({ frames := 2, cells := 0, slots := 0, locals := 45 }) s m (([.ref m0, .int x] : List Value).toArray) below meth c H locs 0 0 Q (F0 m 42 ls []) := by
            intro nn_
            induction nn_ with
            | zero =>
              intro v_3723 v_3724 f_3725 hv_3723 hn H locs hP hD hS ls hl
              exact absurd hn (Nat.not_lt_zero _)
            | succ nn_ ih_3998 =>
              intro v_3723 v_3724 f_3725 hv_3723 hn H locs hP hD hS ls hl
              refine lv_iload_n hx hb dX12_ask_42 rfl (lv_at hl 0 rfl) ?_
              refine lv_iconst (v := 1) hx hb dX12_ask_43 (by decide) ?_
              refine lv_aload_n hx hb dX12_ask_44 rfl (lv_at hl 2 rfl) ?_
              refine va_get (ci := 12) (v := .ref w0) (C := RX12) (T := TX12) (N := 60) hx hb hts hw12 hown hK hP 0 rfl rfl 3 (by decide) (hts (.fieldLink RX12 13 "SmokeTuneModel" "row" "[I") (List.mem_cons_of_mem _ (List.mem_append_left _ (List.mem_of_getElem? (i := 2) rfl)))) (fun _ h9 => h9) rfl dX12_ask_45 ?_
              refine lv_iconst (v := 0) hx hb dX12_ask_48 (by decide) ?_
              refine va_iald hx hb hK hP 1 0 rfl rfl (i_in (x := 0) rfl (by omega)) dX12_ask_49 ?_
              refine lv_topi (fun x_3999 ex_3999 => ?_)
              have px_3999 := RwOK.at zfw (show (0 : Int32).toInt = 0 from rfl) (show 0 ≤ 0 ∧ 0 < 100 by omega)
              rw [← ex_3999] at px_3999
              have hx_3999 := PR.r_0 px_3999 (by omega)
              refine lv_ishl hx hb dX12_ask_50 ?_
              refine lv_topi (fun x_4000 ex_4000 => ?_)
              have hx_4000 : 1 ≤ x_4000.toInt ∧ x_4000.toInt ≤ 256 := by rw [ex_4000]; exact i_shl1 rfl (n := 8) (by decide) (by omega)
              refine lv_icmp_ge (tgt := 103) hx hb dX12_ask_51 (by decide) (fun c_4001 => ?_) (fun c_4001 => ?_)
              · have c_4001i := i_le (x := x_4000.toInt) (y := v_3723.toInt) rfl rfl c_4001
                refine lv_iconst (v := (-1)) hx hb dX12_ask_103 (by decide) ?_
                refine lv_istore_n (lv' := [(3, .int (-1)), (2, .int v_3724), (0, .ref m0), (1, .int x)]) hx hb dX12_ask_104 rfl hl (by decide) rfl (fun ls hl => ?_)
                refine lv_ldcw (v := 100000000) hx hb hown (hts (.constant RX12 476 (100000000)) (List.mem_cons_of_mem _ (List.mem_append_left _ (List.mem_of_getElem? (i := 3) rfl)))) dX12_ask_105 ?_
                refine lv_istore (lv' := [(4, .int 100000000), (3, .int (-1)), (2, .int v_3724), (0, .ref m0), (1, .int x)]) hx hb dX12_ask_108 hl (by decide) rfl (fun ls hl => ?_)
                refine lv_iconst (v := 0) hx hb dX12_ask_110 (by decide) ?_
                refine lv_istore (lv' := [(5, .int 0), (4, .int 100000000), (3, .int (-1)), (2, .int v_3724), (0, .ref m0), (1, .int x)]) hx hb dX12_ask_111 hl (by decide) rfl (fun ls hl => ?_)
                have lp_4289 : ∀ (nn_ : Nat) (v_4187 : Int32) (v_4188 : Int32) (v_4189 : Int32) (hv_4187 : 0 ≤ v_4187.toInt ∧ v_4187.toInt ≤ 8) (hv_4188 : v_4188.toInt ≤ 100000000) (hv_4189 : (-1) ≤ v_4189.toInt) (hn : (9 - v_4187.toInt : Int).toNat < nn_) (H : Heap) (locs : List Loc) (hP : va_P D vwCl [(m0, .inr (12, [.int 0, m_1, m_2, .ref w0, m_4, m_5, m_6, m_7, m_8, m_9, m_10, m_11, m_12, m_13, m_14, m_15, m_16, m_17, m_18, m_19, m_20, m_21, m_22, m_23, m_24, m_25, m_26, m_27, m_28, m_29, m_30, m_31, m_32, m_33, m_34, m_35, m_36, m_37, m_38, m_39, m_40, m_41, m_42, m_43, m_44, m_45, m_46, m_47, m_48, .ref b0, m_50, m_51, m_52, m_53, m_54, m_55, m_56, m_57, m_58, m_59])), (w0, .inl (K 0, 5500, .inl fw)), (b0, .inl (K 0, 8, .inl f_3725))] H) (hD : va_D A [(m0, .inr (12, [.int 0, m_1, m_2, .ref w0, m_4, m_5, m_6, m_7, m_8, m_9, m_10, m_11, m_12, m_13, m_14, m_15, m_16, m_17, m_18, m_19, m_20, m_21, m_22, m_23, m_24, m_25, m_26, m_27, m_28, m_29, m_30, m_31, m_32, m_33, m_34, m_35, m_36, m_37, m_38, m_39, m_40, m_41, m_42, m_43, m_44, m_45, m_46, m_47, m_48, .ref b0, m_50, m_51, m_52, m_53, m_54, m_55, m_56, m_57, m_58, m_59])), (w0, .inl (K 0, 5500, .inl fw)), (b0, .inl (K 0, 8, .inl f_3725))]) (hS : va_S A s.heap H locs) (ls : Array Slot) (hl : lv_has ls 7 [(5, .int v_4187), (4, .int v_4188), (3, .int v_4189), (2, .int v_3724), (0, .ref m0), (1, .int x)]), W p l e ({ frames := 2, cells := 0, slots := 0, locals := 45 }) s m (([.ref m0, .int x] : List Value).toArray) below meth c H locs 0 0 Q (F0 m 113 ls []) := by
                  intro nn_
                  induction nn_ with
                  | zero =>
                    intro v_4187 v_4188 v_4189 hv_4187 hv_4188 hv_4189 hn H locs hP hD hS ls hl
                    exact absurd hn (Nat.not_lt_zero _)
                  | succ nn_ ih_4290 =>
                    intro v_4187 v_4188 v_4189 hv_4187 hv_4188 hv_4189 hn H locs hP hD hS ls hl
                    refine lv_iload hx hb dX12_ask_113 (lv_at hl 0 rfl) ?_
                    refine lv_aload_n hx hb dX12_ask_115 rfl (lv_at hl 4 rfl) ?_
                    refine va_get (ci := 12) (v := .ref w0) (C := RX12) (T := TX12) (N := 60) hx hb hts hw12 hown hK hP 0 rfl rfl 3 (by decide) (hts (.fieldLink RX12 13 "SmokeTuneModel" "row" "[I") (List.mem_cons_of_mem _ (List.mem_append_left _ (List.mem_of_getElem? (i := 2) rfl)))) (fun _ h9 => h9) rfl dX12_ask_116 ?_
                    refine lv_iconst (v := 0) hx hb dX12_ask_119 (by decide) ?_
                    refine va_iald hx hb hK hP 1 0 rfl rfl (i_in (x := 0) rfl (by omega)) dX12_ask_120 ?_
                    refine lv_topi (fun x_4291 ex_4291 => ?_)
                    have px_4291 := RwOK.at zfw (show (0 : Int32).toInt = 0 from rfl) (show 0 ≤ 0 ∧ 0 < 100 by omega)
                    rw [← ex_4291] at px_4291
                    have hx_4291 := PR.r_0 px_4291 (by omega)
                    have j_4320 : ∀ (H : Heap) (locs : List Loc) (hP : va_P D vwCl [(m0, .inr (12, [.int 0, m_1, m_2, .ref w0, m_4, m_5, m_6, m_7, m_8, m_9, m_10, m_11, m_12, m_13, m_14, m_15, m_16, m_17, m_18, m_19, m_20, m_21, m_22, m_23, m_24, m_25, m_26, m_27, m_28, m_29, m_30, m_31, m_32, m_33, m_34, m_35, m_36, m_37, m_38, m_39, m_40, m_41, m_42, m_43, m_44, m_45, m_46, m_47, m_48, .ref b0, m_50, m_51, m_52, m_53, m_54, m_55, m_56, m_57, m_58, m_59])), (w0, .inl (K 0, 5500, .inl fw)), (b0, .inl (K 0, 8, .inl f_3725))] H) (hD : va_D A [(m0, .inr (12, [.int 0, m_1, m_2, .ref w0, m_4, m_5, m_6, m_7, m_8, m_9, m_10, m_11, m_12, m_13, m_14, m_15, m_16, m_17, m_18, m_19, m_20, m_21, m_22, m_23, m_24, m_25, m_26, m_27, m_28, m_29, m_30, m_31, m_32, m_33, m_34, m_35, m_36, m_37, m_38, m_39, m_40, m_41, m_42, m_43, m_44, m_45, m_46, m_47, m_48, .ref b0, m_50, m_51, m_52, m_53, m_54, m_55, m_56, m_57, m_58, m_59])), (w0, .inl (K 0, 5500, .inl fw)), (b0, .inl (K 0, 8, .inl f_3725))]) (hS : va_S A s.heap H locs) (ls : Array Slot) (hl : lv_has ls 7 [(4, .int v_4188), (3, .int v_4189), (1, .int x)]), W p l e ({ frames := 2, cells := 0, slots := 0, locals := 45 }) s m (([.ref m0, .int x] : List Value).toArray) below meth c H locs 0 0 Q (F0 m 204 ls []) := by
                      intro H locs hP hD hS ls hl
                      refine lv_iload_n hx hb dX12_ask_204 rfl (lv_at hl 1 rfl) ?_
                      refine lv_iconst (v := (-1)) hx hb dX12_ask_205 (by decide) ?_
                      have j_4323 : ∀ (H : Heap) (locs : List Loc) (hP : va_P D vwCl [(m0, .inr (12, [.int 0, m_1, m_2, .ref w0, m_4, m_5, m_6, m_7, m_8, m_9, m_10, m_11, m_12, m_13, m_14, m_15, m_16, m_17, m_18, m_19, m_20, m_21, m_22, m_23, m_24, m_25, m_26, m_27, m_28, m_29, m_30, m_31, m_32, m_33, m_34, m_35, m_36, m_37, m_38, m_39, m_40, m_41, m_42, m_43, m_44, m_45, m_46, m_47, m_48, .ref b0, m_50, m_51, m_52, m_53, m_54, m_55, m_56, m_57, m_58, m_59])), (w0, .inl (K 0, 5500, .inl fw)), (b0, .inl (K 0, 8, .inl f_3725))] H) (hD : va_D A [(m0, .inr (12, [.int 0, m_1, m_2, .ref w0, m_4, m_5, m_6, m_7, m_8, m_9, m_10, m_11, m_12, m_13, m_14, m_15, m_16, m_17, m_18, m_19, m_20, m_21, m_22, m_23, m_24, m_25, m_26, m_27, m_28, m_29, m_30, m_31, m_32, m_33, m_34, m_35, m_36, m_37, m_38, m_39, m_40, m_41, m_42, m_43, m_44, m_45, m_46, m_47, m_48, .ref b0, m_50, m_51, m_52, m_53, m_54, m_55, m_56, m_57, m_58, m_59])), (w0, .inl (K 0, 5500, .inl fw)), (b0, .inl (K 0, 8, .inl f_3725))]) (hS : va_S A s.heap H locs) (ls : Array Slot) (hl : lv_has ls 7 [(3, .int v_4189)]), W p l e ({ frames := 2, cells := 0, slots := 0, locals := 45 }) s m (([.ref m0, .int x] : List Value).toArray) below meth c H locs 0 0 Q (F0 m 213 ls []) := by
                        intro H locs hP hD hS ls hl
                        refine lv_iload_n hx hb dX12_ask_213 rfl (lv_at hl 0 rfl) ?_
                        refine lv_goto (tgt := 219) hx hb dX12_ask_214 (by decide) ?_
                        subst hQ
                        have hP9 := hP.sub (ws' := [(m0, .inr (12, [.int 0, m_1, m_2, .ref w0, m_4, m_5, m_6, m_7, m_8, m_9, m_10, m_11, m_12, m_13, m_14, m_15, m_16, m_17, m_18, m_19, m_20, m_21, m_22, m_23, m_24, m_25, m_26, m_27, m_28, m_29, m_30, m_31, m_32, m_33, m_34, m_35, m_36, m_37, m_38, m_39, m_40, m_41, m_42, m_43, m_44, m_45, m_46, m_47, m_48, .ref b0, m_50, m_51, m_52, m_53, m_54, m_55, m_56, m_57, m_58, m_59])), (w0, .inl (K 0, 5500, .inl fw)), (b0, .inl (K 0, 8, .inl f_3725))]) [0, 1, 2] rfl
                        have hD9 := hD.sub (ws' := [(m0, .inr (12, [.int 0, m_1, m_2, .ref w0, m_4, m_5, m_6, m_7, m_8, m_9, m_10, m_11, m_12, m_13, m_14, m_15, m_16, m_17, m_18, m_19, m_20, m_21, m_22, m_23, m_24, m_25, m_26, m_27, m_28, m_29, m_30, m_31, m_32, m_33, m_34, m_35, m_36, m_37, m_38, m_39, m_40, m_41, m_42, m_43, m_44, m_45, m_46, m_47, m_48, .ref b0, m_50, m_51, m_52, m_53, m_54, m_55, m_56, m_57, m_58, m_59])), (w0, .inl (K 0, 5500, .inl fw)), (b0, .inl (K 0, 8, .inl f_3725))]) [0, 1, 2] (by decide) rfl
                        exact W.iret (v := v_4189) hx hb hr (fun t ht hW => ⟨⟨v_4189, ((fun _ => 0, fun i => match i with | _ => f_3725, fun _ => fun _ => 0, fun _ => 0, fun _ => 0, fun _ => fun _ => none) : Su), rfl, trivial, (⟨by rw [ht]; exact hP9, hD9⟩ : Wd D A _ t)⟩, hS.F ht⟩) hS.2.2 dX12_ask_219
                      refine lv_icmp_eq (tgt := 213) hx hb dX12_ask_206 (by decide) (fun c_4324 => ?_) (fun c_4324 => ?_)
                      · have c_4324i := i_eq (x := v_4189.toInt) (y := (-1)) rfl rfl c_4324
                        exact j_4323   _ _ hP hD hS ls (lv_sub hl [1] rfl)
                      · have c_4324i := i_ne (x := v_4189.toInt) (y := (-1)) rfl rfl c_4324
                        refine lv_iload_n hx hb dX12_ask_209 rfl (lv_at hl 2 rfl) ?_
                        refine lv_if_ne (tgt := 217) hx hb dX12_ask_210 (by decide) (fun c_4325 => ?_) (fun c_4325 => ?_)
                        · have c_4325i := i_ne (x := x.toInt) (y := 0) rfl rfl c_4325
                          refine lv_iload hx hb dX12_ask_217 (lv_at hl 0 rfl) ?_
                          subst hQ
                          have hP9 := hP.sub (ws' := [(m0, .inr (12, [.int 0, m_1, m_2, .ref w0, m_4, m_5, m_6, m_7, m_8, m_9, m_10, m_11, m_12, m_13, m_14, m_15, m_16, m_17, m_18, m_19, m_20, m_21, m_22, m_23, m_24, m_25, m_26, m_27, m_28, m_29, m_30, m_31, m_32, m_33, m_34, m_35, m_36, m_37, m_38, m_39, m_40, m_41, m_42, m_43, m_44, m_45, m_46, m_47, m_48, .ref b0, m_50, m_51, m_52, m_53, m_54, m_55, m_56, m_57, m_58, m_59])), (w0, .inl (K 0, 5500, .inl fw)), (b0, .inl (K 0, 8, .inl f_3725))]) [0, 1, 2] rfl
                          have hD9 := hD.sub (ws' := [(m0, .inr (12, [.int 0, m_1, m_2, .ref w0, m_4, m_5, m_6, m_7, m_8, m_9, m_10, m_11, m_12, m_13, m_14, m_15, m_16, m_17, m_18, m_19, m_20, m_21, m_22, m_23, m_24, m_25, m_26, m_27, m_28, m_29, m_30, m_31, m_32, m_33, m_34, m_35, m_36, m_37, m_38, m_39, m_40, m_41, m_42, m_43, m_44, m_45, m_46, m_47, m_48, .ref b0, m_50, m_51, m_52, m_53, m_54, m_55, m_56, m_57, m_58, m_59])), (w0, .inl (K 0, 5500, .inl fw)), (b0, .inl (K 0, 8, .inl f_3725))]) [0, 1, 2] (by decide) rfl
                          exact W.iret (v := v_4188) hx hb hr (fun t ht hW => ⟨⟨v_4188, ((fun _ => 0, fun i => match i with | _ => f_3725, fun _ => fun _ => 0, fun _ => 0, fun _ => 0, fun _ => fun _ => none) : Su), rfl, trivial, (⟨by rw [ht]; exact hP9, hD9⟩ : Wd D A _ t)⟩, hS.F ht⟩) hS.2.2 dX12_ask_219
                        · have c_4325i := i_eq (x := x.toInt) (y := 0) rfl rfl c_4325
                          exact j_4323   _ _ hP hD hS ls (lv_sub hl [1] rfl)
                    refine lv_icmp_ge (tgt := 204) hx hb dX12_ask_121 (by decide) (fun c_4326 => ?_) (fun c_4326 => ?_)
                    · have c_4326i := i_le (x := x_4291.toInt) (y := v_4187.toInt) rfl rfl c_4326
                      exact j_4320   _ _ hP hD hS ls (lv_sub hl [1, 2, 5] rfl)
                    · have c_4326i := i_nle (x := x_4291.toInt) (y := v_4187.toInt) rfl rfl c_4326
                      refine lv_iload_n hx hb dX12_ask_124 rfl (lv_at hl 3 rfl) ?_
                      refine lv_if_le (tgt := 204) hx hb dX12_ask_125 (by decide) (fun c_4327 => ?_) (fun c_4327 => ?_)
                      · have c_4327i := i_le (x := v_3724.toInt) (y := 0) rfl rfl c_4327
                        exact j_4320   _ _ hP hD hS ls (lv_sub hl [1, 2, 5] rfl)
                      · have c_4327i := i_nle (x := v_3724.toInt) (y := 0) rfl rfl c_4327
                        refine lv_aload_n hx hb dX12_ask_128 rfl (lv_at hl 4 rfl) ?_
                        refine va_get (ci := 12) (v := .ref b0) (C := RX12) (T := TX12) (N := 60) hx hb hts hw12 hown hK hP 0 rfl rfl 49 (by decide) (hts (.fieldLink RX12 132 "SmokeTuneModel" "burning" "[I") (List.mem_cons_of_mem _ (List.mem_append_left _ (List.mem_of_getElem? (i := 1) rfl)))) (fun _ h9 => h9) rfl dX12_ask_129 ?_
                        refine lv_iload hx hb dX12_ask_132 (lv_at hl 0 rfl) ?_
                        refine va_iald hx hb hK hP 2 0 rfl rfl (i_in rfl (by omega)) dX12_ask_134 ?_
                        refine lv_topi (fun x_4328 ex_4328 => ?_)
                        refine lv_iload_n hx hb dX12_ask_135 rfl (lv_at hl 3 rfl) ?_
                        refine lv_aload_n hx hb dX12_ask_136 rfl (lv_at hl 4 rfl) ?_
                        refine va_get (ci := 12) (v := .ref b0) (C := RX12) (T := TX12) (N := 60) hx hb hts hw12 hown hK hP 0 rfl rfl 49 (by decide) (hts (.fieldLink RX12 132 "SmokeTuneModel" "burning" "[I") (List.mem_cons_of_mem _ (List.mem_append_left _ (List.mem_of_getElem? (i := 1) rfl)))) (fun _ h9 => h9) rfl dX12_ask_137 ?_
                        refine lv_iload hx hb dX12_ask_140 (lv_at hl 0 rfl) ?_
                        refine va_iald hx hb hK hP 2 0 rfl rfl (i_in rfl (by omega)) dX12_ask_142 ?_
                        refine lv_topi (fun x_4329 ex_4329 => ?_)
                        refine lv_isub hx hb dX12_ask_143 ?_
                        refine lv_topi (fun x_4330 ex_4330 => ?_)
                        refine lv_icmp_le (tgt := 157) hx hb dX12_ask_144 (by decide) (fun c_4331 => ?_) (fun c_4331 => ?_)
                        · have c_4331i := i_le (x := x_4328.toInt) (y := x_4330.toInt) rfl rfl c_4331
                          refine lv_iload_n hx hb dX12_ask_157 rfl (lv_at hl 3 rfl) ?_
                          refine lv_aload_n hx hb dX12_ask_158 rfl (lv_at hl 4 rfl) ?_
                          refine va_get (ci := 12) (v := .ref b0) (C := RX12) (T := TX12) (N := 60) hx hb hts hw12 hown hK hP 0 rfl rfl 49 (by decide) (hts (.fieldLink RX12 132 "SmokeTuneModel" "burning" "[I") (List.mem_cons_of_mem _ (List.mem_append_left _ (List.mem_of_getElem? (i := 1) rfl)))) (fun _ h9 => h9) rfl dX12_ask_159 ?_
                          refine lv_iload hx hb dX12_ask_162 (lv_at hl 0 rfl) ?_
                          refine va_iald hx hb hK hP 2 0 rfl rfl (i_in rfl (by omega)) dX12_ask_164 ?_
                          refine lv_topi (fun x_4332 ex_4332 => ?_)
                          refine lv_isub hx hb dX12_ask_165 ?_
                          refine lv_topi (fun x_4333 ex_4333 => ?_)
                          refine lv_istore (lv' := [(6, .int x_4333), (5, .int v_4187), (4, .int v_4188), (3, .int v_4189), (2, .int v_3724), (0, .ref m0), (1, .int x)]) hx hb dX12_ask_166 hl (by decide) rfl (fun ls hl => ?_)
                          refine lv_iload hx hb dX12_ask_168 (lv_at hl 0 rfl) ?_
                          refine lv_iload hx hb dX12_ask_170 (lv_at hl 2 rfl) ?_
                          refine lv_icmp_ge (tgt := 180) hx hb dX12_ask_172 (by decide) (fun c_4334 => ?_) (fun c_4334 => ?_)
                          · have c_4334i := i_le (x := v_4188.toInt) (y := x_4333.toInt) rfl rfl c_4334
                            refine lv_iload_n hx hb dX12_ask_180 rfl (lv_at hl 3 rfl) ?_
                            refine lv_istore_n (lv' := [(3, .int v_4189), (6, .int x_4333), (5, .int v_4187), (4, .int v_4188), (2, .int v_3724), (0, .ref m0), (1, .int x)]) hx hb dX12_ask_181 rfl hl (by decide) rfl (fun ls hl => ?_)
                            refine lv_iload hx hb dX12_ask_182 (lv_at hl 1 rfl) ?_
                            refine lv_iload hx hb dX12_ask_184 (lv_at hl 3 rfl) ?_
                            refine lv_icmp_ge (tgt := 194) hx hb dX12_ask_186 (by decide) (fun c_4335 => ?_) (fun c_4335 => ?_)
                            · have c_4335i := i_le (x := v_4188.toInt) (y := x_4333.toInt) rfl rfl c_4335
                              refine lv_iload hx hb dX12_ask_194 (lv_at hl 3 rfl) ?_
                              refine lv_istore (lv' := [(4, .int v_4188), (3, .int v_4189), (6, .int x_4333), (5, .int v_4187), (2, .int v_3724), (0, .ref m0), (1, .int x)]) hx hb dX12_ask_196 hl (by decide) rfl (fun ls hl => ?_)
                              obtain ⟨x_4336, ex_4336⟩ : ∃ y : Int32, y = v_4187 + Int32.ofInt 1 := ⟨_, rfl⟩
                              have hx_4336 : x_4336.toInt = (v_4187.toInt + 1) := by rw [ex_4336]; exact i_add rfl (show (Int32.ofInt 1).toInt = 1 from rfl) (by omega)
                              refine lv_iinc (v := x_4336) (lv' := [(5, .int x_4336), (4, .int v_4188), (3, .int v_4189), (6, .int x_4333), (2, .int v_3724), (0, .ref m0), (1, .int x)]) hx hb dX12_ask_198 hl (k := 3) rfl (by rw [ex_4336]) (by decide) rfl (fun ls hl => ?_)
                              refine lv_goto (tgt := 113) hx hb dX12_ask_201 (by decide) ?_
                              exact ih_4290 x_4336 v_4188 v_4189 (by rw [hx_4336]; omega) (by omega) (by omega) (by omega) _ _ hP hD hS ls (lv_sub hl [0, 1, 2, 4, 5, 6] rfl)
                            · have c_4335i := i_nle (x := v_4188.toInt) (y := x_4333.toInt) rfl rfl c_4335
                              refine lv_iload hx hb dX12_ask_189 (lv_at hl 1 rfl) ?_
                              refine lv_goto (tgt := 196) hx hb dX12_ask_191 (by decide) ?_
                              refine lv_istore (lv' := [(4, .int x_4333), (3, .int v_4189), (6, .int x_4333), (5, .int v_4187), (2, .int v_3724), (0, .ref m0), (1, .int x)]) hx hb dX12_ask_196 hl (by decide) rfl (fun ls hl => ?_)
                              obtain ⟨x_4337, ex_4337⟩ : ∃ y : Int32, y = v_4187 + Int32.ofInt 1 := ⟨_, rfl⟩
                              have hx_4337 : x_4337.toInt = (v_4187.toInt + 1) := by rw [ex_4337]; exact i_add rfl (show (Int32.ofInt 1).toInt = 1 from rfl) (by omega)
                              refine lv_iinc (v := x_4337) (lv' := [(5, .int x_4337), (4, .int x_4333), (3, .int v_4189), (6, .int x_4333), (2, .int v_3724), (0, .ref m0), (1, .int x)]) hx hb dX12_ask_198 hl (k := 3) rfl (by rw [ex_4337]) (by decide) rfl (fun ls hl => ?_)
                              refine lv_goto (tgt := 113) hx hb dX12_ask_201 (by decide) ?_
                              exact ih_4290 x_4337 x_4333 v_4189 (by rw [hx_4337]; omega) (by omega) (by omega) (by omega) _ _ hP hD hS ls (lv_sub hl [0, 1, 2, 4, 5, 6] rfl)
                          · have c_4334i := i_nle (x := v_4188.toInt) (y := x_4333.toInt) rfl rfl c_4334
                            refine lv_iload hx hb dX12_ask_175 (lv_at hl 1 rfl) ?_
                            refine lv_goto (tgt := 181) hx hb dX12_ask_177 (by decide) ?_
                            refine lv_istore_n (lv' := [(3, .int v_4187), (6, .int x_4333), (5, .int v_4187), (4, .int v_4188), (2, .int v_3724), (0, .ref m0), (1, .int x)]) hx hb dX12_ask_181 rfl hl (by decide) rfl (fun ls hl => ?_)
                            refine lv_iload hx hb dX12_ask_182 (lv_at hl 1 rfl) ?_
                            refine lv_iload hx hb dX12_ask_184 (lv_at hl 3 rfl) ?_
                            refine lv_icmp_ge (tgt := 194) hx hb dX12_ask_186 (by decide) (fun c_4338 => ?_) (fun c_4338 => ?_)
                            · have c_4338i := i_le (x := v_4188.toInt) (y := x_4333.toInt) rfl rfl c_4338
                              refine lv_iload hx hb dX12_ask_194 (lv_at hl 3 rfl) ?_
                              refine lv_istore (lv' := [(4, .int v_4188), (3, .int v_4187), (6, .int x_4333), (5, .int v_4187), (2, .int v_3724), (0, .ref m0), (1, .int x)]) hx hb dX12_ask_196 hl (by decide) rfl (fun ls hl => ?_)
                              obtain ⟨x_4339, ex_4339⟩ : ∃ y : Int32, y = v_4187 + Int32.ofInt 1 := ⟨_, rfl⟩
                              have hx_4339 : x_4339.toInt = (v_4187.toInt + 1) := by rw [ex_4339]; exact i_add rfl (show (Int32.ofInt 1).toInt = 1 from rfl) (by omega)
                              refine lv_iinc (v := x_4339) (lv' := [(5, .int x_4339), (4, .int v_4188), (3, .int v_4187), (6, .int x_4333), (2, .int v_3724), (0, .ref m0), (1, .int x)]) hx hb dX12_ask_198 hl (k := 3) rfl (by rw [ex_4339]) (by decide) rfl (fun ls hl => ?_)
                              refine lv_goto (tgt := 113) hx hb dX12_ask_201 (by decide) ?_
                              exact ih_4290 x_4339 v_4188 v_4187 (by rw [hx_4339]; omega) (by omega) (by omega) (by omega) _ _ hP hD hS ls (lv_sub hl [0, 1, 2, 4, 5, 6] rfl)
                            · have c_4338i := i_nle (x := v_4188.toInt) (y := x_4333.toInt) rfl rfl c_4338
                              refine lv_iload hx hb dX12_ask_189 (lv_at hl 1 rfl) ?_
                              refine lv_goto (tgt := 196) hx hb dX12_ask_191 (by decide) ?_
                              refine lv_istore (lv' := [(4, .int x_4333), (3, .int v_4187), (6, .int x_4333), (5, .int v_4187), (2, .int v_3724), (0, .ref m0), (1, .int x)]) hx hb dX12_ask_196 hl (by decide) rfl (fun ls hl => ?_)
                              obtain ⟨x_4340, ex_4340⟩ : ∃ y : Int32, y = v_4187 + Int32.ofInt 1 := ⟨_, rfl⟩
                              have hx_4340 : x_4340.toInt = (v_4187.toInt + 1) := by rw [ex_4340]; exact i_add rfl (show (Int32.ofInt 1).toInt = 1 from rfl) (by omega)
                              refine lv_iinc (v := x_4340) (lv' := [(5, .int x_4340), (4, .int x_4333), (3, .int v_4187), (6, .int x_4333), (2, .int v_3724), (0, .ref m0), (1, .int x)]) hx hb dX12_ask_198 hl (k := 3) rfl (by rw [ex_4340]) (by decide) rfl (fun ls hl => ?_)
                              refine lv_goto (tgt := 113) hx hb dX12_ask_201 (by decide) ?_
                              exact ih_4290 x_4340 x_4333 v_4187 (by rw [hx_4340]; omega) (by omega) (by omega) (by omega) _ _ hP hD hS ls (lv_sub hl [0, 1, 2, 4, 5, 6] rfl)
                        · have c_4331i := i_nle (x := x_4328.toInt) (y := x_4330.toInt) rfl rfl c_4331
                          refine lv_aload_n hx hb dX12_ask_147 rfl (lv_at hl 4 rfl) ?_
                          refine va_get (ci := 12) (v := .ref b0) (C := RX12) (T := TX12) (N := 60) hx hb hts hw12 hown hK hP 0 rfl rfl 49 (by decide) (hts (.fieldLink RX12 132 "SmokeTuneModel" "burning" "[I") (List.mem_cons_of_mem _ (List.mem_append_left _ (List.mem_of_getElem? (i := 1) rfl)))) (fun _ h9 => h9) rfl dX12_ask_148 ?_
                          refine lv_iload hx hb dX12_ask_151 (lv_at hl 0 rfl) ?_
                          refine va_iald hx hb hK hP 2 0 rfl rfl (i_in rfl (by omega)) dX12_ask_153 ?_
                          refine lv_topi (fun x_4341 ex_4341 => ?_)
                          refine lv_goto (tgt := 166) hx hb dX12_ask_154 (by decide) ?_
                          refine lv_istore (lv' := [(6, .int x_4341), (5, .int v_4187), (4, .int v_4188), (3, .int v_4189), (2, .int v_3724), (0, .ref m0), (1, .int x)]) hx hb dX12_ask_166 hl (by decide) rfl (fun ls hl => ?_)
                          refine lv_iload hx hb dX12_ask_168 (lv_at hl 0 rfl) ?_
                          refine lv_iload hx hb dX12_ask_170 (lv_at hl 2 rfl) ?_
                          refine lv_icmp_ge (tgt := 180) hx hb dX12_ask_172 (by decide) (fun c_4342 => ?_) (fun c_4342 => ?_)
                          · have c_4342i := i_le (x := v_4188.toInt) (y := x_4341.toInt) rfl rfl c_4342
                            refine lv_iload_n hx hb dX12_ask_180 rfl (lv_at hl 3 rfl) ?_
                            refine lv_istore_n (lv' := [(3, .int v_4189), (6, .int x_4341), (5, .int v_4187), (4, .int v_4188), (2, .int v_3724), (0, .ref m0), (1, .int x)]) hx hb dX12_ask_181 rfl hl (by decide) rfl (fun ls hl => ?_)
                            refine lv_iload hx hb dX12_ask_182 (lv_at hl 1 rfl) ?_
                            refine lv_iload hx hb dX12_ask_184 (lv_at hl 3 rfl) ?_
                            refine lv_icmp_ge (tgt := 194) hx hb dX12_ask_186 (by decide) (fun c_4343 => ?_) (fun c_4343 => ?_)
                            · have c_4343i := i_le (x := v_4188.toInt) (y := x_4341.toInt) rfl rfl c_4343
                              refine lv_iload hx hb dX12_ask_194 (lv_at hl 3 rfl) ?_
                              refine lv_istore (lv' := [(4, .int v_4188), (3, .int v_4189), (6, .int x_4341), (5, .int v_4187), (2, .int v_3724), (0, .ref m0), (1, .int x)]) hx hb dX12_ask_196 hl (by decide) rfl (fun ls hl => ?_)
                              obtain ⟨x_4344, ex_4344⟩ : ∃ y : Int32, y = v_4187 + Int32.ofInt 1 := ⟨_, rfl⟩
                              have hx_4344 : x_4344.toInt = (v_4187.toInt + 1) := by rw [ex_4344]; exact i_add rfl (show (Int32.ofInt 1).toInt = 1 from rfl) (by omega)
                              refine lv_iinc (v := x_4344) (lv' := [(5, .int x_4344), (4, .int v_4188), (3, .int v_4189), (6, .int x_4341), (2, .int v_3724), (0, .ref m0), (1, .int x)]) hx hb dX12_ask_198 hl (k := 3) rfl (by rw [ex_4344]) (by decide) rfl (fun ls hl => ?_)
                              refine lv_goto (tgt := 113) hx hb dX12_ask_201 (by decide) ?_
                              exact ih_4290 x_4344 v_4188 v_4189 (by rw [hx_4344]; omega) (by omega) (by omega) (by omega) _ _ hP hD hS ls (lv_sub hl [0, 1, 2, 4, 5, 6] rfl)
                            · have c_4343i := i_nle (x := v_4188.toInt) (y := x_4341.toInt) rfl rfl c_4343
                              refine lv_iload hx hb dX12_ask_189 (lv_at hl 1 rfl) ?_
                              refine lv_goto (tgt := 196) hx hb dX12_ask_191 (by decide) ?_
                              refine lv_istore (lv' := [(4, .int x_4341), (3, .int v_4189), (6, .int x_4341), (5, .int v_4187), (2, .int v_3724), (0, .ref m0), (1, .int x)]) hx hb dX12_ask_196 hl (by decide) rfl (fun ls hl => ?_)
                              obtain ⟨x_4345, ex_4345⟩ : ∃ y : Int32, y = v_4187 + Int32.ofInt 1 := ⟨_, rfl⟩
                              have hx_4345 : x_4345.toInt = (v_4187.toInt + 1) := by rw [ex_4345]; exact i_add rfl (show (Int32.ofInt 1).toInt = 1 from rfl) (by omega)
                              refine lv_iinc (v := x_4345) (lv' := [(5, .int x_4345), (4, .int x_4341), (3, .int v_4189), (6, .int x_4341), (2, .int v_3724), (0, .ref m0), (1, .int x)]) hx hb dX12_ask_198 hl (k := 3) rfl (by rw [ex_4345]) (by decide) rfl (fun ls hl => ?_)
                              refine lv_goto (tgt := 113) hx hb dX12_ask_201 (by decide) ?_
                              exact ih_4290 x_4345 x_4341 v_4189 (by rw [hx_4345]; omega) (by omega) (by omega) (by omega) _ _ hP hD hS ls (lv_sub hl [0, 1, 2, 4, 5, 6] rfl)
                          · have c_4342i := i_nle (x := v_4188.toInt) (y := x_4341.toInt) rfl rfl c_4342
                            refine lv_iload hx hb dX12_ask_175 (lv_at hl 1 rfl) ?_
                            refine lv_goto (tgt := 181) hx hb dX12_ask_177 (by decide) ?_
                            refine lv_istore_n (lv' := [(3, .int v_4187), (6, .int x_4341), (5, .int v_4187), (4, .int v_4188), (2, .int v_3724), (0, .ref m0), (1, .int x)]) hx hb dX12_ask_181 rfl hl (by decide) rfl (fun ls hl => ?_)
                            refine lv_iload hx hb dX12_ask_182 (lv_at hl 1 rfl) ?_
                            refine lv_iload hx hb dX12_ask_184 (lv_at hl 3 rfl) ?_
                            refine lv_icmp_ge (tgt := 194) hx hb dX12_ask_186 (by decide) (fun c_4346 => ?_) (fun c_4346 => ?_)
                            · have c_4346i := i_le (x := v_4188.toInt) (y := x_4341.toInt) rfl rfl c_4346
                              refine lv_iload hx hb dX12_ask_194 (lv_at hl 3 rfl) ?_
                              refine lv_istore (lv' := [(4, .int v_4188), (3, .int v_4187), (6, .int x_4341), (5, .int v_4187), (2, .int v_3724), (0, .ref m0), (1, .int x)]) hx hb dX12_ask_196 hl (by decide) rfl (fun ls hl => ?_)
                              obtain ⟨x_4347, ex_4347⟩ : ∃ y : Int32, y = v_4187 + Int32.ofInt 1 := ⟨_, rfl⟩
                              have hx_4347 : x_4347.toInt = (v_4187.toInt + 1) := by rw [ex_4347]; exact i_add rfl (show (Int32.ofInt 1).toInt = 1 from rfl) (by omega)
                              refine lv_iinc (v := x_4347) (lv' := [(5, .int x_4347), (4, .int v_4188), (3, .int v_4187), (6, .int x_4341), (2, .int v_3724), (0, .ref m0), (1, .int x)]) hx hb dX12_ask_198 hl (k := 3) rfl (by rw [ex_4347]) (by decide) rfl (fun ls hl => ?_)
                              refine lv_goto (tgt := 113) hx hb dX12_ask_201 (by decide) ?_
                              exact ih_4290 x_4347 v_4188 v_4187 (by rw [hx_4347]; omega) (by omega) (by omega) (by omega) _ _ hP hD hS ls (lv_sub hl [0, 1, 2, 4, 5, 6] rfl)
                            · have c_4346i := i_nle (x := v_4188.toInt) (y := x_4341.toInt) rfl rfl c_4346
                              refine lv_iload hx hb dX12_ask_189 (lv_at hl 1 rfl) ?_
                              refine lv_goto (tgt := 196) hx hb dX12_ask_191 (by decide) ?_
                              refine lv_istore (lv' := [(4, .int x_4341), (3, .int v_4187), (6, .int x_4341), (5, .int v_4187), (2, .int v_3724), (0, .ref m0), (1, .int x)]) hx hb dX12_ask_196 hl (by decide) rfl (fun ls hl => ?_)
                              obtain ⟨x_4348, ex_4348⟩ : ∃ y : Int32, y = v_4187 + Int32.ofInt 1 := ⟨_, rfl⟩
                              have hx_4348 : x_4348.toInt = (v_4187.toInt + 1) := by rw [ex_4348]; exact i_add rfl (show (Int32.ofInt 1).toInt = 1 from rfl) (by omega)
                              refine lv_iinc (v := x_4348) (lv' := [(5, .int x_4348), (4, .int x_4341), (3, .int v_4187), (6, .int x_4341), (2, .int v_3724), (0, .ref m0), (1, .int x)]) hx hb dX12_ask_198 hl (k := 3) rfl (by rw [ex_4348]) (by decide) rfl (fun ls hl => ?_)
                              refine lv_goto (tgt := 113) hx hb dX12_ask_201 (by decide) ?_
                              exact ih_4290 x_4348 x_4341 v_4187 (by rw [hx_4348]; omega) (by omega) (by omega) (by omega) _ _ hP hD hS ls (lv_sub hl [0, 1, 2, 4, 5, 6] rfl)
                exact lp_4289 ((9 - (0 : Int32).toInt : Int).toNat + 1) 0 100000000 (-1) (by decide) (by decide) (by decide) (Nat.lt_succ_self _) _ _ hP hD hS ls (lv_sub hl [0, 1, 2, 3, 4, 5] rfl)
              · have c_4001i := i_nle (x := x_4000.toInt) (y := v_3723.toInt) rfl rfl c_4001
                refine lv_aload_n hx hb dX12_ask_54 rfl (lv_at hl 2 rfl) ?_
                refine lv_iload_n hx hb dX12_ask_55 rfl (lv_at hl 0 rfl) ?_
                refine pci (va_runV (As := [.int v_3723]) (rest := []) ⟨hx, hb, hml, hown, hts⟩ (v_isAsHeard l D K m0 v_3723 (.int 0) m_1 m_2 w0 m_4 m_5 m_6 m_7 m_8 m_9 m_10 m_11 m_12 m_13 m_14 m_15 m_16 m_17 m_18 m_19 m_20 m_21 m_22 m_23 m_24 m_25 m_26 m_27 m_28 m_29 m_30 m_31 m_32 m_33 m_34 m_35 m_36 m_37 m_38 m_39 m_40 m_41 m_42 m_43 m_44 m_45 m_46 m_47 m_48 (.ref b0) m_50 m_51 m_52 m_53 m_54 m_55 m_56 m_57 m_58 m_59 fw H.size zfw) (cwV 1 hts gX12_ask_X12_isAsHeard rfl rfl rfl (by decide +kernel) ⟨Nat.le_of_ble_eq_true rfl, Nat.le_of_ble_eq_true rfl⟩) (mkV hK hN (hP.sub [0, 1] rfl) (hD.sub [0, 1] (by decide) rfl) (ci := 12) (q0 := 0) rfl rfl) rfl rfl hl.1 rfl (lv_room (Nat.le_of_ble_eq_true rfl)) dX12_ask_56 ⟨Nat.le_of_ble_eq_true rfl, Nat.le_of_ble_eq_true rfl⟩) (fun r_4349 hw => ?_)
                obtain ⟨h_4350, -⟩ := hw
                have j_4416 : ∀ (v_4413 : Int32) (f_4414 : Nat → Int32) (H : Heap) (locs : List Loc) (hP : va_P D vwCl [(m0, .inr (12, [.int 0, m_1, m_2, .ref w0, m_4, m_5, m_6, m_7, m_8, m_9, m_10, m_11, m_12, m_13, m_14, m_15, m_16, m_17, m_18, m_19, m_20, m_21, m_22, m_23, m_24, m_25, m_26, m_27, m_28, m_29, m_30, m_31, m_32, m_33, m_34, m_35, m_36, m_37, m_38, m_39, m_40, m_41, m_42, m_43, m_44, m_45, m_46, m_47, m_48, .ref b0, m_50, m_51, m_52, m_53, m_54, m_55, m_56, m_57, m_58, m_59])), (w0, .inl (K 0, 5500, .inl fw)), (b0, .inl (K 0, 8, .inl f_4414))] H) (hD : va_D A [(m0, .inr (12, [.int 0, m_1, m_2, .ref w0, m_4, m_5, m_6, m_7, m_8, m_9, m_10, m_11, m_12, m_13, m_14, m_15, m_16, m_17, m_18, m_19, m_20, m_21, m_22, m_23, m_24, m_25, m_26, m_27, m_28, m_29, m_30, m_31, m_32, m_33, m_34, m_35, m_36, m_37, m_38, m_39, m_40, m_41, m_42, m_43, m_44, m_45, m_46, m_47, m_48, .ref b0, m_50, m_51, m_52, m_53, m_54, m_55, m_56, m_57, m_58, m_59])), (w0, .inl (K 0, 5500, .inl fw)), (b0, .inl (K 0, 8, .inl f_4414))]) (hS : va_S A s.heap H locs) (ls : Array Slot) (hl : lv_has ls 7 [(3, .int v_3723), (2, .int v_4413), (0, .ref m0), (1, .int x)]), W p l e ({ frames := 2, cells := 0, slots := 0, locals := 45 }) s m (([.ref m0, .int x] : List Value).toArray) below meth c H locs 0 0 Q (F0 m 97 ls []) := by
                  intro v_4413 f_4414 H locs hP hD hS ls hl
                  obtain ⟨x_4417, ex_4417⟩ : ∃ y : Int32, y = v_3723 + Int32.ofInt 1 := ⟨_, rfl⟩
                  have hx_4417 : x_4417.toInt = (v_3723.toInt + 1) := by rw [ex_4417]; exact i_add rfl (show (Int32.ofInt 1).toInt = 1 from rfl) (by omega)
                  refine lv_iinc (v := x_4417) (lv' := [(3, .int x_4417), (2, .int v_4413), (0, .ref m0), (1, .int x)]) hx hb dX12_ask_97 hl (k := 0) rfl (by rw [ex_4417]) (by decide) rfl (fun ls hl => ?_)
                  refine lv_goto (tgt := 42) hx hb dX12_ask_100 (by decide) ?_
                  exact ih_3998 x_4417 v_4413 f_4414 (by rw [hx_4417]; omega) (by omega) _ _ hP hD hS ls (lv_sub hl [0, 1, 2, 3] rfl)
                refine lv_if_eq (tgt := 97) hx hb dX12_ask_59 (by decide) (fun c_4418 => ?_) (fun c_4418 => ?_)
                · have c_4418i := i_eq (x := r_4349.toInt) (y := 0) rfl rfl c_4418
                  exact j_4416 v_3724 f_3725  _ _ hP hD hS ls (lv_sub hl [0, 1, 2, 3] rfl)
                · have c_4418i := i_ne (x := r_4349.toInt) (y := 0) rfl rfl c_4418
                  obtain ⟨x_4419, ex_4419⟩ : ∃ y : Int32, y = v_3724 + Int32.ofInt 1 := ⟨_, rfl⟩
                  refine lv_iinc (v := x_4419) (lv' := [(2, .int x_4419), (3, .int v_3723), (0, .ref m0), (1, .int x)]) hx hb dX12_ask_62 hl (k := 1) rfl (by rw [ex_4419]) (by decide) rfl (fun ls hl => ?_)
                  refine lv_iconst (v := 0) hx hb dX12_ask_65 (by decide) ?_
                  refine lv_istore (lv' := [(4, .int 0), (2, .int x_4419), (3, .int v_3723), (0, .ref m0), (1, .int x)]) hx hb dX12_ask_66 hl (by decide) rfl (fun ls hl => ?_)
                  have lp_4471 : ∀ (nn_ : Nat) (v_4453 : Int32) (f_4454 : Nat → Int32) (hv_4453 : 0 ≤ v_4453.toInt ∧ v_4453.toInt ≤ 8) (hn : (9 - v_4453.toInt : Int).toNat < nn_) (H : Heap) (locs : List Loc) (hP : va_P D vwCl [(m0, .inr (12, [.int 0, m_1, m_2, .ref w0, m_4, m_5, m_6, m_7, m_8, m_9, m_10, m_11, m_12, m_13, m_14, m_15, m_16, m_17, m_18, m_19, m_20, m_21, m_22, m_23, m_24, m_25, m_26, m_27, m_28, m_29, m_30, m_31, m_32, m_33, m_34, m_35, m_36, m_37, m_38, m_39, m_40, m_41, m_42, m_43, m_44, m_45, m_46, m_47, m_48, .ref b0, m_50, m_51, m_52, m_53, m_54, m_55, m_56, m_57, m_58, m_59])), (w0, .inl (K 0, 5500, .inl fw)), (b0, .inl (K 0, 8, .inl f_4454))] H) (hD : va_D A [(m0, .inr (12, [.int 0, m_1, m_2, .ref w0, m_4, m_5, m_6, m_7, m_8, m_9, m_10, m_11, m_12, m_13, m_14, m_15, m_16, m_17, m_18, m_19, m_20, m_21, m_22, m_23, m_24, m_25, m_26, m_27, m_28, m_29, m_30, m_31, m_32, m_33, m_34, m_35, m_36, m_37, m_38, m_39, m_40, m_41, m_42, m_43, m_44, m_45, m_46, m_47, m_48, .ref b0, m_50, m_51, m_52, m_53, m_54, m_55, m_56, m_57, m_58, m_59])), (w0, .inl (K 0, 5500, .inl fw)), (b0, .inl (K 0, 8, .inl f_4454))]) (hS : va_S A s.heap H locs) (ls : Array Slot) (hl : lv_has ls 7 [(4, .int v_4453), (2, .int x_4419), (3, .int v_3723), (0, .ref m0), (1, .int x)]), W p l e ({ frames := 2, cells := 0, slots := 0, locals := 45 }) s m (([.ref m0, .int x] : List Value).toArray) below meth c H locs 0 0 Q (F0 m 68 ls []) := by
                    intro nn_
                    induction nn_ with
                    | zero =>
                      intro v_4453 f_4454 hv_4453 hn H locs hP hD hS ls hl
                      exact absurd hn (Nat.not_lt_zero _)
                    | succ nn_ ih_4472 =>
                      intro v_4453 f_4454 hv_4453 hn H locs hP hD hS ls hl
                      refine lv_iload hx hb dX12_ask_68 (lv_at hl 0 rfl) ?_
                      refine lv_bipush (v := 8) hx hb dX12_ask_70 (by decide) ?_
                      refine lv_icmp_ge (tgt := 97) hx hb dX12_ask_72 (by decide) (fun c_4473 => ?_) (fun c_4473 => ?_)
                      · have c_4473i := i_le (x := 8) (y := v_4453.toInt) rfl rfl c_4473
                        exact j_4416 x_4419 f_4454  _ _ hP hD hS ls (lv_sub hl [2, 1, 3, 4] rfl)
                      · have c_4473i := i_nle (x := 8) (y := v_4453.toInt) rfl rfl c_4473
                        refine lv_aload_n hx hb dX12_ask_75 rfl (lv_at hl 3 rfl) ?_
                        refine va_get (ci := 12) (v := .ref b0) (C := RX12) (T := TX12) (N := 60) hx hb hts hw12 hown hK hP 0 rfl rfl 49 (by decide) (hts (.fieldLink RX12 132 "SmokeTuneModel" "burning" "[I") (List.mem_cons_of_mem _ (List.mem_append_left _ (List.mem_of_getElem? (i := 1) rfl)))) (fun _ h9 => h9) rfl dX12_ask_76 ?_
                        refine lv_iload hx hb dX12_ask_79 (lv_at hl 0 rfl) ?_
                        refine lv_dup2_11 hx hb dX12_ask_81 rfl rfl ?_
                        refine va_iald hx hb hK hP 2 0 rfl rfl (i_in rfl (by omega)) dX12_ask_82 ?_
                        refine lv_topi (fun x_4474 ex_4474 => ?_)
                        refine lv_iload_n hx hb dX12_ask_83 rfl (lv_at hl 2 rfl) ?_
                        refine lv_iload hx hb dX12_ask_84 (lv_at hl 0 rfl) ?_
                        refine lv_ishr hx hb dX12_ask_86 ?_
                        refine lv_topi (fun x_4475 ex_4475 => ?_)
                        have hx_4475 : 0 ≤ x_4475.toInt ∧ x_4475.toInt ≤ v_3723.toInt := by rw [ex_4475]; exact i_shr rfl (by omega)
                        refine lv_iconst (v := 1) hx hb dX12_ask_87 (by decide) ?_
                        refine lv_iand hx hb dX12_ask_88 ?_
                        refine lv_topi (fun x_4476 ex_4476 => ?_)
                        have hx_4476 : 0 ≤ x_4476.toInt ∧ x_4476.toInt ≤ 1 := by rw [ex_4476]; exact i_mask x_4475 1 rfl (by decide)
                        refine lv_iadd hx hb dX12_ask_89 ?_
                        refine lv_topi (fun x_4477 ex_4477 => ?_)
                        refine va_iast hx hb hK hP hD hS 2 0 rfl rfl (i_in rfl (by omega)) dX12_ask_90 (fun H locs hP hD hS => ?_)
                        generalize hf_4478 : (upd f_4454 (v_4453 : Int32).toNatClampNeg x_4477) = f_4478 at hP hD
                        have hP : va_P D vwCl [(m0, .inr (12, [.int 0, m_1, m_2, .ref w0, m_4, m_5, m_6, m_7, m_8, m_9, m_10, m_11, m_12, m_13, m_14, m_15, m_16, m_17, m_18, m_19, m_20, m_21, m_22, m_23, m_24, m_25, m_26, m_27, m_28, m_29, m_30, m_31, m_32, m_33, m_34, m_35, m_36, m_37, m_38, m_39, m_40, m_41, m_42, m_43, m_44, m_45, m_46, m_47, m_48, .ref b0, m_50, m_51, m_52, m_53, m_54, m_55, m_56, m_57, m_58, m_59])), (w0, .inl (K 0, 5500, .inl fw)), (b0, .inl (K 0, 8, .inl f_4478))] H := hP
                        have hD : va_D A [(m0, .inr (12, [.int 0, m_1, m_2, .ref w0, m_4, m_5, m_6, m_7, m_8, m_9, m_10, m_11, m_12, m_13, m_14, m_15, m_16, m_17, m_18, m_19, m_20, m_21, m_22, m_23, m_24, m_25, m_26, m_27, m_28, m_29, m_30, m_31, m_32, m_33, m_34, m_35, m_36, m_37, m_38, m_39, m_40, m_41, m_42, m_43, m_44, m_45, m_46, m_47, m_48, .ref b0, m_50, m_51, m_52, m_53, m_54, m_55, m_56, m_57, m_58, m_59])), (w0, .inl (K 0, 5500, .inl fw)), (b0, .inl (K 0, 8, .inl f_4478))] := hD
                        obtain ⟨x_4479, ex_4479⟩ : ∃ y : Int32, y = v_4453 + Int32.ofInt 1 := ⟨_, rfl⟩
                        have hx_4479 : x_4479.toInt = (v_4453.toInt + 1) := by rw [ex_4479]; exact i_add rfl (show (Int32.ofInt 1).toInt = 1 from rfl) (by omega)
                        refine lv_iinc (v := x_4479) (lv' := [(4, .int x_4479), (2, .int x_4419), (3, .int v_3723), (0, .ref m0), (1, .int x)]) hx hb dX12_ask_91 hl (k := 0) rfl (by rw [ex_4479]) (by decide) rfl (fun ls hl => ?_)
                        refine lv_goto (tgt := 68) hx hb dX12_ask_94 (by decide) ?_
                        exact ih_4472 x_4479 f_4478 (by rw [hx_4479]; omega) (by omega) _ _ hP hD hS ls (lv_sub hl [0, 1, 2, 3, 4] rfl)
                  exact lp_4471 ((9 - (0 : Int32).toInt : Int).toNat + 1) 0 f_3725 (by decide) (Nat.lt_succ_self _) _ _ hP hD hS ls (lv_sub hl [0, 1, 2, 3, 4] rfl)
          exact lp_3997 ((257 - (0 : Int32).toInt : Int).toNat + 1) 0 0 f_3033 (by decide) (Nat.lt_succ_self _) _ _ hP hD hS ls (lv_sub hl [0, 1, 2, 3] rfl)
        · have c_3044i := i_nle (x := 8) (y := v_3032.toInt) rfl rfl c_3044
          refine lv_aload_n hx hb dX12_ask_27 rfl (lv_at hl 2 rfl) ?_
          refine va_get (ci := 12) (v := .ref b0) (C := RX12) (T := TX12) (N := 60) hx hb hts hw12 hown hK hP 0 rfl rfl 49 (by decide) (hts (.fieldLink RX12 132 "SmokeTuneModel" "burning" "[I") (List.mem_cons_of_mem _ (List.mem_append_left _ (List.mem_of_getElem? (i := 1) rfl)))) (fun _ h9 => h9) rfl dX12_ask_28 ?_
          refine lv_iload_n hx hb dX12_ask_31 rfl (lv_at hl 0 rfl) ?_
          refine lv_iconst (v := 0) hx hb dX12_ask_32 (by decide) ?_
          refine va_iast hx hb hK hP hD hS 2 0 rfl rfl (i_in rfl (by omega)) dX12_ask_33 (fun H locs hP hD hS => ?_)
          generalize hf_4480 : (upd f_3033 (v_3032 : Int32).toNatClampNeg 0) = f_4480 at hP hD
          have hP : va_P D vwCl [(m0, .inr (12, [.int 0, m_1, m_2, .ref w0, m_4, m_5, m_6, m_7, m_8, m_9, m_10, m_11, m_12, m_13, m_14, m_15, m_16, m_17, m_18, m_19, m_20, m_21, m_22, m_23, m_24, m_25, m_26, m_27, m_28, m_29, m_30, m_31, m_32, m_33, m_34, m_35, m_36, m_37, m_38, m_39, m_40, m_41, m_42, m_43, m_44, m_45, m_46, m_47, m_48, .ref b0, m_50, m_51, m_52, m_53, m_54, m_55, m_56, m_57, m_58, m_59])), (w0, .inl (K 0, 5500, .inl fw)), (b0, .inl (K 0, 8, .inl f_4480))] H := hP
          have hD : va_D A [(m0, .inr (12, [.int 0, m_1, m_2, .ref w0, m_4, m_5, m_6, m_7, m_8, m_9, m_10, m_11, m_12, m_13, m_14, m_15, m_16, m_17, m_18, m_19, m_20, m_21, m_22, m_23, m_24, m_25, m_26, m_27, m_28, m_29, m_30, m_31, m_32, m_33, m_34, m_35, m_36, m_37, m_38, m_39, m_40, m_41, m_42, m_43, m_44, m_45, m_46, m_47, m_48, .ref b0, m_50, m_51, m_52, m_53, m_54, m_55, m_56, m_57, m_58, m_59])), (w0, .inl (K 0, 5500, .inl fw)), (b0, .inl (K 0, 8, .inl f_4480))] := hD
          obtain ⟨x_4481, ex_4481⟩ : ∃ y : Int32, y = v_3032 + Int32.ofInt 1 := ⟨_, rfl⟩
          have hx_4481 : x_4481.toInt = (v_3032.toInt + 1) := by rw [ex_4481]; exact i_add rfl (show (Int32.ofInt 1).toInt = 1 from rfl) (by omega)
          refine lv_iinc (v := x_4481) (lv' := [(3, .int x_4481), (2, .int 0), (0, .ref m0), (1, .int x)]) hx hb dX12_ask_34 hl (k := 0) rfl (by rw [ex_4481]) (by decide) rfl (fun ls hl => ?_)
          refine lv_goto (tgt := 21) hx hb dX12_ask_37 (by decide) ?_
          exact ih_3043 x_4481 f_4480 (by rw [hx_4481]; omega) (by omega) _ _ hP hD hS ls (lv_sub hl [0, 1, 2, 3] rfl)
    exact lp_3042 ((9 - (0 : Int32).toInt : Int).toNat + 1) 0 fb (by decide) (Nat.lt_succ_self _) _ _ hP hD hS ls (lv_sub hl [0, 1, 2, 3] rfl)
  · refine lv_if_ne (tgt := 17) hx hb dX12_ask_12 (by decide) (fun c_4482 => absurd (by decide) c_4482) (fun c_4482 => ?_)
    refine lv_iconst (v := (-1)) hx hb dX12_ask_15 (by decide) ?_
    subst hQ
    have hP9 := hP.sub (ws' := [(m0, .inr (12, [.int 0, m_1, m_2, .ref w0, m_4, m_5, m_6, m_7, m_8, m_9, m_10, m_11, m_12, m_13, m_14, m_15, m_16, m_17, m_18, m_19, m_20, m_21, m_22, m_23, m_24, m_25, m_26, m_27, m_28, m_29, m_30, m_31, m_32, m_33, m_34, m_35, m_36, m_37, m_38, m_39, m_40, m_41, m_42, m_43, m_44, m_45, m_46, m_47, m_48, .ref b0, m_50, m_51, m_52, m_53, m_54, m_55, m_56, m_57, m_58, m_59])), (w0, .inl (K 0, 5500, .inl fw)), (b0, .inl (K 0, 8, .inl fb))]) [0, 1, 2] rfl
    have hD9 := hD.sub (ws' := [(m0, .inr (12, [.int 0, m_1, m_2, .ref w0, m_4, m_5, m_6, m_7, m_8, m_9, m_10, m_11, m_12, m_13, m_14, m_15, m_16, m_17, m_18, m_19, m_20, m_21, m_22, m_23, m_24, m_25, m_26, m_27, m_28, m_29, m_30, m_31, m_32, m_33, m_34, m_35, m_36, m_37, m_38, m_39, m_40, m_41, m_42, m_43, m_44, m_45, m_46, m_47, m_48, .ref b0, m_50, m_51, m_52, m_53, m_54, m_55, m_56, m_57, m_58, m_59])), (w0, .inl (K 0, 5500, .inl fw)), (b0, .inl (K 0, 8, .inl fb))]) [0, 1, 2] (by decide) rfl
    exact W.iret (v := (-1)) hx hb hr (fun t ht hW => ⟨⟨(-1), ((fun _ => 0, fun i => match i with | _ => fb, fun _ => fun _ => 0, fun _ => 0, fun _ => 0, fun _ => fun _ => none) : Su), rfl, trivial, (⟨by rw [ht]; exact hP9, hD9⟩ : Wd D A _ t)⟩, hS.F ht⟩) hS.2.2 dX12_ask_16
set_option maxHeartbeats 4000000 in
set_option maxRecDepth 100000 in
theorem v_chance (l : Launch) (D : va_G) (K : Nat → ClassId) (m0 : Nat) (x : Int32) (thr : Int32) (m_1 : Value) (m_2 : Value) (w0 : Nat) (m_4 : Value) (m_5 : Value) (m_6 : Value) (m_7 : Value) (m_8 : Value) (m_9 : Value) (m_10 : Value) (m_11 : Value) (m_12 : Value) (m_13 : Value) (m_14 : Value) (m_15 : Value) (m_16 : Value) (m_17 : Value) (m_18 : Value) (m_19 : Value) (m_20 : Value) (m_21 : Value) (m_22 : Value) (m_23 : Value) (m_24 : Value) (m_25 : Value) (m_26 : Value) (m_27 : Value) (m_28 : Value) (m_29 : Value) (m_30 : Value) (m_31 : Value) (m_32 : Value) (m_33 : Value) (m_34 : Value) (m_35 : Value) (m_36 : Value) (m_37 : Value) (m_38 : Value) (m_39 : Value) (m_40 : Value) (m_41 : Value) (m_42 : Value) (m_43 : Value) (m_44 : Value) (m_45 : Value) (m_46 : Value) (m_47 : Value) (m_48 : Value) (m_49 : Value) (m_50 : Value) (m_51 : Value) (m_52 : Value) (m_53 : Value) (m_54 : Value) (m_55 : Value) (m_56 : Value) (m_57 : Value) (m_58 : Value) (m_59 : Value) (fw : Nat → Int32) (sz : Nat) (zfw : RwOK fw) : Met l yX12_chance wsX12_chance ({ frames := 3, cells := 0, slots := 0, locals := 69 }) (va_Pc [.ref m0, .int x] (Pre D K [(m0, .inr (12, [.int thr, m_1, m_2, .ref w0, m_4, m_5, m_6, m_7, m_8, m_9, m_10, m_11, m_12, m_13, m_14, m_15, m_16, m_17, m_18, m_19, m_20, m_21, m_22, m_23, m_24, m_25, m_26, m_27, m_28, m_29, m_30, m_31, m_32, m_33, m_34, m_35, m_36, m_37, m_38, m_39, m_40, m_41, m_42, m_43, m_44, m_45, m_46, m_47, m_48, m_49, m_50, m_51, m_52, m_53, m_54, m_55, m_56, m_57, m_58, m_59])), (w0, .inl (K 0, 5500, .inl fw))] sz)) (va_Ql (S := Su) (fun (r : Int64) (u : Su) => True) (fun u t => Wd D (va_A [(m0, .inr (12, [.int thr, m_1, m_2, .ref w0, m_4, m_5, m_6, m_7, m_8, m_9, m_10, m_11, m_12, m_13, m_14, m_15, m_16, m_17, m_18, m_19, m_20, m_21, m_22, m_23, m_24, m_25, m_26, m_27, m_28, m_29, m_30, m_31, m_32, m_33, m_34, m_35, m_36, m_37, m_38, m_39, m_40, m_41, m_42, m_43, m_44, m_45, m_46, m_47, m_48, m_49, m_50, m_51, m_52, m_53, m_54, m_55, m_56, m_57, m_58, m_59])), (w0, .inl (K 0, 5500, .inl fw))] sz) ((fun u => [(m0, .inr (12, [.int 0, m_1, m_2, .ref w0, m_4, m_5, m_6, m_7, m_8, m_9, m_10, m_11, m_12, m_13, m_14, m_15, m_16, m_17, m_18, m_19, m_20, m_21, m_22, m_23, m_24, m_25, m_26, m_27, m_28, m_29, m_30, m_31, m_32, m_33, m_34, m_35, m_36, m_37, m_38, m_39, m_40, m_41, m_42, m_43, m_44, m_45, m_46, m_47, m_48, m_49, m_50, m_51, m_52, m_53, m_54, m_55, m_56, m_57, m_58, m_59])), (w0, .inl (K 0, 5500, .inl fw))]) u) t) (va_A [(m0, .inr (12, [.int thr, m_1, m_2, .ref w0, m_4, m_5, m_6, m_7, m_8, m_9, m_10, m_11, m_12, m_13, m_14, m_15, m_16, m_17, m_18, m_19, m_20, m_21, m_22, m_23, m_24, m_25, m_26, m_27, m_28, m_29, m_30, m_31, m_32, m_33, m_34, m_35, m_36, m_37, m_38, m_39, m_40, m_41, m_42, m_43, m_44, m_45, m_46, m_47, m_48, m_49, m_50, m_51, m_52, m_53, m_54, m_55, m_56, m_57, m_58, m_59])), (w0, .inl (K 0, 5500, .inl fw))] sz)) 0 0 (va_A [(m0, .inr (12, [.int thr, m_1, m_2, .ref w0, m_4, m_5, m_6, m_7, m_8, m_9, m_10, m_11, m_12, m_13, m_14, m_15, m_16, m_17, m_18, m_19, m_20, m_21, m_22, m_23, m_24, m_25, m_26, m_27, m_28, m_29, m_30, m_31, m_32, m_33, m_34, m_35, m_36, m_37, m_38, m_39, m_40, m_41, m_42, m_43, m_44, m_45, m_46, m_47, m_48, m_49, m_50, m_51, m_52, m_53, m_54, m_55, m_56, m_57, m_58, m_59])), (w0, .inl (K 0, 5500, .inl fw))] sz) := by
  refine Met.ofW (cc := cX12_chance) (maxL := 8) (ret := (some .long)) (by decide) rfl ?_
  intro p e s m args below meth c s₁ B hml hv
  obtain ⟨rfl, hsz, hP, hK, hD0, hN⟩ := hv
  have hx := B.exec
  have hb := B.bytes
  have hr := B.returns
  have hts := atoms_spec (ws := wsX12_chance) B.pre
  have hown : s.vm.findClass RX12 = some m.cls := findClass_of_methodNamed B.named
  have hlocks := B.notSynchronized
  subst hsz
  have hD := hD0.self (sz := s.heap.size)
  generalize hAe : va_A [(m0, .inr (12, [.int thr, m_1, m_2, .ref w0, m_4, m_5, m_6, m_7, m_8, m_9, m_10, m_11, m_12, m_13, m_14, m_15, m_16, m_17, m_18, m_19, m_20, m_21, m_22, m_23, m_24, m_25, m_26, m_27, m_28, m_29, m_30, m_31, m_32, m_33, m_34, m_35, m_36, m_37, m_38, m_39, m_40, m_41, m_42, m_43, m_44, m_45, m_46, m_47, m_48, m_49, m_50, m_51, m_52, m_53, m_54, m_55, m_56, m_57, m_58, m_59])), (w0, .inl (K 0, 5500, .inl fw))] s.heap.size = A at hD ⊢
  have hA : ∀ q : Nat, s.heap.size ≤ q → A q := fun q h => by rw [← hAe]; exact Or.inr h
  have hS : va_S A s.heap s.heap [] := va_S.rf
  have hP : va_P D vwCl [(m0, .inr (12, [.int thr, m_1, m_2, .ref w0, m_4, m_5, m_6, m_7, m_8, m_9, m_10, m_11, m_12, m_13, m_14, m_15, m_16, m_17, m_18, m_19, m_20, m_21, m_22, m_23, m_24, m_25, m_26, m_27, m_28, m_29, m_30, m_31, m_32, m_33, m_34, m_35, m_36, m_37, m_38, m_39, m_40, m_41, m_42, m_43, m_44, m_45, m_46, m_47, m_48, m_49, m_50, m_51, m_52, m_53, m_54, m_55, m_56, m_57, m_58, m_59])), (w0, .inl (K 0, 5500, .inl fw))] s.heap := hP
  have hl := lv_entry [.ref m0, .int x] (n := 8) (Nat.le_of_ble_eq_true rfl)
  rw [lg_entry_eq]
  generalize (lg_sl [.ref m0, .int x] ++ List.replicate (8 - (lg_sl [.ref m0, .int x]).length) Slot.unset).toArray = ls at hl ⊢
  have hl : lv_has ls 8 [(0, .ref m0), (1, .int x)] := hl
  have hw12 : ∀ w ∈ wsX120, w ∈ wsX12_chance := fun w h => (List.mem_cons_of_mem _ (List.mem_append_right _ h))
  generalize hQ : MQ below _ _ s _ _ _ = Q
  refine lv_aload_n hx hb dX12_chance_0 rfl (lv_at hl 0 rfl) ?_
  refine lv_iconst (v := 0) hx hb dX12_chance_1 (by decide) ?_
  refine va_put (ci := 12) (v := .int 0) (ty := .int) (C := RX12) (T := TX12) (N := 60) hx hb hts hw12 tyX12 tyX12_ok nmX12 hown hK hP hD hS 0 rfl rfl 0 (by decide) (hts (.fieldLink RX12 158 "SmokeTuneModel" "thrown" "I") (List.mem_cons_of_mem _ (List.mem_append_left _ (List.mem_append_left _ (List.mem_of_getElem? (i := 0) rfl))))) (fun _ h9 => h9) rfl (by decide +kernel) (by first | rfl | decide) (by first | rfl | decide) (Nat.le_of_ble_eq_true rfl) dX12_chance_2 (fun H locs hP hD hS => ?_)
  have hP : va_P D vwCl [(m0, .inr (12, [.int 0, m_1, m_2, .ref w0, m_4, m_5, m_6, m_7, m_8, m_9, m_10, m_11, m_12, m_13, m_14, m_15, m_16, m_17, m_18, m_19, m_20, m_21, m_22, m_23, m_24, m_25, m_26, m_27, m_28, m_29, m_30, m_31, m_32, m_33, m_34, m_35, m_36, m_37, m_38, m_39, m_40, m_41, m_42, m_43, m_44, m_45, m_46, m_47, m_48, m_49, m_50, m_51, m_52, m_53, m_54, m_55, m_56, m_57, m_58, m_59])), (w0, .inl (K 0, 5500, .inl fw))] H := hP
  have hD : va_D A [(m0, .inr (12, [.int 0, m_1, m_2, .ref w0, m_4, m_5, m_6, m_7, m_8, m_9, m_10, m_11, m_12, m_13, m_14, m_15, m_16, m_17, m_18, m_19, m_20, m_21, m_22, m_23, m_24, m_25, m_26, m_27, m_28, m_29, m_30, m_31, m_32, m_33, m_34, m_35, m_36, m_37, m_38, m_39, m_40, m_41, m_42, m_43, m_44, m_45, m_46, m_47, m_48, m_49, m_50, m_51, m_52, m_53, m_54, m_55, m_56, m_57, m_58, m_59])), (w0, .inl (K 0, 5500, .inl fw))] := hD
  refine lv_iload_n hx hb dX12_chance_5 rfl (lv_at hl 1 rfl) ?_
  refine lv_i2l hx hb dX12_chance_6 rfl ?_
  refine lv_topl (fun x_1397 ex_1397 => ?_)
  have hx_1397 : x_1397.toInt = x.toInt := by rw [ex_1397]; exact i_wide rfl
  have hbx_1397 := i_rng (a := x) rfl
  refine lv_lconst (v := 0) hx hb dX12_chance_7 (by decide) ?_
  refine lv_ldc2 (v := 127) hx hb hown (hts (.constantLong RX12 212 (127)) (List.mem_cons_of_mem _ (List.mem_append_left _ (List.mem_append_left _ (List.mem_of_getElem? (i := 1) rfl))))) dX12_chance_8 ?_
  refine pci (va_runS (As := [.long x_1397, .long 0, .long 127]) (rest := []) ⟨hx, hb, hml, hown, hts⟩ (v_in l D K x.toInt 0 127 x_1397 0 127 H.size hx_1397 (show (0 : Int64).toInt = 0 from rfl) (show (127 : Int64).toInt = 127 from rfl)) (va_cwS 3 hts gX12_chance_X12_in rfl rfl rfl (by decide +kernel) ⟨Nat.le_of_ble_eq_true rfl, Nat.le_of_ble_eq_true rfl⟩) (mkS hK hN (va_P.nil) (va_D.nil (A := fun _ => True))) rfl rfl hl.1 rfl (lv_room (Nat.le_of_ble_eq_true rfl)) dX12_chance_11 ⟨Nat.le_of_ble_eq_true rfl, Nat.le_of_ble_eq_true rfl⟩) (fun r_1398 hw => ?_)
  obtain ⟨hw, -⟩ := hw
  rcases hw with ⟨rfl, h_1399, h_1400⟩ | ⟨rfl, h_1401⟩
  · refine lv_if_ne (tgt := 21) hx hb dX12_chance_14 (by decide) (fun c_1402 => ?_) (fun c_1402 => absurd c_1402 (by decide))
    refine lv_ldc2 (v := 1000000000000) hx hb hown (hts (.constantLong RX12 518 (1000000000000)) (List.mem_cons_of_mem _ (List.mem_append_left _ (List.mem_append_left _ (List.mem_of_getElem? (i := 3) rfl))))) dX12_chance_21 ?_
    refine lv_lstore_n (lv' := [(2, .long 1000000000000), (0, .ref m0), (1, .int x)]) hx hb dX12_chance_24 rfl hl (by decide) rfl (fun ls hl => ?_)
    refine lv_iconst (v := 0) hx hb dX12_chance_25 (by decide) ?_
    refine lv_istore (lv' := [(4, .int 0), (2, .long 1000000000000), (0, .ref m0), (1, .int x)]) hx hb dX12_chance_26 hl (by decide) rfl (fun ls hl => ?_)
    have lp_1969 : ∀ (nn_ : Nat) (v_1779 : Int32) (v_1780 : Int64) (hv_1779 : 0 ≤ v_1779.toInt ∧ v_1779.toInt ≤ 7) (hn : (8 - v_1779.toInt : Int).toNat < nn_) (H : Heap) (locs : List Loc) (hP : va_P D vwCl [(m0, .inr (12, [.int 0, m_1, m_2, .ref w0, m_4, m_5, m_6, m_7, m_8, m_9, m_10, m_11, m_12, m_13, m_14, m_15, m_16, m_17, m_18, m_19, m_20, m_21, m_22, m_23, m_24, m_25, m_26, m_27, m_28, m_29, m_30, m_31, m_32, m_33, m_34, m_35, m_36, m_37, m_38, m_39, m_40, m_41, m_42, m_43, m_44, m_45, m_46, m_47, m_48, m_49, m_50, m_51, m_52, m_53, m_54, m_55, m_56, m_57, m_58, m_59])), (w0, .inl (K 0, 5500, .inl fw))] H) (hD : va_D A [(m0, .inr (12, [.int 0, m_1, m_2, .ref w0, m_4, m_5, m_6, m_7, m_8, m_9, m_10, m_11, m_12, m_13, m_14, m_15, m_16, m_17, m_18, m_19, m_20, m_21, m_22, m_23, m_24, m_25, m_26, m_27, m_28, m_29, m_30, m_31, m_32, m_33, m_34, m_35, m_36, m_37, m_38, m_39, m_40, m_41, m_42, m_43, m_44, m_45, m_46, m_47, m_48, m_49, m_50, m_51, m_52, m_53, m_54, m_55, m_56, m_57, m_58, m_59])), (w0, .inl (K 0, 5500, .inl fw))]) (hS : va_S A s.heap H locs) (ls : Array Slot) (hl : lv_has ls 8 [(4, .int v_1779), (2, .long v_1780), (0, .ref m0), (1, .int x)]), W p l e ({ frames := 3, cells := 0, slots := 0, locals := 69 }) s m (([.ref m0, .int x] : List Value).toArray) below meth c H locs 0 0 Q (F0 m 28 ls []) := by
      intro nn_
      induction nn_ with
      | zero =>
        intro v_1779 v_1780 hv_1779 hn H locs hP hD hS ls hl
        exact absurd hn (Nat.not_lt_zero _)
      | succ nn_ ih_1970 =>
        intro v_1779 v_1780 hv_1779 hn H locs hP hD hS ls hl
        refine lv_iload hx hb dX12_chance_28 (lv_at hl 0 rfl) ?_
        refine lv_bipush (v := 7) hx hb dX12_chance_30 (by decide) ?_
        refine lv_icmp_ge (tgt := 92) hx hb dX12_chance_32 (by decide) (fun c_1971 => ?_) (fun c_1971 => ?_)
        · have c_1971i := i_le (x := 7) (y := v_1779.toInt) rfl rfl c_1971
          refine lv_lload_n hx hb dX12_chance_92 rfl (lv_at hl 1 rfl) ?_
          subst hQ
          have hP9 := hP.sub (ws' := [(m0, .inr (12, [.int 0, m_1, m_2, .ref w0, m_4, m_5, m_6, m_7, m_8, m_9, m_10, m_11, m_12, m_13, m_14, m_15, m_16, m_17, m_18, m_19, m_20, m_21, m_22, m_23, m_24, m_25, m_26, m_27, m_28, m_29, m_30, m_31, m_32, m_33, m_34, m_35, m_36, m_37, m_38, m_39, m_40, m_41, m_42, m_43, m_44, m_45, m_46, m_47, m_48, m_49, m_50, m_51, m_52, m_53, m_54, m_55, m_56, m_57, m_58, m_59])), (w0, .inl (K 0, 5500, .inl fw))]) [0, 1] rfl
          have hD9 := hD.sub (ws' := [(m0, .inr (12, [.int 0, m_1, m_2, .ref w0, m_4, m_5, m_6, m_7, m_8, m_9, m_10, m_11, m_12, m_13, m_14, m_15, m_16, m_17, m_18, m_19, m_20, m_21, m_22, m_23, m_24, m_25, m_26, m_27, m_28, m_29, m_30, m_31, m_32, m_33, m_34, m_35, m_36, m_37, m_38, m_39, m_40, m_41, m_42, m_43, m_44, m_45, m_46, m_47, m_48, m_49, m_50, m_51, m_52, m_53, m_54, m_55, m_56, m_57, m_58, m_59])), (w0, .inl (K 0, 5500, .inl fw))]) [0, 1] (by decide) rfl
          exact W.lret (v := v_1780) hx hb hr (fun t ht hW => ⟨⟨v_1780, ((fun _ => 0, fun _ => fun _ => 0, fun _ => fun _ => 0, fun _ => 0, fun _ => 0, fun _ => fun _ => none) : Su), rfl, trivial, (⟨by rw [ht]; exact hP9, hD9⟩ : Wd D A _ t)⟩, hS.F ht⟩) hS.2.2 dX12_chance_93
        · have c_1971i := i_nle (x := 7) (y := v_1779.toInt) rfl rfl c_1971
          refine lv_iload_n hx hb dX12_chance_35 rfl (lv_at hl 3 rfl) ?_
          refine lv_iload hx hb dX12_chance_36 (lv_at hl 0 rfl) ?_
          have j_2018 : ∀ (v_2016 : Int64) (H : Heap) (locs : List Loc) (hP : va_P D vwCl [(m0, .inr (12, [.int 0, m_1, m_2, .ref w0, m_4, m_5, m_6, m_7, m_8, m_9, m_10, m_11, m_12, m_13, m_14, m_15, m_16, m_17, m_18, m_19, m_20, m_21, m_22, m_23, m_24, m_25, m_26, m_27, m_28, m_29, m_30, m_31, m_32, m_33, m_34, m_35, m_36, m_37, m_38, m_39, m_40, m_41, m_42, m_43, m_44, m_45, m_46, m_47, m_48, m_49, m_50, m_51, m_52, m_53, m_54, m_55, m_56, m_57, m_58, m_59])), (w0, .inl (K 0, 5500, .inl fw))] H) (hD : va_D A [(m0, .inr (12, [.int 0, m_1, m_2, .ref w0, m_4, m_5, m_6, m_7, m_8, m_9, m_10, m_11, m_12, m_13, m_14, m_15, m_16, m_17, m_18, m_19, m_20, m_21, m_22, m_23, m_24, m_25, m_26, m_27, m_28, m_29, m_30, m_31, m_32, m_33, m_34, m_35, m_36, m_37, m_38, m_39, m_40, m_41, m_42, m_43, m_44, m_45, m_46, m_47, m_48, m_49, m_50, m_51, m_52, m_53, m_54, m_55, m_56, m_57, m_58, m_59])), (w0, .inl (K 0, 5500, .inl fw))]) (hS : va_S A s.heap H locs) (ls : Array Slot) (hl : lv_has ls 8 [(4, .int v_1779), (2, .long v_2016), (0, .ref m0), (1, .int x)]), W p l e ({ frames := 3, cells := 0, slots := 0, locals := 69 }) s m (([.ref m0, .int x] : List Value).toArray) below meth c H locs 0 0 Q (F0 m 86 ls []) := by
            intro v_2016 H locs hP hD hS ls hl
            obtain ⟨x_2019, ex_2019⟩ : ∃ y : Int32, y = v_1779 + Int32.ofInt 1 := ⟨_, rfl⟩
            have hx_2019 : x_2019.toInt = (v_1779.toInt + 1) := by rw [ex_2019]; exact i_add rfl (show (Int32.ofInt 1).toInt = 1 from rfl) (by omega)
            refine lv_iinc (v := x_2019) (lv' := [(4, .int x_2019), (2, .long v_2016), (0, .ref m0), (1, .int x)]) hx hb dX12_chance_86 hl (k := 0) rfl (by rw [ex_2019]) (by decide) rfl (fun ls hl => ?_)
            refine lv_goto (tgt := 28) hx hb dX12_chance_89 (by decide) ?_
            exact ih_1970 x_2019 v_2016 (by rw [hx_2019]; omega) (by omega) _ _ hP hD hS ls (lv_sub hl [0, 1, 2, 3] rfl)
          refine pci (va_runS (As := [.int x, .int v_1779]) (rest := []) ⟨hx, hb, hml, hown, hts⟩ (v_is l D K x v_1779 H.size) (va_cwS 2 hts gX12_chance_X12_is rfl rfl rfl (by decide +kernel) ⟨Nat.le_of_ble_eq_true rfl, Nat.le_of_ble_eq_true rfl⟩) (mkS hK hN (va_P.nil) (va_D.nil (A := fun _ => True))) rfl rfl hl.1 rfl (lv_room (Nat.le_of_ble_eq_true rfl)) dX12_chance_38 ⟨Nat.le_of_ble_eq_true rfl, Nat.le_of_ble_eq_true rfl⟩) (fun r_2020 hw => ?_)
          obtain ⟨h_2021, -⟩ := hw
          refine lv_if_eq (tgt := 86) hx hb dX12_chance_41 (by decide) (fun c_2022 => ?_) (fun c_2022 => ?_)
          · have c_2022i := i_eq (x := r_2020.toInt) (y := 0) rfl rfl c_2022
            exact j_2018 v_1780  _ _ hP hD hS ls (lv_sub hl [0, 1, 2, 3] rfl)
          · have c_2022i := i_ne (x := r_2020.toInt) (y := 0) rfl rfl c_2022
            refine lv_lload_n hx hb dX12_chance_44 rfl (lv_at hl 1 rfl) ?_
            refine lv_lstore (lv' := [(5, .long v_1780), (4, .int v_1779), (2, .long v_1780), (0, .ref m0), (1, .int x)]) hx hb dX12_chance_45 hl (by decide) rfl (fun ls hl => ?_)
            refine lv_aload_n hx hb dX12_chance_47 rfl (lv_at hl 3 rfl) ?_
            refine lv_iload hx hb dX12_chance_48 (lv_at hl 1 rfl) ?_
            refine pci (va_runV (As := [.int v_1779]) (rest := []) ⟨hx, hb, hml, hown, hts⟩ (v_soundWith l D K m0 v_1779 (.int 0) m_1 m_2 w0 m_4 m_5 m_6 m_7 m_8 m_9 m_10 m_11 m_12 m_13 m_14 m_15 m_16 m_17 m_18 m_19 m_20 m_21 m_22 m_23 m_24 m_25 m_26 m_27 m_28 m_29 m_30 m_31 m_32 m_33 m_34 m_35 m_36 m_37 m_38 m_39 m_40 m_41 m_42 m_43 m_44 m_45 m_46 m_47 m_48 m_49 m_50 m_51 m_52 m_53 m_54 m_55 m_56 m_57 m_58 m_59 fw H.size zfw) (cwV 1 hts gX12_chance_X12_soundWith rfl rfl rfl (by decide +kernel) ⟨Nat.le_of_ble_eq_true rfl, Nat.le_of_ble_eq_true rfl⟩) (mkV hK hN (hP.sub [0, 1] rfl) (hD.sub [0, 1] (by decide) rfl) (ci := 12) (q0 := 0) rfl rfl) rfl rfl hl.1 rfl (lv_room (Nat.le_of_ble_eq_true rfl)) dX12_chance_50 ⟨Nat.le_of_ble_eq_true rfl, Nat.le_of_ble_eq_true rfl⟩) (fun r_2023 hw => ?_)
            obtain ⟨h_2024, -⟩ := hw
            refine lv_istore (lv' := [(7, .int r_2023), (5, .long v_1780), (4, .int v_1779), (2, .long v_1780), (0, .ref m0), (1, .int x)]) hx hb dX12_chance_53 hl (by decide) rfl (fun ls hl => ?_)
            have lp_2055 : ∀ (nn_ : Nat) (v_2039 : Int32) (v_2040 : Int64) (hv_2039 : 0 ≤ v_2039.toInt ∧ v_2039.toInt ≤ 8) (hn : (v_2039.toInt - (-1) : Int).toNat < nn_) (H : Heap) (locs : List Loc) (hP : va_P D vwCl [(m0, .inr (12, [.int 0, m_1, m_2, .ref w0, m_4, m_5, m_6, m_7, m_8, m_9, m_10, m_11, m_12, m_13, m_14, m_15, m_16, m_17, m_18, m_19, m_20, m_21, m_22, m_23, m_24, m_25, m_26, m_27, m_28, m_29, m_30, m_31, m_32, m_33, m_34, m_35, m_36, m_37, m_38, m_39, m_40, m_41, m_42, m_43, m_44, m_45, m_46, m_47, m_48, m_49, m_50, m_51, m_52, m_53, m_54, m_55, m_56, m_57, m_58, m_59])), (w0, .inl (K 0, 5500, .inl fw))] H) (hD : va_D A [(m0, .inr (12, [.int 0, m_1, m_2, .ref w0, m_4, m_5, m_6, m_7, m_8, m_9, m_10, m_11, m_12, m_13, m_14, m_15, m_16, m_17, m_18, m_19, m_20, m_21, m_22, m_23, m_24, m_25, m_26, m_27, m_28, m_29, m_30, m_31, m_32, m_33, m_34, m_35, m_36, m_37, m_38, m_39, m_40, m_41, m_42, m_43, m_44, m_45, m_46, m_47, m_48, m_49, m_50, m_51, m_52, m_53, m_54, m_55, m_56, m_57, m_58, m_59])), (w0, .inl (K 0, 5500, .inl fw))]) (hS : va_S A s.heap H locs) (ls : Array Slot) (hl : lv_has ls 8 [(7, .int v_2039), (5, .long v_2040), (4, .int v_1779), (2, .long v_1780), (0, .ref m0), (1, .int x)]), W p l e ({ frames := 3, cells := 0, slots := 0, locals := 69 }) s m (([.ref m0, .int x] : List Value).toArray) below meth c H locs 0 0 Q (F0 m 55 ls []) := by
              intro nn_
              induction nn_ with
              | zero =>
                intro v_2039 v_2040 hv_2039 hn H locs hP hD hS ls hl
                exact absurd hn (Nat.not_lt_zero _)
              | succ nn_ ih_2056 =>
                intro v_2039 v_2040 hv_2039 hn H locs hP hD hS ls hl
                refine lv_iload hx hb dX12_chance_55 (lv_at hl 0 rfl) ?_
                refine lv_if_le (tgt := 81) hx hb dX12_chance_57 (by decide) (fun c_2057 => ?_) (fun c_2057 => ?_)
                · have c_2057i := i_le (x := v_2039.toInt) (y := 0) rfl rfl c_2057
                  refine lv_lload_n hx hb dX12_chance_81 rfl (lv_at hl 3 rfl) ?_
                  refine lv_lload hx hb dX12_chance_82 (lv_at hl 1 rfl) ?_
                  refine lv_lsub hx hb dX12_chance_84 ?_
                  refine lv_topl (fun x_2058 ex_2058 => ?_)
                  refine lv_lstore_n (lv' := [(2, .long x_2058), (7, .int v_2039), (5, .long v_2040), (4, .int v_1779), (0, .ref m0), (1, .int x)]) hx hb dX12_chance_85 rfl hl (by decide) rfl (fun ls hl => ?_)
                  exact j_2018 x_2058  _ _ hP hD hS ls (lv_sub hl [3, 0, 4, 5] rfl)
                · have c_2057i := i_nle (x := v_2039.toInt) (y := 0) rfl rfl c_2057
                  refine lv_lload hx hb dX12_chance_60 (lv_at hl 1 rfl) ?_
                  refine lv_aload_n hx hb dX12_chance_62 rfl (lv_at hl 4 rfl) ?_
                  refine lv_iconst (v := 4) hx hb dX12_chance_63 (by decide) ?_
                  refine pci (va_runV (As := [.int 4]) (rest := [.long v_2040]) ⟨hx, hb, hml, hown, hts⟩ (v_term l D K m0 4 (.int 0) m_1 m_2 w0 m_4 m_5 m_6 m_7 m_8 m_9 m_10 m_11 m_12 m_13 m_14 m_15 m_16 m_17 m_18 m_19 m_20 m_21 m_22 m_23 m_24 m_25 m_26 m_27 m_28 m_29 m_30 m_31 m_32 m_33 m_34 m_35 m_36 m_37 m_38 m_39 m_40 m_41 m_42 m_43 m_44 m_45 m_46 m_47 m_48 m_49 m_50 m_51 m_52 m_53 m_54 m_55 m_56 m_57 m_58 m_59 fw H.size (by first | omega | decide) zfw) (cwV 1 hts gX12_chance_X12_term rfl rfl rfl (by decide +kernel) ⟨Nat.le_of_ble_eq_true rfl, Nat.le_of_ble_eq_true rfl⟩) (mkV hK hN (hP.sub [0, 1] rfl) (hD.sub [0, 1] (by decide) rfl) (ci := 12) (q0 := 0) rfl rfl) rfl rfl hl.1 rfl (lv_room (Nat.le_of_ble_eq_true rfl)) dX12_chance_64 ⟨Nat.le_of_ble_eq_true rfl, Nat.le_of_ble_eq_true rfl⟩) (fun r_2059 hw => ?_)
                  refine lv_i2l hx hb dX12_chance_67 rfl ?_
                  refine lv_topl (fun x_2060 ex_2060 => ?_)
                  have hx_2060 : x_2060.toInt = r_2059.toInt := by rw [ex_2060]; exact i_wide rfl
                  refine lv_lmul hx hb dX12_chance_68 ?_
                  refine lv_topl (fun x_2061 ex_2061 => ?_)
                  refine lv_ldc2 (v := 10) hx hb hown (hts (.constantLong RX12 219 (10)) (List.mem_cons_of_mem _ (List.mem_append_left _ (List.mem_append_left _ (List.mem_of_getElem? (i := 4) rfl))))) dX12_chance_69 ?_
                  refine lv_ldiv hx hb dX12_chance_72 (by decide) ?_
                  refine lv_topl (fun x_2062 ex_2062 => ?_)
                  refine lv_lstore (lv' := [(5, .long x_2062), (7, .int v_2039), (4, .int v_1779), (2, .long v_1780), (0, .ref m0), (1, .int x)]) hx hb dX12_chance_73 hl (by decide) rfl (fun ls hl => ?_)
                  obtain ⟨x_2063, ex_2063⟩ : ∃ y : Int32, y = v_2039 + Int32.ofInt (-1) := ⟨_, rfl⟩
                  have hx_2063 : x_2063.toInt = (v_2039.toInt + (-1)) := by rw [ex_2063]; exact i_add rfl (show (Int32.ofInt (-1)).toInt = (-1) from rfl) (by omega)
                  refine lv_iinc (v := x_2063) (lv' := [(7, .int x_2063), (5, .long x_2062), (4, .int v_1779), (2, .long v_1780), (0, .ref m0), (1, .int x)]) hx hb dX12_chance_75 hl (k := 1) rfl (by rw [ex_2063]) (by decide) rfl (fun ls hl => ?_)
                  refine lv_goto (tgt := 55) hx hb dX12_chance_78 (by decide) ?_
                  exact ih_2056 x_2063 x_2062 (by rw [hx_2063]; omega) (by omega) _ _ hP hD hS ls (lv_sub hl [0, 1, 2, 3, 4, 5] rfl)
            exact lp_2055 (((r_2023 : Int32).toInt - (-1) : Int).toNat + 1) r_2023 v_1780 (by omega) (Nat.lt_succ_self _) _ _ hP hD hS ls (lv_sub hl [0, 1, 2, 3, 4, 5] rfl)
    exact lp_1969 ((8 - (0 : Int32).toInt : Int).toNat + 1) 0 1000000000000 (by decide) (Nat.lt_succ_self _) _ _ hP hD hS ls (lv_sub hl [0, 1, 2, 3] rfl)
  · refine lv_if_ne (tgt := 21) hx hb dX12_chance_14 (by decide) (fun c_2064 => absurd (by decide) c_2064) (fun c_2064 => ?_)
    refine lv_ldc2 (v := (-1)) hx hb hown (hts (.constantLong RX12 266 (-1)) (List.mem_cons_of_mem _ (List.mem_append_left _ (List.mem_append_left _ (List.mem_of_getElem? (i := 2) rfl))))) dX12_chance_17 ?_
    subst hQ
    have hP9 := hP.sub (ws' := [(m0, .inr (12, [.int 0, m_1, m_2, .ref w0, m_4, m_5, m_6, m_7, m_8, m_9, m_10, m_11, m_12, m_13, m_14, m_15, m_16, m_17, m_18, m_19, m_20, m_21, m_22, m_23, m_24, m_25, m_26, m_27, m_28, m_29, m_30, m_31, m_32, m_33, m_34, m_35, m_36, m_37, m_38, m_39, m_40, m_41, m_42, m_43, m_44, m_45, m_46, m_47, m_48, m_49, m_50, m_51, m_52, m_53, m_54, m_55, m_56, m_57, m_58, m_59])), (w0, .inl (K 0, 5500, .inl fw))]) [0, 1] rfl
    have hD9 := hD.sub (ws' := [(m0, .inr (12, [.int 0, m_1, m_2, .ref w0, m_4, m_5, m_6, m_7, m_8, m_9, m_10, m_11, m_12, m_13, m_14, m_15, m_16, m_17, m_18, m_19, m_20, m_21, m_22, m_23, m_24, m_25, m_26, m_27, m_28, m_29, m_30, m_31, m_32, m_33, m_34, m_35, m_36, m_37, m_38, m_39, m_40, m_41, m_42, m_43, m_44, m_45, m_46, m_47, m_48, m_49, m_50, m_51, m_52, m_53, m_54, m_55, m_56, m_57, m_58, m_59])), (w0, .inl (K 0, 5500, .inl fw))]) [0, 1] (by decide) rfl
    exact W.lret (v := (-1)) hx hb hr (fun t ht hW => ⟨⟨(-1), ((fun _ => 0, fun _ => fun _ => 0, fun _ => fun _ => 0, fun _ => 0, fun _ => 0, fun _ => fun _ => none) : Su), rfl, trivial, (⟨by rw [ht]; exact hP9, hD9⟩ : Wd D A _ t)⟩, hS.F ht⟩) hS.2.2 dX12_chance_20
set_option maxHeartbeats 4000000 in
set_option maxRecDepth 100000 in
theorem v_compare (l : Launch) (D : va_G) (K : Nat → ClassId) (m0 : Nat) (x : Int32) (y : Int32) (thr : Int32) (m_1 : Value) (m_2 : Value) (w0 : Nat) (m_4 : Value) (m_5 : Value) (u0 : Nat) (m_7 : Value) (m_8 : Value) (m_9 : Value) (m_10 : Value) (m_11 : Value) (m_12 : Value) (m_13 : Value) (m_14 : Value) (m_15 : Value) (m_16 : Value) (m_17 : Value) (m_18 : Value) (m_19 : Value) (m_21 : Value) (m_22 : Value) (m_23 : Value) (m_24 : Value) (m_25 : Value) (m_26 : Value) (m_27 : Value) (m_28 : Value) (m_29 : Value) (m_30 : Value) (m_31 : Value) (m_32 : Value) (m_33 : Value) (lw : Int32) (e0 : Nat) (m_36 : Value) (q0 : Nat) (bro : Int32) (val : Int64) (sm : Int64) (m_41 : Value) (m_42 : Value) (m_43 : Value) (m_44 : Value) (m_45 : Value) (m_46 : Value) (m_47 : Value) (m_48 : Value) (m_49 : Value) (m_50 : Value) (m_51 : Value) (m_52 : Value) (m_53 : Value) (m_54 : Value) (m_55 : Value) (m_56 : Value) (m_57 : Value) (m_58 : Value) (m_59 : Value) (fw : Nat → Int32) (fe : Nat → Int64) (frs : Nat → Int64) (fu : Nat → Int32) (sz : Nat) (zbro : 0 ≤ bro.toInt ∧ bro.toInt ≤ 1) (zfw : RwOK fw) (zfu : Pu 558 fu) : Met l yX12_compare wsX12_compare ({ frames := 6, cells := 0, slots := 0, locals := 146 }) (va_Pc [.ref m0, .int x, .int y] (Pre D K [(m0, .inr (12, [.int thr, m_1, m_2, .ref w0, m_4, m_5, .ref u0, m_7, m_8, m_9, m_10, m_11, m_12, m_13, m_14, m_15, m_16, m_17, m_18, m_19, .int 0, m_21, m_22, m_23, m_24, m_25, m_26, m_27, m_28, m_29, m_30, m_31, m_32, m_33, .int lw, .ref e0, m_36, .ref q0, .int bro, .long val, .long sm, m_41, m_42, m_43, m_44, m_45, m_46, m_47, m_48, m_49, m_50, m_51, m_52, m_53, m_54, m_55, m_56, m_57, m_58, m_59])), (w0, .inl (K 0, 5500, .inl fw)), (e0, .inl (K 2, 13, .inr (.inl fe))), (q0, .inl (K 2, 400, .inr (.inl frs))), (u0, .inl (K 0, 558, .inl fu))] sz)) (va_Qi (S := Su) (fun (r : Int32) (u : Su) => (0 ≤ (u.2.2.2.1 1).toInt ∧ (u.2.2.2.1 1).toInt ≤ 1) ∧ (RwOK (u.2.1 0)) ∧ (Pu 558 (u.2.1 1)) ∧ True) (fun u t => Wd D (va_A [(m0, .inr (12, [.int thr, m_1, m_2, .ref w0, m_4, m_5, .ref u0, m_7, m_8, m_9, m_10, m_11, m_12, m_13, m_14, m_15, m_16, m_17, m_18, m_19, .int 0, m_21, m_22, m_23, m_24, m_25, m_26, m_27, m_28, m_29, m_30, m_31, m_32, m_33, .int lw, .ref e0, m_36, .ref q0, .int bro, .long val, .long sm, m_41, m_42, m_43, m_44, m_45, m_46, m_47, m_48, m_49, m_50, m_51, m_52, m_53, m_54, m_55, m_56, m_57, m_58, m_59])), (w0, .inl (K 0, 5500, .inl fw)), (e0, .inl (K 2, 13, .inr (.inl fe))), (q0, .inl (K 2, 400, .inr (.inl frs))), (u0, .inl (K 0, 558, .inl fu))] sz) ((fun u => [(m0, .inr (12, [.int 0, m_1, m_2, .ref w0, m_4, m_5, .ref u0, m_7, m_8, m_9, m_10, m_11, m_12, m_13, m_14, m_15, m_16, m_17, m_18, m_19, .int 0, m_21, m_22, m_23, m_24, m_25, m_26, m_27, m_28, m_29, m_30, m_31, m_32, m_33, .int (u.2.2.2.1 0), .ref e0, m_36, .ref q0, .int (u.2.2.2.1 1), .long (u.2.2.2.2.1 0), .long (u.2.2.2.2.1 1), m_41, m_42, m_43, m_44, m_45, m_46, m_47, m_48, m_49, m_50, m_51, m_52, m_53, m_54, m_55, m_56, m_57, m_58, m_59])), (w0, .inl (K 0, 5500, .inl (u.2.1 0))), (e0, .inl (K 2, 13, .inr (.inl (u.2.2.1 0)))), (q0, .inl (K 2, 400, .inr (.inl (u.2.2.1 1)))), (u0, .inl (K 0, 558, .inl (u.2.1 1)))]) u) t) (va_A [(m0, .inr (12, [.int thr, m_1, m_2, .ref w0, m_4, m_5, .ref u0, m_7, m_8, m_9, m_10, m_11, m_12, m_13, m_14, m_15, m_16, m_17, m_18, m_19, .int 0, m_21, m_22, m_23, m_24, m_25, m_26, m_27, m_28, m_29, m_30, m_31, m_32, m_33, .int lw, .ref e0, m_36, .ref q0, .int bro, .long val, .long sm, m_41, m_42, m_43, m_44, m_45, m_46, m_47, m_48, m_49, m_50, m_51, m_52, m_53, m_54, m_55, m_56, m_57, m_58, m_59])), (w0, .inl (K 0, 5500, .inl fw)), (e0, .inl (K 2, 13, .inr (.inl fe))), (q0, .inl (K 2, 400, .inr (.inl frs))), (u0, .inl (K 0, 558, .inl fu))] sz)) 0 0 (va_A [(m0, .inr (12, [.int thr, m_1, m_2, .ref w0, m_4, m_5, .ref u0, m_7, m_8, m_9, m_10, m_11, m_12, m_13, m_14, m_15, m_16, m_17, m_18, m_19, .int 0, m_21, m_22, m_23, m_24, m_25, m_26, m_27, m_28, m_29, m_30, m_31, m_32, m_33, .int lw, .ref e0, m_36, .ref q0, .int bro, .long val, .long sm, m_41, m_42, m_43, m_44, m_45, m_46, m_47, m_48, m_49, m_50, m_51, m_52, m_53, m_54, m_55, m_56, m_57, m_58, m_59])), (w0, .inl (K 0, 5500, .inl fw)), (e0, .inl (K 2, 13, .inr (.inl fe))), (q0, .inl (K 2, 400, .inr (.inl frs))), (u0, .inl (K 0, 558, .inl fu))] sz) := by
  refine Met.ofW (cc := cX12_compare) (maxL := 6) (ret := (some .int)) (by decide) rfl ?_
  intro p e s m args below meth c s₁ B hml hv
  obtain ⟨rfl, hsz, hP, hK, hD0, hN⟩ := hv
  have hx := B.exec
  have hb := B.bytes
  have hr := B.returns
  have hts := atoms_spec (ws := wsX12_compare) B.pre
  have hown : s.vm.findClass RX12 = some m.cls := findClass_of_methodNamed B.named
  have hlocks := B.notSynchronized
  subst hsz
  have hD := hD0.self (sz := s.heap.size)
  generalize hAe : va_A [(m0, .inr (12, [.int thr, m_1, m_2, .ref w0, m_4, m_5, .ref u0, m_7, m_8, m_9, m_10, m_11, m_12, m_13, m_14, m_15, m_16, m_17, m_18, m_19, .int 0, m_21, m_22, m_23, m_24, m_25, m_26, m_27, m_28, m_29, m_30, m_31, m_32, m_33, .int lw, .ref e0, m_36, .ref q0, .int bro, .long val, .long sm, m_41, m_42, m_43, m_44, m_45, m_46, m_47, m_48, m_49, m_50, m_51, m_52, m_53, m_54, m_55, m_56, m_57, m_58, m_59])), (w0, .inl (K 0, 5500, .inl fw)), (e0, .inl (K 2, 13, .inr (.inl fe))), (q0, .inl (K 2, 400, .inr (.inl frs))), (u0, .inl (K 0, 558, .inl fu))] s.heap.size = A at hD ⊢
  have hA : ∀ q : Nat, s.heap.size ≤ q → A q := fun q h => by rw [← hAe]; exact Or.inr h
  have hS : va_S A s.heap s.heap [] := va_S.rf
  have hP : va_P D vwCl [(m0, .inr (12, [.int thr, m_1, m_2, .ref w0, m_4, m_5, .ref u0, m_7, m_8, m_9, m_10, m_11, m_12, m_13, m_14, m_15, m_16, m_17, m_18, m_19, .int 0, m_21, m_22, m_23, m_24, m_25, m_26, m_27, m_28, m_29, m_30, m_31, m_32, m_33, .int lw, .ref e0, m_36, .ref q0, .int bro, .long val, .long sm, m_41, m_42, m_43, m_44, m_45, m_46, m_47, m_48, m_49, m_50, m_51, m_52, m_53, m_54, m_55, m_56, m_57, m_58, m_59])), (w0, .inl (K 0, 5500, .inl fw)), (e0, .inl (K 2, 13, .inr (.inl fe))), (q0, .inl (K 2, 400, .inr (.inl frs))), (u0, .inl (K 0, 558, .inl fu))] s.heap := hP
  have hl := lv_entry [.ref m0, .int x, .int y] (n := 6) (Nat.le_of_ble_eq_true rfl)
  rw [lg_entry_eq]
  generalize (lg_sl [.ref m0, .int x, .int y] ++ List.replicate (6 - (lg_sl [.ref m0, .int x, .int y]).length) Slot.unset).toArray = ls at hl ⊢
  have hl : lv_has ls 6 [(0, .ref m0), (1, .int x), (2, .int y)] := hl
  have hw12 : ∀ w ∈ wsX120, w ∈ wsX12_compare := fun w h => (List.mem_cons_of_mem _ (List.mem_append_right _ h))
  generalize hQ : MQ below _ _ s _ _ _ = Q
  refine lv_aload_n hx hb dX12_compare_0 rfl (lv_at hl 0 rfl) ?_
  refine lv_iconst (v := 0) hx hb dX12_compare_1 (by decide) ?_
  refine va_put (ci := 12) (v := .int 0) (ty := .int) (C := RX12) (T := TX12) (N := 60) hx hb hts hw12 tyX12 tyX12_ok nmX12 hown hK hP hD hS 0 rfl rfl 0 (by decide) (hts (.fieldLink RX12 158 "SmokeTuneModel" "thrown" "I") (List.mem_cons_of_mem _ (List.mem_append_left _ (List.mem_append_left _ (List.mem_of_getElem? (i := 0) rfl))))) (fun _ h9 => h9) rfl (by decide +kernel) (by first | rfl | decide) (by first | rfl | decide) (Nat.le_of_ble_eq_true rfl) dX12_compare_2 (fun H locs hP hD hS => ?_)
  have hP : va_P D vwCl [(m0, .inr (12, [.int 0, m_1, m_2, .ref w0, m_4, m_5, .ref u0, m_7, m_8, m_9, m_10, m_11, m_12, m_13, m_14, m_15, m_16, m_17, m_18, m_19, .int 0, m_21, m_22, m_23, m_24, m_25, m_26, m_27, m_28, m_29, m_30, m_31, m_32, m_33, .int lw, .ref e0, m_36, .ref q0, .int bro, .long val, .long sm, m_41, m_42, m_43, m_44, m_45, m_46, m_47, m_48, m_49, m_50, m_51, m_52, m_53, m_54, m_55, m_56, m_57, m_58, m_59])), (w0, .inl (K 0, 5500, .inl fw)), (e0, .inl (K 2, 13, .inr (.inl fe))), (q0, .inl (K 2, 400, .inr (.inl frs))), (u0, .inl (K 0, 558, .inl fu))] H := hP
  have hD : va_D A [(m0, .inr (12, [.int 0, m_1, m_2, .ref w0, m_4, m_5, .ref u0, m_7, m_8, m_9, m_10, m_11, m_12, m_13, m_14, m_15, m_16, m_17, m_18, m_19, .int 0, m_21, m_22, m_23, m_24, m_25, m_26, m_27, m_28, m_29, m_30, m_31, m_32, m_33, .int lw, .ref e0, m_36, .ref q0, .int bro, .long val, .long sm, m_41, m_42, m_43, m_44, m_45, m_46, m_47, m_48, m_49, m_50, m_51, m_52, m_53, m_54, m_55, m_56, m_57, m_58, m_59])), (w0, .inl (K 0, 5500, .inl fw)), (e0, .inl (K 2, 13, .inr (.inl fe))), (q0, .inl (K 2, 400, .inr (.inl frs))), (u0, .inl (K 0, 558, .inl fu))] := hD
  refine lv_aload_n hx hb dX12_compare_5 rfl (lv_at hl 0 rfl) ?_
  refine lv_iload_n hx hb dX12_compare_6 rfl (lv_at hl 1 rfl) ?_
  have j_15168 : ∀ (H : Heap) (locs : List Loc) (hP : va_P D vwCl [(m0, .inr (12, [.int 0, m_1, m_2, .ref w0, m_4, m_5, .ref u0, m_7, m_8, m_9, m_10, m_11, m_12, m_13, m_14, m_15, m_16, m_17, m_18, m_19, .int 0, m_21, m_22, m_23, m_24, m_25, m_26, m_27, m_28, m_29, m_30, m_31, m_32, m_33, .int lw, .ref e0, m_36, .ref q0, .int bro, .long val, .long sm, m_41, m_42, m_43, m_44, m_45, m_46, m_47, m_48, m_49, m_50, m_51, m_52, m_53, m_54, m_55, m_56, m_57, m_58, m_59])), (w0, .inl (K 0, 5500, .inl fw)), (e0, .inl (K 2, 13, .inr (.inl fe))), (q0, .inl (K 2, 400, .inr (.inl frs))), (u0, .inl (K 0, 558, .inl fu))] H) (hD : va_D A [(m0, .inr (12, [.int 0, m_1, m_2, .ref w0, m_4, m_5, .ref u0, m_7, m_8, m_9, m_10, m_11, m_12, m_13, m_14, m_15, m_16, m_17, m_18, m_19, .int 0, m_21, m_22, m_23, m_24, m_25, m_26, m_27, m_28, m_29, m_30, m_31, m_32, m_33, .int lw, .ref e0, m_36, .ref q0, .int bro, .long val, .long sm, m_41, m_42, m_43, m_44, m_45, m_46, m_47, m_48, m_49, m_50, m_51, m_52, m_53, m_54, m_55, m_56, m_57, m_58, m_59])), (w0, .inl (K 0, 5500, .inl fw)), (e0, .inl (K 2, 13, .inr (.inl fe))), (q0, .inl (K 2, 400, .inr (.inl frs))), (u0, .inl (K 0, 558, .inl fu))]) (hS : va_S A s.heap H locs) (ls : Array Slot) (hl : lv_has ls 6 []), W p l e ({ frames := 6, cells := 0, slots := 0, locals := 146 }) s m (([.ref m0, .int x, .int y] : List Value).toArray) below meth c H locs 0 0 Q (F0 m 25 ls []) := by
    intro H locs hP hD hS ls hl
    refine lv_iconst (v := (-1)) hx hb dX12_compare_25 (by decide) ?_
    subst hQ
    have hP9 := hP.sub (ws' := [(m0, .inr (12, [.int 0, m_1, m_2, .ref w0, m_4, m_5, .ref u0, m_7, m_8, m_9, m_10, m_11, m_12, m_13, m_14, m_15, m_16, m_17, m_18, m_19, .int 0, m_21, m_22, m_23, m_24, m_25, m_26, m_27, m_28, m_29, m_30, m_31, m_32, m_33, .int lw, .ref e0, m_36, .ref q0, .int bro, .long val, .long sm, m_41, m_42, m_43, m_44, m_45, m_46, m_47, m_48, m_49, m_50, m_51, m_52, m_53, m_54, m_55, m_56, m_57, m_58, m_59])), (w0, .inl (K 0, 5500, .inl fw)), (e0, .inl (K 2, 13, .inr (.inl fe))), (q0, .inl (K 2, 400, .inr (.inl frs))), (u0, .inl (K 0, 558, .inl fu))]) [0, 1, 2, 3, 4] rfl
    have hD9 := hD.sub (ws' := [(m0, .inr (12, [.int 0, m_1, m_2, .ref w0, m_4, m_5, .ref u0, m_7, m_8, m_9, m_10, m_11, m_12, m_13, m_14, m_15, m_16, m_17, m_18, m_19, .int 0, m_21, m_22, m_23, m_24, m_25, m_26, m_27, m_28, m_29, m_30, m_31, m_32, m_33, .int lw, .ref e0, m_36, .ref q0, .int bro, .long val, .long sm, m_41, m_42, m_43, m_44, m_45, m_46, m_47, m_48, m_49, m_50, m_51, m_52, m_53, m_54, m_55, m_56, m_57, m_58, m_59])), (w0, .inl (K 0, 5500, .inl fw)), (e0, .inl (K 2, 13, .inr (.inl fe))), (q0, .inl (K 2, 400, .inr (.inl frs))), (u0, .inl (K 0, 558, .inl fu))]) [0, 1, 2, 3, 4] (by decide) rfl
    exact W.iret (v := (-1)) hx hb hr (fun t ht hW => ⟨⟨(-1), ((fun _ => 0, fun i => match i with | 0 => fw | _ => fu, fun i => match i with | 0 => fe | _ => frs, fun i => match i with | 0 => lw | _ => bro, fun i => match i with | 0 => val | _ => sm, fun _ => fun _ => none) : Su), rfl, ⟨(show 0 ≤ (bro : Int32).toInt ∧ (bro : Int32).toInt ≤ 1 by omega), zfw, zfu, trivial⟩, (⟨by rw [ht]; exact hP9, hD9⟩ : Wd D A _ t)⟩, hS.F ht⟩) hS.2.2 dX12_compare_26
  refine pci (va_runV (As := [.int x]) (rest := []) ⟨hx, hb, hml, hown, hts⟩ (v_isLaw l D K x.toInt m0 x (.int 0) m_1 m_2 w0 m_4 m_5 (.ref u0) m_7 m_8 m_9 m_10 m_11 m_12 m_13 m_14 m_15 m_16 m_17 m_18 m_19 (.int 0) m_21 m_22 m_23 m_24 m_25 m_26 m_27 m_28 m_29 m_30 m_31 m_32 m_33 (.int lw) (.ref e0) m_36 (.ref q0) (.int bro) (.long val) (.long sm) m_41 m_42 m_43 m_44 m_45 m_46 m_47 m_48 m_49 m_50 m_51 m_52 m_53 m_54 m_55 m_56 m_57 m_58 m_59 fw H.size rfl zfw) (cwV 1 hts gX12_compare_X12_isLaw rfl rfl rfl (by decide +kernel) ⟨Nat.le_of_ble_eq_true rfl, Nat.le_of_ble_eq_true rfl⟩) (mkV hK hN (hP.sub [0, 1] rfl) (hD.sub [0, 1] (by decide) rfl) (ci := 12) (q0 := 0) rfl rfl) rfl rfl hl.1 rfl (lv_room (Nat.le_of_ble_eq_true rfl)) dX12_compare_7 ⟨Nat.le_of_ble_eq_true rfl, Nat.le_of_ble_eq_true rfl⟩) (fun r_15169 hw => ?_)
  obtain ⟨hw, -⟩ := hw
  rcases hw with ⟨rfl, h_15170, h_15171⟩ | rfl
  · refine lv_if_eq (tgt := 25) hx hb dX12_compare_10 (by decide) (fun c_15172 => absurd c_15172 (by decide)) (fun c_15172 => ?_)
    refine lv_iload_n hx hb dX12_compare_13 rfl (lv_at hl 2 rfl) ?_
    refine lv_i2l hx hb dX12_compare_14 rfl ?_
    refine lv_topl (fun x_15173 ex_15173 => ?_)
    have hx_15173 : x_15173.toInt = y.toInt := by rw [ex_15173]; exact i_wide rfl
    have hbx_15173 := i_rng (a := y) rfl
    refine lv_lconst (v := 1) hx hb dX12_compare_15 (by decide) ?_
    refine lv_ldc2 (v := 60) hx hb hown (hts (.constantLong RX12 520 (60)) (List.mem_cons_of_mem _ (List.mem_append_left _ (List.mem_append_left _ (List.mem_of_getElem? (i := 1) rfl))))) dX12_compare_16 ?_
    refine pci (va_runS (As := [.long x_15173, .long 1, .long 60]) (rest := []) ⟨hx, hb, hml, hown, hts⟩ (v_in l D K y.toInt 1 60 x_15173 1 60 H.size hx_15173 (show (1 : Int64).toInt = 1 from rfl) (show (60 : Int64).toInt = 60 from rfl)) (va_cwS 3 hts gX12_compare_X12_in rfl rfl rfl (by decide +kernel) ⟨Nat.le_of_ble_eq_true rfl, Nat.le_of_ble_eq_true rfl⟩) (mkS hK hN (va_P.nil) (va_D.nil (A := fun _ => True))) rfl rfl hl.1 rfl (lv_room (Nat.le_of_ble_eq_true rfl)) dX12_compare_19 ⟨Nat.le_of_ble_eq_true rfl, Nat.le_of_ble_eq_true rfl⟩) (fun r_15174 hw => ?_)
    obtain ⟨hw, -⟩ := hw
    rcases hw with ⟨rfl, h_15175, h_15176⟩ | ⟨rfl, h_15177⟩
    · refine lv_if_ne (tgt := 27) hx hb dX12_compare_22 (by decide) (fun c_15178 => ?_) (fun c_15178 => absurd c_15178 (by decide))
      refine lv_aload_n hx hb dX12_compare_27 rfl (lv_at hl 0 rfl) ?_
      refine lv_bipush (v := 16) hx hb dX12_compare_28 (by decide) ?_
      refine kcv (S := Su) (wr := [(e0, .inl (K 2, 13, .inr (.inl fe))), (q0, .inl (K 2, 400, .inr (.inl frs)))]) (va_runV (As := [.int 16]) (rest := []) ⟨hx, hb, hml, hown, hts⟩ (v_keepAll l D K m0 16 (.int 0) m_1 m_2 w0 m_4 m_5 u0 m_7 m_8 m_9 m_10 m_11 m_12 m_13 m_14 m_15 m_16 m_17 m_18 m_19 (.int 0) m_21 m_22 m_23 m_24 m_25 m_26 m_27 m_28 m_29 m_30 m_31 m_32 m_33 (.int lw) (.ref e0) m_36 (.ref q0) (.int bro) (.long val) (.long sm) m_41 m_42 m_43 m_44 m_45 m_46 m_47 m_48 m_49 m_50 m_51 m_52 m_53 m_54 m_55 m_56 m_57 m_58 m_59 fw fu H.size (by first | omega | decide) zfw zfu) (cwV 1 hts gX12_compare_X12_keepAll rfl rfl rfl (by decide +kernel) ⟨Nat.le_of_ble_eq_true rfl, Nat.le_of_ble_eq_true rfl⟩) (mkV hK hN (hP.sub [0, 1, 4] rfl) (hD.sub [0, 1, 4] (by decide) rfl) (ci := 12) (q0 := 0) rfl rfl) rfl rfl hl.1 rfl (lv_room (Nat.le_of_ble_eq_true rfl)) dX12_compare_30 ⟨Nat.le_of_ble_eq_true rfl, Nat.le_of_ble_eq_true rfl⟩) hP hD hS hA [0, 1, 4] [2, 3] rfl rfl (by decide) (by decide) (fun u_15180 H locs hw hP hD hS => ?_)
      have hP : va_P D vwCl [(e0, .inl (K 2, 13, .inr (.inl fe))), (q0, .inl (K 2, 400, .inr (.inl frs))), (m0, .inr (12, [.int 0, m_1, m_2, .ref w0, m_4, m_5, .ref u0, m_7, m_8, m_9, m_10, m_11, m_12, m_13, m_14, m_15, m_16, m_17, m_18, m_19, .int 0, m_21, m_22, m_23, m_24, m_25, m_26, m_27, m_28, m_29, m_30, m_31, m_32, m_33, .int lw, .ref e0, m_36, .ref q0, .int bro, .long val, .long sm, m_41, m_42, m_43, m_44, m_45, m_46, m_47, m_48, m_49, m_50, m_51, m_52, m_53, m_54, m_55, m_56, m_57, m_58, m_59])), (w0, .inl (K 0, 5500, .inl fw)), (u0, .inl (K 0, 558, .inl (u_15180.2.1 0)))] H := hP
      have hD : va_D A [(e0, .inl (K 2, 13, .inr (.inl fe))), (q0, .inl (K 2, 400, .inr (.inl frs))), (m0, .inr (12, [.int 0, m_1, m_2, .ref w0, m_4, m_5, .ref u0, m_7, m_8, m_9, m_10, m_11, m_12, m_13, m_14, m_15, m_16, m_17, m_18, m_19, .int 0, m_21, m_22, m_23, m_24, m_25, m_26, m_27, m_28, m_29, m_30, m_31, m_32, m_33, .int lw, .ref e0, m_36, .ref q0, .int bro, .long val, .long sm, m_41, m_42, m_43, m_44, m_45, m_46, m_47, m_48, m_49, m_50, m_51, m_52, m_53, m_54, m_55, m_56, m_57, m_58, m_59])), (w0, .inl (K 0, 5500, .inl fw)), (u0, .inl (K 0, 558, .inl (u_15180.2.1 0)))] := hD
      obtain ⟨k_15181, -⟩ := hw
      refine lv_iconst (v := 0) hx hb dX12_compare_33 (by decide) ?_
      refine lv_istore_n (lv' := [(3, .int 0), (0, .ref m0), (1, .int x), (2, .int y)]) hx hb dX12_compare_34 rfl hl (by decide) rfl (fun ls hl => ?_)
      refine lv_iconst (v := 0) hx hb dX12_compare_35 (by decide) ?_
      refine lv_istore (lv' := [(4, .int 0), (3, .int 0), (0, .ref m0), (1, .int x), (2, .int y)]) hx hb dX12_compare_36 hl (by decide) rfl (fun ls hl => ?_)
      have lp_17769 : ∀ (nn_ : Nat) (v_16923 : Int32) (v_16924 : Int32) (v_16925 : Int32) (v_16926 : Int32) (v_16927 : Int64) (v_16928 : Int64) (f_16929 : Nat → Int64) (f_16930 : Nat → Int64) (f_16931 : Nat → Int32) (hv_16923 : 0 ≤ v_16923.toInt ∧ v_16923.toInt ≤ 60) (hv_16926 : 0 ≤ v_16926.toInt ∧ v_16926.toInt ≤ 1) (hf_16931_0 : RwOK f_16931) (hn : (61 - v_16923.toInt : Int).toNat < nn_) (H : Heap) (locs : List Loc) (hP : va_P D vwCl [(e0, .inl (K 2, 13, .inr (.inl f_16929))), (q0, .inl (K 2, 400, .inr (.inl f_16930))), (m0, .inr (12, [.int 0, m_1, m_2, .ref w0, m_4, m_5, .ref u0, m_7, m_8, m_9, m_10, m_11, m_12, m_13, m_14, m_15, m_16, m_17, m_18, m_19, .int 0, m_21, m_22, m_23, m_24, m_25, m_26, m_27, m_28, m_29, m_30, m_31, m_32, m_33, .int v_16925, .ref e0, m_36, .ref q0, .int v_16926, .long v_16927, .long v_16928, m_41, m_42, m_43, m_44, m_45, m_46, m_47, m_48, m_49, m_50, m_51, m_52, m_53, m_54, m_55, m_56, m_57, m_58, m_59])), (w0, .inl (K 0, 5500, .inl f_16931)), (u0, .inl (K 0, 558, .inl (u_15180.2.1 0)))] H) (hD : va_D A [(e0, .inl (K 2, 13, .inr (.inl f_16929))), (q0, .inl (K 2, 400, .inr (.inl f_16930))), (m0, .inr (12, [.int 0, m_1, m_2, .ref w0, m_4, m_5, .ref u0, m_7, m_8, m_9, m_10, m_11, m_12, m_13, m_14, m_15, m_16, m_17, m_18, m_19, .int 0, m_21, m_22, m_23, m_24, m_25, m_26, m_27, m_28, m_29, m_30, m_31, m_32, m_33, .int v_16925, .ref e0, m_36, .ref q0, .int v_16926, .long v_16927, .long v_16928, m_41, m_42, m_43, m_44, m_45, m_46, m_47, m_48, m_49, m_50, m_51, m_52, m_53, m_54, m_55, m_56, m_57, m_58, m_59])), (w0, .inl (K 0, 5500, .inl f_16931)), (u0, .inl (K 0, 558, .inl (u_15180.2.1 0)))]) (hS : va_S A s.heap H locs) (ls : Array Slot) (hl : lv_has ls 6 [(4, .int v_16923), (3, .int v_16924), (0, .ref m0), (1, .int x), (2, .int y)]), W p l e ({ frames := 6, cells := 0, slots := 0, locals := 146 }) s m (([.ref m0, .int x, .int y] : List Value).toArray) below meth c H locs 0 0 Q (F0 m 38 ls []) := by
        intro nn_
        induction nn_ with
        | zero =>
          intro v_16923 v_16924 v_16925 v_16926 v_16927 v_16928 f_16929 f_16930 f_16931 hv_16923 hv_16926 hf_16931_0 hn H locs hP hD hS ls hl
          exact absurd hn (Nat.not_lt_zero _)
        | succ nn_ ih_17770 =>
          intro v_16923 v_16924 v_16925 v_16926 v_16927 v_16928 f_16929 f_16930 f_16931 hv_16923 hv_16926 hf_16931_0 hn H locs hP hD hS ls hl
          refine lv_iload hx hb dX12_compare_38 (lv_at hl 0 rfl) ?_
          refine lv_iload_n hx hb dX12_compare_40 rfl (lv_at hl 4 rfl) ?_
          refine lv_icmp_ge (tgt := 137) hx hb dX12_compare_41 (by decide) (fun c_17771 => ?_) (fun c_17771 => ?_)
          · have c_17771i := i_le (x := y.toInt) (y := v_16923.toInt) rfl rfl c_17771
            refine lv_aload_n hx hb dX12_compare_137 rfl (lv_at hl 2 rfl) ?_
            refine lv_bipush (v := 16) hx hb dX12_compare_138 (by decide) ?_
            refine kcv (S := Su) (wr := [(e0, .inl (K 2, 13, .inr (.inl f_16929))), (q0, .inl (K 2, 400, .inr (.inl f_16930)))]) (va_runV (As := [.int 16]) (rest := []) ⟨hx, hb, hml, hown, hts⟩ (v_putBack l D K m0 16 (.int 0) m_1 m_2 w0 m_4 m_5 u0 m_7 m_8 m_9 m_10 m_11 m_12 m_13 m_14 m_15 m_16 m_17 m_18 m_19 (.int 0) m_21 m_22 m_23 m_24 m_25 m_26 m_27 m_28 m_29 m_30 m_31 m_32 m_33 (.int v_16925) (.ref e0) m_36 (.ref q0) (.int v_16926) (.long v_16927) (.long v_16928) m_41 m_42 m_43 m_44 m_45 m_46 m_47 m_48 m_49 m_50 m_51 m_52 m_53 m_54 m_55 m_56 m_57 m_58 m_59 f_16931 (u_15180.2.1 0) H.size (by first | omega | decide) hf_16931_0 k_15181) (cwV 1 hts gX12_compare_X12_putBack rfl rfl rfl (by decide +kernel) ⟨Nat.le_of_ble_eq_true rfl, Nat.le_of_ble_eq_true rfl⟩) (mkV hK hN (hP.sub [2, 3, 4] rfl) (hD.sub [2, 3, 4] (by decide) rfl) (ci := 12) (q0 := 0) rfl rfl) rfl rfl hl.1 rfl (lv_room (Nat.le_of_ble_eq_true rfl)) dX12_compare_140 ⟨Nat.le_of_ble_eq_true rfl, Nat.le_of_ble_eq_true rfl⟩) hP hD hS hA [2, 3, 4] [0, 1] rfl rfl (by decide) (by decide) (fun u_17773 H locs hw hP hD hS => ?_)
            have hP : va_P D vwCl [(e0, .inl (K 2, 13, .inr (.inl f_16929))), (q0, .inl (K 2, 400, .inr (.inl f_16930))), (m0, .inr (12, [.int 0, m_1, m_2, .ref w0, m_4, m_5, .ref u0, m_7, m_8, m_9, m_10, m_11, m_12, m_13, m_14, m_15, m_16, m_17, m_18, m_19, .int 0, m_21, m_22, m_23, m_24, m_25, m_26, m_27, m_28, m_29, m_30, m_31, m_32, m_33, .int v_16925, .ref e0, m_36, .ref q0, .int v_16926, .long v_16927, .long v_16928, m_41, m_42, m_43, m_44, m_45, m_46, m_47, m_48, m_49, m_50, m_51, m_52, m_53, m_54, m_55, m_56, m_57, m_58, m_59])), (w0, .inl (K 0, 5500, .inl (u_17773.2.1 0))), (u0, .inl (K 0, 558, .inl (u_15180.2.1 0)))] H := hP
            have hD : va_D A [(e0, .inl (K 2, 13, .inr (.inl f_16929))), (q0, .inl (K 2, 400, .inr (.inl f_16930))), (m0, .inr (12, [.int 0, m_1, m_2, .ref w0, m_4, m_5, .ref u0, m_7, m_8, m_9, m_10, m_11, m_12, m_13, m_14, m_15, m_16, m_17, m_18, m_19, .int 0, m_21, m_22, m_23, m_24, m_25, m_26, m_27, m_28, m_29, m_30, m_31, m_32, m_33, .int v_16925, .ref e0, m_36, .ref q0, .int v_16926, .long v_16927, .long v_16928, m_41, m_42, m_43, m_44, m_45, m_46, m_47, m_48, m_49, m_50, m_51, m_52, m_53, m_54, m_55, m_56, m_57, m_58, m_59])), (w0, .inl (K 0, 5500, .inl (u_17773.2.1 0))), (u0, .inl (K 0, 558, .inl (u_15180.2.1 0)))] := hD
            obtain ⟨k_17774, -⟩ := hw
            refine lv_iload_n hx hb dX12_compare_143 rfl (lv_at hl 1 rfl) ?_
            subst hQ
            have hP9 := hP.sub (ws' := [(m0, .inr (12, [.int 0, m_1, m_2, .ref w0, m_4, m_5, .ref u0, m_7, m_8, m_9, m_10, m_11, m_12, m_13, m_14, m_15, m_16, m_17, m_18, m_19, .int 0, m_21, m_22, m_23, m_24, m_25, m_26, m_27, m_28, m_29, m_30, m_31, m_32, m_33, .int v_16925, .ref e0, m_36, .ref q0, .int v_16926, .long v_16927, .long v_16928, m_41, m_42, m_43, m_44, m_45, m_46, m_47, m_48, m_49, m_50, m_51, m_52, m_53, m_54, m_55, m_56, m_57, m_58, m_59])), (w0, .inl (K 0, 5500, .inl (u_17773.2.1 0))), (e0, .inl (K 2, 13, .inr (.inl f_16929))), (q0, .inl (K 2, 400, .inr (.inl f_16930))), (u0, .inl (K 0, 558, .inl (u_15180.2.1 0)))]) [2, 3, 0, 1, 4] rfl
            have hD9 := hD.sub (ws' := [(m0, .inr (12, [.int 0, m_1, m_2, .ref w0, m_4, m_5, .ref u0, m_7, m_8, m_9, m_10, m_11, m_12, m_13, m_14, m_15, m_16, m_17, m_18, m_19, .int 0, m_21, m_22, m_23, m_24, m_25, m_26, m_27, m_28, m_29, m_30, m_31, m_32, m_33, .int v_16925, .ref e0, m_36, .ref q0, .int v_16926, .long v_16927, .long v_16928, m_41, m_42, m_43, m_44, m_45, m_46, m_47, m_48, m_49, m_50, m_51, m_52, m_53, m_54, m_55, m_56, m_57, m_58, m_59])), (w0, .inl (K 0, 5500, .inl (u_17773.2.1 0))), (e0, .inl (K 2, 13, .inr (.inl f_16929))), (q0, .inl (K 2, 400, .inr (.inl f_16930))), (u0, .inl (K 0, 558, .inl (u_15180.2.1 0)))]) [2, 3, 0, 1, 4] (by decide) rfl
            exact W.iret (v := v_16924) hx hb hr (fun t ht hW => ⟨⟨v_16924, ((fun _ => 0, fun i => match i with | 0 => (u_17773.2.1 0) | _ => (u_15180.2.1 0), fun i => match i with | 0 => f_16929 | _ => f_16930, fun i => match i with | 0 => v_16925 | _ => v_16926, fun i => match i with | 0 => v_16927 | _ => v_16928, fun _ => fun _ => none) : Su), rfl, ⟨(show 0 ≤ (v_16926 : Int32).toInt ∧ (v_16926 : Int32).toInt ≤ 1 by omega), k_17774, k_15181, trivial⟩, (⟨by rw [ht]; exact hP9, hD9⟩ : Wd D A _ t)⟩, hS.F ht⟩) hS.2.2 dX12_compare_144
          · have c_17771i := i_nle (x := y.toInt) (y := v_16923.toInt) rfl rfl c_17771
            refine lv_iconst (v := 0) hx hb dX12_compare_44 (by decide) ?_
            refine lv_istore (lv' := [(5, .int 0), (4, .int v_16923), (3, .int v_16924), (0, .ref m0), (1, .int x), (2, .int y)]) hx hb dX12_compare_45 hl (by decide) rfl (fun ls hl => ?_)
            have lp_18130 : ∀ (nn_ : Nat) (v_18008 : Int32) (v_18009 : Int32) (v_18010 : Int32) (v_18011 : Int32) (v_18012 : Int64) (v_18013 : Int64) (f_18014 : Nat → Int64) (f_18015 : Nat → Int64) (f_18016 : Nat → Int32) (hv_18008 : 0 ≤ v_18008.toInt ∧ v_18008.toInt ≤ 8) (hv_18011 : 0 ≤ v_18011.toInt ∧ v_18011.toInt ≤ 1) (hf_18016_0 : RwOK f_18016) (hn : (9 - v_18008.toInt : Int).toNat < nn_) (H : Heap) (locs : List Loc) (hP : va_P D vwCl [(e0, .inl (K 2, 13, .inr (.inl f_18014))), (q0, .inl (K 2, 400, .inr (.inl f_18015))), (m0, .inr (12, [.int 0, m_1, m_2, .ref w0, m_4, m_5, .ref u0, m_7, m_8, m_9, m_10, m_11, m_12, m_13, m_14, m_15, m_16, m_17, m_18, m_19, .int 0, m_21, m_22, m_23, m_24, m_25, m_26, m_27, m_28, m_29, m_30, m_31, m_32, m_33, .int v_18010, .ref e0, m_36, .ref q0, .int v_18011, .long v_18012, .long v_18013, m_41, m_42, m_43, m_44, m_45, m_46, m_47, m_48, m_49, m_50, m_51, m_52, m_53, m_54, m_55, m_56, m_57, m_58, m_59])), (w0, .inl (K 0, 5500, .inl f_18016)), (u0, .inl (K 0, 558, .inl (u_15180.2.1 0)))] H) (hD : va_D A [(e0, .inl (K 2, 13, .inr (.inl f_18014))), (q0, .inl (K 2, 400, .inr (.inl f_18015))), (m0, .inr (12, [.int 0, m_1, m_2, .ref w0, m_4, m_5, .ref u0, m_7, m_8, m_9, m_10, m_11, m_12, m_13, m_14, m_15, m_16, m_17, m_18, m_19, .int 0, m_21, m_22, m_23, m_24, m_25, m_26, m_27, m_28, m_29, m_30, m_31, m_32, m_33, .int v_18010, .ref e0, m_36, .ref q0, .int v_18011, .long v_18012, .long v_18013, m_41, m_42, m_43, m_44, m_45, m_46, m_47, m_48, m_49, m_50, m_51, m_52, m_53, m_54, m_55, m_56, m_57, m_58, m_59])), (w0, .inl (K 0, 5500, .inl f_18016)), (u0, .inl (K 0, 558, .inl (u_15180.2.1 0)))]) (hS : va_S A s.heap H locs) (ls : Array Slot) (hl : lv_has ls 6 [(5, .int v_18008), (4, .int v_16923), (3, .int v_18009), (0, .ref m0), (1, .int x), (2, .int y)]), W p l e ({ frames := 6, cells := 0, slots := 0, locals := 146 }) s m (([.ref m0, .int x, .int y] : List Value).toArray) below meth c H locs 0 0 Q (F0 m 47 ls []) := by
              intro nn_
              induction nn_ with
              | zero =>
                intro v_18008 v_18009 v_18010 v_18011 v_18012 v_18013 f_18014 f_18015 f_18016 hv_18008 hv_18011 hf_18016_0 hn H locs hP hD hS ls hl
                exact absurd hn (Nat.not_lt_zero _)
              | succ nn_ ih_18131 =>
                intro v_18008 v_18009 v_18010 v_18011 v_18012 v_18013 f_18014 f_18015 f_18016 hv_18008 hv_18011 hf_18016_0 hn H locs hP hD hS ls hl
                refine lv_iload hx hb dX12_compare_47 (lv_at hl 0 rfl) ?_
                refine lv_aload_n hx hb dX12_compare_49 rfl (lv_at hl 3 rfl) ?_
                refine va_get (ci := 12) (v := .ref w0) (C := RX12) (T := TX12) (N := 60) hx hb hts hw12 hown hK hP 2 rfl rfl 3 (by decide) (hts (.fieldLink RX12 13 "SmokeTuneModel" "row" "[I") (List.mem_cons_of_mem _ (List.mem_append_left _ (List.mem_append_left _ (List.mem_of_getElem? (i := 2) rfl))))) (fun _ h9 => h9) rfl dX12_compare_50 ?_
                refine lv_iconst (v := 0) hx hb dX12_compare_53 (by decide) ?_
                refine va_iald hx hb hK hP 3 0 rfl rfl (i_in (x := 0) rfl (by omega)) dX12_compare_54 ?_
                refine lv_topi (fun x_18132 ex_18132 => ?_)
                have px_18132 := RwOK.at hf_18016_0 (show (0 : Int32).toInt = 0 from rfl) (show 0 ≤ 0 ∧ 0 < 100 by omega)
                rw [← ex_18132] at px_18132
                have hx_18132 := PR.r_0 px_18132 (by omega)
                refine lv_icmp_ge (tgt := 127) hx hb dX12_compare_55 (by decide) (fun c_18133 => ?_) (fun c_18133 => ?_)
                · have c_18133i := i_le (x := x_18132.toInt) (y := v_18008.toInt) rfl rfl c_18133
                  refine lv_aload_n hx hb dX12_compare_127 rfl (lv_at hl 3 rfl) ?_
                  refine kcv (S := Su) (wr := [(e0, .inl (K 2, 13, .inr (.inl f_18014))), (q0, .inl (K 2, 400, .inr (.inl f_18015))), (u0, .inl (K 0, 558, .inl (u_15180.2.1 0)))]) (va_runV (As := []) (rest := []) ⟨hx, hb, hml, hown, hts⟩ (v_goOn l D K m0 (.int 0) m_1 m_2 w0 m_4 m_5 (.ref u0) m_7 m_8 m_9 m_10 m_11 m_12 m_13 m_14 m_15 m_16 m_17 m_18 m_19 (.int 0) m_21 m_22 m_23 m_24 m_25 m_26 m_27 m_28 m_29 m_30 m_31 m_32 m_33 (.int v_18010) (.ref e0) m_36 (.ref q0) (.int v_18011) (.long v_18012) (.long v_18013) m_41 m_42 m_43 m_44 m_45 m_46 m_47 m_48 m_49 m_50 m_51 m_52 m_53 m_54 m_55 m_56 m_57 m_58 m_59 f_18016 H.size hf_18016_0) (cwV 0 hts gX12_compare_X12_goOn rfl rfl rfl (by decide +kernel) ⟨Nat.le_of_ble_eq_true rfl, Nat.le_of_ble_eq_true rfl⟩) (mkV hK hN (hP.sub [2, 3] rfl) (hD.sub [2, 3] (by decide) rfl) (ci := 12) (q0 := 0) rfl rfl) rfl rfl hl.1 rfl (lv_room (Nat.le_of_ble_eq_true rfl)) dX12_compare_128 ⟨Nat.le_of_ble_eq_true rfl, Nat.le_of_ble_eq_true rfl⟩) hP hD hS hA [2, 3] [0, 1, 4] rfl rfl (by decide) (by decide) (fun u_18135 H locs hw hP hD hS => ?_)
                  have hP : va_P D vwCl [(e0, .inl (K 2, 13, .inr (.inl f_18014))), (q0, .inl (K 2, 400, .inr (.inl f_18015))), (u0, .inl (K 0, 558, .inl (u_15180.2.1 0))), (m0, .inr (12, [.int 0, m_1, m_2, .ref w0, m_4, m_5, .ref u0, m_7, m_8, m_9, m_10, m_11, m_12, m_13, m_14, m_15, m_16, m_17, m_18, m_19, .int 0, m_21, m_22, m_23, m_24, m_25, m_26, m_27, m_28, m_29, m_30, m_31, m_32, m_33, .int v_18010, .ref e0, m_36, .ref q0, .int v_18011, .long v_18012, .long v_18013, m_41, m_42, m_43, m_44, m_45, m_46, m_47, m_48, m_49, m_50, m_51, m_52, m_53, m_54, m_55, m_56, m_57, m_58, m_59])), (w0, .inl (K 0, 5500, .inl (u_18135.2.1 0)))] H := hP
                  have hD : va_D A [(e0, .inl (K 2, 13, .inr (.inl f_18014))), (q0, .inl (K 2, 400, .inr (.inl f_18015))), (u0, .inl (K 0, 558, .inl (u_15180.2.1 0))), (m0, .inr (12, [.int 0, m_1, m_2, .ref w0, m_4, m_5, .ref u0, m_7, m_8, m_9, m_10, m_11, m_12, m_13, m_14, m_15, m_16, m_17, m_18, m_19, .int 0, m_21, m_22, m_23, m_24, m_25, m_26, m_27, m_28, m_29, m_30, m_31, m_32, m_33, .int v_18010, .ref e0, m_36, .ref q0, .int v_18011, .long v_18012, .long v_18013, m_41, m_42, m_43, m_44, m_45, m_46, m_47, m_48, m_49, m_50, m_51, m_52, m_53, m_54, m_55, m_56, m_57, m_58, m_59])), (w0, .inl (K 0, 5500, .inl (u_18135.2.1 0)))] := hD
                  obtain ⟨k_18136, -⟩ := hw
                  obtain ⟨x_18137, ex_18137⟩ : ∃ y : Int32, y = v_16923 + Int32.ofInt 1 := ⟨_, rfl⟩
                  have hx_18137 : x_18137.toInt = (v_16923.toInt + 1) := by rw [ex_18137]; exact i_add rfl (show (Int32.ofInt 1).toInt = 1 from rfl) (by omega)
                  refine lv_iinc (v := x_18137) (lv' := [(4, .int x_18137), (5, .int v_18008), (3, .int v_18009), (0, .ref m0), (1, .int x), (2, .int y)]) hx hb dX12_compare_131 hl (k := 1) rfl (by rw [ex_18137]) (by decide) rfl (fun ls hl => ?_)
                  refine lv_goto (tgt := 38) hx hb dX12_compare_134 (by decide) ?_
                  exact ih_17770 x_18137 v_18009 v_18010 v_18011 v_18012 v_18013 f_18014 f_18015 (u_18135.2.1 0) (by rw [hx_18137]; omega) (by omega) k_18136 (by omega) _ _ (hP.sub [0, 1, 3, 4, 2] rfl) (hD.sub [0, 1, 3, 4, 2] (by decide) rfl) hS ls (lv_sub hl [0, 2, 3, 4, 5] rfl)
                · have c_18133i := i_nle (x := x_18132.toInt) (y := v_18008.toInt) rfl rfl c_18133
                  refine lv_aload_n hx hb dX12_compare_58 rfl (lv_at hl 3 rfl) ?_
                  refine va_get (ci := 12) (v := .ref w0) (C := RX12) (T := TX12) (N := 60) hx hb hts hw12 hown hK hP 2 rfl rfl 3 (by decide) (hts (.fieldLink RX12 13 "SmokeTuneModel" "row" "[I") (List.mem_cons_of_mem _ (List.mem_append_left _ (List.mem_append_left _ (List.mem_of_getElem? (i := 2) rfl))))) (fun _ h9 => h9) rfl dX12_compare_59 ?_
                  refine lv_bipush (v := 11) hx hb dX12_compare_62 (by decide) ?_
                  refine lv_iload hx hb dX12_compare_64 (lv_at hl 0 rfl) ?_
                  refine lv_iadd hx hb dX12_compare_66 ?_
                  refine lv_topi (fun x_18138 ex_18138 => ?_)
                  have hx_18138 : x_18138.toInt = (11 + v_18008.toInt) := by rw [ex_18138]; exact i_add (show (11 : Int32).toInt = 11 from rfl) rfl (by omega)
                  refine va_iald hx hb hK hP 3 0 rfl rfl (i_in hx_18138 (by omega)) dX12_compare_67 ?_
                  refine lv_topi (fun x_18139 ex_18139 => ?_)
                  have px_18139 := RwOK.at hf_18016_0 hx_18138 (show 0 ≤ (11 + v_18008.toInt) ∧ (11 + v_18008.toInt) < 100 by omega)
                  rw [← ex_18139] at px_18139
                  have hx_18139 := PR.r_11 px_18139 (by omega)
                  refine lv_aload_n hx hb dX12_compare_68 rfl (lv_at hl 3 rfl) ?_
                  refine lv_iconst (v := 2) hx hb dX12_compare_69 (by decide) ?_
                  refine pci (va_runV (As := [.int 2]) (rest := [.int x_18139]) ⟨hx, hb, hml, hown, hts⟩ (v_term l D K m0 2 (.int 0) m_1 m_2 w0 m_4 m_5 (.ref u0) m_7 m_8 m_9 m_10 m_11 m_12 m_13 m_14 m_15 m_16 m_17 m_18 m_19 (.int 0) m_21 m_22 m_23 m_24 m_25 m_26 m_27 m_28 m_29 m_30 m_31 m_32 m_33 (.int v_18010) (.ref e0) m_36 (.ref q0) (.int v_18011) (.long v_18012) (.long v_18013) m_41 m_42 m_43 m_44 m_45 m_46 m_47 m_48 m_49 m_50 m_51 m_52 m_53 m_54 m_55 m_56 m_57 m_58 m_59 f_18016 H.size (by first | omega | decide) hf_18016_0) (cwV 1 hts gX12_compare_X12_term rfl rfl rfl (by decide +kernel) ⟨Nat.le_of_ble_eq_true rfl, Nat.le_of_ble_eq_true rfl⟩) (mkV hK hN (hP.sub [2, 3] rfl) (hD.sub [2, 3] (by decide) rfl) (ci := 12) (q0 := 0) rfl rfl) rfl rfl hl.1 rfl (lv_room (Nat.le_of_ble_eq_true rfl)) dX12_compare_70 ⟨Nat.le_of_ble_eq_true rfl, Nat.le_of_ble_eq_true rfl⟩) (fun r_18140 hw => ?_)
                  have j_18168 : ∀ (v_18147 : Int32) (v_18148 : Int32) (v_18149 : Int32) (v_18150 : Int64) (v_18151 : Int64) (f_18152 : Nat → Int64) (f_18153 : Nat → Int64) (f_18154 : Nat → Int32) (hv_18149 : 0 ≤ v_18149.toInt ∧ v_18149.toInt ≤ 1) (hf_18154_0 : RwOK f_18154) (H : Heap) (locs : List Loc) (hP : va_P D vwCl [(e0, .inl (K 2, 13, .inr (.inl f_18152))), (q0, .inl (K 2, 400, .inr (.inl f_18153))), (m0, .inr (12, [.int 0, m_1, m_2, .ref w0, m_4, m_5, .ref u0, m_7, m_8, m_9, m_10, m_11, m_12, m_13, m_14, m_15, m_16, m_17, m_18, m_19, .int 0, m_21, m_22, m_23, m_24, m_25, m_26, m_27, m_28, m_29, m_30, m_31, m_32, m_33, .int v_18148, .ref e0, m_36, .ref q0, .int v_18149, .long v_18150, .long v_18151, m_41, m_42, m_43, m_44, m_45, m_46, m_47, m_48, m_49, m_50, m_51, m_52, m_53, m_54, m_55, m_56, m_57, m_58, m_59])), (w0, .inl (K 0, 5500, .inl f_18154)), (u0, .inl (K 0, 558, .inl (u_15180.2.1 0)))] H) (hD : va_D A [(e0, .inl (K 2, 13, .inr (.inl f_18152))), (q0, .inl (K 2, 400, .inr (.inl f_18153))), (m0, .inr (12, [.int 0, m_1, m_2, .ref w0, m_4, m_5, .ref u0, m_7, m_8, m_9, m_10, m_11, m_12, m_13, m_14, m_15, m_16, m_17, m_18, m_19, .int 0, m_21, m_22, m_23, m_24, m_25, m_26, m_27, m_28, m_29, m_30, m_31, m_32, m_33, .int v_18148, .ref e0, m_36, .ref q0, .int v_18149, .long v_18150, .long v_18151, m_41, m_42, m_43, m_44, m_45, m_46, m_47, m_48, m_49, m_50, m_51, m_52, m_53, m_54, m_55, m_56, m_57, m_58, m_59])), (w0, .inl (K 0, 5500, .inl f_18154)), (u0, .inl (K 0, 558, .inl (u_15180.2.1 0)))]) (hS : va_S A s.heap H locs) (ls : Array Slot) (hl : lv_has ls 6 [(5, .int v_18008), (4, .int v_16923), (3, .int v_18147), (0, .ref m0), (1, .int x), (2, .int y)]), W p l e ({ frames := 6, cells := 0, slots := 0, locals := 146 }) s m (([.ref m0, .int x, .int y] : List Value).toArray) below meth c H locs 0 0 Q (F0 m 86 ls []) := by
                    intro v_18147 v_18148 v_18149 v_18150 v_18151 f_18152 f_18153 f_18154 hv_18149 hf_18154_0 H locs hP hD hS ls hl
                    refine lv_aload_n hx hb dX12_compare_86 rfl (lv_at hl 3 rfl) ?_
                    refine va_get (ci := 12) (v := .ref w0) (C := RX12) (T := TX12) (N := 60) hx hb hts hw12 hown hK hP 2 rfl rfl 3 (by decide) (hts (.fieldLink RX12 13 "SmokeTuneModel" "row" "[I") (List.mem_cons_of_mem _ (List.mem_append_left _ (List.mem_append_left _ (List.mem_of_getElem? (i := 2) rfl))))) (fun _ h9 => h9) rfl dX12_compare_87 ?_
                    refine lv_bipush (v := 11) hx hb dX12_compare_90 (by decide) ?_
                    refine lv_iload hx hb dX12_compare_92 (lv_at hl 0 rfl) ?_
                    refine lv_iadd hx hb dX12_compare_94 ?_
                    refine lv_topi (fun x_18169 ex_18169 => ?_)
                    have hx_18169 : x_18169.toInt = (11 + v_18008.toInt) := by rw [ex_18169]; exact i_add (show (11 : Int32).toInt = 11 from rfl) rfl (by omega)
                    refine lv_aload_n hx hb dX12_compare_95 rfl (lv_at hl 3 rfl) ?_
                    refine va_get (ci := 12) (v := .ref w0) (C := RX12) (T := TX12) (N := 60) hx hb hts hw12 hown hK hP 2 rfl rfl 3 (by decide) (hts (.fieldLink RX12 13 "SmokeTuneModel" "row" "[I") (List.mem_cons_of_mem _ (List.mem_append_left _ (List.mem_append_left _ (List.mem_of_getElem? (i := 2) rfl))))) (fun _ h9 => h9) rfl dX12_compare_96 ?_
                    refine lv_bipush (v := 11) hx hb dX12_compare_99 (by decide) ?_
                    refine lv_iload hx hb dX12_compare_101 (lv_at hl 0 rfl) ?_
                    refine lv_iadd hx hb dX12_compare_103 ?_
                    refine lv_topi (fun x_18170 ex_18170 => ?_)
                    have hx_18170 : x_18170.toInt = (11 + v_18008.toInt) := by rw [ex_18170]; exact i_add (show (11 : Int32).toInt = 11 from rfl) rfl (by omega)
                    refine va_iald hx hb hK hP 3 0 rfl rfl (i_in hx_18170 (by omega)) dX12_compare_104 ?_
                    refine lv_topi (fun x_18171 ex_18171 => ?_)
                    have px_18171 := RwOK.at hf_18154_0 hx_18170 (show 0 ≤ (11 + v_18008.toInt) ∧ (11 + v_18008.toInt) < 100 by omega)
                    rw [← ex_18171] at px_18171
                    have hx_18171 := PR.r_11 px_18171 (by omega)
                    refine lv_aload_n hx hb dX12_compare_105 rfl (lv_at hl 3 rfl) ?_
                    refine lv_iload_n hx hb dX12_compare_106 rfl (lv_at hl 4 rfl) ?_
                    refine lv_iload hx hb dX12_compare_107 (lv_at hl 0 rfl) ?_
                    refine kci (S := Su) (wr := [(u0, .inl (K 0, 558, .inl (u_15180.2.1 0)))]) (va_runV (As := [.int x, .int v_18008]) (rest := [.int x_18171, .int x_18169, .ref w0]) ⟨hx, hb, hml, hown, hts⟩ (v_burnsOf l D K m0 x v_18008 (.int 0) m_1 m_2 w0 m_4 m_5 (.ref u0) m_7 m_8 m_9 m_10 m_11 m_12 m_13 m_14 m_15 m_16 m_17 m_18 m_19 m_21 m_22 m_23 m_24 m_25 m_26 m_27 m_28 m_29 m_30 m_31 m_32 m_33 v_18148 e0 m_36 q0 v_18149 v_18150 v_18151 m_41 m_42 m_43 m_44 m_45 m_46 m_47 m_48 m_49 m_50 m_51 m_52 m_53 m_54 m_55 m_56 m_57 m_58 m_59 f_18154 f_18152 f_18153 H.size (by first | omega | decide) (by first | omega | decide) (by first | omega | decide) hf_18154_0) (cwV 2 hts gX12_compare_X12_burnsOf rfl rfl rfl (by decide +kernel) ⟨Nat.le_of_ble_eq_true rfl, Nat.le_of_ble_eq_true rfl⟩) (mkV hK hN (hP.sub [2, 3, 0, 1] rfl) (hD.sub [2, 3, 0, 1] (by decide) rfl) (ci := 12) (q0 := 0) rfl rfl) rfl rfl hl.1 rfl (lv_room (Nat.le_of_ble_eq_true rfl)) dX12_compare_109 ⟨Nat.le_of_ble_eq_true rfl, Nat.le_of_ble_eq_true rfl⟩) hP hD hS hA [2, 3, 0, 1] [4] rfl rfl (by decide) (by decide) (fun r_18172 u_18173 H locs hw hP hD hS => ?_)
                    have hP : va_P D vwCl [(u0, .inl (K 0, 558, .inl (u_15180.2.1 0))), (m0, .inr (12, [.int 0, m_1, m_2, .ref w0, m_4, m_5, .ref u0, m_7, m_8, m_9, m_10, m_11, m_12, m_13, m_14, m_15, m_16, m_17, m_18, m_19, .int 0, m_21, m_22, m_23, m_24, m_25, m_26, m_27, m_28, m_29, m_30, m_31, m_32, m_33, .int (u_18173.2.2.2.1 0), .ref e0, m_36, .ref q0, .int (u_18173.2.2.2.1 1), .long (u_18173.2.2.2.2.1 0), .long (u_18173.2.2.2.2.1 1), m_41, m_42, m_43, m_44, m_45, m_46, m_47, m_48, m_49, m_50, m_51, m_52, m_53, m_54, m_55, m_56, m_57, m_58, m_59])), (w0, .inl (K 0, 5500, .inl f_18154)), (e0, .inl (K 2, 13, .inr (.inl (u_18173.2.2.1 0)))), (q0, .inl (K 2, 400, .inr (.inl (u_18173.2.2.1 1))))] H := hP
                    have hD : va_D A [(u0, .inl (K 0, 558, .inl (u_15180.2.1 0))), (m0, .inr (12, [.int 0, m_1, m_2, .ref w0, m_4, m_5, .ref u0, m_7, m_8, m_9, m_10, m_11, m_12, m_13, m_14, m_15, m_16, m_17, m_18, m_19, .int 0, m_21, m_22, m_23, m_24, m_25, m_26, m_27, m_28, m_29, m_30, m_31, m_32, m_33, .int (u_18173.2.2.2.1 0), .ref e0, m_36, .ref q0, .int (u_18173.2.2.2.1 1), .long (u_18173.2.2.2.2.1 0), .long (u_18173.2.2.2.2.1 1), m_41, m_42, m_43, m_44, m_45, m_46, m_47, m_48, m_49, m_50, m_51, m_52, m_53, m_54, m_55, m_56, m_57, m_58, m_59])), (w0, .inl (K 0, 5500, .inl f_18154)), (e0, .inl (K 2, 13, .inr (.inl (u_18173.2.2.1 0)))), (q0, .inl (K 2, 400, .inr (.inl (u_18173.2.2.1 1))))] := hD
                    obtain ⟨h_18175, k_18174, -⟩ := hw
                    refine lv_isub hx hb dX12_compare_112 ?_
                    refine lv_topi (fun x_18176 ex_18176 => ?_)
                    have hx_18176 : x_18176.toInt = (x_18171.toInt - r_18172.toInt) := by rw [ex_18176]; exact i_sub rfl rfl (by omega)
                    refine lv_i2l hx hb dX12_compare_113 rfl ?_
                    refine lv_topl (fun x_18177 ex_18177 => ?_)
                    have hx_18177 : x_18177.toInt = (x_18171.toInt - r_18172.toInt) := by rw [ex_18177]; exact i_wide hx_18176
                    refine lv_iconst (v := 0) hx hb dX12_compare_114 (by decide) ?_
                    refine lv_bipush (v := 20) hx hb dX12_compare_115 (by decide) ?_
                    refine pci (va_runS (As := [.long x_18177, .int 0, .int 20]) (rest := [.int x_18169, .ref w0]) ⟨hx, hb, hml, hown, hts⟩ (v_within_20 l D K x_18177 H.size) (va_cwS 3 hts gX12_compare_X12_within rfl rfl rfl (by decide +kernel) ⟨Nat.le_of_ble_eq_true rfl, Nat.le_of_ble_eq_true rfl⟩) (mkS hK hN (va_P.nil) (va_D.nil (A := fun _ => True))) rfl rfl hl.1 rfl (lv_room (Nat.le_of_ble_eq_true rfl)) dX12_compare_117 ⟨Nat.le_of_ble_eq_true rfl, Nat.le_of_ble_eq_true rfl⟩) (fun r_18178 hw => ?_)
                    obtain ⟨h_18179, -⟩ := hw
                    refine va_iast hx hb hK hP hD hS 2 0 rfl rfl (i_in hx_18169 (by omega)) dX12_compare_120 (fun H locs hP hD hS => ?_)
                    generalize hf_18180 : (upd f_18154 (x_18169 : Int32).toNatClampNeg r_18178) = f_18180 at hP hD
                    have hf_18180_0 : RwOK f_18180 := by rw [← hf_18180]; exact RwOK.upd hf_18154_0 hx_18169 (by omega) rfl (PR.w_11 (by omega) (by omega))
                    have hP : va_P D vwCl [(u0, .inl (K 0, 558, .inl (u_15180.2.1 0))), (m0, .inr (12, [.int 0, m_1, m_2, .ref w0, m_4, m_5, .ref u0, m_7, m_8, m_9, m_10, m_11, m_12, m_13, m_14, m_15, m_16, m_17, m_18, m_19, .int 0, m_21, m_22, m_23, m_24, m_25, m_26, m_27, m_28, m_29, m_30, m_31, m_32, m_33, .int (u_18173.2.2.2.1 0), .ref e0, m_36, .ref q0, .int (u_18173.2.2.2.1 1), .long (u_18173.2.2.2.2.1 0), .long (u_18173.2.2.2.2.1 1), m_41, m_42, m_43, m_44, m_45, m_46, m_47, m_48, m_49, m_50, m_51, m_52, m_53, m_54, m_55, m_56, m_57, m_58, m_59])), (w0, .inl (K 0, 5500, .inl f_18180)), (e0, .inl (K 2, 13, .inr (.inl (u_18173.2.2.1 0)))), (q0, .inl (K 2, 400, .inr (.inl (u_18173.2.2.1 1))))] H := hP
                    have hD : va_D A [(u0, .inl (K 0, 558, .inl (u_15180.2.1 0))), (m0, .inr (12, [.int 0, m_1, m_2, .ref w0, m_4, m_5, .ref u0, m_7, m_8, m_9, m_10, m_11, m_12, m_13, m_14, m_15, m_16, m_17, m_18, m_19, .int 0, m_21, m_22, m_23, m_24, m_25, m_26, m_27, m_28, m_29, m_30, m_31, m_32, m_33, .int (u_18173.2.2.2.1 0), .ref e0, m_36, .ref q0, .int (u_18173.2.2.2.1 1), .long (u_18173.2.2.2.2.1 0), .long (u_18173.2.2.2.2.1 1), m_41, m_42, m_43, m_44, m_45, m_46, m_47, m_48, m_49, m_50, m_51, m_52, m_53, m_54, m_55, m_56, m_57, m_58, m_59])), (w0, .inl (K 0, 5500, .inl f_18180)), (e0, .inl (K 2, 13, .inr (.inl (u_18173.2.2.1 0)))), (q0, .inl (K 2, 400, .inr (.inl (u_18173.2.2.1 1))))] := hD
                    obtain ⟨x_18181, ex_18181⟩ : ∃ y : Int32, y = v_18008 + Int32.ofInt 1 := ⟨_, rfl⟩
                    have hx_18181 : x_18181.toInt = (v_18008.toInt + 1) := by rw [ex_18181]; exact i_add rfl (show (Int32.ofInt 1).toInt = 1 from rfl) (by omega)
                    refine lv_iinc (v := x_18181) (lv' := [(5, .int x_18181), (4, .int v_16923), (3, .int v_18147), (0, .ref m0), (1, .int x), (2, .int y)]) hx hb dX12_compare_121 hl (k := 0) rfl (by rw [ex_18181]) (by decide) rfl (fun ls hl => ?_)
                    refine lv_goto (tgt := 47) hx hb dX12_compare_124 (by decide) ?_
                    exact ih_18131 x_18181 v_18147 (u_18173.2.2.2.1 0) (u_18173.2.2.2.1 1) (u_18173.2.2.2.2.1 0) (u_18173.2.2.2.2.1 1) (u_18173.2.2.1 0) (u_18173.2.2.1 1) f_18180 (by rw [hx_18181]; omega) (by omega) hf_18180_0 (by omega) _ _ (hP.sub [3, 4, 1, 2, 0] rfl) (hD.sub [3, 4, 1, 2, 0] (by decide) rfl) hS ls (lv_sub hl [0, 1, 2, 3, 4, 5] rfl)
                  refine lv_icmp_ge (tgt := 86) hx hb dX12_compare_73 (by decide) (fun c_18182 => ?_) (fun c_18182 => ?_)
                  · have c_18182i := i_le (x := r_18140.toInt) (y := x_18139.toInt) rfl rfl c_18182
                    exact j_18168 v_18009 v_18010 v_18011 v_18012 v_18013 f_18014 f_18015 f_18016 (by omega) hf_18016_0 _ _ hP hD hS ls (lv_sub hl [0, 1, 2, 3, 4, 5] rfl)
                  · have c_18182i := i_nle (x := r_18140.toInt) (y := x_18139.toInt) rfl rfl c_18182
                    refine lv_aload_n hx hb dX12_compare_76 rfl (lv_at hl 3 rfl) ?_
                    refine lv_iload_n hx hb dX12_compare_77 rfl (lv_at hl 4 rfl) ?_
                    refine lv_iload hx hb dX12_compare_78 (lv_at hl 0 rfl) ?_
                    refine kcv (S := Su) (wr := [(u0, .inl (K 0, 558, .inl (u_15180.2.1 0)))]) (va_runV (As := [.int x, .int v_18008]) (rest := []) ⟨hx, hb, hml, hown, hts⟩ (v_flare l D K m0 x v_18008 (.int 0) m_1 m_2 w0 m_4 m_5 (.ref u0) m_7 m_8 m_9 m_10 m_11 m_12 m_13 m_14 m_15 m_16 m_17 m_18 m_19 m_21 m_22 m_23 m_24 m_25 m_26 m_27 m_28 m_29 m_30 m_31 m_32 m_33 v_18010 e0 m_36 q0 v_18011 v_18012 v_18013 m_41 m_42 m_43 m_44 m_45 m_46 m_47 m_48 m_49 m_50 m_51 m_52 m_53 m_54 m_55 m_56 m_57 m_58 m_59 f_18016 f_18014 f_18015 H.size (by first | omega | decide) (by first | omega | decide) (by first | omega | decide) hf_18016_0) (cwV 2 hts gX12_compare_X12_flare rfl rfl rfl (by decide +kernel) ⟨Nat.le_of_ble_eq_true rfl, Nat.le_of_ble_eq_true rfl⟩) (mkV hK hN (hP.sub [2, 3, 0, 1] rfl) (hD.sub [2, 3, 0, 1] (by decide) rfl) (ci := 12) (q0 := 0) rfl rfl) rfl rfl hl.1 rfl (lv_room (Nat.le_of_ble_eq_true rfl)) dX12_compare_80 ⟨Nat.le_of_ble_eq_true rfl, Nat.le_of_ble_eq_true rfl⟩) hP hD hS hA [2, 3, 0, 1] [4] rfl rfl (by decide) (by decide) (fun u_18184 H locs hw hP hD hS => ?_)
                    have hP : va_P D vwCl [(u0, .inl (K 0, 558, .inl (u_15180.2.1 0))), (m0, .inr (12, [.int 0, m_1, m_2, .ref w0, m_4, m_5, .ref u0, m_7, m_8, m_9, m_10, m_11, m_12, m_13, m_14, m_15, m_16, m_17, m_18, m_19, .int 0, m_21, m_22, m_23, m_24, m_25, m_26, m_27, m_28, m_29, m_30, m_31, m_32, m_33, .int (u_18184.2.2.2.1 0), .ref e0, m_36, .ref q0, .int (u_18184.2.2.2.1 1), .long (u_18184.2.2.2.2.1 0), .long (u_18184.2.2.2.2.1 1), m_41, m_42, m_43, m_44, m_45, m_46, m_47, m_48, m_49, m_50, m_51, m_52, m_53, m_54, m_55, m_56, m_57, m_58, m_59])), (w0, .inl (K 0, 5500, .inl (u_18184.2.1 0))), (e0, .inl (K 2, 13, .inr (.inl (u_18184.2.2.1 0)))), (q0, .inl (K 2, 400, .inr (.inl (u_18184.2.2.1 1))))] H := hP
                    have hD : va_D A [(u0, .inl (K 0, 558, .inl (u_15180.2.1 0))), (m0, .inr (12, [.int 0, m_1, m_2, .ref w0, m_4, m_5, .ref u0, m_7, m_8, m_9, m_10, m_11, m_12, m_13, m_14, m_15, m_16, m_17, m_18, m_19, .int 0, m_21, m_22, m_23, m_24, m_25, m_26, m_27, m_28, m_29, m_30, m_31, m_32, m_33, .int (u_18184.2.2.2.1 0), .ref e0, m_36, .ref q0, .int (u_18184.2.2.2.1 1), .long (u_18184.2.2.2.2.1 0), .long (u_18184.2.2.2.2.1 1), m_41, m_42, m_43, m_44, m_45, m_46, m_47, m_48, m_49, m_50, m_51, m_52, m_53, m_54, m_55, m_56, m_57, m_58, m_59])), (w0, .inl (K 0, 5500, .inl (u_18184.2.1 0))), (e0, .inl (K 2, 13, .inr (.inl (u_18184.2.2.1 0)))), (q0, .inl (K 2, 400, .inr (.inl (u_18184.2.2.1 1))))] := hD
                    obtain ⟨k_18185, k_18186, -⟩ := hw
                    obtain ⟨x_18187, ex_18187⟩ : ∃ y : Int32, y = v_18009 + Int32.ofInt 1 := ⟨_, rfl⟩
                    refine lv_iinc (v := x_18187) (lv' := [(3, .int x_18187), (5, .int v_18008), (4, .int v_16923), (0, .ref m0), (1, .int x), (2, .int y)]) hx hb dX12_compare_83 hl (k := 2) rfl (by rw [ex_18187]) (by decide) rfl (fun ls hl => ?_)
                    exact j_18168 x_18187 (u_18184.2.2.2.1 0) (u_18184.2.2.2.1 1) (u_18184.2.2.2.2.1 0) (u_18184.2.2.2.2.1 1) (u_18184.2.2.1 0) (u_18184.2.2.1 1) (u_18184.2.1 0) (by omega) k_18186 _ _ (hP.sub [3, 4, 1, 2, 0] rfl) (hD.sub [3, 4, 1, 2, 0] (by decide) rfl) hS ls (lv_sub hl [1, 2, 0, 3, 4, 5] rfl)
            exact lp_18130 ((9 - (0 : Int32).toInt : Int).toNat + 1) 0 v_16924 v_16925 v_16926 v_16927 v_16928 f_16929 f_16930 f_16931 (by decide) (by omega) hf_16931_0 (Nat.lt_succ_self _) _ _ hP hD hS ls (lv_sub hl [0, 1, 2, 3, 4, 5] rfl)
      exact lp_17769 ((61 - (0 : Int32).toInt : Int).toNat + 1) 0 0 lw bro val sm fe frs fw (by decide) (by omega) zfw (Nat.lt_succ_self _) _ _ hP hD hS ls (lv_sub hl [0, 1, 2, 3, 4] rfl)
    · refine lv_if_ne (tgt := 27) hx hb dX12_compare_22 (by decide) (fun c_18188 => absurd (by decide) c_18188) (fun c_18188 => ?_)
      exact j_15168   _ _ hP hD hS ls (lv_sub hl [] rfl)
  · refine lv_if_eq (tgt := 25) hx hb dX12_compare_10 (by decide) (fun c_18189 => ?_) (fun c_18189 => absurd (by decide) c_18189)
    exact j_15168   _ _ hP hD hS ls (lv_sub hl [] rfl)
set_option maxHeartbeats 4000000 in
set_option maxRecDepth 100000 in
theorem v_draw (l : Launch) (D : va_G) (K : Nat → ClassId) (m0 : Nat) (x : Int32) (m_0 : Value) (m_1 : Value) (m_2 : Value) (m_3 : Value) (m_4 : Value) (m_5 : Value) (m_6 : Value) (m_7 : Value) (m_8 : Value) (m_9 : Value) (m_10 : Value) (m_11 : Value) (m_12 : Value) (m_13 : Value) (m_14 : Value) (m_15 : Value) (m_16 : Value) (m_17 : Value) (m_18 : Value) (m_19 : Value) (m_20 : Value) (m_21 : Value) (m_22 : Value) (m_23 : Value) (m_24 : Value) (m_25 : Value) (m_26 : Value) (m_27 : Value) (m_28 : Value) (m_29 : Value) (m_30 : Value) (m_31 : Value) (m_32 : Value) (m_33 : Value) (m_34 : Value) (m_35 : Value) (m_36 : Value) (m_37 : Value) (m_38 : Value) (m_39 : Value) (m_40 : Value) (m_41 : Value) (m_42 : Value) (m_43 : Value) (m_44 : Value) (m_45 : Value) (m_46 : Value) (m_47 : Value) (m_48 : Value) (m_49 : Value) (m_50 : Value) (m_51 : Value) (m_52 : Value) (m_53 : Value) (m_54 : Value) (m_55 : Value) (sta_ : Int64) (m_57 : Value) (m_58 : Value) (m_59 : Value) (sz : Nat) (zx : 1 ≤ x.toInt ∧ x.toInt ≤ 8) (zsta : 0 ≤ sta_.toInt ∧ sta_.toInt ≤ 1000002) : Met l yX12_draw wsX12_draw ({ frames := 0, cells := 0, slots := 0, locals := 0 }) (va_Pc [.ref m0, .int x] (Pre D K [(m0, .inr (12, [m_0, m_1, m_2, m_3, m_4, m_5, m_6, m_7, m_8, m_9, m_10, m_11, m_12, m_13, m_14, m_15, m_16, m_17, m_18, m_19, m_20, m_21, m_22, m_23, m_24, m_25, m_26, m_27, m_28, m_29, m_30, m_31, m_32, m_33, m_34, m_35, m_36, m_37, m_38, m_39, m_40, m_41, m_42, m_43, m_44, m_45, m_46, m_47, m_48, m_49, m_50, m_51, m_52, m_53, m_54, m_55, .long sta_, m_57, m_58, m_59]))] sz)) (va_Qi (S := Su) (fun (r : Int32) (u : Su) => (0 ≤ r.toInt ∧ r.toInt ≤ 7) ∧ (0 ≤ (u.2.2.2.2.1 0).toInt ∧ (u.2.2.2.2.1 0).toInt ≤ 1000002) ∧ True) (fun u t => Wd D (va_A [(m0, .inr (12, [m_0, m_1, m_2, m_3, m_4, m_5, m_6, m_7, m_8, m_9, m_10, m_11, m_12, m_13, m_14, m_15, m_16, m_17, m_18, m_19, m_20, m_21, m_22, m_23, m_24, m_25, m_26, m_27, m_28, m_29, m_30, m_31, m_32, m_33, m_34, m_35, m_36, m_37, m_38, m_39, m_40, m_41, m_42, m_43, m_44, m_45, m_46, m_47, m_48, m_49, m_50, m_51, m_52, m_53, m_54, m_55, .long sta_, m_57, m_58, m_59]))] sz) ((fun u => [(m0, .inr (12, [m_0, m_1, m_2, m_3, m_4, m_5, m_6, m_7, m_8, m_9, m_10, m_11, m_12, m_13, m_14, m_15, m_16, m_17, m_18, m_19, m_20, m_21, m_22, m_23, m_24, m_25, m_26, m_27, m_28, m_29, m_30, m_31, m_32, m_33, m_34, m_35, m_36, m_37, m_38, m_39, m_40, m_41, m_42, m_43, m_44, m_45, m_46, m_47, m_48, m_49, m_50, m_51, m_52, m_53, m_54, m_55, .long (u.2.2.2.2.1 0), m_57, m_58, m_59]))]) u) t) (va_A [(m0, .inr (12, [m_0, m_1, m_2, m_3, m_4, m_5, m_6, m_7, m_8, m_9, m_10, m_11, m_12, m_13, m_14, m_15, m_16, m_17, m_18, m_19, m_20, m_21, m_22, m_23, m_24, m_25, m_26, m_27, m_28, m_29, m_30, m_31, m_32, m_33, m_34, m_35, m_36, m_37, m_38, m_39, m_40, m_41, m_42, m_43, m_44, m_45, m_46, m_47, m_48, m_49, m_50, m_51, m_52, m_53, m_54, m_55, .long sta_, m_57, m_58, m_59]))] sz)) 0 0 (va_A [(m0, .inr (12, [m_0, m_1, m_2, m_3, m_4, m_5, m_6, m_7, m_8, m_9, m_10, m_11, m_12, m_13, m_14, m_15, m_16, m_17, m_18, m_19, m_20, m_21, m_22, m_23, m_24, m_25, m_26, m_27, m_28, m_29, m_30, m_31, m_32, m_33, m_34, m_35, m_36, m_37, m_38, m_39, m_40, m_41, m_42, m_43, m_44, m_45, m_46, m_47, m_48, m_49, m_50, m_51, m_52, m_53, m_54, m_55, .long sta_, m_57, m_58, m_59]))] sz) := by
  refine Met.ofW (cc := cX12_draw) (maxL := 2) (ret := (some .int)) (by decide) rfl ?_
  intro p e s m args below meth c s₁ B hml hv
  obtain ⟨rfl, hsz, hP, hK, hD0, hN⟩ := hv
  have hx := B.exec
  have hb := B.bytes
  have hr := B.returns
  have hts := atoms_spec (ws := wsX12_draw) B.pre
  have hown : s.vm.findClass RX12 = some m.cls := findClass_of_methodNamed B.named
  have hlocks := B.notSynchronized
  subst hsz
  have hD := hD0.self (sz := s.heap.size)
  generalize hAe : va_A [(m0, .inr (12, [m_0, m_1, m_2, m_3, m_4, m_5, m_6, m_7, m_8, m_9, m_10, m_11, m_12, m_13, m_14, m_15, m_16, m_17, m_18, m_19, m_20, m_21, m_22, m_23, m_24, m_25, m_26, m_27, m_28, m_29, m_30, m_31, m_32, m_33, m_34, m_35, m_36, m_37, m_38, m_39, m_40, m_41, m_42, m_43, m_44, m_45, m_46, m_47, m_48, m_49, m_50, m_51, m_52, m_53, m_54, m_55, .long sta_, m_57, m_58, m_59]))] s.heap.size = A at hD ⊢
  have hA : ∀ q : Nat, s.heap.size ≤ q → A q := fun q h => by rw [← hAe]; exact Or.inr h
  have hS : va_S A s.heap s.heap [] := va_S.rf
  have hP : va_P D vwCl [(m0, .inr (12, [m_0, m_1, m_2, m_3, m_4, m_5, m_6, m_7, m_8, m_9, m_10, m_11, m_12, m_13, m_14, m_15, m_16, m_17, m_18, m_19, m_20, m_21, m_22, m_23, m_24, m_25, m_26, m_27, m_28, m_29, m_30, m_31, m_32, m_33, m_34, m_35, m_36, m_37, m_38, m_39, m_40, m_41, m_42, m_43, m_44, m_45, m_46, m_47, m_48, m_49, m_50, m_51, m_52, m_53, m_54, m_55, .long sta_, m_57, m_58, m_59]))] s.heap := hP
  have hl := lv_entry [.ref m0, .int x] (n := 2) (Nat.le_of_ble_eq_true rfl)
  rw [lg_entry_eq]
  generalize (lg_sl [.ref m0, .int x] ++ List.replicate (2 - (lg_sl [.ref m0, .int x]).length) Slot.unset).toArray = ls at hl ⊢
  have hl : lv_has ls 2 [(0, .ref m0), (1, .int x)] := hl
  have hw12 : ∀ w ∈ wsX120, w ∈ wsX12_draw := fun w h => (List.mem_cons_of_mem _ (List.mem_append_right _ h))
  generalize hQ : MQ below _ _ s _ _ _ = Q
  refine lv_aload_n hx hb dX12_draw_0 rfl (lv_at hl 0 rfl) ?_
  refine lv_aload_n hx hb dX12_draw_1 rfl (lv_at hl 0 rfl) ?_
  refine va_get (ci := 12) (v := .long sta_) (C := RX12) (T := TX12) (N := 60) hx hb hts hw12 hown hK hP 0 rfl rfl 56 (by decide) (hts (.fieldLink RX12 553 "SmokeTuneModel" "state" "J") (List.mem_cons_of_mem _ (List.mem_append_left _ (List.mem_of_getElem? (i := 0) rfl)))) (fun _ h9 => h9) rfl dX12_draw_2 ?_
  refine lv_ldc2 (v := 1103) hx hb hown (hts (.constantLong RX12 556 (1103)) (List.mem_cons_of_mem _ (List.mem_append_left _ (List.mem_of_getElem? (i := 1) rfl)))) dX12_draw_5 ?_
  refine lv_lmul hx hb dX12_draw_8 ?_
  refine lv_topl (fun x_73 ex_73 => ?_)
  have hx_73 : x_73.toInt = (sta_.toInt * 1103) := by rw [ex_73]; exact l_mul rfl (show (1103 : Int64).toInt = 1103 from rfl) (by omega)
  refine lv_ldc2 (v := 12345) hx hb hown (hts (.constantLong RX12 558 (12345)) (List.mem_cons_of_mem _ (List.mem_append_left _ (List.mem_of_getElem? (i := 2) rfl)))) dX12_draw_9 ?_
  refine lv_ladd hx hb dX12_draw_12 ?_
  refine lv_topl (fun x_74 ex_74 => ?_)
  have hx_74 : x_74.toInt = ((sta_.toInt * 1103) + 12345) := by rw [ex_74]; exact l_add hx_73 (show (12345 : Int64).toInt = 12345 from rfl) (by omega)
  refine lv_ldc2 (v := 1000003) hx hb hown (hts (.constantLong RX12 560 (1000003)) (List.mem_cons_of_mem _ (List.mem_append_left _ (List.mem_of_getElem? (i := 3) rfl)))) dX12_draw_13 ?_
  refine lv_lrem hx hb dX12_draw_16 (by decide) ?_
  refine lv_topl (fun x_75 ex_75 => ?_)
  have hx_75 : x_75.toInt = (((sta_.toInt * 1103) + 12345) % 1000003) := by rw [ex_75]; exact l_rem hx_74 (show (1000003 : Int64).toInt = 1000003 from rfl) (by omega) (by omega)
  refine va_put (ci := 12) (v := .long x_75) (ty := .long) (C := RX12) (T := TX12) (N := 60) hx hb hts hw12 tyX12 tyX12_ok nmX12 hown hK hP hD hS 0 rfl rfl 56 (by decide) (hts (.fieldLink RX12 553 "SmokeTuneModel" "state" "J") (List.mem_cons_of_mem _ (List.mem_append_left _ (List.mem_of_getElem? (i := 0) rfl)))) (fun _ h9 => h9) rfl (by decide +kernel) (by first | rfl | decide) (by first | rfl | decide) (Nat.le_of_ble_eq_true rfl) dX12_draw_17 (fun H locs hP hD hS => ?_)
  have hP : va_P D vwCl [(m0, .inr (12, [m_0, m_1, m_2, m_3, m_4, m_5, m_6, m_7, m_8, m_9, m_10, m_11, m_12, m_13, m_14, m_15, m_16, m_17, m_18, m_19, m_20, m_21, m_22, m_23, m_24, m_25, m_26, m_27, m_28, m_29, m_30, m_31, m_32, m_33, m_34, m_35, m_36, m_37, m_38, m_39, m_40, m_41, m_42, m_43, m_44, m_45, m_46, m_47, m_48, m_49, m_50, m_51, m_52, m_53, m_54, m_55, .long x_75, m_57, m_58, m_59]))] H := hP
  have hD : va_D A [(m0, .inr (12, [m_0, m_1, m_2, m_3, m_4, m_5, m_6, m_7, m_8, m_9, m_10, m_11, m_12, m_13, m_14, m_15, m_16, m_17, m_18, m_19, m_20, m_21, m_22, m_23, m_24, m_25, m_26, m_27, m_28, m_29, m_30, m_31, m_32, m_33, m_34, m_35, m_36, m_37, m_38, m_39, m_40, m_41, m_42, m_43, m_44, m_45, m_46, m_47, m_48, m_49, m_50, m_51, m_52, m_53, m_54, m_55, .long x_75, m_57, m_58, m_59]))] := hD
  refine lv_aload_n hx hb dX12_draw_20 rfl (lv_at hl 0 rfl) ?_
  refine va_get (ci := 12) (v := .long x_75) (C := RX12) (T := TX12) (N := 60) hx hb hts hw12 hown hK hP 0 rfl rfl 56 (by decide) (hts (.fieldLink RX12 553 "SmokeTuneModel" "state" "J") (List.mem_cons_of_mem _ (List.mem_append_left _ (List.mem_of_getElem? (i := 0) rfl)))) (fun _ h9 => h9) rfl dX12_draw_21 ?_
  refine lv_iload_n hx hb dX12_draw_24 rfl (lv_at hl 1 rfl) ?_
  refine lv_i2l hx hb dX12_draw_25 rfl ?_
  refine lv_topl (fun x_76 ex_76 => ?_)
  have hx_76 : x_76.toInt = x.toInt := by rw [ex_76]; exact i_wide rfl
  refine lv_lrem hx hb dX12_draw_26 (fun h9 => by have h8 := l_eq (x := x.toInt) (y := 0) hx_76 rfl h9; omega) ?_
  refine lv_topl (fun x_77 ex_77 => ?_)
  have hx_77 : 0 ≤ x_77.toInt ∧ x_77.toInt < x.toInt := by rw [ex_77]; exact l_remb hx_75 hx_76 (by omega) (by omega)
  refine lv_l2i hx hb dX12_draw_27 rfl ?_
  refine lv_topi (fun x_78 ex_78 => ?_)
  have hx_78 : x_78.toInt = x_77.toInt := by rw [ex_78]; exact l_nar rfl (by omega)
  subst hQ
  have hP9 := hP.sub (ws' := [(m0, .inr (12, [m_0, m_1, m_2, m_3, m_4, m_5, m_6, m_7, m_8, m_9, m_10, m_11, m_12, m_13, m_14, m_15, m_16, m_17, m_18, m_19, m_20, m_21, m_22, m_23, m_24, m_25, m_26, m_27, m_28, m_29, m_30, m_31, m_32, m_33, m_34, m_35, m_36, m_37, m_38, m_39, m_40, m_41, m_42, m_43, m_44, m_45, m_46, m_47, m_48, m_49, m_50, m_51, m_52, m_53, m_54, m_55, .long x_75, m_57, m_58, m_59]))]) [0] rfl
  have hD9 := hD.sub (ws' := [(m0, .inr (12, [m_0, m_1, m_2, m_3, m_4, m_5, m_6, m_7, m_8, m_9, m_10, m_11, m_12, m_13, m_14, m_15, m_16, m_17, m_18, m_19, m_20, m_21, m_22, m_23, m_24, m_25, m_26, m_27, m_28, m_29, m_30, m_31, m_32, m_33, m_34, m_35, m_36, m_37, m_38, m_39, m_40, m_41, m_42, m_43, m_44, m_45, m_46, m_47, m_48, m_49, m_50, m_51, m_52, m_53, m_54, m_55, .long x_75, m_57, m_58, m_59]))]) [0] (by decide) rfl
  exact W.iret (v := x_78) hx hb hr (fun t ht hW => ⟨⟨x_78, ((fun _ => 0, fun _ => fun _ => 0, fun _ => fun _ => 0, fun _ => 0, fun i => match i with | _ => x_75, fun _ => fun _ => none) : Su), rfl, ⟨(show 0 ≤ x_78.toInt ∧ x_78.toInt ≤ 7 by rw [hx_78]; omega), (show 0 ≤ (x_75 : Int64).toInt ∧ (x_75 : Int64).toInt ≤ 1000002 by rw [hx_75]; omega), trivial⟩, (⟨by rw [ht]; exact hP9, hD9⟩ : Wd D A _ t)⟩, hS.F ht⟩) hS.2.2 dX12_draw_28
set_option maxHeartbeats 4000000 in
set_option maxRecDepth 100000 in
theorem v_days (l : Launch) (D : va_G) (K : Nat → ClassId) (m0 : Nat) (x : Int32) (y : Int32) (thr : Int32) (sta : Int32) (r0 : Nat) (w0 : Nat) (m_4 : Value) (m_5 : Value) (u0 : Nat) (m_7 : Value) (m_8 : Value) (m_9 : Value) (m_10 : Value) (m_11 : Value) (m_12 : Value) (m_13 : Value) (m_14 : Value) (m_15 : Value) (m_16 : Value) (m_17 : Value) (m_18 : Value) (m_19 : Value) (m_21 : Value) (m_22 : Value) (m_23 : Value) (m_24 : Value) (m_25 : Value) (m_26 : Value) (m_27 : Value) (m_28 : Value) (m_29 : Value) (m_30 : Value) (m_31 : Value) (m_32 : Value) (m_33 : Value) (lw : Int32) (e0 : Nat) (m_36 : Value) (q0 : Nat) (bro : Int32) (val : Int64) (sm : Int64) (b0 : Nat) (m_42 : Value) (m_43 : Value) (m_44 : Value) (m_45 : Value) (m_46 : Value) (m_47 : Value) (m_48 : Value) (m_49 : Value) (m_50 : Value) (m_51 : Value) (m_52 : Value) (m_53 : Value) (m_54 : Value) (m_55 : Value) (sta_ : Int64) (d0 : Nat) (dfi : Int32) (ndr : Int32) (fw : Nat → Int32) (fe : Nat → Int64) (frs : Nat → Int64) (fu : Nat → Int32) (fb : Nat → Int32) (fd : Nat → Int32) (frf : Nat → Int32) (sz : Nat) (zbro : 0 ≤ bro.toInt ∧ bro.toInt ≤ 1) (zndr : (-1) ≤ ndr.toInt ∧ ndr.toInt ≤ 8) (zsta : 0 ≤ sta_.toInt ∧ sta_.toInt ≤ 1000002) (zfw : RwOK fw) (zfu : Pu 558 fu) : Met l yX12_days wsX12_days ({ frames := 7, cells := 0, slots := 0, locals := 167 }) (va_Pc [.ref m0, .int x, .int y] (Pre D K [(m0, .inr (12, [.int thr, .int sta, .ref r0, .ref w0, m_4, m_5, .ref u0, m_7, m_8, m_9, m_10, m_11, m_12, m_13, m_14, m_15, m_16, m_17, m_18, m_19, .int 0, m_21, m_22, m_23, m_24, m_25, m_26, m_27, m_28, m_29, m_30, m_31, m_32, m_33, .int lw, .ref e0, m_36, .ref q0, .int bro, .long val, .long sm, .ref b0, m_42, m_43, m_44, m_45, m_46, m_47, m_48, m_49, m_50, m_51, m_52, m_53, m_54, m_55, .long sta_, .ref d0, .int dfi, .int ndr])), (w0, .inl (K 0, 5500, .inl fw)), (e0, .inl (K 2, 13, .inr (.inl fe))), (q0, .inl (K 2, 400, .inr (.inl frs))), (u0, .inl (K 0, 558, .inl fu)), (b0, .inl (K 0, 8, .inl fb)), (d0, .inl (K 0, 16, .inl fd)), (r0, .inl (K 0, 7, .inl frf))] sz)) (va_Qi (S := Su) (fun (r : Int32) (u : Su) => ((-6) ≤ r.toInt) ∧ ((-6) ≤ (u.2.2.2.1 0).toInt ∧ (u.2.2.2.1 0).toInt ≤ 0) ∧ (0 ≤ (u.2.2.2.1 2).toInt ∧ (u.2.2.2.1 2).toInt ≤ 1) ∧ (0 ≤ (u.2.2.2.2.1 2).toInt ∧ (u.2.2.2.2.1 2).toInt ≤ 1000002) ∧ ((-1) ≤ (u.2.2.2.1 4).toInt ∧ (u.2.2.2.1 4).toInt ≤ 8) ∧ (RwOK (u.2.1 0)) ∧ (Pu 558 (u.2.1 1)) ∧ True) (fun u t => Wd D (va_A [(m0, .inr (12, [.int thr, .int sta, .ref r0, .ref w0, m_4, m_5, .ref u0, m_7, m_8, m_9, m_10, m_11, m_12, m_13, m_14, m_15, m_16, m_17, m_18, m_19, .int 0, m_21, m_22, m_23, m_24, m_25, m_26, m_27, m_28, m_29, m_30, m_31, m_32, m_33, .int lw, .ref e0, m_36, .ref q0, .int bro, .long val, .long sm, .ref b0, m_42, m_43, m_44, m_45, m_46, m_47, m_48, m_49, m_50, m_51, m_52, m_53, m_54, m_55, .long sta_, .ref d0, .int dfi, .int ndr])), (w0, .inl (K 0, 5500, .inl fw)), (e0, .inl (K 2, 13, .inr (.inl fe))), (q0, .inl (K 2, 400, .inr (.inl frs))), (u0, .inl (K 0, 558, .inl fu)), (b0, .inl (K 0, 8, .inl fb)), (d0, .inl (K 0, 16, .inl fd)), (r0, .inl (K 0, 7, .inl frf))] sz) ((fun u => [(m0, .inr (12, [.int 0, .int (u.2.2.2.1 0), .ref r0, .ref w0, m_4, m_5, .ref u0, m_7, m_8, m_9, m_10, m_11, m_12, m_13, m_14, m_15, m_16, m_17, m_18, m_19, .int 0, m_21, m_22, m_23, m_24, m_25, m_26, m_27, m_28, m_29, m_30, m_31, m_32, m_33, .int (u.2.2.2.1 1), .ref e0, m_36, .ref q0, .int (u.2.2.2.1 2), .long (u.2.2.2.2.1 0), .long (u.2.2.2.2.1 1), .ref b0, m_42, m_43, m_44, m_45, m_46, m_47, m_48, m_49, m_50, m_51, m_52, m_53, m_54, m_55, .long (u.2.2.2.2.1 2), .ref d0, .int (u.2.2.2.1 3), .int (u.2.2.2.1 4)])), (w0, .inl (K 0, 5500, .inl (u.2.1 0))), (e0, .inl (K 2, 13, .inr (.inl (u.2.2.1 0)))), (q0, .inl (K 2, 400, .inr (.inl (u.2.2.1 1)))), (u0, .inl (K 0, 558, .inl (u.2.1 1))), (b0, .inl (K 0, 8, .inl (u.2.1 2))), (d0, .inl (K 0, 16, .inl (u.2.1 3))), (r0, .inl (K 0, 7, .inl (u.2.1 4)))]) u) t) (va_A [(m0, .inr (12, [.int thr, .int sta, .ref r0, .ref w0, m_4, m_5, .ref u0, m_7, m_8, m_9, m_10, m_11, m_12, m_13, m_14, m_15, m_16, m_17, m_18, m_19, .int 0, m_21, m_22, m_23, m_24, m_25, m_26, m_27, m_28, m_29, m_30, m_31, m_32, m_33, .int lw, .ref e0, m_36, .ref q0, .int bro, .long val, .long sm, .ref b0, m_42, m_43, m_44, m_45, m_46, m_47, m_48, m_49, m_50, m_51, m_52, m_53, m_54, m_55, .long sta_, .ref d0, .int dfi, .int ndr])), (w0, .inl (K 0, 5500, .inl fw)), (e0, .inl (K 2, 13, .inr (.inl fe))), (q0, .inl (K 2, 400, .inr (.inl frs))), (u0, .inl (K 0, 558, .inl fu)), (b0, .inl (K 0, 8, .inl fb)), (d0, .inl (K 0, 16, .inl fd)), (r0, .inl (K 0, 7, .inl frf))] sz)) 0 0 (va_A [(m0, .inr (12, [.int thr, .int sta, .ref r0, .ref w0, m_4, m_5, .ref u0, m_7, m_8, m_9, m_10, m_11, m_12, m_13, m_14, m_15, m_16, m_17, m_18, m_19, .int 0, m_21, m_22, m_23, m_24, m_25, m_26, m_27, m_28, m_29, m_30, m_31, m_32, m_33, .int lw, .ref e0, m_36, .ref q0, .int bro, .long val, .long sm, .ref b0, m_42, m_43, m_44, m_45, m_46, m_47, m_48, m_49, m_50, m_51, m_52, m_53, m_54, m_55, .long sta_, .ref d0, .int dfi, .int ndr])), (w0, .inl (K 0, 5500, .inl fw)), (e0, .inl (K 2, 13, .inr (.inl fe))), (q0, .inl (K 2, 400, .inr (.inl frs))), (u0, .inl (K 0, 558, .inl fu)), (b0, .inl (K 0, 8, .inl fb)), (d0, .inl (K 0, 16, .inl fd)), (r0, .inl (K 0, 7, .inl frf))] sz) := by
  refine Met.ofW (cc := cX12_days) (maxL := 7) (ret := (some .int)) (by decide) rfl ?_
  intro p e s m args below meth c s₁ B hml hv
  obtain ⟨rfl, hsz, hP, hK, hD0, hN⟩ := hv
  have hx := B.exec
  have hb := B.bytes
  have hr := B.returns
  have hts := atoms_spec (ws := wsX12_days) B.pre
  have hown : s.vm.findClass RX12 = some m.cls := findClass_of_methodNamed B.named
  have hlocks := B.notSynchronized
  subst hsz
  have hD := hD0.self (sz := s.heap.size)
  generalize hAe : va_A [(m0, .inr (12, [.int thr, .int sta, .ref r0, .ref w0, m_4, m_5, .ref u0, m_7, m_8, m_9, m_10, m_11, m_12, m_13, m_14, m_15, m_16, m_17, m_18, m_19, .int 0, m_21, m_22, m_23, m_24, m_25, m_26, m_27, m_28, m_29, m_30, m_31, m_32, m_33, .int lw, .ref e0, m_36, .ref q0, .int bro, .long val, .long sm, .ref b0, m_42, m_43, m_44, m_45, m_46, m_47, m_48, m_49, m_50, m_51, m_52, m_53, m_54, m_55, .long sta_, .ref d0, .int dfi, .int ndr])), (w0, .inl (K 0, 5500, .inl fw)), (e0, .inl (K 2, 13, .inr (.inl fe))), (q0, .inl (K 2, 400, .inr (.inl frs))), (u0, .inl (K 0, 558, .inl fu)), (b0, .inl (K 0, 8, .inl fb)), (d0, .inl (K 0, 16, .inl fd)), (r0, .inl (K 0, 7, .inl frf))] s.heap.size = A at hD ⊢
  have hA : ∀ q : Nat, s.heap.size ≤ q → A q := fun q h => by rw [← hAe]; exact Or.inr h
  have hS : va_S A s.heap s.heap [] := va_S.rf
  have hP : va_P D vwCl [(m0, .inr (12, [.int thr, .int sta, .ref r0, .ref w0, m_4, m_5, .ref u0, m_7, m_8, m_9, m_10, m_11, m_12, m_13, m_14, m_15, m_16, m_17, m_18, m_19, .int 0, m_21, m_22, m_23, m_24, m_25, m_26, m_27, m_28, m_29, m_30, m_31, m_32, m_33, .int lw, .ref e0, m_36, .ref q0, .int bro, .long val, .long sm, .ref b0, m_42, m_43, m_44, m_45, m_46, m_47, m_48, m_49, m_50, m_51, m_52, m_53, m_54, m_55, .long sta_, .ref d0, .int dfi, .int ndr])), (w0, .inl (K 0, 5500, .inl fw)), (e0, .inl (K 2, 13, .inr (.inl fe))), (q0, .inl (K 2, 400, .inr (.inl frs))), (u0, .inl (K 0, 558, .inl fu)), (b0, .inl (K 0, 8, .inl fb)), (d0, .inl (K 0, 16, .inl fd)), (r0, .inl (K 0, 7, .inl frf))] s.heap := hP
  have hl := lv_entry [.ref m0, .int x, .int y] (n := 7) (Nat.le_of_ble_eq_true rfl)
  rw [lg_entry_eq]
  generalize (lg_sl [.ref m0, .int x, .int y] ++ List.replicate (7 - (lg_sl [.ref m0, .int x, .int y]).length) Slot.unset).toArray = ls at hl ⊢
  have hl : lv_has ls 7 [(0, .ref m0), (1, .int x), (2, .int y)] := hl
  have hw12 : ∀ w ∈ wsX120, w ∈ wsX12_days := fun w h => (List.mem_cons_of_mem _ (List.mem_append_right _ h))
  generalize hQ : MQ below _ _ s _ _ _ = Q
  refine lv_aload_n hx hb dX12_days_0 rfl (lv_at hl 0 rfl) ?_
  refine lv_iconst (v := 0) hx hb dX12_days_1 (by decide) ?_
  refine va_put (ci := 12) (v := .int 0) (ty := .int) (C := RX12) (T := TX12) (N := 60) hx hb hts hw12 tyX12 tyX12_ok nmX12 hown hK hP hD hS 0 rfl rfl 0 (by decide) (hts (.fieldLink RX12 158 "SmokeTuneModel" "thrown" "I") (List.mem_cons_of_mem _ (List.mem_append_left _ (List.mem_append_left _ (List.mem_of_getElem? (i := 0) rfl))))) (fun _ h9 => h9) rfl (by decide +kernel) (by first | rfl | decide) (by first | rfl | decide) (Nat.le_of_ble_eq_true rfl) dX12_days_2 (fun H locs hP hD hS => ?_)
  have hP : va_P D vwCl [(m0, .inr (12, [.int 0, .int sta, .ref r0, .ref w0, m_4, m_5, .ref u0, m_7, m_8, m_9, m_10, m_11, m_12, m_13, m_14, m_15, m_16, m_17, m_18, m_19, .int 0, m_21, m_22, m_23, m_24, m_25, m_26, m_27, m_28, m_29, m_30, m_31, m_32, m_33, .int lw, .ref e0, m_36, .ref q0, .int bro, .long val, .long sm, .ref b0, m_42, m_43, m_44, m_45, m_46, m_47, m_48, m_49, m_50, m_51, m_52, m_53, m_54, m_55, .long sta_, .ref d0, .int dfi, .int ndr])), (w0, .inl (K 0, 5500, .inl fw)), (e0, .inl (K 2, 13, .inr (.inl fe))), (q0, .inl (K 2, 400, .inr (.inl frs))), (u0, .inl (K 0, 558, .inl fu)), (b0, .inl (K 0, 8, .inl fb)), (d0, .inl (K 0, 16, .inl fd)), (r0, .inl (K 0, 7, .inl frf))] H := hP
  have hD : va_D A [(m0, .inr (12, [.int 0, .int sta, .ref r0, .ref w0, m_4, m_5, .ref u0, m_7, m_8, m_9, m_10, m_11, m_12, m_13, m_14, m_15, m_16, m_17, m_18, m_19, .int 0, m_21, m_22, m_23, m_24, m_25, m_26, m_27, m_28, m_29, m_30, m_31, m_32, m_33, .int lw, .ref e0, m_36, .ref q0, .int bro, .long val, .long sm, .ref b0, m_42, m_43, m_44, m_45, m_46, m_47, m_48, m_49, m_50, m_51, m_52, m_53, m_54, m_55, .long sta_, .ref d0, .int dfi, .int ndr])), (w0, .inl (K 0, 5500, .inl fw)), (e0, .inl (K 2, 13, .inr (.inl fe))), (q0, .inl (K 2, 400, .inr (.inl frs))), (u0, .inl (K 0, 558, .inl fu)), (b0, .inl (K 0, 8, .inl fb)), (d0, .inl (K 0, 16, .inl fd)), (r0, .inl (K 0, 7, .inl frf))] := hD
  refine lv_iload_n hx hb dX12_days_5 rfl (lv_at hl 1 rfl) ?_
  refine lv_i2l hx hb dX12_days_6 rfl ?_
  refine lv_topl (fun x_4749 ex_4749 => ?_)
  have hx_4749 : x_4749.toInt = x.toInt := by rw [ex_4749]; exact i_wide rfl
  have hbx_4749 := i_rng (a := x) rfl
  refine lv_lconst (v := 0) hx hb dX12_days_7 (by decide) ?_
  refine lv_ldc2 (v := 1000000) hx hb hown (hts (.constantLong RX12 268 (1000000)) (List.mem_cons_of_mem _ (List.mem_append_left _ (List.mem_append_left _ (List.mem_of_getElem? (i := 1) rfl))))) dX12_days_8 ?_
  have j_5921 : ∀ (H : Heap) (locs : List Loc) (hP : va_P D vwCl [(m0, .inr (12, [.int 0, .int sta, .ref r0, .ref w0, m_4, m_5, .ref u0, m_7, m_8, m_9, m_10, m_11, m_12, m_13, m_14, m_15, m_16, m_17, m_18, m_19, .int 0, m_21, m_22, m_23, m_24, m_25, m_26, m_27, m_28, m_29, m_30, m_31, m_32, m_33, .int lw, .ref e0, m_36, .ref q0, .int bro, .long val, .long sm, .ref b0, m_42, m_43, m_44, m_45, m_46, m_47, m_48, m_49, m_50, m_51, m_52, m_53, m_54, m_55, .long sta_, .ref d0, .int dfi, .int ndr])), (w0, .inl (K 0, 5500, .inl fw)), (e0, .inl (K 2, 13, .inr (.inl fe))), (q0, .inl (K 2, 400, .inr (.inl frs))), (u0, .inl (K 0, 558, .inl fu)), (b0, .inl (K 0, 8, .inl fb)), (d0, .inl (K 0, 16, .inl fd)), (r0, .inl (K 0, 7, .inl frf))] H) (hD : va_D A [(m0, .inr (12, [.int 0, .int sta, .ref r0, .ref w0, m_4, m_5, .ref u0, m_7, m_8, m_9, m_10, m_11, m_12, m_13, m_14, m_15, m_16, m_17, m_18, m_19, .int 0, m_21, m_22, m_23, m_24, m_25, m_26, m_27, m_28, m_29, m_30, m_31, m_32, m_33, .int lw, .ref e0, m_36, .ref q0, .int bro, .long val, .long sm, .ref b0, m_42, m_43, m_44, m_45, m_46, m_47, m_48, m_49, m_50, m_51, m_52, m_53, m_54, m_55, .long sta_, .ref d0, .int dfi, .int ndr])), (w0, .inl (K 0, 5500, .inl fw)), (e0, .inl (K 2, 13, .inr (.inl fe))), (q0, .inl (K 2, 400, .inr (.inl frs))), (u0, .inl (K 0, 558, .inl fu)), (b0, .inl (K 0, 8, .inl fb)), (d0, .inl (K 0, 16, .inl fd)), (r0, .inl (K 0, 7, .inl frf))]) (hS : va_S A s.heap H locs) (ls : Array Slot) (hl : lv_has ls 7 [(0, .ref m0)]), W p l e ({ frames := 7, cells := 0, slots := 0, locals := 167 }) s m (([.ref m0, .int x, .int y] : List Value).toArray) below meth c H locs 0 0 Q (F0 m 29 ls []) := by
    intro H locs hP hD hS ls hl
    refine lv_aload_n hx hb dX12_days_29 rfl (lv_at hl 0 rfl) ?_
    refine lv_iconst (v := (-1)) hx hb dX12_days_30 (by decide) ?_
    refine kci (S := Su) (wr := [(w0, .inl (K 0, 5500, .inl fw)), (e0, .inl (K 2, 13, .inr (.inl fe))), (q0, .inl (K 2, 400, .inr (.inl frs))), (u0, .inl (K 0, 558, .inl fu)), (b0, .inl (K 0, 8, .inl fb)), (d0, .inl (K 0, 16, .inl fd))]) (va_runV (As := [.int (-1)]) (rest := []) ⟨hx, hb, hml, hown, hts⟩ (v_tell l D K m0 (-1) (.int 0) sta r0 (.ref w0) m_4 m_5 (.ref u0) m_7 m_8 m_9 m_10 m_11 m_12 m_13 m_14 m_15 m_16 m_17 m_18 m_19 (.int 0) m_21 m_22 m_23 m_24 m_25 m_26 m_27 m_28 m_29 m_30 m_31 m_32 m_33 (.int lw) (.ref e0) m_36 (.ref q0) (.int bro) (.long val) (.long sm) (.ref b0) m_42 m_43 m_44 m_45 m_46 m_47 m_48 m_49 m_50 m_51 m_52 m_53 m_54 m_55 (.long sta_) (.ref d0) (.int dfi) (.int ndr) frf H.size (by first | omega | decide)) (cwV 1 hts gX12_days_X12_tell rfl rfl rfl (by decide +kernel) ⟨Nat.le_of_ble_eq_true rfl, Nat.le_of_ble_eq_true rfl⟩) (mkV hK hN (hP.sub [0, 7] rfl) (hD.sub [0, 7] (by decide) rfl) (ci := 12) (q0 := 0) rfl rfl) rfl rfl hl.1 rfl (lv_room (Nat.le_of_ble_eq_true rfl)) dX12_days_31 ⟨Nat.le_of_ble_eq_true rfl, Nat.le_of_ble_eq_true rfl⟩) hP hD hS hA [0, 7] [1, 2, 3, 4, 5, 6] rfl rfl (by decide) (by decide) (fun r_5922 u_5923 H locs hw hP hD hS => ?_)
    have hP : va_P D vwCl [(w0, .inl (K 0, 5500, .inl fw)), (e0, .inl (K 2, 13, .inr (.inl fe))), (q0, .inl (K 2, 400, .inr (.inl frs))), (u0, .inl (K 0, 558, .inl fu)), (b0, .inl (K 0, 8, .inl fb)), (d0, .inl (K 0, 16, .inl fd)), (m0, .inr (12, [.int 0, .int (u_5923.2.2.2.1 0), .ref r0, .ref w0, m_4, m_5, .ref u0, m_7, m_8, m_9, m_10, m_11, m_12, m_13, m_14, m_15, m_16, m_17, m_18, m_19, .int 0, m_21, m_22, m_23, m_24, m_25, m_26, m_27, m_28, m_29, m_30, m_31, m_32, m_33, .int lw, .ref e0, m_36, .ref q0, .int bro, .long val, .long sm, .ref b0, m_42, m_43, m_44, m_45, m_46, m_47, m_48, m_49, m_50, m_51, m_52, m_53, m_54, m_55, .long sta_, .ref d0, .int dfi, .int ndr])), (r0, .inl (K 0, 7, .inl (u_5923.2.1 0)))] H := hP
    have hD : va_D A [(w0, .inl (K 0, 5500, .inl fw)), (e0, .inl (K 2, 13, .inr (.inl fe))), (q0, .inl (K 2, 400, .inr (.inl frs))), (u0, .inl (K 0, 558, .inl fu)), (b0, .inl (K 0, 8, .inl fb)), (d0, .inl (K 0, 16, .inl fd)), (m0, .inr (12, [.int 0, .int (u_5923.2.2.2.1 0), .ref r0, .ref w0, m_4, m_5, .ref u0, m_7, m_8, m_9, m_10, m_11, m_12, m_13, m_14, m_15, m_16, m_17, m_18, m_19, .int 0, m_21, m_22, m_23, m_24, m_25, m_26, m_27, m_28, m_29, m_30, m_31, m_32, m_33, .int lw, .ref e0, m_36, .ref q0, .int bro, .long val, .long sm, .ref b0, m_42, m_43, m_44, m_45, m_46, m_47, m_48, m_49, m_50, m_51, m_52, m_53, m_54, m_55, .long sta_, .ref d0, .int dfi, .int ndr])), (r0, .inl (K 0, 7, .inl (u_5923.2.1 0)))] := hD
    obtain ⟨h_5925, k_5924, -⟩ := hw
    subst hQ
    have hP9 := hP.sub (ws' := [(m0, .inr (12, [.int 0, .int (u_5923.2.2.2.1 0), .ref r0, .ref w0, m_4, m_5, .ref u0, m_7, m_8, m_9, m_10, m_11, m_12, m_13, m_14, m_15, m_16, m_17, m_18, m_19, .int 0, m_21, m_22, m_23, m_24, m_25, m_26, m_27, m_28, m_29, m_30, m_31, m_32, m_33, .int lw, .ref e0, m_36, .ref q0, .int bro, .long val, .long sm, .ref b0, m_42, m_43, m_44, m_45, m_46, m_47, m_48, m_49, m_50, m_51, m_52, m_53, m_54, m_55, .long sta_, .ref d0, .int dfi, .int ndr])), (w0, .inl (K 0, 5500, .inl fw)), (e0, .inl (K 2, 13, .inr (.inl fe))), (q0, .inl (K 2, 400, .inr (.inl frs))), (u0, .inl (K 0, 558, .inl fu)), (b0, .inl (K 0, 8, .inl fb)), (d0, .inl (K 0, 16, .inl fd)), (r0, .inl (K 0, 7, .inl (u_5923.2.1 0)))]) [6, 0, 1, 2, 3, 4, 5, 7] rfl
    have hD9 := hD.sub (ws' := [(m0, .inr (12, [.int 0, .int (u_5923.2.2.2.1 0), .ref r0, .ref w0, m_4, m_5, .ref u0, m_7, m_8, m_9, m_10, m_11, m_12, m_13, m_14, m_15, m_16, m_17, m_18, m_19, .int 0, m_21, m_22, m_23, m_24, m_25, m_26, m_27, m_28, m_29, m_30, m_31, m_32, m_33, .int lw, .ref e0, m_36, .ref q0, .int bro, .long val, .long sm, .ref b0, m_42, m_43, m_44, m_45, m_46, m_47, m_48, m_49, m_50, m_51, m_52, m_53, m_54, m_55, .long sta_, .ref d0, .int dfi, .int ndr])), (w0, .inl (K 0, 5500, .inl fw)), (e0, .inl (K 2, 13, .inr (.inl fe))), (q0, .inl (K 2, 400, .inr (.inl frs))), (u0, .inl (K 0, 558, .inl fu)), (b0, .inl (K 0, 8, .inl fb)), (d0, .inl (K 0, 16, .inl fd)), (r0, .inl (K 0, 7, .inl (u_5923.2.1 0)))]) [6, 0, 1, 2, 3, 4, 5, 7] (by decide) rfl
    exact W.iret (v := r_5922) hx hb hr (fun t ht hW => ⟨⟨r_5922, ((fun _ => 0, fun i => match i with | 0 => fw | 1 => fu | 2 => fb | 3 => fd | _ => (u_5923.2.1 0), fun i => match i with | 0 => fe | _ => frs, fun i => match i with | 0 => (u_5923.2.2.2.1 0) | 1 => lw | 2 => bro | 3 => dfi | _ => ndr, fun i => match i with | 0 => val | 1 => sm | _ => sta_, fun _ => fun _ => none) : Su), rfl, ⟨(show (-6) ≤ r_5922.toInt by omega), (show (-6) ≤ ((u_5923.2.2.2.1 0) : Int32).toInt ∧ ((u_5923.2.2.2.1 0) : Int32).toInt ≤ 0 by omega), (show 0 ≤ (bro : Int32).toInt ∧ (bro : Int32).toInt ≤ 1 by omega), (show 0 ≤ (sta_ : Int64).toInt ∧ (sta_ : Int64).toInt ≤ 1000002 by omega), (show (-1) ≤ (ndr : Int32).toInt ∧ (ndr : Int32).toInt ≤ 8 by omega), zfw, zfu, trivial⟩, (⟨by rw [ht]; exact hP9, hD9⟩ : Wd D A _ t)⟩, hS.F ht⟩) hS.2.2 dX12_days_34
  refine pci (va_runS (As := [.long x_4749, .long 0, .long 1000000]) (rest := []) ⟨hx, hb, hml, hown, hts⟩ (v_in l D K x.toInt 0 1000000 x_4749 0 1000000 H.size hx_4749 (show (0 : Int64).toInt = 0 from rfl) (show (1000000 : Int64).toInt = 1000000 from rfl)) (va_cwS 3 hts gX12_days_X12_in rfl rfl rfl (by decide +kernel) ⟨Nat.le_of_ble_eq_true rfl, Nat.le_of_ble_eq_true rfl⟩) (mkS hK hN (va_P.nil) (va_D.nil (A := fun _ => True))) rfl rfl hl.1 rfl (lv_room (Nat.le_of_ble_eq_true rfl)) dX12_days_11 ⟨Nat.le_of_ble_eq_true rfl, Nat.le_of_ble_eq_true rfl⟩) (fun r_5926 hw => ?_)
  obtain ⟨hw, -⟩ := hw
  rcases hw with ⟨rfl, h_5927, h_5928⟩ | ⟨rfl, h_5929⟩
  · refine lv_if_eq (tgt := 29) hx hb dX12_days_14 (by decide) (fun c_5930 => absurd c_5930 (by decide)) (fun c_5930 => ?_)
    refine lv_iload_n hx hb dX12_days_17 rfl (lv_at hl 2 rfl) ?_
    refine lv_i2l hx hb dX12_days_18 rfl ?_
    refine lv_topl (fun x_5931 ex_5931 => ?_)
    have hx_5931 : x_5931.toInt = y.toInt := by rw [ex_5931]; exact i_wide rfl
    have hbx_5931 := i_rng (a := y) rfl
    refine lv_lconst (v := 1) hx hb dX12_days_19 (by decide) ?_
    refine lv_ldc2 (v := 100) hx hb hown (hts (.constantLong RX12 562 (100)) (List.mem_cons_of_mem _ (List.mem_append_left _ (List.mem_append_left _ (List.mem_of_getElem? (i := 2) rfl))))) dX12_days_20 ?_
    refine pci (va_runS (As := [.long x_5931, .long 1, .long 100]) (rest := []) ⟨hx, hb, hml, hown, hts⟩ (v_in l D K y.toInt 1 100 x_5931 1 100 H.size hx_5931 (show (1 : Int64).toInt = 1 from rfl) (show (100 : Int64).toInt = 100 from rfl)) (va_cwS 3 hts gX12_days_X12_in rfl rfl rfl (by decide +kernel) ⟨Nat.le_of_ble_eq_true rfl, Nat.le_of_ble_eq_true rfl⟩) (mkS hK hN (va_P.nil) (va_D.nil (A := fun _ => True))) rfl rfl hl.1 rfl (lv_room (Nat.le_of_ble_eq_true rfl)) dX12_days_23 ⟨Nat.le_of_ble_eq_true rfl, Nat.le_of_ble_eq_true rfl⟩) (fun r_5932 hw => ?_)
    obtain ⟨hw, -⟩ := hw
    rcases hw with ⟨rfl, h_5933, h_5934⟩ | ⟨rfl, h_5935⟩
    · refine lv_if_ne (tgt := 35) hx hb dX12_days_26 (by decide) (fun c_5936 => ?_) (fun c_5936 => absurd c_5936 (by decide))
      refine lv_aload_n hx hb dX12_days_35 rfl (lv_at hl 0 rfl) ?_
      refine lv_bipush (v := 16) hx hb dX12_days_36 (by decide) ?_
      refine kcv (S := Su) (wr := [(e0, .inl (K 2, 13, .inr (.inl fe))), (q0, .inl (K 2, 400, .inr (.inl frs))), (b0, .inl (K 0, 8, .inl fb)), (d0, .inl (K 0, 16, .inl fd)), (r0, .inl (K 0, 7, .inl frf))]) (va_runV (As := [.int 16]) (rest := []) ⟨hx, hb, hml, hown, hts⟩ (v_keepAll l D K m0 16 (.int 0) (.int sta) (.ref r0) w0 m_4 m_5 u0 m_7 m_8 m_9 m_10 m_11 m_12 m_13 m_14 m_15 m_16 m_17 m_18 m_19 (.int 0) m_21 m_22 m_23 m_24 m_25 m_26 m_27 m_28 m_29 m_30 m_31 m_32 m_33 (.int lw) (.ref e0) m_36 (.ref q0) (.int bro) (.long val) (.long sm) (.ref b0) m_42 m_43 m_44 m_45 m_46 m_47 m_48 m_49 m_50 m_51 m_52 m_53 m_54 m_55 (.long sta_) (.ref d0) (.int dfi) (.int ndr) fw fu H.size (by first | omega | decide) zfw zfu) (cwV 1 hts gX12_days_X12_keepAll rfl rfl rfl (by decide +kernel) ⟨Nat.le_of_ble_eq_true rfl, Nat.le_of_ble_eq_true rfl⟩) (mkV hK hN (hP.sub [0, 1, 4] rfl) (hD.sub [0, 1, 4] (by decide) rfl) (ci := 12) (q0 := 0) rfl rfl) rfl rfl hl.1 rfl (lv_room (Nat.le_of_ble_eq_true rfl)) dX12_days_38 ⟨Nat.le_of_ble_eq_true rfl, Nat.le_of_ble_eq_true rfl⟩) hP hD hS hA [0, 1, 4] [2, 3, 5, 6, 7] rfl rfl (by decide) (by decide) (fun u_5938 H locs hw hP hD hS => ?_)
      have hP : va_P D vwCl [(e0, .inl (K 2, 13, .inr (.inl fe))), (q0, .inl (K 2, 400, .inr (.inl frs))), (b0, .inl (K 0, 8, .inl fb)), (d0, .inl (K 0, 16, .inl fd)), (r0, .inl (K 0, 7, .inl frf)), (m0, .inr (12, [.int 0, .int sta, .ref r0, .ref w0, m_4, m_5, .ref u0, m_7, m_8, m_9, m_10, m_11, m_12, m_13, m_14, m_15, m_16, m_17, m_18, m_19, .int 0, m_21, m_22, m_23, m_24, m_25, m_26, m_27, m_28, m_29, m_30, m_31, m_32, m_33, .int lw, .ref e0, m_36, .ref q0, .int bro, .long val, .long sm, .ref b0, m_42, m_43, m_44, m_45, m_46, m_47, m_48, m_49, m_50, m_51, m_52, m_53, m_54, m_55, .long sta_, .ref d0, .int dfi, .int ndr])), (w0, .inl (K 0, 5500, .inl fw)), (u0, .inl (K 0, 558, .inl (u_5938.2.1 0)))] H := hP
      have hD : va_D A [(e0, .inl (K 2, 13, .inr (.inl fe))), (q0, .inl (K 2, 400, .inr (.inl frs))), (b0, .inl (K 0, 8, .inl fb)), (d0, .inl (K 0, 16, .inl fd)), (r0, .inl (K 0, 7, .inl frf)), (m0, .inr (12, [.int 0, .int sta, .ref r0, .ref w0, m_4, m_5, .ref u0, m_7, m_8, m_9, m_10, m_11, m_12, m_13, m_14, m_15, m_16, m_17, m_18, m_19, .int 0, m_21, m_22, m_23, m_24, m_25, m_26, m_27, m_28, m_29, m_30, m_31, m_32, m_33, .int lw, .ref e0, m_36, .ref q0, .int bro, .long val, .long sm, .ref b0, m_42, m_43, m_44, m_45, m_46, m_47, m_48, m_49, m_50, m_51, m_52, m_53, m_54, m_55, .long sta_, .ref d0, .int dfi, .int ndr])), (w0, .inl (K 0, 5500, .inl fw)), (u0, .inl (K 0, 558, .inl (u_5938.2.1 0)))] := hD
      obtain ⟨k_5939, -⟩ := hw
      refine lv_aload_n hx hb dX12_days_41 rfl (lv_at hl 0 rfl) ?_
      refine lv_iload_n hx hb dX12_days_42 rfl (lv_at hl 1 rfl) ?_
      refine lv_i2l hx hb dX12_days_43 rfl ?_
      refine lv_topl (fun x_5940 ex_5940 => ?_)
      have hx_5940 : x_5940.toInt = x.toInt := by rw [ex_5940]; exact i_wide rfl
      refine va_put (ci := 12) (v := .long x_5940) (ty := .long) (C := RX12) (T := TX12) (N := 60) hx hb hts hw12 tyX12 tyX12_ok nmX12 hown hK hP hD hS 5 rfl rfl 56 (by decide) (hts (.fieldLink RX12 553 "SmokeTuneModel" "state" "J") (List.mem_cons_of_mem _ (List.mem_append_left _ (List.mem_append_left _ (List.mem_of_getElem? (i := 3) rfl))))) (fun _ h9 => h9) rfl (by decide +kernel) (by first | rfl | decide) (by first | rfl | decide) (Nat.le_of_ble_eq_true rfl) dX12_days_44 (fun H locs hP hD hS => ?_)
      have hP : va_P D vwCl [(e0, .inl (K 2, 13, .inr (.inl fe))), (q0, .inl (K 2, 400, .inr (.inl frs))), (b0, .inl (K 0, 8, .inl fb)), (d0, .inl (K 0, 16, .inl fd)), (r0, .inl (K 0, 7, .inl frf)), (m0, .inr (12, [.int 0, .int sta, .ref r0, .ref w0, m_4, m_5, .ref u0, m_7, m_8, m_9, m_10, m_11, m_12, m_13, m_14, m_15, m_16, m_17, m_18, m_19, .int 0, m_21, m_22, m_23, m_24, m_25, m_26, m_27, m_28, m_29, m_30, m_31, m_32, m_33, .int lw, .ref e0, m_36, .ref q0, .int bro, .long val, .long sm, .ref b0, m_42, m_43, m_44, m_45, m_46, m_47, m_48, m_49, m_50, m_51, m_52, m_53, m_54, m_55, .long x_5940, .ref d0, .int dfi, .int ndr])), (w0, .inl (K 0, 5500, .inl fw)), (u0, .inl (K 0, 558, .inl (u_5938.2.1 0)))] H := hP
      have hD : va_D A [(e0, .inl (K 2, 13, .inr (.inl fe))), (q0, .inl (K 2, 400, .inr (.inl frs))), (b0, .inl (K 0, 8, .inl fb)), (d0, .inl (K 0, 16, .inl fd)), (r0, .inl (K 0, 7, .inl frf)), (m0, .inr (12, [.int 0, .int sta, .ref r0, .ref w0, m_4, m_5, .ref u0, m_7, m_8, m_9, m_10, m_11, m_12, m_13, m_14, m_15, m_16, m_17, m_18, m_19, .int 0, m_21, m_22, m_23, m_24, m_25, m_26, m_27, m_28, m_29, m_30, m_31, m_32, m_33, .int lw, .ref e0, m_36, .ref q0, .int bro, .long val, .long sm, .ref b0, m_42, m_43, m_44, m_45, m_46, m_47, m_48, m_49, m_50, m_51, m_52, m_53, m_54, m_55, .long x_5940, .ref d0, .int dfi, .int ndr])), (w0, .inl (K 0, 5500, .inl fw)), (u0, .inl (K 0, 558, .inl (u_5938.2.1 0)))] := hD
      refine lv_aload_n hx hb dX12_days_47 rfl (lv_at hl 0 rfl) ?_
      refine va_get (ci := 12) (v := .ref w0) (C := RX12) (T := TX12) (N := 60) hx hb hts hw12 hown hK hP 5 rfl rfl 3 (by decide) (hts (.fieldLink RX12 13 "SmokeTuneModel" "row" "[I") (List.mem_cons_of_mem _ (List.mem_append_left _ (List.mem_append_left _ (List.mem_of_getElem? (i := 4) rfl))))) (fun _ h9 => h9) rfl dX12_days_48 ?_
      refine lv_bipush (v := 10) hx hb dX12_days_51 (by decide) ?_
      refine va_iald hx hb hK hP 6 0 rfl rfl (i_in (x := 10) rfl (by omega)) dX12_days_53 ?_
      refine lv_topi (fun x_5941 ex_5941 => ?_)
      have px_5941 := RwOK.at zfw (show (10 : Int32).toInt = 10 from rfl) (show 0 ≤ 10 ∧ 10 < 100 by omega)
      rw [← ex_5941] at px_5941
      refine lv_istore_n (lv' := [(3, .int x_5941), (0, .ref m0), (1, .int x), (2, .int y)]) hx hb dX12_days_54 rfl hl (by decide) rfl (fun ls hl => ?_)
      refine lv_iconst (v := 0) hx hb dX12_days_55 (by decide) ?_
      refine lv_istore (lv' := [(4, .int 0), (3, .int x_5941), (0, .ref m0), (1, .int x), (2, .int y)]) hx hb dX12_days_56 hl (by decide) rfl (fun ls hl => ?_)
      refine lv_iconst (v := 0) hx hb dX12_days_58 (by decide) ?_
      refine lv_istore (lv' := [(5, .int 0), (4, .int 0), (3, .int x_5941), (0, .ref m0), (1, .int x), (2, .int y)]) hx hb dX12_days_59 hl (by decide) rfl (fun ls hl => ?_)
      have lp_6762 : ∀ (nn_ : Nat) (v_6482 : Int32) (v_6483 : Int32) (v_6484 : Int32) (v_6485 : Int32) (v_6486 : Int64) (v_6487 : Int64) (v_6488 : Int64) (f_6489 : Nat → Int64) (f_6490 : Nat → Int64) (f_6491 : Nat → Int32) (f_6492 : Nat → Int32) (hv_6482 : 0 ≤ v_6482.toInt ∧ v_6482.toInt ≤ 100) (hv_6483 : 0 ≤ v_6483.toInt ∧ v_6483.toInt ≤ 100) (hv_6485 : 0 ≤ v_6485.toInt ∧ v_6485.toInt ≤ 1) (hv_6488 : 0 ≤ v_6488.toInt ∧ v_6488.toInt ≤ 1000002) (hf_6492_0 : RwOK f_6492) (hr0_lp_6762 : 0 ≤ v_6483.toInt ∧ v_6483.toInt ≤ v_6482.toInt) (hn : (101 - v_6482.toInt : Int).toNat < nn_) (H : Heap) (locs : List Loc) (hP : va_P D vwCl [(e0, .inl (K 2, 13, .inr (.inl f_6489))), (q0, .inl (K 2, 400, .inr (.inl f_6490))), (b0, .inl (K 0, 8, .inl f_6491)), (d0, .inl (K 0, 16, .inl fd)), (r0, .inl (K 0, 7, .inl frf)), (m0, .inr (12, [.int 0, .int sta, .ref r0, .ref w0, m_4, m_5, .ref u0, m_7, m_8, m_9, m_10, m_11, m_12, m_13, m_14, m_15, m_16, m_17, m_18, m_19, .int 0, m_21, m_22, m_23, m_24, m_25, m_26, m_27, m_28, m_29, m_30, m_31, m_32, m_33, .int v_6484, .ref e0, m_36, .ref q0, .int v_6485, .long v_6486, .long v_6487, .ref b0, m_42, m_43, m_44, m_45, m_46, m_47, m_48, m_49, m_50, m_51, m_52, m_53, m_54, m_55, .long v_6488, .ref d0, .int dfi, .int ndr])), (w0, .inl (K 0, 5500, .inl f_6492)), (u0, .inl (K 0, 558, .inl (u_5938.2.1 0)))] H) (hD : va_D A [(e0, .inl (K 2, 13, .inr (.inl f_6489))), (q0, .inl (K 2, 400, .inr (.inl f_6490))), (b0, .inl (K 0, 8, .inl f_6491)), (d0, .inl (K 0, 16, .inl fd)), (r0, .inl (K 0, 7, .inl frf)), (m0, .inr (12, [.int 0, .int sta, .ref r0, .ref w0, m_4, m_5, .ref u0, m_7, m_8, m_9, m_10, m_11, m_12, m_13, m_14, m_15, m_16, m_17, m_18, m_19, .int 0, m_21, m_22, m_23, m_24, m_25, m_26, m_27, m_28, m_29, m_30, m_31, m_32, m_33, .int v_6484, .ref e0, m_36, .ref q0, .int v_6485, .long v_6486, .long v_6487, .ref b0, m_42, m_43, m_44, m_45, m_46, m_47, m_48, m_49, m_50, m_51, m_52, m_53, m_54, m_55, .long v_6488, .ref d0, .int dfi, .int ndr])), (w0, .inl (K 0, 5500, .inl f_6492)), (u0, .inl (K 0, 558, .inl (u_5938.2.1 0)))]) (hS : va_S A s.heap H locs) (ls : Array Slot) (hl : lv_has ls 7 [(5, .int v_6482), (4, .int v_6483), (3, .int x_5941), (0, .ref m0), (2, .int y)]), W p l e ({ frames := 7, cells := 0, slots := 0, locals := 167 }) s m (([.ref m0, .int x, .int y] : List Value).toArray) below meth c H locs 0 0 Q (F0 m 61 ls []) := by
        intro nn_
        induction nn_ with
        | zero =>
          intro v_6482 v_6483 v_6484 v_6485 v_6486 v_6487 v_6488 f_6489 f_6490 f_6491 f_6492 hv_6482 hv_6483 hv_6485 hv_6488 hf_6492_0 hr0_lp_6762 hn H locs hP hD hS ls hl
          exact absurd hn (Nat.not_lt_zero _)
        | succ nn_ ih_6763 =>
          intro v_6482 v_6483 v_6484 v_6485 v_6486 v_6487 v_6488 f_6489 f_6490 f_6491 f_6492 hv_6482 hv_6483 hv_6485 hv_6488 hf_6492_0 hr0_lp_6762 hn H locs hP hD hS ls hl
          refine lv_iload hx hb dX12_days_61 (lv_at hl 0 rfl) ?_
          refine lv_iload_n hx hb dX12_days_63 rfl (lv_at hl 4 rfl) ?_
          have j_6926 : ∀ (H : Heap) (locs : List Loc) (hP : va_P D vwCl [(e0, .inl (K 2, 13, .inr (.inl f_6489))), (q0, .inl (K 2, 400, .inr (.inl f_6490))), (b0, .inl (K 0, 8, .inl f_6491)), (d0, .inl (K 0, 16, .inl fd)), (r0, .inl (K 0, 7, .inl frf)), (m0, .inr (12, [.int 0, .int sta, .ref r0, .ref w0, m_4, m_5, .ref u0, m_7, m_8, m_9, m_10, m_11, m_12, m_13, m_14, m_15, m_16, m_17, m_18, m_19, .int 0, m_21, m_22, m_23, m_24, m_25, m_26, m_27, m_28, m_29, m_30, m_31, m_32, m_33, .int v_6484, .ref e0, m_36, .ref q0, .int v_6485, .long v_6486, .long v_6487, .ref b0, m_42, m_43, m_44, m_45, m_46, m_47, m_48, m_49, m_50, m_51, m_52, m_53, m_54, m_55, .long v_6488, .ref d0, .int dfi, .int ndr])), (w0, .inl (K 0, 5500, .inl f_6492)), (u0, .inl (K 0, 558, .inl (u_5938.2.1 0)))] H) (hD : va_D A [(e0, .inl (K 2, 13, .inr (.inl f_6489))), (q0, .inl (K 2, 400, .inr (.inl f_6490))), (b0, .inl (K 0, 8, .inl f_6491)), (d0, .inl (K 0, 16, .inl fd)), (r0, .inl (K 0, 7, .inl frf)), (m0, .inr (12, [.int 0, .int sta, .ref r0, .ref w0, m_4, m_5, .ref u0, m_7, m_8, m_9, m_10, m_11, m_12, m_13, m_14, m_15, m_16, m_17, m_18, m_19, .int 0, m_21, m_22, m_23, m_24, m_25, m_26, m_27, m_28, m_29, m_30, m_31, m_32, m_33, .int v_6484, .ref e0, m_36, .ref q0, .int v_6485, .long v_6486, .long v_6487, .ref b0, m_42, m_43, m_44, m_45, m_46, m_47, m_48, m_49, m_50, m_51, m_52, m_53, m_54, m_55, .long v_6488, .ref d0, .int dfi, .int ndr])), (w0, .inl (K 0, 5500, .inl f_6492)), (u0, .inl (K 0, 558, .inl (u_5938.2.1 0)))]) (hS : va_S A s.heap H locs) (ls : Array Slot) (hl : lv_has ls 7 [(4, .int v_6483), (3, .int x_5941), (0, .ref m0)]), W p l e ({ frames := 7, cells := 0, slots := 0, locals := 167 }) s m (([.ref m0, .int x, .int y] : List Value).toArray) below meth c H locs 0 0 Q (F0 m 133 ls []) := by
            intro H locs hP hD hS ls hl
            refine lv_aload_n hx hb dX12_days_133 rfl (lv_at hl 2 rfl) ?_
            refine lv_aload_n hx hb dX12_days_134 rfl (lv_at hl 2 rfl) ?_
            refine va_get (ci := 12) (v := .ref w0) (C := RX12) (T := TX12) (N := 60) hx hb hts hw12 hown hK hP 5 rfl rfl 3 (by decide) (hts (.fieldLink RX12 13 "SmokeTuneModel" "row" "[I") (List.mem_cons_of_mem _ (List.mem_append_left _ (List.mem_append_left _ (List.mem_of_getElem? (i := 4) rfl))))) (fun _ h9 => h9) rfl dX12_days_135 ?_
            refine lv_iconst (v := 0) hx hb dX12_days_138 (by decide) ?_
            refine va_iald hx hb hK hP 6 0 rfl rfl (i_in (x := 0) rfl (by omega)) dX12_days_139 ?_
            refine lv_topi (fun x_6927 ex_6927 => ?_)
            have px_6927 := RwOK.at hf_6492_0 (show (0 : Int32).toInt = 0 from rfl) (show 0 ≤ 0 ∧ 0 < 100 by omega)
            rw [← ex_6927] at px_6927
            have hx_6927 := PR.r_0 px_6927 (by omega)
            have kx_6927 : f_6492 0 = x_6927 := ex_6927.symm
            refine va_put (ci := 12) (v := .int x_6927) (ty := .int) (C := RX12) (T := TX12) (N := 60) hx hb hts hw12 tyX12 tyX12_ok nmX12 hown hK hP hD hS 5 rfl rfl 59 (by decide) (hts (.fieldLink RX12 155 "SmokeTuneModel" "nDrawn" "I") (List.mem_cons_of_mem _ (List.mem_append_left _ (List.mem_append_left _ (List.mem_of_getElem? (i := 5) rfl))))) (fun _ h9 => h9) rfl (by decide +kernel) (by first | rfl | decide) (by first | rfl | decide) (Nat.le_of_ble_eq_true rfl) dX12_days_140 (fun H locs hP hD hS => ?_)
            have hP : va_P D vwCl [(e0, .inl (K 2, 13, .inr (.inl f_6489))), (q0, .inl (K 2, 400, .inr (.inl f_6490))), (b0, .inl (K 0, 8, .inl f_6491)), (d0, .inl (K 0, 16, .inl fd)), (r0, .inl (K 0, 7, .inl frf)), (m0, .inr (12, [.int 0, .int sta, .ref r0, .ref w0, m_4, m_5, .ref u0, m_7, m_8, m_9, m_10, m_11, m_12, m_13, m_14, m_15, m_16, m_17, m_18, m_19, .int 0, m_21, m_22, m_23, m_24, m_25, m_26, m_27, m_28, m_29, m_30, m_31, m_32, m_33, .int v_6484, .ref e0, m_36, .ref q0, .int v_6485, .long v_6486, .long v_6487, .ref b0, m_42, m_43, m_44, m_45, m_46, m_47, m_48, m_49, m_50, m_51, m_52, m_53, m_54, m_55, .long v_6488, .ref d0, .int dfi, .int x_6927])), (w0, .inl (K 0, 5500, .inl f_6492)), (u0, .inl (K 0, 558, .inl (u_5938.2.1 0)))] H := hP
            have hD : va_D A [(e0, .inl (K 2, 13, .inr (.inl f_6489))), (q0, .inl (K 2, 400, .inr (.inl f_6490))), (b0, .inl (K 0, 8, .inl f_6491)), (d0, .inl (K 0, 16, .inl fd)), (r0, .inl (K 0, 7, .inl frf)), (m0, .inr (12, [.int 0, .int sta, .ref r0, .ref w0, m_4, m_5, .ref u0, m_7, m_8, m_9, m_10, m_11, m_12, m_13, m_14, m_15, m_16, m_17, m_18, m_19, .int 0, m_21, m_22, m_23, m_24, m_25, m_26, m_27, m_28, m_29, m_30, m_31, m_32, m_33, .int v_6484, .ref e0, m_36, .ref q0, .int v_6485, .long v_6486, .long v_6487, .ref b0, m_42, m_43, m_44, m_45, m_46, m_47, m_48, m_49, m_50, m_51, m_52, m_53, m_54, m_55, .long v_6488, .ref d0, .int dfi, .int x_6927])), (w0, .inl (K 0, 5500, .inl f_6492)), (u0, .inl (K 0, 558, .inl (u_5938.2.1 0)))] := hD
            refine lv_iconst (v := 0) hx hb dX12_days_143 (by decide) ?_
            refine lv_istore (lv' := [(5, .int 0), (4, .int v_6483), (3, .int x_5941), (0, .ref m0)]) hx hb dX12_days_144 hl (by decide) rfl (fun ls hl => ?_)
            have lp_7003 : ∀ (nn_ : Nat) (v_6977 : Int32) (f_6978 : Nat → Int32) (hv_6977 : 0 ≤ v_6977.toInt ∧ v_6977.toInt ≤ 8) (hn : (9 - v_6977.toInt : Int).toNat < nn_) (H : Heap) (locs : List Loc) (hP : va_P D vwCl [(e0, .inl (K 2, 13, .inr (.inl f_6489))), (q0, .inl (K 2, 400, .inr (.inl f_6490))), (b0, .inl (K 0, 8, .inl f_6491)), (d0, .inl (K 0, 16, .inl f_6978)), (r0, .inl (K 0, 7, .inl frf)), (m0, .inr (12, [.int 0, .int sta, .ref r0, .ref w0, m_4, m_5, .ref u0, m_7, m_8, m_9, m_10, m_11, m_12, m_13, m_14, m_15, m_16, m_17, m_18, m_19, .int 0, m_21, m_22, m_23, m_24, m_25, m_26, m_27, m_28, m_29, m_30, m_31, m_32, m_33, .int v_6484, .ref e0, m_36, .ref q0, .int v_6485, .long v_6486, .long v_6487, .ref b0, m_42, m_43, m_44, m_45, m_46, m_47, m_48, m_49, m_50, m_51, m_52, m_53, m_54, m_55, .long v_6488, .ref d0, .int dfi, .int x_6927])), (w0, .inl (K 0, 5500, .inl f_6492)), (u0, .inl (K 0, 558, .inl (u_5938.2.1 0)))] H) (hD : va_D A [(e0, .inl (K 2, 13, .inr (.inl f_6489))), (q0, .inl (K 2, 400, .inr (.inl f_6490))), (b0, .inl (K 0, 8, .inl f_6491)), (d0, .inl (K 0, 16, .inl f_6978)), (r0, .inl (K 0, 7, .inl frf)), (m0, .inr (12, [.int 0, .int sta, .ref r0, .ref w0, m_4, m_5, .ref u0, m_7, m_8, m_9, m_10, m_11, m_12, m_13, m_14, m_15, m_16, m_17, m_18, m_19, .int 0, m_21, m_22, m_23, m_24, m_25, m_26, m_27, m_28, m_29, m_30, m_31, m_32, m_33, .int v_6484, .ref e0, m_36, .ref q0, .int v_6485, .long v_6486, .long v_6487, .ref b0, m_42, m_43, m_44, m_45, m_46, m_47, m_48, m_49, m_50, m_51, m_52, m_53, m_54, m_55, .long v_6488, .ref d0, .int dfi, .int x_6927])), (w0, .inl (K 0, 5500, .inl f_6492)), (u0, .inl (K 0, 558, .inl (u_5938.2.1 0)))]) (hS : va_S A s.heap H locs) (ls : Array Slot) (hl : lv_has ls 7 [(5, .int v_6977), (4, .int v_6483), (3, .int x_5941), (0, .ref m0)]), W p l e ({ frames := 7, cells := 0, slots := 0, locals := 167 }) s m (([.ref m0, .int x, .int y] : List Value).toArray) below meth c H locs 0 0 Q (F0 m 146 ls []) := by
              intro nn_
              induction nn_ with
              | zero =>
                intro v_6977 f_6978 hv_6977 hn H locs hP hD hS ls hl
                exact absurd hn (Nat.not_lt_zero _)
              | succ nn_ ih_7004 =>
                intro v_6977 f_6978 hv_6977 hn H locs hP hD hS ls hl
                refine lv_iload hx hb dX12_days_146 (lv_at hl 0 rfl) ?_
                refine lv_aload_n hx hb dX12_days_148 rfl (lv_at hl 3 rfl) ?_
                refine va_get (ci := 12) (v := .int x_6927) (C := RX12) (T := TX12) (N := 60) hx hb hts hw12 hown hK hP 5 rfl rfl 59 (by decide) (hts (.fieldLink RX12 155 "SmokeTuneModel" "nDrawn" "I") (List.mem_cons_of_mem _ (List.mem_append_left _ (List.mem_append_left _ (List.mem_of_getElem? (i := 5) rfl))))) (fun _ h9 => h9) rfl dX12_days_149 ?_
                refine lv_icmp_ge (tgt := 201) hx hb dX12_days_152 (by decide) (fun c_7005 => ?_) (fun c_7005 => ?_)
                · have c_7005i := i_le (x := x_6927.toInt) (y := v_6977.toInt) rfl rfl c_7005
                  refine lv_aload_n hx hb dX12_days_201 rfl (lv_at hl 3 rfl) ?_
                  refine lv_aload_n hx hb dX12_days_202 rfl (lv_at hl 3 rfl) ?_
                  refine va_get (ci := 12) (v := .ref w0) (C := RX12) (T := TX12) (N := 60) hx hb hts hw12 hown hK hP 5 rfl rfl 3 (by decide) (hts (.fieldLink RX12 13 "SmokeTuneModel" "row" "[I") (List.mem_cons_of_mem _ (List.mem_append_left _ (List.mem_append_left _ (List.mem_of_getElem? (i := 4) rfl))))) (fun _ h9 => h9) rfl dX12_days_203 ?_
                  refine lv_bipush (v := 10) hx hb dX12_days_206 (by decide) ?_
                  refine va_iald hx hb hK hP 6 0 rfl rfl (i_in (x := 10) rfl (by omega)) dX12_days_208 ?_
                  refine lv_topi (fun x_7006 ex_7006 => ?_)
                  have px_7006 := RwOK.at hf_6492_0 (show (10 : Int32).toInt = 10 from rfl) (show 0 ≤ 10 ∧ 10 < 100 by omega)
                  rw [← ex_7006] at px_7006
                  refine lv_iload_n hx hb dX12_days_209 rfl (lv_at hl 2 rfl) ?_
                  refine lv_isub hx hb dX12_days_210 ?_
                  refine lv_topi (fun x_7007 ex_7007 => ?_)
                  refine va_put (ci := 12) (v := .int x_7007) (ty := .int) (C := RX12) (T := TX12) (N := 60) hx hb hts hw12 tyX12 tyX12_ok nmX12 hown hK hP hD hS 5 rfl rfl 58 (by decide) (hts (.fieldLink RX12 567 "SmokeTuneModel" "drawnFines" "I") (List.mem_cons_of_mem _ (List.mem_append_left _ (List.mem_append_left _ (List.mem_of_getElem? (i := 7) rfl))))) (fun _ h9 => h9) rfl (by decide +kernel) (by first | rfl | decide) (by first | rfl | decide) (Nat.le_of_ble_eq_true rfl) dX12_days_211 (fun H locs hP hD hS => ?_)
                  have hP : va_P D vwCl [(e0, .inl (K 2, 13, .inr (.inl f_6489))), (q0, .inl (K 2, 400, .inr (.inl f_6490))), (b0, .inl (K 0, 8, .inl f_6491)), (d0, .inl (K 0, 16, .inl f_6978)), (r0, .inl (K 0, 7, .inl frf)), (m0, .inr (12, [.int 0, .int sta, .ref r0, .ref w0, m_4, m_5, .ref u0, m_7, m_8, m_9, m_10, m_11, m_12, m_13, m_14, m_15, m_16, m_17, m_18, m_19, .int 0, m_21, m_22, m_23, m_24, m_25, m_26, m_27, m_28, m_29, m_30, m_31, m_32, m_33, .int v_6484, .ref e0, m_36, .ref q0, .int v_6485, .long v_6486, .long v_6487, .ref b0, m_42, m_43, m_44, m_45, m_46, m_47, m_48, m_49, m_50, m_51, m_52, m_53, m_54, m_55, .long v_6488, .ref d0, .int x_7007, .int x_6927])), (w0, .inl (K 0, 5500, .inl f_6492)), (u0, .inl (K 0, 558, .inl (u_5938.2.1 0)))] H := hP
                  have hD : va_D A [(e0, .inl (K 2, 13, .inr (.inl f_6489))), (q0, .inl (K 2, 400, .inr (.inl f_6490))), (b0, .inl (K 0, 8, .inl f_6491)), (d0, .inl (K 0, 16, .inl f_6978)), (r0, .inl (K 0, 7, .inl frf)), (m0, .inr (12, [.int 0, .int sta, .ref r0, .ref w0, m_4, m_5, .ref u0, m_7, m_8, m_9, m_10, m_11, m_12, m_13, m_14, m_15, m_16, m_17, m_18, m_19, .int 0, m_21, m_22, m_23, m_24, m_25, m_26, m_27, m_28, m_29, m_30, m_31, m_32, m_33, .int v_6484, .ref e0, m_36, .ref q0, .int v_6485, .long v_6486, .long v_6487, .ref b0, m_42, m_43, m_44, m_45, m_46, m_47, m_48, m_49, m_50, m_51, m_52, m_53, m_54, m_55, .long v_6488, .ref d0, .int x_7007, .int x_6927])), (w0, .inl (K 0, 5500, .inl f_6492)), (u0, .inl (K 0, 558, .inl (u_5938.2.1 0)))] := hD
                  refine lv_aload_n hx hb dX12_days_214 rfl (lv_at hl 3 rfl) ?_
                  refine lv_bipush (v := 16) hx hb dX12_days_215 (by decide) ?_
                  refine kcv (S := Su) (wr := [(e0, .inl (K 2, 13, .inr (.inl f_6489))), (q0, .inl (K 2, 400, .inr (.inl f_6490))), (b0, .inl (K 0, 8, .inl f_6491)), (d0, .inl (K 0, 16, .inl f_6978)), (r0, .inl (K 0, 7, .inl frf))]) (va_runV (As := [.int 16]) (rest := []) ⟨hx, hb, hml, hown, hts⟩ (v_putBack l D K m0 16 (.int 0) (.int sta) (.ref r0) w0 m_4 m_5 u0 m_7 m_8 m_9 m_10 m_11 m_12 m_13 m_14 m_15 m_16 m_17 m_18 m_19 (.int 0) m_21 m_22 m_23 m_24 m_25 m_26 m_27 m_28 m_29 m_30 m_31 m_32 m_33 (.int v_6484) (.ref e0) m_36 (.ref q0) (.int v_6485) (.long v_6486) (.long v_6487) (.ref b0) m_42 m_43 m_44 m_45 m_46 m_47 m_48 m_49 m_50 m_51 m_52 m_53 m_54 m_55 (.long v_6488) (.ref d0) (.int x_7007) (.int x_6927) f_6492 (u_5938.2.1 0) H.size (by first | omega | decide) hf_6492_0 k_5939) (cwV 1 hts gX12_days_X12_putBack rfl rfl rfl (by decide +kernel) ⟨Nat.le_of_ble_eq_true rfl, Nat.le_of_ble_eq_true rfl⟩) (mkV hK hN (hP.sub [5, 6, 7] rfl) (hD.sub [5, 6, 7] (by decide) rfl) (ci := 12) (q0 := 0) rfl rfl) rfl rfl hl.1 rfl (lv_room (Nat.le_of_ble_eq_true rfl)) dX12_days_217 ⟨Nat.le_of_ble_eq_true rfl, Nat.le_of_ble_eq_true rfl⟩) hP hD hS hA [5, 6, 7] [0, 1, 2, 3, 4] rfl rfl (by decide) (by decide) (fun u_7009 H locs hw hP hD hS => ?_)
                  have hP : va_P D vwCl [(e0, .inl (K 2, 13, .inr (.inl f_6489))), (q0, .inl (K 2, 400, .inr (.inl f_6490))), (b0, .inl (K 0, 8, .inl f_6491)), (d0, .inl (K 0, 16, .inl f_6978)), (r0, .inl (K 0, 7, .inl frf)), (m0, .inr (12, [.int 0, .int sta, .ref r0, .ref w0, m_4, m_5, .ref u0, m_7, m_8, m_9, m_10, m_11, m_12, m_13, m_14, m_15, m_16, m_17, m_18, m_19, .int 0, m_21, m_22, m_23, m_24, m_25, m_26, m_27, m_28, m_29, m_30, m_31, m_32, m_33, .int v_6484, .ref e0, m_36, .ref q0, .int v_6485, .long v_6486, .long v_6487, .ref b0, m_42, m_43, m_44, m_45, m_46, m_47, m_48, m_49, m_50, m_51, m_52, m_53, m_54, m_55, .long v_6488, .ref d0, .int x_7007, .int x_6927])), (w0, .inl (K 0, 5500, .inl (u_7009.2.1 0))), (u0, .inl (K 0, 558, .inl (u_5938.2.1 0)))] H := hP
                  have hD : va_D A [(e0, .inl (K 2, 13, .inr (.inl f_6489))), (q0, .inl (K 2, 400, .inr (.inl f_6490))), (b0, .inl (K 0, 8, .inl f_6491)), (d0, .inl (K 0, 16, .inl f_6978)), (r0, .inl (K 0, 7, .inl frf)), (m0, .inr (12, [.int 0, .int sta, .ref r0, .ref w0, m_4, m_5, .ref u0, m_7, m_8, m_9, m_10, m_11, m_12, m_13, m_14, m_15, m_16, m_17, m_18, m_19, .int 0, m_21, m_22, m_23, m_24, m_25, m_26, m_27, m_28, m_29, m_30, m_31, m_32, m_33, .int v_6484, .ref e0, m_36, .ref q0, .int v_6485, .long v_6486, .long v_6487, .ref b0, m_42, m_43, m_44, m_45, m_46, m_47, m_48, m_49, m_50, m_51, m_52, m_53, m_54, m_55, .long v_6488, .ref d0, .int x_7007, .int x_6927])), (w0, .inl (K 0, 5500, .inl (u_7009.2.1 0))), (u0, .inl (K 0, 558, .inl (u_5938.2.1 0)))] := hD
                  obtain ⟨k_7010, -⟩ := hw
                  refine lv_aload_n hx hb dX12_days_220 rfl (lv_at hl 3 rfl) ?_
                  refine lv_iload hx hb dX12_days_221 (lv_at hl 1 rfl) ?_
                  refine kci (S := Su) (wr := [(e0, .inl (K 2, 13, .inr (.inl f_6489))), (q0, .inl (K 2, 400, .inr (.inl f_6490))), (b0, .inl (K 0, 8, .inl f_6491)), (d0, .inl (K 0, 16, .inl f_6978)), (w0, .inl (K 0, 5500, .inl (u_7009.2.1 0))), (u0, .inl (K 0, 558, .inl (u_5938.2.1 0)))]) (va_runV (As := [.int v_6483]) (rest := []) ⟨hx, hb, hml, hown, hts⟩ (v_tell l D K m0 v_6483 (.int 0) sta r0 (.ref w0) m_4 m_5 (.ref u0) m_7 m_8 m_9 m_10 m_11 m_12 m_13 m_14 m_15 m_16 m_17 m_18 m_19 (.int 0) m_21 m_22 m_23 m_24 m_25 m_26 m_27 m_28 m_29 m_30 m_31 m_32 m_33 (.int v_6484) (.ref e0) m_36 (.ref q0) (.int v_6485) (.long v_6486) (.long v_6487) (.ref b0) m_42 m_43 m_44 m_45 m_46 m_47 m_48 m_49 m_50 m_51 m_52 m_53 m_54 m_55 (.long v_6488) (.ref d0) (.int x_7007) (.int x_6927) frf H.size (by first | omega | decide)) (cwV 1 hts gX12_days_X12_tell rfl rfl rfl (by decide +kernel) ⟨Nat.le_of_ble_eq_true rfl, Nat.le_of_ble_eq_true rfl⟩) (mkV hK hN (hP.sub [5, 4] rfl) (hD.sub [5, 4] (by decide) rfl) (ci := 12) (q0 := 0) rfl rfl) rfl rfl hl.1 rfl (lv_room (Nat.le_of_ble_eq_true rfl)) dX12_days_223 ⟨Nat.le_of_ble_eq_true rfl, Nat.le_of_ble_eq_true rfl⟩) hP hD hS hA [5, 4] [0, 1, 2, 3, 6, 7] rfl rfl (by decide) (by decide) (fun r_7011 u_7012 H locs hw hP hD hS => ?_)
                  have hP : va_P D vwCl [(e0, .inl (K 2, 13, .inr (.inl f_6489))), (q0, .inl (K 2, 400, .inr (.inl f_6490))), (b0, .inl (K 0, 8, .inl f_6491)), (d0, .inl (K 0, 16, .inl f_6978)), (w0, .inl (K 0, 5500, .inl (u_7009.2.1 0))), (u0, .inl (K 0, 558, .inl (u_5938.2.1 0))), (m0, .inr (12, [.int 0, .int (u_7012.2.2.2.1 0), .ref r0, .ref w0, m_4, m_5, .ref u0, m_7, m_8, m_9, m_10, m_11, m_12, m_13, m_14, m_15, m_16, m_17, m_18, m_19, .int 0, m_21, m_22, m_23, m_24, m_25, m_26, m_27, m_28, m_29, m_30, m_31, m_32, m_33, .int v_6484, .ref e0, m_36, .ref q0, .int v_6485, .long v_6486, .long v_6487, .ref b0, m_42, m_43, m_44, m_45, m_46, m_47, m_48, m_49, m_50, m_51, m_52, m_53, m_54, m_55, .long v_6488, .ref d0, .int x_7007, .int x_6927])), (r0, .inl (K 0, 7, .inl (u_7012.2.1 0)))] H := hP
                  have hD : va_D A [(e0, .inl (K 2, 13, .inr (.inl f_6489))), (q0, .inl (K 2, 400, .inr (.inl f_6490))), (b0, .inl (K 0, 8, .inl f_6491)), (d0, .inl (K 0, 16, .inl f_6978)), (w0, .inl (K 0, 5500, .inl (u_7009.2.1 0))), (u0, .inl (K 0, 558, .inl (u_5938.2.1 0))), (m0, .inr (12, [.int 0, .int (u_7012.2.2.2.1 0), .ref r0, .ref w0, m_4, m_5, .ref u0, m_7, m_8, m_9, m_10, m_11, m_12, m_13, m_14, m_15, m_16, m_17, m_18, m_19, .int 0, m_21, m_22, m_23, m_24, m_25, m_26, m_27, m_28, m_29, m_30, m_31, m_32, m_33, .int v_6484, .ref e0, m_36, .ref q0, .int v_6485, .long v_6486, .long v_6487, .ref b0, m_42, m_43, m_44, m_45, m_46, m_47, m_48, m_49, m_50, m_51, m_52, m_53, m_54, m_55, .long v_6488, .ref d0, .int x_7007, .int x_6927])), (r0, .inl (K 0, 7, .inl (u_7012.2.1 0)))] := hD
                  obtain ⟨h_7014, k_7013, -⟩ := hw
                  subst hQ
                  have hP9 := hP.sub (ws' := [(m0, .inr (12, [.int 0, .int (u_7012.2.2.2.1 0), .ref r0, .ref w0, m_4, m_5, .ref u0, m_7, m_8, m_9, m_10, m_11, m_12, m_13, m_14, m_15, m_16, m_17, m_18, m_19, .int 0, m_21, m_22, m_23, m_24, m_25, m_26, m_27, m_28, m_29, m_30, m_31, m_32, m_33, .int v_6484, .ref e0, m_36, .ref q0, .int v_6485, .long v_6486, .long v_6487, .ref b0, m_42, m_43, m_44, m_45, m_46, m_47, m_48, m_49, m_50, m_51, m_52, m_53, m_54, m_55, .long v_6488, .ref d0, .int x_7007, .int x_6927])), (w0, .inl (K 0, 5500, .inl (u_7009.2.1 0))), (e0, .inl (K 2, 13, .inr (.inl f_6489))), (q0, .inl (K 2, 400, .inr (.inl f_6490))), (u0, .inl (K 0, 558, .inl (u_5938.2.1 0))), (b0, .inl (K 0, 8, .inl f_6491)), (d0, .inl (K 0, 16, .inl f_6978)), (r0, .inl (K 0, 7, .inl (u_7012.2.1 0)))]) [6, 4, 0, 1, 5, 2, 3, 7] rfl
                  have hD9 := hD.sub (ws' := [(m0, .inr (12, [.int 0, .int (u_7012.2.2.2.1 0), .ref r0, .ref w0, m_4, m_5, .ref u0, m_7, m_8, m_9, m_10, m_11, m_12, m_13, m_14, m_15, m_16, m_17, m_18, m_19, .int 0, m_21, m_22, m_23, m_24, m_25, m_26, m_27, m_28, m_29, m_30, m_31, m_32, m_33, .int v_6484, .ref e0, m_36, .ref q0, .int v_6485, .long v_6486, .long v_6487, .ref b0, m_42, m_43, m_44, m_45, m_46, m_47, m_48, m_49, m_50, m_51, m_52, m_53, m_54, m_55, .long v_6488, .ref d0, .int x_7007, .int x_6927])), (w0, .inl (K 0, 5500, .inl (u_7009.2.1 0))), (e0, .inl (K 2, 13, .inr (.inl f_6489))), (q0, .inl (K 2, 400, .inr (.inl f_6490))), (u0, .inl (K 0, 558, .inl (u_5938.2.1 0))), (b0, .inl (K 0, 8, .inl f_6491)), (d0, .inl (K 0, 16, .inl f_6978)), (r0, .inl (K 0, 7, .inl (u_7012.2.1 0)))]) [6, 4, 0, 1, 5, 2, 3, 7] (by decide) rfl
                  exact W.iret (v := r_7011) hx hb hr (fun t ht hW => ⟨⟨r_7011, ((fun _ => 0, fun i => match i with | 0 => (u_7009.2.1 0) | 1 => (u_5938.2.1 0) | 2 => f_6491 | 3 => f_6978 | _ => (u_7012.2.1 0), fun i => match i with | 0 => f_6489 | _ => f_6490, fun i => match i with | 0 => (u_7012.2.2.2.1 0) | 1 => v_6484 | 2 => v_6485 | 3 => x_7007 | _ => x_6927, fun i => match i with | 0 => v_6486 | 1 => v_6487 | _ => v_6488, fun _ => fun _ => none) : Su), rfl, ⟨(show (-6) ≤ r_7011.toInt by omega), (show (-6) ≤ ((u_7012.2.2.2.1 0) : Int32).toInt ∧ ((u_7012.2.2.2.1 0) : Int32).toInt ≤ 0 by omega), (show 0 ≤ (v_6485 : Int32).toInt ∧ (v_6485 : Int32).toInt ≤ 1 by omega), (show 0 ≤ (v_6488 : Int64).toInt ∧ (v_6488 : Int64).toInt ≤ 1000002 by omega), (show (-1) ≤ (x_6927 : Int32).toInt ∧ (x_6927 : Int32).toInt ≤ 8 by omega), k_7010, k_5939, trivial⟩, (⟨by rw [ht]; exact hP9, hD9⟩ : Wd D A _ t)⟩, hS.F ht⟩) hS.2.2 dX12_days_226
                · have c_7005i := i_nle (x := x_6927.toInt) (y := v_6977.toInt) rfl rfl c_7005
                  refine lv_aload_n hx hb dX12_days_155 rfl (lv_at hl 3 rfl) ?_
                  refine va_get (ci := 12) (v := .ref d0) (C := RX12) (T := TX12) (N := 60) hx hb hts hw12 hown hK hP 5 rfl rfl 57 (by decide) (hts (.fieldLink RX12 152 "SmokeTuneModel" "drawn" "[I") (List.mem_cons_of_mem _ (List.mem_append_left _ (List.mem_append_left _ (List.mem_of_getElem? (i := 6) rfl))))) (fun _ h9 => h9) rfl dX12_days_156 ?_
                  refine lv_iconst (v := 2) hx hb dX12_days_159 (by decide) ?_
                  refine lv_iload hx hb dX12_days_160 (lv_at hl 0 rfl) ?_
                  refine lv_imul hx hb dX12_days_162 ?_
                  refine lv_topi (fun x_7015 ex_7015 => ?_)
                  have hx_7015 : x_7015.toInt = (2 * v_6977.toInt) := by rw [ex_7015]; exact i_mul (show (2 : Int32).toInt = 2 from rfl) rfl (by omega)
                  refine lv_aload_n hx hb dX12_days_163 rfl (lv_at hl 3 rfl) ?_
                  refine va_get (ci := 12) (v := .ref w0) (C := RX12) (T := TX12) (N := 60) hx hb hts hw12 hown hK hP 5 rfl rfl 3 (by decide) (hts (.fieldLink RX12 13 "SmokeTuneModel" "row" "[I") (List.mem_cons_of_mem _ (List.mem_append_left _ (List.mem_append_left _ (List.mem_of_getElem? (i := 4) rfl))))) (fun _ h9 => h9) rfl dX12_days_164 ?_
                  refine lv_bipush (v := 11) hx hb dX12_days_167 (by decide) ?_
                  refine lv_iload hx hb dX12_days_169 (lv_at hl 0 rfl) ?_
                  refine lv_iadd hx hb dX12_days_171 ?_
                  refine lv_topi (fun x_7016 ex_7016 => ?_)
                  have hx_7016 : x_7016.toInt = (11 + v_6977.toInt) := by rw [ex_7016]; exact i_add (show (11 : Int32).toInt = 11 from rfl) rfl (by omega)
                  refine va_iald hx hb hK hP 6 0 rfl rfl (i_in hx_7016 (by omega)) dX12_days_172 ?_
                  refine lv_topi (fun x_7017 ex_7017 => ?_)
                  have px_7017 := RwOK.at hf_6492_0 hx_7016 (show 0 ≤ (11 + v_6977.toInt) ∧ (11 + v_6977.toInt) < 100 by omega)
                  rw [← ex_7017] at px_7017
                  have hx_7017 := PR.r_11 px_7017 (by omega)
                  refine va_iast hx hb hK hP hD hS 3 0 rfl rfl (i_in hx_7015 (by omega)) dX12_days_173 (fun H locs hP hD hS => ?_)
                  generalize hf_7018 : (upd f_6978 (x_7015 : Int32).toNatClampNeg x_7017) = f_7018 at hP hD
                  have hP : va_P D vwCl [(e0, .inl (K 2, 13, .inr (.inl f_6489))), (q0, .inl (K 2, 400, .inr (.inl f_6490))), (b0, .inl (K 0, 8, .inl f_6491)), (d0, .inl (K 0, 16, .inl f_7018)), (r0, .inl (K 0, 7, .inl frf)), (m0, .inr (12, [.int 0, .int sta, .ref r0, .ref w0, m_4, m_5, .ref u0, m_7, m_8, m_9, m_10, m_11, m_12, m_13, m_14, m_15, m_16, m_17, m_18, m_19, .int 0, m_21, m_22, m_23, m_24, m_25, m_26, m_27, m_28, m_29, m_30, m_31, m_32, m_33, .int v_6484, .ref e0, m_36, .ref q0, .int v_6485, .long v_6486, .long v_6487, .ref b0, m_42, m_43, m_44, m_45, m_46, m_47, m_48, m_49, m_50, m_51, m_52, m_53, m_54, m_55, .long v_6488, .ref d0, .int dfi, .int x_6927])), (w0, .inl (K 0, 5500, .inl f_6492)), (u0, .inl (K 0, 558, .inl (u_5938.2.1 0)))] H := hP
                  have hD : va_D A [(e0, .inl (K 2, 13, .inr (.inl f_6489))), (q0, .inl (K 2, 400, .inr (.inl f_6490))), (b0, .inl (K 0, 8, .inl f_6491)), (d0, .inl (K 0, 16, .inl f_7018)), (r0, .inl (K 0, 7, .inl frf)), (m0, .inr (12, [.int 0, .int sta, .ref r0, .ref w0, m_4, m_5, .ref u0, m_7, m_8, m_9, m_10, m_11, m_12, m_13, m_14, m_15, m_16, m_17, m_18, m_19, .int 0, m_21, m_22, m_23, m_24, m_25, m_26, m_27, m_28, m_29, m_30, m_31, m_32, m_33, .int v_6484, .ref e0, m_36, .ref q0, .int v_6485, .long v_6486, .long v_6487, .ref b0, m_42, m_43, m_44, m_45, m_46, m_47, m_48, m_49, m_50, m_51, m_52, m_53, m_54, m_55, .long v_6488, .ref d0, .int dfi, .int x_6927])), (w0, .inl (K 0, 5500, .inl f_6492)), (u0, .inl (K 0, 558, .inl (u_5938.2.1 0)))] := hD
                  refine lv_aload_n hx hb dX12_days_174 rfl (lv_at hl 3 rfl) ?_
                  refine va_get (ci := 12) (v := .ref d0) (C := RX12) (T := TX12) (N := 60) hx hb hts hw12 hown hK hP 5 rfl rfl 57 (by decide) (hts (.fieldLink RX12 152 "SmokeTuneModel" "drawn" "[I") (List.mem_cons_of_mem _ (List.mem_append_left _ (List.mem_append_left _ (List.mem_of_getElem? (i := 6) rfl))))) (fun _ h9 => h9) rfl dX12_days_175 ?_
                  refine lv_iconst (v := 2) hx hb dX12_days_178 (by decide) ?_
                  refine lv_iload hx hb dX12_days_179 (lv_at hl 0 rfl) ?_
                  refine lv_imul hx hb dX12_days_181 ?_
                  refine lv_topi (fun x_7019 ex_7019 => ?_)
                  have hx_7019 : x_7019.toInt = (2 * v_6977.toInt) := by rw [ex_7019]; exact i_mul (show (2 : Int32).toInt = 2 from rfl) rfl (by omega)
                  refine lv_iconst (v := 1) hx hb dX12_days_182 (by decide) ?_
                  refine lv_iadd hx hb dX12_days_183 ?_
                  refine lv_topi (fun x_7020 ex_7020 => ?_)
                  have hx_7020 : x_7020.toInt = ((2 * v_6977.toInt) + 1) := by rw [ex_7020]; exact i_add hx_7019 (show (1 : Int32).toInt = 1 from rfl) (by omega)
                  refine lv_aload_n hx hb dX12_days_184 rfl (lv_at hl 3 rfl) ?_
                  refine va_get (ci := 12) (v := .ref w0) (C := RX12) (T := TX12) (N := 60) hx hb hts hw12 hown hK hP 5 rfl rfl 3 (by decide) (hts (.fieldLink RX12 13 "SmokeTuneModel" "row" "[I") (List.mem_cons_of_mem _ (List.mem_append_left _ (List.mem_append_left _ (List.mem_of_getElem? (i := 4) rfl))))) (fun _ h9 => h9) rfl dX12_days_185 ?_
                  refine lv_bipush (v := 19) hx hb dX12_days_188 (by decide) ?_
                  refine lv_iload hx hb dX12_days_190 (lv_at hl 0 rfl) ?_
                  refine lv_iadd hx hb dX12_days_192 ?_
                  refine lv_topi (fun x_7021 ex_7021 => ?_)
                  have hx_7021 : x_7021.toInt = (19 + v_6977.toInt) := by rw [ex_7021]; exact i_add (show (19 : Int32).toInt = 19 from rfl) rfl (by omega)
                  refine va_iald hx hb hK hP 6 0 rfl rfl (i_in hx_7021 (by omega)) dX12_days_193 ?_
                  refine lv_topi (fun x_7022 ex_7022 => ?_)
                  have px_7022 := RwOK.at hf_6492_0 hx_7021 (show 0 ≤ (19 + v_6977.toInt) ∧ (19 + v_6977.toInt) < 100 by omega)
                  rw [← ex_7022] at px_7022
                  refine va_iast hx hb hK hP hD hS 3 0 rfl rfl (i_in hx_7020 (by omega)) dX12_days_194 (fun H locs hP hD hS => ?_)
                  generalize hf_7023 : (upd f_7018 (x_7020 : Int32).toNatClampNeg x_7022) = f_7023 at hP hD
                  have hP : va_P D vwCl [(e0, .inl (K 2, 13, .inr (.inl f_6489))), (q0, .inl (K 2, 400, .inr (.inl f_6490))), (b0, .inl (K 0, 8, .inl f_6491)), (d0, .inl (K 0, 16, .inl f_7023)), (r0, .inl (K 0, 7, .inl frf)), (m0, .inr (12, [.int 0, .int sta, .ref r0, .ref w0, m_4, m_5, .ref u0, m_7, m_8, m_9, m_10, m_11, m_12, m_13, m_14, m_15, m_16, m_17, m_18, m_19, .int 0, m_21, m_22, m_23, m_24, m_25, m_26, m_27, m_28, m_29, m_30, m_31, m_32, m_33, .int v_6484, .ref e0, m_36, .ref q0, .int v_6485, .long v_6486, .long v_6487, .ref b0, m_42, m_43, m_44, m_45, m_46, m_47, m_48, m_49, m_50, m_51, m_52, m_53, m_54, m_55, .long v_6488, .ref d0, .int dfi, .int x_6927])), (w0, .inl (K 0, 5500, .inl f_6492)), (u0, .inl (K 0, 558, .inl (u_5938.2.1 0)))] H := hP
                  have hD : va_D A [(e0, .inl (K 2, 13, .inr (.inl f_6489))), (q0, .inl (K 2, 400, .inr (.inl f_6490))), (b0, .inl (K 0, 8, .inl f_6491)), (d0, .inl (K 0, 16, .inl f_7023)), (r0, .inl (K 0, 7, .inl frf)), (m0, .inr (12, [.int 0, .int sta, .ref r0, .ref w0, m_4, m_5, .ref u0, m_7, m_8, m_9, m_10, m_11, m_12, m_13, m_14, m_15, m_16, m_17, m_18, m_19, .int 0, m_21, m_22, m_23, m_24, m_25, m_26, m_27, m_28, m_29, m_30, m_31, m_32, m_33, .int v_6484, .ref e0, m_36, .ref q0, .int v_6485, .long v_6486, .long v_6487, .ref b0, m_42, m_43, m_44, m_45, m_46, m_47, m_48, m_49, m_50, m_51, m_52, m_53, m_54, m_55, .long v_6488, .ref d0, .int dfi, .int x_6927])), (w0, .inl (K 0, 5500, .inl f_6492)), (u0, .inl (K 0, 558, .inl (u_5938.2.1 0)))] := hD
                  obtain ⟨x_7024, ex_7024⟩ : ∃ y : Int32, y = v_6977 + Int32.ofInt 1 := ⟨_, rfl⟩
                  have hx_7024 : x_7024.toInt = (v_6977.toInt + 1) := by rw [ex_7024]; exact i_add rfl (show (Int32.ofInt 1).toInt = 1 from rfl) (by omega)
                  refine lv_iinc (v := x_7024) (lv' := [(5, .int x_7024), (4, .int v_6483), (3, .int x_5941), (0, .ref m0)]) hx hb dX12_days_195 hl (k := 0) rfl (by rw [ex_7024]) (by decide) rfl (fun ls hl => ?_)
                  refine lv_goto (tgt := 146) hx hb dX12_days_198 (by decide) ?_
                  exact ih_7004 x_7024 f_7023 (by rw [hx_7024]; omega) (by omega) _ _ hP hD hS ls (lv_sub hl [0, 1, 2, 3] rfl)
            exact lp_7003 ((9 - (0 : Int32).toInt : Int).toNat + 1) 0 fd (by decide) (Nat.lt_succ_self _) _ _ hP hD hS ls (lv_sub hl [0, 1, 2, 3] rfl)
          refine lv_icmp_ge (tgt := 133) hx hb dX12_days_64 (by decide) (fun c_7025 => ?_) (fun c_7025 => ?_)
          · have c_7025i := i_le (x := y.toInt) (y := v_6482.toInt) rfl rfl c_7025
            exact j_6926   _ _ hP hD hS ls (lv_sub hl [1, 2, 3] rfl)
          · have c_7025i := i_nle (x := y.toInt) (y := v_6482.toInt) rfl rfl c_7025
            refine lv_aload_n hx hb dX12_days_67 rfl (lv_at hl 3 rfl) ?_
            refine pci (va_runV (As := []) (rest := []) ⟨hx, hb, hml, hown, hts⟩ (v_canPass l D K m0 (.int 0) (.int sta) (.ref r0) w0 m_4 m_5 (.ref u0) m_7 m_8 m_9 m_10 m_11 m_12 m_13 m_14 m_15 m_16 m_17 m_18 m_19 (.int 0) m_21 m_22 m_23 m_24 m_25 m_26 m_27 m_28 m_29 m_30 m_31 m_32 m_33 (.int v_6484) (.ref e0) m_36 (.ref q0) (.int v_6485) (.long v_6486) (.long v_6487) (.ref b0) m_42 m_43 m_44 m_45 m_46 m_47 m_48 m_49 m_50 m_51 m_52 m_53 m_54 m_55 (.long v_6488) (.ref d0) (.int dfi) (.int ndr) f_6492 H.size hf_6492_0) (cwV 0 hts gX12_days_X12_canPass rfl rfl rfl (by decide +kernel) ⟨Nat.le_of_ble_eq_true rfl, Nat.le_of_ble_eq_true rfl⟩) (mkV hK hN (hP.sub [5, 6] rfl) (hD.sub [5, 6] (by decide) rfl) (ci := 12) (q0 := 0) rfl rfl) rfl rfl hl.1 rfl (lv_room (Nat.le_of_ble_eq_true rfl)) dX12_days_68 ⟨Nat.le_of_ble_eq_true rfl, Nat.le_of_ble_eq_true rfl⟩) (fun r_7026 hw => ?_)
            obtain ⟨h_7027, -⟩ := hw
            refine lv_if_eq (tgt := 133) hx hb dX12_days_71 (by decide) (fun c_7028 => ?_) (fun c_7028 => ?_)
            · have c_7028i := i_eq (x := r_7026.toInt) (y := 0) rfl rfl c_7028
              exact j_6926   _ _ hP hD hS ls (lv_sub hl [1, 2, 3] rfl)
            · have c_7028i := i_ne (x := r_7026.toInt) (y := 0) rfl rfl c_7028
              refine lv_aload_n hx hb dX12_days_74 rfl (lv_at hl 3 rfl) ?_
              refine va_get (ci := 12) (v := .ref w0) (C := RX12) (T := TX12) (N := 60) hx hb hts hw12 hown hK hP 5 rfl rfl 3 (by decide) (hts (.fieldLink RX12 13 "SmokeTuneModel" "row" "[I") (List.mem_cons_of_mem _ (List.mem_append_left _ (List.mem_append_left _ (List.mem_of_getElem? (i := 4) rfl))))) (fun _ h9 => h9) rfl dX12_days_75 ?_
              refine lv_iconst (v := 0) hx hb dX12_days_78 (by decide) ?_
              refine va_iald hx hb hK hP 6 0 rfl rfl (i_in (x := 0) rfl (by omega)) dX12_days_79 ?_
              refine lv_topi (fun x_7029 ex_7029 => ?_)
              have px_7029 := RwOK.at hf_6492_0 (show (0 : Int32).toInt = 0 from rfl) (show 0 ≤ 0 ∧ 0 < 100 by omega)
              rw [← ex_7029] at px_7029
              have hx_7029 := PR.r_0 px_7029 (by omega)
              have kx_7029 : f_6492 0 = x_7029 := ex_7029.symm
              have j_7063 : ∀ (v_7045 : Int32) (v_7046 : Int32) (v_7047 : Int64) (v_7048 : Int64) (v_7049 : Int64) (f_7050 : Nat → Int64) (f_7051 : Nat → Int64) (f_7052 : Nat → Int32) (hv_7046 : 0 ≤ v_7046.toInt ∧ v_7046.toInt ≤ 1) (hv_7049 : 0 ≤ v_7049.toInt ∧ v_7049.toInt ≤ 1000002) (hf_7052_0 : RwOK f_7052) (H : Heap) (locs : List Loc) (hP : va_P D vwCl [(e0, .inl (K 2, 13, .inr (.inl f_7050))), (q0, .inl (K 2, 400, .inr (.inl f_7051))), (b0, .inl (K 0, 8, .inl f_6491)), (d0, .inl (K 0, 16, .inl fd)), (r0, .inl (K 0, 7, .inl frf)), (m0, .inr (12, [.int 0, .int sta, .ref r0, .ref w0, m_4, m_5, .ref u0, m_7, m_8, m_9, m_10, m_11, m_12, m_13, m_14, m_15, m_16, m_17, m_18, m_19, .int 0, m_21, m_22, m_23, m_24, m_25, m_26, m_27, m_28, m_29, m_30, m_31, m_32, m_33, .int v_7045, .ref e0, m_36, .ref q0, .int v_7046, .long v_7047, .long v_7048, .ref b0, m_42, m_43, m_44, m_45, m_46, m_47, m_48, m_49, m_50, m_51, m_52, m_53, m_54, m_55, .long v_7049, .ref d0, .int dfi, .int ndr])), (w0, .inl (K 0, 5500, .inl f_7052)), (u0, .inl (K 0, 558, .inl (u_5938.2.1 0)))] H) (hD : va_D A [(e0, .inl (K 2, 13, .inr (.inl f_7050))), (q0, .inl (K 2, 400, .inr (.inl f_7051))), (b0, .inl (K 0, 8, .inl f_6491)), (d0, .inl (K 0, 16, .inl fd)), (r0, .inl (K 0, 7, .inl frf)), (m0, .inr (12, [.int 0, .int sta, .ref r0, .ref w0, m_4, m_5, .ref u0, m_7, m_8, m_9, m_10, m_11, m_12, m_13, m_14, m_15, m_16, m_17, m_18, m_19, .int 0, m_21, m_22, m_23, m_24, m_25, m_26, m_27, m_28, m_29, m_30, m_31, m_32, m_33, .int v_7045, .ref e0, m_36, .ref q0, .int v_7046, .long v_7047, .long v_7048, .ref b0, m_42, m_43, m_44, m_45, m_46, m_47, m_48, m_49, m_50, m_51, m_52, m_53, m_54, m_55, .long v_7049, .ref d0, .int dfi, .int ndr])), (w0, .inl (K 0, 5500, .inl f_7052)), (u0, .inl (K 0, 558, .inl (u_5938.2.1 0)))]) (hS : va_S A s.heap H locs) (ls : Array Slot) (hl : lv_has ls 7 [(5, .int v_6482), (4, .int v_6483), (3, .int x_5941), (0, .ref m0), (2, .int y)]), W p l e ({ frames := 7, cells := 0, slots := 0, locals := 167 }) s m (([.ref m0, .int x, .int y] : List Value).toArray) below meth c H locs 0 0 Q (F0 m 110 ls []) := by
                intro v_7045 v_7046 v_7047 v_7048 v_7049 f_7050 f_7051 f_7052 hv_7046 hv_7049 hf_7052_0 H locs hP hD hS ls hl
                refine lv_iload hx hb dX12_days_110 (lv_at hl 1 rfl) ?_
                refine lv_aload_n hx hb dX12_days_112 rfl (lv_at hl 3 rfl) ?_
                refine kci (S := Su) (wr := [(d0, .inl (K 0, 16, .inl fd)), (r0, .inl (K 0, 7, .inl frf)), (u0, .inl (K 0, 558, .inl (u_5938.2.1 0)))]) (va_runV (As := []) (rest := [.int v_6483]) ⟨hx, hb, hml, hown, hts⟩ (v_passIt l D K m0 (.int 0) (.int sta) (.ref r0) w0 m_4 m_5 (.ref u0) m_7 m_8 m_9 m_10 m_11 m_12 m_13 m_14 m_15 m_16 m_17 m_18 m_19 m_21 m_22 m_23 m_24 m_25 m_26 m_27 m_28 m_29 m_30 m_31 m_32 m_33 v_7045 e0 m_36 q0 v_7046 v_7047 v_7048 b0 m_42 m_43 m_44 m_45 m_46 m_47 m_48 m_49 m_50 m_51 m_52 m_53 m_54 m_55 (.long v_7049) (.ref d0) (.int dfi) (.int ndr) f_7052 f_7050 f_7051 f_6491 H.size (by first | omega | decide) hf_7052_0) (cwV 0 hts gX12_days_X12_passIt rfl rfl rfl (by decide +kernel) ⟨Nat.le_of_ble_eq_true rfl, Nat.le_of_ble_eq_true rfl⟩) (mkV hK hN (hP.sub [5, 6, 0, 1, 2] rfl) (hD.sub [5, 6, 0, 1, 2] (by decide) rfl) (ci := 12) (q0 := 0) rfl rfl) rfl rfl hl.1 rfl (lv_room (Nat.le_of_ble_eq_true rfl)) dX12_days_113 ⟨Nat.le_of_ble_eq_true rfl, Nat.le_of_ble_eq_true rfl⟩) hP hD hS hA [5, 6, 0, 1, 2] [3, 4, 7] rfl rfl (by decide) (by decide) (fun r_7064 u_7065 H locs hw hP hD hS => ?_)
                have hP : va_P D vwCl [(d0, .inl (K 0, 16, .inl fd)), (r0, .inl (K 0, 7, .inl frf)), (u0, .inl (K 0, 558, .inl (u_5938.2.1 0))), (m0, .inr (12, [.int 0, .int sta, .ref r0, .ref w0, m_4, m_5, .ref u0, m_7, m_8, m_9, m_10, m_11, m_12, m_13, m_14, m_15, m_16, m_17, m_18, m_19, .int 0, m_21, m_22, m_23, m_24, m_25, m_26, m_27, m_28, m_29, m_30, m_31, m_32, m_33, .int (u_7065.2.2.2.1 0), .ref e0, m_36, .ref q0, .int (u_7065.2.2.2.1 1), .long (u_7065.2.2.2.2.1 0), .long (u_7065.2.2.2.2.1 1), .ref b0, m_42, m_43, m_44, m_45, m_46, m_47, m_48, m_49, m_50, m_51, m_52, m_53, m_54, m_55, .long v_7049, .ref d0, .int dfi, .int ndr])), (w0, .inl (K 0, 5500, .inl (u_7065.2.1 0))), (e0, .inl (K 2, 13, .inr (.inl (u_7065.2.2.1 0)))), (q0, .inl (K 2, 400, .inr (.inl (u_7065.2.2.1 1)))), (b0, .inl (K 0, 8, .inl (u_7065.2.1 1)))] H := hP
                have hD : va_D A [(d0, .inl (K 0, 16, .inl fd)), (r0, .inl (K 0, 7, .inl frf)), (u0, .inl (K 0, 558, .inl (u_5938.2.1 0))), (m0, .inr (12, [.int 0, .int sta, .ref r0, .ref w0, m_4, m_5, .ref u0, m_7, m_8, m_9, m_10, m_11, m_12, m_13, m_14, m_15, m_16, m_17, m_18, m_19, .int 0, m_21, m_22, m_23, m_24, m_25, m_26, m_27, m_28, m_29, m_30, m_31, m_32, m_33, .int (u_7065.2.2.2.1 0), .ref e0, m_36, .ref q0, .int (u_7065.2.2.2.1 1), .long (u_7065.2.2.2.2.1 0), .long (u_7065.2.2.2.2.1 1), .ref b0, m_42, m_43, m_44, m_45, m_46, m_47, m_48, m_49, m_50, m_51, m_52, m_53, m_54, m_55, .long v_7049, .ref d0, .int dfi, .int ndr])), (w0, .inl (K 0, 5500, .inl (u_7065.2.1 0))), (e0, .inl (K 2, 13, .inr (.inl (u_7065.2.2.1 0)))), (q0, .inl (K 2, 400, .inr (.inl (u_7065.2.2.1 1)))), (b0, .inl (K 0, 8, .inl (u_7065.2.1 1)))] := hD
                obtain ⟨h_7068, k_7066, k_7067, -⟩ := hw
                refine lv_if_eq (tgt := 123) hx hb dX12_days_116 (by decide) (fun c_7069 => ?_) (fun c_7069 => ?_)
                · have c_7069i := i_eq (x := r_7064.toInt) (y := 0) rfl rfl c_7069
                  refine lv_iconst (v := 0) hx hb dX12_days_123 (by decide) ?_
                  refine lv_iadd hx hb dX12_days_124 ?_
                  refine lv_topi (fun x_7070 ex_7070 => ?_)
                  have hx_7070 : x_7070.toInt = (v_6483.toInt + 0) := by rw [ex_7070]; exact i_add rfl (show (0 : Int32).toInt = 0 from rfl) (by omega)
                  refine lv_istore (lv' := [(4, .int x_7070), (5, .int v_6482), (3, .int x_5941), (0, .ref m0), (2, .int y)]) hx hb dX12_days_125 hl (by decide) rfl (fun ls hl => ?_)
                  obtain ⟨x_7071, ex_7071⟩ : ∃ y : Int32, y = v_6482 + Int32.ofInt 1 := ⟨_, rfl⟩
                  have hx_7071 : x_7071.toInt = (v_6482.toInt + 1) := by rw [ex_7071]; exact i_add rfl (show (Int32.ofInt 1).toInt = 1 from rfl) (by omega)
                  refine lv_iinc (v := x_7071) (lv' := [(5, .int x_7071), (4, .int x_7070), (3, .int x_5941), (0, .ref m0), (2, .int y)]) hx hb dX12_days_127 hl (k := 1) rfl (by rw [ex_7071]) (by decide) rfl (fun ls hl => ?_)
                  refine lv_goto (tgt := 61) hx hb dX12_days_130 (by decide) ?_
                  exact ih_6763 x_7071 x_7070 (u_7065.2.2.2.1 0) (u_7065.2.2.2.1 1) (u_7065.2.2.2.2.1 0) (u_7065.2.2.2.2.1 1) v_7049 (u_7065.2.2.1 0) (u_7065.2.2.1 1) (u_7065.2.1 1) (u_7065.2.1 0) (by rw [hx_7071]; omega) (by rw [hx_7070]; omega) (by omega) (by omega) k_7067 (show 0 ≤ (x_7070 : Int32).toInt ∧ (x_7070 : Int32).toInt ≤ (x_7071 : Int32).toInt by omega) (by omega) _ _ (hP.sub [5, 6, 7, 0, 1, 3, 4, 2] rfl) (hD.sub [5, 6, 7, 0, 1, 3, 4, 2] (by decide) rfl) hS ls (lv_sub hl [0, 1, 2, 3, 4] rfl)
                · have c_7069i := i_ne (x := r_7064.toInt) (y := 0) rfl rfl c_7069
                  refine lv_iconst (v := 1) hx hb dX12_days_119 (by decide) ?_
                  refine lv_goto (tgt := 124) hx hb dX12_days_120 (by decide) ?_
                  refine lv_iadd hx hb dX12_days_124 ?_
                  refine lv_topi (fun x_7072 ex_7072 => ?_)
                  have hx_7072 : x_7072.toInt = (v_6483.toInt + 1) := by rw [ex_7072]; exact i_add rfl (show (1 : Int32).toInt = 1 from rfl) (by omega)
                  refine lv_istore (lv' := [(4, .int x_7072), (5, .int v_6482), (3, .int x_5941), (0, .ref m0), (2, .int y)]) hx hb dX12_days_125 hl (by decide) rfl (fun ls hl => ?_)
                  obtain ⟨x_7073, ex_7073⟩ : ∃ y : Int32, y = v_6482 + Int32.ofInt 1 := ⟨_, rfl⟩
                  have hx_7073 : x_7073.toInt = (v_6482.toInt + 1) := by rw [ex_7073]; exact i_add rfl (show (Int32.ofInt 1).toInt = 1 from rfl) (by omega)
                  refine lv_iinc (v := x_7073) (lv' := [(5, .int x_7073), (4, .int x_7072), (3, .int x_5941), (0, .ref m0), (2, .int y)]) hx hb dX12_days_127 hl (k := 1) rfl (by rw [ex_7073]) (by decide) rfl (fun ls hl => ?_)
                  refine lv_goto (tgt := 61) hx hb dX12_days_130 (by decide) ?_
                  exact ih_6763 x_7073 x_7072 (u_7065.2.2.2.1 0) (u_7065.2.2.2.1 1) (u_7065.2.2.2.2.1 0) (u_7065.2.2.2.2.1 1) v_7049 (u_7065.2.2.1 0) (u_7065.2.2.1 1) (u_7065.2.1 1) (u_7065.2.1 0) (by rw [hx_7073]; omega) (by rw [hx_7072]; omega) (by omega) (by omega) k_7067 (show 0 ≤ (x_7072 : Int32).toInt ∧ (x_7072 : Int32).toInt ≤ (x_7073 : Int32).toInt by omega) (by omega) _ _ (hP.sub [5, 6, 7, 0, 1, 3, 4, 2] rfl) (hD.sub [5, 6, 7, 0, 1, 3, 4, 2] (by decide) rfl) hS ls (lv_sub hl [0, 1, 2, 3, 4] rfl)
              refine lv_if_le (tgt := 110) hx hb dX12_days_80 (by decide) (fun c_7074 => ?_) (fun c_7074 => ?_)
              · have c_7074i := i_le (x := x_7029.toInt) (y := 0) rfl rfl c_7074
                exact j_7063 v_6484 v_6485 v_6486 v_6487 v_6488 f_6489 f_6490 f_6492 (by omega) (by omega) hf_6492_0 _ _ hP hD hS ls (lv_sub hl [0, 1, 2, 3, 4] rfl)
              · have c_7074i := i_nle (x := x_7029.toInt) (y := 0) rfl rfl c_7074
                refine lv_aload_n hx hb dX12_days_83 rfl (lv_at hl 3 rfl) ?_
                refine lv_aload_n hx hb dX12_days_84 rfl (lv_at hl 3 rfl) ?_
                refine va_get (ci := 12) (v := .ref w0) (C := RX12) (T := TX12) (N := 60) hx hb hts hw12 hown hK hP 5 rfl rfl 3 (by decide) (hts (.fieldLink RX12 13 "SmokeTuneModel" "row" "[I") (List.mem_cons_of_mem _ (List.mem_append_left _ (List.mem_append_left _ (List.mem_of_getElem? (i := 4) rfl))))) (fun _ h9 => h9) rfl dX12_days_85 ?_
                refine lv_iconst (v := 0) hx hb dX12_days_88 (by decide) ?_
                refine va_iald hx hb hK hP 6 0 rfl rfl (i_in (x := 0) rfl (by omega)) dX12_days_89 ?_
                refine lv_topi (fun x_7075 ex_7075 => ?_)
                have erx_7075 : x_7075 = x_7029 := ex_7075.trans kx_7029
                have hrx_7075 : x_7075.toInt = x_7029.toInt := (congrArg Int32.toInt erx_7075).trans rfl
                refine kci (S := Su) (wr := [(e0, .inl (K 2, 13, .inr (.inl f_6489))), (q0, .inl (K 2, 400, .inr (.inl f_6490))), (b0, .inl (K 0, 8, .inl f_6491)), (d0, .inl (K 0, 16, .inl fd)), (r0, .inl (K 0, 7, .inl frf)), (w0, .inl (K 0, 5500, .inl f_6492)), (u0, .inl (K 0, 558, .inl (u_5938.2.1 0)))]) (va_runV (As := [.int x_7075]) (rest := []) ⟨hx, hb, hml, hown, hts⟩ (v_draw l D K m0 x_7075 (.int 0) (.int sta) (.ref r0) (.ref w0) m_4 m_5 (.ref u0) m_7 m_8 m_9 m_10 m_11 m_12 m_13 m_14 m_15 m_16 m_17 m_18 m_19 (.int 0) m_21 m_22 m_23 m_24 m_25 m_26 m_27 m_28 m_29 m_30 m_31 m_32 m_33 (.int v_6484) (.ref e0) m_36 (.ref q0) (.int v_6485) (.long v_6486) (.long v_6487) (.ref b0) m_42 m_43 m_44 m_45 m_46 m_47 m_48 m_49 m_50 m_51 m_52 m_53 m_54 m_55 v_6488 (.ref d0) (.int dfi) (.int ndr) H.size (by first | omega | decide) (by first | omega | decide)) (cwV 1 hts gX12_days_X12_draw rfl rfl rfl (by decide +kernel) ⟨Nat.le_of_ble_eq_true rfl, Nat.le_of_ble_eq_true rfl⟩) (mkV hK hN (hP.sub [5] rfl) (hD.sub [5] (by decide) rfl) (ci := 12) (q0 := 0) rfl rfl) rfl rfl hl.1 rfl (lv_room (Nat.le_of_ble_eq_true rfl)) dX12_days_90 ⟨Nat.le_of_ble_eq_true rfl, Nat.le_of_ble_eq_true rfl⟩) hP hD hS hA [5] [0, 1, 2, 3, 4, 6, 7] rfl rfl (by decide) (by decide) (fun r_7076 u_7077 H locs hw hP hD hS => ?_)
                have hP : va_P D vwCl [(e0, .inl (K 2, 13, .inr (.inl f_6489))), (q0, .inl (K 2, 400, .inr (.inl f_6490))), (b0, .inl (K 0, 8, .inl f_6491)), (d0, .inl (K 0, 16, .inl fd)), (r0, .inl (K 0, 7, .inl frf)), (w0, .inl (K 0, 5500, .inl f_6492)), (u0, .inl (K 0, 558, .inl (u_5938.2.1 0))), (m0, .inr (12, [.int 0, .int sta, .ref r0, .ref w0, m_4, m_5, .ref u0, m_7, m_8, m_9, m_10, m_11, m_12, m_13, m_14, m_15, m_16, m_17, m_18, m_19, .int 0, m_21, m_22, m_23, m_24, m_25, m_26, m_27, m_28, m_29, m_30, m_31, m_32, m_33, .int v_6484, .ref e0, m_36, .ref q0, .int v_6485, .long v_6486, .long v_6487, .ref b0, m_42, m_43, m_44, m_45, m_46, m_47, m_48, m_49, m_50, m_51, m_52, m_53, m_54, m_55, .long (u_7077.2.2.2.2.1 0), .ref d0, .int dfi, .int ndr]))] H := hP
                have hD : va_D A [(e0, .inl (K 2, 13, .inr (.inl f_6489))), (q0, .inl (K 2, 400, .inr (.inl f_6490))), (b0, .inl (K 0, 8, .inl f_6491)), (d0, .inl (K 0, 16, .inl fd)), (r0, .inl (K 0, 7, .inl frf)), (w0, .inl (K 0, 5500, .inl f_6492)), (u0, .inl (K 0, 558, .inl (u_5938.2.1 0))), (m0, .inr (12, [.int 0, .int sta, .ref r0, .ref w0, m_4, m_5, .ref u0, m_7, m_8, m_9, m_10, m_11, m_12, m_13, m_14, m_15, m_16, m_17, m_18, m_19, .int 0, m_21, m_22, m_23, m_24, m_25, m_26, m_27, m_28, m_29, m_30, m_31, m_32, m_33, .int v_6484, .ref e0, m_36, .ref q0, .int v_6485, .long v_6486, .long v_6487, .ref b0, m_42, m_43, m_44, m_45, m_46, m_47, m_48, m_49, m_50, m_51, m_52, m_53, m_54, m_55, .long (u_7077.2.2.2.2.1 0), .ref d0, .int dfi, .int ndr]))] := hD
                obtain ⟨h_7079, k_7078, -⟩ := hw
                refine lv_istore (lv' := [(6, .int r_7076), (5, .int v_6482), (4, .int v_6483), (3, .int x_5941), (0, .ref m0), (2, .int y)]) hx hb dX12_days_93 hl (by decide) rfl (fun ls hl => ?_)
                refine lv_aload_n hx hb dX12_days_95 rfl (lv_at hl 4 rfl) ?_
                refine lv_iload hx hb dX12_days_96 (lv_at hl 0 rfl) ?_
                refine kci (S := Su) (wr := [(b0, .inl (K 0, 8, .inl f_6491)), (d0, .inl (K 0, 16, .inl fd)), (r0, .inl (K 0, 7, .inl frf)), (u0, .inl (K 0, 558, .inl (u_5938.2.1 0)))]) (va_runV (As := [.int r_7076]) (rest := []) ⟨hx, hb, hml, hown, hts⟩ (v_canStoke l D K m0 r_7076 (.int 0) (.int sta) (.ref r0) w0 m_4 m_5 (.ref u0) m_7 m_8 m_9 m_10 m_11 m_12 m_13 m_14 m_15 m_16 m_17 m_18 m_19 m_21 m_22 m_23 m_24 m_25 m_26 m_27 m_28 m_29 m_30 m_31 m_32 m_33 v_6484 e0 m_36 q0 v_6485 v_6486 v_6487 (.ref b0) m_42 m_43 m_44 m_45 m_46 m_47 m_48 m_49 m_50 m_51 m_52 m_53 m_54 m_55 (.long (u_7077.2.2.2.2.1 0)) (.ref d0) (.int dfi) (.int ndr) f_6492 f_6489 f_6490 H.size (by first | omega | decide) (by first | omega | decide) hf_6492_0) (cwV 1 hts gX12_days_X12_canStoke rfl rfl rfl (by decide +kernel) ⟨Nat.le_of_ble_eq_true rfl, Nat.le_of_ble_eq_true rfl⟩) (mkV hK hN (hP.sub [7, 5, 0, 1] rfl) (hD.sub [7, 5, 0, 1] (by decide) rfl) (ci := 12) (q0 := 0) rfl rfl) rfl rfl hl.1 rfl (lv_room (Nat.le_of_ble_eq_true rfl)) dX12_days_98 ⟨Nat.le_of_ble_eq_true rfl, Nat.le_of_ble_eq_true rfl⟩) hP hD hS hA [7, 5, 0, 1] [2, 3, 4, 6] rfl rfl (by decide) (by decide) (fun r_7080 u_7081 H locs hw hP hD hS => ?_)
                have hP : va_P D vwCl [(b0, .inl (K 0, 8, .inl f_6491)), (d0, .inl (K 0, 16, .inl fd)), (r0, .inl (K 0, 7, .inl frf)), (u0, .inl (K 0, 558, .inl (u_5938.2.1 0))), (m0, .inr (12, [.int 0, .int sta, .ref r0, .ref w0, m_4, m_5, .ref u0, m_7, m_8, m_9, m_10, m_11, m_12, m_13, m_14, m_15, m_16, m_17, m_18, m_19, .int 0, m_21, m_22, m_23, m_24, m_25, m_26, m_27, m_28, m_29, m_30, m_31, m_32, m_33, .int (u_7081.2.2.2.1 0), .ref e0, m_36, .ref q0, .int (u_7081.2.2.2.1 1), .long (u_7081.2.2.2.2.1 0), .long (u_7081.2.2.2.2.1 1), .ref b0, m_42, m_43, m_44, m_45, m_46, m_47, m_48, m_49, m_50, m_51, m_52, m_53, m_54, m_55, .long (u_7077.2.2.2.2.1 0), .ref d0, .int dfi, .int ndr])), (w0, .inl (K 0, 5500, .inl f_6492)), (e0, .inl (K 2, 13, .inr (.inl (u_7081.2.2.1 0)))), (q0, .inl (K 2, 400, .inr (.inl (u_7081.2.2.1 1))))] H := hP
                have hD : va_D A [(b0, .inl (K 0, 8, .inl f_6491)), (d0, .inl (K 0, 16, .inl fd)), (r0, .inl (K 0, 7, .inl frf)), (u0, .inl (K 0, 558, .inl (u_5938.2.1 0))), (m0, .inr (12, [.int 0, .int sta, .ref r0, .ref w0, m_4, m_5, .ref u0, m_7, m_8, m_9, m_10, m_11, m_12, m_13, m_14, m_15, m_16, m_17, m_18, m_19, .int 0, m_21, m_22, m_23, m_24, m_25, m_26, m_27, m_28, m_29, m_30, m_31, m_32, m_33, .int (u_7081.2.2.2.1 0), .ref e0, m_36, .ref q0, .int (u_7081.2.2.2.1 1), .long (u_7081.2.2.2.2.1 0), .long (u_7081.2.2.2.2.1 1), .ref b0, m_42, m_43, m_44, m_45, m_46, m_47, m_48, m_49, m_50, m_51, m_52, m_53, m_54, m_55, .long (u_7077.2.2.2.2.1 0), .ref d0, .int dfi, .int ndr])), (w0, .inl (K 0, 5500, .inl f_6492)), (e0, .inl (K 2, 13, .inr (.inl (u_7081.2.2.1 0)))), (q0, .inl (K 2, 400, .inr (.inl (u_7081.2.2.1 1))))] := hD
                obtain ⟨h_7083, k_7082, -⟩ := hw
                refine lv_if_eq (tgt := 110) hx hb dX12_days_101 (by decide) (fun c_7084 => ?_) (fun c_7084 => ?_)
                · have c_7084i := i_eq (x := r_7080.toInt) (y := 0) rfl rfl c_7084
                  exact j_7063 (u_7081.2.2.2.1 0) (u_7081.2.2.2.1 1) (u_7081.2.2.2.2.1 0) (u_7081.2.2.2.2.1 1) (u_7077.2.2.2.2.1 0) (u_7081.2.2.1 0) (u_7081.2.2.1 1) f_6492 (by omega) (by omega) hf_6492_0 _ _ (hP.sub [6, 7, 0, 1, 2, 4, 5, 3] rfl) (hD.sub [6, 7, 0, 1, 2, 4, 5, 3] (by decide) rfl) hS ls (lv_sub hl [1, 2, 3, 4, 5] rfl)
                · have c_7084i := i_ne (x := r_7080.toInt) (y := 0) rfl rfl c_7084
                  refine lv_aload_n hx hb dX12_days_104 rfl (lv_at hl 4 rfl) ?_
                  refine lv_iload hx hb dX12_days_105 (lv_at hl 0 rfl) ?_
                  refine kcv (S := Su) (wr := [(b0, .inl (K 0, 8, .inl f_6491)), (d0, .inl (K 0, 16, .inl fd)), (r0, .inl (K 0, 7, .inl frf)), (u0, .inl (K 0, 558, .inl (u_5938.2.1 0)))]) (va_runV (As := [.int r_7076]) (rest := []) ⟨hx, hb, hml, hown, hts⟩ (v_stokeIt l D K m0 r_7076 (.int 0) (.int sta) (.ref r0) w0 m_4 m_5 (.ref u0) m_7 m_8 m_9 m_10 m_11 m_12 m_13 m_14 m_15 m_16 m_17 m_18 m_19 m_21 m_22 m_23 m_24 m_25 m_26 m_27 m_28 m_29 m_30 m_31 m_32 m_33 (u_7081.2.2.2.1 0) e0 m_36 q0 (u_7081.2.2.2.1 1) (u_7081.2.2.2.2.1 0) (u_7081.2.2.2.2.1 1) (.ref b0) m_42 m_43 m_44 m_45 m_46 m_47 m_48 m_49 m_50 m_51 m_52 m_53 m_54 m_55 (.long (u_7077.2.2.2.2.1 0)) (.ref d0) (.int dfi) (.int ndr) f_6492 (u_7081.2.2.1 0) (u_7081.2.2.1 1) H.size (by first | omega | decide) (by first | omega | decide) hf_6492_0) (cwV 1 hts gX12_days_X12_stokeIt rfl rfl rfl (by decide +kernel) ⟨Nat.le_of_ble_eq_true rfl, Nat.le_of_ble_eq_true rfl⟩) (mkV hK hN (hP.sub [4, 5, 6, 7] rfl) (hD.sub [4, 5, 6, 7] (by decide) rfl) (ci := 12) (q0 := 0) rfl rfl) rfl rfl hl.1 rfl (lv_room (Nat.le_of_ble_eq_true rfl)) dX12_days_107 ⟨Nat.le_of_ble_eq_true rfl, Nat.le_of_ble_eq_true rfl⟩) hP hD hS hA [4, 5, 6, 7] [0, 1, 2, 3] rfl rfl (by decide) (by decide) (fun u_7086 H locs hw hP hD hS => ?_)
                  have hP : va_P D vwCl [(b0, .inl (K 0, 8, .inl f_6491)), (d0, .inl (K 0, 16, .inl fd)), (r0, .inl (K 0, 7, .inl frf)), (u0, .inl (K 0, 558, .inl (u_5938.2.1 0))), (m0, .inr (12, [.int 0, .int sta, .ref r0, .ref w0, m_4, m_5, .ref u0, m_7, m_8, m_9, m_10, m_11, m_12, m_13, m_14, m_15, m_16, m_17, m_18, m_19, .int 0, m_21, m_22, m_23, m_24, m_25, m_26, m_27, m_28, m_29, m_30, m_31, m_32, m_33, .int (u_7086.2.2.2.1 0), .ref e0, m_36, .ref q0, .int (u_7086.2.2.2.1 1), .long (u_7086.2.2.2.2.1 0), .long (u_7086.2.2.2.2.1 1), .ref b0, m_42, m_43, m_44, m_45, m_46, m_47, m_48, m_49, m_50, m_51, m_52, m_53, m_54, m_55, .long (u_7077.2.2.2.2.1 0), .ref d0, .int dfi, .int ndr])), (w0, .inl (K 0, 5500, .inl (u_7086.2.1 0))), (e0, .inl (K 2, 13, .inr (.inl (u_7086.2.2.1 0)))), (q0, .inl (K 2, 400, .inr (.inl (u_7086.2.2.1 1))))] H := hP
                  have hD : va_D A [(b0, .inl (K 0, 8, .inl f_6491)), (d0, .inl (K 0, 16, .inl fd)), (r0, .inl (K 0, 7, .inl frf)), (u0, .inl (K 0, 558, .inl (u_5938.2.1 0))), (m0, .inr (12, [.int 0, .int sta, .ref r0, .ref w0, m_4, m_5, .ref u0, m_7, m_8, m_9, m_10, m_11, m_12, m_13, m_14, m_15, m_16, m_17, m_18, m_19, .int 0, m_21, m_22, m_23, m_24, m_25, m_26, m_27, m_28, m_29, m_30, m_31, m_32, m_33, .int (u_7086.2.2.2.1 0), .ref e0, m_36, .ref q0, .int (u_7086.2.2.2.1 1), .long (u_7086.2.2.2.2.1 0), .long (u_7086.2.2.2.2.1 1), .ref b0, m_42, m_43, m_44, m_45, m_46, m_47, m_48, m_49, m_50, m_51, m_52, m_53, m_54, m_55, .long (u_7077.2.2.2.2.1 0), .ref d0, .int dfi, .int ndr])), (w0, .inl (K 0, 5500, .inl (u_7086.2.1 0))), (e0, .inl (K 2, 13, .inr (.inl (u_7086.2.2.1 0)))), (q0, .inl (K 2, 400, .inr (.inl (u_7086.2.2.1 1))))] := hD
                  obtain ⟨k_7087, k_7088, -⟩ := hw
                  exact j_7063 (u_7086.2.2.2.1 0) (u_7086.2.2.2.1 1) (u_7086.2.2.2.2.1 0) (u_7086.2.2.2.2.1 1) (u_7077.2.2.2.2.1 0) (u_7086.2.2.1 0) (u_7086.2.2.1 1) (u_7086.2.1 0) (by omega) (by omega) k_7088 _ _ (hP.sub [6, 7, 0, 1, 2, 4, 5, 3] rfl) (hD.sub [6, 7, 0, 1, 2, 4, 5, 3] (by decide) rfl) hS ls (lv_sub hl [1, 2, 3, 4, 5] rfl)
      have hz_7089 : (0 : Int32).toInt = 0 := rfl
      have hz_7090 : (0 : Int32).toInt = 0 := rfl
      exact lp_6762 ((101 - (0 : Int32).toInt : Int).toNat + 1) 0 0 lw bro val sm x_5940 fe frs fb fw (by decide) (by decide) (by omega) (by rw [hx_5940]; omega) zfw (show 0 ≤ (0 : Int32).toInt ∧ (0 : Int32).toInt ≤ (0 : Int32).toInt by omega) (Nat.lt_succ_self _) _ _ hP hD hS ls (lv_sub hl [0, 1, 2, 3, 5] rfl)
    · refine lv_if_ne (tgt := 35) hx hb dX12_days_26 (by decide) (fun c_7091 => absurd (by decide) c_7091) (fun c_7091 => ?_)
      exact j_5921   _ _ hP hD hS ls (lv_sub hl [0] rfl)
  · refine lv_if_eq (tgt := 29) hx hb dX12_days_14 (by decide) (fun c_7092 => ?_) (fun c_7092 => absurd (by decide) c_7092)
    exact j_5921   _ _ hP hD hS ls (lv_sub hl [0] rfl)
set_option maxHeartbeats 4000000 in
set_option maxRecDepth 100000 in
theorem v_drawn (l : Launch) (D : va_G) (K : Nat → ClassId) (m0 : Nat) (x : Int32) (y : Int32) (thr : Int32) (m_1 : Value) (m_2 : Value) (m_3 : Value) (m_4 : Value) (m_5 : Value) (m_6 : Value) (m_7 : Value) (m_8 : Value) (m_9 : Value) (m_10 : Value) (m_11 : Value) (m_12 : Value) (m_13 : Value) (m_14 : Value) (m_15 : Value) (m_16 : Value) (m_17 : Value) (m_18 : Value) (m_19 : Value) (m_20 : Value) (m_21 : Value) (m_22 : Value) (m_23 : Value) (m_24 : Value) (m_25 : Value) (m_26 : Value) (m_27 : Value) (m_28 : Value) (m_29 : Value) (m_30 : Value) (m_31 : Value) (m_32 : Value) (m_33 : Value) (m_34 : Value) (m_35 : Value) (m_36 : Value) (m_37 : Value) (m_38 : Value) (m_39 : Value) (m_40 : Value) (m_41 : Value) (m_42 : Value) (m_43 : Value) (m_44 : Value) (m_45 : Value) (m_46 : Value) (m_47 : Value) (m_48 : Value) (m_49 : Value) (m_50 : Value) (m_51 : Value) (m_52 : Value) (m_53 : Value) (m_54 : Value) (m_55 : Value) (m_56 : Value) (d0 : Nat) (dfi : Int32) (ndr : Int32) (fd : Nat → Int32) (sz : Nat) (zndr : (-1) ≤ ndr.toInt ∧ ndr.toInt ≤ 8) : Met l yX12_drawn wsX12_drawn ({ frames := 1, cells := 0, slots := 0, locals := 25 }) (va_Pc [.ref m0, .int x, .int y] (Pre D K [(m0, .inr (12, [.int thr, m_1, m_2, m_3, m_4, m_5, m_6, m_7, m_8, m_9, m_10, m_11, m_12, m_13, m_14, m_15, m_16, m_17, m_18, m_19, m_20, m_21, m_22, m_23, m_24, m_25, m_26, m_27, m_28, m_29, m_30, m_31, m_32, m_33, m_34, m_35, m_36, m_37, m_38, m_39, m_40, m_41, m_42, m_43, m_44, m_45, m_46, m_47, m_48, m_49, m_50, m_51, m_52, m_53, m_54, m_55, m_56, .ref d0, .int dfi, .int ndr])), (d0, .inl (K 0, 16, .inl fd))] sz)) (va_Qi (S := Su) (fun (r : Int32) (u : Su) => True) (fun u t => Wd D (va_A [(m0, .inr (12, [.int thr, m_1, m_2, m_3, m_4, m_5, m_6, m_7, m_8, m_9, m_10, m_11, m_12, m_13, m_14, m_15, m_16, m_17, m_18, m_19, m_20, m_21, m_22, m_23, m_24, m_25, m_26, m_27, m_28, m_29, m_30, m_31, m_32, m_33, m_34, m_35, m_36, m_37, m_38, m_39, m_40, m_41, m_42, m_43, m_44, m_45, m_46, m_47, m_48, m_49, m_50, m_51, m_52, m_53, m_54, m_55, m_56, .ref d0, .int dfi, .int ndr])), (d0, .inl (K 0, 16, .inl fd))] sz) ((fun u => [(m0, .inr (12, [.int 0, m_1, m_2, m_3, m_4, m_5, m_6, m_7, m_8, m_9, m_10, m_11, m_12, m_13, m_14, m_15, m_16, m_17, m_18, m_19, m_20, m_21, m_22, m_23, m_24, m_25, m_26, m_27, m_28, m_29, m_30, m_31, m_32, m_33, m_34, m_35, m_36, m_37, m_38, m_39, m_40, m_41, m_42, m_43, m_44, m_45, m_46, m_47, m_48, m_49, m_50, m_51, m_52, m_53, m_54, m_55, m_56, .ref d0, .int dfi, .int ndr])), (d0, .inl (K 0, 16, .inl fd))]) u) t) (va_A [(m0, .inr (12, [.int thr, m_1, m_2, m_3, m_4, m_5, m_6, m_7, m_8, m_9, m_10, m_11, m_12, m_13, m_14, m_15, m_16, m_17, m_18, m_19, m_20, m_21, m_22, m_23, m_24, m_25, m_26, m_27, m_28, m_29, m_30, m_31, m_32, m_33, m_34, m_35, m_36, m_37, m_38, m_39, m_40, m_41, m_42, m_43, m_44, m_45, m_46, m_47, m_48, m_49, m_50, m_51, m_52, m_53, m_54, m_55, m_56, .ref d0, .int dfi, .int ndr])), (d0, .inl (K 0, 16, .inl fd))] sz)) 0 0 (va_A [(m0, .inr (12, [.int thr, m_1, m_2, m_3, m_4, m_5, m_6, m_7, m_8, m_9, m_10, m_11, m_12, m_13, m_14, m_15, m_16, m_17, m_18, m_19, m_20, m_21, m_22, m_23, m_24, m_25, m_26, m_27, m_28, m_29, m_30, m_31, m_32, m_33, m_34, m_35, m_36, m_37, m_38, m_39, m_40, m_41, m_42, m_43, m_44, m_45, m_46, m_47, m_48, m_49, m_50, m_51, m_52, m_53, m_54, m_55, m_56, .ref d0, .int dfi, .int ndr])), (d0, .inl (K 0, 16, .inl fd))] sz) := by
  refine Met.ofW (cc := cX12_drawn) (maxL := 3) (ret := (some .int)) (by decide) rfl ?_
  intro p e s m args below meth c s₁ B hml hv
  obtain ⟨rfl, hsz, hP, hK, hD0, hN⟩ := hv
  have hx := B.exec
  have hb := B.bytes
  have hr := B.returns
  have hts := atoms_spec (ws := wsX12_drawn) B.pre
  have hown : s.vm.findClass RX12 = some m.cls := findClass_of_methodNamed B.named
  have hlocks := B.notSynchronized
  subst hsz
  have hD := hD0.self (sz := s.heap.size)
  generalize hAe : va_A [(m0, .inr (12, [.int thr, m_1, m_2, m_3, m_4, m_5, m_6, m_7, m_8, m_9, m_10, m_11, m_12, m_13, m_14, m_15, m_16, m_17, m_18, m_19, m_20, m_21, m_22, m_23, m_24, m_25, m_26, m_27, m_28, m_29, m_30, m_31, m_32, m_33, m_34, m_35, m_36, m_37, m_38, m_39, m_40, m_41, m_42, m_43, m_44, m_45, m_46, m_47, m_48, m_49, m_50, m_51, m_52, m_53, m_54, m_55, m_56, .ref d0, .int dfi, .int ndr])), (d0, .inl (K 0, 16, .inl fd))] s.heap.size = A at hD ⊢
  have hA : ∀ q : Nat, s.heap.size ≤ q → A q := fun q h => by rw [← hAe]; exact Or.inr h
  have hS : va_S A s.heap s.heap [] := va_S.rf
  have hP : va_P D vwCl [(m0, .inr (12, [.int thr, m_1, m_2, m_3, m_4, m_5, m_6, m_7, m_8, m_9, m_10, m_11, m_12, m_13, m_14, m_15, m_16, m_17, m_18, m_19, m_20, m_21, m_22, m_23, m_24, m_25, m_26, m_27, m_28, m_29, m_30, m_31, m_32, m_33, m_34, m_35, m_36, m_37, m_38, m_39, m_40, m_41, m_42, m_43, m_44, m_45, m_46, m_47, m_48, m_49, m_50, m_51, m_52, m_53, m_54, m_55, m_56, .ref d0, .int dfi, .int ndr])), (d0, .inl (K 0, 16, .inl fd))] s.heap := hP
  have hl := lv_entry [.ref m0, .int x, .int y] (n := 3) (Nat.le_of_ble_eq_true rfl)
  rw [lg_entry_eq]
  generalize (lg_sl [.ref m0, .int x, .int y] ++ List.replicate (3 - (lg_sl [.ref m0, .int x, .int y]).length) Slot.unset).toArray = ls at hl ⊢
  have hl : lv_has ls 3 [(0, .ref m0), (1, .int x), (2, .int y)] := hl
  have hw12 : ∀ w ∈ wsX120, w ∈ wsX12_drawn := fun w h => (List.mem_cons_of_mem _ (List.mem_append_right _ h))
  generalize hQ : MQ below _ _ s _ _ _ = Q
  refine lv_aload_n hx hb dX12_drawn_0 rfl (lv_at hl 0 rfl) ?_
  refine lv_iconst (v := 0) hx hb dX12_drawn_1 (by decide) ?_
  refine va_put (ci := 12) (v := .int 0) (ty := .int) (C := RX12) (T := TX12) (N := 60) hx hb hts hw12 tyX12 tyX12_ok nmX12 hown hK hP hD hS 0 rfl rfl 0 (by decide) (hts (.fieldLink RX12 158 "SmokeTuneModel" "thrown" "I") (List.mem_cons_of_mem _ (List.mem_append_left _ (List.mem_of_getElem? (i := 0) rfl)))) (fun _ h9 => h9) rfl (by decide +kernel) (by first | rfl | decide) (by first | rfl | decide) (Nat.le_of_ble_eq_true rfl) dX12_drawn_2 (fun H locs hP hD hS => ?_)
  have hP : va_P D vwCl [(m0, .inr (12, [.int 0, m_1, m_2, m_3, m_4, m_5, m_6, m_7, m_8, m_9, m_10, m_11, m_12, m_13, m_14, m_15, m_16, m_17, m_18, m_19, m_20, m_21, m_22, m_23, m_24, m_25, m_26, m_27, m_28, m_29, m_30, m_31, m_32, m_33, m_34, m_35, m_36, m_37, m_38, m_39, m_40, m_41, m_42, m_43, m_44, m_45, m_46, m_47, m_48, m_49, m_50, m_51, m_52, m_53, m_54, m_55, m_56, .ref d0, .int dfi, .int ndr])), (d0, .inl (K 0, 16, .inl fd))] H := hP
  have hD : va_D A [(m0, .inr (12, [.int 0, m_1, m_2, m_3, m_4, m_5, m_6, m_7, m_8, m_9, m_10, m_11, m_12, m_13, m_14, m_15, m_16, m_17, m_18, m_19, m_20, m_21, m_22, m_23, m_24, m_25, m_26, m_27, m_28, m_29, m_30, m_31, m_32, m_33, m_34, m_35, m_36, m_37, m_38, m_39, m_40, m_41, m_42, m_43, m_44, m_45, m_46, m_47, m_48, m_49, m_50, m_51, m_52, m_53, m_54, m_55, m_56, .ref d0, .int dfi, .int ndr])), (d0, .inl (K 0, 16, .inl fd))] := hD
  refine lv_aload_n hx hb dX12_drawn_5 rfl (lv_at hl 0 rfl) ?_
  refine va_get (ci := 12) (v := .int ndr) (C := RX12) (T := TX12) (N := 60) hx hb hts hw12 hown hK hP 0 rfl rfl 59 (by decide) (hts (.fieldLink RX12 155 "SmokeTuneModel" "nDrawn" "I") (List.mem_cons_of_mem _ (List.mem_append_left _ (List.mem_of_getElem? (i := 1) rfl)))) (fun _ h9 => h9) rfl dX12_drawn_6 ?_
  refine lv_iconst (v := (-1)) hx hb dX12_drawn_9 (by decide) ?_
  have j_248 : ∀ (H : Heap) (locs : List Loc) (hP : va_P D vwCl [(m0, .inr (12, [.int 0, m_1, m_2, m_3, m_4, m_5, m_6, m_7, m_8, m_9, m_10, m_11, m_12, m_13, m_14, m_15, m_16, m_17, m_18, m_19, m_20, m_21, m_22, m_23, m_24, m_25, m_26, m_27, m_28, m_29, m_30, m_31, m_32, m_33, m_34, m_35, m_36, m_37, m_38, m_39, m_40, m_41, m_42, m_43, m_44, m_45, m_46, m_47, m_48, m_49, m_50, m_51, m_52, m_53, m_54, m_55, m_56, .ref d0, .int dfi, .int ndr])), (d0, .inl (K 0, 16, .inl fd))] H) (hD : va_D A [(m0, .inr (12, [.int 0, m_1, m_2, m_3, m_4, m_5, m_6, m_7, m_8, m_9, m_10, m_11, m_12, m_13, m_14, m_15, m_16, m_17, m_18, m_19, m_20, m_21, m_22, m_23, m_24, m_25, m_26, m_27, m_28, m_29, m_30, m_31, m_32, m_33, m_34, m_35, m_36, m_37, m_38, m_39, m_40, m_41, m_42, m_43, m_44, m_45, m_46, m_47, m_48, m_49, m_50, m_51, m_52, m_53, m_54, m_55, m_56, .ref d0, .int dfi, .int ndr])), (d0, .inl (K 0, 16, .inl fd))]) (hS : va_S A s.heap H locs) (ls : Array Slot) (hl : lv_has ls 3 []), W p l e ({ frames := 1, cells := 0, slots := 0, locals := 25 }) s m (([.ref m0, .int x, .int y] : List Value).toArray) below meth c H locs 0 0 Q (F0 m 46 ls []) := by
    intro H locs hP hD hS ls hl
    refine lv_iconst (v := (-1)) hx hb dX12_drawn_46 (by decide) ?_
    subst hQ
    have hP9 := hP.sub (ws' := [(m0, .inr (12, [.int 0, m_1, m_2, m_3, m_4, m_5, m_6, m_7, m_8, m_9, m_10, m_11, m_12, m_13, m_14, m_15, m_16, m_17, m_18, m_19, m_20, m_21, m_22, m_23, m_24, m_25, m_26, m_27, m_28, m_29, m_30, m_31, m_32, m_33, m_34, m_35, m_36, m_37, m_38, m_39, m_40, m_41, m_42, m_43, m_44, m_45, m_46, m_47, m_48, m_49, m_50, m_51, m_52, m_53, m_54, m_55, m_56, .ref d0, .int dfi, .int ndr])), (d0, .inl (K 0, 16, .inl fd))]) [0, 1] rfl
    have hD9 := hD.sub (ws' := [(m0, .inr (12, [.int 0, m_1, m_2, m_3, m_4, m_5, m_6, m_7, m_8, m_9, m_10, m_11, m_12, m_13, m_14, m_15, m_16, m_17, m_18, m_19, m_20, m_21, m_22, m_23, m_24, m_25, m_26, m_27, m_28, m_29, m_30, m_31, m_32, m_33, m_34, m_35, m_36, m_37, m_38, m_39, m_40, m_41, m_42, m_43, m_44, m_45, m_46, m_47, m_48, m_49, m_50, m_51, m_52, m_53, m_54, m_55, m_56, .ref d0, .int dfi, .int ndr])), (d0, .inl (K 0, 16, .inl fd))]) [0, 1] (by decide) rfl
    exact W.iret (v := (-1)) hx hb hr (fun t ht hW => ⟨⟨(-1), ((fun _ => 0, fun _ => fun _ => 0, fun _ => fun _ => 0, fun _ => 0, fun _ => 0, fun _ => fun _ => none) : Su), rfl, trivial, (⟨by rw [ht]; exact hP9, hD9⟩ : Wd D A _ t)⟩, hS.F ht⟩) hS.2.2 dX12_drawn_47
  refine lv_icmp_eq (tgt := 46) hx hb dX12_drawn_10 (by decide) (fun c_249 => ?_) (fun c_249 => ?_)
  · have c_249i := i_eq (x := ndr.toInt) (y := (-1)) rfl rfl c_249
    exact j_248   _ _ hP hD hS ls (lv_sub hl [] rfl)
  · have c_249i := i_ne (x := ndr.toInt) (y := (-1)) rfl rfl c_249
    refine lv_iload_n hx hb dX12_drawn_13 rfl (lv_at hl 2 rfl) ?_
    refine lv_i2l hx hb dX12_drawn_14 rfl ?_
    refine lv_topl (fun x_250 ex_250 => ?_)
    have hx_250 : x_250.toInt = y.toInt := by rw [ex_250]; exact i_wide rfl
    have hbx_250 := i_rng (a := y) rfl
    refine lv_lconst (v := 0) hx hb dX12_drawn_15 (by decide) ?_
    refine lv_ldc2 (v := 2) hx hb hown (hts (.constantLong RX12 434 (2)) (List.mem_cons_of_mem _ (List.mem_append_left _ (List.mem_of_getElem? (i := 2) rfl)))) dX12_drawn_16 ?_
    refine pci (va_runS (As := [.long x_250, .long 0, .long 2]) (rest := []) ⟨hx, hb, hml, hown, hts⟩ (v_in l D K y.toInt 0 2 x_250 0 2 H.size hx_250 (show (0 : Int64).toInt = 0 from rfl) (show (2 : Int64).toInt = 2 from rfl)) (va_cwS 3 hts gX12_drawn_X12_in rfl rfl rfl (by decide +kernel) ⟨Nat.le_of_ble_eq_true rfl, Nat.le_of_ble_eq_true rfl⟩) (mkS hK hN (va_P.nil) (va_D.nil (A := fun _ => True))) rfl rfl hl.1 rfl (lv_room (Nat.le_of_ble_eq_true rfl)) dX12_drawn_19 ⟨Nat.le_of_ble_eq_true rfl, Nat.le_of_ble_eq_true rfl⟩) (fun r_251 hw => ?_)
    obtain ⟨hw, -⟩ := hw
    rcases hw with ⟨rfl, h_252, h_253⟩ | ⟨rfl, h_254⟩
    · refine lv_if_eq (tgt := 46) hx hb dX12_drawn_22 (by decide) (fun c_255 => absurd c_255 (by decide)) (fun c_255 => ?_)
      refine lv_iload_n hx hb dX12_drawn_25 rfl (lv_at hl 2 rfl) ?_
      refine lv_iconst (v := 2) hx hb dX12_drawn_26 (by decide) ?_
      have j_270 : ∀ (H : Heap) (locs : List Loc) (hP : va_P D vwCl [(m0, .inr (12, [.int 0, m_1, m_2, m_3, m_4, m_5, m_6, m_7, m_8, m_9, m_10, m_11, m_12, m_13, m_14, m_15, m_16, m_17, m_18, m_19, m_20, m_21, m_22, m_23, m_24, m_25, m_26, m_27, m_28, m_29, m_30, m_31, m_32, m_33, m_34, m_35, m_36, m_37, m_38, m_39, m_40, m_41, m_42, m_43, m_44, m_45, m_46, m_47, m_48, m_49, m_50, m_51, m_52, m_53, m_54, m_55, m_56, .ref d0, .int dfi, .int ndr])), (d0, .inl (K 0, 16, .inl fd))] H) (hD : va_D A [(m0, .inr (12, [.int 0, m_1, m_2, m_3, m_4, m_5, m_6, m_7, m_8, m_9, m_10, m_11, m_12, m_13, m_14, m_15, m_16, m_17, m_18, m_19, m_20, m_21, m_22, m_23, m_24, m_25, m_26, m_27, m_28, m_29, m_30, m_31, m_32, m_33, m_34, m_35, m_36, m_37, m_38, m_39, m_40, m_41, m_42, m_43, m_44, m_45, m_46, m_47, m_48, m_49, m_50, m_51, m_52, m_53, m_54, m_55, m_56, .ref d0, .int dfi, .int ndr])), (d0, .inl (K 0, 16, .inl fd))]) (hS : va_S A s.heap H locs) (ls : Array Slot) (hl : lv_has ls 3 [(0, .ref m0), (1, .int x), (2, .int y)]), W p l e ({ frames := 1, cells := 0, slots := 0, locals := 25 }) s m (([.ref m0, .int x, .int y] : List Value).toArray) below meth c H locs 0 0 Q (F0 m 48 ls []) := by
        intro H locs hP hD hS ls hl
        refine lv_iload_n hx hb dX12_drawn_48 rfl (lv_at hl 2 rfl) ?_
        refine lv_iconst (v := 2) hx hb dX12_drawn_49 (by decide) ?_
        refine lv_icmp_ne (tgt := 60) hx hb dX12_drawn_50 (by decide) (fun c_271 => ?_) (fun c_271 => ?_)
        · have c_271i := i_ne (x := y.toInt) (y := 2) rfl rfl c_271
          refine lv_aload_n hx hb dX12_drawn_60 rfl (lv_at hl 0 rfl) ?_
          refine va_get (ci := 12) (v := .ref d0) (C := RX12) (T := TX12) (N := 60) hx hb hts hw12 hown hK hP 0 rfl rfl 57 (by decide) (hts (.fieldLink RX12 152 "SmokeTuneModel" "drawn" "[I") (List.mem_cons_of_mem _ (List.mem_append_left _ (List.mem_of_getElem? (i := 4) rfl)))) (fun _ h9 => h9) rfl dX12_drawn_61 ?_
          refine lv_iconst (v := 2) hx hb dX12_drawn_64 (by decide) ?_
          refine lv_iload_n hx hb dX12_drawn_65 rfl (lv_at hl 1 rfl) ?_
          refine lv_imul hx hb dX12_drawn_66 ?_
          refine lv_topi (fun x_272 ex_272 => ?_)
          refine lv_iload_n hx hb dX12_drawn_67 rfl (lv_at hl 2 rfl) ?_
          refine lv_iadd hx hb dX12_drawn_68 ?_
          refine lv_topi (fun x_273 ex_273 => ?_)
          refine va_iald hx hb hK hP 1 0 rfl rfl (i_in rfl (by omega)) dX12_drawn_69 ?_
          refine lv_topi (fun x_274 ex_274 => ?_)
          subst hQ
          have hP9 := hP.sub (ws' := [(m0, .inr (12, [.int 0, m_1, m_2, m_3, m_4, m_5, m_6, m_7, m_8, m_9, m_10, m_11, m_12, m_13, m_14, m_15, m_16, m_17, m_18, m_19, m_20, m_21, m_22, m_23, m_24, m_25, m_26, m_27, m_28, m_29, m_30, m_31, m_32, m_33, m_34, m_35, m_36, m_37, m_38, m_39, m_40, m_41, m_42, m_43, m_44, m_45, m_46, m_47, m_48, m_49, m_50, m_51, m_52, m_53, m_54, m_55, m_56, .ref d0, .int dfi, .int ndr])), (d0, .inl (K 0, 16, .inl fd))]) [0, 1] rfl
          have hD9 := hD.sub (ws' := [(m0, .inr (12, [.int 0, m_1, m_2, m_3, m_4, m_5, m_6, m_7, m_8, m_9, m_10, m_11, m_12, m_13, m_14, m_15, m_16, m_17, m_18, m_19, m_20, m_21, m_22, m_23, m_24, m_25, m_26, m_27, m_28, m_29, m_30, m_31, m_32, m_33, m_34, m_35, m_36, m_37, m_38, m_39, m_40, m_41, m_42, m_43, m_44, m_45, m_46, m_47, m_48, m_49, m_50, m_51, m_52, m_53, m_54, m_55, m_56, .ref d0, .int dfi, .int ndr])), (d0, .inl (K 0, 16, .inl fd))]) [0, 1] (by decide) rfl
          exact W.iret (v := x_274) hx hb hr (fun t ht hW => ⟨⟨x_274, ((fun _ => 0, fun _ => fun _ => 0, fun _ => fun _ => 0, fun _ => 0, fun _ => 0, fun _ => fun _ => none) : Su), rfl, trivial, (⟨by rw [ht]; exact hP9, hD9⟩ : Wd D A _ t)⟩, hS.F ht⟩) hS.2.2 dX12_drawn_70
        · have c_271i := i_eq (x := y.toInt) (y := 2) rfl rfl c_271
          refine lv_aload_n hx hb dX12_drawn_53 rfl (lv_at hl 0 rfl) ?_
          refine va_get (ci := 12) (v := .int dfi) (C := RX12) (T := TX12) (N := 60) hx hb hts hw12 hown hK hP 0 rfl rfl 58 (by decide) (hts (.fieldLink RX12 567 "SmokeTuneModel" "drawnFines" "I") (List.mem_cons_of_mem _ (List.mem_append_left _ (List.mem_of_getElem? (i := 3) rfl)))) (fun _ h9 => h9) rfl dX12_drawn_54 ?_
          refine lv_goto (tgt := 70) hx hb dX12_drawn_57 (by decide) ?_
          subst hQ
          have hP9 := hP.sub (ws' := [(m0, .inr (12, [.int 0, m_1, m_2, m_3, m_4, m_5, m_6, m_7, m_8, m_9, m_10, m_11, m_12, m_13, m_14, m_15, m_16, m_17, m_18, m_19, m_20, m_21, m_22, m_23, m_24, m_25, m_26, m_27, m_28, m_29, m_30, m_31, m_32, m_33, m_34, m_35, m_36, m_37, m_38, m_39, m_40, m_41, m_42, m_43, m_44, m_45, m_46, m_47, m_48, m_49, m_50, m_51, m_52, m_53, m_54, m_55, m_56, .ref d0, .int dfi, .int ndr])), (d0, .inl (K 0, 16, .inl fd))]) [0, 1] rfl
          have hD9 := hD.sub (ws' := [(m0, .inr (12, [.int 0, m_1, m_2, m_3, m_4, m_5, m_6, m_7, m_8, m_9, m_10, m_11, m_12, m_13, m_14, m_15, m_16, m_17, m_18, m_19, m_20, m_21, m_22, m_23, m_24, m_25, m_26, m_27, m_28, m_29, m_30, m_31, m_32, m_33, m_34, m_35, m_36, m_37, m_38, m_39, m_40, m_41, m_42, m_43, m_44, m_45, m_46, m_47, m_48, m_49, m_50, m_51, m_52, m_53, m_54, m_55, m_56, .ref d0, .int dfi, .int ndr])), (d0, .inl (K 0, 16, .inl fd))]) [0, 1] (by decide) rfl
          exact W.iret (v := dfi) hx hb hr (fun t ht hW => ⟨⟨dfi, ((fun _ => 0, fun _ => fun _ => 0, fun _ => fun _ => 0, fun _ => 0, fun _ => 0, fun _ => fun _ => none) : Su), rfl, trivial, (⟨by rw [ht]; exact hP9, hD9⟩ : Wd D A _ t)⟩, hS.F ht⟩) hS.2.2 dX12_drawn_70
      refine lv_icmp_ge (tgt := 48) hx hb dX12_drawn_27 (by decide) (fun c_275 => ?_) (fun c_275 => ?_)
      · have c_275i := i_le (x := 2) (y := y.toInt) rfl rfl c_275
        exact j_270   _ _ hP hD hS ls (lv_sub hl [0, 1, 2] rfl)
      · have c_275i := i_nle (x := 2) (y := y.toInt) rfl rfl c_275
        refine lv_iload_n hx hb dX12_drawn_30 rfl (lv_at hl 1 rfl) ?_
        refine lv_i2l hx hb dX12_drawn_31 rfl ?_
        refine lv_topl (fun x_276 ex_276 => ?_)
        have hx_276 : x_276.toInt = x.toInt := by rw [ex_276]; exact i_wide rfl
        have hbx_276 := i_rng (a := x) rfl
        refine lv_lconst (v := 0) hx hb dX12_drawn_32 (by decide) ?_
        refine lv_aload_n hx hb dX12_drawn_33 rfl (lv_at hl 0 rfl) ?_
        refine va_get (ci := 12) (v := .int ndr) (C := RX12) (T := TX12) (N := 60) hx hb hts hw12 hown hK hP 0 rfl rfl 59 (by decide) (hts (.fieldLink RX12 155 "SmokeTuneModel" "nDrawn" "I") (List.mem_cons_of_mem _ (List.mem_append_left _ (List.mem_of_getElem? (i := 1) rfl)))) (fun _ h9 => h9) rfl dX12_drawn_34 ?_
        refine lv_i2l hx hb dX12_drawn_37 rfl ?_
        refine lv_topl (fun x_277 ex_277 => ?_)
        have hx_277 : x_277.toInt = ndr.toInt := by rw [ex_277]; exact i_wide rfl
        refine lv_lconst (v := 1) hx hb dX12_drawn_38 (by decide) ?_
        refine lv_lsub hx hb dX12_drawn_39 ?_
        refine lv_topl (fun x_278 ex_278 => ?_)
        have hx_278 : x_278.toInt = (ndr.toInt - 1) := by rw [ex_278]; exact l_sub hx_277 (show (1 : Int64).toInt = 1 from rfl) (by omega)
        refine pci (va_runS (As := [.long x_276, .long 0, .long x_278]) (rest := []) ⟨hx, hb, hml, hown, hts⟩ (v_in l D K x.toInt 0 (ndr.toInt - 1) x_276 0 x_278 H.size hx_276 (show (0 : Int64).toInt = 0 from rfl) hx_278) (va_cwS 3 hts gX12_drawn_X12_in rfl rfl rfl (by decide +kernel) ⟨Nat.le_of_ble_eq_true rfl, Nat.le_of_ble_eq_true rfl⟩) (mkS hK hN (va_P.nil) (va_D.nil (A := fun _ => True))) rfl rfl hl.1 rfl (lv_room (Nat.le_of_ble_eq_true rfl)) dX12_drawn_40 ⟨Nat.le_of_ble_eq_true rfl, Nat.le_of_ble_eq_true rfl⟩) (fun r_279 hw => ?_)
        obtain ⟨hw, -⟩ := hw
        rcases hw with ⟨rfl, h_280, h_281⟩ | ⟨rfl, h_282⟩
        · refine lv_if_ne (tgt := 48) hx hb dX12_drawn_43 (by decide) (fun c_283 => ?_) (fun c_283 => absurd c_283 (by decide))
          exact j_270   _ _ hP hD hS ls (lv_sub hl [0, 1, 2] rfl)
        · refine lv_if_ne (tgt := 48) hx hb dX12_drawn_43 (by decide) (fun c_284 => absurd (by decide) c_284) (fun c_284 => ?_)
          exact j_248   _ _ hP hD hS ls (lv_sub hl [] rfl)
    · refine lv_if_eq (tgt := 46) hx hb dX12_drawn_22 (by decide) (fun c_285 => ?_) (fun c_285 => absurd (by decide) c_285)
      exact j_248   _ _ hP hD hS ls (lv_sub hl [] rfl)
set_option maxHeartbeats 4000000 in
set_option maxRecDepth 100000 in
theorem v_count (l : Launch) (D : va_G) (K : Nat → ClassId) (m0 : Nat) (x : Int32) (thr : Int32) (m_1 : Value) (r0 : Nat) (w0 : Nat) (m_4 : Value) (m_5 : Value) (m_6 : Value) (m_7 : Value) (nu : Int32) (m_9 : Value) (m_10 : Value) (m_11 : Value) (m_12 : Value) (ta : Int32) (m_14 : Value) (m_15 : Value) (m_16 : Value) (m_17 : Value) (m_18 : Value) (m_19 : Value) (m_20 : Value) (m_21 : Value) (m_22 : Value) (m_23 : Value) (m_24 : Value) (m_25 : Value) (m_26 : Value) (m_27 : Value) (m_28 : Value) (m_29 : Value) (m_30 : Value) (m_31 : Value) (m_32 : Value) (m_33 : Value) (m_34 : Value) (m_35 : Value) (m_36 : Value) (m_37 : Value) (m_38 : Value) (m_39 : Value) (m_40 : Value) (m_41 : Value) (m_42 : Value) (m_43 : Value) (m_44 : Value) (m_45 : Value) (m_46 : Value) (m_47 : Value) (m_48 : Value) (m_49 : Value) (m_50 : Value) (m_51 : Value) (m_52 : Value) (m_53 : Value) (m_54 : Value) (m_55 : Value) (m_56 : Value) (m_57 : Value) (m_58 : Value) (m_59 : Value) (fw : Nat → Int32) (frf : Nat → Int32) (sz : Nat) (zfw : RwOK fw) : Met l yX12_count wsX12_count ({ frames := 2, cells := 0, slots := 0, locals := 46 }) (va_Pc [.ref m0, .int x] (Pre D K [(m0, .inr (12, [.int thr, m_1, .ref r0, .ref w0, m_4, m_5, m_6, m_7, .int nu, m_9, m_10, m_11, m_12, .int ta, m_14, m_15, m_16, m_17, m_18, m_19, m_20, m_21, m_22, m_23, m_24, m_25, m_26, m_27, m_28, m_29, m_30, m_31, m_32, m_33, m_34, m_35, m_36, m_37, m_38, m_39, m_40, m_41, m_42, m_43, m_44, m_45, m_46, m_47, m_48, m_49, m_50, m_51, m_52, m_53, m_54, m_55, m_56, m_57, m_58, m_59])), (w0, .inl (K 0, 5500, .inl fw)), (r0, .inl (K 0, 7, .inl frf))] sz)) (va_Qi (S := Su) (fun (r : Int32) (u : Su) => True) (fun u t => Wd D (va_A [(m0, .inr (12, [.int thr, m_1, .ref r0, .ref w0, m_4, m_5, m_6, m_7, .int nu, m_9, m_10, m_11, m_12, .int ta, m_14, m_15, m_16, m_17, m_18, m_19, m_20, m_21, m_22, m_23, m_24, m_25, m_26, m_27, m_28, m_29, m_30, m_31, m_32, m_33, m_34, m_35, m_36, m_37, m_38, m_39, m_40, m_41, m_42, m_43, m_44, m_45, m_46, m_47, m_48, m_49, m_50, m_51, m_52, m_53, m_54, m_55, m_56, m_57, m_58, m_59])), (w0, .inl (K 0, 5500, .inl fw)), (r0, .inl (K 0, 7, .inl frf))] sz) ((fun u => [(m0, .inr (12, [.int 0, m_1, .ref r0, .ref w0, m_4, m_5, m_6, m_7, .int nu, m_9, m_10, m_11, m_12, .int ta, m_14, m_15, m_16, m_17, m_18, m_19, m_20, m_21, m_22, m_23, m_24, m_25, m_26, m_27, m_28, m_29, m_30, m_31, m_32, m_33, m_34, m_35, m_36, m_37, m_38, m_39, m_40, m_41, m_42, m_43, m_44, m_45, m_46, m_47, m_48, m_49, m_50, m_51, m_52, m_53, m_54, m_55, m_56, m_57, m_58, m_59])), (w0, .inl (K 0, 5500, .inl fw)), (r0, .inl (K 0, 7, .inl frf))]) u) t) (va_A [(m0, .inr (12, [.int thr, m_1, .ref r0, .ref w0, m_4, m_5, m_6, m_7, .int nu, m_9, m_10, m_11, m_12, .int ta, m_14, m_15, m_16, m_17, m_18, m_19, m_20, m_21, m_22, m_23, m_24, m_25, m_26, m_27, m_28, m_29, m_30, m_31, m_32, m_33, m_34, m_35, m_36, m_37, m_38, m_39, m_40, m_41, m_42, m_43, m_44, m_45, m_46, m_47, m_48, m_49, m_50, m_51, m_52, m_53, m_54, m_55, m_56, m_57, m_58, m_59])), (w0, .inl (K 0, 5500, .inl fw)), (r0, .inl (K 0, 7, .inl frf))] sz)) 0 0 (va_A [(m0, .inr (12, [.int thr, m_1, .ref r0, .ref w0, m_4, m_5, m_6, m_7, .int nu, m_9, m_10, m_11, m_12, .int ta, m_14, m_15, m_16, m_17, m_18, m_19, m_20, m_21, m_22, m_23, m_24, m_25, m_26, m_27, m_28, m_29, m_30, m_31, m_32, m_33, m_34, m_35, m_36, m_37, m_38, m_39, m_40, m_41, m_42, m_43, m_44, m_45, m_46, m_47, m_48, m_49, m_50, m_51, m_52, m_53, m_54, m_55, m_56, m_57, m_58, m_59])), (w0, .inl (K 0, 5500, .inl fw)), (r0, .inl (K 0, 7, .inl frf))] sz) := by
  refine Met.ofW (cc := cX12_count) (maxL := 4) (ret := (some .int)) (by decide) rfl ?_
  intro p e s m args below meth c s₁ B hml hv
  obtain ⟨rfl, hsz, hP, hK, hD0, hN⟩ := hv
  have hx := B.exec
  have hb := B.bytes
  have hr := B.returns
  have hts := atoms_spec (ws := wsX12_count) B.pre
  have hown : s.vm.findClass RX12 = some m.cls := findClass_of_methodNamed B.named
  have hlocks := B.notSynchronized
  subst hsz
  have hD := hD0.self (sz := s.heap.size)
  generalize hAe : va_A [(m0, .inr (12, [.int thr, m_1, .ref r0, .ref w0, m_4, m_5, m_6, m_7, .int nu, m_9, m_10, m_11, m_12, .int ta, m_14, m_15, m_16, m_17, m_18, m_19, m_20, m_21, m_22, m_23, m_24, m_25, m_26, m_27, m_28, m_29, m_30, m_31, m_32, m_33, m_34, m_35, m_36, m_37, m_38, m_39, m_40, m_41, m_42, m_43, m_44, m_45, m_46, m_47, m_48, m_49, m_50, m_51, m_52, m_53, m_54, m_55, m_56, m_57, m_58, m_59])), (w0, .inl (K 0, 5500, .inl fw)), (r0, .inl (K 0, 7, .inl frf))] s.heap.size = A at hD ⊢
  have hA : ∀ q : Nat, s.heap.size ≤ q → A q := fun q h => by rw [← hAe]; exact Or.inr h
  have hS : va_S A s.heap s.heap [] := va_S.rf
  have hP : va_P D vwCl [(m0, .inr (12, [.int thr, m_1, .ref r0, .ref w0, m_4, m_5, m_6, m_7, .int nu, m_9, m_10, m_11, m_12, .int ta, m_14, m_15, m_16, m_17, m_18, m_19, m_20, m_21, m_22, m_23, m_24, m_25, m_26, m_27, m_28, m_29, m_30, m_31, m_32, m_33, m_34, m_35, m_36, m_37, m_38, m_39, m_40, m_41, m_42, m_43, m_44, m_45, m_46, m_47, m_48, m_49, m_50, m_51, m_52, m_53, m_54, m_55, m_56, m_57, m_58, m_59])), (w0, .inl (K 0, 5500, .inl fw)), (r0, .inl (K 0, 7, .inl frf))] s.heap := hP
  have hl := lv_entry [.ref m0, .int x] (n := 4) (Nat.le_of_ble_eq_true rfl)
  rw [lg_entry_eq]
  generalize (lg_sl [.ref m0, .int x] ++ List.replicate (4 - (lg_sl [.ref m0, .int x]).length) Slot.unset).toArray = ls at hl ⊢
  have hl : lv_has ls 4 [(0, .ref m0), (1, .int x)] := hl
  have hw12 : ∀ w ∈ wsX120, w ∈ wsX12_count := fun w h => (List.mem_cons_of_mem _ (List.mem_append_right _ h))
  generalize hQ : MQ below _ _ s _ _ _ = Q
  refine lv_aload_n hx hb dX12_count_0 rfl (lv_at hl 0 rfl) ?_
  refine lv_iconst (v := 0) hx hb dX12_count_1 (by decide) ?_
  refine va_put (ci := 12) (v := .int 0) (ty := .int) (C := RX12) (T := TX12) (N := 60) hx hb hts hw12 tyX12 tyX12_ok nmX12 hown hK hP hD hS 0 rfl rfl 0 (by decide) (hts (.fieldLink RX12 158 "SmokeTuneModel" "thrown" "I") (List.mem_cons_of_mem _ (List.mem_append_left _ (List.mem_of_getElem? (i := 0) rfl)))) (fun _ h9 => h9) rfl (by decide +kernel) (by first | rfl | decide) (by first | rfl | decide) (Nat.le_of_ble_eq_true rfl) dX12_count_2 (fun H locs hP hD hS => ?_)
  have hP : va_P D vwCl [(m0, .inr (12, [.int 0, m_1, .ref r0, .ref w0, m_4, m_5, m_6, m_7, .int nu, m_9, m_10, m_11, m_12, .int ta, m_14, m_15, m_16, m_17, m_18, m_19, m_20, m_21, m_22, m_23, m_24, m_25, m_26, m_27, m_28, m_29, m_30, m_31, m_32, m_33, m_34, m_35, m_36, m_37, m_38, m_39, m_40, m_41, m_42, m_43, m_44, m_45, m_46, m_47, m_48, m_49, m_50, m_51, m_52, m_53, m_54, m_55, m_56, m_57, m_58, m_59])), (w0, .inl (K 0, 5500, .inl fw)), (r0, .inl (K 0, 7, .inl frf))] H := hP
  have hD : va_D A [(m0, .inr (12, [.int 0, m_1, .ref r0, .ref w0, m_4, m_5, m_6, m_7, .int nu, m_9, m_10, m_11, m_12, .int ta, m_14, m_15, m_16, m_17, m_18, m_19, m_20, m_21, m_22, m_23, m_24, m_25, m_26, m_27, m_28, m_29, m_30, m_31, m_32, m_33, m_34, m_35, m_36, m_37, m_38, m_39, m_40, m_41, m_42, m_43, m_44, m_45, m_46, m_47, m_48, m_49, m_50, m_51, m_52, m_53, m_54, m_55, m_56, m_57, m_58, m_59])), (w0, .inl (K 0, 5500, .inl fw)), (r0, .inl (K 0, 7, .inl frf))] := hD
  refine lv_iconst (v := 0) hx hb dX12_count_5 (by decide) ?_
  refine lv_istore_n (lv' := [(2, .int 0), (0, .ref m0), (1, .int x)]) hx hb dX12_count_6 rfl hl (by decide) rfl (fun ls hl => ?_)
  refine lv_iconst (v := 0) hx hb dX12_count_7 (by decide) ?_
  refine lv_istore_n (lv' := [(3, .int 0), (2, .int 0), (0, .ref m0), (1, .int x)]) hx hb dX12_count_8 rfl hl (by decide) rfl (fun ls hl => ?_)
  have lp_344 : ∀ (nn_ : Nat) (v_322 : Int32) (v_323 : Int32) (hv_322 : 0 ≤ v_322.toInt ∧ v_322.toInt ≤ 8) (hn : (9 - v_322.toInt : Int).toNat < nn_) (H : Heap) (locs : List Loc) (hP : va_P D vwCl [(m0, .inr (12, [.int 0, m_1, .ref r0, .ref w0, m_4, m_5, m_6, m_7, .int nu, m_9, m_10, m_11, m_12, .int ta, m_14, m_15, m_16, m_17, m_18, m_19, m_20, m_21, m_22, m_23, m_24, m_25, m_26, m_27, m_28, m_29, m_30, m_31, m_32, m_33, m_34, m_35, m_36, m_37, m_38, m_39, m_40, m_41, m_42, m_43, m_44, m_45, m_46, m_47, m_48, m_49, m_50, m_51, m_52, m_53, m_54, m_55, m_56, m_57, m_58, m_59])), (w0, .inl (K 0, 5500, .inl fw)), (r0, .inl (K 0, 7, .inl frf))] H) (hD : va_D A [(m0, .inr (12, [.int 0, m_1, .ref r0, .ref w0, m_4, m_5, m_6, m_7, .int nu, m_9, m_10, m_11, m_12, .int ta, m_14, m_15, m_16, m_17, m_18, m_19, m_20, m_21, m_22, m_23, m_24, m_25, m_26, m_27, m_28, m_29, m_30, m_31, m_32, m_33, m_34, m_35, m_36, m_37, m_38, m_39, m_40, m_41, m_42, m_43, m_44, m_45, m_46, m_47, m_48, m_49, m_50, m_51, m_52, m_53, m_54, m_55, m_56, m_57, m_58, m_59])), (w0, .inl (K 0, 5500, .inl fw)), (r0, .inl (K 0, 7, .inl frf))]) (hS : va_S A s.heap H locs) (ls : Array Slot) (hl : lv_has ls 4 [(3, .int v_322), (2, .int v_323), (0, .ref m0), (1, .int x)]), W p l e ({ frames := 2, cells := 0, slots := 0, locals := 46 }) s m (([.ref m0, .int x] : List Value).toArray) below meth c H locs 0 0 Q (F0 m 9 ls []) := by
    intro nn_
    induction nn_ with
    | zero =>
      intro v_322 v_323 hv_322 hn H locs hP hD hS ls hl
      exact absurd hn (Nat.not_lt_zero _)
    | succ nn_ ih_345 =>
      intro v_322 v_323 hv_322 hn H locs hP hD hS ls hl
      refine lv_iload_n hx hb dX12_count_9 rfl (lv_at hl 0 rfl) ?_
      refine lv_aload_n hx hb dX12_count_10 rfl (lv_at hl 2 rfl) ?_
      refine va_get (ci := 12) (v := .ref w0) (C := RX12) (T := TX12) (N := 60) hx hb hts hw12 hown hK hP 0 rfl rfl 3 (by decide) (hts (.fieldLink RX12 13 "SmokeTuneModel" "row" "[I") (List.mem_cons_of_mem _ (List.mem_append_left _ (List.mem_of_getElem? (i := 1) rfl)))) (fun _ h9 => h9) rfl dX12_count_11 ?_
      refine lv_iconst (v := 0) hx hb dX12_count_14 (by decide) ?_
      refine va_iald hx hb hK hP 1 0 rfl rfl (i_in (x := 0) rfl (by omega)) dX12_count_15 ?_
      refine lv_topi (fun x_346 ex_346 => ?_)
      have px_346 := RwOK.at zfw (show (0 : Int32).toInt = 0 from rfl) (show 0 ≤ 0 ∧ 0 < 100 by omega)
      rw [← ex_346] at px_346
      have hx_346 := PR.r_0 px_346 (by omega)
      refine lv_icmp_ge (tgt := 41) hx hb dX12_count_16 (by decide) (fun c_347 => ?_) (fun c_347 => ?_)
      · have c_347i := i_le (x := x_346.toInt) (y := v_322.toInt) rfl rfl c_347
        refine lv_iload_n hx hb dX12_count_41 rfl (lv_at hl 3 rfl) ?_
        have w_348 : x.toInt = 0 ∨ x.toInt = 1 ∨ x.toInt = 2 ∨ x.toInt = 3 ∨ x.toInt = 4 ∨ x.toInt = 5 ∨ x.toInt = 6 ∨ x.toInt = 7 ∨ x.toInt = 8 ∨ x.toInt = 9 ∨ x.toInt = 10 ∨ x.toInt = 11 ∨ x.toInt = 12 ∨ (x.toInt < 0 ∨ 12 < x.toInt) := by omega
        rcases w_348 with w_348 | w_348 | w_348 | w_348 | w_348 | w_348 | w_348 | w_348 | w_348 | w_348 | w_348 | w_348 | w_348 | w_348
        · refine lv_tableIn (tgt := 108) hx hb dX12_count_42 (by omega) (by omega) (by rw [w_348]; rfl) (by decide) ?_
          refine lv_aload_n hx hb dX12_count_108 rfl (lv_at hl 2 rfl) ?_
          refine va_get (ci := 12) (v := .ref w0) (C := RX12) (T := TX12) (N := 60) hx hb hts hw12 hown hK hP 0 rfl rfl 3 (by decide) (hts (.fieldLink RX12 13 "SmokeTuneModel" "row" "[I") (List.mem_cons_of_mem _ (List.mem_append_left _ (List.mem_of_getElem? (i := 1) rfl)))) (fun _ h9 => h9) rfl dX12_count_109 ?_
          refine lv_iconst (v := 0) hx hb dX12_count_112 (by decide) ?_
          refine va_iald hx hb hK hP 1 0 rfl rfl (i_in (x := 0) rfl (by omega)) dX12_count_113 ?_
          refine lv_topi (fun x_349 ex_349 => ?_)
          have px_349 := RwOK.at zfw (show (0 : Int32).toInt = 0 from rfl) (show 0 ≤ 0 ∧ 0 < 100 by omega)
          rw [← ex_349] at px_349
          have hx_349 := PR.r_0 px_349 (by omega)
          subst hQ
          have hP9 := hP.sub (ws' := [(m0, .inr (12, [.int 0, m_1, .ref r0, .ref w0, m_4, m_5, m_6, m_7, .int nu, m_9, m_10, m_11, m_12, .int ta, m_14, m_15, m_16, m_17, m_18, m_19, m_20, m_21, m_22, m_23, m_24, m_25, m_26, m_27, m_28, m_29, m_30, m_31, m_32, m_33, m_34, m_35, m_36, m_37, m_38, m_39, m_40, m_41, m_42, m_43, m_44, m_45, m_46, m_47, m_48, m_49, m_50, m_51, m_52, m_53, m_54, m_55, m_56, m_57, m_58, m_59])), (w0, .inl (K 0, 5500, .inl fw)), (r0, .inl (K 0, 7, .inl frf))]) [0, 1, 2] rfl
          have hD9 := hD.sub (ws' := [(m0, .inr (12, [.int 0, m_1, .ref r0, .ref w0, m_4, m_5, m_6, m_7, .int nu, m_9, m_10, m_11, m_12, .int ta, m_14, m_15, m_16, m_17, m_18, m_19, m_20, m_21, m_22, m_23, m_24, m_25, m_26, m_27, m_28, m_29, m_30, m_31, m_32, m_33, m_34, m_35, m_36, m_37, m_38, m_39, m_40, m_41, m_42, m_43, m_44, m_45, m_46, m_47, m_48, m_49, m_50, m_51, m_52, m_53, m_54, m_55, m_56, m_57, m_58, m_59])), (w0, .inl (K 0, 5500, .inl fw)), (r0, .inl (K 0, 7, .inl frf))]) [0, 1, 2] (by decide) rfl
          exact W.iret (v := x_349) hx hb hr (fun t ht hW => ⟨⟨x_349, ((fun _ => 0, fun _ => fun _ => 0, fun _ => fun _ => 0, fun _ => 0, fun _ => 0, fun _ => fun _ => none) : Su), rfl, trivial, (⟨by rw [ht]; exact hP9, hD9⟩ : Wd D A _ t)⟩, hS.F ht⟩) hS.2.2 dX12_count_114
        · refine lv_tableIn (tgt := 115) hx hb dX12_count_42 (by omega) (by omega) (by rw [w_348]; rfl) (by decide) ?_
          refine lv_iload_n hx hb dX12_count_115 rfl (lv_at hl 1 rfl) ?_
          subst hQ
          have hP9 := hP.sub (ws' := [(m0, .inr (12, [.int 0, m_1, .ref r0, .ref w0, m_4, m_5, m_6, m_7, .int nu, m_9, m_10, m_11, m_12, .int ta, m_14, m_15, m_16, m_17, m_18, m_19, m_20, m_21, m_22, m_23, m_24, m_25, m_26, m_27, m_28, m_29, m_30, m_31, m_32, m_33, m_34, m_35, m_36, m_37, m_38, m_39, m_40, m_41, m_42, m_43, m_44, m_45, m_46, m_47, m_48, m_49, m_50, m_51, m_52, m_53, m_54, m_55, m_56, m_57, m_58, m_59])), (w0, .inl (K 0, 5500, .inl fw)), (r0, .inl (K 0, 7, .inl frf))]) [0, 1, 2] rfl
          have hD9 := hD.sub (ws' := [(m0, .inr (12, [.int 0, m_1, .ref r0, .ref w0, m_4, m_5, m_6, m_7, .int nu, m_9, m_10, m_11, m_12, .int ta, m_14, m_15, m_16, m_17, m_18, m_19, m_20, m_21, m_22, m_23, m_24, m_25, m_26, m_27, m_28, m_29, m_30, m_31, m_32, m_33, m_34, m_35, m_36, m_37, m_38, m_39, m_40, m_41, m_42, m_43, m_44, m_45, m_46, m_47, m_48, m_49, m_50, m_51, m_52, m_53, m_54, m_55, m_56, m_57, m_58, m_59])), (w0, .inl (K 0, 5500, .inl fw)), (r0, .inl (K 0, 7, .inl frf))]) [0, 1, 2] (by decide) rfl
          exact W.iret (v := v_323) hx hb hr (fun t ht hW => ⟨⟨v_323, ((fun _ => 0, fun _ => fun _ => 0, fun _ => fun _ => 0, fun _ => 0, fun _ => 0, fun _ => fun _ => none) : Su), rfl, trivial, (⟨by rw [ht]; exact hP9, hD9⟩ : Wd D A _ t)⟩, hS.F ht⟩) hS.2.2 dX12_count_116
        · refine lv_tableIn (tgt := 117) hx hb dX12_count_42 (by omega) (by omega) (by rw [w_348]; rfl) (by decide) ?_
          refine lv_aload_n hx hb dX12_count_117 rfl (lv_at hl 2 rfl) ?_
          refine va_get (ci := 12) (v := .ref w0) (C := RX12) (T := TX12) (N := 60) hx hb hts hw12 hown hK hP 0 rfl rfl 3 (by decide) (hts (.fieldLink RX12 13 "SmokeTuneModel" "row" "[I") (List.mem_cons_of_mem _ (List.mem_append_left _ (List.mem_of_getElem? (i := 1) rfl)))) (fun _ h9 => h9) rfl dX12_count_118 ?_
          refine lv_iconst (v := 1) hx hb dX12_count_121 (by decide) ?_
          refine va_iald hx hb hK hP 1 0 rfl rfl (i_in (x := 1) rfl (by omega)) dX12_count_122 ?_
          refine lv_topi (fun x_350 ex_350 => ?_)
          have px_350 := RwOK.at zfw (show (1 : Int32).toInt = 1 from rfl) (show 0 ≤ 1 ∧ 1 < 100 by omega)
          rw [← ex_350] at px_350
          have hx_350 := PR.r_1 px_350 (by omega)
          subst hQ
          have hP9 := hP.sub (ws' := [(m0, .inr (12, [.int 0, m_1, .ref r0, .ref w0, m_4, m_5, m_6, m_7, .int nu, m_9, m_10, m_11, m_12, .int ta, m_14, m_15, m_16, m_17, m_18, m_19, m_20, m_21, m_22, m_23, m_24, m_25, m_26, m_27, m_28, m_29, m_30, m_31, m_32, m_33, m_34, m_35, m_36, m_37, m_38, m_39, m_40, m_41, m_42, m_43, m_44, m_45, m_46, m_47, m_48, m_49, m_50, m_51, m_52, m_53, m_54, m_55, m_56, m_57, m_58, m_59])), (w0, .inl (K 0, 5500, .inl fw)), (r0, .inl (K 0, 7, .inl frf))]) [0, 1, 2] rfl
          have hD9 := hD.sub (ws' := [(m0, .inr (12, [.int 0, m_1, .ref r0, .ref w0, m_4, m_5, m_6, m_7, .int nu, m_9, m_10, m_11, m_12, .int ta, m_14, m_15, m_16, m_17, m_18, m_19, m_20, m_21, m_22, m_23, m_24, m_25, m_26, m_27, m_28, m_29, m_30, m_31, m_32, m_33, m_34, m_35, m_36, m_37, m_38, m_39, m_40, m_41, m_42, m_43, m_44, m_45, m_46, m_47, m_48, m_49, m_50, m_51, m_52, m_53, m_54, m_55, m_56, m_57, m_58, m_59])), (w0, .inl (K 0, 5500, .inl fw)), (r0, .inl (K 0, 7, .inl frf))]) [0, 1, 2] (by decide) rfl
          exact W.iret (v := x_350) hx hb hr (fun t ht hW => ⟨⟨x_350, ((fun _ => 0, fun _ => fun _ => 0, fun _ => fun _ => 0, fun _ => 0, fun _ => 0, fun _ => fun _ => none) : Su), rfl, trivial, (⟨by rw [ht]; exact hP9, hD9⟩ : Wd D A _ t)⟩, hS.F ht⟩) hS.2.2 dX12_count_123
        · refine lv_tableIn (tgt := 124) hx hb dX12_count_42 (by omega) (by omega) (by rw [w_348]; rfl) (by decide) ?_
          refine lv_aload_n hx hb dX12_count_124 rfl (lv_at hl 2 rfl) ?_
          refine va_get (ci := 12) (v := .ref w0) (C := RX12) (T := TX12) (N := 60) hx hb hts hw12 hown hK hP 0 rfl rfl 3 (by decide) (hts (.fieldLink RX12 13 "SmokeTuneModel" "row" "[I") (List.mem_cons_of_mem _ (List.mem_append_left _ (List.mem_of_getElem? (i := 1) rfl)))) (fun _ h9 => h9) rfl dX12_count_125 ?_
          refine lv_iconst (v := 2) hx hb dX12_count_128 (by decide) ?_
          refine va_iald hx hb hK hP 1 0 rfl rfl (i_in (x := 2) rfl (by omega)) dX12_count_129 ?_
          refine lv_topi (fun x_351 ex_351 => ?_)
          have px_351 := RwOK.at zfw (show (2 : Int32).toInt = 2 from rfl) (show 0 ≤ 2 ∧ 2 < 100 by omega)
          rw [← ex_351] at px_351
          have hx_351 := PR.r_2 px_351 (by omega)
          subst hQ
          have hP9 := hP.sub (ws' := [(m0, .inr (12, [.int 0, m_1, .ref r0, .ref w0, m_4, m_5, m_6, m_7, .int nu, m_9, m_10, m_11, m_12, .int ta, m_14, m_15, m_16, m_17, m_18, m_19, m_20, m_21, m_22, m_23, m_24, m_25, m_26, m_27, m_28, m_29, m_30, m_31, m_32, m_33, m_34, m_35, m_36, m_37, m_38, m_39, m_40, m_41, m_42, m_43, m_44, m_45, m_46, m_47, m_48, m_49, m_50, m_51, m_52, m_53, m_54, m_55, m_56, m_57, m_58, m_59])), (w0, .inl (K 0, 5500, .inl fw)), (r0, .inl (K 0, 7, .inl frf))]) [0, 1, 2] rfl
          have hD9 := hD.sub (ws' := [(m0, .inr (12, [.int 0, m_1, .ref r0, .ref w0, m_4, m_5, m_6, m_7, .int nu, m_9, m_10, m_11, m_12, .int ta, m_14, m_15, m_16, m_17, m_18, m_19, m_20, m_21, m_22, m_23, m_24, m_25, m_26, m_27, m_28, m_29, m_30, m_31, m_32, m_33, m_34, m_35, m_36, m_37, m_38, m_39, m_40, m_41, m_42, m_43, m_44, m_45, m_46, m_47, m_48, m_49, m_50, m_51, m_52, m_53, m_54, m_55, m_56, m_57, m_58, m_59])), (w0, .inl (K 0, 5500, .inl fw)), (r0, .inl (K 0, 7, .inl frf))]) [0, 1, 2] (by decide) rfl
          exact W.iret (v := x_351) hx hb hr (fun t ht hW => ⟨⟨x_351, ((fun _ => 0, fun _ => fun _ => 0, fun _ => fun _ => 0, fun _ => 0, fun _ => 0, fun _ => fun _ => none) : Su), rfl, trivial, (⟨by rw [ht]; exact hP9, hD9⟩ : Wd D A _ t)⟩, hS.F ht⟩) hS.2.2 dX12_count_130
        · refine lv_tableIn (tgt := 131) hx hb dX12_count_42 (by omega) (by omega) (by rw [w_348]; rfl) (by decide) ?_
          refine lv_aload_n hx hb dX12_count_131 rfl (lv_at hl 2 rfl) ?_
          refine va_get (ci := 12) (v := .int nu) (C := RX12) (T := TX12) (N := 60) hx hb hts hw12 hown hK hP 0 rfl rfl 8 (by decide) (hts (.fieldLink RX12 164 "SmokeTuneModel" "nUndo" "I") (List.mem_cons_of_mem _ (List.mem_append_left _ (List.mem_of_getElem? (i := 2) rfl)))) (fun _ h9 => h9) rfl dX12_count_132 ?_
          subst hQ
          have hP9 := hP.sub (ws' := [(m0, .inr (12, [.int 0, m_1, .ref r0, .ref w0, m_4, m_5, m_6, m_7, .int nu, m_9, m_10, m_11, m_12, .int ta, m_14, m_15, m_16, m_17, m_18, m_19, m_20, m_21, m_22, m_23, m_24, m_25, m_26, m_27, m_28, m_29, m_30, m_31, m_32, m_33, m_34, m_35, m_36, m_37, m_38, m_39, m_40, m_41, m_42, m_43, m_44, m_45, m_46, m_47, m_48, m_49, m_50, m_51, m_52, m_53, m_54, m_55, m_56, m_57, m_58, m_59])), (w0, .inl (K 0, 5500, .inl fw)), (r0, .inl (K 0, 7, .inl frf))]) [0, 1, 2] rfl
          have hD9 := hD.sub (ws' := [(m0, .inr (12, [.int 0, m_1, .ref r0, .ref w0, m_4, m_5, m_6, m_7, .int nu, m_9, m_10, m_11, m_12, .int ta, m_14, m_15, m_16, m_17, m_18, m_19, m_20, m_21, m_22, m_23, m_24, m_25, m_26, m_27, m_28, m_29, m_30, m_31, m_32, m_33, m_34, m_35, m_36, m_37, m_38, m_39, m_40, m_41, m_42, m_43, m_44, m_45, m_46, m_47, m_48, m_49, m_50, m_51, m_52, m_53, m_54, m_55, m_56, m_57, m_58, m_59])), (w0, .inl (K 0, 5500, .inl fw)), (r0, .inl (K 0, 7, .inl frf))]) [0, 1, 2] (by decide) rfl
          exact W.iret (v := nu) hx hb hr (fun t ht hW => ⟨⟨nu, ((fun _ => 0, fun _ => fun _ => 0, fun _ => fun _ => 0, fun _ => 0, fun _ => 0, fun _ => fun _ => none) : Su), rfl, trivial, (⟨by rw [ht]; exact hP9, hD9⟩ : Wd D A _ t)⟩, hS.F ht⟩) hS.2.2 dX12_count_135
        · refine lv_tableIn (tgt := 136) hx hb dX12_count_42 (by omega) (by omega) (by rw [w_348]; rfl) (by decide) ?_
          refine lv_aload_n hx hb dX12_count_136 rfl (lv_at hl 2 rfl) ?_
          refine va_get (ci := 12) (v := .int ta) (C := RX12) (T := TX12) (N := 60) hx hb hts hw12 hown hK hP 0 rfl rfl 13 (by decide) (hts (.fieldLink RX12 227 "SmokeTuneModel" "taped" "I") (List.mem_cons_of_mem _ (List.mem_append_left _ (List.mem_of_getElem? (i := 3) rfl)))) (fun _ h9 => h9) rfl dX12_count_137 ?_
          subst hQ
          have hP9 := hP.sub (ws' := [(m0, .inr (12, [.int 0, m_1, .ref r0, .ref w0, m_4, m_5, m_6, m_7, .int nu, m_9, m_10, m_11, m_12, .int ta, m_14, m_15, m_16, m_17, m_18, m_19, m_20, m_21, m_22, m_23, m_24, m_25, m_26, m_27, m_28, m_29, m_30, m_31, m_32, m_33, m_34, m_35, m_36, m_37, m_38, m_39, m_40, m_41, m_42, m_43, m_44, m_45, m_46, m_47, m_48, m_49, m_50, m_51, m_52, m_53, m_54, m_55, m_56, m_57, m_58, m_59])), (w0, .inl (K 0, 5500, .inl fw)), (r0, .inl (K 0, 7, .inl frf))]) [0, 1, 2] rfl
          have hD9 := hD.sub (ws' := [(m0, .inr (12, [.int 0, m_1, .ref r0, .ref w0, m_4, m_5, m_6, m_7, .int nu, m_9, m_10, m_11, m_12, .int ta, m_14, m_15, m_16, m_17, m_18, m_19, m_20, m_21, m_22, m_23, m_24, m_25, m_26, m_27, m_28, m_29, m_30, m_31, m_32, m_33, m_34, m_35, m_36, m_37, m_38, m_39, m_40, m_41, m_42, m_43, m_44, m_45, m_46, m_47, m_48, m_49, m_50, m_51, m_52, m_53, m_54, m_55, m_56, m_57, m_58, m_59])), (w0, .inl (K 0, 5500, .inl fw)), (r0, .inl (K 0, 7, .inl frf))]) [0, 1, 2] (by decide) rfl
          exact W.iret (v := ta) hx hb hr (fun t ht hW => ⟨⟨ta, ((fun _ => 0, fun _ => fun _ => 0, fun _ => fun _ => 0, fun _ => 0, fun _ => 0, fun _ => fun _ => none) : Su), rfl, trivial, (⟨by rw [ht]; exact hP9, hD9⟩ : Wd D A _ t)⟩, hS.F ht⟩) hS.2.2 dX12_count_140
        · refine lv_tableIn (tgt := 141) hx hb dX12_count_42 (by omega) (by omega) (by rw [w_348]; rfl) (by decide) ?_
          refine lv_aload_n hx hb dX12_count_141 rfl (lv_at hl 2 rfl) ?_
          refine va_get (ci := 12) (v := .ref r0) (C := RX12) (T := TX12) (N := 60) hx hb hts hw12 hown hK hP 0 rfl rfl 2 (by decide) (hts (.fieldLink RX12 7 "SmokeTuneModel" "refusals" "[I") (List.mem_cons_of_mem _ (List.mem_append_left _ (List.mem_of_getElem? (i := 4) rfl)))) (fun _ h9 => h9) rfl dX12_count_142 ?_
          refine lv_iconst (v := 1) hx hb dX12_count_145 (by decide) ?_
          refine va_iald hx hb hK hP 2 0 rfl rfl (i_in (x := 1) rfl (by omega)) dX12_count_146 ?_
          refine lv_topi (fun x_352 ex_352 => ?_)
          subst hQ
          have hP9 := hP.sub (ws' := [(m0, .inr (12, [.int 0, m_1, .ref r0, .ref w0, m_4, m_5, m_6, m_7, .int nu, m_9, m_10, m_11, m_12, .int ta, m_14, m_15, m_16, m_17, m_18, m_19, m_20, m_21, m_22, m_23, m_24, m_25, m_26, m_27, m_28, m_29, m_30, m_31, m_32, m_33, m_34, m_35, m_36, m_37, m_38, m_39, m_40, m_41, m_42, m_43, m_44, m_45, m_46, m_47, m_48, m_49, m_50, m_51, m_52, m_53, m_54, m_55, m_56, m_57, m_58, m_59])), (w0, .inl (K 0, 5500, .inl fw)), (r0, .inl (K 0, 7, .inl frf))]) [0, 1, 2] rfl
          have hD9 := hD.sub (ws' := [(m0, .inr (12, [.int 0, m_1, .ref r0, .ref w0, m_4, m_5, m_6, m_7, .int nu, m_9, m_10, m_11, m_12, .int ta, m_14, m_15, m_16, m_17, m_18, m_19, m_20, m_21, m_22, m_23, m_24, m_25, m_26, m_27, m_28, m_29, m_30, m_31, m_32, m_33, m_34, m_35, m_36, m_37, m_38, m_39, m_40, m_41, m_42, m_43, m_44, m_45, m_46, m_47, m_48, m_49, m_50, m_51, m_52, m_53, m_54, m_55, m_56, m_57, m_58, m_59])), (w0, .inl (K 0, 5500, .inl fw)), (r0, .inl (K 0, 7, .inl frf))]) [0, 1, 2] (by decide) rfl
          exact W.iret (v := x_352) hx hb hr (fun t ht hW => ⟨⟨x_352, ((fun _ => 0, fun _ => fun _ => 0, fun _ => fun _ => 0, fun _ => 0, fun _ => 0, fun _ => fun _ => none) : Su), rfl, trivial, (⟨by rw [ht]; exact hP9, hD9⟩ : Wd D A _ t)⟩, hS.F ht⟩) hS.2.2 dX12_count_147
        · refine lv_tableIn (tgt := 148) hx hb dX12_count_42 (by omega) (by omega) (by rw [w_348]; rfl) (by decide) ?_
          refine lv_aload_n hx hb dX12_count_148 rfl (lv_at hl 2 rfl) ?_
          refine va_get (ci := 12) (v := .ref r0) (C := RX12) (T := TX12) (N := 60) hx hb hts hw12 hown hK hP 0 rfl rfl 2 (by decide) (hts (.fieldLink RX12 7 "SmokeTuneModel" "refusals" "[I") (List.mem_cons_of_mem _ (List.mem_append_left _ (List.mem_of_getElem? (i := 4) rfl)))) (fun _ h9 => h9) rfl dX12_count_149 ?_
          refine lv_iconst (v := 2) hx hb dX12_count_152 (by decide) ?_
          refine va_iald hx hb hK hP 2 0 rfl rfl (i_in (x := 2) rfl (by omega)) dX12_count_153 ?_
          refine lv_topi (fun x_353 ex_353 => ?_)
          subst hQ
          have hP9 := hP.sub (ws' := [(m0, .inr (12, [.int 0, m_1, .ref r0, .ref w0, m_4, m_5, m_6, m_7, .int nu, m_9, m_10, m_11, m_12, .int ta, m_14, m_15, m_16, m_17, m_18, m_19, m_20, m_21, m_22, m_23, m_24, m_25, m_26, m_27, m_28, m_29, m_30, m_31, m_32, m_33, m_34, m_35, m_36, m_37, m_38, m_39, m_40, m_41, m_42, m_43, m_44, m_45, m_46, m_47, m_48, m_49, m_50, m_51, m_52, m_53, m_54, m_55, m_56, m_57, m_58, m_59])), (w0, .inl (K 0, 5500, .inl fw)), (r0, .inl (K 0, 7, .inl frf))]) [0, 1, 2] rfl
          have hD9 := hD.sub (ws' := [(m0, .inr (12, [.int 0, m_1, .ref r0, .ref w0, m_4, m_5, m_6, m_7, .int nu, m_9, m_10, m_11, m_12, .int ta, m_14, m_15, m_16, m_17, m_18, m_19, m_20, m_21, m_22, m_23, m_24, m_25, m_26, m_27, m_28, m_29, m_30, m_31, m_32, m_33, m_34, m_35, m_36, m_37, m_38, m_39, m_40, m_41, m_42, m_43, m_44, m_45, m_46, m_47, m_48, m_49, m_50, m_51, m_52, m_53, m_54, m_55, m_56, m_57, m_58, m_59])), (w0, .inl (K 0, 5500, .inl fw)), (r0, .inl (K 0, 7, .inl frf))]) [0, 1, 2] (by decide) rfl
          exact W.iret (v := x_353) hx hb hr (fun t ht hW => ⟨⟨x_353, ((fun _ => 0, fun _ => fun _ => 0, fun _ => fun _ => 0, fun _ => 0, fun _ => 0, fun _ => fun _ => none) : Su), rfl, trivial, (⟨by rw [ht]; exact hP9, hD9⟩ : Wd D A _ t)⟩, hS.F ht⟩) hS.2.2 dX12_count_154
        · refine lv_tableIn (tgt := 155) hx hb dX12_count_42 (by omega) (by omega) (by rw [w_348]; rfl) (by decide) ?_
          refine lv_aload_n hx hb dX12_count_155 rfl (lv_at hl 2 rfl) ?_
          refine va_get (ci := 12) (v := .ref r0) (C := RX12) (T := TX12) (N := 60) hx hb hts hw12 hown hK hP 0 rfl rfl 2 (by decide) (hts (.fieldLink RX12 7 "SmokeTuneModel" "refusals" "[I") (List.mem_cons_of_mem _ (List.mem_append_left _ (List.mem_of_getElem? (i := 4) rfl)))) (fun _ h9 => h9) rfl dX12_count_156 ?_
          refine lv_iconst (v := 3) hx hb dX12_count_159 (by decide) ?_
          refine va_iald hx hb hK hP 2 0 rfl rfl (i_in (x := 3) rfl (by omega)) dX12_count_160 ?_
          refine lv_topi (fun x_354 ex_354 => ?_)
          subst hQ
          have hP9 := hP.sub (ws' := [(m0, .inr (12, [.int 0, m_1, .ref r0, .ref w0, m_4, m_5, m_6, m_7, .int nu, m_9, m_10, m_11, m_12, .int ta, m_14, m_15, m_16, m_17, m_18, m_19, m_20, m_21, m_22, m_23, m_24, m_25, m_26, m_27, m_28, m_29, m_30, m_31, m_32, m_33, m_34, m_35, m_36, m_37, m_38, m_39, m_40, m_41, m_42, m_43, m_44, m_45, m_46, m_47, m_48, m_49, m_50, m_51, m_52, m_53, m_54, m_55, m_56, m_57, m_58, m_59])), (w0, .inl (K 0, 5500, .inl fw)), (r0, .inl (K 0, 7, .inl frf))]) [0, 1, 2] rfl
          have hD9 := hD.sub (ws' := [(m0, .inr (12, [.int 0, m_1, .ref r0, .ref w0, m_4, m_5, m_6, m_7, .int nu, m_9, m_10, m_11, m_12, .int ta, m_14, m_15, m_16, m_17, m_18, m_19, m_20, m_21, m_22, m_23, m_24, m_25, m_26, m_27, m_28, m_29, m_30, m_31, m_32, m_33, m_34, m_35, m_36, m_37, m_38, m_39, m_40, m_41, m_42, m_43, m_44, m_45, m_46, m_47, m_48, m_49, m_50, m_51, m_52, m_53, m_54, m_55, m_56, m_57, m_58, m_59])), (w0, .inl (K 0, 5500, .inl fw)), (r0, .inl (K 0, 7, .inl frf))]) [0, 1, 2] (by decide) rfl
          exact W.iret (v := x_354) hx hb hr (fun t ht hW => ⟨⟨x_354, ((fun _ => 0, fun _ => fun _ => 0, fun _ => fun _ => 0, fun _ => 0, fun _ => 0, fun _ => fun _ => none) : Su), rfl, trivial, (⟨by rw [ht]; exact hP9, hD9⟩ : Wd D A _ t)⟩, hS.F ht⟩) hS.2.2 dX12_count_161
        · refine lv_tableIn (tgt := 162) hx hb dX12_count_42 (by omega) (by omega) (by rw [w_348]; rfl) (by decide) ?_
          refine lv_aload_n hx hb dX12_count_162 rfl (lv_at hl 2 rfl) ?_
          refine va_get (ci := 12) (v := .ref r0) (C := RX12) (T := TX12) (N := 60) hx hb hts hw12 hown hK hP 0 rfl rfl 2 (by decide) (hts (.fieldLink RX12 7 "SmokeTuneModel" "refusals" "[I") (List.mem_cons_of_mem _ (List.mem_append_left _ (List.mem_of_getElem? (i := 4) rfl)))) (fun _ h9 => h9) rfl dX12_count_163 ?_
          refine lv_iconst (v := 5) hx hb dX12_count_166 (by decide) ?_
          refine va_iald hx hb hK hP 2 0 rfl rfl (i_in (x := 5) rfl (by omega)) dX12_count_167 ?_
          refine lv_topi (fun x_355 ex_355 => ?_)
          subst hQ
          have hP9 := hP.sub (ws' := [(m0, .inr (12, [.int 0, m_1, .ref r0, .ref w0, m_4, m_5, m_6, m_7, .int nu, m_9, m_10, m_11, m_12, .int ta, m_14, m_15, m_16, m_17, m_18, m_19, m_20, m_21, m_22, m_23, m_24, m_25, m_26, m_27, m_28, m_29, m_30, m_31, m_32, m_33, m_34, m_35, m_36, m_37, m_38, m_39, m_40, m_41, m_42, m_43, m_44, m_45, m_46, m_47, m_48, m_49, m_50, m_51, m_52, m_53, m_54, m_55, m_56, m_57, m_58, m_59])), (w0, .inl (K 0, 5500, .inl fw)), (r0, .inl (K 0, 7, .inl frf))]) [0, 1, 2] rfl
          have hD9 := hD.sub (ws' := [(m0, .inr (12, [.int 0, m_1, .ref r0, .ref w0, m_4, m_5, m_6, m_7, .int nu, m_9, m_10, m_11, m_12, .int ta, m_14, m_15, m_16, m_17, m_18, m_19, m_20, m_21, m_22, m_23, m_24, m_25, m_26, m_27, m_28, m_29, m_30, m_31, m_32, m_33, m_34, m_35, m_36, m_37, m_38, m_39, m_40, m_41, m_42, m_43, m_44, m_45, m_46, m_47, m_48, m_49, m_50, m_51, m_52, m_53, m_54, m_55, m_56, m_57, m_58, m_59])), (w0, .inl (K 0, 5500, .inl fw)), (r0, .inl (K 0, 7, .inl frf))]) [0, 1, 2] (by decide) rfl
          exact W.iret (v := x_355) hx hb hr (fun t ht hW => ⟨⟨x_355, ((fun _ => 0, fun _ => fun _ => 0, fun _ => fun _ => 0, fun _ => 0, fun _ => 0, fun _ => fun _ => none) : Su), rfl, trivial, (⟨by rw [ht]; exact hP9, hD9⟩ : Wd D A _ t)⟩, hS.F ht⟩) hS.2.2 dX12_count_168
        · refine lv_tableIn (tgt := 169) hx hb dX12_count_42 (by omega) (by omega) (by rw [w_348]; rfl) (by decide) ?_
          refine lv_aload_n hx hb dX12_count_169 rfl (lv_at hl 2 rfl) ?_
          refine va_get (ci := 12) (v := .ref r0) (C := RX12) (T := TX12) (N := 60) hx hb hts hw12 hown hK hP 0 rfl rfl 2 (by decide) (hts (.fieldLink RX12 7 "SmokeTuneModel" "refusals" "[I") (List.mem_cons_of_mem _ (List.mem_append_left _ (List.mem_of_getElem? (i := 4) rfl)))) (fun _ h9 => h9) rfl dX12_count_170 ?_
          refine lv_bipush (v := 6) hx hb dX12_count_173 (by decide) ?_
          refine va_iald hx hb hK hP 2 0 rfl rfl (i_in (x := 6) rfl (by omega)) dX12_count_175 ?_
          refine lv_topi (fun x_356 ex_356 => ?_)
          subst hQ
          have hP9 := hP.sub (ws' := [(m0, .inr (12, [.int 0, m_1, .ref r0, .ref w0, m_4, m_5, m_6, m_7, .int nu, m_9, m_10, m_11, m_12, .int ta, m_14, m_15, m_16, m_17, m_18, m_19, m_20, m_21, m_22, m_23, m_24, m_25, m_26, m_27, m_28, m_29, m_30, m_31, m_32, m_33, m_34, m_35, m_36, m_37, m_38, m_39, m_40, m_41, m_42, m_43, m_44, m_45, m_46, m_47, m_48, m_49, m_50, m_51, m_52, m_53, m_54, m_55, m_56, m_57, m_58, m_59])), (w0, .inl (K 0, 5500, .inl fw)), (r0, .inl (K 0, 7, .inl frf))]) [0, 1, 2] rfl
          have hD9 := hD.sub (ws' := [(m0, .inr (12, [.int 0, m_1, .ref r0, .ref w0, m_4, m_5, m_6, m_7, .int nu, m_9, m_10, m_11, m_12, .int ta, m_14, m_15, m_16, m_17, m_18, m_19, m_20, m_21, m_22, m_23, m_24, m_25, m_26, m_27, m_28, m_29, m_30, m_31, m_32, m_33, m_34, m_35, m_36, m_37, m_38, m_39, m_40, m_41, m_42, m_43, m_44, m_45, m_46, m_47, m_48, m_49, m_50, m_51, m_52, m_53, m_54, m_55, m_56, m_57, m_58, m_59])), (w0, .inl (K 0, 5500, .inl fw)), (r0, .inl (K 0, 7, .inl frf))]) [0, 1, 2] (by decide) rfl
          exact W.iret (v := x_356) hx hb hr (fun t ht hW => ⟨⟨x_356, ((fun _ => 0, fun _ => fun _ => 0, fun _ => fun _ => 0, fun _ => 0, fun _ => 0, fun _ => fun _ => none) : Su), rfl, trivial, (⟨by rw [ht]; exact hP9, hD9⟩ : Wd D A _ t)⟩, hS.F ht⟩) hS.2.2 dX12_count_176
        · refine lv_tableIn (tgt := 177) hx hb dX12_count_42 (by omega) (by omega) (by rw [w_348]; rfl) (by decide) ?_
          refine lv_aload_n hx hb dX12_count_177 rfl (lv_at hl 2 rfl) ?_
          refine va_get (ci := 12) (v := .ref w0) (C := RX12) (T := TX12) (N := 60) hx hb hts hw12 hown hK hP 0 rfl rfl 3 (by decide) (hts (.fieldLink RX12 13 "SmokeTuneModel" "row" "[I") (List.mem_cons_of_mem _ (List.mem_append_left _ (List.mem_of_getElem? (i := 1) rfl)))) (fun _ h9 => h9) rfl dX12_count_178 ?_
          refine lv_iconst (v := 3) hx hb dX12_count_181 (by decide) ?_
          refine va_iald hx hb hK hP 1 0 rfl rfl (i_in (x := 3) rfl (by omega)) dX12_count_182 ?_
          refine lv_topi (fun x_357 ex_357 => ?_)
          have px_357 := RwOK.at zfw (show (3 : Int32).toInt = 3 from rfl) (show 0 ≤ 3 ∧ 3 < 100 by omega)
          rw [← ex_357] at px_357
          have hx_357 := PR.r_3 px_357 (by omega)
          subst hQ
          have hP9 := hP.sub (ws' := [(m0, .inr (12, [.int 0, m_1, .ref r0, .ref w0, m_4, m_5, m_6, m_7, .int nu, m_9, m_10, m_11, m_12, .int ta, m_14, m_15, m_16, m_17, m_18, m_19, m_20, m_21, m_22, m_23, m_24, m_25, m_26, m_27, m_28, m_29, m_30, m_31, m_32, m_33, m_34, m_35, m_36, m_37, m_38, m_39, m_40, m_41, m_42, m_43, m_44, m_45, m_46, m_47, m_48, m_49, m_50, m_51, m_52, m_53, m_54, m_55, m_56, m_57, m_58, m_59])), (w0, .inl (K 0, 5500, .inl fw)), (r0, .inl (K 0, 7, .inl frf))]) [0, 1, 2] rfl
          have hD9 := hD.sub (ws' := [(m0, .inr (12, [.int 0, m_1, .ref r0, .ref w0, m_4, m_5, m_6, m_7, .int nu, m_9, m_10, m_11, m_12, .int ta, m_14, m_15, m_16, m_17, m_18, m_19, m_20, m_21, m_22, m_23, m_24, m_25, m_26, m_27, m_28, m_29, m_30, m_31, m_32, m_33, m_34, m_35, m_36, m_37, m_38, m_39, m_40, m_41, m_42, m_43, m_44, m_45, m_46, m_47, m_48, m_49, m_50, m_51, m_52, m_53, m_54, m_55, m_56, m_57, m_58, m_59])), (w0, .inl (K 0, 5500, .inl fw)), (r0, .inl (K 0, 7, .inl frf))]) [0, 1, 2] (by decide) rfl
          exact W.iret (v := x_357) hx hb hr (fun t ht hW => ⟨⟨x_357, ((fun _ => 0, fun _ => fun _ => 0, fun _ => fun _ => 0, fun _ => 0, fun _ => 0, fun _ => fun _ => none) : Su), rfl, trivial, (⟨by rw [ht]; exact hP9, hD9⟩ : Wd D A _ t)⟩, hS.F ht⟩) hS.2.2 dX12_count_183
        · refine lv_tableIn (tgt := 184) hx hb dX12_count_42 (by omega) (by omega) (by rw [w_348]; rfl) (by decide) ?_
          refine lv_aload_n hx hb dX12_count_184 rfl (lv_at hl 2 rfl) ?_
          refine va_get (ci := 12) (v := .ref w0) (C := RX12) (T := TX12) (N := 60) hx hb hts hw12 hown hK hP 0 rfl rfl 3 (by decide) (hts (.fieldLink RX12 13 "SmokeTuneModel" "row" "[I") (List.mem_cons_of_mem _ (List.mem_append_left _ (List.mem_of_getElem? (i := 1) rfl)))) (fun _ h9 => h9) rfl dX12_count_185 ?_
          refine lv_bipush (v := 10) hx hb dX12_count_188 (by decide) ?_
          refine va_iald hx hb hK hP 1 0 rfl rfl (i_in (x := 10) rfl (by omega)) dX12_count_190 ?_
          refine lv_topi (fun x_358 ex_358 => ?_)
          have px_358 := RwOK.at zfw (show (10 : Int32).toInt = 10 from rfl) (show 0 ≤ 10 ∧ 10 < 100 by omega)
          rw [← ex_358] at px_358
          subst hQ
          have hP9 := hP.sub (ws' := [(m0, .inr (12, [.int 0, m_1, .ref r0, .ref w0, m_4, m_5, m_6, m_7, .int nu, m_9, m_10, m_11, m_12, .int ta, m_14, m_15, m_16, m_17, m_18, m_19, m_20, m_21, m_22, m_23, m_24, m_25, m_26, m_27, m_28, m_29, m_30, m_31, m_32, m_33, m_34, m_35, m_36, m_37, m_38, m_39, m_40, m_41, m_42, m_43, m_44, m_45, m_46, m_47, m_48, m_49, m_50, m_51, m_52, m_53, m_54, m_55, m_56, m_57, m_58, m_59])), (w0, .inl (K 0, 5500, .inl fw)), (r0, .inl (K 0, 7, .inl frf))]) [0, 1, 2] rfl
          have hD9 := hD.sub (ws' := [(m0, .inr (12, [.int 0, m_1, .ref r0, .ref w0, m_4, m_5, m_6, m_7, .int nu, m_9, m_10, m_11, m_12, .int ta, m_14, m_15, m_16, m_17, m_18, m_19, m_20, m_21, m_22, m_23, m_24, m_25, m_26, m_27, m_28, m_29, m_30, m_31, m_32, m_33, m_34, m_35, m_36, m_37, m_38, m_39, m_40, m_41, m_42, m_43, m_44, m_45, m_46, m_47, m_48, m_49, m_50, m_51, m_52, m_53, m_54, m_55, m_56, m_57, m_58, m_59])), (w0, .inl (K 0, 5500, .inl fw)), (r0, .inl (K 0, 7, .inl frf))]) [0, 1, 2] (by decide) rfl
          exact W.iret (v := x_358) hx hb hr (fun t ht hW => ⟨⟨x_358, ((fun _ => 0, fun _ => fun _ => 0, fun _ => fun _ => 0, fun _ => 0, fun _ => 0, fun _ => fun _ => none) : Su), rfl, trivial, (⟨by rw [ht]; exact hP9, hD9⟩ : Wd D A _ t)⟩, hS.F ht⟩) hS.2.2 dX12_count_191
        · refine lv_tableOut (tgt := 192) hx hb dX12_count_42 (by omega) (by decide) ?_
          refine lv_iload_n hx hb dX12_count_192 rfl (lv_at hl 3 rfl) ?_
          refine lv_i2l hx hb dX12_count_193 rfl ?_
          refine lv_topl (fun x_359 ex_359 => ?_)
          have hx_359 : x_359.toInt = x.toInt := by rw [ex_359]; exact i_wide rfl
          have hbx_359 := i_rng (a := x) rfl
          refine lv_ldc2 (v := 13) hx hb hown (hts (.constantLong RX12 570 (13)) (List.mem_cons_of_mem _ (List.mem_append_left _ (List.mem_of_getElem? (i := 5) rfl)))) dX12_count_194 ?_
          refine lv_ldc2 (v := 18) hx hb hown (hts (.constantLong RX12 572 (18)) (List.mem_cons_of_mem _ (List.mem_append_left _ (List.mem_of_getElem? (i := 6) rfl)))) dX12_count_197 ?_
          refine pci (va_runS (As := [.long x_359, .long 13, .long 18]) (rest := []) ⟨hx, hb, hml, hown, hts⟩ (v_in l D K x.toInt 13 18 x_359 13 18 H.size hx_359 (show (13 : Int64).toInt = 13 from rfl) (show (18 : Int64).toInt = 18 from rfl)) (va_cwS 3 hts gX12_count_X12_in rfl rfl rfl (by decide +kernel) ⟨Nat.le_of_ble_eq_true rfl, Nat.le_of_ble_eq_true rfl⟩) (mkS hK hN (va_P.nil) (va_D.nil (A := fun _ => True))) rfl rfl hl.1 rfl (lv_room (Nat.le_of_ble_eq_true rfl)) dX12_count_200 ⟨Nat.le_of_ble_eq_true rfl, Nat.le_of_ble_eq_true rfl⟩) (fun r_360 hw => ?_)
          obtain ⟨hw, -⟩ := hw
          rcases hw with ⟨rfl, h_361, h_362⟩ | ⟨rfl, h_363⟩
          · refine lv_if_eq (tgt := 220) hx hb dX12_count_203 (by decide) (fun c_364 => absurd c_364 (by decide)) (fun c_364 => ?_)
            refine lv_aload_n hx hb dX12_count_206 rfl (lv_at hl 2 rfl) ?_
            refine va_get (ci := 12) (v := .ref w0) (C := RX12) (T := TX12) (N := 60) hx hb hts hw12 hown hK hP 0 rfl rfl 3 (by decide) (hts (.fieldLink RX12 13 "SmokeTuneModel" "row" "[I") (List.mem_cons_of_mem _ (List.mem_append_left _ (List.mem_of_getElem? (i := 1) rfl)))) (fun _ h9 => h9) rfl dX12_count_207 ?_
            refine lv_iconst (v := 4) hx hb dX12_count_210 (by decide) ?_
            refine lv_iload_n hx hb dX12_count_211 rfl (lv_at hl 3 rfl) ?_
            refine lv_iadd hx hb dX12_count_212 ?_
            refine lv_topi (fun x_365 ex_365 => ?_)
            have hx_365 : x_365.toInt = (4 + x.toInt) := by rw [ex_365]; exact i_add (show (4 : Int32).toInt = 4 from rfl) rfl (by omega)
            refine lv_bipush (v := 13) hx hb dX12_count_213 (by decide) ?_
            refine lv_isub hx hb dX12_count_215 ?_
            refine lv_topi (fun x_366 ex_366 => ?_)
            have hx_366 : x_366.toInt = ((4 + x.toInt) - 13) := by rw [ex_366]; exact i_sub hx_365 (show (13 : Int32).toInt = 13 from rfl) (by omega)
            refine va_iald hx hb hK hP 1 0 rfl rfl (i_in hx_366 (by omega)) dX12_count_216 ?_
            refine lv_topi (fun x_367 ex_367 => ?_)
            have px_367 := RwOK.at zfw hx_366 (show 0 ≤ ((4 + x.toInt) - 13) ∧ ((4 + x.toInt) - 13) < 100 by omega)
            rw [← ex_367] at px_367
            refine lv_goto (tgt := 221) hx hb dX12_count_217 (by decide) ?_
            subst hQ
            have hP9 := hP.sub (ws' := [(m0, .inr (12, [.int 0, m_1, .ref r0, .ref w0, m_4, m_5, m_6, m_7, .int nu, m_9, m_10, m_11, m_12, .int ta, m_14, m_15, m_16, m_17, m_18, m_19, m_20, m_21, m_22, m_23, m_24, m_25, m_26, m_27, m_28, m_29, m_30, m_31, m_32, m_33, m_34, m_35, m_36, m_37, m_38, m_39, m_40, m_41, m_42, m_43, m_44, m_45, m_46, m_47, m_48, m_49, m_50, m_51, m_52, m_53, m_54, m_55, m_56, m_57, m_58, m_59])), (w0, .inl (K 0, 5500, .inl fw)), (r0, .inl (K 0, 7, .inl frf))]) [0, 1, 2] rfl
            have hD9 := hD.sub (ws' := [(m0, .inr (12, [.int 0, m_1, .ref r0, .ref w0, m_4, m_5, m_6, m_7, .int nu, m_9, m_10, m_11, m_12, .int ta, m_14, m_15, m_16, m_17, m_18, m_19, m_20, m_21, m_22, m_23, m_24, m_25, m_26, m_27, m_28, m_29, m_30, m_31, m_32, m_33, m_34, m_35, m_36, m_37, m_38, m_39, m_40, m_41, m_42, m_43, m_44, m_45, m_46, m_47, m_48, m_49, m_50, m_51, m_52, m_53, m_54, m_55, m_56, m_57, m_58, m_59])), (w0, .inl (K 0, 5500, .inl fw)), (r0, .inl (K 0, 7, .inl frf))]) [0, 1, 2] (by decide) rfl
            exact W.iret (v := x_367) hx hb hr (fun t ht hW => ⟨⟨x_367, ((fun _ => 0, fun _ => fun _ => 0, fun _ => fun _ => 0, fun _ => 0, fun _ => 0, fun _ => fun _ => none) : Su), rfl, trivial, (⟨by rw [ht]; exact hP9, hD9⟩ : Wd D A _ t)⟩, hS.F ht⟩) hS.2.2 dX12_count_221
          · refine lv_if_eq (tgt := 220) hx hb dX12_count_203 (by decide) (fun c_368 => ?_) (fun c_368 => absurd (by decide) c_368)
            refine lv_iconst (v := (-1)) hx hb dX12_count_220 (by decide) ?_
            subst hQ
            have hP9 := hP.sub (ws' := [(m0, .inr (12, [.int 0, m_1, .ref r0, .ref w0, m_4, m_5, m_6, m_7, .int nu, m_9, m_10, m_11, m_12, .int ta, m_14, m_15, m_16, m_17, m_18, m_19, m_20, m_21, m_22, m_23, m_24, m_25, m_26, m_27, m_28, m_29, m_30, m_31, m_32, m_33, m_34, m_35, m_36, m_37, m_38, m_39, m_40, m_41, m_42, m_43, m_44, m_45, m_46, m_47, m_48, m_49, m_50, m_51, m_52, m_53, m_54, m_55, m_56, m_57, m_58, m_59])), (w0, .inl (K 0, 5500, .inl fw)), (r0, .inl (K 0, 7, .inl frf))]) [0, 1, 2] rfl
            have hD9 := hD.sub (ws' := [(m0, .inr (12, [.int 0, m_1, .ref r0, .ref w0, m_4, m_5, m_6, m_7, .int nu, m_9, m_10, m_11, m_12, .int ta, m_14, m_15, m_16, m_17, m_18, m_19, m_20, m_21, m_22, m_23, m_24, m_25, m_26, m_27, m_28, m_29, m_30, m_31, m_32, m_33, m_34, m_35, m_36, m_37, m_38, m_39, m_40, m_41, m_42, m_43, m_44, m_45, m_46, m_47, m_48, m_49, m_50, m_51, m_52, m_53, m_54, m_55, m_56, m_57, m_58, m_59])), (w0, .inl (K 0, 5500, .inl fw)), (r0, .inl (K 0, 7, .inl frf))]) [0, 1, 2] (by decide) rfl
            exact W.iret (v := (-1)) hx hb hr (fun t ht hW => ⟨⟨(-1), ((fun _ => 0, fun _ => fun _ => 0, fun _ => fun _ => 0, fun _ => 0, fun _ => 0, fun _ => fun _ => none) : Su), rfl, trivial, (⟨by rw [ht]; exact hP9, hD9⟩ : Wd D A _ t)⟩, hS.F ht⟩) hS.2.2 dX12_count_221
      · have c_347i := i_nle (x := x_346.toInt) (y := v_322.toInt) rfl rfl c_347
        refine lv_iload_n hx hb dX12_count_19 rfl (lv_at hl 1 rfl) ?_
        refine lv_aload_n hx hb dX12_count_20 rfl (lv_at hl 2 rfl) ?_
        refine lv_iload_n hx hb dX12_count_21 rfl (lv_at hl 0 rfl) ?_
        refine pci (va_runV (As := [.int v_322]) (rest := [.int v_323]) ⟨hx, hb, hml, hown, hts⟩ (v_isSounding l D K m0 v_322 (.int 0) m_1 (.ref r0) w0 m_4 m_5 m_6 m_7 (.int nu) m_9 m_10 m_11 m_12 (.int ta) m_14 m_15 m_16 m_17 m_18 m_19 m_20 m_21 m_22 m_23 m_24 m_25 m_26 m_27 m_28 m_29 m_30 m_31 m_32 m_33 m_34 m_35 m_36 m_37 m_38 m_39 m_40 m_41 m_42 m_43 m_44 m_45 m_46 m_47 m_48 m_49 m_50 m_51 m_52 m_53 m_54 m_55 m_56 m_57 m_58 m_59 fw H.size (by first | omega | decide) zfw) (cwV 1 hts gX12_count_X12_isSounding rfl rfl rfl (by decide +kernel) ⟨Nat.le_of_ble_eq_true rfl, Nat.le_of_ble_eq_true rfl⟩) (mkV hK hN (hP.sub [0, 1] rfl) (hD.sub [0, 1] (by decide) rfl) (ci := 12) (q0 := 0) rfl rfl) rfl rfl hl.1 rfl (lv_room (Nat.le_of_ble_eq_true rfl)) dX12_count_22 ⟨Nat.le_of_ble_eq_true rfl, Nat.le_of_ble_eq_true rfl⟩) (fun r_369 hw => ?_)
        obtain ⟨h_370, -⟩ := hw
        refine lv_if_eq (tgt := 32) hx hb dX12_count_25 (by decide) (fun c_371 => ?_) (fun c_371 => ?_)
        · have c_371i := i_eq (x := r_369.toInt) (y := 0) rfl rfl c_371
          refine lv_iconst (v := 0) hx hb dX12_count_32 (by decide) ?_
          refine lv_iadd hx hb dX12_count_33 ?_
          refine lv_topi (fun x_372 ex_372 => ?_)
          have hx_372 : x_372.toInt = (v_323.toInt + 0) := by rw [ex_372]; exact i_add rfl (show (0 : Int32).toInt = 0 from rfl) (by have q1 := i_rng (a := v_323) rfl; omega)
          refine lv_istore_n (lv' := [(2, .int x_372), (3, .int v_322), (0, .ref m0), (1, .int x)]) hx hb dX12_count_34 rfl hl (by decide) rfl (fun ls hl => ?_)
          obtain ⟨x_373, ex_373⟩ : ∃ y : Int32, y = v_322 + Int32.ofInt 1 := ⟨_, rfl⟩
          have hx_373 : x_373.toInt = (v_322.toInt + 1) := by rw [ex_373]; exact i_add rfl (show (Int32.ofInt 1).toInt = 1 from rfl) (by omega)
          refine lv_iinc (v := x_373) (lv' := [(3, .int x_373), (2, .int x_372), (0, .ref m0), (1, .int x)]) hx hb dX12_count_35 hl (k := 1) rfl (by rw [ex_373]) (by decide) rfl (fun ls hl => ?_)
          refine lv_goto (tgt := 9) hx hb dX12_count_38 (by decide) ?_
          exact ih_345 x_373 x_372 (by rw [hx_373]; omega) (by omega) _ _ hP hD hS ls (lv_sub hl [0, 1, 2, 3] rfl)
        · have c_371i := i_ne (x := r_369.toInt) (y := 0) rfl rfl c_371
          refine lv_iconst (v := 1) hx hb dX12_count_28 (by decide) ?_
          refine lv_goto (tgt := 33) hx hb dX12_count_29 (by decide) ?_
          refine lv_iadd hx hb dX12_count_33 ?_
          refine lv_topi (fun x_374 ex_374 => ?_)
          refine lv_istore_n (lv' := [(2, .int x_374), (3, .int v_322), (0, .ref m0), (1, .int x)]) hx hb dX12_count_34 rfl hl (by decide) rfl (fun ls hl => ?_)
          obtain ⟨x_375, ex_375⟩ : ∃ y : Int32, y = v_322 + Int32.ofInt 1 := ⟨_, rfl⟩
          have hx_375 : x_375.toInt = (v_322.toInt + 1) := by rw [ex_375]; exact i_add rfl (show (Int32.ofInt 1).toInt = 1 from rfl) (by omega)
          refine lv_iinc (v := x_375) (lv' := [(3, .int x_375), (2, .int x_374), (0, .ref m0), (1, .int x)]) hx hb dX12_count_35 hl (k := 1) rfl (by rw [ex_375]) (by decide) rfl (fun ls hl => ?_)
          refine lv_goto (tgt := 9) hx hb dX12_count_38 (by decide) ?_
          exact ih_345 x_375 x_374 (by rw [hx_375]; omega) (by omega) _ _ hP hD hS ls (lv_sub hl [0, 1, 2, 3] rfl)
  exact lp_344 ((9 - (0 : Int32).toInt : Int).toNat + 1) 0 0 (by decide) (Nat.lt_succ_self _) _ _ hP hD hS ls (lv_sub hl [0, 1, 2, 3] rfl)
set_option maxHeartbeats 4000000 in
set_option maxRecDepth 100000 in
theorem v_status (l : Launch) (D : va_G) (K : Nat → ClassId) (m0 : Nat) (thr : Int32) (sta : Int32) (m_2 : Value) (m_3 : Value) (m_4 : Value) (m_5 : Value) (m_6 : Value) (m_7 : Value) (m_8 : Value) (m_9 : Value) (m_10 : Value) (m_11 : Value) (m_12 : Value) (m_13 : Value) (m_14 : Value) (m_15 : Value) (m_16 : Value) (m_17 : Value) (m_18 : Value) (m_19 : Value) (m_20 : Value) (m_21 : Value) (m_22 : Value) (m_23 : Value) (m_24 : Value) (m_25 : Value) (m_26 : Value) (m_27 : Value) (m_28 : Value) (m_29 : Value) (m_30 : Value) (m_31 : Value) (m_32 : Value) (m_33 : Value) (m_34 : Value) (m_35 : Value) (m_36 : Value) (m_37 : Value) (m_38 : Value) (m_39 : Value) (m_40 : Value) (m_41 : Value) (m_42 : Value) (m_43 : Value) (m_44 : Value) (m_45 : Value) (m_46 : Value) (m_47 : Value) (m_48 : Value) (m_49 : Value) (m_50 : Value) (m_51 : Value) (m_52 : Value) (m_53 : Value) (m_54 : Value) (m_55 : Value) (m_56 : Value) (m_57 : Value) (m_58 : Value) (m_59 : Value) (sz : Nat) : Met l yX12_status wsX12_status ({ frames := 0, cells := 0, slots := 0, locals := 0 }) (va_Pc [.ref m0] (Pre D K [(m0, .inr (12, [.int thr, .int sta, m_2, m_3, m_4, m_5, m_6, m_7, m_8, m_9, m_10, m_11, m_12, m_13, m_14, m_15, m_16, m_17, m_18, m_19, m_20, m_21, m_22, m_23, m_24, m_25, m_26, m_27, m_28, m_29, m_30, m_31, m_32, m_33, m_34, m_35, m_36, m_37, m_38, m_39, m_40, m_41, m_42, m_43, m_44, m_45, m_46, m_47, m_48, m_49, m_50, m_51, m_52, m_53, m_54, m_55, m_56, m_57, m_58, m_59]))] sz)) (va_Qi (S := Su) (fun (r : Int32) (u : Su) => True) (fun u t => Wd D (va_A [(m0, .inr (12, [.int thr, .int sta, m_2, m_3, m_4, m_5, m_6, m_7, m_8, m_9, m_10, m_11, m_12, m_13, m_14, m_15, m_16, m_17, m_18, m_19, m_20, m_21, m_22, m_23, m_24, m_25, m_26, m_27, m_28, m_29, m_30, m_31, m_32, m_33, m_34, m_35, m_36, m_37, m_38, m_39, m_40, m_41, m_42, m_43, m_44, m_45, m_46, m_47, m_48, m_49, m_50, m_51, m_52, m_53, m_54, m_55, m_56, m_57, m_58, m_59]))] sz) ((fun u => [(m0, .inr (12, [.int 0, .int sta, m_2, m_3, m_4, m_5, m_6, m_7, m_8, m_9, m_10, m_11, m_12, m_13, m_14, m_15, m_16, m_17, m_18, m_19, m_20, m_21, m_22, m_23, m_24, m_25, m_26, m_27, m_28, m_29, m_30, m_31, m_32, m_33, m_34, m_35, m_36, m_37, m_38, m_39, m_40, m_41, m_42, m_43, m_44, m_45, m_46, m_47, m_48, m_49, m_50, m_51, m_52, m_53, m_54, m_55, m_56, m_57, m_58, m_59]))]) u) t) (va_A [(m0, .inr (12, [.int thr, .int sta, m_2, m_3, m_4, m_5, m_6, m_7, m_8, m_9, m_10, m_11, m_12, m_13, m_14, m_15, m_16, m_17, m_18, m_19, m_20, m_21, m_22, m_23, m_24, m_25, m_26, m_27, m_28, m_29, m_30, m_31, m_32, m_33, m_34, m_35, m_36, m_37, m_38, m_39, m_40, m_41, m_42, m_43, m_44, m_45, m_46, m_47, m_48, m_49, m_50, m_51, m_52, m_53, m_54, m_55, m_56, m_57, m_58, m_59]))] sz)) 0 0 (va_A [(m0, .inr (12, [.int thr, .int sta, m_2, m_3, m_4, m_5, m_6, m_7, m_8, m_9, m_10, m_11, m_12, m_13, m_14, m_15, m_16, m_17, m_18, m_19, m_20, m_21, m_22, m_23, m_24, m_25, m_26, m_27, m_28, m_29, m_30, m_31, m_32, m_33, m_34, m_35, m_36, m_37, m_38, m_39, m_40, m_41, m_42, m_43, m_44, m_45, m_46, m_47, m_48, m_49, m_50, m_51, m_52, m_53, m_54, m_55, m_56, m_57, m_58, m_59]))] sz) := by
  refine Met.ofW (cc := cX12_status) (maxL := 1) (ret := (some .int)) (by decide) rfl ?_
  intro p e s m args below meth c s₁ B hml hv
  obtain ⟨rfl, hsz, hP, hK, hD0, hN⟩ := hv
  have hx := B.exec
  have hb := B.bytes
  have hr := B.returns
  have hts := atoms_spec (ws := wsX12_status) B.pre
  have hown : s.vm.findClass RX12 = some m.cls := findClass_of_methodNamed B.named
  have hlocks := B.notSynchronized
  subst hsz
  have hD := hD0.self (sz := s.heap.size)
  generalize hAe : va_A [(m0, .inr (12, [.int thr, .int sta, m_2, m_3, m_4, m_5, m_6, m_7, m_8, m_9, m_10, m_11, m_12, m_13, m_14, m_15, m_16, m_17, m_18, m_19, m_20, m_21, m_22, m_23, m_24, m_25, m_26, m_27, m_28, m_29, m_30, m_31, m_32, m_33, m_34, m_35, m_36, m_37, m_38, m_39, m_40, m_41, m_42, m_43, m_44, m_45, m_46, m_47, m_48, m_49, m_50, m_51, m_52, m_53, m_54, m_55, m_56, m_57, m_58, m_59]))] s.heap.size = A at hD ⊢
  have hA : ∀ q : Nat, s.heap.size ≤ q → A q := fun q h => by rw [← hAe]; exact Or.inr h
  have hS : va_S A s.heap s.heap [] := va_S.rf
  have hP : va_P D vwCl [(m0, .inr (12, [.int thr, .int sta, m_2, m_3, m_4, m_5, m_6, m_7, m_8, m_9, m_10, m_11, m_12, m_13, m_14, m_15, m_16, m_17, m_18, m_19, m_20, m_21, m_22, m_23, m_24, m_25, m_26, m_27, m_28, m_29, m_30, m_31, m_32, m_33, m_34, m_35, m_36, m_37, m_38, m_39, m_40, m_41, m_42, m_43, m_44, m_45, m_46, m_47, m_48, m_49, m_50, m_51, m_52, m_53, m_54, m_55, m_56, m_57, m_58, m_59]))] s.heap := hP
  have hl := lv_entry [.ref m0] (n := 1) (Nat.le_of_ble_eq_true rfl)
  rw [lg_entry_eq]
  generalize (lg_sl [.ref m0] ++ List.replicate (1 - (lg_sl [.ref m0]).length) Slot.unset).toArray = ls at hl ⊢
  have hl : lv_has ls 1 [(0, .ref m0)] := hl
  have hw12 : ∀ w ∈ wsX120, w ∈ wsX12_status := fun w h => (List.mem_cons_of_mem _ (List.mem_append_right _ h))
  generalize hQ : MQ below _ _ s _ _ _ = Q
  refine lv_aload_n hx hb dX12_status_0 rfl (lv_at hl 0 rfl) ?_
  refine lv_iconst (v := 0) hx hb dX12_status_1 (by decide) ?_
  refine va_put (ci := 12) (v := .int 0) (ty := .int) (C := RX12) (T := TX12) (N := 60) hx hb hts hw12 tyX12 tyX12_ok nmX12 hown hK hP hD hS 0 rfl rfl 0 (by decide) (hts (.fieldLink RX12 158 "SmokeTuneModel" "thrown" "I") (List.mem_cons_of_mem _ (List.mem_append_left _ (List.mem_of_getElem? (i := 0) rfl)))) (fun _ h9 => h9) rfl (by decide +kernel) (by first | rfl | decide) (by first | rfl | decide) (Nat.le_of_ble_eq_true rfl) dX12_status_2 (fun H locs hP hD hS => ?_)
  have hP : va_P D vwCl [(m0, .inr (12, [.int 0, .int sta, m_2, m_3, m_4, m_5, m_6, m_7, m_8, m_9, m_10, m_11, m_12, m_13, m_14, m_15, m_16, m_17, m_18, m_19, m_20, m_21, m_22, m_23, m_24, m_25, m_26, m_27, m_28, m_29, m_30, m_31, m_32, m_33, m_34, m_35, m_36, m_37, m_38, m_39, m_40, m_41, m_42, m_43, m_44, m_45, m_46, m_47, m_48, m_49, m_50, m_51, m_52, m_53, m_54, m_55, m_56, m_57, m_58, m_59]))] H := hP
  have hD : va_D A [(m0, .inr (12, [.int 0, .int sta, m_2, m_3, m_4, m_5, m_6, m_7, m_8, m_9, m_10, m_11, m_12, m_13, m_14, m_15, m_16, m_17, m_18, m_19, m_20, m_21, m_22, m_23, m_24, m_25, m_26, m_27, m_28, m_29, m_30, m_31, m_32, m_33, m_34, m_35, m_36, m_37, m_38, m_39, m_40, m_41, m_42, m_43, m_44, m_45, m_46, m_47, m_48, m_49, m_50, m_51, m_52, m_53, m_54, m_55, m_56, m_57, m_58, m_59]))] := hD
  refine lv_aload_n hx hb dX12_status_5 rfl (lv_at hl 0 rfl) ?_
  refine va_get (ci := 12) (v := .int sta) (C := RX12) (T := TX12) (N := 60) hx hb hts hw12 hown hK hP 0 rfl rfl 1 (by decide) (hts (.fieldLink RX12 161 "SmokeTuneModel" "status" "I") (List.mem_cons_of_mem _ (List.mem_append_left _ (List.mem_of_getElem? (i := 1) rfl)))) (fun _ h9 => h9) rfl dX12_status_6 ?_
  subst hQ
  have hP9 := hP.sub (ws' := [(m0, .inr (12, [.int 0, .int sta, m_2, m_3, m_4, m_5, m_6, m_7, m_8, m_9, m_10, m_11, m_12, m_13, m_14, m_15, m_16, m_17, m_18, m_19, m_20, m_21, m_22, m_23, m_24, m_25, m_26, m_27, m_28, m_29, m_30, m_31, m_32, m_33, m_34, m_35, m_36, m_37, m_38, m_39, m_40, m_41, m_42, m_43, m_44, m_45, m_46, m_47, m_48, m_49, m_50, m_51, m_52, m_53, m_54, m_55, m_56, m_57, m_58, m_59]))]) [0] rfl
  have hD9 := hD.sub (ws' := [(m0, .inr (12, [.int 0, .int sta, m_2, m_3, m_4, m_5, m_6, m_7, m_8, m_9, m_10, m_11, m_12, m_13, m_14, m_15, m_16, m_17, m_18, m_19, m_20, m_21, m_22, m_23, m_24, m_25, m_26, m_27, m_28, m_29, m_30, m_31, m_32, m_33, m_34, m_35, m_36, m_37, m_38, m_39, m_40, m_41, m_42, m_43, m_44, m_45, m_46, m_47, m_48, m_49, m_50, m_51, m_52, m_53, m_54, m_55, m_56, m_57, m_58, m_59]))]) [0] (by decide) rfl
  exact W.iret (v := sta) hx hb hr (fun t ht hW => ⟨⟨sta, ((fun _ => 0, fun _ => fun _ => 0, fun _ => fun _ => 0, fun _ => 0, fun _ => 0, fun _ => fun _ => none) : Su), rfl, trivial, (⟨by rw [ht]; exact hP9, hD9⟩ : Wd D A _ t)⟩, hS.F ht⟩) hS.2.2 dX12_status_9
set_option maxHeartbeats 4000000 in
set_option maxRecDepth 100000 in
theorem v_stopped (l : Launch) (D : va_G) (K : Nat → ClassId) (m0 : Nat) (thr : Int32) (m_1 : Value) (m_2 : Value) (m_3 : Value) (m_4 : Value) (m_5 : Value) (m_6 : Value) (m_7 : Value) (m_8 : Value) (m_9 : Value) (m_10 : Value) (m_11 : Value) (m_12 : Value) (m_13 : Value) (m_14 : Value) (m_15 : Value) (m_16 : Value) (m_17 : Value) (m_18 : Value) (m_19 : Value) (m_20 : Value) (m_21 : Value) (m_22 : Value) (m_23 : Value) (m_24 : Value) (m_25 : Value) (m_26 : Value) (m_27 : Value) (m_28 : Value) (m_29 : Value) (m_30 : Value) (m_31 : Value) (m_32 : Value) (m_33 : Value) (m_34 : Value) (m_35 : Value) (m_36 : Value) (m_37 : Value) (m_38 : Value) (m_39 : Value) (m_40 : Value) (m_41 : Value) (m_42 : Value) (m_43 : Value) (m_44 : Value) (m_45 : Value) (m_46 : Value) (m_47 : Value) (m_48 : Value) (m_49 : Value) (m_50 : Value) (m_51 : Value) (m_52 : Value) (m_53 : Value) (sto : Int32) (m_55 : Value) (m_56 : Value) (m_57 : Value) (m_58 : Value) (m_59 : Value) (sz : Nat) : Met l yX12_stopped wsX12_stopped ({ frames := 0, cells := 0, slots := 0, locals := 0 }) (va_Pc [.ref m0] (Pre D K [(m0, .inr (12, [.int thr, m_1, m_2, m_3, m_4, m_5, m_6, m_7, m_8, m_9, m_10, m_11, m_12, m_13, m_14, m_15, m_16, m_17, m_18, m_19, m_20, m_21, m_22, m_23, m_24, m_25, m_26, m_27, m_28, m_29, m_30, m_31, m_32, m_33, m_34, m_35, m_36, m_37, m_38, m_39, m_40, m_41, m_42, m_43, m_44, m_45, m_46, m_47, m_48, m_49, m_50, m_51, m_52, m_53, .int sto, m_55, m_56, m_57, m_58, m_59]))] sz)) (va_Qi (S := Su) (fun (r : Int32) (u : Su) => True) (fun u t => Wd D (va_A [(m0, .inr (12, [.int thr, m_1, m_2, m_3, m_4, m_5, m_6, m_7, m_8, m_9, m_10, m_11, m_12, m_13, m_14, m_15, m_16, m_17, m_18, m_19, m_20, m_21, m_22, m_23, m_24, m_25, m_26, m_27, m_28, m_29, m_30, m_31, m_32, m_33, m_34, m_35, m_36, m_37, m_38, m_39, m_40, m_41, m_42, m_43, m_44, m_45, m_46, m_47, m_48, m_49, m_50, m_51, m_52, m_53, .int sto, m_55, m_56, m_57, m_58, m_59]))] sz) ((fun u => [(m0, .inr (12, [.int 0, m_1, m_2, m_3, m_4, m_5, m_6, m_7, m_8, m_9, m_10, m_11, m_12, m_13, m_14, m_15, m_16, m_17, m_18, m_19, m_20, m_21, m_22, m_23, m_24, m_25, m_26, m_27, m_28, m_29, m_30, m_31, m_32, m_33, m_34, m_35, m_36, m_37, m_38, m_39, m_40, m_41, m_42, m_43, m_44, m_45, m_46, m_47, m_48, m_49, m_50, m_51, m_52, m_53, .int sto, m_55, m_56, m_57, m_58, m_59]))]) u) t) (va_A [(m0, .inr (12, [.int thr, m_1, m_2, m_3, m_4, m_5, m_6, m_7, m_8, m_9, m_10, m_11, m_12, m_13, m_14, m_15, m_16, m_17, m_18, m_19, m_20, m_21, m_22, m_23, m_24, m_25, m_26, m_27, m_28, m_29, m_30, m_31, m_32, m_33, m_34, m_35, m_36, m_37, m_38, m_39, m_40, m_41, m_42, m_43, m_44, m_45, m_46, m_47, m_48, m_49, m_50, m_51, m_52, m_53, .int sto, m_55, m_56, m_57, m_58, m_59]))] sz)) 0 0 (va_A [(m0, .inr (12, [.int thr, m_1, m_2, m_3, m_4, m_5, m_6, m_7, m_8, m_9, m_10, m_11, m_12, m_13, m_14, m_15, m_16, m_17, m_18, m_19, m_20, m_21, m_22, m_23, m_24, m_25, m_26, m_27, m_28, m_29, m_30, m_31, m_32, m_33, m_34, m_35, m_36, m_37, m_38, m_39, m_40, m_41, m_42, m_43, m_44, m_45, m_46, m_47, m_48, m_49, m_50, m_51, m_52, m_53, .int sto, m_55, m_56, m_57, m_58, m_59]))] sz) := by
  refine Met.ofW (cc := cX12_stopped) (maxL := 1) (ret := (some .int)) (by decide) rfl ?_
  intro p e s m args below meth c s₁ B hml hv
  obtain ⟨rfl, hsz, hP, hK, hD0, hN⟩ := hv
  have hx := B.exec
  have hb := B.bytes
  have hr := B.returns
  have hts := atoms_spec (ws := wsX12_stopped) B.pre
  have hown : s.vm.findClass RX12 = some m.cls := findClass_of_methodNamed B.named
  have hlocks := B.notSynchronized
  subst hsz
  have hD := hD0.self (sz := s.heap.size)
  generalize hAe : va_A [(m0, .inr (12, [.int thr, m_1, m_2, m_3, m_4, m_5, m_6, m_7, m_8, m_9, m_10, m_11, m_12, m_13, m_14, m_15, m_16, m_17, m_18, m_19, m_20, m_21, m_22, m_23, m_24, m_25, m_26, m_27, m_28, m_29, m_30, m_31, m_32, m_33, m_34, m_35, m_36, m_37, m_38, m_39, m_40, m_41, m_42, m_43, m_44, m_45, m_46, m_47, m_48, m_49, m_50, m_51, m_52, m_53, .int sto, m_55, m_56, m_57, m_58, m_59]))] s.heap.size = A at hD ⊢
  have hA : ∀ q : Nat, s.heap.size ≤ q → A q := fun q h => by rw [← hAe]; exact Or.inr h
  have hS : va_S A s.heap s.heap [] := va_S.rf
  have hP : va_P D vwCl [(m0, .inr (12, [.int thr, m_1, m_2, m_3, m_4, m_5, m_6, m_7, m_8, m_9, m_10, m_11, m_12, m_13, m_14, m_15, m_16, m_17, m_18, m_19, m_20, m_21, m_22, m_23, m_24, m_25, m_26, m_27, m_28, m_29, m_30, m_31, m_32, m_33, m_34, m_35, m_36, m_37, m_38, m_39, m_40, m_41, m_42, m_43, m_44, m_45, m_46, m_47, m_48, m_49, m_50, m_51, m_52, m_53, .int sto, m_55, m_56, m_57, m_58, m_59]))] s.heap := hP
  have hl := lv_entry [.ref m0] (n := 1) (Nat.le_of_ble_eq_true rfl)
  rw [lg_entry_eq]
  generalize (lg_sl [.ref m0] ++ List.replicate (1 - (lg_sl [.ref m0]).length) Slot.unset).toArray = ls at hl ⊢
  have hl : lv_has ls 1 [(0, .ref m0)] := hl
  have hw12 : ∀ w ∈ wsX120, w ∈ wsX12_stopped := fun w h => (List.mem_cons_of_mem _ (List.mem_append_right _ h))
  generalize hQ : MQ below _ _ s _ _ _ = Q
  refine lv_aload_n hx hb dX12_stopped_0 rfl (lv_at hl 0 rfl) ?_
  refine lv_iconst (v := 0) hx hb dX12_stopped_1 (by decide) ?_
  refine va_put (ci := 12) (v := .int 0) (ty := .int) (C := RX12) (T := TX12) (N := 60) hx hb hts hw12 tyX12 tyX12_ok nmX12 hown hK hP hD hS 0 rfl rfl 0 (by decide) (hts (.fieldLink RX12 158 "SmokeTuneModel" "thrown" "I") (List.mem_cons_of_mem _ (List.mem_append_left _ (List.mem_of_getElem? (i := 0) rfl)))) (fun _ h9 => h9) rfl (by decide +kernel) (by first | rfl | decide) (by first | rfl | decide) (Nat.le_of_ble_eq_true rfl) dX12_stopped_2 (fun H locs hP hD hS => ?_)
  have hP : va_P D vwCl [(m0, .inr (12, [.int 0, m_1, m_2, m_3, m_4, m_5, m_6, m_7, m_8, m_9, m_10, m_11, m_12, m_13, m_14, m_15, m_16, m_17, m_18, m_19, m_20, m_21, m_22, m_23, m_24, m_25, m_26, m_27, m_28, m_29, m_30, m_31, m_32, m_33, m_34, m_35, m_36, m_37, m_38, m_39, m_40, m_41, m_42, m_43, m_44, m_45, m_46, m_47, m_48, m_49, m_50, m_51, m_52, m_53, .int sto, m_55, m_56, m_57, m_58, m_59]))] H := hP
  have hD : va_D A [(m0, .inr (12, [.int 0, m_1, m_2, m_3, m_4, m_5, m_6, m_7, m_8, m_9, m_10, m_11, m_12, m_13, m_14, m_15, m_16, m_17, m_18, m_19, m_20, m_21, m_22, m_23, m_24, m_25, m_26, m_27, m_28, m_29, m_30, m_31, m_32, m_33, m_34, m_35, m_36, m_37, m_38, m_39, m_40, m_41, m_42, m_43, m_44, m_45, m_46, m_47, m_48, m_49, m_50, m_51, m_52, m_53, .int sto, m_55, m_56, m_57, m_58, m_59]))] := hD
  refine lv_aload_n hx hb dX12_stopped_5 rfl (lv_at hl 0 rfl) ?_
  refine va_get (ci := 12) (v := .int sto) (C := RX12) (T := TX12) (N := 60) hx hb hts hw12 hown hK hP 0 rfl rfl 54 (by decide) (hts (.fieldLink RX12 149 "SmokeTuneModel" "stopped" "I") (List.mem_cons_of_mem _ (List.mem_append_left _ (List.mem_of_getElem? (i := 1) rfl)))) (fun _ h9 => h9) rfl dX12_stopped_6 ?_
  subst hQ
  have hP9 := hP.sub (ws' := [(m0, .inr (12, [.int 0, m_1, m_2, m_3, m_4, m_5, m_6, m_7, m_8, m_9, m_10, m_11, m_12, m_13, m_14, m_15, m_16, m_17, m_18, m_19, m_20, m_21, m_22, m_23, m_24, m_25, m_26, m_27, m_28, m_29, m_30, m_31, m_32, m_33, m_34, m_35, m_36, m_37, m_38, m_39, m_40, m_41, m_42, m_43, m_44, m_45, m_46, m_47, m_48, m_49, m_50, m_51, m_52, m_53, .int sto, m_55, m_56, m_57, m_58, m_59]))]) [0] rfl
  have hD9 := hD.sub (ws' := [(m0, .inr (12, [.int 0, m_1, m_2, m_3, m_4, m_5, m_6, m_7, m_8, m_9, m_10, m_11, m_12, m_13, m_14, m_15, m_16, m_17, m_18, m_19, m_20, m_21, m_22, m_23, m_24, m_25, m_26, m_27, m_28, m_29, m_30, m_31, m_32, m_33, m_34, m_35, m_36, m_37, m_38, m_39, m_40, m_41, m_42, m_43, m_44, m_45, m_46, m_47, m_48, m_49, m_50, m_51, m_52, m_53, .int sto, m_55, m_56, m_57, m_58, m_59]))]) [0] (by decide) rfl
  exact W.iret (v := sto) hx hb hr (fun t ht hW => ⟨⟨sto, ((fun _ => 0, fun _ => fun _ => 0, fun _ => fun _ => 0, fun _ => 0, fun _ => 0, fun _ => fun _ => none) : Su), rfl, trivial, (⟨by rw [ht]; exact hP9, hD9⟩ : Wd D A _ t)⟩, hS.F ht⟩) hS.2.2 dX12_stopped_9
set_option maxHeartbeats 4000000 in
set_option maxRecDepth 100000 in
theorem v_fault (l : Launch) (D : va_G) (K : Nat → ClassId) (m0 : Nat) (thr : Int32) (m_1 : Value) (m_2 : Value) (m_3 : Value) (m_4 : Value) (m_5 : Value) (m_6 : Value) (m_7 : Value) (m_8 : Value) (m_9 : Value) (m_10 : Value) (m_11 : Value) (m_12 : Value) (m_13 : Value) (m_14 : Value) (m_15 : Value) (m_16 : Value) (m_17 : Value) (fau : Int32) (m_19 : Value) (m_20 : Value) (m_21 : Value) (m_22 : Value) (m_23 : Value) (m_24 : Value) (m_25 : Value) (m_26 : Value) (m_27 : Value) (m_28 : Value) (m_29 : Value) (m_30 : Value) (m_31 : Value) (m_32 : Value) (m_33 : Value) (m_34 : Value) (m_35 : Value) (m_36 : Value) (m_37 : Value) (m_38 : Value) (m_39 : Value) (m_40 : Value) (m_41 : Value) (m_42 : Value) (m_43 : Value) (m_44 : Value) (m_45 : Value) (m_46 : Value) (m_47 : Value) (m_48 : Value) (m_49 : Value) (m_50 : Value) (m_51 : Value) (m_52 : Value) (m_53 : Value) (m_54 : Value) (m_55 : Value) (m_56 : Value) (m_57 : Value) (m_58 : Value) (m_59 : Value) (sz : Nat) : Met l yX12_fault wsX12_fault ({ frames := 0, cells := 0, slots := 0, locals := 0 }) (va_Pc [.ref m0] (Pre D K [(m0, .inr (12, [.int thr, m_1, m_2, m_3, m_4, m_5, m_6, m_7, m_8, m_9, m_10, m_11, m_12, m_13, m_14, m_15, m_16, m_17, .int fau, m_19, m_20, m_21, m_22, m_23, m_24, m_25, m_26, m_27, m_28, m_29, m_30, m_31, m_32, m_33, m_34, m_35, m_36, m_37, m_38, m_39, m_40, m_41, m_42, m_43, m_44, m_45, m_46, m_47, m_48, m_49, m_50, m_51, m_52, m_53, m_54, m_55, m_56, m_57, m_58, m_59]))] sz)) (va_Qi (S := Su) (fun (r : Int32) (u : Su) => True) (fun u t => Wd D (va_A [(m0, .inr (12, [.int thr, m_1, m_2, m_3, m_4, m_5, m_6, m_7, m_8, m_9, m_10, m_11, m_12, m_13, m_14, m_15, m_16, m_17, .int fau, m_19, m_20, m_21, m_22, m_23, m_24, m_25, m_26, m_27, m_28, m_29, m_30, m_31, m_32, m_33, m_34, m_35, m_36, m_37, m_38, m_39, m_40, m_41, m_42, m_43, m_44, m_45, m_46, m_47, m_48, m_49, m_50, m_51, m_52, m_53, m_54, m_55, m_56, m_57, m_58, m_59]))] sz) ((fun u => [(m0, .inr (12, [.int 0, m_1, m_2, m_3, m_4, m_5, m_6, m_7, m_8, m_9, m_10, m_11, m_12, m_13, m_14, m_15, m_16, m_17, .int fau, m_19, m_20, m_21, m_22, m_23, m_24, m_25, m_26, m_27, m_28, m_29, m_30, m_31, m_32, m_33, m_34, m_35, m_36, m_37, m_38, m_39, m_40, m_41, m_42, m_43, m_44, m_45, m_46, m_47, m_48, m_49, m_50, m_51, m_52, m_53, m_54, m_55, m_56, m_57, m_58, m_59]))]) u) t) (va_A [(m0, .inr (12, [.int thr, m_1, m_2, m_3, m_4, m_5, m_6, m_7, m_8, m_9, m_10, m_11, m_12, m_13, m_14, m_15, m_16, m_17, .int fau, m_19, m_20, m_21, m_22, m_23, m_24, m_25, m_26, m_27, m_28, m_29, m_30, m_31, m_32, m_33, m_34, m_35, m_36, m_37, m_38, m_39, m_40, m_41, m_42, m_43, m_44, m_45, m_46, m_47, m_48, m_49, m_50, m_51, m_52, m_53, m_54, m_55, m_56, m_57, m_58, m_59]))] sz)) 0 0 (va_A [(m0, .inr (12, [.int thr, m_1, m_2, m_3, m_4, m_5, m_6, m_7, m_8, m_9, m_10, m_11, m_12, m_13, m_14, m_15, m_16, m_17, .int fau, m_19, m_20, m_21, m_22, m_23, m_24, m_25, m_26, m_27, m_28, m_29, m_30, m_31, m_32, m_33, m_34, m_35, m_36, m_37, m_38, m_39, m_40, m_41, m_42, m_43, m_44, m_45, m_46, m_47, m_48, m_49, m_50, m_51, m_52, m_53, m_54, m_55, m_56, m_57, m_58, m_59]))] sz) := by
  refine Met.ofW (cc := cX12_fault) (maxL := 1) (ret := (some .int)) (by decide) rfl ?_
  intro p e s m args below meth c s₁ B hml hv
  obtain ⟨rfl, hsz, hP, hK, hD0, hN⟩ := hv
  have hx := B.exec
  have hb := B.bytes
  have hr := B.returns
  have hts := atoms_spec (ws := wsX12_fault) B.pre
  have hown : s.vm.findClass RX12 = some m.cls := findClass_of_methodNamed B.named
  have hlocks := B.notSynchronized
  subst hsz
  have hD := hD0.self (sz := s.heap.size)
  generalize hAe : va_A [(m0, .inr (12, [.int thr, m_1, m_2, m_3, m_4, m_5, m_6, m_7, m_8, m_9, m_10, m_11, m_12, m_13, m_14, m_15, m_16, m_17, .int fau, m_19, m_20, m_21, m_22, m_23, m_24, m_25, m_26, m_27, m_28, m_29, m_30, m_31, m_32, m_33, m_34, m_35, m_36, m_37, m_38, m_39, m_40, m_41, m_42, m_43, m_44, m_45, m_46, m_47, m_48, m_49, m_50, m_51, m_52, m_53, m_54, m_55, m_56, m_57, m_58, m_59]))] s.heap.size = A at hD ⊢
  have hA : ∀ q : Nat, s.heap.size ≤ q → A q := fun q h => by rw [← hAe]; exact Or.inr h
  have hS : va_S A s.heap s.heap [] := va_S.rf
  have hP : va_P D vwCl [(m0, .inr (12, [.int thr, m_1, m_2, m_3, m_4, m_5, m_6, m_7, m_8, m_9, m_10, m_11, m_12, m_13, m_14, m_15, m_16, m_17, .int fau, m_19, m_20, m_21, m_22, m_23, m_24, m_25, m_26, m_27, m_28, m_29, m_30, m_31, m_32, m_33, m_34, m_35, m_36, m_37, m_38, m_39, m_40, m_41, m_42, m_43, m_44, m_45, m_46, m_47, m_48, m_49, m_50, m_51, m_52, m_53, m_54, m_55, m_56, m_57, m_58, m_59]))] s.heap := hP
  have hl := lv_entry [.ref m0] (n := 1) (Nat.le_of_ble_eq_true rfl)
  rw [lg_entry_eq]
  generalize (lg_sl [.ref m0] ++ List.replicate (1 - (lg_sl [.ref m0]).length) Slot.unset).toArray = ls at hl ⊢
  have hl : lv_has ls 1 [(0, .ref m0)] := hl
  have hw12 : ∀ w ∈ wsX120, w ∈ wsX12_fault := fun w h => (List.mem_cons_of_mem _ (List.mem_append_right _ h))
  generalize hQ : MQ below _ _ s _ _ _ = Q
  refine lv_aload_n hx hb dX12_fault_0 rfl (lv_at hl 0 rfl) ?_
  refine lv_iconst (v := 0) hx hb dX12_fault_1 (by decide) ?_
  refine va_put (ci := 12) (v := .int 0) (ty := .int) (C := RX12) (T := TX12) (N := 60) hx hb hts hw12 tyX12 tyX12_ok nmX12 hown hK hP hD hS 0 rfl rfl 0 (by decide) (hts (.fieldLink RX12 158 "SmokeTuneModel" "thrown" "I") (List.mem_cons_of_mem _ (List.mem_append_left _ (List.mem_of_getElem? (i := 0) rfl)))) (fun _ h9 => h9) rfl (by decide +kernel) (by first | rfl | decide) (by first | rfl | decide) (Nat.le_of_ble_eq_true rfl) dX12_fault_2 (fun H locs hP hD hS => ?_)
  have hP : va_P D vwCl [(m0, .inr (12, [.int 0, m_1, m_2, m_3, m_4, m_5, m_6, m_7, m_8, m_9, m_10, m_11, m_12, m_13, m_14, m_15, m_16, m_17, .int fau, m_19, m_20, m_21, m_22, m_23, m_24, m_25, m_26, m_27, m_28, m_29, m_30, m_31, m_32, m_33, m_34, m_35, m_36, m_37, m_38, m_39, m_40, m_41, m_42, m_43, m_44, m_45, m_46, m_47, m_48, m_49, m_50, m_51, m_52, m_53, m_54, m_55, m_56, m_57, m_58, m_59]))] H := hP
  have hD : va_D A [(m0, .inr (12, [.int 0, m_1, m_2, m_3, m_4, m_5, m_6, m_7, m_8, m_9, m_10, m_11, m_12, m_13, m_14, m_15, m_16, m_17, .int fau, m_19, m_20, m_21, m_22, m_23, m_24, m_25, m_26, m_27, m_28, m_29, m_30, m_31, m_32, m_33, m_34, m_35, m_36, m_37, m_38, m_39, m_40, m_41, m_42, m_43, m_44, m_45, m_46, m_47, m_48, m_49, m_50, m_51, m_52, m_53, m_54, m_55, m_56, m_57, m_58, m_59]))] := hD
  refine lv_aload_n hx hb dX12_fault_5 rfl (lv_at hl 0 rfl) ?_
  refine va_get (ci := 12) (v := .int fau) (C := RX12) (T := TX12) (N := 60) hx hb hts hw12 hown hK hP 0 rfl rfl 18 (by decide) (hts (.fieldLink RX12 38 "SmokeTuneModel" "fault" "I") (List.mem_cons_of_mem _ (List.mem_append_left _ (List.mem_of_getElem? (i := 1) rfl)))) (fun _ h9 => h9) rfl dX12_fault_6 ?_
  subst hQ
  have hP9 := hP.sub (ws' := [(m0, .inr (12, [.int 0, m_1, m_2, m_3, m_4, m_5, m_6, m_7, m_8, m_9, m_10, m_11, m_12, m_13, m_14, m_15, m_16, m_17, .int fau, m_19, m_20, m_21, m_22, m_23, m_24, m_25, m_26, m_27, m_28, m_29, m_30, m_31, m_32, m_33, m_34, m_35, m_36, m_37, m_38, m_39, m_40, m_41, m_42, m_43, m_44, m_45, m_46, m_47, m_48, m_49, m_50, m_51, m_52, m_53, m_54, m_55, m_56, m_57, m_58, m_59]))]) [0] rfl
  have hD9 := hD.sub (ws' := [(m0, .inr (12, [.int 0, m_1, m_2, m_3, m_4, m_5, m_6, m_7, m_8, m_9, m_10, m_11, m_12, m_13, m_14, m_15, m_16, m_17, .int fau, m_19, m_20, m_21, m_22, m_23, m_24, m_25, m_26, m_27, m_28, m_29, m_30, m_31, m_32, m_33, m_34, m_35, m_36, m_37, m_38, m_39, m_40, m_41, m_42, m_43, m_44, m_45, m_46, m_47, m_48, m_49, m_50, m_51, m_52, m_53, m_54, m_55, m_56, m_57, m_58, m_59]))]) [0] (by decide) rfl
  exact W.iret (v := fau) hx hb hr (fun t ht hW => ⟨⟨fau, ((fun _ => 0, fun _ => fun _ => 0, fun _ => fun _ => 0, fun _ => 0, fun _ => 0, fun _ => fun _ => none) : Su), rfl, trivial, (⟨by rw [ht]; exact hP9, hD9⟩ : Wd D A _ t)⟩, hS.F ht⟩) hS.2.2 dX12_fault_9
