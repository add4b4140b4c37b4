theorem dX12_within_0 : decode cX12_within 0 = .ok (.lload_n 0, 1) := by decide +kernel
theorem dX12_within_1 : decode cX12_within 1 = .ok (.iload_n 2, 1) := by decide +kernel
theorem dX12_within_2 : decode cX12_within 2 = .ok (.i2l, 1) := by decide +kernel
theorem dX12_within_3 : decode cX12_within 3 = .ok (.lcmp, 1) := by decide +kernel
theorem dX12_within_4 : decode cX12_within 4 = .ok (.ifCond .ge 7, 3) := by decide +kernel
theorem dX12_within_11 : decode cX12_within 11 = .ok (.lload_n 0, 1) := by decide +kernel
theorem dX12_within_12 : decode cX12_within 12 = .ok (.iload_n 3, 1) := by decide +kernel
theorem dX12_within_13 : decode cX12_within 13 = .ok (.i2l, 1) := by decide +kernel
theorem dX12_within_14 : decode cX12_within 14 = .ok (.lcmp, 1) := by decide +kernel
theorem dX12_within_15 : decode cX12_within 15 = .ok (.ifCond .le 7, 3) := by decide +kernel
theorem dX12_within_22 : decode cX12_within 22 = .ok (.lload_n 0, 1) := by decide +kernel
theorem dX12_within_23 : decode cX12_within 23 = .ok (.l2i, 1) := by decide +kernel
theorem dX12_within_24 : decode cX12_within 24 = .ok (.ireturn, 1) := by decide +kernel
theorem dX12_within_18 : decode cX12_within 18 = .ok (.iload_n 3, 1) := by decide +kernel
theorem dX12_within_19 : decode cX12_within 19 = .ok (.goto 5, 3) := by decide +kernel
theorem dX12_within_7 : decode cX12_within 7 = .ok (.iload_n 2, 1) := by decide +kernel
theorem dX12_within_8 : decode cX12_within 8 = .ok (.goto 16, 3) := by decide +kernel
theorem dX12_change_0 : decode cX12_change 0 = .ok (.aload_n 0, 1) := by decide +kernel
theorem dX12_change_1 : decode cX12_change 1 = .ok (.getfield 13, 3) := by decide +kernel
theorem dX12_change_4 : decode cX12_change 4 = .ok (.iload_n 1, 1) := by decide +kernel
theorem dX12_change_5 : decode cX12_change 5 = .ok (.iaload, 1) := by decide +kernel
theorem dX12_change_6 : decode cX12_change 6 = .ok (.istore_n 3, 1) := by decide +kernel
theorem dX12_change_7 : decode cX12_change 7 = .ok (.aload_n 0, 1) := by decide +kernel
theorem dX12_change_8 : decode cX12_change 8 = .ok (.getfield 13, 3) := by decide +kernel
theorem dX12_change_11 : decode cX12_change 11 = .ok (.iload_n 1, 1) := by decide +kernel
theorem dX12_change_12 : decode cX12_change 12 = .ok (.iload_n 2, 1) := by decide +kernel
theorem dX12_change_13 : decode cX12_change 13 = .ok (.iastore, 1) := by decide +kernel
theorem dX12_change_14 : decode cX12_change 14 = .ok (.aload_n 0, 1) := by decide +kernel
theorem dX12_change_15 : decode cX12_change 15 = .ok (.iconst 0, 1) := by decide +kernel
theorem dX12_change_16 : decode cX12_change 16 = .ok (.putfield 161, 3) := by decide +kernel
theorem dX12_change_19 : decode cX12_change 19 = .ok (.iload_n 3, 1) := by decide +kernel
theorem dX12_change_20 : decode cX12_change 20 = .ok (.ireturn, 1) := by decide +kernel
theorem dX12_keepAll_0 : decode cX12_keepAll 0 = .ok (.iconst 0, 1) := by decide +kernel
theorem dX12_keepAll_1 : decode cX12_keepAll 1 = .ok (.istore_n 2, 1) := by decide +kernel
theorem dX12_keepAll_2 : decode cX12_keepAll 2 = .ok (.iload_n 2, 1) := by decide +kernel
theorem dX12_keepAll_3 : decode cX12_keepAll 3 = .ok (.bipush 31, 2) := by decide +kernel
theorem dX12_keepAll_5 : decode cX12_keepAll 5 = .ok (.if_icmp .ge 28, 3) := by decide +kernel
theorem dX12_keepAll_8 : decode cX12_keepAll 8 = .ok (.aload_n 0, 1) := by decide +kernel
theorem dX12_keepAll_9 : decode cX12_keepAll 9 = .ok (.getfield 23, 3) := by decide +kernel
theorem dX12_keepAll_12 : decode cX12_keepAll 12 = .ok (.bipush 31, 2) := by decide +kernel
theorem dX12_keepAll_14 : decode cX12_keepAll 14 = .ok (.iload_n 1, 1) := by decide +kernel
theorem dX12_keepAll_15 : decode cX12_keepAll 15 = .ok (.imul, 1) := by decide +kernel
theorem dX12_keepAll_16 : decode cX12_keepAll 16 = .ok (.iload_n 2, 1) := by decide +kernel
theorem dX12_keepAll_17 : decode cX12_keepAll 17 = .ok (.iadd, 1) := by decide +kernel
theorem dX12_keepAll_18 : decode cX12_keepAll 18 = .ok (.aload_n 0, 1) := by decide +kernel
theorem dX12_keepAll_19 : decode cX12_keepAll 19 = .ok (.getfield 13, 3) := by decide +kernel
theorem dX12_keepAll_22 : decode cX12_keepAll 22 = .ok (.iconst 4, 1) := by decide +kernel
theorem dX12_keepAll_23 : decode cX12_keepAll 23 = .ok (.iload_n 2, 1) := by decide +kernel
theorem dX12_keepAll_24 : decode cX12_keepAll 24 = .ok (.iadd, 1) := by decide +kernel
theorem dX12_keepAll_25 : decode cX12_keepAll 25 = .ok (.iaload, 1) := by decide +kernel
theorem dX12_keepAll_26 : decode cX12_keepAll 26 = .ok (.iastore, 1) := by decide +kernel
theorem dX12_keepAll_27 : decode cX12_keepAll 27 = .ok (.iinc 2 1, 3) := by decide +kernel
theorem dX12_keepAll_30 : decode cX12_keepAll 30 = .ok (.goto (-28), 3) := by decide +kernel
theorem dX12_keepAll_33 : decode cX12_keepAll 33 = .ok (.return_, 1) := by decide +kernel
theorem dX12_putBack_0 : decode cX12_putBack 0 = .ok (.iconst 0, 1) := by decide +kernel
theorem dX12_putBack_1 : decode cX12_putBack 1 = .ok (.istore_n 2, 1) := by decide +kernel
theorem dX12_putBack_2 : decode cX12_putBack 2 = .ok (.iload_n 2, 1) := by decide +kernel
theorem dX12_putBack_3 : decode cX12_putBack 3 = .ok (.bipush 31, 2) := by decide +kernel
theorem dX12_putBack_5 : decode cX12_putBack 5 = .ok (.if_icmp .ge 28, 3) := by decide +kernel
theorem dX12_putBack_8 : decode cX12_putBack 8 = .ok (.aload_n 0, 1) := by decide +kernel
theorem dX12_putBack_9 : decode cX12_putBack 9 = .ok (.getfield 13, 3) := by decide +kernel
theorem dX12_putBack_12 : decode cX12_putBack 12 = .ok (.iconst 4, 1) := by decide +kernel
theorem dX12_putBack_13 : decode cX12_putBack 13 = .ok (.iload_n 2, 1) := by decide +kernel
theorem dX12_putBack_14 : decode cX12_putBack 14 = .ok (.iadd, 1) := by decide +kernel
theorem dX12_putBack_15 : decode cX12_putBack 15 = .ok (.aload_n 0, 1) := by decide +kernel
theorem dX12_putBack_16 : decode cX12_putBack 16 = .ok (.getfield 23, 3) := by decide +kernel
theorem dX12_putBack_19 : decode cX12_putBack 19 = .ok (.bipush 31, 2) := by decide +kernel
theorem dX12_putBack_21 : decode cX12_putBack 21 = .ok (.iload_n 1, 1) := by decide +kernel
theorem dX12_putBack_22 : decode cX12_putBack 22 = .ok (.imul, 1) := by decide +kernel
theorem dX12_putBack_23 : decode cX12_putBack 23 = .ok (.iload_n 2, 1) := by decide +kernel
theorem dX12_putBack_24 : decode cX12_putBack 24 = .ok (.iadd, 1) := by decide +kernel
theorem dX12_putBack_25 : decode cX12_putBack 25 = .ok (.iaload, 1) := by decide +kernel
theorem dX12_putBack_26 : decode cX12_putBack 26 = .ok (.iastore, 1) := by decide +kernel
theorem dX12_putBack_27 : decode cX12_putBack 27 = .ok (.iinc 2 1, 3) := by decide +kernel
theorem dX12_putBack_30 : decode cX12_putBack 30 = .ok (.goto (-28), 3) := by decide +kernel
theorem dX12_putBack_33 : decode cX12_putBack 33 = .ok (.return_, 1) := by decide +kernel
theorem dX12_remember_0 : decode cX12_remember 0 = .ok (.aload_n 0, 1) := by decide +kernel
theorem dX12_remember_1 : decode cX12_remember 1 = .ok (.getfield 164, 3) := by decide +kernel
theorem dX12_remember_4 : decode cX12_remember 4 = .ok (.bipush 16, 2) := by decide +kernel
theorem dX12_remember_6 : decode cX12_remember 6 = .ok (.if_icmp .ne 71, 3) := by decide +kernel
theorem dX12_remember_9 : decode cX12_remember 9 = .ok (.iconst 0, 1) := by decide +kernel
theorem dX12_remember_10 : decode cX12_remember 10 = .ok (.istore_n 2, 1) := by decide +kernel
theorem dX12_remember_11 : decode cX12_remember 11 = .ok (.iload_n 2, 1) := by decide +kernel
theorem dX12_remember_12 : decode cX12_remember 12 = .ok (.sipush 465, 3) := by decide +kernel
theorem dX12_remember_15 : decode cX12_remember 15 = .ok (.if_icmp .ge 24, 3) := by decide +kernel
theorem dX12_remember_18 : decode cX12_remember 18 = .ok (.aload_n 0, 1) := by decide +kernel
theorem dX12_remember_19 : decode cX12_remember 19 = .ok (.getfield 23, 3) := by decide +kernel
theorem dX12_remember_22 : decode cX12_remember 22 = .ok (.iload_n 2, 1) := by decide +kernel
theorem dX12_remember_23 : decode cX12_remember 23 = .ok (.aload_n 0, 1) := by decide +kernel
theorem dX12_remember_24 : decode cX12_remember 24 = .ok (.getfield 23, 3) := by decide +kernel
theorem dX12_remember_27 : decode cX12_remember 27 = .ok (.iload_n 2, 1) := by decide +kernel
theorem dX12_remember_28 : decode cX12_remember 28 = .ok (.bipush 31, 2) := by decide +kernel
theorem dX12_remember_30 : decode cX12_remember 30 = .ok (.iadd, 1) := by decide +kernel
theorem dX12_remember_31 : decode cX12_remember 31 = .ok (.iaload, 1) := by decide +kernel
theorem dX12_remember_32 : decode cX12_remember 32 = .ok (.iastore, 1) := by decide +kernel
theorem dX12_remember_33 : decode cX12_remember 33 = .ok (.iinc 2 1, 3) := by decide +kernel
theorem dX12_remember_36 : decode cX12_remember 36 = .ok (.goto (-25), 3) := by decide +kernel
theorem dX12_remember_39 : decode cX12_remember 39 = .ok (.iconst 0, 1) := by decide +kernel
theorem dX12_remember_40 : decode cX12_remember 40 = .ok (.istore_n 2, 1) := by decide +kernel
theorem dX12_remember_41 : decode cX12_remember 41 = .ok (.iload_n 2, 1) := by decide +kernel
theorem dX12_remember_42 : decode cX12_remember 42 = .ok (.bipush 15, 2) := by decide +kernel
theorem dX12_remember_44 : decode cX12_remember 44 = .ok (.if_icmp .ge 23, 3) := by decide +kernel
theorem dX12_remember_47 : decode cX12_remember 47 = .ok (.aload_n 0, 1) := by decide +kernel
theorem dX12_remember_48 : decode cX12_remember 48 = .ok (.getfield 26, 3) := by decide +kernel
theorem dX12_remember_51 : decode cX12_remember 51 = .ok (.iload_n 2, 1) := by decide +kernel
theorem dX12_remember_52 : decode cX12_remember 52 = .ok (.aload_n 0, 1) := by decide +kernel
theorem dX12_remember_53 : decode cX12_remember 53 = .ok (.getfield 26, 3) := by decide +kernel
theorem dX12_remember_56 : decode cX12_remember 56 = .ok (.iload_n 2, 1) := by decide +kernel
theorem dX12_remember_57 : decode cX12_remember 57 = .ok (.iconst 1, 1) := by decide +kernel
theorem dX12_remember_58 : decode cX12_remember 58 = .ok (.iadd, 1) := by decide +kernel
theorem dX12_remember_59 : decode cX12_remember 59 = .ok (.iaload, 1) := by decide +kernel
theorem dX12_remember_60 : decode cX12_remember 60 = .ok (.iastore, 1) := by decide +kernel
theorem dX12_remember_61 : decode cX12_remember 61 = .ok (.iinc 2 1, 3) := by decide +kernel
theorem dX12_remember_64 : decode cX12_remember 64 = .ok (.goto (-23), 3) := by decide +kernel
theorem dX12_remember_67 : decode cX12_remember 67 = .ok (.aload_n 0, 1) := by decide +kernel
theorem dX12_remember_68 : decode cX12_remember 68 = .ok (.dup, 1) := by decide +kernel
theorem dX12_remember_69 : decode cX12_remember 69 = .ok (.getfield 164, 3) := by decide +kernel
theorem dX12_remember_72 : decode cX12_remember 72 = .ok (.iconst 1, 1) := by decide +kernel
theorem dX12_remember_73 : decode cX12_remember 73 = .ok (.isub, 1) := by decide +kernel
theorem dX12_remember_74 : decode cX12_remember 74 = .ok (.putfield 164, 3) := by decide +kernel
theorem dX12_remember_77 : decode cX12_remember 77 = .ok (.aload_n 0, 1) := by decide +kernel
theorem dX12_remember_78 : decode cX12_remember 78 = .ok (.aload_n 0, 1) := by decide +kernel
theorem dX12_remember_79 : decode cX12_remember 79 = .ok (.getfield 164, 3) := by decide +kernel
theorem dX12_remember_82 : decode cX12_remember 82 = .ok (.invokevirtual 167, 3) := by decide +kernel
theorem dX12_remember_85 : decode cX12_remember 85 = .ok (.aload_n 0, 1) := by decide +kernel
theorem dX12_remember_86 : decode cX12_remember 86 = .ok (.getfield 26, 3) := by decide +kernel
theorem dX12_remember_89 : decode cX12_remember 89 = .ok (.aload_n 0, 1) := by decide +kernel
theorem dX12_remember_90 : decode cX12_remember 90 = .ok (.getfield 164, 3) := by decide +kernel
theorem dX12_remember_93 : decode cX12_remember 93 = .ok (.iload_n 1, 1) := by decide +kernel
theorem dX12_remember_94 : decode cX12_remember 94 = .ok (.iastore, 1) := by decide +kernel
theorem dX12_remember_95 : decode cX12_remember 95 = .ok (.aload_n 0, 1) := by decide +kernel
theorem dX12_remember_96 : decode cX12_remember 96 = .ok (.dup, 1) := by decide +kernel
theorem dX12_remember_97 : decode cX12_remember 97 = .ok (.getfield 164, 3) := by decide +kernel
theorem dX12_remember_100 : decode cX12_remember 100 = .ok (.iconst 1, 1) := by decide +kernel
theorem dX12_remember_101 : decode cX12_remember 101 = .ok (.iadd, 1) := by decide +kernel
theorem dX12_remember_102 : decode cX12_remember 102 = .ok (.putfield 164, 3) := by decide +kernel
theorem dX12_remember_105 : decode cX12_remember 105 = .ok (.return_, 1) := by decide +kernel
theorem dX12_undo_0 : decode cX12_undo 0 = .ok (.aload_n 0, 1) := by decide +kernel
theorem dX12_undo_1 : decode cX12_undo 1 = .ok (.iconst 0, 1) := by decide +kernel
theorem dX12_undo_2 : decode cX12_undo 2 = .ok (.putfield 158, 3) := by decide +kernel
theorem dX12_undo_5 : decode cX12_undo 5 = .ok (.aload_n 0, 1) := by decide +kernel
theorem dX12_undo_6 : decode cX12_undo 6 = .ok (.getfield 164, 3) := by decide +kernel
theorem dX12_undo_9 : decode cX12_undo 9 = .ok (.ifCond .ne 10, 3) := by decide +kernel
theorem dX12_undo_19 : decode cX12_undo 19 = .ok (.aload_n 0, 1) := by decide +kernel
theorem dX12_undo_20 : decode cX12_undo 20 = .ok (.dup, 1) := by decide +kernel
theorem dX12_undo_21 : decode cX12_undo 21 = .ok (.getfield 164, 3) := by decide +kernel
theorem dX12_undo_24 : decode cX12_undo 24 = .ok (.iconst 1, 1) := by decide +kernel
theorem dX12_undo_25 : decode cX12_undo 25 = .ok (.isub, 1) := by decide +kernel
theorem dX12_undo_26 : decode cX12_undo 26 = .ok (.putfield 164, 3) := by decide +kernel
theorem dX12_undo_29 : decode cX12_undo 29 = .ok (.aload_n 0, 1) := by decide +kernel
theorem dX12_undo_30 : decode cX12_undo 30 = .ok (.aload_n 0, 1) := by decide +kernel
theorem dX12_undo_31 : decode cX12_undo 31 = .ok (.getfield 164, 3) := by decide +kernel
theorem dX12_undo_34 : decode cX12_undo 34 = .ok (.invokevirtual 175, 3) := by decide +kernel
theorem dX12_undo_37 : decode cX12_undo 37 = .ok (.aload_n 0, 1) := by decide +kernel
theorem dX12_undo_38 : decode cX12_undo 38 = .ok (.aload_n 0, 1) := by decide +kernel
theorem dX12_undo_39 : decode cX12_undo 39 = .ok (.getfield 26, 3) := by decide +kernel
theorem dX12_undo_42 : decode cX12_undo 42 = .ok (.aload_n 0, 1) := by decide +kernel
theorem dX12_undo_43 : decode cX12_undo 43 = .ok (.getfield 164, 3) := by decide +kernel
theorem dX12_undo_46 : decode cX12_undo 46 = .ok (.iaload, 1) := by decide +kernel
theorem dX12_undo_47 : decode cX12_undo 47 = .ok (.invokevirtual 171, 3) := by decide +kernel
theorem dX12_undo_50 : decode cX12_undo 50 = .ok (.ireturn, 1) := by decide +kernel
theorem dX12_undo_12 : decode cX12_undo 12 = .ok (.aload_n 0, 1) := by decide +kernel
theorem dX12_undo_13 : decode cX12_undo 13 = .ok (.bipush (-3), 2) := by decide +kernel
theorem dX12_undo_15 : decode cX12_undo 15 = .ok (.invokevirtual 171, 3) := by decide +kernel
theorem dX12_undo_18 : decode cX12_undo 18 = .ok (.ireturn, 1) := by decide +kernel
theorem dX12_term_0 : decode cX12_term 0 = .ok (.aload_n 0, 1) := by decide +kernel
theorem dX12_term_1 : decode cX12_term 1 = .ok (.getfield 13, 3) := by decide +kernel
theorem dX12_term_4 : decode cX12_term 4 = .ok (.iconst 4, 1) := by decide +kernel
theorem dX12_term_5 : decode cX12_term 5 = .ok (.iload_n 1, 1) := by decide +kernel
theorem dX12_term_6 : decode cX12_term 6 = .ok (.iadd, 1) := by decide +kernel
theorem dX12_term_7 : decode cX12_term 7 = .ok (.iaload, 1) := by decide +kernel
theorem dX12_term_8 : decode cX12_term 8 = .ok (.ireturn, 1) := by decide +kernel
theorem dX12_isHouse_0 : decode cX12_isHouse 0 = .ok (.iload_n 1, 1) := by decide +kernel
theorem dX12_isHouse_1 : decode cX12_isHouse 1 = .ok (.i2l, 1) := by decide +kernel
theorem dX12_isHouse_2 : decode cX12_isHouse 2 = .ok (.lconst 0, 1) := by decide +kernel
theorem dX12_isHouse_3 : decode cX12_isHouse 3 = .ok (.aload_n 0, 1) := by decide +kernel
theorem dX12_isHouse_4 : decode cX12_isHouse 4 = .ok (.getfield 13, 3) := by decide +kernel
theorem dX12_isHouse_7 : decode cX12_isHouse 7 = .ok (.iconst 0, 1) := by decide +kernel
theorem dX12_isHouse_8 : decode cX12_isHouse 8 = .ok (.iaload, 1) := by decide +kernel
theorem dX12_isHouse_9 : decode cX12_isHouse 9 = .ok (.i2l, 1) := by decide +kernel
theorem dX12_isHouse_10 : decode cX12_isHouse 10 = .ok (.lconst 1, 1) := by decide +kernel
theorem dX12_isHouse_11 : decode cX12_isHouse 11 = .ok (.lsub, 1) := by decide +kernel
theorem dX12_isHouse_12 : decode cX12_isHouse 12 = .ok (.invokestatic 178, 3) := by decide +kernel
theorem dX12_isHouse_15 : decode cX12_isHouse 15 = .ok (.ireturn, 1) := by decide +kernel
theorem dX12_isSounding_0 : decode cX12_isSounding 0 = .ok (.aload_n 0, 1) := by decide +kernel
theorem dX12_isSounding_1 : decode cX12_isSounding 1 = .ok (.getfield 13, 3) := by decide +kernel
theorem dX12_isSounding_4 : decode cX12_isSounding 4 = .ok (.bipush 11, 2) := by decide +kernel
theorem dX12_isSounding_6 : decode cX12_isSounding 6 = .ok (.iload_n 1, 1) := by decide +kernel
theorem dX12_isSounding_7 : decode cX12_isSounding 7 = .ok (.iadd, 1) := by decide +kernel
theorem dX12_isSounding_8 : decode cX12_isSounding 8 = .ok (.iaload, 1) := by decide +kernel
theorem dX12_isSounding_9 : decode cX12_isSounding 9 = .ok (.i2l, 1) := by decide +kernel
theorem dX12_isSounding_10 : decode cX12_isSounding 10 = .ok (.aload_n 0, 1) := by decide +kernel
theorem dX12_isSounding_11 : decode cX12_isSounding 11 = .ok (.iconst 2, 1) := by decide +kernel
theorem dX12_isSounding_12 : decode cX12_isSounding 12 = .ok (.invokevirtual 182, 3) := by decide +kernel
theorem dX12_isSounding_15 : decode cX12_isSounding 15 = .ok (.i2l, 1) := by decide +kernel
theorem dX12_isSounding_16 : decode cX12_isSounding 16 = .ok (.aload_n 0, 1) := by decide +kernel
theorem dX12_isSounding_17 : decode cX12_isSounding 17 = .ok (.iconst 3, 1) := by decide +kernel
theorem dX12_isSounding_18 : decode cX12_isSounding 18 = .ok (.invokevirtual 182, 3) := by decide +kernel
theorem dX12_isSounding_21 : decode cX12_isSounding 21 = .ok (.i2l, 1) := by decide +kernel
theorem dX12_isSounding_22 : decode cX12_isSounding 22 = .ok (.invokestatic 178, 3) := by decide +kernel
theorem dX12_isSounding_25 : decode cX12_isSounding 25 = .ok (.ireturn, 1) := by decide +kernel
theorem dX12_soundWith_0 : decode cX12_soundWith 0 = .ok (.iconst 0, 1) := by decide +kernel
theorem dX12_soundWith_1 : decode cX12_soundWith 1 = .ok (.istore_n 2, 1) := by decide +kernel
theorem dX12_soundWith_2 : decode cX12_soundWith 2 = .ok (.iconst 0, 1) := by decide +kernel
theorem dX12_soundWith_3 : decode cX12_soundWith 3 = .ok (.istore_n 3, 1) := by decide +kernel
theorem dX12_soundWith_4 : decode cX12_soundWith 4 = .ok (.iload_n 3, 1) := by decide +kernel
theorem dX12_soundWith_5 : decode cX12_soundWith 5 = .ok (.aload_n 0, 1) := by decide +kernel
theorem dX12_soundWith_6 : decode cX12_soundWith 6 = .ok (.getfield 13, 3) := by decide +kernel
theorem dX12_soundWith_9 : decode cX12_soundWith 9 = .ok (.iconst 0, 1) := by decide +kernel
theorem dX12_soundWith_10 : decode cX12_soundWith 10 = .ok (.iaload, 1) := by decide +kernel
theorem dX12_soundWith_11 : decode cX12_soundWith 11 = .ok (.if_icmp .ge 38, 3) := by decide +kernel
theorem dX12_soundWith_14 : decode cX12_soundWith 14 = .ok (.iload_n 2, 1) := by decide +kernel
theorem dX12_soundWith_15 : decode cX12_soundWith 15 = .ok (.aload_n 0, 1) := by decide +kernel
theorem dX12_soundWith_16 : decode cX12_soundWith 16 = .ok (.getfield 13, 3) := by decide +kernel
theorem dX12_soundWith_19 : decode cX12_soundWith 19 = .ok (.bipush 35, 2) := by decide +kernel
theorem dX12_soundWith_21 : decode cX12_soundWith 21 = .ok (.iload_n 3, 1) := by decide +kernel
theorem dX12_soundWith_22 : decode cX12_soundWith 22 = .ok (.iadd, 1) := by decide +kernel
theorem dX12_soundWith_23 : decode cX12_soundWith 23 = .ok (.iaload, 1) := by decide +kernel
theorem dX12_soundWith_24 : decode cX12_soundWith 24 = .ok (.iload_n 1, 1) := by decide +kernel
theorem dX12_soundWith_25 : decode cX12_soundWith 25 = .ok (.if_icmp .ne 15, 3) := by decide +kernel
theorem dX12_soundWith_40 : decode cX12_soundWith 40 = .ok (.iconst 0, 1) := by decide +kernel
theorem dX12_soundWith_41 : decode cX12_soundWith 41 = .ok (.iadd, 1) := by decide +kernel
theorem dX12_soundWith_42 : decode cX12_soundWith 42 = .ok (.istore_n 2, 1) := by decide +kernel
theorem dX12_soundWith_43 : decode cX12_soundWith 43 = .ok (.iinc 3 1, 3) := by decide +kernel
theorem dX12_soundWith_46 : decode cX12_soundWith 46 = .ok (.goto (-42), 3) := by decide +kernel
theorem dX12_soundWith_28 : decode cX12_soundWith 28 = .ok (.aload_n 0, 1) := by decide +kernel
theorem dX12_soundWith_29 : decode cX12_soundWith 29 = .ok (.iload_n 3, 1) := by decide +kernel
theorem dX12_soundWith_30 : decode cX12_soundWith 30 = .ok (.invokevirtual 185, 3) := by decide +kernel
theorem dX12_soundWith_33 : decode cX12_soundWith 33 = .ok (.ifCond .eq 7, 3) := by decide +kernel
theorem dX12_soundWith_36 : decode cX12_soundWith 36 = .ok (.iconst 1, 1) := by decide +kernel
theorem dX12_soundWith_37 : decode cX12_soundWith 37 = .ok (.goto 4, 3) := by decide +kernel
theorem dX12_soundWith_49 : decode cX12_soundWith 49 = .ok (.iload_n 2, 1) := by decide +kernel
theorem dX12_soundWith_50 : decode cX12_soundWith 50 = .ok (.ireturn, 1) := by decide +kernel
theorem dX12_soundingNotes_0 : decode cX12_soundingNotes 0 = .ok (.iconst 0, 1) := by decide +kernel
theorem dX12_soundingNotes_1 : decode cX12_soundingNotes 1 = .ok (.istore_n 1, 1) := by decide +kernel
theorem dX12_soundingNotes_2 : decode cX12_soundingNotes 2 = .ok (.iconst 0, 1) := by decide +kernel
theorem dX12_soundingNotes_3 : decode cX12_soundingNotes 3 = .ok (.istore_n 2, 1) := by decide +kernel
theorem dX12_soundingNotes_4 : decode cX12_soundingNotes 4 = .ok (.iload_n 2, 1) := by decide +kernel
theorem dX12_soundingNotes_5 : decode cX12_soundingNotes 5 = .ok (.aload_n 0, 1) := by decide +kernel
theorem dX12_soundingNotes_6 : decode cX12_soundingNotes 6 = .ok (.getfield 13, 3) := by decide +kernel
theorem dX12_soundingNotes_9 : decode cX12_soundingNotes 9 = .ok (.iconst 0, 1) := by decide +kernel
theorem dX12_soundingNotes_10 : decode cX12_soundingNotes 10 = .ok (.iaload, 1) := by decide +kernel
theorem dX12_soundingNotes_11 : decode cX12_soundingNotes 11 = .ok (.if_icmp .ge 35, 3) := by decide +kernel
theorem dX12_soundingNotes_14 : decode cX12_soundingNotes 14 = .ok (.iload_n 1, 1) := by decide +kernel
theorem dX12_soundingNotes_15 : decode cX12_soundingNotes 15 = .ok (.aload_n 0, 1) := by decide +kernel
theorem dX12_soundingNotes_16 : decode cX12_soundingNotes 16 = .ok (.iload_n 2, 1) := by decide +kernel
theorem dX12_soundingNotes_17 : decode cX12_soundingNotes 17 = .ok (.invokevirtual 185, 3) := by decide +kernel
theorem dX12_soundingNotes_20 : decode cX12_soundingNotes 20 = .ok (.ifCond .eq 17, 3) := by decide +kernel
theorem dX12_soundingNotes_37 : decode cX12_soundingNotes 37 = .ok (.iconst 0, 1) := by decide +kernel
theorem dX12_soundingNotes_38 : decode cX12_soundingNotes 38 = .ok (.ior, 1) := by decide +kernel
theorem dX12_soundingNotes_39 : decode cX12_soundingNotes 39 = .ok (.istore_n 1, 1) := by decide +kernel
theorem dX12_soundingNotes_40 : decode cX12_soundingNotes 40 = .ok (.iinc 2 1, 3) := by decide +kernel
theorem dX12_soundingNotes_43 : decode cX12_soundingNotes 43 = .ok (.goto (-39), 3) := by decide +kernel
theorem dX12_soundingNotes_23 : decode cX12_soundingNotes 23 = .ok (.iconst 1, 1) := by decide +kernel
theorem dX12_soundingNotes_24 : decode cX12_soundingNotes 24 = .ok (.aload_n 0, 1) := by decide +kernel
theorem dX12_soundingNotes_25 : decode cX12_soundingNotes 25 = .ok (.getfield 13, 3) := by decide +kernel
theorem dX12_soundingNotes_28 : decode cX12_soundingNotes 28 = .ok (.bipush 35, 2) := by decide +kernel
theorem dX12_soundingNotes_30 : decode cX12_soundingNotes 30 = .ok (.iload_n 2, 1) := by decide +kernel
theorem dX12_soundingNotes_31 : decode cX12_soundingNotes 31 = .ok (.iadd, 1) := by decide +kernel
theorem dX12_soundingNotes_32 : decode cX12_soundingNotes 32 = .ok (.iaload, 1) := by decide +kernel
theorem dX12_soundingNotes_33 : decode cX12_soundingNotes 33 = .ok (.ishl, 1) := by decide +kernel
theorem dX12_soundingNotes_34 : decode cX12_soundingNotes 34 = .ok (.goto 4, 3) := by decide +kernel
theorem dX12_soundingNotes_46 : decode cX12_soundingNotes 46 = .ok (.iload_n 1, 1) := by decide +kernel
theorem dX12_soundingNotes_47 : decode cX12_soundingNotes 47 = .ok (.ireturn, 1) := by decide +kernel
theorem dX12_areBeside_0 : decode cX12_areBeside 0 = .ok (.iload_n 0, 1) := by decide +kernel
theorem dX12_areBeside_1 : decode cX12_areBeside 1 = .ok (.iload_n 1, 1) := by decide +kernel
theorem dX12_areBeside_2 : decode cX12_areBeside 2 = .ok (.isub, 1) := by decide +kernel
theorem dX12_areBeside_3 : decode cX12_areBeside 3 = .ok (.bipush 7, 2) := by decide +kernel
theorem dX12_areBeside_5 : decode cX12_areBeside 5 = .ok (.iadd, 1) := by decide +kernel
theorem dX12_areBeside_6 : decode cX12_areBeside 6 = .ok (.bipush 7, 2) := by decide +kernel
theorem dX12_areBeside_8 : decode cX12_areBeside 8 = .ok (.irem, 1) := by decide +kernel
theorem dX12_areBeside_9 : decode cX12_areBeside 9 = .ok (.istore_n 2, 1) := by decide +kernel
theorem dX12_areBeside_10 : decode cX12_areBeside 10 = .ok (.iload_n 2, 1) := by decide +kernel
theorem dX12_areBeside_11 : decode cX12_areBeside 11 = .ok (.iconst 1, 1) := by decide +kernel
theorem dX12_areBeside_12 : decode cX12_areBeside 12 = .ok (.if_icmp .eq 9, 3) := by decide +kernel
theorem dX12_areBeside_15 : decode cX12_areBeside 15 = .ok (.iload_n 2, 1) := by decide +kernel
theorem dX12_areBeside_16 : decode cX12_areBeside 16 = .ok (.bipush 6, 2) := by decide +kernel
theorem dX12_areBeside_18 : decode cX12_areBeside 18 = .ok (.if_icmp .ne 7, 3) := by decide +kernel
theorem dX12_areBeside_25 : decode cX12_areBeside 25 = .ok (.iconst 0, 1) := by decide +kernel
theorem dX12_areBeside_26 : decode cX12_areBeside 26 = .ok (.ireturn, 1) := by decide +kernel
theorem dX12_areBeside_21 : decode cX12_areBeside 21 = .ok (.iconst 1, 1) := by decide +kernel
theorem dX12_areBeside_22 : decode cX12_areBeside 22 = .ok (.goto 4, 3) := by decide +kernel
theorem dX12_house_0 : decode cX12_house 0 = .ok (.aload_n 0, 1) := by decide +kernel
theorem dX12_house_1 : decode cX12_house 1 = .ok (.iconst 0, 1) := by decide +kernel
theorem dX12_house_2 : decode cX12_house 2 = .ok (.putfield 158, 3) := by decide +kernel
theorem dX12_house_5 : decode cX12_house 5 = .ok (.iload_n 1, 1) := by decide +kernel
theorem dX12_house_6 : decode cX12_house 6 = .ok (.i2l, 1) := by decide +kernel
theorem dX12_house_7 : decode cX12_house 7 = .ok (.lconst 0, 1) := by decide +kernel
theorem dX12_house_8 : decode cX12_house 8 = .ok (.ldc2_w 189, 3) := by decide +kernel
theorem dX12_house_11 : decode cX12_house 11 = .ok (.invokestatic 178, 3) := by decide +kernel
theorem dX12_house_14 : decode cX12_house 14 = .ok (.ifCond .eq 53, 3) := by decide +kernel
theorem dX12_house_17 : decode cX12_house 17 = .ok (.iload_n 2, 1) := by decide +kernel
theorem dX12_house_18 : decode cX12_house 18 = .ok (.i2l, 1) := by decide +kernel
theorem dX12_house_19 : decode cX12_house 19 = .ok (.lconst 0, 1) := by decide +kernel
theorem dX12_house_20 : decode cX12_house 20 = .ok (.ldc2_w 191, 3) := by decide +kernel
theorem dX12_house_23 : decode cX12_house 23 = .ok (.invokestatic 178, 3) := by decide +kernel
theorem dX12_house_26 : decode cX12_house 26 = .ok (.ifCond .eq 41, 3) := by decide +kernel
theorem dX12_house_29 : decode cX12_house 29 = .ok (.iload_n 3, 1) := by decide +kernel
theorem dX12_house_30 : decode cX12_house 30 = .ok (.i2l, 1) := by decide +kernel
theorem dX12_house_31 : decode cX12_house 31 = .ok (.lconst 0, 1) := by decide +kernel
theorem dX12_house_32 : decode cX12_house 32 = .ok (.ldc2_w 193, 3) := by decide +kernel
theorem dX12_house_35 : decode cX12_house 35 = .ok (.invokestatic 178, 3) := by decide +kernel
theorem dX12_house_38 : decode cX12_house 38 = .ok (.ifCond .eq 29, 3) := by decide +kernel
theorem dX12_house_41 : decode cX12_house 41 = .ok (.iload 4, 2) := by decide +kernel
theorem dX12_house_43 : decode cX12_house 43 = .ok (.i2l, 1) := by decide +kernel
theorem dX12_house_44 : decode cX12_house 44 = .ok (.lconst 0, 1) := by decide +kernel
theorem dX12_house_45 : decode cX12_house 45 = .ok (.ldc2_w 195, 3) := by decide +kernel
theorem dX12_house_48 : decode cX12_house 48 = .ok (.invokestatic 178, 3) := by decide +kernel
theorem dX12_house_51 : decode cX12_house 51 = .ok (.ifCond .eq 16, 3) := by decide +kernel
theorem dX12_house_54 : decode cX12_house 54 = .ok (.iload 5, 2) := by decide +kernel
theorem dX12_house_56 : decode cX12_house 56 = .ok (.i2l, 1) := by decide +kernel
theorem dX12_house_57 : decode cX12_house 57 = .ok (.lconst 0, 1) := by decide +kernel
theorem dX12_house_58 : decode cX12_house 58 = .ok (.ldc2_w 195, 3) := by decide +kernel
theorem dX12_house_61 : decode cX12_house 61 = .ok (.invokestatic 178, 3) := by decide +kernel
theorem dX12_house_64 : decode cX12_house 64 = .ok (.ifCond .ne 9, 3) := by decide +kernel
theorem dX12_house_73 : decode cX12_house 73 = .ok (.aload_n 0, 1) := by decide +kernel
theorem dX12_house_74 : decode cX12_house 74 = .ok (.getfield 13, 3) := by decide +kernel
theorem dX12_house_77 : decode cX12_house 77 = .ok (.iconst 0, 1) := by decide +kernel
theorem dX12_house_78 : decode cX12_house 78 = .ok (.iaload, 1) := by decide +kernel
theorem dX12_house_79 : decode cX12_house 79 = .ok (.istore 6, 2) := by decide +kernel
theorem dX12_house_81 : decode cX12_house 81 = .ok (.iconst 0, 1) := by decide +kernel
theorem dX12_house_82 : decode cX12_house 82 = .ok (.istore 7, 2) := by decide +kernel
theorem dX12_house_84 : decode cX12_house 84 = .ok (.iload 7, 2) := by decide +kernel
theorem dX12_house_86 : decode cX12_house 86 = .ok (.iload 6, 2) := by decide +kernel
theorem dX12_house_88 : decode cX12_house 88 = .ok (.if_icmp .ge 31, 3) := by decide +kernel
theorem dX12_house_91 : decode cX12_house 91 = .ok (.aload_n 0, 1) := by decide +kernel
theorem dX12_house_92 : decode cX12_house 92 = .ok (.getfield 13, 3) := by decide +kernel
theorem dX12_house_95 : decode cX12_house 95 = .ok (.bipush 51, 2) := by decide +kernel
theorem dX12_house_97 : decode cX12_house 97 = .ok (.iload 7, 2) := by decide +kernel
theorem dX12_house_99 : decode cX12_house 99 = .ok (.iadd, 1) := by decide +kernel
theorem dX12_house_100 : decode cX12_house 100 = .ok (.iaload, 1) := by decide +kernel
theorem dX12_house_101 : decode cX12_house 101 = .ok (.iload 4, 2) := by decide +kernel
theorem dX12_house_103 : decode cX12_house 103 = .ok (.if_icmp .ne 10, 3) := by decide +kernel
theorem dX12_house_113 : decode cX12_house 113 = .ok (.iinc 7 1, 3) := by decide +kernel
theorem dX12_house_116 : decode cX12_house 116 = .ok (.goto (-32), 3) := by decide +kernel
theorem dX12_house_119 : decode cX12_house 119 = .ok (.iload 6, 2) := by decide +kernel
theorem dX12_house_121 : decode cX12_house 121 = .ok (.bipush 8, 2) := by decide +kernel
theorem dX12_house_123 : decode cX12_house 123 = .ok (.if_icmp .ne 10, 3) := by decide +kernel
theorem dX12_house_133 : decode cX12_house 133 = .ok (.aload_n 0, 1) := by decide +kernel
theorem dX12_house_134 : decode cX12_house 134 = .ok (.getfield 13, 3) := by decide +kernel
theorem dX12_house_137 : decode cX12_house 137 = .ok (.bipush 35, 2) := by decide +kernel
theorem dX12_house_139 : decode cX12_house 139 = .ok (.iload 6, 2) := by decide +kernel
theorem dX12_house_141 : decode cX12_house 141 = .ok (.iadd, 1) := by decide +kernel
theorem dX12_house_142 : decode cX12_house 142 = .ok (.iload_n 1, 1) := by decide +kernel
theorem dX12_house_143 : decode cX12_house 143 = .ok (.iastore, 1) := by decide +kernel
theorem dX12_house_144 : decode cX12_house 144 = .ok (.aload_n 0, 1) := by decide +kernel
theorem dX12_house_145 : decode cX12_house 145 = .ok (.getfield 13, 3) := by decide +kernel
theorem dX12_house_148 : decode cX12_house 148 = .ok (.bipush 43, 2) := by decide +kernel
theorem dX12_house_150 : decode cX12_house 150 = .ok (.iload 6, 2) := by decide +kernel
theorem dX12_house_152 : decode cX12_house 152 = .ok (.iadd, 1) := by decide +kernel
theorem dX12_house_153 : decode cX12_house 153 = .ok (.iload_n 2, 1) := by decide +kernel
theorem dX12_house_154 : decode cX12_house 154 = .ok (.iastore, 1) := by decide +kernel
theorem dX12_house_155 : decode cX12_house 155 = .ok (.aload_n 0, 1) := by decide +kernel
theorem dX12_house_156 : decode cX12_house 156 = .ok (.getfield 13, 3) := by decide +kernel
theorem dX12_house_159 : decode cX12_house 159 = .ok (.bipush 19, 2) := by decide +kernel
theorem dX12_house_161 : decode cX12_house 161 = .ok (.iload 6, 2) := by decide +kernel
theorem dX12_house_163 : decode cX12_house 163 = .ok (.iadd, 1) := by decide +kernel
theorem dX12_house_164 : decode cX12_house 164 = .ok (.iload_n 3, 1) := by decide +kernel
theorem dX12_house_165 : decode cX12_house 165 = .ok (.iastore, 1) := by decide +kernel
theorem dX12_house_166 : decode cX12_house 166 = .ok (.aload_n 0, 1) := by decide +kernel
theorem dX12_house_167 : decode cX12_house 167 = .ok (.getfield 13, 3) := by decide +kernel
theorem dX12_house_170 : decode cX12_house 170 = .ok (.bipush 51, 2) := by decide +kernel
theorem dX12_house_172 : decode cX12_house 172 = .ok (.iload 6, 2) := by decide +kernel
theorem dX12_house_174 : decode cX12_house 174 = .ok (.iadd, 1) := by decide +kernel
theorem dX12_house_175 : decode cX12_house 175 = .ok (.iload 4, 2) := by decide +kernel
theorem dX12_house_177 : decode cX12_house 177 = .ok (.iastore, 1) := by decide +kernel
theorem dX12_house_178 : decode cX12_house 178 = .ok (.aload_n 0, 1) := by decide +kernel
theorem dX12_house_179 : decode cX12_house 179 = .ok (.getfield 13, 3) := by decide +kernel
theorem dX12_house_182 : decode cX12_house 182 = .ok (.bipush 59, 2) := by decide +kernel
theorem dX12_house_184 : decode cX12_house 184 = .ok (.iload 6, 2) := by decide +kernel
theorem dX12_house_186 : decode cX12_house 186 = .ok (.iadd, 1) := by decide +kernel
theorem dX12_house_187 : decode cX12_house 187 = .ok (.iload 5, 2) := by decide +kernel
theorem dX12_house_189 : decode cX12_house 189 = .ok (.iastore, 1) := by decide +kernel
theorem dX12_house_190 : decode cX12_house 190 = .ok (.aload_n 0, 1) := by decide +kernel
theorem dX12_house_191 : decode cX12_house 191 = .ok (.getfield 13, 3) := by decide +kernel
theorem dX12_house_194 : decode cX12_house 194 = .ok (.bipush 11, 2) := by decide +kernel
theorem dX12_house_196 : decode cX12_house 196 = .ok (.iload 6, 2) := by decide +kernel
theorem dX12_house_198 : decode cX12_house 198 = .ok (.iadd, 1) := by decide +kernel
theorem dX12_house_199 : decode cX12_house 199 = .ok (.iconst 0, 1) := by decide +kernel
theorem dX12_house_200 : decode cX12_house 200 = .ok (.iastore, 1) := by decide +kernel
theorem dX12_house_201 : decode cX12_house 201 = .ok (.aload_n 0, 1) := by decide +kernel
theorem dX12_house_202 : decode cX12_house 202 = .ok (.getfield 13, 3) := by decide +kernel
theorem dX12_house_205 : decode cX12_house 205 = .ok (.bipush 27, 2) := by decide +kernel
theorem dX12_house_207 : decode cX12_house 207 = .ok (.iload 6, 2) := by decide +kernel
theorem dX12_house_209 : decode cX12_house 209 = .ok (.iadd, 1) := by decide +kernel
theorem dX12_house_210 : decode cX12_house 210 = .ok (.iconst 0, 1) := by decide +kernel
theorem dX12_house_211 : decode cX12_house 211 = .ok (.iastore, 1) := by decide +kernel
theorem dX12_house_212 : decode cX12_house 212 = .ok (.aload_n 0, 1) := by decide +kernel
theorem dX12_house_213 : decode cX12_house 213 = .ok (.getfield 13, 3) := by decide +kernel
theorem dX12_house_216 : decode cX12_house 216 = .ok (.iconst 0, 1) := by decide +kernel
theorem dX12_house_217 : decode cX12_house 217 = .ok (.dup2, 1) := by decide +kernel
theorem dX12_house_218 : decode cX12_house 218 = .ok (.iaload, 1) := by decide +kernel
theorem dX12_house_219 : decode cX12_house 219 = .ok (.iconst 1, 1) := by decide +kernel
theorem dX12_house_220 : decode cX12_house 220 = .ok (.iadd, 1) := by decide +kernel
theorem dX12_house_221 : decode cX12_house 221 = .ok (.iastore, 1) := by decide +kernel
theorem dX12_house_222 : decode cX12_house 222 = .ok (.aload_n 0, 1) := by decide +kernel
theorem dX12_house_223 : decode cX12_house 223 = .ok (.iconst 0, 1) := by decide +kernel
theorem dX12_house_224 : decode cX12_house 224 = .ok (.putfield 164, 3) := by decide +kernel
theorem dX12_house_227 : decode cX12_house 227 = .ok (.aload_n 0, 1) := by decide +kernel
theorem dX12_house_228 : decode cX12_house 228 = .ok (.iload 6, 2) := by decide +kernel
theorem dX12_house_230 : decode cX12_house 230 = .ok (.invokevirtual 171, 3) := by decide +kernel
theorem dX12_house_233 : decode cX12_house 233 = .ok (.ireturn, 1) := by decide +kernel
theorem dX12_house_126 : decode cX12_house 126 = .ok (.aload_n 0, 1) := by decide +kernel
theorem dX12_house_127 : decode cX12_house 127 = .ok (.bipush (-5), 2) := by decide +kernel
theorem dX12_house_129 : decode cX12_house 129 = .ok (.invokevirtual 171, 3) := by decide +kernel
theorem dX12_house_132 : decode cX12_house 132 = .ok (.ireturn, 1) := by decide +kernel
theorem dX12_house_106 : decode cX12_house 106 = .ok (.aload_n 0, 1) := by decide +kernel
theorem dX12_house_107 : decode cX12_house 107 = .ok (.bipush (-3), 2) := by decide +kernel
theorem dX12_house_109 : decode cX12_house 109 = .ok (.invokevirtual 171, 3) := by decide +kernel
theorem dX12_house_112 : decode cX12_house 112 = .ok (.ireturn, 1) := by decide +kernel
theorem dX12_house_67 : decode cX12_house 67 = .ok (.aload_n 0, 1) := by decide +kernel
theorem dX12_house_68 : decode cX12_house 68 = .ok (.iconst (-1), 1) := by decide +kernel
theorem dX12_house_69 : decode cX12_house 69 = .ok (.invokevirtual 171, 3) := by decide +kernel
theorem dX12_house_72 : decode cX12_house 72 = .ok (.ireturn, 1) := by decide +kernel
theorem dX12_score_0 : decode cX12_score 0 = .ok (.aload_n 0, 1) := by decide +kernel
theorem dX12_score_1 : decode cX12_score 1 = .ok (.iconst 0, 1) := by decide +kernel
theorem dX12_score_2 : decode cX12_score 2 = .ok (.putfield 158, 3) := by decide +kernel
theorem dX12_score_5 : decode cX12_score 5 = .ok (.iload_n 1, 1) := by decide +kernel
theorem dX12_score_6 : decode cX12_score 6 = .ok (.i2l, 1) := by decide +kernel
theorem dX12_score_7 : decode cX12_score 7 = .ok (.lconst 0, 1) := by decide +kernel
theorem dX12_score_8 : decode cX12_score 8 = .ok (.ldc2_w 210, 3) := by decide +kernel
theorem dX12_score_11 : decode cX12_score 11 = .ok (.invokestatic 178, 3) := by decide +kernel
theorem dX12_score_14 : decode cX12_score 14 = .ok (.ifCond .eq 27, 3) := by decide +kernel
theorem dX12_score_17 : decode cX12_score 17 = .ok (.iload_n 2, 1) := by decide +kernel
theorem dX12_score_18 : decode cX12_score 18 = .ok (.i2l, 1) := by decide +kernel
theorem dX12_score_19 : decode cX12_score 19 = .ok (.lconst 0, 1) := by decide +kernel
theorem dX12_score_20 : decode cX12_score 20 = .ok (.ldc2_w 212, 3) := by decide +kernel
theorem dX12_score_23 : decode cX12_score 23 = .ok (.invokestatic 178, 3) := by decide +kernel
theorem dX12_score_26 : decode cX12_score 26 = .ok (.ifCond .eq 15, 3) := by decide +kernel
theorem dX12_score_29 : decode cX12_score 29 = .ok (.aload_n 0, 1) := by decide +kernel
theorem dX12_score_30 : decode cX12_score 30 = .ok (.bipush 67, 2) := by decide +kernel
theorem dX12_score_32 : decode cX12_score 32 = .ok (.iload_n 1, 1) := by decide +kernel
theorem dX12_score_33 : decode cX12_score 33 = .ok (.iadd, 1) := by decide +kernel
theorem dX12_score_34 : decode cX12_score 34 = .ok (.iload_n 2, 1) := by decide +kernel
theorem dX12_score_35 : decode cX12_score 35 = .ok (.invokevirtual 214, 3) := by decide +kernel
theorem dX12_score_38 : decode cX12_score 38 = .ok (.goto 8, 3) := by decide +kernel
theorem dX12_score_46 : decode cX12_score 46 = .ok (.ireturn, 1) := by decide +kernel
theorem dX12_score_41 : decode cX12_score 41 = .ok (.aload_n 0, 1) := by decide +kernel
theorem dX12_score_42 : decode cX12_score 42 = .ok (.iconst (-1), 1) := by decide +kernel
theorem dX12_score_43 : decode cX12_score 43 = .ok (.invokevirtual 171, 3) := by decide +kernel
theorem dX12_chord_0 : decode cX12_chord 0 = .ok (.aload_n 0, 1) := by decide +kernel
theorem dX12_chord_1 : decode cX12_chord 1 = .ok (.iconst 0, 1) := by decide +kernel
theorem dX12_chord_2 : decode cX12_chord 2 = .ok (.putfield 158, 3) := by decide +kernel
theorem dX12_chord_5 : decode cX12_chord 5 = .ok (.iload_n 1, 1) := by decide +kernel
theorem dX12_chord_6 : decode cX12_chord 6 = .ok (.i2l, 1) := by decide +kernel
theorem dX12_chord_7 : decode cX12_chord 7 = .ok (.lconst 0, 1) := by decide +kernel
theorem dX12_chord_8 : decode cX12_chord 8 = .ok (.ldc2_w 210, 3) := by decide +kernel
theorem dX12_chord_11 : decode cX12_chord 11 = .ok (.invokestatic 178, 3) := by decide +kernel
theorem dX12_chord_14 : decode cX12_chord 14 = .ok (.ifCond .eq 15, 3) := by decide +kernel
theorem dX12_chord_17 : decode cX12_chord 17 = .ok (.aload_n 0, 1) := by decide +kernel
theorem dX12_chord_18 : decode cX12_chord 18 = .ok (.getfield 13, 3) := by decide +kernel
theorem dX12_chord_21 : decode cX12_chord 21 = .ok (.bipush 67, 2) := by decide +kernel
theorem dX12_chord_23 : decode cX12_chord 23 = .ok (.iload_n 1, 1) := by decide +kernel
theorem dX12_chord_24 : decode cX12_chord 24 = .ok (.iadd, 1) := by decide +kernel
theorem dX12_chord_25 : decode cX12_chord 25 = .ok (.iaload, 1) := by decide +kernel
theorem dX12_chord_26 : decode cX12_chord 26 = .ok (.goto 4, 3) := by decide +kernel
theorem dX12_chord_30 : decode cX12_chord 30 = .ok (.ireturn, 1) := by decide +kernel
theorem dX12_chord_29 : decode cX12_chord 29 = .ok (.iconst (-1), 1) := by decide +kernel
theorem dX12_canBe_0 : decode cX12_canBe 0 = .ok (.iload_n 0, 1) := by decide +kernel
theorem dX12_canBe_1 : decode cX12_canBe 1 = .ok (.tableswitch 75 0 4 #[35, 45, 55, 55, 65], 35) := by decide +kernel
theorem dX12_canBe_36 : decode cX12_canBe 36 = .ok (.iload_n 1, 1) := by decide +kernel
theorem dX12_canBe_37 : decode cX12_canBe 37 = .ok (.i2l, 1) := by decide +kernel
theorem dX12_canBe_38 : decode cX12_canBe 38 = .ok (.lconst 0, 1) := by decide +kernel
theorem dX12_canBe_39 : decode cX12_canBe 39 = .ok (.ldc2_w 210, 3) := by decide +kernel
theorem dX12_canBe_42 : decode cX12_canBe 42 = .ok (.invokestatic 178, 3) := by decide +kernel
theorem dX12_canBe_45 : decode cX12_canBe 45 = .ok (.ireturn, 1) := by decide +kernel
theorem dX12_canBe_46 : decode cX12_canBe 46 = .ok (.iload_n 1, 1) := by decide +kernel
theorem dX12_canBe_47 : decode cX12_canBe 47 = .ok (.i2l, 1) := by decide +kernel
theorem dX12_canBe_48 : decode cX12_canBe 48 = .ok (.lconst 0, 1) := by decide +kernel
theorem dX12_canBe_49 : decode cX12_canBe 49 = .ok (.ldc2_w 193, 3) := by decide +kernel
theorem dX12_canBe_52 : decode cX12_canBe 52 = .ok (.invokestatic 178, 3) := by decide +kernel
theorem dX12_canBe_55 : decode cX12_canBe 55 = .ok (.ireturn, 1) := by decide +kernel
theorem dX12_canBe_56 : decode cX12_canBe 56 = .ok (.iload_n 1, 1) := by decide +kernel
theorem dX12_canBe_57 : decode cX12_canBe 57 = .ok (.i2l, 1) := by decide +kernel
theorem dX12_canBe_58 : decode cX12_canBe 58 = .ok (.lconst 1, 1) := by decide +kernel
theorem dX12_canBe_59 : decode cX12_canBe 59 = .ok (.ldc2_w 217, 3) := by decide +kernel
theorem dX12_canBe_62 : decode cX12_canBe 62 = .ok (.invokestatic 178, 3) := by decide +kernel
theorem dX12_canBe_65 : decode cX12_canBe 65 = .ok (.ireturn, 1) := by decide +kernel
theorem dX12_canBe_66 : decode cX12_canBe 66 = .ok (.iload_n 1, 1) := by decide +kernel
theorem dX12_canBe_67 : decode cX12_canBe 67 = .ok (.i2l, 1) := by decide +kernel
theorem dX12_canBe_68 : decode cX12_canBe 68 = .ok (.lconst 0, 1) := by decide +kernel
theorem dX12_canBe_69 : decode cX12_canBe 69 = .ok (.ldc2_w 219, 3) := by decide +kernel
theorem dX12_canBe_72 : decode cX12_canBe 72 = .ok (.invokestatic 178, 3) := by decide +kernel
theorem dX12_canBe_75 : decode cX12_canBe 75 = .ok (.ireturn, 1) := by decide +kernel
theorem dX12_canBe_76 : decode cX12_canBe 76 = .ok (.iload_n 0, 1) := by decide +kernel
theorem dX12_canBe_77 : decode cX12_canBe 77 = .ok (.iconst 5, 1) := by decide +kernel
theorem dX12_canBe_78 : decode cX12_canBe 78 = .ok (.if_icmp .ne 19, 3) := by decide +kernel
theorem dX12_canBe_97 : decode cX12_canBe 97 = .ok (.iconst 0, 1) := by decide +kernel
theorem dX12_canBe_98 : decode cX12_canBe 98 = .ok (.ireturn, 1) := by decide +kernel
theorem dX12_canBe_81 : decode cX12_canBe 81 = .ok (.iload_n 1, 1) := by decide +kernel
theorem dX12_canBe_82 : decode cX12_canBe 82 = .ok (.i2l, 1) := by decide +kernel
theorem dX12_canBe_83 : decode cX12_canBe 83 = .ok (.lconst 0, 1) := by decide +kernel
theorem dX12_canBe_84 : decode cX12_canBe 84 = .ok (.ldc2_w 221, 3) := by decide +kernel
theorem dX12_canBe_87 : decode cX12_canBe 87 = .ok (.invokestatic 178, 3) := by decide +kernel
theorem dX12_canBe_90 : decode cX12_canBe 90 = .ok (.ifCond .eq 7, 3) := by decide +kernel
theorem dX12_canBe_93 : decode cX12_canBe 93 = .ok (.iconst 1, 1) := by decide +kernel
theorem dX12_canBe_94 : decode cX12_canBe 94 = .ok (.goto 4, 3) := by decide +kernel
set_option maxRecDepth 100000 in
set_option maxHeartbeats 4000000 in
theorem ggX12_remember_X12_keepAll : GoodIn wsX12_remember wsX12_keepAll := goodIn_q _ [8] [2, 9, 10, 11, 12, 13, 14, 15, 16, 17, 18, 19, 20, 21, 22, 23, 24, 25, 26, 27, 28, 29, 30, 31, 32, 33, 34, 35, 36, 37, 38, 39, 40, 41, 42, 43, 44, 45, 46, 47, 48, 49, 50, 51, 52, 53, 54, 55, 56, 57, 58, 59, 60, 61, 62, 63, 64, 65, 66, 67, 68, 69] rfl (by decide +kernel) (by decide +kernel)
set_option maxRecDepth 20000 in
theorem gX12_remember_X12_keepAll : GoodIn wsX12_remember (wsV RX12 167 RX12 yX12_keepAll wsX12_keepAll) := goodIn_app (goodIn_of _ (by decide +kernel)) ggX12_remember_X12_keepAll
set_option maxRecDepth 100000 in
set_option maxHeartbeats 4000000 in
theorem ggX12_undo_X12_putBack : GoodIn wsX12_undo wsX12_putBack := goodIn_q _ [14] [15, 16, 17, 18, 19, 20, 21, 22, 23, 24, 25, 26, 27, 28, 29, 30, 31, 32, 33, 34, 35, 36, 37, 38, 39, 40, 41, 42, 43, 44, 45, 46, 47, 48, 49, 50, 51, 52, 53, 54, 55, 56, 57, 58, 59, 60, 61, 62, 63, 64, 65, 66, 67, 68, 69, 70, 71, 72, 73, 74, 75, 76] rfl (by decide +kernel) (by decide +kernel)
set_option maxRecDepth 20000 in
theorem gX12_undo_X12_putBack : GoodIn wsX12_undo (wsV RX12 175 RX12 yX12_putBack wsX12_putBack) := goodIn_app (goodIn_of _ (by decide +kernel)) ggX12_undo_X12_putBack
set_option maxRecDepth 100000 in
set_option maxHeartbeats 4000000 in
theorem ggX12_undo_X12_tell : GoodIn wsX12_undo wsX12_tell := goodIn_q _ [8] [9, 10, 17, 18, 19, 20, 21, 22, 23, 24, 25, 26, 27, 28, 29, 30, 31, 32, 33, 34, 35, 36, 37, 38, 39, 40, 41, 42, 43, 44, 45, 46, 47, 48, 49, 50, 51, 52, 53, 54, 55, 56, 57, 58, 59, 60, 61, 62, 63, 64, 65, 66, 67, 68, 69, 70, 71, 72, 73, 74, 75, 76] rfl (by decide +kernel) (by decide +kernel)
set_option maxRecDepth 20000 in
theorem gX12_undo_X12_tell : GoodIn wsX12_undo (wsV RX12 171 RX12 yX12_tell wsX12_tell) := goodIn_app (goodIn_of _ (by decide +kernel)) ggX12_undo_X12_tell
set_option maxRecDepth 20000 in
theorem ggX12_isHouse_X12_in : GoodIn wsX12_isHouse wsX12_in := goodIn_r _ [5] (by decide +kernel) (by decide +kernel)
set_option maxRecDepth 20000 in
theorem gX12_isHouse_X12_in : GoodIn wsX12_isHouse (va_wsS RX12 178 yX12_in wsX12_in) := goodIn_app (goodIn_of _ (by decide +kernel)) ggX12_isHouse_X12_in
set_option maxRecDepth 100000 in
set_option maxHeartbeats 4000000 in
theorem ggX12_isSounding_X12_term : GoodIn wsX12_isSounding wsX12_term := goodIn_q _ [6] [1, 10, 11, 12, 13, 14, 15, 16, 17, 18, 19, 20, 21, 22, 23, 24, 25, 26, 27, 28, 29, 30, 31, 32, 33, 34, 35, 36, 37, 38, 39, 40, 41, 42, 43, 44, 45, 46, 47, 48, 49, 50, 51, 52, 53, 54, 55, 56, 57, 58, 59, 60, 61, 62, 63, 64, 65, 66, 67, 68, 69] rfl (by decide +kernel) (by decide +kernel)
set_option maxRecDepth 20000 in
theorem gX12_isSounding_X12_term : GoodIn wsX12_isSounding (wsV RX12 182 RX12 yX12_term wsX12_term) := goodIn_app (goodIn_of _ (by decide +kernel)) ggX12_isSounding_X12_term
set_option maxRecDepth 20000 in
theorem ggX12_isSounding_X12_in : GoodIn wsX12_isSounding wsX12_in := goodIn_r _ [9] (by decide +kernel) (by decide +kernel)
set_option maxRecDepth 20000 in
theorem gX12_isSounding_X12_in : GoodIn wsX12_isSounding (va_wsS RX12 178 yX12_in wsX12_in) := goodIn_app (goodIn_of _ (by decide +kernel)) ggX12_isSounding_X12_in
set_option maxRecDepth 100000 in
set_option maxHeartbeats 4000000 in
theorem ggX12_soundWith_X12_isSounding : GoodIn wsX12_soundWith wsX12_isSounding := goodIn_q _ [6, 10, 13] [1, 7, 8, 9, 5, 11, 12, 14, 15, 16, 17, 18, 19, 20, 21, 22, 23, 24, 25, 26, 27, 28, 29, 30, 31, 32, 33, 34, 35, 36, 37, 38, 39, 40, 41, 42, 43, 44, 45, 46, 47, 48, 49, 50, 51, 52, 53, 54, 55, 56, 57, 58, 59, 60, 61, 62, 63, 64, 65, 66, 67, 68, 69, 70, 71, 72, 73] rfl (by decide +kernel) (by decide +kernel)
set_option maxRecDepth 20000 in
theorem gX12_soundWith_X12_isSounding : GoodIn wsX12_soundWith (wsV RX12 185 RX12 yX12_isSounding wsX12_isSounding) := goodIn_app (goodIn_of _ (by decide +kernel)) ggX12_soundWith_X12_isSounding
set_option maxRecDepth 100000 in
set_option maxHeartbeats 4000000 in
theorem ggX12_soundingNotes_X12_isSounding : GoodIn wsX12_soundingNotes wsX12_isSounding := goodIn_q _ [6, 10, 13] [1, 7, 8, 9, 5, 11, 12, 14, 15, 16, 17, 18, 19, 20, 21, 22, 23, 24, 25, 26, 27, 28, 29, 30, 31, 32, 33, 34, 35, 36, 37, 38, 39, 40, 41, 42, 43, 44, 45, 46, 47, 48, 49, 50, 51, 52, 53, 54, 55, 56, 57, 58, 59, 60, 61, 62, 63, 64, 65, 66, 67, 68, 69, 70, 71, 72, 73] rfl (by decide +kernel) (by decide +kernel)
set_option maxRecDepth 20000 in
theorem gX12_soundingNotes_X12_isSounding : GoodIn wsX12_soundingNotes (wsV RX12 185 RX12 yX12_isSounding wsX12_isSounding) := goodIn_app (goodIn_of _ (by decide +kernel)) ggX12_soundingNotes_X12_isSounding
set_option maxRecDepth 100000 in
set_option maxHeartbeats 4000000 in
theorem ggX12_house_X12_tell : GoodIn wsX12_house wsX12_tell := goodIn_q _ [15] [16, 17, 18, 19, 20, 21, 22, 23, 24, 25, 26, 27, 28, 29, 30, 31, 32, 33, 34, 35, 36, 37, 38, 39, 40, 41, 42, 43, 44, 45, 46, 47, 48, 49, 50, 51, 52, 53, 54, 55, 56, 57, 58, 59, 60, 61, 62, 63, 64, 65, 66, 67, 68, 69, 70, 71, 72, 73, 74, 75, 76, 77] rfl (by decide +kernel) (by decide +kernel)
set_option maxRecDepth 20000 in
theorem gX12_house_X12_tell : GoodIn wsX12_house (wsV RX12 171 RX12 yX12_tell wsX12_tell) := goodIn_app (goodIn_of _ (by decide +kernel)) ggX12_house_X12_tell
set_option maxRecDepth 20000 in
theorem ggX12_house_X12_in : GoodIn wsX12_house wsX12_in := goodIn_r _ [11] (by decide +kernel) (by decide +kernel)
set_option maxRecDepth 20000 in
theorem gX12_house_X12_in : GoodIn wsX12_house (va_wsS RX12 178 yX12_in wsX12_in) := goodIn_app (goodIn_of _ (by decide +kernel)) ggX12_house_X12_in
set_option maxRecDepth 100000 in
set_option maxHeartbeats 4000000 in
theorem ggX12_score_X12_tell : GoodIn wsX12_score wsX12_tell := goodIn_q _ [17] [13, 18, 19, 20, 21, 22, 23, 24, 25, 26, 27, 28, 29, 30, 31, 32, 33, 34, 35, 36, 37, 38, 39, 40, 41, 42, 43, 44, 45, 46, 47, 48, 49, 50, 51, 52, 53, 54, 55, 56, 57, 58, 59, 60, 61, 62, 63, 64, 65, 66, 67, 68, 69, 70, 71, 72, 73, 74, 75, 76, 77, 78] rfl (by decide +kernel) (by decide +kernel)
set_option maxRecDepth 20000 in
theorem gX12_score_X12_tell : GoodIn wsX12_score (wsV RX12 171 RX12 yX12_tell wsX12_tell) := goodIn_app (goodIn_of _ (by decide +kernel)) ggX12_score_X12_tell
set_option maxRecDepth 20000 in
theorem ggX12_score_X12_in : GoodIn wsX12_score wsX12_in := goodIn_r _ [7] (by decide +kernel) (by decide +kernel)
set_option maxRecDepth 20000 in
theorem gX12_score_X12_in : GoodIn wsX12_score (va_wsS RX12 178 yX12_in wsX12_in) := goodIn_app (goodIn_of _ (by decide +kernel)) ggX12_score_X12_in
set_option maxRecDepth 100000 in
set_option maxHeartbeats 4000000 in
theorem ggX12_score_X12_change : GoodIn wsX12_score wsX12_change := goodIn_q _ [11] [12, 13, 19, 20, 21, 22, 23, 24, 25, 26, 27, 28, 29, 30, 31, 32, 33, 34, 35, 36, 37, 38, 39, 40, 41, 42, 43, 44, 45, 46, 47, 48, 49, 50, 51, 52, 53, 54, 55, 56, 57, 58, 59, 60, 61, 62, 63, 64, 65, 66, 67, 68, 69, 70, 71, 72, 73, 74, 75, 76, 77, 78] rfl (by decide +kernel) (by decide +kernel)
set_option maxRecDepth 20000 in
theorem gX12_score_X12_change : GoodIn wsX12_score (wsV RX12 214 RX12 yX12_change wsX12_change) := goodIn_app (goodIn_of _ (by decide +kernel)) ggX12_score_X12_change
set_option maxRecDepth 20000 in
theorem ggX12_chord_X12_in : GoodIn wsX12_chord wsX12_in := goodIn_r _ [7] (by decide +kernel) (by decide +kernel)
set_option maxRecDepth 20000 in
theorem gX12_chord_X12_in : GoodIn wsX12_chord (va_wsS RX12 178 yX12_in wsX12_in) := goodIn_app (goodIn_of _ (by decide +kernel)) ggX12_chord_X12_in
set_option maxRecDepth 20000 in
theorem ggX12_canBe_X12_in : GoodIn wsX12_canBe wsX12_in := goodIn_r _ [9] (by decide +kernel) (by decide +kernel)
set_option maxRecDepth 20000 in
theorem gX12_canBe_X12_in : GoodIn wsX12_canBe (va_wsS RX12 178 yX12_in wsX12_in) := goodIn_app (goodIn_of _ (by decide +kernel)) ggX12_canBe_X12_in
set_option maxHeartbeats 4000000 in
set_option maxRecDepth 100000 in
theorem v_in (l : Launch) (D : va_G) (K : Nat → ClassId) (V : Int) (LO : Int) (HI : Int) (v : Int64) (lo : Int64) (hi : Int64) (sz : Nat) (qv : v.toInt = V) (qlo : lo.toInt = LO) (qhi : hi.toInt = HI) : Met l yX12_in wsX12_in ({ frames := 0, cells := 0, slots := 0, locals := 0 }) (va_Pc [.long v, .long lo, .long hi] (Pre D K [] sz)) (vp_Si (fun r : Int32 => ((r = 1 ∧ LO ≤ V ∧ V ≤ HI) ∨ (r = 0 ∧ (V < LO ∨ HI < V))) ∧ True)) 0 0 (fun _ => False) := by
  refine Met.ofW (cc := cX12_in) (maxL := 6) (ret := (some .boolean)) (by decide) rfl ?_
  intro p e s m args below meth c s₁ B hml hv
  obtain ⟨rfl, hsz, hP, hK, hD0, hN⟩ := hv
  have hx := B.exec
  have hb := B.bytes
  have hr := B.returns
  have hts := atoms_spec (ws := wsX12_in) B.pre
  have hown : s.vm.findClass RX12 = some m.cls := findClass_of_methodNamed B.named
  have hlocks := B.notSynchronized
  subst hsz
  have hD := hD0
  have hP : va_P D vwCl [] s.heap := hP
  have hl := lv_entry [.long v, .long lo, .long hi] (n := 6) (Nat.le_of_ble_eq_true rfl)
  rw [lg_entry_eq]
  generalize (lg_sl [.long v, .long lo, .long hi] ++ List.replicate (6 - (lg_sl [.long v, .long lo, .long hi]).length) Slot.unset).toArray = ls at hl ⊢
  have hl : lv_has ls 6 [(0, .long v), (2, .long lo), (4, .long hi)] := hl
  generalize hQ : MQ below _ _ s _ _ _ = Q
  refine lv_lload_n hx hb dX12_in_0 rfl (lv_at hl 0 rfl) ?_
  refine lv_lload_n hx hb dX12_in_1 rfl (lv_at hl 1 rfl) ?_
  refine W.lcmp hx hb dX12_in_2 ?_
  refine lv_if_lt (tgt := 17) hx hb dX12_in_3 (by decide) (fun c_63 => ?_) (fun c_63 => ?_)
  · have c_63i := l_lt (x := V) (y := LO) qv qlo ((lg_cmp_lt v lo).mp c_63)
    refine lv_iconst (v := 0) hx hb dX12_in_17 (by decide) ?_
    rw [← hQ]
    exact W.zret (v := 0) hx hb hr (by decide) (fun t ht hW => ⟨_, rfl, ⟨(by first | exact Or.inr (⟨rfl, by first | omega | decide | (subst_vars; assumption)⟩)), trivial⟩, ht⟩) (fun q hq => by cases hq) dX12_in_18
  · have c_63i := l_nlt (x := V) (y := LO) qv qlo (fun q => c_63 ((lg_cmp_lt v lo).mpr q))
    refine lv_lload_n hx hb dX12_in_6 rfl (lv_at hl 0 rfl) ?_
    refine lv_lload hx hb dX12_in_7 (lv_at hl 2 rfl) ?_
    refine W.lcmp hx hb dX12_in_9 ?_
    refine lv_if_gt (tgt := 17) hx hb dX12_in_10 (by decide) (fun c_64 => ?_) (fun c_64 => ?_)
    · have c_64i := l_lt (x := HI) (y := V) qhi qv ((lg_cmp_gt v hi).mp c_64)
      refine lv_iconst (v := 0) hx hb dX12_in_17 (by decide) ?_
      rw [← hQ]
      exact W.zret (v := 0) hx hb hr (by decide) (fun t ht hW => ⟨_, rfl, ⟨(by first | exact Or.inr (⟨rfl, by first | omega | decide | (subst_vars; assumption)⟩)), trivial⟩, ht⟩) (fun q hq => by cases hq) dX12_in_18
    · have c_64i := l_nlt (x := HI) (y := V) qhi qv (fun q => c_64 ((lg_cmp_gt v hi).mpr q))
      refine lv_iconst (v := 1) hx hb dX12_in_13 (by decide) ?_
      refine lv_goto (tgt := 18) hx hb dX12_in_14 (by decide) ?_
      rw [← hQ]
      exact W.zret (v := 1) hx hb hr (by decide) (fun t ht hW => ⟨_, rfl, ⟨(by first | exact Or.inl ⟨rfl, by first | omega | decide | (subst_vars; assumption), by first | omega | decide | (subst_vars; assumption)⟩), trivial⟩, ht⟩) (fun q hq => by cases hq) dX12_in_18
set_option maxHeartbeats 4000000 in
set_option maxRecDepth 100000 in
theorem v_is (l : Launch) (D : va_G) (K : Nat → ClassId) (x : Int32) (y : Int32) (sz : Nat) : Met l yX12_is wsX12_is ({ frames := 0, cells := 0, slots := 0, locals := 0 }) (va_Pc [.int x, .int y] (Pre D K [] sz)) (vp_Si (fun r : Int32 => (0 ≤ r.toInt ∧ r.toInt ≤ 1) ∧ True)) 0 0 (fun _ => False) := by
  refine Met.ofW (cc := cX12_is) (maxL := 2) (ret := (some .boolean)) (by decide) rfl ?_
  intro p e s m args below meth c s₁ B hml hv
  obtain ⟨rfl, hsz, hP, hK, hD0, hN⟩ := hv
  have hx := B.exec
  have hb := B.bytes
  have hr := B.returns
  have hts := atoms_spec (ws := wsX12_is) B.pre
  have hown : s.vm.findClass RX12 = some m.cls := findClass_of_methodNamed B.named
  have hlocks := B.notSynchronized
  subst hsz
  have hD := hD0
  have hP : va_P D vwCl [] s.heap := hP
  have hl := lv_entry [.int x, .int y] (n := 2) (Nat.le_of_ble_eq_true rfl)
  rw [lg_entry_eq]
  generalize (lg_sl [.int x, .int y] ++ List.replicate (2 - (lg_sl [.int x, .int y]).length) Slot.unset).toArray = ls at hl ⊢
  have hl : lv_has ls 2 [(0, .int x), (1, .int y)] := hl
  generalize hQ : MQ below _ _ s _ _ _ = Q
  refine lv_iload_n hx hb dX12_is_0 rfl (lv_at hl 0 rfl) ?_
  refine lv_iload_n hx hb dX12_is_1 rfl (lv_at hl 1 rfl) ?_
  refine lv_ishr hx hb dX12_is_2 ?_
  refine lv_topi (fun x_67 ex_67 => ?_)
  refine lv_iconst (v := 1) hx hb dX12_is_3 (by decide) ?_
  refine lv_iand hx hb dX12_is_4 ?_
  refine lv_topi (fun x_68 ex_68 => ?_)
  have hx_68 : 0 ≤ x_68.toInt ∧ x_68.toInt ≤ 1 := by rw [ex_68]; exact i_mask x_67 1 rfl (by decide)
  refine lv_iconst (v := 1) hx hb dX12_is_5 (by decide) ?_
  refine lv_icmp_ne (tgt := 13) hx hb dX12_is_6 (by decide) (fun c_69 => ?_) (fun c_69 => ?_)
  · have c_69i := i_ne (x := x_68.toInt) (y := 1) rfl rfl c_69
    refine lv_iconst (v := 0) hx hb dX12_is_13 (by decide) ?_
    rw [← hQ]
    exact W.zret (v := 0) hx hb hr (by decide) (fun t ht hW => ⟨_, rfl, ⟨(show 0 ≤ (0 : Int32).toInt ∧ (0 : Int32).toInt ≤ 1 by decide), trivial⟩, ht⟩) (fun q hq => by cases hq) dX12_is_14
  · have c_69i := i_eq (x := x_68.toInt) (y := 1) rfl rfl c_69
    refine lv_iconst (v := 1) hx hb dX12_is_9 (by decide) ?_
    refine lv_goto (tgt := 14) hx hb dX12_is_10 (by decide) ?_
    rw [← hQ]
    exact W.zret (v := 1) hx hb hr (by decide) (fun t ht hW => ⟨_, rfl, ⟨(show 0 ≤ (1 : Int32).toInt ∧ (1 : Int32).toInt ≤ 1 by decide), trivial⟩, ht⟩) (fun q hq => by cases hq) dX12_is_14
set_option maxHeartbeats 4000000 in
set_option maxRecDepth 100000 in
theorem v_within_20 (l : Launch) (D : va_G) (K : Nat → ClassId) (x : Int64) (sz : Nat) : Met l yX12_within wsX12_within ({ frames := 0, cells := 0, slots := 0, locals := 0 }) (va_Pc [.long x, .int 0, .int 20] (Pre D K [] sz)) (vp_Si (fun r : Int32 => (0 ≤ r.toInt ∧ r.toInt ≤ 20) ∧ True)) 0 0 (fun _ => False) := by
  refine Met.ofW (cc := cX12_within) (maxL := 4) (ret := (some .int)) (by decide) rfl ?_
  intro p e s m args below meth c s₁ B hml hv
  obtain ⟨rfl, hsz, hP, hK, hD0, hN⟩ := hv
  have hx := B.exec
  have hb := B.bytes
  have hr := B.returns
  have hts := atoms_spec (ws := wsX12_within) B.pre
  have hown : s.vm.findClass RX12 = some m.cls := findClass_of_methodNamed B.named
  have hlocks := B.notSynchronized
  subst hsz
  have hD := hD0
  have hP : va_P D vwCl [] s.heap := hP
  have hl := lv_entry [.long x, .int 0, .int 20] (n := 4) (Nat.le_of_ble_eq_true rfl)
  rw [lg_entry_eq]
  generalize (lg_sl [.long x, .int 0, .int 20] ++ List.replicate (4 - (lg_sl [.long x, .int 0, .int 20]).length) Slot.unset).toArray = ls at hl ⊢
  have hl : lv_has ls 4 [(0, .long x), (2, .int 0), (3, .int 20)] := hl
  generalize hQ : MQ below _ _ s _ _ _ = Q
  refine lv_lload_n hx hb dX12_within_0 rfl (lv_at hl 0 rfl) ?_
  refine lv_iload_n hx hb dX12_within_1 rfl (lv_at hl 1 rfl) ?_
  refine lv_i2l (v := 0) hx hb dX12_within_2 (by decide) ?_
  refine W.lcmp hx hb dX12_within_3 ?_
  refine lv_if_ge (tgt := 11) hx hb dX12_within_4 (by decide) (fun c_67 => ?_) (fun c_67 => ?_)
  · have c_67i := l_le (x := 0) (y := x.toInt) rfl rfl ((lg_cmp_ge x 0).mp c_67)
    refine lv_lload_n hx hb dX12_within_11 rfl (lv_at hl 0 rfl) ?_
    refine lv_iload_n hx hb dX12_within_12 rfl (lv_at hl 2 rfl) ?_
    refine lv_i2l (v := 20) hx hb dX12_within_13 (by decide) ?_
    refine W.lcmp hx hb dX12_within_14 ?_
    refine lv_if_le (tgt := 22) hx hb dX12_within_15 (by decide) (fun c_68 => ?_) (fun c_68 => ?_)
    · have c_68i := l_le (x := x.toInt) (y := 20) rfl rfl ((lg_cmp_le x 20).mp c_68)
      refine lv_lload_n hx hb dX12_within_22 rfl (lv_at hl 0 rfl) ?_
      refine lv_l2i hx hb dX12_within_23 rfl ?_
      refine lv_topi (fun x_69 ex_69 => ?_)
      have hx_69 : x_69.toInt = x.toInt := by rw [ex_69]; exact l_nar rfl (by omega)
      rw [← hQ]
      exact W.iret (v := x_69) hx hb hr (fun t ht hW => ⟨_, rfl, ⟨(show 0 ≤ x_69.toInt ∧ x_69.toInt ≤ 20 by rw [hx_69]; omega), trivial⟩, ht⟩) (fun q hq => by cases hq) dX12_within_24
    · have c_68i := l_nle (x := x.toInt) (y := 20) rfl rfl (fun q => c_68 ((lg_cmp_le x 20).mpr q))
      refine lv_iload_n hx hb dX12_within_18 rfl (lv_at hl 2 rfl) ?_
      refine lv_goto (tgt := 24) hx hb dX12_within_19 (by decide) ?_
      rw [← hQ]
      exact W.iret (v := 20) hx hb hr (fun t ht hW => ⟨_, rfl, ⟨(show 0 ≤ (20 : Int32).toInt ∧ (20 : Int32).toInt ≤ 20 by decide), trivial⟩, ht⟩) (fun q hq => by cases hq) dX12_within_24
  · have c_67i := l_nle (x := 0) (y := x.toInt) rfl rfl (fun q => c_67 ((lg_cmp_ge x 0).mpr q))
    refine lv_iload_n hx hb dX12_within_7 rfl (lv_at hl 1 rfl) ?_
    refine lv_goto (tgt := 24) hx hb dX12_within_8 (by decide) ?_
    rw [← hQ]
    exact W.iret (v := 0) hx hb hr (fun t ht hW => ⟨_, rfl, ⟨(show 0 ≤ (0 : Int32).toInt ∧ (0 : Int32).toInt ≤ 20 by decide), trivial⟩, ht⟩) (fun q hq => by cases hq) dX12_within_24
set_option maxHeartbeats 4000000 in
set_option maxRecDepth 100000 in
theorem v_within_999 (l : Launch) (D : va_G) (K : Nat → ClassId) (x : Int64) (sz : Nat) : Met l yX12_within wsX12_within ({ frames := 0, cells := 0, slots := 0, locals := 0 }) (va_Pc [.long x, .int 0, .int 999] (Pre D K [] sz)) (vp_Si (fun r : Int32 => (0 ≤ r.toInt ∧ r.toInt ≤ 999) ∧ True)) 0 0 (fun _ => False) := by
  refine Met.ofW (cc := cX12_within) (maxL := 4) (ret := (some .int)) (by decide) rfl ?_
  intro p e s m args below meth c s₁ B hml hv
  obtain ⟨rfl, hsz, hP, hK, hD0, hN⟩ := hv
  have hx := B.exec
  have hb := B.bytes
  have hr := B.returns
  have hts := atoms_spec (ws := wsX12_within) B.pre
  have hown : s.vm.findClass RX12 = some m.cls := findClass_of_methodNamed B.named
  have hlocks := B.notSynchronized
  subst hsz
  have hD := hD0
  have hP : va_P D vwCl [] s.heap := hP
  have hl := lv_entry [.long x, .int 0, .int 999] (n := 4) (Nat.le_of_ble_eq_true rfl)
  rw [lg_entry_eq]
  generalize (lg_sl [.long x, .int 0, .int 999] ++ List.replicate (4 - (lg_sl [.long x, .int 0, .int 999]).length) Slot.unset).toArray = ls at hl ⊢
  have hl : lv_has ls 4 [(0, .long x), (2, .int 0), (3, .int 999)] := hl
  generalize hQ : MQ below _ _ s _ _ _ = Q
  refine lv_lload_n hx hb dX12_within_0 rfl (lv_at hl 0 rfl) ?_
  refine lv_iload_n hx hb dX12_within_1 rfl (lv_at hl 1 rfl) ?_
  refine lv_i2l (v := 0) hx hb dX12_within_2 (by decide) ?_
  refine W.lcmp hx hb dX12_within_3 ?_
  refine lv_if_ge (tgt := 11) hx hb dX12_within_4 (by decide) (fun c_67 => ?_) (fun c_67 => ?_)
  · have c_67i := l_le (x := 0) (y := x.toInt) rfl rfl ((lg_cmp_ge x 0).mp c_67)
    refine lv_lload_n hx hb dX12_within_11 rfl (lv_at hl 0 rfl) ?_
    refine lv_iload_n hx hb dX12_within_12 rfl (lv_at hl 2 rfl) ?_
    refine lv_i2l (v := 999) hx hb dX12_within_13 (by decide) ?_
    refine W.lcmp hx hb dX12_within_14 ?_
    refine lv_if_le (tgt := 22) hx hb dX12_within_15 (by decide) (fun c_68 => ?_) (fun c_68 => ?_)
    · have c_68i := l_le (x := x.toInt) (y := 999) rfl rfl ((lg_cmp_le x 999).mp c_68)
      refine lv_lload_n hx hb dX12_within_22 rfl (lv_at hl 0 rfl) ?_
      refine lv_l2i hx hb dX12_within_23 rfl ?_
      refine lv_topi (fun x_69 ex_69 => ?_)
      have hx_69 : x_69.toInt = x.toInt := by rw [ex_69]; exact l_nar rfl (by omega)
      rw [← hQ]
      exact W.iret (v := x_69) hx hb hr (fun t ht hW => ⟨_, rfl, ⟨(show 0 ≤ x_69.toInt ∧ x_69.toInt ≤ 999 by rw [hx_69]; omega), trivial⟩, ht⟩) (fun q hq => by cases hq) dX12_within_24
    · have c_68i := l_nle (x := x.toInt) (y := 999) rfl rfl (fun q => c_68 ((lg_cmp_le x 999).mpr q))
      refine lv_iload_n hx hb dX12_within_18 rfl (lv_at hl 2 rfl) ?_
      refine lv_goto (tgt := 24) hx hb dX12_within_19 (by decide) ?_
      rw [← hQ]
      exact W.iret (v := 999) hx hb hr (fun t ht hW => ⟨_, rfl, ⟨(show 0 ≤ (999 : Int32).toInt ∧ (999 : Int32).toInt ≤ 999 by decide), trivial⟩, ht⟩) (fun q hq => by cases hq) dX12_within_24
  · have c_67i := l_nle (x := 0) (y := x.toInt) rfl rfl (fun q => c_67 ((lg_cmp_ge x 0).mpr q))
    refine lv_iload_n hx hb dX12_within_7 rfl (lv_at hl 1 rfl) ?_
    refine lv_goto (tgt := 24) hx hb dX12_within_8 (by decide) ?_
    rw [← hQ]
    exact W.iret (v := 0) hx hb hr (fun t ht hW => ⟨_, rfl, ⟨(show 0 ≤ (0 : Int32).toInt ∧ (0 : Int32).toInt ≤ 999 by decide), trivial⟩, ht⟩) (fun q hq => by cases hq) dX12_within_24
set_option maxHeartbeats 4000000 in
set_option maxRecDepth 100000 in
theorem v_within_99999 (l : Launch) (D : va_G) (K : Nat → ClassId) (x : Int64) (sz : Nat) : Met l yX12_within wsX12_within ({ frames := 0, cells := 0, slots := 0, locals := 0 }) (va_Pc [.long x, .int 0, .int 99999] (Pre D K [] sz)) (vp_Si (fun r : Int32 => (0 ≤ r.toInt ∧ r.toInt ≤ 99999) ∧ True)) 0 0 (fun _ => False) := by
  refine Met.ofW (cc := cX12_within) (maxL := 4) (ret := (some .int)) (by decide) rfl ?_
  intro p e s m args below meth c s₁ B hml hv
  obtain ⟨rfl, hsz, hP, hK, hD0, hN⟩ := hv
  have hx := B.exec
  have hb := B.bytes
  have hr := B.returns
  have hts := atoms_spec (ws := wsX12_within) B.pre
  have hown : s.vm.findClass RX12 = some m.cls := findClass_of_methodNamed B.named
  have hlocks := B.notSynchronized
  subst hsz
  have hD := hD0
  have hP : va_P D vwCl [] s.heap := hP
  have hl := lv_entry [.long x, .int 0, .int 99999] (n := 4) (Nat.le_of_ble_eq_true rfl)
  rw [lg_entry_eq]
  generalize (lg_sl [.long x, .int 0, .int 99999] ++ List.replicate (4 - (lg_sl [.long x, .int 0, .int 99999]).length) Slot.unset).toArray = ls at hl ⊢
  have hl : lv_has ls 4 [(0, .long x), (2, .int 0), (3, .int 99999)] := hl
  generalize hQ : MQ below _ _ s _ _ _ = Q
  refine lv_lload_n hx hb dX12_within_0 rfl (lv_at hl 0 rfl) ?_
  refine lv_iload_n hx hb dX12_within_1 rfl (lv_at hl 1 rfl) ?_
  refine lv_i2l (v := 0) hx hb dX12_within_2 (by decide) ?_
  refine W.lcmp hx hb dX12_within_3 ?_
  refine lv_if_ge (tgt := 11) hx hb dX12_within_4 (by decide) (fun c_67 => ?_) (fun c_67 => ?_)
  · have c_67i := l_le (x := 0) (y := x.toInt) rfl rfl ((lg_cmp_ge x 0).mp c_67)
    refine lv_lload_n hx hb dX12_within_11 rfl (lv_at hl 0 rfl) ?_
    refine lv_iload_n hx hb dX12_within_12 rfl (lv_at hl 2 rfl) ?_
    refine lv_i2l (v := 99999) hx hb dX12_within_13 (by decide) ?_
    refine W.lcmp hx hb dX12_within_14 ?_
    refine lv_if_le (tgt := 22) hx hb dX12_within_15 (by decide) (fun c_68 => ?_) (fun c_68 => ?_)
    · have c_68i := l_le (x := x.toInt) (y := 99999) rfl rfl ((lg_cmp_le x 99999).mp c_68)
      refine lv_lload_n hx hb dX12_within_22 rfl (lv_at hl 0 rfl) ?_
      refine lv_l2i hx hb dX12_within_23 rfl ?_
      refine lv_topi (fun x_69 ex_69 => ?_)
      have hx_69 : x_69.toInt = x.toInt := by rw [ex_69]; exact l_nar rfl (by omega)
      rw [← hQ]
      exact W.iret (v := x_69) hx hb hr (fun t ht hW => ⟨_, rfl, ⟨(show 0 ≤ x_69.toInt ∧ x_69.toInt ≤ 99999 by rw [hx_69]; omega), trivial⟩, ht⟩) (fun q hq => by cases hq) dX12_within_24
    · have c_68i := l_nle (x := x.toInt) (y := 99999) rfl rfl (fun q => c_68 ((lg_cmp_le x 99999).mpr q))
      refine lv_iload_n hx hb dX12_within_18 rfl (lv_at hl 2 rfl) ?_
      refine lv_goto (tgt := 24) hx hb dX12_within_19 (by decide) ?_
      rw [← hQ]
      exact W.iret (v := 99999) hx hb hr (fun t ht hW => ⟨_, rfl, ⟨(show 0 ≤ (99999 : Int32).toInt ∧ (99999 : Int32).toInt ≤ 99999 by decide), trivial⟩, ht⟩) (fun q hq => by cases hq) dX12_within_24
  · have c_67i := l_nle (x := 0) (y := x.toInt) rfl rfl (fun q => c_67 ((lg_cmp_ge x 0).mpr q))
    refine lv_iload_n hx hb dX12_within_7 rfl (lv_at hl 1 rfl) ?_
    refine lv_goto (tgt := 24) hx hb dX12_within_8 (by decide) ?_
    rw [← hQ]
    exact W.iret (v := 0) hx hb hr (fun t ht hW => ⟨_, rfl, ⟨(show 0 ≤ (0 : Int32).toInt ∧ (0 : Int32).toInt ≤ 99999 by decide), trivial⟩, ht⟩) (fun q hq => by cases hq) dX12_within_24
set_option maxHeartbeats 4000000 in
set_option maxRecDepth 100000 in
theorem v_within_9999 (l : Launch) (D : va_G) (K : Nat → ClassId) (x : Int64) (sz : Nat) : Met l yX12_within wsX12_within ({ frames := 0, cells := 0, slots := 0, locals := 0 }) (va_Pc [.long x, .int 0, .int 9999] (Pre D K [] sz)) (vp_Si (fun r : Int32 => (0 ≤ r.toInt ∧ r.toInt ≤ 9999) ∧ True)) 0 0 (fun _ => False) := by
  refine Met.ofW (cc := cX12_within) (maxL := 4) (ret := (some .int)) (by decide) rfl ?_
  intro p e s m args below meth c s₁ B hml hv
  obtain ⟨rfl, hsz, hP, hK, hD0, hN⟩ := hv
  have hx := B.exec
  have hb := B.bytes
  have hr := B.returns
  have hts := atoms_spec (ws := wsX12_within) B.pre
  have hown : s.vm.findClass RX12 = some m.cls := findClass_of_methodNamed B.named
  have hlocks := B.notSynchronized
  subst hsz
  have hD := hD0
  have hP : va_P D vwCl [] s.heap := hP
  have hl := lv_entry [.long x, .int 0, .int 9999] (n := 4) (Nat.le_of_ble_eq_true rfl)
  rw [lg_entry_eq]
  generalize (lg_sl [.long x, .int 0, .int 9999] ++ List.replicate (4 - (lg_sl [.long x, .int 0, .int 9999]).length) Slot.unset).toArray = ls at hl ⊢
  have hl : lv_has ls 4 [(0, .long x), (2, .int 0), (3, .int 9999)] := hl
  generalize hQ : MQ below _ _ s _ _ _ = Q
  refine lv_lload_n hx hb dX12_within_0 rfl (lv_at hl 0 rfl) ?_
  refine lv_iload_n hx hb dX12_within_1 rfl (lv_at hl 1 rfl) ?_
  refine lv_i2l (v := 0) hx hb dX12_within_2 (by decide) ?_
  refine W.lcmp hx hb dX12_within_3 ?_
  refine lv_if_ge (tgt := 11) hx hb dX12_within_4 (by decide) (fun c_67 => ?_) (fun c_67 => ?_)
  · have c_67i := l_le (x := 0) (y := x.toInt) rfl rfl ((lg_cmp_ge x 0).mp c_67)
    refine lv_lload_n hx hb dX12_within_11 rfl (lv_at hl 0 rfl) ?_
    refine lv_iload_n hx hb dX12_within_12 rfl (lv_at hl 2 rfl) ?_
    refine lv_i2l (v := 9999) hx hb dX12_within_13 (by decide) ?_
    refine W.lcmp hx hb dX12_within_14 ?_
    refine lv_if_le (tgt := 22) hx hb dX12_within_15 (by decide) (fun c_68 => ?_) (fun c_68 => ?_)
    · have c_68i := l_le (x := x.toInt) (y := 9999) rfl rfl ((lg_cmp_le x 9999).mp c_68)
      refine lv_lload_n hx hb dX12_within_22 rfl (lv_at hl 0 rfl) ?_
      refine lv_l2i hx hb dX12_within_23 rfl ?_
      refine lv_topi (fun x_69 ex_69 => ?_)
      have hx_69 : x_69.toInt = x.toInt := by rw [ex_69]; exact l_nar rfl (by omega)
      rw [← hQ]
      exact W.iret (v := x_69) hx hb hr (fun t ht hW => ⟨_, rfl, ⟨(show 0 ≤ x_69.toInt ∧ x_69.toInt ≤ 9999 by rw [hx_69]; omega), trivial⟩, ht⟩) (fun q hq => by cases hq) dX12_within_24
    · have c_68i := l_nle (x := x.toInt) (y := 9999) rfl rfl (fun q => c_68 ((lg_cmp_le x 9999).mpr q))
      refine lv_iload_n hx hb dX12_within_18 rfl (lv_at hl 2 rfl) ?_
      refine lv_goto (tgt := 24) hx hb dX12_within_19 (by decide) ?_
      rw [← hQ]
      exact W.iret (v := 9999) hx hb hr (fun t ht hW => ⟨_, rfl, ⟨(show 0 ≤ (9999 : Int32).toInt ∧ (9999 : Int32).toInt ≤ 9999 by decide), trivial⟩, ht⟩) (fun q hq => by cases hq) dX12_within_24
  · have c_67i := l_nle (x := 0) (y := x.toInt) rfl rfl (fun q => c_67 ((lg_cmp_ge x 0).mpr q))
    refine lv_iload_n hx hb dX12_within_7 rfl (lv_at hl 1 rfl) ?_
    refine lv_goto (tgt := 24) hx hb dX12_within_8 (by decide) ?_
    rw [← hQ]
    exact W.iret (v := 0) hx hb hr (fun t ht hW => ⟨_, rfl, ⟨(show 0 ≤ (0 : Int32).toInt ∧ (0 : Int32).toInt ≤ 9999 by decide), trivial⟩, ht⟩) (fun q hq => by cases hq) dX12_within_24
set_option maxHeartbeats 4000000 in
set_option maxRecDepth 100000 in
theorem v_within_100000000 (l : Launch) (D : va_G) (K : Nat → ClassId) (x : Int64) (sz : Nat) : Met l yX12_within wsX12_within ({ frames := 0, cells := 0, slots := 0, locals := 0 }) (va_Pc [.long x, .int 0, .int 100000000] (Pre D K [] sz)) (vp_Si (fun r : Int32 => (0 ≤ r.toInt ∧ r.toInt ≤ 100000000) ∧ True)) 0 0 (fun _ => False) := by
  refine Met.ofW (cc := cX12_within) (maxL := 4) (ret := (some .int)) (by decide) rfl ?_
  intro p e s m args below meth c s₁ B hml hv
  obtain ⟨rfl, hsz, hP, hK, hD0, hN⟩ := hv
  have hx := B.exec
  have hb := B.bytes
  have hr := B.returns
  have hts := atoms_spec (ws := wsX12_within) B.pre
  have hown : s.vm.findClass RX12 = some m.cls := findClass_of_methodNamed B.named
  have hlocks := B.notSynchronized
  subst hsz
  have hD := hD0
  have hP : va_P D vwCl [] s.heap := hP
  have hl := lv_entry [.long x, .int 0, .int 100000000] (n := 4) (Nat.le_of_ble_eq_true rfl)
  rw [lg_entry_eq]
  generalize (lg_sl [.long x, .int 0, .int 100000000] ++ List.replicate (4 - (lg_sl [.long x, .int 0, .int 100000000]).length) Slot.unset).toArray = ls at hl ⊢
  have hl : lv_has ls 4 [(0, .long x), (2, .int 0), (3, .int 100000000)] := hl
  generalize hQ : MQ below _ _ s _ _ _ = Q
  refine lv_lload_n hx hb dX12_within_0 rfl (lv_at hl 0 rfl) ?_
  refine lv_iload_n hx hb dX12_within_1 rfl (lv_at hl 1 rfl) ?_
  refine lv_i2l (v := 0) hx hb dX12_within_2 (by decide) ?_
  refine W.lcmp hx hb dX12_within_3 ?_
  refine lv_if_ge (tgt := 11) hx hb dX12_within_4 (by decide) (fun c_67 => ?_) (fun c_67 => ?_)
  · have c_67i := l_le (x := 0) (y := x.toInt) rfl rfl ((lg_cmp_ge x 0).mp c_67)
    refine lv_lload_n hx hb dX12_within_11 rfl (lv_at hl 0 rfl) ?_
    refine lv_iload_n hx hb dX12_within_12 rfl (lv_at hl 2 rfl) ?_
    refine lv_i2l (v := 100000000) hx hb dX12_within_13 (by decide) ?_
    refine W.lcmp hx hb dX12_within_14 ?_
    refine lv_if_le (tgt := 22) hx hb dX12_within_15 (by decide) (fun c_68 => ?_) (fun c_68 => ?_)
    · have c_68i := l_le (x := x.toInt) (y := 100000000) rfl rfl ((lg_cmp_le x 100000000).mp c_68)
      refine lv_lload_n hx hb dX12_within_22 rfl (lv_at hl 0 rfl) ?_
      refine lv_l2i hx hb dX12_within_23 rfl ?_
      refine lv_topi (fun x_69 ex_69 => ?_)
      have hx_69 : x_69.toInt = x.toInt := by rw [ex_69]; exact l_nar rfl (by omega)
      rw [← hQ]
      exact W.iret (v := x_69) hx hb hr (fun t ht hW => ⟨_, rfl, ⟨(show 0 ≤ x_69.toInt ∧ x_69.toInt ≤ 100000000 by rw [hx_69]; omega), trivial⟩, ht⟩) (fun q hq => by cases hq) dX12_within_24
    · have c_68i := l_nle (x := x.toInt) (y := 100000000) rfl rfl (fun q => c_68 ((lg_cmp_le x 100000000).mpr q))
      refine lv_iload_n hx hb dX12_within_18 rfl (lv_at hl 2 rfl) ?_
      refine lv_goto (tgt := 24) hx hb dX12_within_19 (by decide) ?_
      rw [← hQ]
      exact W.iret (v := 100000000) hx hb hr (fun t ht hW => ⟨_, rfl, ⟨(show 0 ≤ (100000000 : Int32).toInt ∧ (100000000 : Int32).toInt ≤ 100000000 by decide), trivial⟩, ht⟩) (fun q hq => by cases hq) dX12_within_24
  · have c_67i := l_nle (x := 0) (y := x.toInt) rfl rfl (fun q => c_67 ((lg_cmp_ge x 0).mpr q))
    refine lv_iload_n hx hb dX12_within_7 rfl (lv_at hl 1 rfl) ?_
    refine lv_goto (tgt := 24) hx hb dX12_within_8 (by decide) ?_
    rw [← hQ]
    exact W.iret (v := 0) hx hb hr (fun t ht hW => ⟨_, rfl, ⟨(show 0 ≤ (0 : Int32).toInt ∧ (0 : Int32).toInt ≤ 100000000 by decide), trivial⟩, ht⟩) (fun q hq => by cases hq) dX12_within_24
set_option maxHeartbeats 4000000 in
set_option maxRecDepth 100000 in
theorem v_tell (l : Launch) (D : va_G) (K : Nat → ClassId) (m0 : Nat) (x : Int32) (m_0 : Value) (sta : Int32) (r0 : Nat) (m_3 : Value) (m_4 : Value) (m_5 : Value) (m_6 : Value) (m_7 : Value) (m_8 : Value) (m_9 : Value) (m_10 : Value) (m_11 : Value) (m_12 : Value) (m_13 : Value) (m_14 : Value) (m_15 : Value) (m_16 : Value) (m_17 : Value) (m_18 : Value) (m_19 : Value) (m_20 : Value) (m_21 : Value) (m_22 : Value) (m_23 : Value) (m_24 : Value) (m_25 : Value) (m_26 : Value) (m_27 : Value) (m_28 : Value) (m_29 : Value) (m_30 : Value) (m_31 : Value) (m_32 : Value) (m_33 : Value) (m_34 : Value) (m_35 : Value) (m_36 : Value) (m_37 : Value) (m_38 : Value) (m_39 : Value) (m_40 : Value) (m_41 : Value) (m_42 : Value) (m_43 : Value) (m_44 : Value) (m_45 : Value) (m_46 : Value) (m_47 : Value) (m_48 : Value) (m_49 : Value) (m_50 : Value) (m_51 : Value) (m_52 : Value) (m_53 : Value) (m_54 : Value) (m_55 : Value) (m_56 : Value) (m_57 : Value) (m_58 : Value) (m_59 : Value) (frf : Nat → Int32) (sz : Nat) (zx : (-6) ≤ x.toInt ∧ x.toInt ≤ 2147483647) : Met l yX12_tell wsX12_tell ({ frames := 0, cells := 0, slots := 0, locals := 0 }) (va_Pc [.ref m0, .int x] (Pre D K [(m0, .inr (12, [m_0, .int sta, .ref r0, m_3, m_4, m_5, m_6, m_7, m_8, m_9, m_10, m_11, m_12, m_13, m_14, m_15, m_16, m_17, m_18, m_19, m_20, m_21, m_22, m_23, m_24, m_25, m_26, m_27, m_28, m_29, m_30, m_31, m_32, m_33, m_34, m_35, m_36, m_37, m_38, m_39, m_40, m_41, m_42, m_43, m_44, m_45, m_46, m_47, m_48, m_49, m_50, m_51, m_52, m_53, m_54, m_55, m_56, m_57, m_58, m_59])), (r0, .inl (K 0, 7, .inl frf))] sz)) (va_Qi (S := Su) (fun (r : Int32) (u : Su) => ((-6) ≤ r.toInt) ∧ ((-6) ≤ (u.2.2.2.1 0).toInt ∧ (u.2.2.2.1 0).toInt ≤ 0) ∧ True) (fun u t => Wd D (va_A [(m0, .inr (12, [m_0, .int sta, .ref r0, m_3, m_4, m_5, m_6, m_7, m_8, m_9, m_10, m_11, m_12, m_13, m_14, m_15, m_16, m_17, m_18, m_19, m_20, m_21, m_22, m_23, m_24, m_25, m_26, m_27, m_28, m_29, m_30, m_31, m_32, m_33, m_34, m_35, m_36, m_37, m_38, m_39, m_40, m_41, m_42, m_43, m_44, m_45, m_46, m_47, m_48, m_49, m_50, m_51, m_52, m_53, m_54, m_55, m_56, m_57, m_58, m_59])), (r0, .inl (K 0, 7, .inl frf))] sz) ((fun u => [(m0, .inr (12, [m_0, .int (u.2.2.2.1 0), .ref r0, m_3, m_4, m_5, m_6, m_7, m_8, m_9, m_10, m_11, m_12, m_13, m_14, m_15, m_16, m_17, m_18, m_19, m_20, m_21, m_22, m_23, m_24, m_25, m_26, m_27, m_28, m_29, m_30, m_31, m_32, m_33, m_34, m_35, m_36, m_37, m_38, m_39, m_40, m_41, m_42, m_43, m_44, m_45, m_46, m_47, m_48, m_49, m_50, m_51, m_52, m_53, m_54, m_55, m_56, m_57, m_58, m_59])), (r0, .inl (K 0, 7, .inl (u.2.1 0)))]) u) t) (va_A [(m0, .inr (12, [m_0, .int sta, .ref r0, m_3, m_4, m_5, m_6, m_7, m_8, m_9, m_10, m_11, m_12, m_13, m_14, m_15, m_16, m_17, m_18, m_19, m_20, m_21, m_22, m_23, m_24, m_25, m_26, m_27, m_28, m_29, m_30, m_31, m_32, m_33, m_34, m_35, m_36, m_37, m_38, m_39, m_40, m_41, m_42, m_43, m_44, m_45, m_46, m_47, m_48, m_49, m_50, m_51, m_52, m_53, m_54, m_55, m_56, m_57, m_58, m_59])), (r0, .inl (K 0, 7, .inl frf))] sz)) 0 0 (va_A [(m0, .inr (12, [m_0, .int sta, .ref r0, m_3, m_4, m_5, m_6, m_7, m_8, m_9, m_10, m_11, m_12, m_13, m_14, m_15, m_16, m_17, m_18, m_19, m_20, m_21, m_22, m_23, m_24, m_25, m_26, m_27, m_28, m_29, m_30, m_31, m_32, m_33, m_34, m_35, m_36, m_37, m_38, m_39, m_40, m_41, m_42, m_43, m_44, m_45, m_46, m_47, m_48, m_49, m_50, m_51, m_52, m_53, m_54, m_55, m_56, m_57, m_58, m_59])), (r0, .inl (K 0, 7, .inl frf))] sz) := by
  refine Met.ofW (cc := cX12_tell) (maxL := 2) (ret := (some .int)) (by decide) rfl ?_
  intro p e s m args below meth c s₁ B hml hv
  obtain ⟨rfl, hsz, hP, hK, hD0, hN⟩ := hv
  have hx := B.exec
  have hb := B.bytes
  have hr := B.returns
  have hts := atoms_spec (ws := wsX12_tell) B.pre
  have hown : s.vm.findClass RX12 = some m.cls := findClass_of_methodNamed B.named
  have hlocks := B.notSynchronized
  subst hsz
  have hD := hD0.self (sz := s.heap.size)
  generalize hAe : va_A [(m0, .inr (12, [m_0, .int sta, .ref r0, m_3, m_4, m_5, m_6, m_7, m_8, m_9, m_10, m_11, m_12, m_13, m_14, m_15, m_16, m_17, m_18, m_19, m_20, m_21, m_22, m_23, m_24, m_25, m_26, m_27, m_28, m_29, m_30, m_31, m_32, m_33, m_34, m_35, m_36, m_37, m_38, m_39, m_40, m_41, m_42, m_43, m_44, m_45, m_46, m_47, m_48, m_49, m_50, m_51, m_52, m_53, m_54, m_55, m_56, m_57, m_58, m_59])), (r0, .inl (K 0, 7, .inl frf))] s.heap.size = A at hD ⊢
  have hA : ∀ q : Nat, s.heap.size ≤ q → A q := fun q h => by rw [← hAe]; exact Or.inr h
  have hS : va_S A s.heap s.heap [] := va_S.rf
  have hP : va_P D vwCl [(m0, .inr (12, [m_0, .int sta, .ref r0, m_3, m_4, m_5, m_6, m_7, m_8, m_9, m_10, m_11, m_12, m_13, m_14, m_15, m_16, m_17, m_18, m_19, m_20, m_21, m_22, m_23, m_24, m_25, m_26, m_27, m_28, m_29, m_30, m_31, m_32, m_33, m_34, m_35, m_36, m_37, m_38, m_39, m_40, m_41, m_42, m_43, m_44, m_45, m_46, m_47, m_48, m_49, m_50, m_51, m_52, m_53, m_54, m_55, m_56, m_57, m_58, m_59])), (r0, .inl (K 0, 7, .inl frf))] s.heap := hP
  have hl := lv_entry [.ref m0, .int x] (n := 2) (Nat.le_of_ble_eq_true rfl)
  rw [lg_entry_eq]
  generalize (lg_sl [.ref m0, .int x] ++ List.replicate (2 - (lg_sl [.ref m0, .int x]).length) Slot.unset).toArray = ls at hl ⊢
  have hl : lv_has ls 2 [(0, .ref m0), (1, .int x)] := hl
  have hw12 : ∀ w ∈ wsX120, w ∈ wsX12_tell := fun w h => (List.mem_cons_of_mem _ (List.mem_append_right _ h))
  generalize hQ : MQ below _ _ s _ _ _ = Q
  refine lv_aload_n hx hb dX12_tell_0 rfl (lv_at hl 0 rfl) ?_
  refine lv_iload_n hx hb dX12_tell_1 rfl (lv_at hl 1 rfl) ?_
  have j_104 : ∀ (v_102 : Int32) (f_103 : Nat → Int32) (hv_102 : (-6) ≤ v_102.toInt ∧ v_102.toInt ≤ 0) (H : Heap) (locs : List Loc) (hP : va_P D vwCl [(m0, .inr (12, [m_0, .int v_102, .ref r0, m_3, m_4, m_5, m_6, m_7, m_8, m_9, m_10, m_11, m_12, m_13, m_14, m_15, m_16, m_17, m_18, m_19, m_20, m_21, m_22, m_23, m_24, m_25, m_26, m_27, m_28, m_29, m_30, m_31, m_32, m_33, m_34, m_35, m_36, m_37, m_38, m_39, m_40, m_41, m_42, m_43, m_44, m_45, m_46, m_47, m_48, m_49, m_50, m_51, m_52, m_53, m_54, m_55, m_56, m_57, m_58, m_59])), (r0, .inl (K 0, 7, .inl f_103))] H) (hD : va_D A [(m0, .inr (12, [m_0, .int v_102, .ref r0, m_3, m_4, m_5, m_6, m_7, m_8, m_9, m_10, m_11, m_12, m_13, m_14, m_15, m_16, m_17, m_18, m_19, m_20, m_21, m_22, m_23, m_24, m_25, m_26, m_27, m_28, m_29, m_30, m_31, m_32, m_33, m_34, m_35, m_36, m_37, m_38, m_39, m_40, m_41, m_42, m_43, m_44, m_45, m_46, m_47, m_48, m_49, m_50, m_51, m_52, m_53, m_54, m_55, m_56, m_57, m_58, m_59])), (r0, .inl (K 0, 7, .inl f_103))]) (hS : va_S A s.heap H locs) (ls : Array Slot) (hl : lv_has ls 2 [(1, .int x)]), W p l e ({ frames := 0, cells := 0, slots := 0, locals := 0 }) s m (([.ref m0, .int x] : List Value).toArray) below meth c H locs 0 0 Q (F0 m 28 ls []) := by
    intro v_102 f_103 hv_102 H locs hP hD hS ls hl
    refine lv_iload_n hx hb dX12_tell_28 rfl (lv_at hl 0 rfl) ?_
    rw [← hQ]
    have hP9 := hP.sub (ws' := [(m0, .inr (12, [m_0, .int v_102, .ref r0, m_3, m_4, m_5, m_6, m_7, m_8, m_9, m_10, m_11, m_12, m_13, m_14, m_15, m_16, m_17, m_18, m_19, m_20, m_21, m_22, m_23, m_24, m_25, m_26, m_27, m_28, m_29, m_30, m_31, m_32, m_33, m_34, m_35, m_36, m_37, m_38, m_39, m_40, m_41, m_42, m_43, m_44, m_45, m_46, m_47, m_48, m_49, m_50, m_51, m_52, m_53, m_54, m_55, m_56, m_57, m_58, m_59])), (r0, .inl (K 0, 7, .inl f_103))]) [0, 1] rfl
    have hD9 := hD.sub (ws' := [(m0, .inr (12, [m_0, .int v_102, .ref r0, m_3, m_4, m_5, m_6, m_7, m_8, m_9, m_10, m_11, m_12, m_13, m_14, m_15, m_16, m_17, m_18, m_19, m_20, m_21, m_22, m_23, m_24, m_25, m_26, m_27, m_28, m_29, m_30, m_31, m_32, m_33, m_34, m_35, m_36, m_37, m_38, m_39, m_40, m_41, m_42, m_43, m_44, m_45, m_46, m_47, m_48, m_49, m_50, m_51, m_52, m_53, m_54, m_55, m_56, m_57, m_58, m_59])), (r0, .inl (K 0, 7, .inl f_103))]) [0, 1] (by decide) rfl
    exact W.iret (v := x) hx hb hr (fun t ht hW => ⟨⟨x, ((fun _ => 0, fun i => match i with | _ => f_103, fun _ => fun _ => 0, fun i => match i with | _ => v_102, fun _ => 0, fun _ => fun _ => none) : Su), rfl, ⟨(show (-6) ≤ x.toInt by omega), (show (-6) ≤ (v_102 : Int32).toInt ∧ (v_102 : Int32).toInt ≤ 0 by omega), trivial⟩, (⟨by rw [ht]; exact hP9, hD9⟩ : Wd D A _ t)⟩, hS.F ht⟩) hS.2.2 dX12_tell_29
  refine lv_if_ge (tgt := 9) hx hb dX12_tell_2 (by decide) (fun c_105 => ?_) (fun c_105 => ?_)
  · have c_105i := i_le (x := 0) (y := x.toInt) rfl rfl c_105
    refine lv_iconst (v := 0) hx hb dX12_tell_9 (by decide) ?_
    refine va_put (ci := 12) (v := .int 0) (ty := .int) (C := RX12) (T := TX12) (N := 60) hx hb hts hw12 tyX12 tyX12_ok nmX12 hown hK hP hD hS 0 rfl rfl 1 (by decide) (hts (.fieldLink RX12 161 "SmokeTuneModel" "status" "I") (List.mem_cons_of_mem _ (List.mem_append_left _ (List.mem_of_getElem? (i := 0) rfl)))) (fun _ h9 => h9) rfl (by decide +kernel) (by first | rfl | decide) (by first | rfl | decide) (Nat.le_of_ble_eq_true rfl) dX12_tell_10 (fun H locs hP hD hS => ?_)
    have hP : va_P D vwCl [(m0, .inr (12, [m_0, .int 0, .ref r0, m_3, m_4, m_5, m_6, m_7, m_8, m_9, m_10, m_11, m_12, m_13, m_14, m_15, m_16, m_17, m_18, m_19, m_20, m_21, m_22, m_23, m_24, m_25, m_26, m_27, m_28, m_29, m_30, m_31, m_32, m_33, m_34, m_35, m_36, m_37, m_38, m_39, m_40, m_41, m_42, m_43, m_44, m_45, m_46, m_47, m_48, m_49, m_50, m_51, m_52, m_53, m_54, m_55, m_56, m_57, m_58, m_59])), (r0, .inl (K 0, 7, .inl frf))] H := hP
    have hD : va_D A [(m0, .inr (12, [m_0, .int 0, .ref r0, m_3, m_4, m_5, m_6, m_7, m_8, m_9, m_10, m_11, m_12, m_13, m_14, m_15, m_16, m_17, m_18, m_19, m_20, m_21, m_22, m_23, m_24, m_25, m_26, m_27, m_28, m_29, m_30, m_31, m_32, m_33, m_34, m_35, m_36, m_37, m_38, m_39, m_40, m_41, m_42, m_43, m_44, m_45, m_46, m_47, m_48, m_49, m_50, m_51, m_52, m_53, m_54, m_55, m_56, m_57, m_58, m_59])), (r0, .inl (K 0, 7, .inl frf))] := hD
    refine lv_iload_n hx hb dX12_tell_13 rfl (lv_at hl 1 rfl) ?_
    refine lv_if_ge (tgt := 28) hx hb dX12_tell_14 (by decide) (fun c_106 => ?_) (fun c_106 => ?_)
    · have c_106i := i_le (x := 0) (y := x.toInt) rfl rfl c_106
      exact j_104 0 frf (by decide) _ _ hP hD hS ls (lv_sub hl [1] rfl)
    · have c_106i := i_nle (x := 0) (y := x.toInt) rfl rfl c_106
      exfalso; omega
  · have c_105i := i_nle (x := 0) (y := x.toInt) rfl rfl c_105
    refine lv_iload_n hx hb dX12_tell_5 rfl (lv_at hl 1 rfl) ?_
    refine lv_goto (tgt := 10) hx hb dX12_tell_6 (by decide) ?_
    refine va_put (ci := 12) (v := .int x) (ty := .int) (C := RX12) (T := TX12) (N := 60) hx hb hts hw12 tyX12 tyX12_ok nmX12 hown hK hP hD hS 0 rfl rfl 1 (by decide) (hts (.fieldLink RX12 161 "SmokeTuneModel" "status" "I") (List.mem_cons_of_mem _ (List.mem_append_left _ (List.mem_of_getElem? (i := 0) rfl)))) (fun _ h9 => h9) rfl (by decide +kernel) (by first | rfl | decide) (by first | rfl | decide) (Nat.le_of_ble_eq_true rfl) dX12_tell_10 (fun H locs hP hD hS => ?_)
    have hP : va_P D vwCl [(m0, .inr (12, [m_0, .int x, .ref r0, m_3, m_4, m_5, m_6, m_7, m_8, m_9, m_10, m_11, m_12, m_13, m_14, m_15, m_16, m_17, m_18, m_19, m_20, m_21, m_22, m_23, m_24, m_25, m_26, m_27, m_28, m_29, m_30, m_31, m_32, m_33, m_34, m_35, m_36, m_37, m_38, m_39, m_40, m_41, m_42, m_43, m_44, m_45, m_46, m_47, m_48, m_49, m_50, m_51, m_52, m_53, m_54, m_55, m_56, m_57, m_58, m_59])), (r0, .inl (K 0, 7, .inl frf))] H := hP
    have hD : va_D A [(m0, .inr (12, [m_0, .int x, .ref r0, m_3, m_4, m_5, m_6, m_7, m_8, m_9, m_10, m_11, m_12, m_13, m_14, m_15, m_16, m_17, m_18, m_19, m_20, m_21, m_22, m_23, m_24, m_25, m_26, m_27, m_28, m_29, m_30, m_31, m_32, m_33, m_34, m_35, m_36, m_37, m_38, m_39, m_40, m_41, m_42, m_43, m_44, m_45, m_46, m_47, m_48, m_49, m_50, m_51, m_52, m_53, m_54, m_55, m_56, m_57, m_58, m_59])), (r0, .inl (K 0, 7, .inl frf))] := hD
    refine lv_iload_n hx hb dX12_tell_13 rfl (lv_at hl 1 rfl) ?_
    refine lv_if_ge (tgt := 28) hx hb dX12_tell_14 (by decide) (fun c_107 => ?_) (fun c_107 => ?_)
    · have c_107i := i_le (x := 0) (y := x.toInt) rfl rfl c_107
      exfalso; omega
    · have c_107i := i_nle (x := 0) (y := x.toInt) rfl rfl c_107
      refine lv_aload_n hx hb dX12_tell_17 rfl (lv_at hl 0 rfl) ?_
      refine va_get (ci := 12) (v := .ref r0) (C := RX12) (T := TX12) (N := 60) hx hb hts hw12 hown hK hP 0 rfl rfl 2 (by decide) (hts (.fieldLink RX12 7 "SmokeTuneModel" "refusals" "[I") (List.mem_cons_of_mem _ (List.mem_append_left _ (List.mem_of_getElem? (i := 1) rfl)))) (fun _ h9 => h9) rfl dX12_tell_18 ?_
      refine lv_iload_n hx hb dX12_tell_21 rfl (lv_at hl 1 rfl) ?_
      refine lv_ineg hx hb dX12_tell_22 ?_
      refine lv_topi (fun x_108 ex_108 => ?_)
      have hx_108 : x_108.toInt = (- x.toInt) := by rw [ex_108]; exact i_neg rfl (by omega)
      refine lv_dup2_11 hx hb dX12_tell_23 rfl rfl ?_
      refine va_iald hx hb hK hP 1 0 rfl rfl (i_in hx_108 (by omega)) dX12_tell_24 ?_
      refine lv_topi (fun x_109 ex_109 => ?_)
      refine lv_iconst (v := 1) hx hb dX12_tell_25 (by decide) ?_
      refine lv_iadd hx hb dX12_tell_26 ?_
      refine lv_topi (fun x_110 ex_110 => ?_)
      refine va_iast hx hb hK hP hD hS 1 0 rfl rfl (i_in hx_108 (by omega)) dX12_tell_27 (fun H locs hP hD hS => ?_)
      generalize hf_111 : (upd frf (x_108 : Int32).toNatClampNeg x_110) = f_111 at hP hD
      have hP : va_P D vwCl [(m0, .inr (12, [m_0, .int x, .ref r0, m_3, m_4, m_5, m_6, m_7, m_8, m_9, m_10, m_11, m_12, m_13, m_14, m_15, m_16, m_17, m_18, m_19, m_20, m_21, m_22, m_23, m_24, m_25, m_26, m_27, m_28, m_29, m_30, m_31, m_32, m_33, m_34, m_35, m_36, m_37, m_38, m_39, m_40, m_41, m_42, m_43, m_44, m_45, m_46, m_47, m_48, m_49, m_50, m_51, m_52, m_53, m_54, m_55, m_56, m_57, m_58, m_59])), (r0, .inl (K 0, 7, .inl f_111))] H := hP
      have hD : va_D A [(m0, .inr (12, [m_0, .int x, .ref r0, m_3, m_4, m_5, m_6, m_7, m_8, m_9, m_10, m_11, m_12, m_13, m_14, m_15, m_16, m_17, m_18, m_19, m_20, m_21, m_22, m_23, m_24, m_25, m_26, m_27, m_28, m_29, m_30, m_31, m_32, m_33, m_34, m_35, m_36, m_37, m_38, m_39, m_40, m_41, m_42, m_43, m_44, m_45, m_46, m_47, m_48, m_49, m_50, m_51, m_52, m_53, m_54, m_55, m_56, m_57, m_58, m_59])), (r0, .inl (K 0, 7, .inl f_111))] := hD
      exact j_104 x f_111 (by omega) _ _ hP hD hS ls (lv_sub hl [1] rfl)
set_option maxHeartbeats 4000000 in
set_option maxRecDepth 100000 in
theorem v_change (l : Launch) (D : va_G) (K : Nat → ClassId) (m0 : Nat) (x : Int32) (y : Int32) (m_0 : Value) (sta : Int32) (m_2 : Value) (w0 : Nat) (m_4 : Value) (m_5 : Value) (m_6 : Value) (m_7 : Value) (m_8 : Value) (m_9 : Value) (m_10 : Value) (m_11 : Value) (m_12 : Value) (m_13 : Value) (m_14 : Value) (m_15 : Value) (m_16 : Value) (m_17 : Value) (m_18 : Value) (m_19 : Value) (m_20 : Value) (m_21 : Value) (m_22 : Value) (m_23 : Value) (m_24 : Value) (m_25 : Value) (m_26 : Value) (m_27 : Value) (m_28 : Value) (m_29 : Value) (m_30 : Value) (m_31 : Value) (m_32 : Value) (m_33 : Value) (m_34 : Value) (m_35 : Value) (m_36 : Value) (m_37 : Value) (m_38 : Value) (m_39 : Value) (m_40 : Value) (m_41 : Value) (m_42 : Value) (m_43 : Value) (m_44 : Value) (m_45 : Value) (m_46 : Value) (m_47 : Value) (m_48 : Value) (m_49 : Value) (m_50 : Value) (m_51 : Value) (m_52 : Value) (m_53 : Value) (m_54 : Value) (m_55 : Value) (m_56 : Value) (m_57 : Value) (m_58 : Value) (m_59 : Value) (fw : Nat → Int32) (sz : Nat) (zx : 0 ≤ x.toInt ∧ x.toInt ≤ 99) (hpr : PR x.toInt.toNat y.toInt) (zfw : RwOK fw) : Met l yX12_change wsX12_change ({ frames := 0, cells := 0, slots := 0, locals := 0 }) (va_Pc [.ref m0, .int x, .int y] (Pre D K [(m0, .inr (12, [m_0, .int sta, m_2, .ref w0, m_4, m_5, m_6, m_7, m_8, m_9, m_10, m_11, m_12, m_13, m_14, m_15, m_16, m_17, m_18, m_19, m_20, m_21, m_22, m_23, m_24, m_25, m_26, m_27, m_28, m_29, m_30, m_31, m_32, m_33, m_34, m_35, m_36, m_37, m_38, m_39, m_40, m_41, m_42, m_43, m_44, m_45, m_46, m_47, m_48, m_49, m_50, m_51, m_52, m_53, m_54, m_55, m_56, m_57, m_58, m_59])), (w0, .inl (K 0, 5500, .inl fw))] sz)) (va_Qi (S := Su) (fun (r : Int32) (u : Su) => (RwOK (u.2.1 0)) ∧ True) (fun u t => Wd D (va_A [(m0, .inr (12, [m_0, .int sta, m_2, .ref w0, m_4, m_5, m_6, m_7, m_8, m_9, m_10, m_11, m_12, m_13, m_14, m_15, m_16, m_17, m_18, m_19, m_20, m_21, m_22, m_23, m_24, m_25, m_26, m_27, m_28, m_29, m_30, m_31, m_32, m_33, m_34, m_35, m_36, m_37, m_38, m_39, m_40, m_41, m_42, m_43, m_44, m_45, m_46, m_47, m_48, m_49, m_50, m_51, m_52, m_53, m_54, m_55, m_56, m_57, m_58, m_59])), (w0, .inl (K 0, 5500, .inl fw))] sz) ((fun u => [(m0, .inr (12, [m_0, .int 0, m_2, .ref w0, m_4, m_5, m_6, m_7, m_8, m_9, m_10, m_11, m_12, m_13, m_14, m_15, m_16, m_17, m_18, m_19, m_20, m_21, m_22, m_23, m_24, m_25, m_26, m_27, m_28, m_29, m_30, m_31, m_32, m_33, m_34, m_35, m_36, m_37, m_38, m_39, m_40, m_41, m_42, m_43, m_44, m_45, m_46, m_47, m_48, m_49, m_50, m_51, m_52, m_53, m_54, m_55, m_56, m_57, m_58, m_59])), (w0, .inl (K 0, 5500, .inl (u.2.1 0)))]) u) t) (va_A [(m0, .inr (12, [m_0, .int sta, m_2, .ref w0, m_4, m_5, m_6, m_7, m_8, m_9, m_10, m_11, m_12, m_13, m_14, m_15, m_16, m_17, m_18, m_19, m_20, m_21, m_22, m_23, m_24, m_25, m_26, m_27, m_28, m_29, m_30, m_31, m_32, m_33, m_34, m_35, m_36, m_37, m_38, m_39, m_40, m_41, m_42, m_43, m_44, m_45, m_46, m_47, m_48, m_49, m_50, m_51, m_52, m_53, m_54, m_55, m_56, m_57, m_58, m_59])), (w0, .inl (K 0, 5500, .inl fw))] sz)) 0 0 (va_A [(m0, .inr (12, [m_0, .int sta, m_2, .ref w0, m_4, m_5, m_6, m_7, m_8, m_9, m_10, m_11, m_12, m_13, m_14, m_15, m_16, m_17, m_18, m_19, m_20, m_21, m_22, m_23, m_24, m_25, m_26, m_27, m_28, m_29, m_30, m_31, m_32, m_33, m_34, m_35, m_36, m_37, m_38, m_39, m_40, m_41, m_42, m_43, m_44, m_45, m_46, m_47, m_48, m_49, m_50, m_51, m_52, m_53, m_54, m_55, m_56, m_57, m_58, m_59])), (w0, .inl (K 0, 5500, .inl fw))] sz) := by
  refine Met.ofW (cc := cX12_change) (maxL := 4) (ret := (some .int)) (by decide) rfl ?_
  intro p e s m args below meth c s₁ B hml hv
  obtain ⟨rfl, hsz, hP, hK, hD0, hN⟩ := hv
  have hx := B.exec
  have hb := B.bytes
  have hr := B.returns
  have hts := atoms_spec (ws := wsX12_change) B.pre
  have hown : s.vm.findClass RX12 = some m.cls := findClass_of_methodNamed B.named
  have hlocks := B.notSynchronized
  subst hsz
  have hD := hD0.self (sz := s.heap.size)
  generalize hAe : va_A [(m0, .inr (12, [m_0, .int sta, m_2, .ref w0, m_4, m_5, m_6, m_7, m_8, m_9, m_10, m_11, m_12, m_13, m_14, m_15, m_16, m_17, m_18, m_19, m_20, m_21, m_22, m_23, m_24, m_25, m_26, m_27, m_28, m_29, m_30, m_31, m_32, m_33, m_34, m_35, m_36, m_37, m_38, m_39, m_40, m_41, m_42, m_43, m_44, m_45, m_46, m_47, m_48, m_49, m_50, m_51, m_52, m_53, m_54, m_55, m_56, m_57, m_58, m_59])), (w0, .inl (K 0, 5500, .inl fw))] s.heap.size = A at hD ⊢
  have hA : ∀ q : Nat, s.heap.size ≤ q → A q := fun q h => by rw [← hAe]; exact Or.inr h
  have hS : va_S A s.heap s.heap [] := va_S.rf
  have hP : va_P D vwCl [(m0, .inr (12, [m_0, .int sta, m_2, .ref w0, m_4, m_5, m_6, m_7, m_8, m_9, m_10, m_11, m_12, m_13, m_14, m_15, m_16, m_17, m_18, m_19, m_20, m_21, m_22, m_23, m_24, m_25, m_26, m_27, m_28, m_29, m_30, m_31, m_32, m_33, m_34, m_35, m_36, m_37, m_38, m_39, m_40, m_41, m_42, m_43, m_44, m_45, m_46, m_47, m_48, m_49, m_50, m_51, m_52, m_53, m_54, m_55, m_56, m_57, m_58, m_59])), (w0, .inl (K 0, 5500, .inl fw))] s.heap := hP
  have hl := lv_entry [.ref m0, .int x, .int y] (n := 4) (Nat.le_of_ble_eq_true rfl)
  rw [lg_entry_eq]
  generalize (lg_sl [.ref m0, .int x, .int y] ++ List.replicate (4 - (lg_sl [.ref m0, .int x, .int y]).length) Slot.unset).toArray = ls at hl ⊢
  have hl : lv_has ls 4 [(0, .ref m0), (1, .int x), (2, .int y)] := hl
  have hw12 : ∀ w ∈ wsX120, w ∈ wsX12_change := fun w h => (List.mem_cons_of_mem _ (List.mem_append_right _ h))
  generalize hQ : MQ below _ _ s _ _ _ = Q
  refine lv_aload_n hx hb dX12_change_0 rfl (lv_at hl 0 rfl) ?_
  refine va_get (ci := 12) (v := .ref w0) (C := RX12) (T := TX12) (N := 60) hx hb hts hw12 hown hK hP 0 rfl rfl 3 (by decide) (hts (.fieldLink RX12 13 "SmokeTuneModel" "row" "[I") (List.mem_cons_of_mem _ (List.mem_append_left _ (List.mem_of_getElem? (i := 0) rfl)))) (fun _ h9 => h9) rfl dX12_change_1 ?_
  refine lv_iload_n hx hb dX12_change_4 rfl (lv_at hl 1 rfl) ?_
  refine va_iald hx hb hK hP 1 0 rfl rfl (i_in rfl (by omega)) dX12_change_5 ?_
  refine lv_topi (fun x_65 ex_65 => ?_)
  have px_65 := RwOK.at zfw rfl (show 0 ≤ x.toInt ∧ x.toInt < 100 by omega)
  rw [← ex_65] at px_65
  refine lv_istore_n (lv' := [(3, .int x_65), (0, .ref m0), (1, .int x), (2, .int y)]) hx hb dX12_change_6 rfl hl (by decide) rfl (fun ls hl => ?_)
  refine lv_aload_n hx hb dX12_change_7 rfl (lv_at hl 1 rfl) ?_
  refine va_get (ci := 12) (v := .ref w0) (C := RX12) (T := TX12) (N := 60) hx hb hts hw12 hown hK hP 0 rfl rfl 3 (by decide) (hts (.fieldLink RX12 13 "SmokeTuneModel" "row" "[I") (List.mem_cons_of_mem _ (List.mem_append_left _ (List.mem_of_getElem? (i := 0) rfl)))) (fun _ h9 => h9) rfl dX12_change_8 ?_
  refine lv_iload_n hx hb dX12_change_11 rfl (lv_at hl 2 rfl) ?_
  refine lv_iload_n hx hb dX12_change_12 rfl (lv_at hl 3 rfl) ?_
  refine va_iast hx hb hK hP hD hS 1 0 rfl rfl (i_in rfl (by omega)) dX12_change_13 (fun H locs hP hD hS => ?_)
  generalize hf_66 : (upd fw (x : Int32).toNatClampNeg y) = f_66 at hP hD
  have hf_66_0 : RwOK f_66 := by rw [← hf_66]; exact RwOK.upd zfw rfl (by omega) rfl (PR.eqi hpr (by omega) rfl)
  have hP : va_P D vwCl [(m0, .inr (12, [m_0, .int sta, m_2, .ref w0, m_4, m_5, m_6, m_7, m_8, m_9, m_10, m_11, m_12, m_13, m_14, m_15, m_16, m_17, m_18, m_19, m_20, m_21, m_22, m_23, m_24, m_25, m_26, m_27, m_28, m_29, m_30, m_31, m_32, m_33, m_34, m_35, m_36, m_37, m_38, m_39, m_40, m_41, m_42, m_43, m_44, m_45, m_46, m_47, m_48, m_49, m_50, m_51, m_52, m_53, m_54, m_55, m_56, m_57, m_58, m_59])), (w0, .inl (K 0, 5500, .inl f_66))] H := hP
  have hD : va_D A [(m0, .inr (12, [m_0, .int sta, m_2, .ref w0, m_4, m_5, m_6, m_7, m_8, m_9, m_10, m_11, m_12, m_13, m_14, m_15, m_16, m_17, m_18, m_19, m_20, m_21, m_22, m_23, m_24, m_25, m_26, m_27, m_28, m_29, m_30, m_31, m_32, m_33, m_34, m_35, m_36, m_37, m_38, m_39, m_40, m_41, m_42, m_43, m_44, m_45, m_46, m_47, m_48, m_49, m_50, m_51, m_52, m_53, m_54, m_55, m_56, m_57, m_58, m_59])), (w0, .inl (K 0, 5500, .inl f_66))] := hD
  refine lv_aload_n hx hb dX12_change_14 rfl (lv_at hl 1 rfl) ?_
  refine lv_iconst (v := 0) hx hb dX12_change_15 (by decide) ?_
  refine va_put (ci := 12) (v := .int 0) (ty := .int) (C := RX12) (T := TX12) (N := 60) hx hb hts hw12 tyX12 tyX12_ok nmX12 hown hK hP hD hS 0 rfl rfl 1 (by decide) (hts (.fieldLink RX12 161 "SmokeTuneModel" "status" "I") (List.mem_cons_of_mem _ (List.mem_append_left _ (List.mem_of_getElem? (i := 1) rfl)))) (fun _ h9 => h9) rfl (by decide +kernel) (by first | rfl | decide) (by first | rfl | decide) (Nat.le_of_ble_eq_true rfl) dX12_change_16 (fun H locs hP hD hS => ?_)
  have hP : va_P D vwCl [(m0, .inr (12, [m_0, .int 0, m_2, .ref w0, m_4, m_5, m_6, m_7, m_8, m_9, m_10, m_11, m_12, m_13, m_14, m_15, m_16, m_17, m_18, m_19, m_20, m_21, m_22, m_23, m_24, m_25, m_26, m_27, m_28, m_29, m_30, m_31, m_32, m_33, m_34, m_35, m_36, m_37, m_38, m_39, m_40, m_41, m_42, m_43, m_44, m_45, m_46, m_47, m_48, m_49, m_50, m_51, m_52, m_53, m_54, m_55, m_56, m_57, m_58, m_59])), (w0, .inl (K 0, 5500, .inl f_66))] H := hP
  have hD : va_D A [(m0, .inr (12, [m_0, .int 0, m_2, .ref w0, m_4, m_5, m_6, m_7, m_8, m_9, m_10, m_11, m_12, m_13, m_14, m_15, m_16, m_17, m_18, m_19, m_20, m_21, m_22, m_23, m_24, m_25, m_26, m_27, m_28, m_29, m_30, m_31, m_32, m_33, m_34, m_35, m_36, m_37, m_38, m_39, m_40, m_41, m_42, m_43, m_44, m_45, m_46, m_47, m_48, m_49, m_50, m_51, m_52, m_53, m_54, m_55, m_56, m_57, m_58, m_59])), (w0, .inl (K 0, 5500, .inl f_66))] := hD
  refine lv_iload_n hx hb dX12_change_19 rfl (lv_at hl 0 rfl) ?_
  rw [← hQ]
  have hP9 := hP.sub (ws' := [(m0, .inr (12, [m_0, .int 0, m_2, .ref w0, m_4, m_5, m_6, m_7, m_8, m_9, m_10, m_11, m_12, m_13, m_14, m_15, m_16, m_17, m_18, m_19, m_20, m_21, m_22, m_23, m_24, m_25, m_26, m_27, m_28, m_29, m_30, m_31, m_32, m_33, m_34, m_35, m_36, m_37, m_38, m_39, m_40, m_41, m_42, m_43, m_44, m_45, m_46, m_47, m_48, m_49, m_50, m_51, m_52, m_53, m_54, m_55, m_56, m_57, m_58, m_59])), (w0, .inl (K 0, 5500, .inl f_66))]) [0, 1] rfl
  have hD9 := hD.sub (ws' := [(m0, .inr (12, [m_0, .int 0, m_2, .ref w0, m_4, m_5, m_6, m_7, m_8, m_9, m_10, m_11, m_12, m_13, m_14, m_15, m_16, m_17, m_18, m_19, m_20, m_21, m_22, m_23, m_24, m_25, m_26, m_27, m_28, m_29, m_30, m_31, m_32, m_33, m_34, m_35, m_36, m_37, m_38, m_39, m_40, m_41, m_42, m_43, m_44, m_45, m_46, m_47, m_48, m_49, m_50, m_51, m_52, m_53, m_54, m_55, m_56, m_57, m_58, m_59])), (w0, .inl (K 0, 5500, .inl f_66))]) [0, 1] (by decide) rfl
  exact W.iret (v := x_65) hx hb hr (fun t ht hW => ⟨⟨x_65, ((fun _ => 0, fun i => match i with | _ => f_66, fun _ => fun _ => 0, fun _ => 0, fun _ => 0, fun _ => fun _ => none) : Su), rfl, ⟨hf_66_0, trivial⟩, (⟨by rw [ht]; exact hP9, hD9⟩ : Wd D A _ t)⟩, hS.F ht⟩) hS.2.2 dX12_change_20
set_option maxHeartbeats 4000000 in
set_option maxRecDepth 100000 in
theorem v_keepAll (l : Launch) (D : va_G) (K : Nat → ClassId) (m0 : Nat) (x : Int32) (m_0 : Value) (m_1 : Value) (m_2 : Value) (w0 : Nat) (m_4 : Value) (m_5 : Value) (u0 : Nat) (m_7 : Value) (m_8 : Value) (m_9 : Value) (m_10 : Value) (m_11 : Value) (m_12 : Value) (m_13 : Value) (m_14 : Value) (m_15 : Value) (m_16 : Value) (m_17 : Value) (m_18 : Value) (m_19 : Value) (m_20 : Value) (m_21 : Value) (m_22 : Value) (m_23 : Value) (m_24 : Value) (m_25 : Value) (m_26 : Value) (m_27 : Value) (m_28 : Value) (m_29 : Value) (m_30 : Value) (m_31 : Value) (m_32 : Value) (m_33 : Value) (m_34 : Value) (m_35 : Value) (m_36 : Value) (m_37 : Value) (m_38 : Value) (m_39 : Value) (m_40 : Value) (m_41 : Value) (m_42 : Value) (m_43 : Value) (m_44 : Value) (m_45 : Value) (m_46 : Value) (m_47 : Value) (m_48 : Value) (m_49 : Value) (m_50 : Value) (m_51 : Value) (m_52 : Value) (m_53 : Value) (m_54 : Value) (m_55 : Value) (m_56 : Value) (m_57 : Value) (m_58 : Value) (m_59 : Value) (fw : Nat → Int32) (fu : Nat → Int32) (sz : Nat) (zx : 0 ≤ x.toInt ∧ x.toInt ≤ 17) (zfw : RwOK fw) (zfu : Pu 558 fu) : Met l yX12_keepAll wsX12_keepAll ({ frames := 0, cells := 0, slots := 0, locals := 0 }) (va_Pc [.ref m0, .int x] (Pre D K [(m0, .inr (12, [m_0, m_1, m_2, .ref w0, m_4, m_5, .ref u0, m_7, m_8, m_9, m_10, m_11, m_12, m_13, m_14, m_15, m_16, m_17, m_18, m_19, m_20, m_21, m_22, m_23, m_24, m_25, m_26, m_27, m_28, m_29, m_30, m_31, m_32, m_33, m_34, m_35, m_36, m_37, m_38, m_39, m_40, m_41, m_42, m_43, m_44, m_45, m_46, m_47, m_48, m_49, m_50, m_51, m_52, m_53, m_54, m_55, m_56, m_57, m_58, m_59])), (w0, .inl (K 0, 5500, .inl fw)), (u0, .inl (K 0, 558, .inl fu))] sz)) (va_Qv (S := Su) (fun (u : Su) => (Pu 558 (u.2.1 0)) ∧ True) (fun u t => Wd D (va_A [(m0, .inr (12, [m_0, m_1, m_2, .ref w0, m_4, m_5, .ref u0, m_7, m_8, m_9, m_10, m_11, m_12, m_13, m_14, m_15, m_16, m_17, m_18, m_19, m_20, m_21, m_22, m_23, m_24, m_25, m_26, m_27, m_28, m_29, m_30, m_31, m_32, m_33, m_34, m_35, m_36, m_37, m_38, m_39, m_40, m_41, m_42, m_43, m_44, m_45, m_46, m_47, m_48, m_49, m_50, m_51, m_52, m_53, m_54, m_55, m_56, m_57, m_58, m_59])), (w0, .inl (K 0, 5500, .inl fw)), (u0, .inl (K 0, 558, .inl fu))] sz) ((fun u => [(m0, .inr (12, [m_0, m_1, m_2, .ref w0, m_4, m_5, .ref u0, m_7, m_8, m_9, m_10, m_11, m_12, m_13, m_14, m_15, m_16, m_17, m_18, m_19, m_20, m_21, m_22, m_23, m_24, m_25, m_26, m_27, m_28, m_29, m_30, m_31, m_32, m_33, m_34, m_35, m_36, m_37, m_38, m_39, m_40, m_41, m_42, m_43, m_44, m_45, m_46, m_47, m_48, m_49, m_50, m_51, m_52, m_53, m_54, m_55, m_56, m_57, m_58, m_59])), (w0, .inl (K 0, 5500, .inl fw)), (u0, .inl (K 0, 558, .inl (u.2.1 0)))]) u) t) (va_A [(m0, .inr (12, [m_0, m_1, m_2, .ref w0, m_4, m_5, .ref u0, m_7, m_8, m_9, m_10, m_11, m_12, m_13, m_14, m_15, m_16, m_17, m_18, m_19, m_20, m_21, m_22, m_23, m_24, m_25, m_26, m_27, m_28, m_29, m_30, m_31, m_32, m_33, m_34, m_35, m_36, m_37, m_38, m_39, m_40, m_41, m_42, m_43, m_44, m_45, m_46, m_47, m_48, m_49, m_50, m_51, m_52, m_53, m_54, m_55, m_56, m_57, m_58, m_59])), (w0, .inl (K 0, 5500, .inl fw)), (u0, .inl (K 0, 558, .inl fu))] sz)) 0 0 (va_A [(m0, .inr (12, [m_0, m_1, m_2, .ref w0, m_4, m_5, .ref u0, m_7, m_8, m_9, m_10, m_11, m_12, m_13, m_14, m_15, m_16, m_17, m_18, m_19, m_20, m_21, m_22, m_23, m_24, m_25, m_26, m_27, m_28, m_29, m_30, m_31, m_32, m_33, m_34, m_35, m_36, m_37, m_38, m_39, m_40, m_41, m_42, m_43, m_44, m_45, m_46, m_47, m_48, m_49, m_50, m_51, m_52, m_53, m_54, m_55, m_56, m_57, m_58, m_59])), (w0, .inl (K 0, 5500, .inl fw)), (u0, .inl (K 0, 558, .inl fu))] sz) := by
  refine Met.ofW (cc := cX12_keepAll) (maxL := 3) (ret := none) (by decide) rfl ?_
  intro p e s m args below meth c s₁ B hml hv
  obtain ⟨rfl, hsz, hP, hK, hD0, hN⟩ := hv
  have hx := B.exec
  have hb := B.bytes
  have hr := B.returns
  have hts := atoms_spec (ws := wsX12_keepAll) B.pre
  have hown : s.vm.findClass RX12 = some m.cls := findClass_of_methodNamed B.named
  have hlocks := B.notSynchronized
  subst hsz
  have hD := hD0.self (sz := s.heap.size)
  generalize hAe : va_A [(m0, .inr (12, [m_0, m_1, m_2, .ref w0, m_4, m_5, .ref u0, m_7, m_8, m_9, m_10, m_11, m_12, m_13, m_14, m_15, m_16, m_17, m_18, m_19, m_20, m_21, m_22, m_23, m_24, m_25, m_26, m_27, m_28, m_29, m_30, m_31, m_32, m_33, m_34, m_35, m_36, m_37, m_38, m_39, m_40, m_41, m_42, m_43, m_44, m_45, m_46, m_47, m_48, m_49, m_50, m_51, m_52, m_53, m_54, m_55, m_56, m_57, m_58, m_59])), (w0, .inl (K 0, 5500, .inl fw)), (u0, .inl (K 0, 558, .inl fu))] s.heap.size = A at hD ⊢
  have hA : ∀ q : Nat, s.heap.size ≤ q → A q := fun q h => by rw [← hAe]; exact Or.inr h
  have hS : va_S A s.heap s.heap [] := va_S.rf
  have hP : va_P D vwCl [(m0, .inr (12, [m_0, m_1, m_2, .ref w0, m_4, m_5, .ref u0, m_7, m_8, m_9, m_10, m_11, m_12, m_13, m_14, m_15, m_16, m_17, m_18, m_19, m_20, m_21, m_22, m_23, m_24, m_25, m_26, m_27, m_28, m_29, m_30, m_31, m_32, m_33, m_34, m_35, m_36, m_37, m_38, m_39, m_40, m_41, m_42, m_43, m_44, m_45, m_46, m_47, m_48, m_49, m_50, m_51, m_52, m_53, m_54, m_55, m_56, m_57, m_58, m_59])), (w0, .inl (K 0, 5500, .inl fw)), (u0, .inl (K 0, 558, .inl fu))] s.heap := hP
  have hl := lv_entry [.ref m0, .int x] (n := 3) (Nat.le_of_ble_eq_true rfl)
  rw [lg_entry_eq]
  generalize (lg_sl [.ref m0, .int x] ++ List.replicate (3 - (lg_sl [.ref m0, .int x]).length) Slot.unset).toArray = ls at hl ⊢
  have hl : lv_has ls 3 [(0, .ref m0), (1, .int x)] := hl
  have hw12 : ∀ w ∈ wsX120, w ∈ wsX12_keepAll := fun w h => (List.mem_cons_of_mem _ (List.mem_append_right _ h))
  generalize hQ : MQ below _ _ s _ _ _ = Q
  refine lv_iconst (v := 0) hx hb dX12_keepAll_0 (by decide) ?_
  refine lv_istore_n (lv' := [(2, .int 0), (0, .ref m0), (1, .int x)]) hx hb dX12_keepAll_1 rfl hl (by decide) rfl (fun ls hl => ?_)
  have lp_232 : ∀ (nn_ : Nat) (v_214 : Int32) (f_215 : Nat → Int32) (hv_214 : 0 ≤ v_214.toInt ∧ v_214.toInt ≤ 31) (hf_215_0 : Pu 558 f_215) (hn : (32 - v_214.toInt : Int).toNat < nn_) (H : Heap) (locs : List Loc) (hP : va_P D vwCl [(m0, .inr (12, [m_0, m_1, m_2, .ref w0, m_4, m_5, .ref u0, m_7, m_8, m_9, m_10, m_11, m_12, m_13, m_14, m_15, m_16, m_17, m_18, m_19, m_20, m_21, m_22, m_23, m_24, m_25, m_26, m_27, m_28, m_29, m_30, m_31, m_32, m_33, m_34, m_35, m_36, m_37, m_38, m_39, m_40, m_41, m_42, m_43, m_44, m_45, m_46, m_47, m_48, m_49, m_50, m_51, m_52, m_53, m_54, m_55, m_56, m_57, m_58, m_59])), (w0, .inl (K 0, 5500, .inl fw)), (u0, .inl (K 0, 558, .inl f_215))] H) (hD : va_D A [(m0, .inr (12, [m_0, m_1, m_2, .ref w0, m_4, m_5, .ref u0, m_7, m_8, m_9, m_10, m_11, m_12, m_13, m_14, m_15, m_16, m_17, m_18, m_19, m_20, m_21, m_22, m_23, m_24, m_25, m_26, m_27, m_28, m_29, m_30, m_31, m_32, m_33, m_34, m_35, m_36, m_37, m_38, m_39, m_40, m_41, m_42, m_43, m_44, m_45, m_46, m_47, m_48, m_49, m_50, m_51, m_52, m_53, m_54, m_55, m_56, m_57, m_58, m_59])), (w0, .inl (K 0, 5500, .inl fw)), (u0, .inl (K 0, 558, .inl f_215))]) (hS : va_S A s.heap H locs) (ls : Array Slot) (hl : lv_has ls 3 [(2, .int v_214), (0, .ref m0), (1, .int x)]), W p l e ({ frames := 0, cells := 0, slots := 0, locals := 0 }) s m (([.ref m0, .int x] : List Value).toArray) below meth c H locs 0 0 Q (F0 m 2 ls []) := by
    intro nn_
    induction nn_ with
    | zero =>
      intro v_214 f_215 hv_214 hf_215_0 hn H locs hP hD hS ls hl
      exact absurd hn (Nat.not_lt_zero _)
    | succ nn_ ih_233 =>
      intro v_214 f_215 hv_214 hf_215_0 hn H locs hP hD hS ls hl
      refine lv_iload_n hx hb dX12_keepAll_2 rfl (lv_at hl 0 rfl) ?_
      refine lv_bipush (v := 31) hx hb dX12_keepAll_3 (by decide) ?_
      refine lv_icmp_ge (tgt := 33) hx hb dX12_keepAll_5 (by decide) (fun c_234 => ?_) (fun c_234 => ?_)
      · have c_234i := i_le (x := 31) (y := v_214.toInt) rfl rfl c_234
        rw [← hQ]
        have hP9 := hP.sub (ws' := [(m0, .inr (12, [m_0, m_1, m_2, .ref w0, m_4, m_5, .ref u0, m_7, m_8, m_9, m_10, m_11, m_12, m_13, m_14, m_15, m_16, m_17, m_18, m_19, m_20, m_21, m_22, m_23, m_24, m_25, m_26, m_27, m_28, m_29, m_30, m_31, m_32, m_33, m_34, m_35, m_36, m_37, m_38, m_39, m_40, m_41, m_42, m_43, m_44, m_45, m_46, m_47, m_48, m_49, m_50, m_51, m_52, m_53, m_54, m_55, m_56, m_57, m_58, m_59])), (w0, .inl (K 0, 5500, .inl fw)), (u0, .inl (K 0, 558, .inl f_215))]) [0, 1, 2] rfl
        have hD9 := hD.sub (ws' := [(m0, .inr (12, [m_0, m_1, m_2, .ref w0, m_4, m_5, .ref u0, m_7, m_8, m_9, m_10, m_11, m_12, m_13, m_14, m_15, m_16, m_17, m_18, m_19, m_20, m_21, m_22, m_23, m_24, m_25, m_26, m_27, m_28, m_29, m_30, m_31, m_32, m_33, m_34, m_35, m_36, m_37, m_38, m_39, m_40, m_41, m_42, m_43, m_44, m_45, m_46, m_47, m_48, m_49, m_50, m_51, m_52, m_53, m_54, m_55, m_56, m_57, m_58, m_59])), (w0, .inl (K 0, 5500, .inl fw)), (u0, .inl (K 0, 558, .inl f_215))]) [0, 1, 2] (by decide) rfl
        exact W.vret hx hb hr (fun t ht hW => ⟨⟨((fun _ => 0, fun i => match i with | _ => f_215, fun _ => fun _ => 0, fun _ => 0, fun _ => 0, fun _ => fun _ => none) : Su), rfl, ⟨hf_215_0, trivial⟩, (⟨by rw [ht]; exact hP9, hD9⟩ : Wd D A _ t)⟩, hS.F ht⟩) hS.2.2 dX12_keepAll_33
      · have c_234i := i_nle (x := 31) (y := v_214.toInt) rfl rfl c_234
        refine lv_aload_n hx hb dX12_keepAll_8 rfl (lv_at hl 1 rfl) ?_
        refine va_get (ci := 12) (v := .ref u0) (C := RX12) (T := TX12) (N := 60) hx hb hts hw12 hown hK hP 0 rfl rfl 6 (by decide) (hts (.fieldLink RX12 23 "SmokeTuneModel" "undos" "[I") (List.mem_cons_of_mem _ (List.mem_append_left _ (List.mem_of_getElem? (i := 0) rfl)))) (fun _ h9 => h9) rfl dX12_keepAll_9 ?_
        refine lv_bipush (v := 31) hx hb dX12_keepAll_12 (by decide) ?_
        refine lv_iload_n hx hb dX12_keepAll_14 rfl (lv_at hl 2 rfl) ?_
        refine lv_imul hx hb dX12_keepAll_15 ?_
        refine lv_topi (fun x_235 ex_235 => ?_)
        have hx_235 : x_235.toInt = (31 * x.toInt) := by rw [ex_235]; exact i_mul (show (31 : Int32).toInt = 31 from rfl) rfl (by omega)
        refine lv_iload_n hx hb dX12_keepAll_16 rfl (lv_at hl 0 rfl) ?_
        refine lv_iadd hx hb dX12_keepAll_17 ?_
        refine lv_topi (fun x_236 ex_236 => ?_)
        have hx_236 : x_236.toInt = ((31 * x.toInt) + v_214.toInt) := by rw [ex_236]; exact i_add hx_235 rfl (by omega)
        refine lv_aload_n hx hb dX12_keepAll_18 rfl (lv_at hl 1 rfl) ?_
        refine va_get (ci := 12) (v := .ref w0) (C := RX12) (T := TX12) (N := 60) hx hb hts hw12 hown hK hP 0 rfl rfl 3 (by decide) (hts (.fieldLink RX12 13 "SmokeTuneModel" "row" "[I") (List.mem_cons_of_mem _ (List.mem_append_left _ (List.mem_of_getElem? (i := 1) rfl)))) (fun _ h9 => h9) rfl dX12_keepAll_19 ?_
        refine lv_iconst (v := 4) hx hb dX12_keepAll_22 (by decide) ?_
        refine lv_iload_n hx hb dX12_keepAll_23 rfl (lv_at hl 0 rfl) ?_
        refine lv_iadd hx hb dX12_keepAll_24 ?_
        refine lv_topi (fun x_237 ex_237 => ?_)
        have hx_237 : x_237.toInt = (4 + v_214.toInt) := by rw [ex_237]; exact i_add (show (4 : Int32).toInt = 4 from rfl) rfl (by omega)
        refine va_iald hx hb hK hP 1 0 rfl rfl (i_in hx_237 (by omega)) dX12_keepAll_25 ?_
        refine lv_topi (fun x_238 ex_238 => ?_)
        have px_238 := RwOK.at zfw hx_237 (show 0 ≤ (4 + v_214.toInt) ∧ (4 + v_214.toInt) < 100 by omega)
        rw [← ex_238] at px_238
        refine va_iast hx hb hK hP hD hS 2 0 rfl rfl (i_in hx_236 (by omega)) dX12_keepAll_26 (fun H locs hP hD hS => ?_)
        generalize hf_239 : (upd f_215 (x_236 : Int32).toNatClampNeg x_238) = f_239 at hP hD
        have hf_239_0 : Pu 558 f_239 := by rw [← hf_239]; exact Pu.upd hf_215_0 hx_236 (by omega) rfl (PR.eqi px_238 (by omega) (by omega))
        have hP : va_P D vwCl [(m0, .inr (12, [m_0, m_1, m_2, .ref w0, m_4, m_5, .ref u0, m_7, m_8, m_9, m_10, m_11, m_12, m_13, m_14, m_15, m_16, m_17, m_18, m_19, m_20, m_21, m_22, m_23, m_24, m_25, m_26, m_27, m_28, m_29, m_30, m_31, m_32, m_33, m_34, m_35, m_36, m_37, m_38, m_39, m_40, m_41, m_42, m_43, m_44, m_45, m_46, m_47, m_48, m_49, m_50, m_51, m_52, m_53, m_54, m_55, m_56, m_57, m_58, m_59])), (w0, .inl (K 0, 5500, .inl fw)), (u0, .inl (K 0, 558, .inl f_239))] H := hP
        have hD : va_D A [(m0, .inr (12, [m_0, m_1, m_2, .ref w0, m_4, m_5, .ref u0, m_7, m_8, m_9, m_10, m_11, m_12, m_13, m_14, m_15, m_16, m_17, m_18, m_19, m_20, m_21, m_22, m_23, m_24, m_25, m_26, m_27, m_28, m_29, m_30, m_31, m_32, m_33, m_34, m_35, m_36, m_37, m_38, m_39, m_40, m_41, m_42, m_43, m_44, m_45, m_46, m_47, m_48, m_49, m_50, m_51, m_52, m_53, m_54, m_55, m_56, m_57, m_58, m_59])), (w0, .inl (K 0, 5500, .inl fw)), (u0, .inl (K 0, 558, .inl f_239))] := hD
        obtain ⟨x_240, ex_240⟩ : ∃ y : Int32, y = v_214 + Int32.ofInt 1 := ⟨_, rfl⟩
        have hx_240 : x_240.toInt = (v_214.toInt + 1) := by rw [ex_240]; exact i_add rfl (show (Int32.ofInt 1).toInt = 1 from rfl) (by omega)
        refine lv_iinc (v := x_240) (lv' := [(2, .int x_240), (0, .ref m0), (1, .int x)]) hx hb dX12_keepAll_27 hl (k := 0) rfl (by rw [ex_240]) (by decide) rfl (fun ls hl => ?_)
        refine lv_goto (tgt := 2) hx hb dX12_keepAll_30 (by decide) ?_
        exact ih_233 x_240 f_239 (by rw [hx_240]; omega) hf_239_0 (by omega) _ _ hP hD hS ls (lv_sub hl [0, 1, 2] rfl)
  exact lp_232 ((32 - (0 : Int32).toInt : Int).toNat + 1) 0 fu (by decide) zfu (Nat.lt_succ_self _) _ _ hP hD hS ls (lv_sub hl [0, 1, 2] rfl)
set_option maxHeartbeats 4000000 in
set_option maxRecDepth 100000 in
theorem v_putBack (l : Launch) (D : va_G) (K : Nat → ClassId) (m0 : Nat) (x : Int32) (m_0 : Value) (m_1 : Value) (m_2 : Value) (w0 : Nat) (m_4 : Value) (m_5 : Value) (u0 : Nat) (m_7 : Value) (m_8 : Value) (m_9 : Value) (m_10 : Value) (m_11 : Value) (m_12 : Value) (m_13 : Value) (m_14 : Value) (m_15 : Value) (m_16 : Value) (m_17 : Value) (m_18 : Value) (m_19 : Value) (m_20 : Value) (m_21 : Value) (m_22 : Value) (m_23 : Value) (m_24 : Value) (m_25 : Value) (m_26 : Value) (m_27 : Value) (m_28 : Value) (m_29 : Value) (m_30 : Value) (m_31 : Value) (m_32 : Value) (m_33 : Value) (m_34 : Value) (m_35 : Value) (m_36 : Value) (m_37 : Value) (m_38 : Value) (m_39 : Value) (m_40 : Value) (m_41 : Value) (m_42 : Value) (m_43 : Value) (m_44 : Value) (m_45 : Value) (m_46 : Value) (m_47 : Value) (m_48 : Value) (m_49 : Value) (m_50 : Value) (m_51 : Value) (m_52 : Value) (m_53 : Value) (m_54 : Value) (m_55 : Value) (m_56 : Value) (m_57 : Value) (m_58 : Value) (m_59 : Value) (fw : Nat → Int32) (fu : Nat → Int32) (sz : Nat) (zx : 0 ≤ x.toInt ∧ x.toInt ≤ 17) (zfw : RwOK fw) (zfu : Pu 558 fu) : Met l yX12_putBack wsX12_putBack ({ frames := 0, cells := 0, slots := 0, locals := 0 }) (va_Pc [.ref m0, .int x] (Pre D K [(m0, .inr (12, [m_0, m_1, m_2, .ref w0, m_4, m_5, .ref u0, m_7, m_8, m_9, m_10, m_11, m_12, m_13, m_14, m_15, m_16, m_17, m_18, m_19, m_20, m_21, m_22, m_23, m_24, m_25, m_26, m_27, m_28, m_29, m_30, m_31, m_32, m_33, m_34, m_35, m_36, m_37, m_38, m_39, m_40, m_41, m_42, m_43, m_44, m_45, m_46, m_47, m_48, m_49, m_50, m_51, m_52, m_53, m_54, m_55, m_56, m_57, m_58, m_59])), (w0, .inl (K 0, 5500, .inl fw)), (u0, .inl (K 0, 558, .inl fu))] sz)) (va_Qv (S := Su) (fun (u : Su) => (RwOK (u.2.1 0)) ∧ True) (fun u t => Wd D (va_A [(m0, .inr (12, [m_0, m_1, m_2, .ref w0, m_4, m_5, .ref u0, m_7, m_8, m_9, m_10, m_11, m_12, m_13, m_14, m_15, m_16, m_17, m_18, m_19, m_20, m_21, m_22, m_23, m_24, m_25, m_26, m_27, m_28, m_29, m_30, m_31, m_32, m_33, m_34, m_35, m_36, m_37, m_38, m_39, m_40, m_41, m_42, m_43, m_44, m_45, m_46, m_47, m_48, m_49, m_50, m_51, m_52, m_53, m_54, m_55, m_56, m_57, m_58, m_59])), (w0, .inl (K 0, 5500, .inl fw)), (u0, .inl (K 0, 558, .inl fu))] sz) ((fun u => [(m0, .inr (12, [m_0, m_1, m_2, .ref w0, m_4, m_5, .ref u0, m_7, m_8, m_9, m_10, m_11, m_12, m_13, m_14, m_15, m_16, m_17, m_18, m_19, m_20, m_21, m_22, m_23, m_24, m_25, m_26, m_27, m_28, m_29, m_30, m_31, m_32, m_33, m_34, m_35, m_36, m_37, m_38, m_39, m_40, m_41, m_42, m_43, m_44, m_45, m_46, m_47, m_48, m_49, m_50, m_51, m_52, m_53, m_54, m_55, m_56, m_57, m_58, m_59])), (w0, .inl (K 0, 5500, .inl (u.2.1 0))), (u0, .inl (K 0, 558, .inl fu))]) u) t) (va_A [(m0, .inr (12, [m_0, m_1, m_2, .ref w0, m_4, m_5, .ref u0, m_7, m_8, m_9, m_10, m_11, m_12, m_13, m_14, m_15, m_16, m_17, m_18, m_19, m_20, m_21, m_22, m_23, m_24, m_25, m_26, m_27, m_28, m_29, m_30, m_31, m_32, m_33, m_34, m_35, m_36, m_37, m_38, m_39, m_40, m_41, m_42, m_43, m_44, m_45, m_46, m_47, m_48, m_49, m_50, m_51, m_52, m_53, m_54, m_55, m_56, m_57, m_58, m_59])), (w0, .inl (K 0, 5500, .inl fw)), (u0, .inl (K 0, 558, .inl fu))] sz)) 0 0 (va_A [(m0, .inr (12, [m_0, m_1, m_2, .ref w0, m_4, m_5, .ref u0, m_7, m_8, m_9, m_10, m_11, m_12, m_13, m_14, m_15, m_16, m_17, m_18, m_19, m_20, m_21, m_22, m_23, m_24, m_25, m_26, m_27, m_28, m_29, m_30, m_31, m_32, m_33, m_34, m_35, m_36, m_37, m_38, m_39, m_40, m_41, m_42, m_43, m_44, m_45, m_46, m_47, m_48, m_49, m_50, m_51, m_52, m_53, m_54, m_55, m_56, m_57, m_58, m_59])), (w0, .inl (K 0, 5500, .inl fw)), (u0, .inl (K 0, 558, .inl fu))] sz) := by
  refine Met.ofW (cc := cX12_putBack) (maxL := 3) (ret := none) (by decide) rfl ?_
  intro p e s m args below meth c s₁ B hml hv
  obtain ⟨rfl, hsz, hP, hK, hD0, hN⟩ := hv
  have hx := B.exec
  have hb := B.bytes
  have hr := B.returns
  have hts := atoms_spec (ws := wsX12_putBack) B.pre
  have hown : s.vm.findClass RX12 = some m.cls := findClass_of_methodNamed B.named
  have hlocks := B.notSynchronized
  subst hsz
  have hD := hD0.self (sz := s.heap.size)
  generalize hAe : va_A [(m0, .inr (12, [m_0, m_1, m_2, .ref w0, m_4, m_5, .ref u0, m_7, m_8, m_9, m_10, m_11, m_12, m_13, m_14, m_15, m_16, m_17, m_18, m_19, m_20, m_21, m_22, m_23, m_24, m_25, m_26, m_27, m_28, m_29, m_30, m_31, m_32, m_33, m_34, m_35, m_36, m_37, m_38, m_39, m_40, m_41, m_42, m_43, m_44, m_45, m_46, m_47, m_48, m_49, m_50, m_51, m_52, m_53, m_54, m_55, m_56, m_57, m_58, m_59])), (w0, .inl (K 0, 5500, .inl fw)), (u0, .inl (K 0, 558, .inl fu))] s.heap.size = A at hD ⊢
  have hA : ∀ q : Nat, s.heap.size ≤ q → A q := fun q h => by rw [← hAe]; exact Or.inr h
  have hS : va_S A s.heap s.heap [] := va_S.rf
  have hP : va_P D vwCl [(m0, .inr (12, [m_0, m_1, m_2, .ref w0, m_4, m_5, .ref u0, m_7, m_8, m_9, m_10, m_11, m_12, m_13, m_14, m_15, m_16, m_17, m_18, m_19, m_20, m_21, m_22, m_23, m_24, m_25, m_26, m_27, m_28, m_29, m_30, m_31, m_32, m_33, m_34, m_35, m_36, m_37, m_38, m_39, m_40, m_41, m_42, m_43, m_44, m_45, m_46, m_47, m_48, m_49, m_50, m_51, m_52, m_53, m_54, m_55, m_56, m_57, m_58, m_59])), (w0, .inl (K 0, 5500, .inl fw)), (u0, .inl (K 0, 558, .inl fu))] s.heap := hP
  have hl := lv_entry [.ref m0, .int x] (n := 3) (Nat.le_of_ble_eq_true rfl)
  rw [lg_entry_eq]
  generalize (lg_sl [.ref m0, .int x] ++ List.replicate (3 - (lg_sl [.ref m0, .int x]).length) Slot.unset).toArray = ls at hl ⊢
  have hl : lv_has ls 3 [(0, .ref m0), (1, .int x)] := hl
  have hw12 : ∀ w ∈ wsX120, w ∈ wsX12_putBack := fun w h => (List.mem_cons_of_mem _ (List.mem_append_right _ h))
  generalize hQ : MQ below _ _ s _ _ _ = Q
  refine lv_iconst (v := 0) hx hb dX12_putBack_0 (by decide) ?_
  refine lv_istore_n (lv' := [(2, .int 0), (0, .ref m0), (1, .int x)]) hx hb dX12_putBack_1 rfl hl (by decide) rfl (fun ls hl => ?_)
  have lp_232 : ∀ (nn_ : Nat) (v_214 : Int32) (f_215 : Nat → Int32) (hv_214 : 0 ≤ v_214.toInt ∧ v_214.toInt ≤ 31) (hf_215_0 : RwOK f_215) (hn : (32 - v_214.toInt : Int).toNat < nn_) (H : Heap) (locs : List Loc) (hP : va_P D vwCl [(m0, .inr (12, [m_0, m_1, m_2, .ref w0, m_4, m_5, .ref u0, m_7, m_8, m_9, m_10, m_11, m_12, m_13, m_14, m_15, m_16, m_17, m_18, m_19, m_20, m_21, m_22, m_23, m_24, m_25, m_26, m_27, m_28, m_29, m_30, m_31, m_32, m_33, m_34, m_35, m_36, m_37, m_38, m_39, m_40, m_41, m_42, m_43, m_44, m_45, m_46, m_47, m_48, m_49, m_50, m_51, m_52, m_53, m_54, m_55, m_56, m_57, m_58, m_59])), (w0, .inl (K 0, 5500, .inl f_215)), (u0, .inl (K 0, 558, .inl fu))] H) (hD : va_D A [(m0, .inr (12, [m_0, m_1, m_2, .ref w0, m_4, m_5, .ref u0, m_7, m_8, m_9, m_10, m_11, m_12, m_13, m_14, m_15, m_16, m_17, m_18, m_19, m_20, m_21, m_22, m_23, m_24, m_25, m_26, m_27, m_28, m_29, m_30, m_31, m_32, m_33, m_34, m_35, m_36, m_37, m_38, m_39, m_40, m_41, m_42, m_43, m_44, m_45, m_46, m_47, m_48, m_49, m_50, m_51, m_52, m_53, m_54, m_55, m_56, m_57, m_58, m_59])), (w0, .inl (K 0, 5500, .inl f_215)), (u0, .inl (K 0, 558, .inl fu))]) (hS : va_S A s.heap H locs) (ls : Array Slot) (hl : lv_has ls 3 [(2, .int v_214), (0, .ref m0), (1, .int x)]), W p l e ({ frames := 0, cells := 0, slots := 0, locals := 0 }) s m (([.ref m0, .int x] : List Value).toArray) below meth c H locs 0 0 Q (F0 m 2 ls []) := by
    intro nn_
    induction nn_ with
    | zero =>
      intro v_214 f_215 hv_214 hf_215_0 hn H locs hP hD hS ls hl
      exact absurd hn (Nat.not_lt_zero _)
    | succ nn_ ih_233 =>
      intro v_214 f_215 hv_214 hf_215_0 hn H locs hP hD hS ls hl
      refine lv_iload_n hx hb dX12_putBack_2 rfl (lv_at hl 0 rfl) ?_
      refine lv_bipush (v := 31) hx hb dX12_putBack_3 (by decide) ?_
      refine lv_icmp_ge (tgt := 33) hx hb dX12_putBack_5 (by decide) (fun c_234 => ?_) (fun c_234 => ?_)
      · have c_234i := i_le (x := 31) (y := v_214.toInt) rfl rfl c_234
        rw [← hQ]
        have hP9 := hP.sub (ws' := [(m0, .inr (12, [m_0, m_1, m_2, .ref w0, m_4, m_5, .ref u0, m_7, m_8, m_9, m_10, m_11, m_12, m_13, m_14, m_15, m_16, m_17, m_18, m_19, m_20, m_21, m_22, m_23, m_24, m_25, m_26, m_27, m_28, m_29, m_30, m_31, m_32, m_33, m_34, m_35, m_36, m_37, m_38, m_39, m_40, m_41, m_42, m_43, m_44, m_45, m_46, m_47, m_48, m_49, m_50, m_51, m_52, m_53, m_54, m_55, m_56, m_57, m_58, m_59])), (w0, .inl (K 0, 5500, .inl f_215)), (u0, .inl (K 0, 558, .inl fu))]) [0, 1, 2] rfl
        have hD9 := hD.sub (ws' := [(m0, .inr (12, [m_0, m_1, m_2, .ref w0, m_4, m_5, .ref u0, m_7, m_8, m_9, m_10, m_11, m_12, m_13, m_14, m_15, m_16, m_17, m_18, m_19, m_20, m_21, m_22, m_23, m_24, m_25, m_26, m_27, m_28, m_29, m_30, m_31, m_32, m_33, m_34, m_35, m_36, m_37, m_38, m_39, m_40, m_41, m_42, m_43, m_44, m_45, m_46, m_47, m_48, m_49, m_50, m_51, m_52, m_53, m_54, m_55, m_56, m_57, m_58, m_59])), (w0, .inl (K 0, 5500, .inl f_215)), (u0, .inl (K 0, 558, .inl fu))]) [0, 1, 2] (by decide) rfl
        exact W.vret hx hb hr (fun t ht hW => ⟨⟨((fun _ => 0, fun i => match i with | _ => f_215, fun _ => fun _ => 0, fun _ => 0, fun _ => 0, fun _ => fun _ => none) : Su), rfl, ⟨hf_215_0, trivial⟩, (⟨by rw [ht]; exact hP9, hD9⟩ : Wd D A _ t)⟩, hS.F ht⟩) hS.2.2 dX12_putBack_33
      · have c_234i := i_nle (x := 31) (y := v_214.toInt) rfl rfl c_234
        refine lv_aload_n hx hb dX12_putBack_8 rfl (lv_at hl 1 rfl) ?_
        refine va_get (ci := 12) (v := .ref w0) (C := RX12) (T := TX12) (N := 60) hx hb hts hw12 hown hK hP 0 rfl rfl 3 (by decide) (hts (.fieldLink RX12 13 "SmokeTuneModel" "row" "[I") (List.mem_cons_of_mem _ (List.mem_append_left _ (List.mem_of_getElem? (i := 0) rfl)))) (fun _ h9 => h9) rfl dX12_putBack_9 ?_
        refine lv_iconst (v := 4) hx hb dX12_putBack_12 (by decide) ?_
        refine lv_iload_n hx hb dX12_putBack_13 rfl (lv_at hl 0 rfl) ?_
        refine lv_iadd hx hb dX12_putBack_14 ?_
        refine lv_topi (fun x_235 ex_235 => ?_)
        have hx_235 : x_235.toInt = (4 + v_214.toInt) := by rw [ex_235]; exact i_add (show (4 : Int32).toInt = 4 from rfl) rfl (by omega)
        refine lv_aload_n hx hb dX12_putBack_15 rfl (lv_at hl 1 rfl) ?_
        refine va_get (ci := 12) (v := .ref u0) (C := RX12) (T := TX12) (N := 60) hx hb hts hw12 hown hK hP 0 rfl rfl 6 (by decide) (hts (.fieldLink RX12 23 "SmokeTuneModel" "undos" "[I") (List.mem_cons_of_mem _ (List.mem_append_left _ (List.mem_of_getElem? (i := 1) rfl)))) (fun _ h9 => h9) rfl dX12_putBack_16 ?_
        refine lv_bipush (v := 31) hx hb dX12_putBack_19 (by decide) ?_
        refine lv_iload_n hx hb dX12_putBack_21 rfl (lv_at hl 2 rfl) ?_
        refine lv_imul hx hb dX12_putBack_22 ?_
        refine lv_topi (fun x_236 ex_236 => ?_)
        have hx_236 : x_236.toInt = (31 * x.toInt) := by rw [ex_236]; exact i_mul (show (31 : Int32).toInt = 31 from rfl) rfl (by omega)
        refine lv_iload_n hx hb dX12_putBack_23 rfl (lv_at hl 0 rfl) ?_
        refine lv_iadd hx hb dX12_putBack_24 ?_
        refine lv_topi (fun x_237 ex_237 => ?_)
        have hx_237 : x_237.toInt = ((31 * x.toInt) + v_214.toInt) := by rw [ex_237]; exact i_add hx_236 rfl (by omega)
        refine va_iald hx hb hK hP 2 0 rfl rfl (i_in hx_237 (by omega)) dX12_putBack_25 ?_
        refine lv_topi (fun x_238 ex_238 => ?_)
        have px_238 := Pu.at zfu hx_237 (show 0 ≤ ((31 * x.toInt) + v_214.toInt) ∧ ((31 * x.toInt) + v_214.toInt) < _ by omega)
        rw [← ex_238] at px_238
        refine va_iast hx hb hK hP hD hS 1 0 rfl rfl (i_in hx_235 (by omega)) dX12_putBack_26 (fun H locs hP hD hS => ?_)
        generalize hf_239 : (upd f_215 (x_235 : Int32).toNatClampNeg x_238) = f_239 at hP hD
        have hf_239_0 : RwOK f_239 := by rw [← hf_239]; exact RwOK.upd hf_215_0 hx_235 (by omega) rfl (PR.eqi px_238 (by omega) rfl)
        have hP : va_P D vwCl [(m0, .inr (12, [m_0, m_1, m_2, .ref w0, m_4, m_5, .ref u0, m_7, m_8, m_9, m_10, m_11, m_12, m_13, m_14, m_15, m_16, m_17, m_18, m_19, m_20, m_21, m_22, m_23, m_24, m_25, m_26, m_27, m_28, m_29, m_30, m_31, m_32, m_33, m_34, m_35, m_36, m_37, m_38, m_39, m_40, m_41, m_42, m_43, m_44, m_45, m_46, m_47, m_48, m_49, m_50, m_51, m_52, m_53, m_54, m_55, m_56, m_57, m_58, m_59])), (w0, .inl (K 0, 5500, .inl f_239)), (u0, .inl (K 0, 558, .inl fu))] H := hP
        have hD : va_D A [(m0, .inr (12, [m_0, m_1, m_2, .ref w0, m_4, m_5, .ref u0, m_7, m_8, m_9, m_10, m_11, m_12, m_13, m_14, m_15, m_16, m_17, m_18, m_19, m_20, m_21, m_22, m_23, m_24, m_25, m_26, m_27, m_28, m_29, m_30, m_31, m_32, m_33, m_34, m_35, m_36, m_37, m_38, m_39, m_40, m_41, m_42, m_43, m_44, m_45, m_46, m_47, m_48, m_49, m_50, m_51, m_52, m_53, m_54, m_55, m_56, m_57, m_58, m_59])), (w0, .inl (K 0, 5500, .inl f_239)), (u0, .inl (K 0, 558, .inl fu))] := hD
        obtain ⟨x_240, ex_240⟩ : ∃ y : Int32, y = v_214 + Int32.ofInt 1 := ⟨_, rfl⟩
        have hx_240 : x_240.toInt = (v_214.toInt + 1) := by rw [ex_240]; exact i_add rfl (show (Int32.ofInt 1).toInt = 1 from rfl) (by omega)
        refine lv_iinc (v := x_240) (lv' := [(2, .int x_240), (0, .ref m0), (1, .int x)]) hx hb dX12_putBack_27 hl (k := 0) rfl (by rw [ex_240]) (by decide) rfl (fun ls hl => ?_)
        refine lv_goto (tgt := 2) hx hb dX12_putBack_30 (by decide) ?_
        exact ih_233 x_240 f_239 (by rw [hx_240]; omega) hf_239_0 (by omega) _ _ hP hD hS ls (lv_sub hl [0, 1, 2] rfl)
  exact lp_232 ((32 - (0 : Int32).toInt : Int).toNat + 1) 0 fw (by decide) zfw (Nat.lt_succ_self _) _ _ hP hD hS ls (lv_sub hl [0, 1, 2] rfl)
set_option maxHeartbeats 4000000 in
set_option maxRecDepth 100000 in
theorem v_remember (l : Launch) (D : va_G) (K : Nat → ClassId) (m0 : Nat) (x : Int32) (m_0 : Value) (m_1 : Value) (m_2 : Value) (w0 : Nat) (m_4 : Value) (m_5 : Value) (u0 : Nat) (s0 : Nat) (nu : Int32) (m_9 : Value) (m_10 : Value) (m_11 : Value) (m_12 : Value) (m_13 : Value) (m_14 : Value) (m_15 : Value) (m_16 : Value) (m_17 : Value) (m_18 : Value) (m_19 : Value) (m_20 : Value) (m_21 : Value) (m_22 : Value) (m_23 : Value) (m_24 : Value) (m_25 : Value) (m_26 : Value) (m_27 : Value) (m_28 : Value) (m_29 : Value) (m_30 : Value) (m_31 : Value) (m_32 : Value) (m_33 : Value) (m_34 : Value) (m_35 : Value) (m_36 : Value) (m_37 : Value) (m_38 : Value) (m_39 : Value) (m_40 : Value) (m_41 : Value) (m_42 : Value) (m_43 : Value) (m_44 : Value) (m_45 : Value) (m_46 : Value) (m_47 : Value) (m_48 : Value) (m_49 : Value) (m_50 : Value) (m_51 : Value) (m_52 : Value) (m_53 : Value) (m_54 : Value) (m_55 : Value) (m_56 : Value) (m_57 : Value) (m_58 : Value) (m_59 : Value) (fw : Nat → Int32) (fu : Nat → Int32) (fs : Nat → Int32) (sz : Nat) (zx : 0 ≤ x.toInt ∧ x.toInt ≤ 3) (znu : 0 ≤ nu.toInt ∧ nu.toInt ≤ 16) (zfw : RwOK fw) (zfu : Pu 558 fu) (zfs : Rg 16 0 3 fs) : Met l yX12_remember wsX12_remember ({ frames := 1, cells := 0, slots := 0, locals := 22 }) (va_Pc [.ref m0, .int x] (Pre D K [(m0, .inr (12, [m_0, m_1, m_2, .ref w0, m_4, m_5, .ref u0, .ref s0, .int nu, m_9, m_10, m_11, m_12, m_13, m_14, m_15, m_16, m_17, m_18, m_19, m_20, m_21, m_22, m_23, m_24, m_25, m_26, m_27, m_28, m_29, m_30, m_31, m_32, m_33, m_34, m_35, m_36, m_37, m_38, m_39, m_40, m_41, m_42, m_43, m_44, m_45, m_46, m_47, m_48, m_49, m_50, m_51, m_52, m_53, m_54, m_55, m_56, m_57, m_58, m_59])), (w0, .inl (K 0, 5500, .inl fw)), (u0, .inl (K 0, 558, .inl fu)), (s0, .inl (K 0, 16, .inl fs))] sz)) (va_Qv (S := Su) (fun (u : Su) => (1 ≤ (u.2.2.2.1 0).toInt ∧ (u.2.2.2.1 0).toInt ≤ 16) ∧ (Pu 558 (u.2.1 0)) ∧ (Rg 16 0 3 (u.2.1 1)) ∧ True) (fun u t => Wd D (va_A [(m0, .inr (12, [m_0, m_1, m_2, .ref w0, m_4, m_5, .ref u0, .ref s0, .int nu, m_9, m_10, m_11, m_12, m_13, m_14, m_15, m_16, m_17, m_18, m_19, m_20, m_21, m_22, m_23, m_24, m_25, m_26, m_27, m_28, m_29, m_30, m_31, m_32, m_33, m_34, m_35, m_36, m_37, m_38, m_39, m_40, m_41, m_42, m_43, m_44, m_45, m_46, m_47, m_48, m_49, m_50, m_51, m_52, m_53, m_54, m_55, m_56, m_57, m_58, m_59])), (w0, .inl (K 0, 5500, .inl fw)), (u0, .inl (K 0, 558, .inl fu)), (s0, .inl (K 0, 16, .inl fs))] sz) ((fun u => [(m0, .inr (12, [m_0, m_1, m_2, .ref w0, m_4, m_5, .ref u0, .ref s0, .int (u.2.2.2.1 0), m_9, m_10, m_11, m_12, m_13, m_14, m_15, m_16, m_17, m_18, m_19, m_20, m_21, m_22, m_23, m_24, m_25, m_26, m_27, m_28, m_29, m_30, m_31, m_32, m_33, m_34, m_35, m_36, m_37, m_38, m_39, m_40, m_41, m_42, m_43, m_44, m_45, m_46, m_47, m_48, m_49, m_50, m_51, m_52, m_53, m_54, m_55, m_56, m_57, m_58, m_59])), (w0, .inl (K 0, 5500, .inl fw)), (u0, .inl (K 0, 558, .inl (u.2.1 0))), (s0, .inl (K 0, 16, .inl (u.2.1 1)))]) u) t) (va_A [(m0, .inr (12, [m_0, m_1, m_2, .ref w0, m_4, m_5, .ref u0, .ref s0, .int nu, m_9, m_10, m_11, m_12, m_13, m_14, m_15, m_16, m_17, m_18, m_19, m_20, m_21, m_22, m_23, m_24, m_25, m_26, m_27, m_28, m_29, m_30, m_31, m_32, m_33, m_34, m_35, m_36, m_37, m_38, m_39, m_40, m_41, m_42, m_43, m_44, m_45, m_46, m_47, m_48, m_49, m_50, m_51, m_52, m_53, m_54, m_55, m_56, m_57, m_58, m_59])), (w0, .inl (K 0, 5500, .inl fw)), (u0, .inl (K 0, 558, .inl fu)), (s0, .inl (K 0, 16, .inl fs))] sz)) 0 0 (va_A [(m0, .inr (12, [m_0, m_1, m_2, .ref w0, m_4, m_5, .ref u0, .ref s0, .int nu, m_9, m_10, m_11, m_12, m_13, m_14, m_15, m_16, m_17, m_18, m_19, m_20, m_21, m_22, m_23, m_24, m_25, m_26, m_27, m_28, m_29, m_30, m_31, m_32, m_33, m_34, m_35, m_36, m_37, m_38, m_39, m_40, m_41, m_42, m_43, m_44, m_45, m_46, m_47, m_48, m_49, m_50, m_51, m_52, m_53, m_54, m_55, m_56, m_57, m_58, m_59])), (w0, .inl (K 0, 5500, .inl fw)), (u0, .inl (K 0, 558, .inl fu)), (s0, .inl (K 0, 16, .inl fs))] sz) := by
  refine Met.ofW (cc := cX12_remember) (maxL := 3) (ret := none) (by decide) rfl ?_
  intro p e s m args below meth c s₁ B hml hv
  obtain ⟨rfl, hsz, hP, hK, hD0, hN⟩ := hv
  have hx := B.exec
  have hb := B.bytes
  have hr := B.returns
  have hts := atoms_spec (ws := wsX12_remember) B.pre
  have hown : s.vm.findClass RX12 = some m.cls := findClass_of_methodNamed B.named
  have hlocks := B.notSynchronized
  subst hsz
  have hD := hD0.self (sz := s.heap.size)
  generalize hAe : va_A [(m0, .inr (12, [m_0, m_1, m_2, .ref w0, m_4, m_5, .ref u0, .ref s0, .int nu, m_9, m_10, m_11, m_12, m_13, m_14, m_15, m_16, m_17, m_18, m_19, m_20, m_21, m_22, m_23, m_24, m_25, m_26, m_27, m_28, m_29, m_30, m_31, m_32, m_33, m_34, m_35, m_36, m_37, m_38, m_39, m_40, m_41, m_42, m_43, m_44, m_45, m_46, m_47, m_48, m_49, m_50, m_51, m_52, m_53, m_54, m_55, m_56, m_57, m_58, m_59])), (w0, .inl (K 0, 5500, .inl fw)), (u0, .inl (K 0, 558, .inl fu)), (s0, .inl (K 0, 16, .inl fs))] s.heap.size = A at hD ⊢
  have hA : ∀ q : Nat, s.heap.size ≤ q → A q := fun q h => by rw [← hAe]; exact Or.inr h
  have hS : va_S A s.heap s.heap [] := va_S.rf
  have hP : va_P D vwCl [(m0, .inr (12, [m_0, m_1, m_2, .ref w0, m_4, m_5, .ref u0, .ref s0, .int nu, m_9, m_10, m_11, m_12, m_13, m_14, m_15, m_16, m_17, m_18, m_19, m_20, m_21, m_22, m_23, m_24, m_25, m_26, m_27, m_28, m_29, m_30, m_31, m_32, m_33, m_34, m_35, m_36, m_37, m_38, m_39, m_40, m_41, m_42, m_43, m_44, m_45, m_46, m_47, m_48, m_49, m_50, m_51, m_52, m_53, m_54, m_55, m_56, m_57, m_58, m_59])), (w0, .inl (K 0, 5500, .inl fw)), (u0, .inl (K 0, 558, .inl fu)), (s0, .inl (K 0, 16, .inl fs))] s.heap := hP
  have hl := lv_entry [.ref m0, .int x] (n := 3) (Nat.le_of_ble_eq_true rfl)
  rw [lg_entry_eq]
  generalize (lg_sl [.ref m0, .int x] ++ List.replicate (3 - (lg_sl [.ref m0, .int x]).length) Slot.unset).toArray = ls at hl ⊢
  have hl : lv_has ls 3 [(0, .ref m0), (1, .int x)] := hl
  have hw12 : ∀ w ∈ wsX120, w ∈ wsX12_remember := fun w h => (List.mem_cons_of_mem _ (List.mem_append_right _ h))
  generalize hQ : MQ below _ _ s _ _ _ = Q
  refine lv_aload_n hx hb dX12_remember_0 rfl (lv_at hl 0 rfl) ?_
  refine va_get (ci := 12) (v := .int nu) (C := RX12) (T := TX12) (N := 60) hx hb hts hw12 hown hK hP 0 rfl rfl 8 (by decide) (hts (.fieldLink RX12 164 "SmokeTuneModel" "nUndo" "I") (List.mem_cons_of_mem _ (List.mem_append_left _ (List.mem_of_getElem? (i := 0) rfl)))) (fun _ h9 => h9) rfl dX12_remember_1 ?_
  refine lv_bipush (v := 16) hx hb dX12_remember_4 (by decide) ?_
  have j_567 : ∀ (v_559 : Int32) (f_560 : Nat → Int32) (f_561 : Nat → Int32) (hv_559 : 0 ≤ v_559.toInt ∧ v_559.toInt ≤ 15) (hf_560_0 : Pu 558 f_560) (hf_561_0 : Rg 16 0 3 f_561) (H : Heap) (locs : List Loc) (hP : va_P D vwCl [(m0, .inr (12, [m_0, m_1, m_2, .ref w0, m_4, m_5, .ref u0, .ref s0, .int v_559, m_9, m_10, m_11, m_12, m_13, m_14, m_15, m_16, m_17, m_18, m_19, m_20, m_21, m_22, m_23, m_24, m_25, m_26, m_27, m_28, m_29, m_30, m_31, m_32, m_33, m_34, m_35, m_36, m_37, m_38, m_39, m_40, m_41, m_42, m_43, m_44, m_45, m_46, m_47, m_48, m_49, m_50, m_51, m_52, m_53, m_54, m_55, m_56, m_57, m_58, m_59])), (w0, .inl (K 0, 5500, .inl fw)), (u0, .inl (K 0, 558, .inl f_560)), (s0, .inl (K 0, 16, .inl f_561))] H) (hD : va_D A [(m0, .inr (12, [m_0, m_1, m_2, .ref w0, m_4, m_5, .ref u0, .ref s0, .int v_559, m_9, m_10, m_11, m_12, m_13, m_14, m_15, m_16, m_17, m_18, m_19, m_20, m_21, m_22, m_23, m_24, m_25, m_26, m_27, m_28, m_29, m_30, m_31, m_32, m_33, m_34, m_35, m_36, m_37, m_38, m_39, m_40, m_41, m_42, m_43, m_44, m_45, m_46, m_47, m_48, m_49, m_50, m_51, m_52, m_53, m_54, m_55, m_56, m_57, m_58, m_59])), (w0, .inl (K 0, 5500, .inl fw)), (u0, .inl (K 0, 558, .inl f_560)), (s0, .inl (K 0, 16, .inl f_561))]) (hS : va_S A s.heap H locs) (ls : Array Slot) (hl : lv_has ls 3 [(0, .ref m0), (1, .int x)]), W p l e ({ frames := 1, cells := 0, slots := 0, locals := 22 }) s m (([.ref m0, .int x] : List Value).toArray) below meth c H locs 0 0 Q (F0 m 77 ls []) := by
    intro v_559 f_560 f_561 hv_559 hf_560_0 hf_561_0 H locs hP hD hS ls hl
    refine lv_aload_n hx hb dX12_remember_77 rfl (lv_at hl 0 rfl) ?_
    refine lv_aload_n hx hb dX12_remember_78 rfl (lv_at hl 0 rfl) ?_
    refine va_get (ci := 12) (v := .int v_559) (C := RX12) (T := TX12) (N := 60) hx hb hts hw12 hown hK hP 0 rfl rfl 8 (by decide) (hts (.fieldLink RX12 164 "SmokeTuneModel" "nUndo" "I") (List.mem_cons_of_mem _ (List.mem_append_left _ (List.mem_of_getElem? (i := 0) rfl)))) (fun _ h9 => h9) rfl dX12_remember_79 ?_
    refine kcv (S := Su) (wr := [(s0, .inl (K 0, 16, .inl f_561))]) (va_runV (As := [.int v_559]) (rest := []) ⟨hx, hb, hml, hown, hts⟩ (v_keepAll l D K m0 v_559 m_0 m_1 m_2 w0 m_4 m_5 u0 (.ref s0) (.int v_559) m_9 m_10 m_11 m_12 m_13 m_14 m_15 m_16 m_17 m_18 m_19 m_20 m_21 m_22 m_23 m_24 m_25 m_26 m_27 m_28 m_29 m_30 m_31 m_32 m_33 m_34 m_35 m_36 m_37 m_38 m_39 m_40 m_41 m_42 m_43 m_44 m_45 m_46 m_47 m_48 m_49 m_50 m_51 m_52 m_53 m_54 m_55 m_56 m_57 m_58 m_59 fw f_560 H.size (by first | omega | decide) zfw hf_560_0) (cwV 1 hts gX12_remember_X12_keepAll rfl rfl rfl (by decide +kernel) ⟨Nat.le_of_ble_eq_true rfl, Nat.le_of_ble_eq_true rfl⟩) (mkV hK hN (hP.sub [0, 1, 2] rfl) (hD.sub [0, 1, 2] (by decide) rfl) (ci := 12) (q0 := 0) rfl rfl) rfl rfl hl.1 rfl (lv_room (Nat.le_of_ble_eq_true rfl)) dX12_remember_82 ⟨Nat.le_of_ble_eq_true rfl, Nat.le_of_ble_eq_true rfl⟩) hP hD hS hA [0, 1, 2] [3] rfl rfl (by decide) (by decide) (fun u_569 H locs hw hP hD hS => ?_)
    have hP : va_P D vwCl [(s0, .inl (K 0, 16, .inl f_561)), (m0, .inr (12, [m_0, m_1, m_2, .ref w0, m_4, m_5, .ref u0, .ref s0, .int v_559, m_9, m_10, m_11, m_12, m_13, m_14, m_15, m_16, m_17, m_18, m_19, m_20, m_21, m_22, m_23, m_24, m_25, m_26, m_27, m_28, m_29, m_30, m_31, m_32, m_33, m_34, m_35, m_36, m_37, m_38, m_39, m_40, m_41, m_42, m_43, m_44, m_45, m_46, m_47, m_48, m_49, m_50, m_51, m_52, m_53, m_54, m_55, m_56, m_57, m_58, m_59])), (w0, .inl (K 0, 5500, .inl fw)), (u0, .inl (K 0, 558, .inl (u_569.2.1 0)))] H := hP
    have hD : va_D A [(s0, .inl (K 0, 16, .inl f_561)), (m0, .inr (12, [m_0, m_1, m_2, .ref w0, m_4, m_5, .ref u0, .ref s0, .int v_559, m_9, m_10, m_11, m_12, m_13, m_14, m_15, m_16, m_17, m_18, m_19, m_20, m_21, m_22, m_23, m_24, m_25, m_26, m_27, m_28, m_29, m_30, m_31, m_32, m_33, m_34, m_35, m_36, m_37, m_38, m_39, m_40, m_41, m_42, m_43, m_44, m_45, m_46, m_47, m_48, m_49, m_50, m_51, m_52, m_53, m_54, m_55, m_56, m_57, m_58, m_59])), (w0, .inl (K 0, 5500, .inl fw)), (u0, .inl (K 0, 558, .inl (u_569.2.1 0)))] := hD
    obtain ⟨k_570, -⟩ := hw
    refine lv_aload_n hx hb dX12_remember_85 rfl (lv_at hl 0 rfl) ?_
    refine va_get (ci := 12) (v := .ref s0) (C := RX12) (T := TX12) (N := 60) hx hb hts hw12 hown hK hP 1 rfl rfl 7 (by decide) (hts (.fieldLink RX12 26 "SmokeTuneModel" "sorts" "[I") (List.mem_cons_of_mem _ (List.mem_append_left _ (List.mem_of_getElem? (i := 2) rfl)))) (fun _ h9 => h9) rfl dX12_remember_86 ?_
    refine lv_aload_n hx hb dX12_remember_89 rfl (lv_at hl 0 rfl) ?_
    refine va_get (ci := 12) (v := .int v_559) (C := RX12) (T := TX12) (N := 60) hx hb hts hw12 hown hK hP 1 rfl rfl 8 (by decide) (hts (.fieldLink RX12 164 "SmokeTuneModel" "nUndo" "I") (List.mem_cons_of_mem _ (List.mem_append_left _ (List.mem_of_getElem? (i := 0) rfl)))) (fun _ h9 => h9) rfl dX12_remember_90 ?_
    refine lv_iload_n hx hb dX12_remember_93 rfl (lv_at hl 1 rfl) ?_
    refine va_iast hx hb hK hP hD hS 0 0 rfl rfl (i_in rfl (by omega)) dX12_remember_94 (fun H locs hP hD hS => ?_)
    generalize hf_571 : (upd f_561 (v_559 : Int32).toNatClampNeg x) = f_571 at hP hD
    have hf_571_0 : Rg 16 0 3 f_571 := by rw [← hf_571]; exact Rg.upd hf_561_0 rfl (by omega)
    have hP : va_P D vwCl [(s0, .inl (K 0, 16, .inl f_571)), (m0, .inr (12, [m_0, m_1, m_2, .ref w0, m_4, m_5, .ref u0, .ref s0, .int v_559, m_9, m_10, m_11, m_12, m_13, m_14, m_15, m_16, m_17, m_18, m_19, m_20, m_21, m_22, m_23, m_24, m_25, m_26, m_27, m_28, m_29, m_30, m_31, m_32, m_33, m_34, m_35, m_36, m_37, m_38, m_39, m_40, m_41, m_42, m_43, m_44, m_45, m_46, m_47, m_48, m_49, m_50, m_51, m_52, m_53, m_54, m_55, m_56, m_57, m_58, m_59])), (w0, .inl (K 0, 5500, .inl fw)), (u0, .inl (K 0, 558, .inl (u_569.2.1 0)))] H := hP
    have hD : va_D A [(s0, .inl (K 0, 16, .inl f_571)), (m0, .inr (12, [m_0, m_1, m_2, .ref w0, m_4, m_5, .ref u0, .ref s0, .int v_559, m_9, m_10, m_11, m_12, m_13, m_14, m_15, m_16, m_17, m_18, m_19, m_20, m_21, m_22, m_23, m_24, m_25, m_26, m_27, m_28, m_29, m_30, m_31, m_32, m_33, m_34, m_35, m_36, m_37, m_38, m_39, m_40, m_41, m_42, m_43, m_44, m_45, m_46, m_47, m_48, m_49, m_50, m_51, m_52, m_53, m_54, m_55, m_56, m_57, m_58, m_59])), (w0, .inl (K 0, 5500, .inl fw)), (u0, .inl (K 0, 558, .inl (u_569.2.1 0)))] := hD
    refine lv_aload_n hx hb dX12_remember_95 rfl (lv_at hl 0 rfl) ?_
    refine lv_dup hx hb dX12_remember_96 rfl ?_
    refine va_get (ci := 12) (v := .int v_559) (C := RX12) (T := TX12) (N := 60) hx hb hts hw12 hown hK hP 1 rfl rfl 8 (by decide) (hts (.fieldLink RX12 164 "SmokeTuneModel" "nUndo" "I") (List.mem_cons_of_mem _ (List.mem_append_left _ (List.mem_of_getElem? (i := 0) rfl)))) (fun _ h9 => h9) rfl dX12_remember_97 ?_
    refine lv_iconst (v := 1) hx hb dX12_remember_100 (by decide) ?_
    refine lv_iadd hx hb dX12_remember_101 ?_
    refine lv_topi (fun x_572 ex_572 => ?_)
    have hx_572 : x_572.toInt = (v_559.toInt + 1) := by rw [ex_572]; exact i_add rfl (show (1 : Int32).toInt = 1 from rfl) (by omega)
    refine va_put (ci := 12) (v := .int x_572) (ty := .int) (C := RX12) (T := TX12) (N := 60) hx hb hts hw12 tyX12 tyX12_ok nmX12 hown hK hP hD hS 1 rfl rfl 8 (by decide) (hts (.fieldLink RX12 164 "SmokeTuneModel" "nUndo" "I") (List.mem_cons_of_mem _ (List.mem_append_left _ (List.mem_of_getElem? (i := 0) rfl)))) (fun _ h9 => h9) rfl (by decide +kernel) (by first | rfl | decide) (by first | rfl | decide) (Nat.le_of_ble_eq_true rfl) dX12_remember_102 (fun H locs hP hD hS => ?_)
    have hP : va_P D vwCl [(s0, .inl (K 0, 16, .inl f_571)), (m0, .inr (12, [m_0, m_1, m_2, .ref w0, m_4, m_5, .ref u0, .ref s0, .int x_572, m_9, m_10, m_11, m_12, m_13, m_14, m_15, m_16, m_17, m_18, m_19, m_20, m_21, m_22, m_23, m_24, m_25, m_26, m_27, m_28, m_29, m_30, m_31, m_32, m_33, m_34, m_35, m_36, m_37, m_38, m_39, m_40, m_41, m_42, m_43, m_44, m_45, m_46, m_47, m_48, m_49, m_50, m_51, m_52, m_53, m_54, m_55, m_56, m_57, m_58, m_59])), (w0, .inl (K 0, 5500, .inl fw)), (u0, .inl (K 0, 558, .inl (u_569.2.1 0)))] H := hP
    have hD : va_D A [(s0, .inl (K 0, 16, .inl f_571)), (m0, .inr (12, [m_0, m_1, m_2, .ref w0, m_4, m_5, .ref u0, .ref s0, .int x_572, m_9, m_10, m_11, m_12, m_13, m_14, m_15, m_16, m_17, m_18, m_19, m_20, m_21, m_22, m_23, m_24, m_25, m_26, m_27, m_28, m_29, m_30, m_31, m_32, m_33, m_34, m_35, m_36, m_37, m_38, m_39, m_40, m_41, m_42, m_43, m_44, m_45, m_46, m_47, m_48, m_49, m_50, m_51, m_52, m_53, m_54, m_55, m_56, m_57, m_58, m_59])), (w0, .inl (K 0, 5500, .inl fw)), (u0, .inl (K 0, 558, .inl (u_569.2.1 0)))] := hD
    rw [← hQ]
    have hP9 := hP.sub (ws' := [(m0, .inr (12, [m_0, m_1, m_2, .ref w0, m_4, m_5, .ref u0, .ref s0, .int x_572, m_9, m_10, m_11, m_12, m_13, m_14, m_15, m_16, m_17, m_18, m_19, m_20, m_21, m_22, m_23, m_24, m_25, m_26, m_27, m_28, m_29, m_30, m_31, m_32, m_33, m_34, m_35, m_36, m_37, m_38, m_39, m_40, m_41, m_42, m_43, m_44, m_45, m_46, m_47, m_48, m_49, m_50, m_51, m_52, m_53, m_54, m_55, m_56, m_57, m_58, m_59])), (w0, .inl (K 0, 5500, .inl fw)), (u0, .inl (K 0, 558, .inl (u_569.2.1 0))), (s0, .inl (K 0, 16, .inl f_571))]) [1, 2, 3, 0] rfl
    have hD9 := hD.sub (ws' := [(m0, .inr (12, [m_0, m_1, m_2, .ref w0, m_4, m_5, .ref u0, .ref s0, .int x_572, m_9, m_10, m_11, m_12, m_13, m_14, m_15, m_16, m_17, m_18, m_19, m_20, m_21, m_22, m_23, m_24, m_25, m_26, m_27, m_28, m_29, m_30, m_31, m_32, m_33, m_34, m_35, m_36, m_37, m_38, m_39, m_40, m_41, m_42, m_43, m_44, m_45, m_46, m_47, m_48, m_49, m_50, m_51, m_52, m_53, m_54, m_55, m_56, m_57, m_58, m_59])), (w0, .inl (K 0, 5500, .inl fw)), (u0, .inl (K 0, 558, .inl (u_569.2.1 0))), (s0, .inl (K 0, 16, .inl f_571))]) [1, 2, 3, 0] (by decide) rfl
    exact W.vret hx hb hr (fun t ht hW => ⟨⟨((fun _ => 0, fun i => match i with | 0 => (u_569.2.1 0) | _ => f_571, fun _ => fun _ => 0, fun i => match i with | _ => x_572, fun _ => 0, fun _ => fun _ => none) : Su), rfl, ⟨(show 1 ≤ (x_572 : Int32).toInt ∧ (x_572 : Int32).toInt ≤ 16 by rw [hx_572]; omega), k_570, hf_571_0, trivial⟩, (⟨by rw [ht]; exact hP9, hD9⟩ : Wd D A _ t)⟩, hS.F ht⟩) hS.2.2 dX12_remember_105
  refine lv_icmp_ne (tgt := 77) hx hb dX12_remember_6 (by decide) (fun c_573 => ?_) (fun c_573 => ?_)
  · have c_573i := i_ne (x := nu.toInt) (y := 16) rfl rfl c_573
    exact j_567 nu fu fs (by omega) zfu zfs _ _ hP hD hS ls (lv_sub hl [0, 1] rfl)
  · have c_573i := i_eq (x := nu.toInt) (y := 16) rfl rfl c_573
    refine lv_iconst (v := 0) hx hb dX12_remember_9 (by decide) ?_
    refine lv_istore_n (lv' := [(2, .int 0), (0, .ref m0), (1, .int x)]) hx hb dX12_remember_10 rfl hl (by decide) rfl (fun ls hl => ?_)
    have lp_613 : ∀ (nn_ : Nat) (v_599 : Int32) (f_600 : Nat → Int32) (hv_599 : 0 ≤ v_599.toInt ∧ v_599.toInt ≤ 465) (hf_600_0 : Pu 558 f_600) (hn : (466 - v_599.toInt : Int).toNat < nn_) (H : Heap) (locs : List Loc) (hP : va_P D vwCl [(m0, .inr (12, [m_0, m_1, m_2, .ref w0, m_4, m_5, .ref u0, .ref s0, .int nu, m_9, m_10, m_11, m_12, m_13, m_14, m_15, m_16, m_17, m_18, m_19, m_20, m_21, m_22, m_23, m_24, m_25, m_26, m_27, m_28, m_29, m_30, m_31, m_32, m_33, m_34, m_35, m_36, m_37, m_38, m_39, m_40, m_41, m_42, m_43, m_44, m_45, m_46, m_47, m_48, m_49, m_50, m_51, m_52, m_53, m_54, m_55, m_56, m_57, m_58, m_59])), (w0, .inl (K 0, 5500, .inl fw)), (u0, .inl (K 0, 558, .inl f_600)), (s0, .inl (K 0, 16, .inl fs))] H) (hD : va_D A [(m0, .inr (12, [m_0, m_1, m_2, .ref w0, m_4, m_5, .ref u0, .ref s0, .int nu, m_9, m_10, m_11, m_12, m_13, m_14, m_15, m_16, m_17, m_18, m_19, m_20, m_21, m_22, m_23, m_24, m_25, m_26, m_27, m_28, m_29, m_30, m_31, m_32, m_33, m_34, m_35, m_36, m_37, m_38, m_39, m_40, m_41, m_42, m_43, m_44, m_45, m_46, m_47, m_48, m_49, m_50, m_51, m_52, m_53, m_54, m_55, m_56, m_57, m_58, m_59])), (w0, .inl (K 0, 5500, .inl fw)), (u0, .inl (K 0, 558, .inl f_600)), (s0, .inl (K 0, 16, .inl fs))]) (hS : va_S A s.heap H locs) (ls : Array Slot) (hl : lv_has ls 3 [(2, .int v_599), (0, .ref m0), (1, .int x)]), W p l e ({ frames := 1, cells := 0, slots := 0, locals := 22 }) s m (([.ref m0, .int x] : List Value).toArray) below meth c H locs 0 0 Q (F0 m 11 ls []) := by
      intro nn_
      induction nn_ with
      | zero =>
        intro v_599 f_600 hv_599 hf_600_0 hn H locs hP hD hS ls hl
        exact absurd hn (Nat.not_lt_zero _)
      | succ nn_ ih_614 =>
        intro v_599 f_600 hv_599 hf_600_0 hn H locs hP hD hS ls hl
        refine lv_iload_n hx hb dX12_remember_11 rfl (lv_at hl 0 rfl) ?_
        refine lv_sipush (v := 465) hx hb dX12_remember_12 (by decide) ?_
        refine lv_icmp_ge (tgt := 39) hx hb dX12_remember_15 (by decide) (fun c_615 => ?_) (fun c_615 => ?_)
        · have c_615i := i_le (x := 465) (y := v_599.toInt) rfl rfl c_615
          refine lv_iconst (v := 0) hx hb dX12_remember_39 (by decide) ?_
          refine lv_istore_n (lv' := [(2, .int 0), (0, .ref m0), (1, .int x)]) hx hb dX12_remember_40 rfl hl (by decide) rfl (fun ls hl => ?_)
          have lp_655 : ∀ (nn_ : Nat) (v_641 : Int32) (f_642 : Nat → Int32) (hv_641 : 0 ≤ v_641.toInt ∧ v_641.toInt ≤ 15) (hf_642_0 : Rg 16 0 3 f_642) (hn : (16 - v_641.toInt : Int).toNat < nn_) (H : Heap) (locs : List Loc) (hP : va_P D vwCl [(m0, .inr (12, [m_0, m_1, m_2, .ref w0, m_4, m_5, .ref u0, .ref s0, .int nu, m_9, m_10, m_11, m_12, m_13, m_14, m_15, m_16, m_17, m_18, m_19, m_20, m_21, m_22, m_23, m_24, m_25, m_26, m_27, m_28, m_29, m_30, m_31, m_32, m_33, m_34, m_35, m_36, m_37, m_38, m_39, m_40, m_41, m_42, m_43, m_44, m_45, m_46, m_47, m_48, m_49, m_50, m_51, m_52, m_53, m_54, m_55, m_56, m_57, m_58, m_59])), (w0, .inl (K 0, 5500, .inl fw)), (u0, .inl (K 0, 558, .inl f_600)), (s0, .inl (K 0, 16, .inl f_642))] H) (hD : va_D A [(m0, .inr (12, [m_0, m_1, m_2, .ref w0, m_4, m_5, .ref u0, .ref s0, .int nu, m_9, m_10, m_11, m_12, m_13, m_14, m_15, m_16, m_17, m_18, m_19, m_20, m_21, m_22, m_23, m_24, m_25, m_26, m_27, m_28, m_29, m_30, m_31, m_32, m_33, m_34, m_35, m_36, m_37, m_38, m_39, m_40, m_41, m_42, m_43, m_44, m_45, m_46, m_47, m_48, m_49, m_50, m_51, m_52, m_53, m_54, m_55, m_56, m_57, m_58, m_59])), (w0, .inl (K 0, 5500, .inl fw)), (u0, .inl (K 0, 558, .inl f_600)), (s0, .inl (K 0, 16, .inl f_642))]) (hS : va_S A s.heap H locs) (ls : Array Slot) (hl : lv_has ls 3 [(2, .int v_641), (0, .ref m0), (1, .int x)]), W p l e ({ frames := 1, cells := 0, slots := 0, locals := 22 }) s m (([.ref m0, .int x] : List Value).toArray) below meth c H locs 0 0 Q (F0 m 41 ls []) := by
            intro nn_
            induction nn_ with
            | zero =>
              intro v_641 f_642 hv_641 hf_642_0 hn H locs hP hD hS ls hl
              exact absurd hn (Nat.not_lt_zero _)
            | succ nn_ ih_656 =>
              intro v_641 f_642 hv_641 hf_642_0 hn H locs hP hD hS ls hl
              refine lv_iload_n hx hb dX12_remember_41 rfl (lv_at hl 0 rfl) ?_
              refine lv_bipush (v := 15) hx hb dX12_remember_42 (by decide) ?_
              refine lv_icmp_ge (tgt := 67) hx hb dX12_remember_44 (by decide) (fun c_657 => ?_) (fun c_657 => ?_)
              · have c_657i := i_le (x := 15) (y := v_641.toInt) rfl rfl c_657
                refine lv_aload_n hx hb dX12_remember_67 rfl (lv_at hl 1 rfl) ?_
                refine lv_dup hx hb dX12_remember_68 rfl ?_
                refine va_get (ci := 12) (v := .int nu) (C := RX12) (T := TX12) (N := 60) hx hb hts hw12 hown hK hP 0 rfl rfl 8 (by decide) (hts (.fieldLink RX12 164 "SmokeTuneModel" "nUndo" "I") (List.mem_cons_of_mem _ (List.mem_append_left _ (List.mem_of_getElem? (i := 0) rfl)))) (fun _ h9 => h9) rfl dX12_remember_69 ?_
                refine lv_iconst (v := 1) hx hb dX12_remember_72 (by decide) ?_
                refine lv_isub hx hb dX12_remember_73 ?_
                refine lv_topi (fun x_658 ex_658 => ?_)
                have hx_658 : x_658.toInt = (nu.toInt - 1) := by rw [ex_658]; exact i_sub rfl (show (1 : Int32).toInt = 1 from rfl) (by omega)
                refine va_put (ci := 12) (v := .int x_658) (ty := .int) (C := RX12) (T := TX12) (N := 60) hx hb hts hw12 tyX12 tyX12_ok nmX12 hown hK hP hD hS 0 rfl rfl 8 (by decide) (hts (.fieldLink RX12 164 "SmokeTuneModel" "nUndo" "I") (List.mem_cons_of_mem _ (List.mem_append_left _ (List.mem_of_getElem? (i := 0) rfl)))) (fun _ h9 => h9) rfl (by decide +kernel) (by first | rfl | decide) (by first | rfl | decide) (Nat.le_of_ble_eq_true rfl) dX12_remember_74 (fun H locs hP hD hS => ?_)
                have hP : va_P D vwCl [(m0, .inr (12, [m_0, m_1, m_2, .ref w0, m_4, m_5, .ref u0, .ref s0, .int x_658, m_9, m_10, m_11, m_12, m_13, m_14, m_15, m_16, m_17, m_18, m_19, m_20, m_21, m_22, m_23, m_24, m_25, m_26, m_27, m_28, m_29, m_30, m_31, m_32, m_33, m_34, m_35, m_36, m_37, m_38, m_39, m_40, m_41, m_42, m_43, m_44, m_45, m_46, m_47, m_48, m_49, m_50, m_51, m_52, m_53, m_54, m_55, m_56, m_57, m_58, m_59])), (w0, .inl (K 0, 5500, .inl fw)), (u0, .inl (K 0, 558, .inl f_600)), (s0, .inl (K 0, 16, .inl f_642))] H := hP
                have hD : va_D A [(m0, .inr (12, [m_0, m_1, m_2, .ref w0, m_4, m_5, .ref u0, .ref s0, .int x_658, m_9, m_10, m_11, m_12, m_13, m_14, m_15, m_16, m_17, m_18, m_19, m_20, m_21, m_22, m_23, m_24, m_25, m_26, m_27, m_28, m_29, m_30, m_31, m_32, m_33, m_34, m_35, m_36, m_37, m_38, m_39, m_40, m_41, m_42, m_43, m_44, m_45, m_46, m_47, m_48, m_49, m_50, m_51, m_52, m_53, m_54, m_55, m_56, m_57, m_58, m_59])), (w0, .inl (K 0, 5500, .inl fw)), (u0, .inl (K 0, 558, .inl f_600)), (s0, .inl (K 0, 16, .inl f_642))] := hD
                exact j_567 x_658 f_600 f_642 (by rw [hx_658]; omega) hf_600_0 hf_642_0 _ _ hP hD hS ls (lv_sub hl [1, 2] rfl)
              · have c_657i := i_nle (x := 15) (y := v_641.toInt) rfl rfl c_657
                refine lv_aload_n hx hb dX12_remember_47 rfl (lv_at hl 1 rfl) ?_
                refine va_get (ci := 12) (v := .ref s0) (C := RX12) (T := TX12) (N := 60) hx hb hts hw12 hown hK hP 0 rfl rfl 7 (by decide) (hts (.fieldLink RX12 26 "SmokeTuneModel" "sorts" "[I") (List.mem_cons_of_mem _ (List.mem_append_left _ (List.mem_of_getElem? (i := 2) rfl)))) (fun _ h9 => h9) rfl dX12_remember_48 ?_
                refine lv_iload_n hx hb dX12_remember_51 rfl (lv_at hl 0 rfl) ?_
                refine lv_aload_n hx hb dX12_remember_52 rfl (lv_at hl 1 rfl) ?_
                refine va_get (ci := 12) (v := .ref s0) (C := RX12) (T := TX12) (N := 60) hx hb hts hw12 hown hK hP 0 rfl rfl 7 (by decide) (hts (.fieldLink RX12 26 "SmokeTuneModel" "sorts" "[I") (List.mem_cons_of_mem _ (List.mem_append_left _ (List.mem_of_getElem? (i := 2) rfl)))) (fun _ h9 => h9) rfl dX12_remember_53 ?_
                refine lv_iload_n hx hb dX12_remember_56 rfl (lv_at hl 0 rfl) ?_
                refine lv_iconst (v := 1) hx hb dX12_remember_57 (by decide) ?_
                refine lv_iadd hx hb dX12_remember_58 ?_
                refine lv_topi (fun x_659 ex_659 => ?_)
                have hx_659 : x_659.toInt = (v_641.toInt + 1) := by rw [ex_659]; exact i_add rfl (show (1 : Int32).toInt = 1 from rfl) (by omega)
                refine va_iald hx hb hK hP 3 0 rfl rfl (i_in hx_659 (by omega)) dX12_remember_59 ?_
                refine lv_topi (fun x_660 ex_660 => ?_)
                have hx_660 := Rg.at hf_642_0 hx_659 (show 0 ≤ (v_641.toInt + 1) ∧ (v_641.toInt + 1) < _ by omega)
                rw [← ex_660] at hx_660
                refine va_iast hx hb hK hP hD hS 3 0 rfl rfl (i_in rfl (by omega)) dX12_remember_60 (fun H locs hP hD hS => ?_)
                generalize hf_661 : (upd f_642 (v_641 : Int32).toNatClampNeg x_660) = f_661 at hP hD
                have hf_661_0 : Rg 16 0 3 f_661 := by rw [← hf_661]; exact Rg.upd hf_642_0 rfl (by omega)
                have hP : va_P D vwCl [(m0, .inr (12, [m_0, m_1, m_2, .ref w0, m_4, m_5, .ref u0, .ref s0, .int nu, m_9, m_10, m_11, m_12, m_13, m_14, m_15, m_16, m_17, m_18, m_19, m_20, m_21, m_22, m_23, m_24, m_25, m_26, m_27, m_28, m_29, m_30, m_31, m_32, m_33, m_34, m_35, m_36, m_37, m_38, m_39, m_40, m_41, m_42, m_43, m_44, m_45, m_46, m_47, m_48, m_49, m_50, m_51, m_52, m_53, m_54, m_55, m_56, m_57, m_58, m_59])), (w0, .inl (K 0, 5500, .inl fw)), (u0, .inl (K 0, 558, .inl f_600)), (s0, .inl (K 0, 16, .inl f_661))] H := hP
                have hD : va_D A [(m0, .inr (12, [m_0, m_1, m_2, .ref w0, m_4, m_5, .ref u0, .ref s0, .int nu, m_9, m_10, m_11, m_12, m_13, m_14, m_15, m_16, m_17, m_18, m_19, m_20, m_21, m_22, m_23, m_24, m_25, m_26, m_27, m_28, m_29, m_30, m_31, m_32, m_33, m_34, m_35, m_36, m_37, m_38, m_39, m_40, m_41, m_42, m_43, m_44, m_45, m_46, m_47, m_48, m_49, m_50, m_51, m_52, m_53, m_54, m_55, m_56, m_57, m_58, m_59])), (w0, .inl (K 0, 5500, .inl fw)), (u0, .inl (K 0, 558, .inl f_600)), (s0, .inl (K 0, 16, .inl f_661))] := hD
                obtain ⟨x_662, ex_662⟩ : ∃ y : Int32, y = v_641 + Int32.ofInt 1 := ⟨_, rfl⟩
                have hx_662 : x_662.toInt = (v_641.toInt + 1) := by rw [ex_662]; exact i_add rfl (show (Int32.ofInt 1).toInt = 1 from rfl) (by omega)
                refine lv_iinc (v := x_662) (lv' := [(2, .int x_662), (0, .ref m0), (1, .int x)]) hx hb dX12_remember_61 hl (k := 0) rfl (by rw [ex_662]) (by decide) rfl (fun ls hl => ?_)
                refine lv_goto (tgt := 41) hx hb dX12_remember_64 (by decide) ?_
                exact ih_656 x_662 f_661 (by rw [hx_662]; omega) hf_661_0 (by omega) _ _ hP hD hS ls (lv_sub hl [0, 1, 2] rfl)
          exact lp_655 ((16 - (0 : Int32).toInt : Int).toNat + 1) 0 fs (by decide) zfs (Nat.lt_succ_self _) _ _ hP hD hS ls (lv_sub hl [0, 1, 2] rfl)
        · have c_615i := i_nle (x := 465) (y := v_599.toInt) rfl rfl c_615
          refine lv_aload_n hx hb dX12_remember_18 rfl (lv_at hl 1 rfl) ?_
          refine va_get (ci := 12) (v := .ref u0) (C := RX12) (T := TX12) (N := 60) hx hb hts hw12 hown hK hP 0 rfl rfl 6 (by decide) (hts (.fieldLink RX12 23 "SmokeTuneModel" "undos" "[I") (List.mem_cons_of_mem _ (List.mem_append_left _ (List.mem_of_getElem? (i := 1) rfl)))) (fun _ h9 => h9) rfl dX12_remember_19 ?_
          refine lv_iload_n hx hb dX12_remember_22 rfl (lv_at hl 0 rfl) ?_
          refine lv_aload_n hx hb dX12_remember_23 rfl (lv_at hl 1 rfl) ?_
          refine va_get (ci := 12) (v := .ref u0) (C := RX12) (T := TX12) (N := 60) hx hb hts hw12 hown hK hP 0 rfl rfl 6 (by decide) (hts (.fieldLink RX12 23 "SmokeTuneModel" "undos" "[I") (List.mem_cons_of_mem _ (List.mem_append_left _ (List.mem_of_getElem? (i := 1) rfl)))) (fun _ h9 => h9) rfl dX12_remember_24 ?_
          refine lv_iload_n hx hb dX12_remember_27 rfl (lv_at hl 0 rfl) ?_
          refine lv_bipush (v := 31) hx hb dX12_remember_28 (by decide) ?_
          refine lv_iadd hx hb dX12_remember_30 ?_
          refine lv_topi (fun x_663 ex_663 => ?_)
          have hx_663 : x_663.toInt = (v_599.toInt + 31) := by rw [ex_663]; exact i_add rfl (show (31 : Int32).toInt = 31 from rfl) (by omega)
          refine va_iald hx hb hK hP 2 0 rfl rfl (i_in hx_663 (by omega)) dX12_remember_31 ?_
          refine lv_topi (fun x_664 ex_664 => ?_)
          have px_664 := Pu.at hf_600_0 hx_663 (show 0 ≤ (v_599.toInt + 31) ∧ (v_599.toInt + 31) < _ by omega)
          rw [← ex_664] at px_664
          refine va_iast hx hb hK hP hD hS 2 0 rfl rfl (i_in rfl (by omega)) dX12_remember_32 (fun H locs hP hD hS => ?_)
          generalize hf_665 : (upd f_600 (v_599 : Int32).toNatClampNeg x_664) = f_665 at hP hD
          have hf_665_0 : Pu 558 f_665 := by rw [← hf_665]; exact Pu.upd hf_600_0 rfl (by omega) rfl (PR.eqi px_664 (by omega) (by omega))
          have hP : va_P D vwCl [(m0, .inr (12, [m_0, m_1, m_2, .ref w0, m_4, m_5, .ref u0, .ref s0, .int nu, m_9, m_10, m_11, m_12, m_13, m_14, m_15, m_16, m_17, m_18, m_19, m_20, m_21, m_22, m_23, m_24, m_25, m_26, m_27, m_28, m_29, m_30, m_31, m_32, m_33, m_34, m_35, m_36, m_37, m_38, m_39, m_40, m_41, m_42, m_43, m_44, m_45, m_46, m_47, m_48, m_49, m_50, m_51, m_52, m_53, m_54, m_55, m_56, m_57, m_58, m_59])), (w0, .inl (K 0, 5500, .inl fw)), (u0, .inl (K 0, 558, .inl f_665)), (s0, .inl (K 0, 16, .inl fs))] H := hP
          have hD : va_D A [(m0, .inr (12, [m_0, m_1, m_2, .ref w0, m_4, m_5, .ref u0, .ref s0, .int nu, m_9, m_10, m_11, m_12, m_13, m_14, m_15, m_16, m_17, m_18, m_19, m_20, m_21, m_22, m_23, m_24, m_25, m_26, m_27, m_28, m_29, m_30, m_31, m_32, m_33, m_34, m_35, m_36, m_37, m_38, m_39, m_40, m_41, m_42, m_43, m_44, m_45, m_46, m_47, m_48, m_49, m_50, m_51, m_52, m_53, m_54, m_55, m_56, m_57, m_58, m_59])), (w0, .inl (K 0, 5500, .inl fw)), (u0, .inl (K 0, 558, .inl f_665)), (s0, .inl (K 0, 16, .inl fs))] := hD
          obtain ⟨x_666, ex_666⟩ : ∃ y : Int32, y = v_599 + Int32.ofInt 1 := ⟨_, rfl⟩
          have hx_666 : x_666.toInt = (v_599.toInt + 1) := by rw [ex_666]; exact i_add rfl (show (Int32.ofInt 1).toInt = 1 from rfl) (by omega)
          refine lv_iinc (v := x_666) (lv' := [(2, .int x_666), (0, .ref m0), (1, .int x)]) hx hb dX12_remember_33 hl (k := 0) rfl (by rw [ex_666]) (by decide) rfl (fun ls hl => ?_)
          refine lv_goto (tgt := 11) hx hb dX12_remember_36 (by decide) ?_
          exact ih_614 x_666 f_665 (by rw [hx_666]; omega) hf_665_0 (by omega) _ _ hP hD hS ls (lv_sub hl [0, 1, 2] rfl)
    exact lp_613 ((466 - (0 : Int32).toInt : Int).toNat + 1) 0 fu (by decide) zfu (Nat.lt_succ_self _) _ _ hP hD hS ls (lv_sub hl [0, 1, 2] rfl)
set_option maxHeartbeats 4000000 in
set_option maxRecDepth 100000 in
theorem v_undo (l : Launch) (D : va_G) (K : Nat → ClassId) (m0 : Nat) (thr : Int32) (sta : Int32) (r0 : Nat) (w0 : Nat) (m_4 : Value) (m_5 : Value) (u0 : Nat) (s0 : Nat) (nu : Int32) (m_9 : Value) (m_10 : Value) (m_11 : Value) (m_12 : Value) (m_13 : Value) (m_14 : Value) (m_15 : Value) (m_16 : Value) (m_17 : Value) (m_18 : Value) (m_19 : Value) (m_20 : Value) (m_21 : Value) (m_22 : Value) (m_23 : Value) (m_24 : Value) (m_25 : Value) (m_26 : Value) (m_27 : Value) (m_28 : Value) (m_29 : Value) (m_30 : Value) (m_31 : Value) (m_32 : Value) (m_33 : Value) (m_34 : Value) (m_35 : Value) (m_36 : Value) (m_37 : Value) (m_38 : Value) (m_39 : Value) (m_40 : Value) (m_41 : Value) (m_42 : Value) (m_43 : Value) (m_44 : Value) (m_45 : Value) (m_46 : Value) (m_47 : Value) (m_48 : Value) (m_49 : Value) (m_50 : Value) (m_51 : Value) (m_52 : Value) (m_53 : Value) (m_54 : Value) (m_55 : Value) (m_56 : Value) (m_57 : Value) (m_58 : Value) (m_59 : Value) (fw : Nat → Int32) (fu : Nat → Int32) (fs : Nat → Int32) (frf : Nat → Int32) (sz : Nat) (znu : 0 ≤ nu.toInt ∧ nu.toInt ≤ 16) (zfw : RwOK fw) (zfu : Pu 558 fu) (zfs : Rg 16 0 3 fs) : Met l yX12_undo wsX12_undo ({ frames := 1, cells := 0, slots := 0, locals := 22 }) (va_Pc [.ref m0] (Pre D K [(m0, .inr (12, [.int thr, .int sta, .ref r0, .ref w0, m_4, m_5, .ref u0, .ref s0, .int nu, m_9, m_10, m_11, m_12, m_13, m_14, m_15, m_16, m_17, m_18, m_19, m_20, m_21, m_22, m_23, m_24, m_25, m_26, m_27, m_28, m_29, m_30, m_31, m_32, m_33, m_34, m_35, m_36, m_37, m_38, m_39, m_40, m_41, m_42, m_43, m_44, m_45, m_46, m_47, m_48, m_49, m_50, m_51, m_52, m_53, m_54, m_55, m_56, m_57, m_58, m_59])), (w0, .inl (K 0, 5500, .inl fw)), (u0, .inl (K 0, 558, .inl fu)), (s0, .inl (K 0, 16, .inl fs)), (r0, .inl (K 0, 7, .inl frf))] sz)) (va_Qi (S := Su) (fun (r : Int32) (u : Su) => ((-6) ≤ r.toInt) ∧ ((-6) ≤ (u.2.2.2.1 0).toInt ∧ (u.2.2.2.1 0).toInt ≤ 0) ∧ (0 ≤ (u.2.2.2.1 1).toInt ∧ (u.2.2.2.1 1).toInt ≤ 15) ∧ (RwOK (u.2.1 0)) ∧ True) (fun u t => Wd D (va_A [(m0, .inr (12, [.int thr, .int sta, .ref r0, .ref w0, m_4, m_5, .ref u0, .ref s0, .int nu, m_9, m_10, m_11, m_12, m_13, m_14, m_15, m_16, m_17, m_18, m_19, m_20, m_21, m_22, m_23, m_24, m_25, m_26, m_27, m_28, m_29, m_30, m_31, m_32, m_33, m_34, m_35, m_36, m_37, m_38, m_39, m_40, m_41, m_42, m_43, m_44, m_45, m_46, m_47, m_48, m_49, m_50, m_51, m_52, m_53, m_54, m_55, m_56, m_57, m_58, m_59])), (w0, .inl (K 0, 5500, .inl fw)), (u0, .inl (K 0, 558, .inl fu)), (s0, .inl (K 0, 16, .inl fs)), (r0, .inl (K 0, 7, .inl frf))] sz) ((fun u => [(m0, .inr (12, [.int 0, .int (u.2.2.2.1 0), .ref r0, .ref w0, m_4, m_5, .ref u0, .ref s0, .int (u.2.2.2.1 1), m_9, m_10, m_11, m_12, m_13, m_14, m_15, m_16, m_17, m_18, m_19, m_20, m_21, m_22, m_23, m_24, m_25, m_26, m_27, m_28, m_29, m_30, m_31, m_32, m_33, m_34, m_35, m_36, m_37, m_38, m_39, m_40, m_41, m_42, m_43, m_44, m_45, m_46, m_47, m_48, m_49, m_50, m_51, m_52, m_53, m_54, m_55, m_56, m_57, m_58, m_59])), (w0, .inl (K 0, 5500, .inl (u.2.1 0))), (u0, .inl (K 0, 558, .inl fu)), (s0, .inl (K 0, 16, .inl fs)), (r0, .inl (K 0, 7, .inl (u.2.1 1)))]) u) t) (va_A [(m0, .inr (12, [.int thr, .int sta, .ref r0, .ref w0, m_4, m_5, .ref u0, .ref s0, .int nu, m_9, m_10, m_11, m_12, m_13, m_14, m_15, m_16, m_17, m_18, m_19, m_20, m_21, m_22, m_23, m_24, m_25, m_26, m_27, m_28, m_29, m_30, m_31, m_32, m_33, m_34, m_35, m_36, m_37, m_38, m_39, m_40, m_41, m_42, m_43, m_44, m_45, m_46, m_47, m_48, m_49, m_50, m_51, m_52, m_53, m_54, m_55, m_56, m_57, m_58, m_59])), (w0, .inl (K 0, 5500, .inl fw)), (u0, .inl (K 0, 558, .inl fu)), (s0, .inl (K 0, 16, .inl fs)), (r0, .inl (K 0, 7, .inl frf))] sz)) 0 0 (va_A [(m0, .inr (12, [.int thr, .int sta, .ref r0, .ref w0, m_4, m_5, .ref u0, .ref s0, .int nu, m_9, m_10, m_11, m_12, m_13, m_14, m_15, m_16, m_17, m_18, m_19, m_20, m_21, m_22, m_23, m_24, m_25, m_26, m_27, m_28, m_29, m_30, m_31, m_32, m_33, m_34, m_35, m_36, m_37, m_38, m_39, m_40, m_41, m_42, m_43, m_44, m_45, m_46, m_47, m_48, m_49, m_50, m_51, m_52, m_53, m_54, m_55, m_56, m_57, m_58, m_59])), (w0, .inl (K 0, 5500, .inl fw)), (u0, .inl (K 0, 558, .inl fu)), (s0, .inl (K 0, 16, .inl fs)), (r0, .inl (K 0, 7, .inl frf))] sz) := by
  refine Met.ofW (cc := cX12_undo) (maxL := 1) (ret := (some .int)) (by decide) rfl ?_
  intro p e s m args below meth c s₁ B hml hv
  obtain ⟨rfl, hsz, hP, hK, hD0, hN⟩ := hv
  have hx := B.exec
  have hb := B.bytes
  have hr := B.returns
  have hts := atoms_spec (ws := wsX12_undo) B.pre
  have hown : s.vm.findClass RX12 = some m.cls := findClass_of_methodNamed B.named
  have hlocks := B.notSynchronized
  subst hsz
  have hD := hD0.self (sz := s.heap.size)
  generalize hAe : va_A [(m0, .inr (12, [.int thr, .int sta, .ref r0, .ref w0, m_4, m_5, .ref u0, .ref s0, .int nu, m_9, m_10, m_11, m_12, m_13, m_14, m_15, m_16, m_17, m_18, m_19, m_20, m_21, m_22, m_23, m_24, m_25, m_26, m_27, m_28, m_29, m_30, m_31, m_32, m_33, m_34, m_35, m_36, m_37, m_38, m_39, m_40, m_41, m_42, m_43, m_44, m_45, m_46, m_47, m_48, m_49, m_50, m_51, m_52, m_53, m_54, m_55, m_56, m_57, m_58, m_59])), (w0, .inl (K 0, 5500, .inl fw)), (u0, .inl (K 0, 558, .inl fu)), (s0, .inl (K 0, 16, .inl fs)), (r0, .inl (K 0, 7, .inl frf))] s.heap.size = A at hD ⊢
  have hA : ∀ q : Nat, s.heap.size ≤ q → A q := fun q h => by rw [← hAe]; exact Or.inr h
  have hS : va_S A s.heap s.heap [] := va_S.rf
  have hP : va_P D vwCl [(m0, .inr (12, [.int thr, .int sta, .ref r0, .ref w0, m_4, m_5, .ref u0, .ref s0, .int nu, m_9, m_10, m_11, m_12, m_13, m_14, m_15, m_16, m_17, m_18, m_19, m_20, m_21, m_22, m_23, m_24, m_25, m_26, m_27, m_28, m_29, m_30, m_31, m_32, m_33, m_34, m_35, m_36, m_37, m_38, m_39, m_40, m_41, m_42, m_43, m_44, m_45, m_46, m_47, m_48, m_49, m_50, m_51, m_52, m_53, m_54, m_55, m_56, m_57, m_58, m_59])), (w0, .inl (K 0, 5500, .inl fw)), (u0, .inl (K 0, 558, .inl fu)), (s0, .inl (K 0, 16, .inl fs)), (r0, .inl (K 0, 7, .inl frf))] s.heap := hP
  have hl := lv_entry [.ref m0] (n := 1) (Nat.le_of_ble_eq_true rfl)
  rw [lg_entry_eq]
  generalize (lg_sl [.ref m0] ++ List.replicate (1 - (lg_sl [.ref m0]).length) Slot.unset).toArray = ls at hl ⊢
  have hl : lv_has ls 1 [(0, .ref m0)] := hl
  have hw12 : ∀ w ∈ wsX120, w ∈ wsX12_undo := fun w h => (List.mem_cons_of_mem _ (List.mem_append_right _ h))
  generalize hQ : MQ below _ _ s _ _ _ = Q
  refine lv_aload_n hx hb dX12_undo_0 rfl (lv_at hl 0 rfl) ?_
  refine lv_iconst (v := 0) hx hb dX12_undo_1 (by decide) ?_
  refine va_put (ci := 12) (v := .int 0) (ty := .int) (C := RX12) (T := TX12) (N := 60) hx hb hts hw12 tyX12 tyX12_ok nmX12 hown hK hP hD hS 0 rfl rfl 0 (by decide) (hts (.fieldLink RX12 158 "SmokeTuneModel" "thrown" "I") (List.mem_cons_of_mem _ (List.mem_append_left _ (List.mem_of_getElem? (i := 0) rfl)))) (fun _ h9 => h9) rfl (by decide +kernel) (by first | rfl | decide) (by first | rfl | decide) (Nat.le_of_ble_eq_true rfl) dX12_undo_2 (fun H locs hP hD hS => ?_)
  have hP : va_P D vwCl [(m0, .inr (12, [.int 0, .int sta, .ref r0, .ref w0, m_4, m_5, .ref u0, .ref s0, .int nu, m_9, m_10, m_11, m_12, m_13, m_14, m_15, m_16, m_17, m_18, m_19, m_20, m_21, m_22, m_23, m_24, m_25, m_26, m_27, m_28, m_29, m_30, m_31, m_32, m_33, m_34, m_35, m_36, m_37, m_38, m_39, m_40, m_41, m_42, m_43, m_44, m_45, m_46, m_47, m_48, m_49, m_50, m_51, m_52, m_53, m_54, m_55, m_56, m_57, m_58, m_59])), (w0, .inl (K 0, 5500, .inl fw)), (u0, .inl (K 0, 558, .inl fu)), (s0, .inl (K 0, 16, .inl fs)), (r0, .inl (K 0, 7, .inl frf))] H := hP
  have hD : va_D A [(m0, .inr (12, [.int 0, .int sta, .ref r0, .ref w0, m_4, m_5, .ref u0, .ref s0, .int nu, m_9, m_10, m_11, m_12, m_13, m_14, m_15, m_16, m_17, m_18, m_19, m_20, m_21, m_22, m_23, m_24, m_25, m_26, m_27, m_28, m_29, m_30, m_31, m_32, m_33, m_34, m_35, m_36, m_37, m_38, m_39, m_40, m_41, m_42, m_43, m_44, m_45, m_46, m_47, m_48, m_49, m_50, m_51, m_52, m_53, m_54, m_55, m_56, m_57, m_58, m_59])), (w0, .inl (K 0, 5500, .inl fw)), (u0, .inl (K 0, 558, .inl fu)), (s0, .inl (K 0, 16, .inl fs)), (r0, .inl (K 0, 7, .inl frf))] := hD
  refine lv_aload_n hx hb dX12_undo_5 rfl (lv_at hl 0 rfl) ?_
  refine va_get (ci := 12) (v := .int nu) (C := RX12) (T := TX12) (N := 60) hx hb hts hw12 hown hK hP 0 rfl rfl 8 (by decide) (hts (.fieldLink RX12 164 "SmokeTuneModel" "nUndo" "I") (List.mem_cons_of_mem _ (List.mem_append_left _ (List.mem_of_getElem? (i := 1) rfl)))) (fun _ h9 => h9) rfl dX12_undo_6 ?_
  refine lv_if_ne (tgt := 19) hx hb dX12_undo_9 (by decide) (fun c_89 => ?_) (fun c_89 => ?_)
  · have c_89i := i_ne (x := nu.toInt) (y := 0) rfl rfl c_89
    refine lv_aload_n hx hb dX12_undo_19 rfl (lv_at hl 0 rfl) ?_
    refine lv_dup hx hb dX12_undo_20 rfl ?_
    refine va_get (ci := 12) (v := .int nu) (C := RX12) (T := TX12) (N := 60) hx hb hts hw12 hown hK hP 0 rfl rfl 8 (by decide) (hts (.fieldLink RX12 164 "SmokeTuneModel" "nUndo" "I") (List.mem_cons_of_mem _ (List.mem_append_left _ (List.mem_of_getElem? (i := 1) rfl)))) (fun _ h9 => h9) rfl dX12_undo_21 ?_
    refine lv_iconst (v := 1) hx hb dX12_undo_24 (by decide) ?_
    refine lv_isub hx hb dX12_undo_25 ?_
    refine lv_topi (fun x_90 ex_90 => ?_)
    have hx_90 : x_90.toInt = (nu.toInt - 1) := by rw [ex_90]; exact i_sub rfl (show (1 : Int32).toInt = 1 from rfl) (by omega)
    refine va_put (ci := 12) (v := .int x_90) (ty := .int) (C := RX12) (T := TX12) (N := 60) hx hb hts hw12 tyX12 tyX12_ok nmX12 hown hK hP hD hS 0 rfl rfl 8 (by decide) (hts (.fieldLink RX12 164 "SmokeTuneModel" "nUndo" "I") (List.mem_cons_of_mem _ (List.mem_append_left _ (List.mem_of_getElem? (i := 1) rfl)))) (fun _ h9 => h9) rfl (by decide +kernel) (by first | rfl | decide) (by first | rfl | decide) (Nat.le_of_ble_eq_true rfl) dX12_undo_26 (fun H locs hP hD hS => ?_)
    have hP : va_P D vwCl [(m0, .inr (12, [.int 0, .int sta, .ref r0, .ref w0, m_4, m_5, .ref u0, .ref s0, .int x_90, m_9, m_10, m_11, m_12, m_13, m_14, m_15, m_16, m_17, m_18, m_19, m_20, m_21, m_22, m_23, m_24, m_25, m_26, m_27, m_28, m_29, m_30, m_31, m_32, m_33, m_34, m_35, m_36, m_37, m_38, m_39, m_40, m_41, m_42, m_43, m_44, m_45, m_46, m_47, m_48, m_49, m_50, m_51, m_52, m_53, m_54, m_55, m_56, m_57, m_58, m_59])), (w0, .inl (K 0, 5500, .inl fw)), (u0, .inl (K 0, 558, .inl fu)), (s0, .inl (K 0, 16, .inl fs)), (r0, .inl (K 0, 7, .inl frf))] H := hP
    have hD : va_D A [(m0, .inr (12, [.int 0, .int sta, .ref r0, .ref w0, m_4, m_5, .ref u0, .ref s0, .int x_90, m_9, m_10, m_11, m_12, m_13, m_14, m_15, m_16, m_17, m_18, m_19, m_20, m_21, m_22, m_23, m_24, m_25, m_26, m_27, m_28, m_29, m_30, m_31, m_32, m_33, m_34, m_35, m_36, m_37, m_38, m_39, m_40, m_41, m_42, m_43, m_44, m_45, m_46, m_47, m_48, m_49, m_50, m_51, m_52, m_53, m_54, m_55, m_56, m_57, m_58, m_59])), (w0, .inl (K 0, 5500, .inl fw)), (u0, .inl (K 0, 558, .inl fu)), (s0, .inl (K 0, 16, .inl fs)), (r0, .inl (K 0, 7, .inl frf))] := hD
    refine lv_aload_n hx hb dX12_undo_29 rfl (lv_at hl 0 rfl) ?_
    refine lv_aload_n hx hb dX12_undo_30 rfl (lv_at hl 0 rfl) ?_
    refine va_get (ci := 12) (v := .int x_90) (C := RX12) (T := TX12) (N := 60) hx hb hts hw12 hown hK hP 0 rfl rfl 8 (by decide) (hts (.fieldLink RX12 164 "SmokeTuneModel" "nUndo" "I") (List.mem_cons_of_mem _ (List.mem_append_left _ (List.mem_of_getElem? (i := 1) rfl)))) (fun _ h9 => h9) rfl dX12_undo_31 ?_
    refine kcv (S := Su) (wr := [(s0, .inl (K 0, 16, .inl fs)), (r0, .inl (K 0, 7, .inl frf))]) (va_runV (As := [.int x_90]) (rest := []) ⟨hx, hb, hml, hown, hts⟩ (v_putBack l D K m0 x_90 (.int 0) (.int sta) (.ref r0) w0 m_4 m_5 u0 (.ref s0) (.int x_90) m_9 m_10 m_11 m_12 m_13 m_14 m_15 m_16 m_17 m_18 m_19 m_20 m_21 m_22 m_23 m_24 m_25 m_26 m_27 m_28 m_29 m_30 m_31 m_32 m_33 m_34 m_35 m_36 m_37 m_38 m_39 m_40 m_41 m_42 m_43 m_44 m_45 m_46 m_47 m_48 m_49 m_50 m_51 m_52 m_53 m_54 m_55 m_56 m_57 m_58 m_59 fw fu H.size (by first | omega | decide) zfw zfu) (cwV 1 hts gX12_undo_X12_putBack rfl rfl rfl (by decide +kernel) ⟨Nat.le_of_ble_eq_true rfl, Nat.le_of_ble_eq_true rfl⟩) (mkV hK hN (hP.sub [0, 1, 2] rfl) (hD.sub [0, 1, 2] (by decide) rfl) (ci := 12) (q0 := 0) rfl rfl) rfl rfl hl.1 rfl (lv_room (Nat.le_of_ble_eq_true rfl)) dX12_undo_34 ⟨Nat.le_of_ble_eq_true rfl, Nat.le_of_ble_eq_true rfl⟩) hP hD hS hA [0, 1, 2] [3, 4] rfl rfl (by decide) (by decide) (fun u_92 H locs hw hP hD hS => ?_)
    have hP : va_P D vwCl [(s0, .inl (K 0, 16, .inl fs)), (r0, .inl (K 0, 7, .inl frf)), (m0, .inr (12, [.int 0, .int sta, .ref r0, .ref w0, m_4, m_5, .ref u0, .ref s0, .int x_90, m_9, m_10, m_11, m_12, m_13, m_14, m_15, m_16, m_17, m_18, m_19, m_20, m_21, m_22, m_23, m_24, m_25, m_26, m_27, m_28, m_29, m_30, m_31, m_32, m_33, m_34, m_35, m_36, m_37, m_38, m_39, m_40, m_41, m_42, m_43, m_44, m_45, m_46, m_47, m_48, m_49, m_50, m_51, m_52, m_53, m_54, m_55, m_56, m_57, m_58, m_59])), (w0, .inl (K 0, 5500, .inl (u_92.2.1 0))), (u0, .inl (K 0, 558, .inl fu))] H := hP
    have hD : va_D A [(s0, .inl (K 0, 16, .inl fs)), (r0, .inl (K 0, 7, .inl frf)), (m0, .inr (12, [.int 0, .int sta, .ref r0, .ref w0, m_4, m_5, .ref u0, .ref s0, .int x_90, m_9, m_10, m_11, m_12, m_13, m_14, m_15, m_16, m_17, m_18, m_19, m_20, m_21, m_22, m_23, m_24, m_25, m_26, m_27, m_28, m_29, m_30, m_31, m_32, m_33, m_34, m_35, m_36, m_37, m_38, m_39, m_40, m_41, m_42, m_43, m_44, m_45, m_46, m_47, m_48, m_49, m_50, m_51, m_52, m_53, m_54, m_55, m_56, m_57, m_58, m_59])), (w0, .inl (K 0, 5500, .inl (u_92.2.1 0))), (u0, .inl (K 0, 558, .inl fu))] := hD
    obtain ⟨k_93, -⟩ := hw
    refine lv_aload_n hx hb dX12_undo_37 rfl (lv_at hl 0 rfl) ?_
    refine lv_aload_n hx hb dX12_undo_38 rfl (lv_at hl 0 rfl) ?_
    refine va_get (ci := 12) (v := .ref s0) (C := RX12) (T := TX12) (N := 60) hx hb hts hw12 hown hK hP 2 rfl rfl 7 (by decide) (hts (.fieldLink RX12 26 "SmokeTuneModel" "sorts" "[I") (List.mem_cons_of_mem _ (List.mem_append_left _ (List.mem_of_getElem? (i := 2) rfl)))) (fun _ h9 => h9) rfl dX12_undo_39 ?_
    refine lv_aload_n hx hb dX12_undo_42 rfl (lv_at hl 0 rfl) ?_
    refine va_get (ci := 12) (v := .int x_90) (C := RX12) (T := TX12) (N := 60) hx hb hts hw12 hown hK hP 2 rfl rfl 8 (by decide) (hts (.fieldLink RX12 164 "SmokeTuneModel" "nUndo" "I") (List.mem_cons_of_mem _ (List.mem_append_left _ (List.mem_of_getElem? (i := 1) rfl)))) (fun _ h9 => h9) rfl dX12_undo_43 ?_
    refine va_iald hx hb hK hP 0 0 rfl rfl (i_in hx_90 (by omega)) dX12_undo_46 ?_
    refine lv_topi (fun x_94 ex_94 => ?_)
    have hx_94 := Rg.at zfs hx_90 (show 0 ≤ (nu.toInt - 1) ∧ (nu.toInt - 1) < _ by omega)
    rw [← ex_94] at hx_94
    refine kci (S := Su) (wr := [(s0, .inl (K 0, 16, .inl fs)), (w0, .inl (K 0, 5500, .inl (u_92.2.1 0))), (u0, .inl (K 0, 558, .inl fu))]) (va_runV (As := [.int x_94]) (rest := []) ⟨hx, hb, hml, hown, hts⟩ (v_tell l D K m0 x_94 (.int 0) sta r0 (.ref w0) m_4 m_5 (.ref u0) (.ref s0) (.int x_90) m_9 m_10 m_11 m_12 m_13 m_14 m_15 m_16 m_17 m_18 m_19 m_20 m_21 m_22 m_23 m_24 m_25 m_26 m_27 m_28 m_29 m_30 m_31 m_32 m_33 m_34 m_35 m_36 m_37 m_38 m_39 m_40 m_41 m_42 m_43 m_44 m_45 m_46 m_47 m_48 m_49 m_50 m_51 m_52 m_53 m_54 m_55 m_56 m_57 m_58 m_59 frf H.size (by first | omega | decide)) (cwV 1 hts gX12_undo_X12_tell rfl rfl rfl (by decide +kernel) ⟨Nat.le_of_ble_eq_true rfl, Nat.le_of_ble_eq_true rfl⟩) (mkV hK hN (hP.sub [2, 1] rfl) (hD.sub [2, 1] (by decide) rfl) (ci := 12) (q0 := 0) rfl rfl) rfl rfl hl.1 rfl (lv_room (Nat.le_of_ble_eq_true rfl)) dX12_undo_47 ⟨Nat.le_of_ble_eq_true rfl, Nat.le_of_ble_eq_true rfl⟩) hP hD hS hA [2, 1] [0, 3, 4] rfl rfl (by decide) (by decide) (fun r_95 u_96 H locs hw hP hD hS => ?_)
    have hP : va_P D vwCl [(s0, .inl (K 0, 16, .inl fs)), (w0, .inl (K 0, 5500, .inl (u_92.2.1 0))), (u0, .inl (K 0, 558, .inl fu)), (m0, .inr (12, [.int 0, .int (u_96.2.2.2.1 0), .ref r0, .ref w0, m_4, m_5, .ref u0, .ref s0, .int x_90, m_9, m_10, m_11, m_12, m_13, m_14, m_15, m_16, m_17, m_18, m_19, m_20, m_21, m_22, m_23, m_24, m_25, m_26, m_27, m_28, m_29, m_30, m_31, m_32, m_33, m_34, m_35, m_36, m_37, m_38, m_39, m_40, m_41, m_42, m_43, m_44, m_45, m_46, m_47, m_48, m_49, m_50, m_51, m_52, m_53, m_54, m_55, m_56, m_57, m_58, m_59])), (r0, .inl (K 0, 7, .inl (u_96.2.1 0)))] H := hP
    have hD : va_D A [(s0, .inl (K 0, 16, .inl fs)), (w0, .inl (K 0, 5500, .inl (u_92.2.1 0))), (u0, .inl (K 0, 558, .inl fu)), (m0, .inr (12, [.int 0, .int (u_96.2.2.2.1 0), .ref r0, .ref w0, m_4, m_5, .ref u0, .ref s0, .int x_90, m_9, m_10, m_11, m_12, m_13, m_14, m_15, m_16, m_17, m_18, m_19, m_20, m_21, m_22, m_23, m_24, m_25, m_26, m_27, m_28, m_29, m_30, m_31, m_32, m_33, m_34, m_35, m_36, m_37, m_38, m_39, m_40, m_41, m_42, m_43, m_44, m_45, m_46, m_47, m_48, m_49, m_50, m_51, m_52, m_53, m_54, m_55, m_56, m_57, m_58, m_59])), (r0, .inl (K 0, 7, .inl (u_96.2.1 0)))] := hD
    obtain ⟨h_98, k_97, -⟩ := hw
    rw [← hQ]
    have hP9 := hP.sub (ws' := [(m0, .inr (12, [.int 0, .int (u_96.2.2.2.1 0), .ref r0, .ref w0, m_4, m_5, .ref u0, .ref s0, .int x_90, m_9, m_10, m_11, m_12, m_13, m_14, m_15, m_16, m_17, m_18, m_19, m_20, m_21, m_22, m_23, m_24, m_25, m_26, m_27, m_28, m_29, m_30, m_31, m_32, m_33, m_34, m_35, m_36, m_37, m_38, m_39, m_40, m_41, m_42, m_43, m_44, m_45, m_46, m_47, m_48, m_49, m_50, m_51, m_52, m_53, m_54, m_55, m_56, m_57, m_58, m_59])), (w0, .inl (K 0, 5500, .inl (u_92.2.1 0))), (u0, .inl (K 0, 558, .inl fu)), (s0, .inl (K 0, 16, .inl fs)), (r0, .inl (K 0, 7, .inl (u_96.2.1 0)))]) [3, 1, 2, 0, 4] rfl
    have hD9 := hD.sub (ws' := [(m0, .inr (12, [.int 0, .int (u_96.2.2.2.1 0), .ref r0, .ref w0, m_4, m_5, .ref u0, .ref s0, .int x_90, m_9, m_10, m_11, m_12, m_13, m_14, m_15, m_16, m_17, m_18, m_19, m_20, m_21, m_22, m_23, m_24, m_25, m_26, m_27, m_28, m_29, m_30, m_31, m_32, m_33, m_34, m_35, m_36, m_37, m_38, m_39, m_40, m_41, m_42, m_43, m_44, m_45, m_46, m_47, m_48, m_49, m_50, m_51, m_52, m_53, m_54, m_55, m_56, m_57, m_58, m_59])), (w0, .inl (K 0, 5500, .inl (u_92.2.1 0))), (u0, .inl (K 0, 558, .inl fu)), (s0, .inl (K 0, 16, .inl fs)), (r0, .inl (K 0, 7, .inl (u_96.2.1 0)))]) [3, 1, 2, 0, 4] (by decide) rfl
    exact W.iret (v := r_95) hx hb hr (fun t ht hW => ⟨⟨r_95, ((fun _ => 0, fun i => match i with | 0 => (u_92.2.1 0) | _ => (u_96.2.1 0), fun _ => fun _ => 0, fun i => match i with | 0 => (u_96.2.2.2.1 0) | _ => x_90, fun _ => 0, fun _ => fun _ => none) : Su), rfl, ⟨(show (-6) ≤ r_95.toInt by omega), (show (-6) ≤ ((u_96.2.2.2.1 0) : Int32).toInt ∧ ((u_96.2.2.2.1 0) : Int32).toInt ≤ 0 by omega), (show 0 ≤ (x_90 : Int32).toInt ∧ (x_90 : Int32).toInt ≤ 15 by rw [hx_90]; omega), k_93, trivial⟩, (⟨by rw [ht]; exact hP9, hD9⟩ : Wd D A _ t)⟩, hS.F ht⟩) hS.2.2 dX12_undo_50
  · have c_89i := i_eq (x := nu.toInt) (y := 0) rfl rfl c_89
    refine lv_aload_n hx hb dX12_undo_12 rfl (lv_at hl 0 rfl) ?_
    refine lv_bipush (v := (-3)) hx hb dX12_undo_13 (by decide) ?_
    refine kci (S := Su) (wr := [(w0, .inl (K 0, 5500, .inl fw)), (u0, .inl (K 0, 558, .inl fu)), (s0, .inl (K 0, 16, .inl fs))]) (va_runV (As := [.int (-3)]) (rest := []) ⟨hx, hb, hml, hown, hts⟩ (v_tell l D K m0 (-3) (.int 0) sta r0 (.ref w0) m_4 m_5 (.ref u0) (.ref s0) (.int nu) m_9 m_10 m_11 m_12 m_13 m_14 m_15 m_16 m_17 m_18 m_19 m_20 m_21 m_22 m_23 m_24 m_25 m_26 m_27 m_28 m_29 m_30 m_31 m_32 m_33 m_34 m_35 m_36 m_37 m_38 m_39 m_40 m_41 m_42 m_43 m_44 m_45 m_46 m_47 m_48 m_49 m_50 m_51 m_52 m_53 m_54 m_55 m_56 m_57 m_58 m_59 frf H.size (by first | omega | decide)) (cwV 1 hts gX12_undo_X12_tell rfl rfl rfl (by decide +kernel) ⟨Nat.le_of_ble_eq_true rfl, Nat.le_of_ble_eq_true rfl⟩) (mkV hK hN (hP.sub [0, 4] rfl) (hD.sub [0, 4] (by decide) rfl) (ci := 12) (q0 := 0) rfl rfl) rfl rfl hl.1 rfl (lv_room (Nat.le_of_ble_eq_true rfl)) dX12_undo_15 ⟨Nat.le_of_ble_eq_true rfl, Nat.le_of_ble_eq_true rfl⟩) hP hD hS hA [0, 4] [1, 2, 3] rfl rfl (by decide) (by decide) (fun r_99 u_100 H locs hw hP hD hS => ?_)
    have hP : va_P D vwCl [(w0, .inl (K 0, 5500, .inl fw)), (u0, .inl (K 0, 558, .inl fu)), (s0, .inl (K 0, 16, .inl fs)), (m0, .inr (12, [.int 0, .int (u_100.2.2.2.1 0), .ref r0, .ref w0, m_4, m_5, .ref u0, .ref s0, .int nu, m_9, m_10, m_11, m_12, m_13, m_14, m_15, m_16, m_17, m_18, m_19, m_20, m_21, m_22, m_23, m_24, m_25, m_26, m_27, m_28, m_29, m_30, m_31, m_32, m_33, m_34, m_35, m_36, m_37, m_38, m_39, m_40, m_41, m_42, m_43, m_44, m_45, m_46, m_47, m_48, m_49, m_50, m_51, m_52, m_53, m_54, m_55, m_56, m_57, m_58, m_59])), (r0, .inl (K 0, 7, .inl (u_100.2.1 0)))] H := hP
    have hD : va_D A [(w0, .inl (K 0, 5500, .inl fw)), (u0, .inl (K 0, 558, .inl fu)), (s0, .inl (K 0, 16, .inl fs)), (m0, .inr (12, [.int 0, .int (u_100.2.2.2.1 0), .ref r0, .ref w0, m_4, m_5, .ref u0, .ref s0, .int nu, m_9, m_10, m_11, m_12, m_13, m_14, m_15, m_16, m_17, m_18, m_19, m_20, m_21, m_22, m_23, m_24, m_25, m_26, m_27, m_28, m_29, m_30, m_31, m_32, m_33, m_34, m_35, m_36, m_37, m_38, m_39, m_40, m_41, m_42, m_43, m_44, m_45, m_46, m_47, m_48, m_49, m_50, m_51, m_52, m_53, m_54, m_55, m_56, m_57, m_58, m_59])), (r0, .inl (K 0, 7, .inl (u_100.2.1 0)))] := hD
    obtain ⟨h_102, k_101, -⟩ := hw
    rw [← hQ]
    have hP9 := hP.sub (ws' := [(m0, .inr (12, [.int 0, .int (u_100.2.2.2.1 0), .ref r0, .ref w0, m_4, m_5, .ref u0, .ref s0, .int nu, m_9, m_10, m_11, m_12, m_13, m_14, m_15, m_16, m_17, m_18, m_19, m_20, m_21, m_22, m_23, m_24, m_25, m_26, m_27, m_28, m_29, m_30, m_31, m_32, m_33, m_34, m_35, m_36, m_37, m_38, m_39, m_40, m_41, m_42, m_43, m_44, m_45, m_46, m_47, m_48, m_49, m_50, m_51, m_52, m_53, m_54, m_55, m_56, m_57, m_58, m_59])), (w0, .inl (K 0, 5500, .inl fw)), (u0, .inl (K 0, 558, .inl fu)), (s0, .inl (K 0, 16, .inl fs)), (r0, .inl (K 0, 7, .inl (u_100.2.1 0)))]) [3, 0, 1, 2, 4] rfl
    have hD9 := hD.sub (ws' := [(m0, .inr (12, [.int 0, .int (u_100.2.2.2.1 0), .ref r0, .ref w0, m_4, m_5, .ref u0, .ref s0, .int nu, m_9, m_10, m_11, m_12, m_13, m_14, m_15, m_16, m_17, m_18, m_19, m_20, m_21, m_22, m_23, m_24, m_25, m_26, m_27, m_28, m_29, m_30, m_31, m_32, m_33, m_34, m_35, m_36, m_37, m_38, m_39, m_40, m_41, m_42, m_43, m_44, m_45, m_46, m_47, m_48, m_49, m_50, m_51, m_52, m_53, m_54, m_55, m_56, m_57, m_58, m_59])), (w0, .inl (K 0, 5500, .inl fw)), (u0, .inl (K 0, 558, .inl fu)), (s0, .inl (K 0, 16, .inl fs)), (r0, .inl (K 0, 7, .inl (u_100.2.1 0)))]) [3, 0, 1, 2, 4] (by decide) rfl
    exact W.iret (v := r_99) hx hb hr (fun t ht hW => ⟨⟨r_99, ((fun _ => 0, fun i => match i with | 0 => fw | _ => (u_100.2.1 0), fun _ => fun _ => 0, fun i => match i with | 0 => (u_100.2.2.2.1 0) | _ => nu, fun _ => 0, fun _ => fun _ => none) : Su), rfl, ⟨(show (-6) ≤ r_99.toInt by omega), (show (-6) ≤ ((u_100.2.2.2.1 0) : Int32).toInt ∧ ((u_100.2.2.2.1 0) : Int32).toInt ≤ 0 by omega), (show 0 ≤ (nu : Int32).toInt ∧ (nu : Int32).toInt ≤ 15 by omega), zfw, trivial⟩, (⟨by rw [ht]; exact hP9, hD9⟩ : Wd D A _ t)⟩, hS.F ht⟩) hS.2.2 dX12_undo_18
set_option maxHeartbeats 4000000 in
set_option maxRecDepth 100000 in
theorem v_term_0 (l : Launch) (D : va_G) (K : Nat → ClassId) (m0 : Nat) (m_0 : Value) (m_1 : Value) (m_2 : Value) (w0 : Nat) (m_4 : Value) (m_5 : Value) (m_6 : Value) (m_7 : Value) (m_8 : Value) (m_9 : Value) (m_10 : Value) (m_11 : Value) (m_12 : Value) (m_13 : Value) (m_14 : Value) (m_15 : Value) (m_16 : Value) (m_17 : Value) (m_18 : Value) (m_19 : Value) (m_20 : Value) (m_21 : Value) (m_22 : Value) (m_23 : Value) (m_24 : Value) (m_25 : Value) (m_26 : Value) (m_27 : Value) (m_28 : Value) (m_29 : Value) (m_30 : Value) (m_31 : Value) (m_32 : Value) (m_33 : Value) (m_34 : Value) (m_35 : Value) (m_36 : Value) (m_37 : Value) (m_38 : Value) (m_39 : Value) (m_40 : Value) (m_41 : Value) (m_42 : Value) (m_43 : Value) (m_44 : Value) (m_45 : Value) (m_46 : Value) (m_47 : Value) (m_48 : Value) (m_49 : Value) (m_50 : Value) (m_51 : Value) (m_52 : Value) (m_53 : Value) (m_54 : Value) (m_55 : Value) (m_56 : Value) (m_57 : Value) (m_58 : Value) (m_59 : Value) (fw : Nat → Int32) (sz : Nat) (zfw : RwOK fw) : Met l yX12_term wsX12_term ({ frames := 0, cells := 0, slots := 0, locals := 0 }) (va_Pc [.ref m0, .int 0] (Pre D K [(m0, .inr (12, [m_0, m_1, m_2, .ref w0, m_4, m_5, m_6, m_7, m_8, m_9, m_10, m_11, m_12, m_13, m_14, m_15, m_16, m_17, m_18, m_19, m_20, m_21, m_22, m_23, m_24, m_25, m_26, m_27, m_28, m_29, m_30, m_31, m_32, m_33, m_34, m_35, m_36, m_37, m_38, m_39, m_40, m_41, m_42, m_43, m_44, m_45, m_46, m_47, m_48, m_49, m_50, m_51, m_52, m_53, m_54, m_55, m_56, m_57, m_58, m_59])), (w0, .inl (K 0, 5500, .inl fw))] sz)) (vp_Si (fun r : Int32 => (0 ≤ r.toInt ∧ r.toInt ≤ 23) ∧ True)) 0 0 (fun _ => False) := by
  refine Met.ofW (cc := cX12_term) (maxL := 2) (ret := (some .int)) (by decide) rfl ?_
  intro p e s m args below meth c s₁ B hml hv
  obtain ⟨rfl, hsz, hP, hK, hD0, hN⟩ := hv
  have hx := B.exec
  have hb := B.bytes
  have hr := B.returns
  have hts := atoms_spec (ws := wsX12_term) B.pre
  have hown : s.vm.findClass RX12 = some m.cls := findClass_of_methodNamed B.named
  have hlocks := B.notSynchronized
  subst hsz
  have hD := hD0
  have hP : va_P D vwCl [(m0, .inr (12, [m_0, m_1, m_2, .ref w0, m_4, m_5, m_6, m_7, m_8, m_9, m_10, m_11, m_12, m_13, m_14, m_15, m_16, m_17, m_18, m_19, m_20, m_21, m_22, m_23, m_24, m_25, m_26, m_27, m_28, m_29, m_30, m_31, m_32, m_33, m_34, m_35, m_36, m_37, m_38, m_39, m_40, m_41, m_42, m_43, m_44, m_45, m_46, m_47, m_48, m_49, m_50, m_51, m_52, m_53, m_54, m_55, m_56, m_57, m_58, m_59])), (w0, .inl (K 0, 5500, .inl fw))] s.heap := hP
  have hl := lv_entry [.ref m0, .int 0] (n := 2) (Nat.le_of_ble_eq_true rfl)
  rw [lg_entry_eq]
  generalize (lg_sl [.ref m0, .int 0] ++ List.replicate (2 - (lg_sl [.ref m0, .int 0]).length) Slot.unset).toArray = ls at hl ⊢
  have hl : lv_has ls 2 [(0, .ref m0), (1, .int 0)] := hl
  have hw12 : ∀ w ∈ wsX120, w ∈ wsX12_term := fun w h => (List.mem_cons_of_mem _ (List.mem_append_right _ h))
  generalize hQ : MQ below _ _ s _ _ _ = Q
  refine lv_aload_n hx hb dX12_term_0 rfl (lv_at hl 0 rfl) ?_
  refine va_get (ci := 12) (v := .ref w0) (C := RX12) (T := TX12) (N := 60) hx hb hts hw12 hown hK hP 0 rfl rfl 3 (by decide) (hts (.fieldLink RX12 13 "SmokeTuneModel" "row" "[I") (List.mem_cons_of_mem _ (List.mem_append_left _ (List.mem_of_getElem? (i := 0) rfl)))) (fun _ h9 => h9) rfl dX12_term_1 ?_
  refine lv_iconst (v := 4) hx hb dX12_term_4 (by decide) ?_
  refine lv_iload_n hx hb dX12_term_5 rfl (lv_at hl 1 rfl) ?_
  refine lv_iadd hx hb dX12_term_6 ?_
  refine lv_topi (fun x_65 ex_65 => ?_)
  obtain rfl : x_65 = 4 := ex_65.trans (by first | rfl | decide)
  refine va_iald hx hb hK hP 1 0 rfl rfl (i_in (x := 4) rfl (by omega)) dX12_term_7 ?_
  refine lv_topi (fun x_66 ex_66 => ?_)
  have px_66 := RwOK.at zfw (show (4 : Int32).toInt = 4 from rfl) (show 0 ≤ 4 ∧ 4 < 100 by omega)
  rw [← ex_66] at px_66
  have hx_66 := PR.r_4 px_66 (by omega)
  rw [← hQ]
  exact W.iret (v := x_66) hx hb hr (fun t ht hW => ⟨_, rfl, ⟨(show 0 ≤ x_66.toInt ∧ x_66.toInt ≤ 23 by omega), trivial⟩, ht⟩) (fun q hq => by cases hq) dX12_term_8
set_option maxHeartbeats 4000000 in
set_option maxRecDepth 100000 in
theorem v_term (l : Launch) (D : va_G) (K : Nat → ClassId) (m0 : Nat) (x : Int32) (m_0 : Value) (m_1 : Value) (m_2 : Value) (w0 : Nat) (m_4 : Value) (m_5 : Value) (m_6 : Value) (m_7 : Value) (m_8 : Value) (m_9 : Value) (m_10 : Value) (m_11 : Value) (m_12 : Value) (m_13 : Value) (m_14 : Value) (m_15 : Value) (m_16 : Value) (m_17 : Value) (m_18 : Value) (m_19 : Value) (m_20 : Value) (m_21 : Value) (m_22 : Value) (m_23 : Value) (m_24 : Value) (m_25 : Value) (m_26 : Value) (m_27 : Value) (m_28 : Value) (m_29 : Value) (m_30 : Value) (m_31 : Value) (m_32 : Value) (m_33 : Value) (m_34 : Value) (m_35 : Value) (m_36 : Value) (m_37 : Value) (m_38 : Value) (m_39 : Value) (m_40 : Value) (m_41 : Value) (m_42 : Value) (m_43 : Value) (m_44 : Value) (m_45 : Value) (m_46 : Value) (m_47 : Value) (m_48 : Value) (m_49 : Value) (m_50 : Value) (m_51 : Value) (m_52 : Value) (m_53 : Value) (m_54 : Value) (m_55 : Value) (m_56 : Value) (m_57 : Value) (m_58 : Value) (m_59 : Value) (fw : Nat → Int32) (sz : Nat) (zx : 0 ≤ x.toInt ∧ x.toInt ≤ 5) (zfw : RwOK fw) : Met l yX12_term wsX12_term ({ frames := 0, cells := 0, slots := 0, locals := 0 }) (va_Pc [.ref m0, .int x] (Pre D K [(m0, .inr (12, [m_0, m_1, m_2, .ref w0, m_4, m_5, m_6, m_7, m_8, m_9, m_10, m_11, m_12, m_13, m_14, m_15, m_16, m_17, m_18, m_19, m_20, m_21, m_22, m_23, m_24, m_25, m_26, m_27, m_28, m_29, m_30, m_31, m_32, m_33, m_34, m_35, m_36, m_37, m_38, m_39, m_40, m_41, m_42, m_43, m_44, m_45, m_46, m_47, m_48, m_49, m_50, m_51, m_52, m_53, m_54, m_55, m_56, m_57, m_58, m_59])), (w0, .inl (K 0, 5500, .inl fw))] sz)) (vp_Si (fun r : Int32 => True)) 0 0 (fun _ => False) := by
  refine Met.ofW (cc := cX12_term) (maxL := 2) (ret := (some .int)) (by decide) rfl ?_
  intro p e s m args below meth c s₁ B hml hv
  obtain ⟨rfl, hsz, hP, hK, hD0, hN⟩ := hv
  have hx := B.exec
  have hb := B.bytes
  have hr := B.returns
  have hts := atoms_spec (ws := wsX12_term) B.pre
  have hown : s.vm.findClass RX12 = some m.cls := findClass_of_methodNamed B.named
  have hlocks := B.notSynchronized
  subst hsz
  have hD := hD0
  have hP : va_P D vwCl [(m0, .inr (12, [m_0, m_1, m_2, .ref w0, m_4, m_5, m_6, m_7, m_8, m_9, m_10, m_11, m_12, m_13, m_14, m_15, m_16, m_17, m_18, m_19, m_20, m_21, m_22, m_23, m_24, m_25, m_26, m_27, m_28, m_29, m_30, m_31, m_32, m_33, m_34, m_35, m_36, m_37, m_38, m_39, m_40, m_41, m_42, m_43, m_44, m_45, m_46, m_47, m_48, m_49, m_50, m_51, m_52, m_53, m_54, m_55, m_56, m_57, m_58, m_59])), (w0, .inl (K 0, 5500, .inl fw))] s.heap := hP
  have hl := lv_entry [.ref m0, .int x] (n := 2) (Nat.le_of_ble_eq_true rfl)
  rw [lg_entry_eq]
  generalize (lg_sl [.ref m0, .int x] ++ List.replicate (2 - (lg_sl [.ref m0, .int x]).length) Slot.unset).toArray = ls at hl ⊢
  have hl : lv_has ls 2 [(0, .ref m0), (1, .int x)] := hl
  have hw12 : ∀ w ∈ wsX120, w ∈ wsX12_term := fun w h => (List.mem_cons_of_mem _ (List.mem_append_right _ h))
  generalize hQ : MQ below _ _ s _ _ _ = Q
  refine lv_aload_n hx hb dX12_term_0 rfl (lv_at hl 0 rfl) ?_
  refine va_get (ci := 12) (v := .ref w0) (C := RX12) (T := TX12) (N := 60) hx hb hts hw12 hown hK hP 0 rfl rfl 3 (by decide) (hts (.fieldLink RX12 13 "SmokeTuneModel" "row" "[I") (List.mem_cons_of_mem _ (List.mem_append_left _ (List.mem_of_getElem? (i := 0) rfl)))) (fun _ h9 => h9) rfl dX12_term_1 ?_
  refine lv_iconst (v := 4) hx hb dX12_term_4 (by decide) ?_
  refine lv_iload_n hx hb dX12_term_5 rfl (lv_at hl 1 rfl) ?_
  refine lv_iadd hx hb dX12_term_6 ?_
  refine lv_topi (fun x_63 ex_63 => ?_)
  have hx_63 : x_63.toInt = (4 + x.toInt) := by rw [ex_63]; exact i_add (show (4 : Int32).toInt = 4 from rfl) rfl (by omega)
  refine va_iald hx hb hK hP 1 0 rfl rfl (i_in hx_63 (by omega)) dX12_term_7 ?_
  refine lv_topi (fun x_64 ex_64 => ?_)
  have px_64 := RwOK.at zfw hx_63 (show 0 ≤ (4 + x.toInt) ∧ (4 + x.toInt) < 100 by omega)
  rw [← ex_64] at px_64
  rw [← hQ]
  exact W.iret (v := x_64) hx hb hr (fun t ht hW => ⟨_, rfl, trivial, ht⟩) (fun q hq => by cases hq) dX12_term_8
set_option maxHeartbeats 4000000 in
set_option maxRecDepth 100000 in
theorem v_isHouse (l : Launch) (D : va_G) (K : Nat → ClassId) (X : Int) (m0 : Nat) (x : Int32) (m_0 : Value) (m_1 : Value) (m_2 : Value) (w0 : Nat) (m_4 : Value) (m_5 : Value) (m_6 : Value) (m_7 : Value) (m_8 : Value) (m_9 : Value) (m_10 : Value) (m_11 : Value) (m_12 : Value) (m_13 : Value) (m_14 : Value) (m_15 : Value) (m_16 : Value) (m_17 : Value) (m_18 : Value) (m_19 : Value) (m_20 : Value) (m_21 : Value) (m_22 : Value) (m_23 : Value) (m_24 : Value) (m_25 : Value) (m_26 : Value) (m_27 : Value) (m_28 : Value) (m_29 : Value) (m_30 : Value) (m_31 : Value) (m_32 : Value) (m_33 : Value) (m_34 : Value) (m_35 : Value) (m_36 : Value) (m_37 : Value) (m_38 : Value) (m_39 : Value) (m_40 : Value) (m_41 : Value) (m_42 : Value) (m_43 : Value) (m_44 : Value) (m_45 : Value) (m_46 : Value) (m_47 : Value) (m_48 : Value) (m_49 : Value) (m_50 : Value) (m_51 : Value) (m_52 : Value) (m_53 : Value) (m_54 : Value) (m_55 : Value) (m_56 : Value) (m_57 : Value) (m_58 : Value) (m_59 : Value) (fw : Nat → Int32) (sz : Nat) (qx : x.toInt = X) (zfw : RwOK fw) : Met l yX12_isHouse wsX12_isHouse ({ frames := 1, cells := 0, slots := 0, locals := 25 }) (va_Pc [.ref m0, .int x] (Pre D K [(m0, .inr (12, [m_0, m_1, m_2, .ref w0, m_4, m_5, m_6, m_7, m_8, m_9, m_10, m_11, m_12, m_13, m_14, m_15, m_16, m_17, m_18, m_19, m_20, m_21, m_22, m_23, m_24, m_25, m_26, m_27, m_28, m_29, m_30, m_31, m_32, m_33, m_34, m_35, m_36, m_37, m_38, m_39, m_40, m_41, m_42, m_43, m_44, m_45, m_46, m_47, m_48, m_49, m_50, m_51, m_52, m_53, m_54, m_55, m_56, m_57, m_58, m_59])), (w0, .inl (K 0, 5500, .inl fw))] sz)) (vp_Si (fun r : Int32 => ((r = 1 ∧ 0 ≤ X ∧ X ≤ 7) ∨ (r = 0)) ∧ True)) 0 0 (fun _ => False) := by
  refine Met.ofW (cc := cX12_isHouse) (maxL := 2) (ret := (some .boolean)) (by decide) rfl ?_
  intro p e s m args below meth c s₁ B hml hv
  obtain ⟨rfl, hsz, hP, hK, hD0, hN⟩ := hv
  have hx := B.exec
  have hb := B.bytes
  have hr := B.returns
  have hts := atoms_spec (ws := wsX12_isHouse) B.pre
  have hown : s.vm.findClass RX12 = some m.cls := findClass_of_methodNamed B.named
  have hlocks := B.notSynchronized
  subst hsz
  have hD := hD0
  have hP : va_P D vwCl [(m0, .inr (12, [m_0, m_1, m_2, .ref w0, m_4, m_5, m_6, m_7, m_8, m_9, m_10, m_11, m_12, m_13, m_14, m_15, m_16, m_17, m_18, m_19, m_20, m_21, m_22, m_23, m_24, m_25, m_26, m_27, m_28, m_29, m_30, m_31, m_32, m_33, m_34, m_35, m_36, m_37, m_38, m_39, m_40, m_41, m_42, m_43, m_44, m_45, m_46, m_47, m_48, m_49, m_50, m_51, m_52, m_53, m_54, m_55, m_56, m_57, m_58, m_59])), (w0, .inl (K 0, 5500, .inl fw))] s.heap := hP
  have hl := lv_entry [.ref m0, .int x] (n := 2) (Nat.le_of_ble_eq_true rfl)
  rw [lg_entry_eq]
  generalize (lg_sl [.ref m0, .int x] ++ List.replicate (2 - (lg_sl [.ref m0, .int x]).length) Slot.unset).toArray = ls at hl ⊢
  have hl : lv_has ls 2 [(0, .ref m0), (1, .int x)] := hl
  have hw12 : ∀ w ∈ wsX120, w ∈ wsX12_isHouse := fun w h => (List.mem_cons_of_mem _ (List.mem_append_right _ h))
  generalize hQ : MQ below _ _ s _ _ _ = Q
  refine lv_iload_n hx hb dX12_isHouse_0 rfl (lv_at hl 1 rfl) ?_
  refine lv_i2l hx hb dX12_isHouse_1 rfl ?_
  refine lv_topl (fun x_77 ex_77 => ?_)
  have hx_77 : x_77.toInt = X := by rw [ex_77]; exact i_wide qx
  refine lv_lconst (v := 0) hx hb dX12_isHouse_2 (by decide) ?_
  refine lv_aload_n hx hb dX12_isHouse_3 rfl (lv_at hl 0 rfl) ?_
  refine va_get (ci := 12) (v := .ref w0) (C := RX12) (T := TX12) (N := 60) hx hb hts hw12 hown hK hP 0 rfl rfl 3 (by decide) (hts (.fieldLink RX12 13 "SmokeTuneModel" "row" "[I") (List.mem_cons_of_mem _ (List.mem_append_left _ (List.mem_of_getElem? (i := 0) rfl)))) (fun _ h9 => h9) rfl dX12_isHouse_4 ?_
  refine lv_iconst (v := 0) hx hb dX12_isHouse_7 (by decide) ?_
  refine va_iald hx hb hK hP 1 0 rfl rfl (i_in (x := 0) rfl (by omega)) dX12_isHouse_8 ?_
  refine lv_topi (fun x_78 ex_78 => ?_)
  have px_78 := RwOK.at zfw (show (0 : Int32).toInt = 0 from rfl) (show 0 ≤ 0 ∧ 0 < 100 by omega)
  rw [← ex_78] at px_78
  have hx_78 := PR.r_0 px_78 (by omega)
  refine lv_i2l hx hb dX12_isHouse_9 rfl ?_
  refine lv_topl (fun x_79 ex_79 => ?_)
  have hx_79 : x_79.toInt = x_78.toInt := by rw [ex_79]; exact i_wide rfl
  refine lv_lconst (v := 1) hx hb dX12_isHouse_10 (by decide) ?_
  refine lv_lsub hx hb dX12_isHouse_11 ?_
  refine lv_topl (fun x_80 ex_80 => ?_)
  have hx_80 : x_80.toInt = (x_78.toInt - 1) := by rw [ex_80]; exact l_sub hx_79 (show (1 : Int64).toInt = 1 from rfl) (by omega)
  refine pci (va_runS (As := [.long x_77, .long 0, .long x_80]) (rest := []) ⟨hx, hb, hml, hown, hts⟩ (v_in l D K X 0 (x_78.toInt - 1) x_77 0 x_80 s.heap.size hx_77 (show (0 : Int64).toInt = 0 from rfl) hx_80) (va_cwS 3 hts gX12_isHouse_X12_in rfl rfl rfl (by decide +kernel) ⟨Nat.le_of_ble_eq_true rfl, Nat.le_of_ble_eq_true rfl⟩) (mkS hK hN (va_P.nil) (va_D.nil (A := fun _ => True))) rfl rfl hl.1 rfl (lv_room (Nat.le_of_ble_eq_true rfl)) dX12_isHouse_12 ⟨Nat.le_of_ble_eq_true rfl, Nat.le_of_ble_eq_true rfl⟩) (fun r_81 hw => ?_)
  obtain ⟨hw, -⟩ := hw
  rcases hw with ⟨rfl, h_82, h_83⟩ | ⟨rfl, h_84⟩
  · rw [← hQ]
    exact W.zret (v := 1) hx hb hr (by decide) (fun t ht hW => ⟨_, rfl, ⟨(by first | exact Or.inl ⟨rfl, by first | omega | decide | (subst_vars; assumption), by first | omega | decide | (subst_vars; assumption)⟩), trivial⟩, ht⟩) (fun q hq => by cases hq) dX12_isHouse_15
  · rw [← hQ]
    exact W.zret (v := 0) hx hb hr (by decide) (fun t ht hW => ⟨_, rfl, ⟨(by first | exact Or.inr (rfl)), trivial⟩, ht⟩) (fun q hq => by cases hq) dX12_isHouse_15
set_option maxHeartbeats 4000000 in
set_option maxRecDepth 100000 in
theorem v_isSounding (l : Launch) (D : va_G) (K : Nat → ClassId) (m0 : Nat) (x : Int32) (m_0 : Value) (m_1 : Value) (m_2 : Value) (w0 : Nat) (m_4 : Value) (m_5 : Value) (m_6 : Value) (m_7 : Value) (m_8 : Value) (m_9 : Value) (m_10 : Value) (m_11 : Value) (m_12 : Value) (m_13 : Value) (m_14 : Value) (m_15 : Value) (m_16 : Value) (m_17 : Value) (m_18 : Value) (m_19 : Value) (m_20 : Value) (m_21 : Value) (m_22 : Value) (m_23 : Value) (m_24 : Value) (m_25 : Value) (m_26 : Value) (m_27 : Value) (m_28 : Value) (m_29 : Value) (m_30 : Value) (m_31 : Value) (m_32 : Value) (m_33 : Value) (m_34 : Value) (m_35 : Value) (m_36 : Value) (m_37 : Value) (m_38 : Value) (m_39 : Value) (m_40 : Value) (m_41 : Value) (m_42 : Value) (m_43 : Value) (m_44 : Value) (m_45 : Value) (m_46 : Value) (m_47 : Value) (m_48 : Value) (m_49 : Value) (m_50 : Value) (m_51 : Value) (m_52 : Value) (m_53 : Value) (m_54 : Value) (m_55 : Value) (m_56 : Value) (m_57 : Value) (m_58 : Value) (m_59 : Value) (fw : Nat → Int32) (sz : Nat) (zx : 0 ≤ x.toInt ∧ x.toInt ≤ 7) (zfw : RwOK fw) : Met l yX12_isSounding wsX12_isSounding ({ frames := 1, cells := 0, slots := 0, locals := 25 }) (va_Pc [.ref m0, .int x] (Pre D K [(m0, .inr (12, [m_0, m_1, m_2, .ref w0, m_4, m_5, m_6, m_7, m_8, m_9, m_10, m_11, m_12, m_13, m_14, m_15, m_16, m_17, m_18, m_19, m_20, m_21, m_22, m_23, m_24, m_25, m_26, m_27, m_28, m_29, m_30, m_31, m_32, m_33, m_34, m_35, m_36, m_37, m_38, m_39, m_40, m_41, m_42, m_43, m_44, m_45, m_46, m_47, m_48, m_49, m_50, m_51, m_52, m_53, m_54, m_55, m_56, m_57, m_58, m_59])), (w0, .inl (K 0, 5500, .inl fw))] sz)) (vp_Si (fun r : Int32 => (0 ≤ r.toInt ∧ r.toInt ≤ 1) ∧ True)) 0 0 (fun _ => False) := by
  refine Met.ofW (cc := cX12_isSounding) (maxL := 2) (ret := (some .boolean)) (by decide) rfl ?_
  intro p e s m args below meth c s₁ B hml hv
  obtain ⟨rfl, hsz, hP, hK, hD0, hN⟩ := hv
  have hx := B.exec
  have hb := B.bytes
  have hr := B.returns
  have hts := atoms_spec (ws := wsX12_isSounding) B.pre
  have hown : s.vm.findClass RX12 = some m.cls := findClass_of_methodNamed B.named
  have hlocks := B.notSynchronized
  subst hsz
  have hD := hD0
  have hP : va_P D vwCl [(m0, .inr (12, [m_0, m_1, m_2, .ref w0, m_4, m_5, m_6, m_7, m_8, m_9, m_10, m_11, m_12, m_13, m_14, m_15, m_16, m_17, m_18, m_19, m_20, m_21, m_22, m_23, m_24, m_25, m_26, m_27, m_28, m_29, m_30, m_31, m_32, m_33, m_34, m_35, m_36, m_37, m_38, m_39, m_40, m_41, m_42, m_43, m_44, m_45, m_46, m_47, m_48, m_49, m_50, m_51, m_52, m_53, m_54, m_55, m_56, m_57, m_58, m_59])), (w0, .inl (K 0, 5500, .inl fw))] s.heap := hP
  have hl := lv_entry [.ref m0, .int x] (n := 2) (Nat.le_of_ble_eq_true rfl)
  rw [lg_entry_eq]
  generalize (lg_sl [.ref m0, .int x] ++ List.replicate (2 - (lg_sl [.ref m0, .int x]).length) Slot.unset).toArray = ls at hl ⊢
  have hl : lv_has ls 2 [(0, .ref m0), (1, .int x)] := hl
  have hw12 : ∀ w ∈ wsX120, w ∈ wsX12_isSounding := fun w h => (List.mem_cons_of_mem _ (List.mem_append_right _ h))
  generalize hQ : MQ below _ _ s _ _ _ = Q
  refine lv_aload_n hx hb dX12_isSounding_0 rfl (lv_at hl 0 rfl) ?_
  refine va_get (ci := 12) (v := .ref w0) (C := RX12) (T := TX12) (N := 60) hx hb hts hw12 hown hK hP 0 rfl rfl 3 (by decide) (hts (.fieldLink RX12 13 "SmokeTuneModel" "row" "[I") (List.mem_cons_of_mem _ (List.mem_append_left _ (List.mem_of_getElem? (i := 0) rfl)))) (fun _ h9 => h9) rfl dX12_isSounding_1 ?_
  refine lv_bipush (v := 11) hx hb dX12_isSounding_4 (by decide) ?_
  refine lv_iload_n hx hb dX12_isSounding_6 rfl (lv_at hl 1 rfl) ?_
  refine lv_iadd hx hb dX12_isSounding_7 ?_
  refine lv_topi (fun x_83 ex_83 => ?_)
  have hx_83 : x_83.toInt = (11 + x.toInt) := by rw [ex_83]; exact i_add (show (11 : Int32).toInt = 11 from rfl) rfl (by omega)
  refine va_iald hx hb hK hP 1 0 rfl rfl (i_in hx_83 (by omega)) dX12_isSounding_8 ?_
  refine lv_topi (fun x_84 ex_84 => ?_)
  have px_84 := RwOK.at zfw hx_83 (show 0 ≤ (11 + x.toInt) ∧ (11 + x.toInt) < 100 by omega)
  rw [← ex_84] at px_84
  have hx_84 := PR.r_11 px_84 (by omega)
  refine lv_i2l hx hb dX12_isSounding_9 rfl ?_
  refine lv_topl (fun x_85 ex_85 => ?_)
  have hx_85 : x_85.toInt = x_84.toInt := by rw [ex_85]; exact i_wide rfl
  refine lv_aload_n hx hb dX12_isSounding_10 rfl (lv_at hl 0 rfl) ?_
  refine lv_iconst (v := 2) hx hb dX12_isSounding_11 (by decide) ?_
  refine pci (va_runV (As := [.int 2]) (rest := [.long x_85]) ⟨hx, hb, hml, hown, hts⟩ (v_term l D K m0 2 m_0 m_1 m_2 w0 m_4 m_5 m_6 m_7 m_8 m_9 m_10 m_11 m_12 m_13 m_14 m_15 m_16 m_17 m_18 m_19 m_20 m_21 m_22 m_23 m_24 m_25 m_26 m_27 m_28 m_29 m_30 m_31 m_32 m_33 m_34 m_35 m_36 m_37 m_38 m_39 m_40 m_41 m_42 m_43 m_44 m_45 m_46 m_47 m_48 m_49 m_50 m_51 m_52 m_53 m_54 m_55 m_56 m_57 m_58 m_59 fw s.heap.size (by first | omega | decide) zfw) (cwV 1 hts gX12_isSounding_X12_term rfl rfl rfl (by decide +kernel) ⟨Nat.le_of_ble_eq_true rfl, Nat.le_of_ble_eq_true rfl⟩) (mkV hK hN (hP.sub [0, 1] rfl) (hD.sub [0, 1] (by decide) rfl) (ci := 12) (q0 := 0) rfl rfl) rfl rfl hl.1 rfl (lv_room (Nat.le_of_ble_eq_true rfl)) dX12_isSounding_12 ⟨Nat.le_of_ble_eq_true rfl, Nat.le_of_ble_eq_true rfl⟩) (fun r_86 hw => ?_)
  refine lv_i2l hx hb dX12_isSounding_15 rfl ?_
  refine lv_topl (fun x_87 ex_87 => ?_)
  have hx_87 : x_87.toInt = r_86.toInt := by rw [ex_87]; exact i_wide rfl
  refine lv_aload_n hx hb dX12_isSounding_16 rfl (lv_at hl 0 rfl) ?_
  refine lv_iconst (v := 3) hx hb dX12_isSounding_17 (by decide) ?_
  refine pci (va_runV (As := [.int 3]) (rest := [.long x_87, .long x_85]) ⟨hx, hb, hml, hown, hts⟩ (v_term l D K m0 3 m_0 m_1 m_2 w0 m_4 m_5 m_6 m_7 m_8 m_9 m_10 m_11 m_12 m_13 m_14 m_15 m_16 m_17 m_18 m_19 m_20 m_21 m_22 m_23 m_24 m_25 m_26 m_27 m_28 m_29 m_30 m_31 m_32 m_33 m_34 m_35 m_36 m_37 m_38 m_39 m_40 m_41 m_42 m_43 m_44 m_45 m_46 m_47 m_48 m_49 m_50 m_51 m_52 m_53 m_54 m_55 m_56 m_57 m_58 m_59 fw s.heap.size (by first | omega | decide) zfw) (cwV 1 hts gX12_isSounding_X12_term rfl rfl rfl (by decide +kernel) ⟨Nat.le_of_ble_eq_true rfl, Nat.le_of_ble_eq_true rfl⟩) (mkV hK hN (hP.sub [0, 1] rfl) (hD.sub [0, 1] (by decide) rfl) (ci := 12) (q0 := 0) rfl rfl) rfl rfl hl.1 rfl (lv_room (Nat.le_of_ble_eq_true rfl)) dX12_isSounding_18 ⟨Nat.le_of_ble_eq_true rfl, Nat.le_of_ble_eq_true rfl⟩) (fun r_88 hw => ?_)
  refine lv_i2l hx hb dX12_isSounding_21 rfl ?_
  refine lv_topl (fun x_89 ex_89 => ?_)
  have hx_89 : x_89.toInt = r_88.toInt := by rw [ex_89]; exact i_wide rfl
  refine pci (va_runS (As := [.long x_85, .long x_87, .long x_89]) (rest := []) ⟨hx, hb, hml, hown, hts⟩ (v_in l D K x_84.toInt r_86.toInt r_88.toInt x_85 x_87 x_89 s.heap.size hx_85 hx_87 hx_89) (va_cwS 3 hts gX12_isSounding_X12_in rfl rfl rfl (by decide +kernel) ⟨Nat.le_of_ble_eq_true rfl, Nat.le_of_ble_eq_true rfl⟩) (mkS hK hN (va_P.nil) (va_D.nil (A := fun _ => True))) rfl rfl hl.1 rfl (lv_room (Nat.le_of_ble_eq_true rfl)) dX12_isSounding_22 ⟨Nat.le_of_ble_eq_true rfl, Nat.le_of_ble_eq_true rfl⟩) (fun r_90 hw => ?_)
  obtain ⟨hw, -⟩ := hw
  rcases hw with ⟨rfl, h_91, h_92⟩ | ⟨rfl, h_93⟩
  · rw [← hQ]
    exact W.zret (v := 1) hx hb hr (by decide) (fun t ht hW => ⟨_, rfl, ⟨(show 0 ≤ (1 : Int32).toInt ∧ (1 : Int32).toInt ≤ 1 by decide), trivial⟩, ht⟩) (fun q hq => by cases hq) dX12_isSounding_25
  · rw [← hQ]
    exact W.zret (v := 0) hx hb hr (by decide) (fun t ht hW => ⟨_, rfl, ⟨(show 0 ≤ (0 : Int32).toInt ∧ (0 : Int32).toInt ≤ 1 by decide), trivial⟩, ht⟩) (fun q hq => by cases hq) dX12_isSounding_25
set_option maxHeartbeats 4000000 in
set_option maxRecDepth 100000 in
theorem v_soundWith (l : Launch) (D : va_G) (K : Nat → ClassId) (m0 : Nat) (x : Int32) (m_0 : Value) (m_1 : Value) (m_2 : Value) (w0 : Nat) (m_4 : Value) (m_5 : Value) (m_6 : Value) (m_7 : Value) (m_8 : Value) (m_9 : Value) (m_10 : Value) (m_11 : Value) (m_12 : Value) (m_13 : Value) (m_14 : Value) (m_15 : Value) (m_16 : Value) (m_17 : Value) (m_18 : Value) (m_19 : Value) (m_20 : Value) (m_21 : Value) (m_22 : Value) (m_23 : Value) (m_24 : Value) (m_25 : Value) (m_26 : Value) (m_27 : Value) (m_28 : Value) (m_29 : Value) (m_30 : Value) (m_31 : Value) (m_32 : Value) (m_33 : Value) (m_34 : Value) (m_35 : Value) (m_36 : Value) (m_37 : Value) (m_38 : Value) (m_39 : Value) (m_40 : Value) (m_41 : Value) (m_42 : Value) (m_43 : Value) (m_44 : Value) (m_45 : Value) (m_46 : Value) (m_47 : Value) (m_48 : Value) (m_49 : Value) (m_50 : Value) (m_51 : Value) (m_52 : Value) (m_53 : Value) (m_54 : Value) (m_55 : Value) (m_56 : Value) (m_57 : Value) (m_58 : Value) (m_59 : Value) (fw : Nat → Int32) (sz : Nat) (zfw : RwOK fw) : Met l yX12_soundWith wsX12_soundWith ({ frames := 2, cells := 0, slots := 0, locals := 46 }) (va_Pc [.ref m0, .int x] (Pre D K [(m0, .inr (12, [m_0, m_1, m_2, .ref w0, m_4, m_5, m_6, m_7, m_8, m_9, m_10, m_11, m_12, m_13, m_14, m_15, m_16, m_17, m_18, m_19, m_20, m_21, m_22, m_23, m_24, m_25, m_26, m_27, m_28, m_29, m_30, m_31, m_32, m_33, m_34, m_35, m_36, m_37, m_38, m_39, m_40, m_41, m_42, m_43, m_44, m_45, m_46, m_47, m_48, m_49, m_50, m_51, m_52, m_53, m_54, m_55, m_56, m_57, m_58, m_59])), (w0, .inl (K 0, 5500, .inl fw))] sz)) (vp_Si (fun r : Int32 => (0 ≤ r.toInt ∧ r.toInt ≤ 8) ∧ True)) 0 0 (fun _ => False) := by
  refine Met.ofW (cc := cX12_soundWith) (maxL := 4) (ret := (some .int)) (by decide) rfl ?_
  intro p e s m args below meth c s₁ B hml hv
  obtain ⟨rfl, hsz, hP, hK, hD0, hN⟩ := hv
  have hx := B.exec
  have hb := B.bytes
  have hr := B.returns
  have hts := atoms_spec (ws := wsX12_soundWith) B.pre
  have hown : s.vm.findClass RX12 = some m.cls := findClass_of_methodNamed B.named
  have hlocks := B.notSynchronized
  subst hsz
  have hD := hD0
  have hP : va_P D vwCl [(m0, .inr (12, [m_0, m_1, m_2, .ref w0, m_4, m_5, m_6, m_7, m_8, m_9, m_10, m_11, m_12, m_13, m_14, m_15, m_16, m_17, m_18, m_19, m_20, m_21, m_22, m_23, m_24, m_25, m_26, m_27, m_28, m_29, m_30, m_31, m_32, m_33, m_34, m_35, m_36, m_37, m_38, m_39, m_40, m_41, m_42, m_43, m_44, m_45, m_46, m_47, m_48, m_49, m_50, m_51, m_52, m_53, m_54, m_55, m_56, m_57, m_58, m_59])), (w0, .inl (K 0, 5500, .inl fw))] s.heap := hP
  have hl := lv_entry [.ref m0, .int x] (n := 4) (Nat.le_of_ble_eq_true rfl)
  rw [lg_entry_eq]
  generalize (lg_sl [.ref m0, .int x] ++ List.replicate (4 - (lg_sl [.ref m0, .int x]).length) Slot.unset).toArray = ls at hl ⊢
  have hl : lv_has ls 4 [(0, .ref m0), (1, .int x)] := hl
  have hw12 : ∀ w ∈ wsX120, w ∈ wsX12_soundWith := fun w h => (List.mem_cons_of_mem _ (List.mem_append_right _ h))
  generalize hQ : MQ below _ _ s _ _ _ = Q
  refine lv_iconst (v := 0) hx hb dX12_soundWith_0 (by decide) ?_
  refine lv_istore_n (lv' := [(2, .int 0), (0, .ref m0), (1, .int x)]) hx hb dX12_soundWith_1 rfl hl (by decide) rfl (fun ls hl => ?_)
  refine lv_iconst (v := 0) hx hb dX12_soundWith_2 (by decide) ?_
  refine lv_istore_n (lv' := [(3, .int 0), (2, .int 0), (0, .ref m0), (1, .int x)]) hx hb dX12_soundWith_3 rfl hl (by decide) rfl (fun ls hl => ?_)
  have lp_370 : ∀ (nn_ : Nat) (v_338 : Int32) (v_339 : Int32) (hv_338 : 0 ≤ v_338.toInt ∧ v_338.toInt ≤ 8) (hv_339 : 0 ≤ v_339.toInt ∧ v_339.toInt ≤ 8) (hr0_lp_370 : 0 ≤ v_339.toInt ∧ v_339.toInt ≤ v_338.toInt) (hn : (9 - v_338.toInt : Int).toNat < nn_) (ls : Array Slot) (hl : lv_has ls 4 [(3, .int v_338), (2, .int v_339), (0, .ref m0), (1, .int x)]), W p l e ({ frames := 2, cells := 0, slots := 0, locals := 46 }) s m (([.ref m0, .int x] : List Value).toArray) below meth c s.heap [] 0 0 Q (F0 m 4 ls []) := by
    intro nn_
    induction nn_ with
    | zero =>
      intro v_338 v_339 hv_338 hv_339 hr0_lp_370 hn ls hl
      exact absurd hn (Nat.not_lt_zero _)
    | succ nn_ ih_371 =>
      intro v_338 v_339 hv_338 hv_339 hr0_lp_370 hn ls hl
      refine lv_iload_n hx hb dX12_soundWith_4 rfl (lv_at hl 0 rfl) ?_
      refine lv_aload_n hx hb dX12_soundWith_5 rfl (lv_at hl 2 rfl) ?_
      refine va_get (ci := 12) (v := .ref w0) (C := RX12) (T := TX12) (N := 60) hx hb hts hw12 hown hK hP 0 rfl rfl 3 (by decide) (hts (.fieldLink RX12 13 "SmokeTuneModel" "row" "[I") (List.mem_cons_of_mem _ (List.mem_append_left _ (List.mem_of_getElem? (i := 0) rfl)))) (fun _ h9 => h9) rfl dX12_soundWith_6 ?_
      refine lv_iconst (v := 0) hx hb dX12_soundWith_9 (by decide) ?_
      refine va_iald hx hb hK hP 1 0 rfl rfl (i_in (x := 0) rfl (by omega)) dX12_soundWith_10 ?_
      refine lv_topi (fun x_372 ex_372 => ?_)
      have px_372 := RwOK.at zfw (show (0 : Int32).toInt = 0 from rfl) (show 0 ≤ 0 ∧ 0 < 100 by omega)
      rw [← ex_372] at px_372
      have hx_372 := PR.r_0 px_372 (by omega)
      refine lv_icmp_ge (tgt := 49) hx hb dX12_soundWith_11 (by decide) (fun c_373 => ?_) (fun c_373 => ?_)
      · have c_373i := i_le (x := x_372.toInt) (y := v_338.toInt) rfl rfl c_373
        refine lv_iload_n hx hb dX12_soundWith_49 rfl (lv_at hl 1 rfl) ?_
        rw [← hQ]
        exact W.iret (v := v_339) hx hb hr (fun t ht hW => ⟨_, rfl, ⟨(show 0 ≤ v_339.toInt ∧ v_339.toInt ≤ 8 by omega), trivial⟩, ht⟩) (fun q hq => by cases hq) dX12_soundWith_50
      · have c_373i := i_nle (x := x_372.toInt) (y := v_338.toInt) rfl rfl c_373
        refine lv_iload_n hx hb dX12_soundWith_14 rfl (lv_at hl 1 rfl) ?_
        refine lv_aload_n hx hb dX12_soundWith_15 rfl (lv_at hl 2 rfl) ?_
        refine va_get (ci := 12) (v := .ref w0) (C := RX12) (T := TX12) (N := 60) hx hb hts hw12 hown hK hP 0 rfl rfl 3 (by decide) (hts (.fieldLink RX12 13 "SmokeTuneModel" "row" "[I") (List.mem_cons_of_mem _ (List.mem_append_left _ (List.mem_of_getElem? (i := 0) rfl)))) (fun _ h9 => h9) rfl dX12_soundWith_16 ?_
        refine lv_bipush (v := 35) hx hb dX12_soundWith_19 (by decide) ?_
        refine lv_iload_n hx hb dX12_soundWith_21 rfl (lv_at hl 0 rfl) ?_
        refine lv_iadd hx hb dX12_soundWith_22 ?_
        refine lv_topi (fun x_374 ex_374 => ?_)
        have hx_374 : x_374.toInt = (35 + v_338.toInt) := by rw [ex_374]; exact i_add (show (35 : Int32).toInt = 35 from rfl) rfl (by omega)
        refine va_iald hx hb hK hP 1 0 rfl rfl (i_in hx_374 (by omega)) dX12_soundWith_23 ?_
        refine lv_topi (fun x_375 ex_375 => ?_)
        have px_375 := RwOK.at zfw hx_374 (show 0 ≤ (35 + v_338.toInt) ∧ (35 + v_338.toInt) < 100 by omega)
        rw [← ex_375] at px_375
        have hx_375 := PR.r_35 px_375 (by omega)
        refine lv_iload_n hx hb dX12_soundWith_24 rfl (lv_at hl 3 rfl) ?_
        refine lv_icmp_ne (tgt := 40) hx hb dX12_soundWith_25 (by decide) (fun c_376 => ?_) (fun c_376 => ?_)
        · have c_376i := i_ne (x := x_375.toInt) (y := x.toInt) rfl rfl c_376
          refine lv_iconst (v := 0) hx hb dX12_soundWith_40 (by decide) ?_
          refine lv_iadd hx hb dX12_soundWith_41 ?_
          refine lv_topi (fun x_377 ex_377 => ?_)
          have hx_377 : x_377.toInt = (v_339.toInt + 0) := by rw [ex_377]; exact i_add rfl (show (0 : Int32).toInt = 0 from rfl) (by omega)
          refine lv_istore_n (lv' := [(2, .int x_377), (3, .int v_338), (0, .ref m0), (1, .int x)]) hx hb dX12_soundWith_42 rfl hl (by decide) rfl (fun ls hl => ?_)
          obtain ⟨x_378, ex_378⟩ : ∃ y : Int32, y = v_338 + Int32.ofInt 1 := ⟨_, rfl⟩
          have hx_378 : x_378.toInt = (v_338.toInt + 1) := by rw [ex_378]; exact i_add rfl (show (Int32.ofInt 1).toInt = 1 from rfl) (by omega)
          refine lv_iinc (v := x_378) (lv' := [(3, .int x_378), (2, .int x_377), (0, .ref m0), (1, .int x)]) hx hb dX12_soundWith_43 hl (k := 1) rfl (by rw [ex_378]) (by decide) rfl (fun ls hl => ?_)
          refine lv_goto (tgt := 4) hx hb dX12_soundWith_46 (by decide) ?_
          exact ih_371 x_378 x_377 (by rw [hx_378]; omega) (by rw [hx_377]; omega) (show 0 ≤ (x_377 : Int32).toInt ∧ (x_377 : Int32).toInt ≤ (x_378 : Int32).toInt by omega) (by omega) ls (lv_sub hl [0, 1, 2, 3] rfl)
        · have c_376i := i_eq (x := x_375.toInt) (y := x.toInt) rfl rfl c_376
          refine lv_aload_n hx hb dX12_soundWith_28 rfl (lv_at hl 2 rfl) ?_
          refine lv_iload_n hx hb dX12_soundWith_29 rfl (lv_at hl 0 rfl) ?_
          refine pci (va_runV (As := [.int v_338]) (rest := [.int v_339]) ⟨hx, hb, hml, hown, hts⟩ (v_isSounding l D K m0 v_338 m_0 m_1 m_2 w0 m_4 m_5 m_6 m_7 m_8 m_9 m_10 m_11 m_12 m_13 m_14 m_15 m_16 m_17 m_18 m_19 m_20 m_21 m_22 m_23 m_24 m_25 m_26 m_27 m_28 m_29 m_30 m_31 m_32 m_33 m_34 m_35 m_36 m_37 m_38 m_39 m_40 m_41 m_42 m_43 m_44 m_45 m_46 m_47 m_48 m_49 m_50 m_51 m_52 m_53 m_54 m_55 m_56 m_57 m_58 m_59 fw s.heap.size (by first | omega | decide) zfw) (cwV 1 hts gX12_soundWith_X12_isSounding rfl rfl rfl (by decide +kernel) ⟨Nat.le_of_ble_eq_true rfl, Nat.le_of_ble_eq_true rfl⟩) (mkV hK hN (hP.sub [0, 1] rfl) (hD.sub [0, 1] (by decide) rfl) (ci := 12) (q0 := 0) rfl rfl) rfl rfl hl.1 rfl (lv_room (Nat.le_of_ble_eq_true rfl)) dX12_soundWith_30 ⟨Nat.le_of_ble_eq_true rfl, Nat.le_of_ble_eq_true rfl⟩) (fun r_379 hw => ?_)
          obtain ⟨h_380, -⟩ := hw
          refine lv_if_eq (tgt := 40) hx hb dX12_soundWith_33 (by decide) (fun c_381 => ?_) (fun c_381 => ?_)
          · have c_381i := i_eq (x := r_379.toInt) (y := 0) rfl rfl c_381
            refine lv_iconst (v := 0) hx hb dX12_soundWith_40 (by decide) ?_
            refine lv_iadd hx hb dX12_soundWith_41 ?_
            refine lv_topi (fun x_382 ex_382 => ?_)
            have hx_382 : x_382.toInt = (v_339.toInt + 0) := by rw [ex_382]; exact i_add rfl (show (0 : Int32).toInt = 0 from rfl) (by omega)
            refine lv_istore_n (lv' := [(2, .int x_382), (3, .int v_338), (0, .ref m0), (1, .int x)]) hx hb dX12_soundWith_42 rfl hl (by decide) rfl (fun ls hl => ?_)
            obtain ⟨x_383, ex_383⟩ : ∃ y : Int32, y = v_338 + Int32.ofInt 1 := ⟨_, rfl⟩
            have hx_383 : x_383.toInt = (v_338.toInt + 1) := by rw [ex_383]; exact i_add rfl (show (Int32.ofInt 1).toInt = 1 from rfl) (by omega)
            refine lv_iinc (v := x_383) (lv' := [(3, .int x_383), (2, .int x_382), (0, .ref m0), (1, .int x)]) hx hb dX12_soundWith_43 hl (k := 1) rfl (by rw [ex_383]) (by decide) rfl (fun ls hl => ?_)
            refine lv_goto (tgt := 4) hx hb dX12_soundWith_46 (by decide) ?_
            exact ih_371 x_383 x_382 (by rw [hx_383]; omega) (by rw [hx_382]; omega) (show 0 ≤ (x_382 : Int32).toInt ∧ (x_382 : Int32).toInt ≤ (x_383 : Int32).toInt by omega) (by omega) ls (lv_sub hl [0, 1, 2, 3] rfl)
          · have c_381i := i_ne (x := r_379.toInt) (y := 0) rfl rfl c_381
            refine lv_iconst (v := 1) hx hb dX12_soundWith_36 (by decide) ?_
            refine lv_goto (tgt := 41) hx hb dX12_soundWith_37 (by decide) ?_
            refine lv_iadd hx hb dX12_soundWith_41 ?_
            refine lv_topi (fun x_384 ex_384 => ?_)
            have hx_384 : x_384.toInt = (v_339.toInt + 1) := by rw [ex_384]; exact i_add rfl (show (1 : Int32).toInt = 1 from rfl) (by omega)
            refine lv_istore_n (lv' := [(2, .int x_384), (3, .int v_338), (0, .ref m0), (1, .int x)]) hx hb dX12_soundWith_42 rfl hl (by decide) rfl (fun ls hl => ?_)
            obtain ⟨x_385, ex_385⟩ : ∃ y : Int32, y = v_338 + Int32.ofInt 1 := ⟨_, rfl⟩
            have hx_385 : x_385.toInt = (v_338.toInt + 1) := by rw [ex_385]; exact i_add rfl (show (Int32.ofInt 1).toInt = 1 from rfl) (by omega)
            refine lv_iinc (v := x_385) (lv' := [(3, .int x_385), (2, .int x_384), (0, .ref m0), (1, .int x)]) hx hb dX12_soundWith_43 hl (k := 1) rfl (by rw [ex_385]) (by decide) rfl (fun ls hl => ?_)
            refine lv_goto (tgt := 4) hx hb dX12_soundWith_46 (by decide) ?_
            exact ih_371 x_385 x_384 (by rw [hx_385]; omega) (by rw [hx_384]; omega) (show 0 ≤ (x_384 : Int32).toInt ∧ (x_384 : Int32).toInt ≤ (x_385 : Int32).toInt by omega) (by omega) ls (lv_sub hl [0, 1, 2, 3] rfl)
  have hz_386 : (0 : Int32).toInt = 0 := rfl
  have hz_387 : (0 : Int32).toInt = 0 := rfl
  exact lp_370 ((9 - (0 : Int32).toInt : Int).toNat + 1) 0 0 (by decide) (by decide) (show 0 ≤ (0 : Int32).toInt ∧ (0 : Int32).toInt ≤ (0 : Int32).toInt by omega) (Nat.lt_succ_self _) ls (lv_sub hl [0, 1, 2, 3] rfl)
set_option maxHeartbeats 4000000 in
set_option maxRecDepth 100000 in
theorem v_soundingNotes (l : Launch) (D : va_G) (K : Nat → ClassId) (m0 : Nat) (m_0 : Value) (m_1 : Value) (m_2 : Value) (w0 : Nat) (m_4 : Value) (m_5 : Value) (m_6 : Value) (m_7 : Value) (m_8 : Value) (m_9 : Value) (m_10 : Value) (m_11 : Value) (m_12 : Value) (m_13 : Value) (m_14 : Value) (m_15 : Value) (m_16 : Value) (m_17 : Value) (m_18 : Value) (m_19 : Value) (m_20 : Value) (m_21 : Value) (m_22 : Value) (m_23 : Value) (m_24 : Value) (m_25 : Value) (m_26 : Value) (m_27 : Value) (m_28 : Value) (m_29 : Value) (m_30 : Value) (m_31 : Value) (m_32 : Value) (m_33 : Value) (m_34 : Value) (m_35 : Value) (m_36 : Value) (m_37 : Value) (m_38 : Value) (m_39 : Value) (m_40 : Value) (m_41 : Value) (m_42 : Value) (m_43 : Value) (m_44 : Value) (m_45 : Value) (m_46 : Value) (m_47 : Value) (m_48 : Value) (m_49 : Value) (m_50 : Value) (m_51 : Value) (m_52 : Value) (m_53 : Value) (m_54 : Value) (m_55 : Value) (m_56 : Value) (m_57 : Value) (m_58 : Value) (m_59 : Value) (fw : Nat → Int32) (sz : Nat) (zfw : RwOK fw) : Met l yX12_soundingNotes wsX12_soundingNotes ({ frames := 2, cells := 0, slots := 0, locals := 46 }) (va_Pc [.ref m0] (Pre D K [(m0, .inr (12, [m_0, m_1, m_2, .ref w0, m_4, m_5, m_6, m_7, m_8, m_9, m_10, m_11, m_12, m_13, m_14, m_15, m_16, m_17, m_18, m_19, m_20, m_21, m_22, m_23, m_24, m_25, m_26, m_27, m_28, m_29, m_30, m_31, m_32, m_33, m_34, m_35, m_36, m_37, m_38, m_39, m_40, m_41, m_42, m_43, m_44, m_45, m_46, m_47, m_48, m_49, m_50, m_51, m_52, m_53, m_54, m_55, m_56, m_57, m_58, m_59])), (w0, .inl (K 0, 5500, .inl fw))] sz)) (vp_Si (fun r : Int32 => (0 ≤ r.toInt ∧ r.toInt ≤ 127) ∧ True)) 0 0 (fun _ => False) := by
  refine Met.ofW (cc := cX12_soundingNotes) (maxL := 3) (ret := (some .int)) (by decide) rfl ?_
  intro p e s m args below meth c s₁ B hml hv
  obtain ⟨rfl, hsz, hP, hK, hD0, hN⟩ := hv
  have hx := B.exec
  have hb := B.bytes
  have hr := B.returns
  have hts := atoms_spec (ws := wsX12_soundingNotes) B.pre
  have hown : s.vm.findClass RX12 = some m.cls := findClass_of_methodNamed B.named
  have hlocks := B.notSynchronized
  subst hsz
  have hD := hD0
  have hP : va_P D vwCl [(m0, .inr (12, [m_0, m_1, m_2, .ref w0, m_4, m_5, m_6, m_7, m_8, m_9, m_10, m_11, m_12, m_13, m_14, m_15, m_16, m_17, m_18, m_19, m_20, m_21, m_22, m_23, m_24, m_25, m_26, m_27, m_28, m_29, m_30, m_31, m_32, m_33, m_34, m_35, m_36, m_37, m_38, m_39, m_40, m_41, m_42, m_43, m_44, m_45, m_46, m_47, m_48, m_49, m_50, m_51, m_52, m_53, m_54, m_55, m_56, m_57, m_58, m_59])), (w0, .inl (K 0, 5500, .inl fw))] s.heap := hP
  have hl := lv_entry [.ref m0] (n := 3) (Nat.le_of_ble_eq_true rfl)
  rw [lg_entry_eq]
  generalize (lg_sl [.ref m0] ++ List.replicate (3 - (lg_sl [.ref m0]).length) Slot.unset).toArray = ls at hl ⊢
  have hl : lv_has ls 3 [(0, .ref m0)] := hl
  have hw12 : ∀ w ∈ wsX120, w ∈ wsX12_soundingNotes := fun w h => (List.mem_cons_of_mem _ (List.mem_append_right _ h))
  generalize hQ : MQ below _ _ s _ _ _ = Q
  refine lv_iconst (v := 0) hx hb dX12_soundingNotes_0 (by decide) ?_
  refine lv_istore_n (lv' := [(1, .int 0), (0, .ref m0)]) hx hb dX12_soundingNotes_1 rfl hl (by decide) rfl (fun ls hl => ?_)
  refine lv_iconst (v := 0) hx hb dX12_soundingNotes_2 (by decide) ?_
  refine lv_istore_n (lv' := [(2, .int 0), (1, .int 0), (0, .ref m0)]) hx hb dX12_soundingNotes_3 rfl hl (by decide) rfl (fun ls hl => ?_)
  have lp_329 : ∀ (nn_ : Nat) (v_301 : Int32) (v_302 : Int32) (hv_301 : 0 ≤ v_301.toInt ∧ v_301.toInt ≤ 8) (hv_302 : 0 ≤ v_302.toInt ∧ v_302.toInt ≤ 127) (hn : (9 - v_301.toInt : Int).toNat < nn_) (ls : Array Slot) (hl : lv_has ls 3 [(2, .int v_301), (1, .int v_302), (0, .ref m0)]), W p l e ({ frames := 2, cells := 0, slots := 0, locals := 46 }) s m (([.ref m0] : List Value).toArray) below meth c s.heap [] 0 0 Q (F0 m 4 ls []) := by
    intro nn_
    induction nn_ with
    | zero =>
      intro v_301 v_302 hv_301 hv_302 hn ls hl
      exact absurd hn (Nat.not_lt_zero _)
    | succ nn_ ih_330 =>
      intro v_301 v_302 hv_301 hv_302 hn ls hl
      refine lv_iload_n hx hb dX12_soundingNotes_4 rfl (lv_at hl 0 rfl) ?_
      refine lv_aload_n hx hb dX12_soundingNotes_5 rfl (lv_at hl 2 rfl) ?_
      refine va_get (ci := 12) (v := .ref w0) (C := RX12) (T := TX12) (N := 60) hx hb hts hw12 hown hK hP 0 rfl rfl 3 (by decide) (hts (.fieldLink RX12 13 "SmokeTuneModel" "row" "[I") (List.mem_cons_of_mem _ (List.mem_append_left _ (List.mem_of_getElem? (i := 0) rfl)))) (fun _ h9 => h9) rfl dX12_soundingNotes_6 ?_
      refine lv_iconst (v := 0) hx hb dX12_soundingNotes_9 (by decide) ?_
      refine va_iald hx hb hK hP 1 0 rfl rfl (i_in (x := 0) rfl (by omega)) dX12_soundingNotes_10 ?_
      refine lv_topi (fun x_331 ex_331 => ?_)
      have px_331 := RwOK.at zfw (show (0 : Int32).toInt = 0 from rfl) (show 0 ≤ 0 ∧ 0 < 100 by omega)
      rw [← ex_331] at px_331
      have hx_331 := PR.r_0 px_331 (by omega)
      refine lv_icmp_ge (tgt := 46) hx hb dX12_soundingNotes_11 (by decide) (fun c_332 => ?_) (fun c_332 => ?_)
      · have c_332i := i_le (x := x_331.toInt) (y := v_301.toInt) rfl rfl c_332
        refine lv_iload_n hx hb dX12_soundingNotes_46 rfl (lv_at hl 1 rfl) ?_
        rw [← hQ]
        exact W.iret (v := v_302) hx hb hr (fun t ht hW => ⟨_, rfl, ⟨(show 0 ≤ v_302.toInt ∧ v_302.toInt ≤ 127 by omega), trivial⟩, ht⟩) (fun q hq => by cases hq) dX12_soundingNotes_47
      · have c_332i := i_nle (x := x_331.toInt) (y := v_301.toInt) rfl rfl c_332
        refine lv_iload_n hx hb dX12_soundingNotes_14 rfl (lv_at hl 1 rfl) ?_
        refine lv_aload_n hx hb dX12_soundingNotes_15 rfl (lv_at hl 2 rfl) ?_
        refine lv_iload_n hx hb dX12_soundingNotes_16 rfl (lv_at hl 0 rfl) ?_
        refine pci (va_runV (As := [.int v_301]) (rest := [.int v_302]) ⟨hx, hb, hml, hown, hts⟩ (v_isSounding l D K m0 v_301 m_0 m_1 m_2 w0 m_4 m_5 m_6 m_7 m_8 m_9 m_10 m_11 m_12 m_13 m_14 m_15 m_16 m_17 m_18 m_19 m_20 m_21 m_22 m_23 m_24 m_25 m_26 m_27 m_28 m_29 m_30 m_31 m_32 m_33 m_34 m_35 m_36 m_37 m_38 m_39 m_40 m_41 m_42 m_43 m_44 m_45 m_46 m_47 m_48 m_49 m_50 m_51 m_52 m_53 m_54 m_55 m_56 m_57 m_58 m_59 fw s.heap.size (by first | omega | decide) zfw) (cwV 1 hts gX12_soundingNotes_X12_isSounding rfl rfl rfl (by decide +kernel) ⟨Nat.le_of_ble_eq_true rfl, Nat.le_of_ble_eq_true rfl⟩) (mkV hK hN (hP.sub [0, 1] rfl) (hD.sub [0, 1] (by decide) rfl) (ci := 12) (q0 := 0) rfl rfl) rfl rfl hl.1 rfl (lv_room (Nat.le_of_ble_eq_true rfl)) dX12_soundingNotes_17 ⟨Nat.le_of_ble_eq_true rfl, Nat.le_of_ble_eq_true rfl⟩) (fun r_333 hw => ?_)
        obtain ⟨h_334, -⟩ := hw
        refine lv_if_eq (tgt := 37) hx hb dX12_soundingNotes_20 (by decide) (fun c_335 => ?_) (fun c_335 => ?_)
        · have c_335i := i_eq (x := r_333.toInt) (y := 0) rfl rfl c_335
          refine lv_iconst (v := 0) hx hb dX12_soundingNotes_37 (by decide) ?_
          refine lv_ior hx hb dX12_soundingNotes_38 ?_
          refine lv_topi (fun x_336 ex_336 => ?_)
          have hx_336 : 0 ≤ x_336.toInt ∧ x_336.toInt < 128 := by rw [ex_336]; exact i_or (k := 7) rfl (show (0 : Int32).toInt = 0 from rfl) (by decide) (by omega) (by omega)
          refine lv_istore_n (lv' := [(1, .int x_336), (2, .int v_301), (0, .ref m0)]) hx hb dX12_soundingNotes_39 rfl hl (by decide) rfl (fun ls hl => ?_)
          obtain ⟨x_337, ex_337⟩ : ∃ y : Int32, y = v_301 + Int32.ofInt 1 := ⟨_, rfl⟩
          have hx_337 : x_337.toInt = (v_301.toInt + 1) := by rw [ex_337]; exact i_add rfl (show (Int32.ofInt 1).toInt = 1 from rfl) (by omega)
          refine lv_iinc (v := x_337) (lv' := [(2, .int x_337), (1, .int x_336), (0, .ref m0)]) hx hb dX12_soundingNotes_40 hl (k := 1) rfl (by rw [ex_337]) (by decide) rfl (fun ls hl => ?_)
          refine lv_goto (tgt := 4) hx hb dX12_soundingNotes_43 (by decide) ?_
          exact ih_330 x_337 x_336 (by rw [hx_337]; omega) (by omega) (by omega) ls (lv_sub hl [0, 1, 2] rfl)
        · have c_335i := i_ne (x := r_333.toInt) (y := 0) rfl rfl c_335
          refine lv_iconst (v := 1) hx hb dX12_soundingNotes_23 (by decide) ?_
          refine lv_aload_n hx hb dX12_soundingNotes_24 rfl (lv_at hl 2 rfl) ?_
          refine va_get (ci := 12) (v := .ref w0) (C := RX12) (T := TX12) (N := 60) hx hb hts hw12 hown hK hP 0 rfl rfl 3 (by decide) (hts (.fieldLink RX12 13 "SmokeTuneModel" "row" "[I") (List.mem_cons_of_mem _ (List.mem_append_left _ (List.mem_of_getElem? (i := 0) rfl)))) (fun _ h9 => h9) rfl dX12_soundingNotes_25 ?_
          refine lv_bipush (v := 35) hx hb dX12_soundingNotes_28 (by decide) ?_
          refine lv_iload_n hx hb dX12_soundingNotes_30 rfl (lv_at hl 0 rfl) ?_
          refine lv_iadd hx hb dX12_soundingNotes_31 ?_
          refine lv_topi (fun x_338 ex_338 => ?_)
          have hx_338 : x_338.toInt = (35 + v_301.toInt) := by rw [ex_338]; exact i_add (show (35 : Int32).toInt = 35 from rfl) rfl (by omega)
          refine va_iald hx hb hK hP 1 0 rfl rfl (i_in hx_338 (by omega)) dX12_soundingNotes_32 ?_
          refine lv_topi (fun x_339 ex_339 => ?_)
          have px_339 := RwOK.at zfw hx_338 (show 0 ≤ (35 + v_301.toInt) ∧ (35 + v_301.toInt) < 100 by omega)
          rw [← ex_339] at px_339
          have hx_339 := PR.r_35 px_339 (by omega)
          refine lv_ishl hx hb dX12_soundingNotes_33 ?_
          refine lv_topi (fun x_340 ex_340 => ?_)
          have hx_340 : 1 ≤ x_340.toInt ∧ x_340.toInt ≤ 64 := by rw [ex_340]; exact i_shl1 rfl (n := 6) (by decide) (by omega)
          refine lv_goto (tgt := 38) hx hb dX12_soundingNotes_34 (by decide) ?_
          refine lv_ior hx hb dX12_soundingNotes_38 ?_
          refine lv_topi (fun x_341 ex_341 => ?_)
          have hx_341 : 0 ≤ x_341.toInt ∧ x_341.toInt < 128 := by rw [ex_341]; exact i_or (k := 7) rfl rfl (by decide) (by omega) (by omega)
          refine lv_istore_n (lv' := [(1, .int x_341), (2, .int v_301), (0, .ref m0)]) hx hb dX12_soundingNotes_39 rfl hl (by decide) rfl (fun ls hl => ?_)
          obtain ⟨x_342, ex_342⟩ : ∃ y : Int32, y = v_301 + Int32.ofInt 1 := ⟨_, rfl⟩
          have hx_342 : x_342.toInt = (v_301.toInt + 1) := by rw [ex_342]; exact i_add rfl (show (Int32.ofInt 1).toInt = 1 from rfl) (by omega)
          refine lv_iinc (v := x_342) (lv' := [(2, .int x_342), (1, .int x_341), (0, .ref m0)]) hx hb dX12_soundingNotes_40 hl (k := 1) rfl (by rw [ex_342]) (by decide) rfl (fun ls hl => ?_)
          refine lv_goto (tgt := 4) hx hb dX12_soundingNotes_43 (by decide) ?_
          exact ih_330 x_342 x_341 (by rw [hx_342]; omega) (by omega) (by omega) ls (lv_sub hl [0, 1, 2] rfl)
  exact lp_329 ((9 - (0 : Int32).toInt : Int).toNat + 1) 0 0 (by decide) (by decide) (Nat.lt_succ_self _) ls (lv_sub hl [0, 1, 2] rfl)
set_option maxHeartbeats 4000000 in
set_option maxRecDepth 100000 in
theorem v_areBeside (l : Launch) (D : va_G) (K : Nat → ClassId) (x : Int32) (y : Int32) (sz : Nat) : Met l yX12_areBeside wsX12_areBeside ({ frames := 0, cells := 0, slots := 0, locals := 0 }) (va_Pc [.int x, .int y] (Pre D K [] sz)) (vp_Si (fun r : Int32 => (0 ≤ r.toInt ∧ r.toInt ≤ 1) ∧ True)) 0 0 (fun _ => False) := by
  refine Met.ofW (cc := cX12_areBeside) (maxL := 3) (ret := (some .boolean)) (by decide) rfl ?_
  intro p e s m args below meth c s₁ B hml hv
  obtain ⟨rfl, hsz, hP, hK, hD0, hN⟩ := hv
  have hx := B.exec
  have hb := B.bytes
  have hr := B.returns
  have hts := atoms_spec (ws := wsX12_areBeside) B.pre
  have hown : s.vm.findClass RX12 = some m.cls := findClass_of_methodNamed B.named
  have hlocks := B.notSynchronized
  subst hsz
  have hD := hD0
  have hP : va_P D vwCl [] s.heap := hP
  have hl := lv_entry [.int x, .int y] (n := 3) (Nat.le_of_ble_eq_true rfl)
  rw [lg_entry_eq]
  generalize (lg_sl [.int x, .int y] ++ List.replicate (3 - (lg_sl [.int x, .int y]).length) Slot.unset).toArray = ls at hl ⊢
  have hl : lv_has ls 3 [(0, .int x), (1, .int y)] := hl
  generalize hQ : MQ below _ _ s _ _ _ = Q
  refine lv_iload_n hx hb dX12_areBeside_0 rfl (lv_at hl 0 rfl) ?_
  refine lv_iload_n hx hb dX12_areBeside_1 rfl (lv_at hl 1 rfl) ?_
  refine lv_isub hx hb dX12_areBeside_2 ?_
  refine lv_topi (fun x_77 ex_77 => ?_)
  refine lv_bipush (v := 7) hx hb dX12_areBeside_3 (by decide) ?_
  refine lv_iadd hx hb dX12_areBeside_5 ?_
  refine lv_topi (fun x_78 ex_78 => ?_)
  refine lv_bipush (v := 7) hx hb dX12_areBeside_6 (by decide) ?_
  refine lv_irem hx hb dX12_areBeside_8 (by decide) ?_
  refine lv_topi (fun x_79 ex_79 => ?_)
  refine lv_istore_n (lv' := [(2, .int x_79), (0, .int x), (1, .int y)]) hx hb dX12_areBeside_9 rfl hl (by decide) rfl (fun ls hl => ?_)
  refine lv_iload_n hx hb dX12_areBeside_10 rfl (lv_at hl 0 rfl) ?_
  refine lv_iconst (v := 1) hx hb dX12_areBeside_11 (by decide) ?_
  have j_82 : ∀ (ls : Array Slot) (hl : lv_has ls 3 []), W p l e ({ frames := 0, cells := 0, slots := 0, locals := 0 }) s m (([.int x, .int y] : List Value).toArray) below meth c s.heap [] 0 0 Q (F0 m 21 ls []) := by
    intro ls hl
    refine lv_iconst (v := 1) hx hb dX12_areBeside_21 (by decide) ?_
    refine lv_goto (tgt := 26) hx hb dX12_areBeside_22 (by decide) ?_
    rw [← hQ]
    exact W.zret (v := 1) hx hb hr (by decide) (fun t ht hW => ⟨_, rfl, ⟨(show 0 ≤ (1 : Int32).toInt ∧ (1 : Int32).toInt ≤ 1 by decide), trivial⟩, ht⟩) (fun q hq => by cases hq) dX12_areBeside_26
  refine lv_icmp_eq (tgt := 21) hx hb dX12_areBeside_12 (by decide) (fun c_83 => ?_) (fun c_83 => ?_)
  · have c_83i := i_eq (x := x_79.toInt) (y := 1) rfl rfl c_83
    exact j_82   ls (lv_sub hl [] rfl)
  · have c_83i := i_ne (x := x_79.toInt) (y := 1) rfl rfl c_83
    refine lv_iload_n hx hb dX12_areBeside_15 rfl (lv_at hl 0 rfl) ?_
    refine lv_bipush (v := 6) hx hb dX12_areBeside_16 (by decide) ?_
    refine lv_icmp_ne (tgt := 25) hx hb dX12_areBeside_18 (by decide) (fun c_84 => ?_) (fun c_84 => ?_)
    · have c_84i := i_ne (x := x_79.toInt) (y := 6) rfl rfl c_84
      refine lv_iconst (v := 0) hx hb dX12_areBeside_25 (by decide) ?_
      rw [← hQ]
      exact W.zret (v := 0) hx hb hr (by decide) (fun t ht hW => ⟨_, rfl, ⟨(show 0 ≤ (0 : Int32).toInt ∧ (0 : Int32).toInt ≤ 1 by decide), trivial⟩, ht⟩) (fun q hq => by cases hq) dX12_areBeside_26
    · have c_84i := i_eq (x := x_79.toInt) (y := 6) rfl rfl c_84
      exact j_82   ls (lv_sub hl [] rfl)
set_option maxHeartbeats 4000000 in
set_option maxRecDepth 100000 in
theorem v_house (l : Launch) (D : va_G) (K : Nat → ClassId) (m0 : Nat) (x0 : Int32) (x1 : Int32) (x2 : Int32) (x3 : Int32) (x4 : Int32) (thr : Int32) (sta : Int32) (r0 : Nat) (w0 : Nat) (m_4 : Value) (m_5 : Value) (m_6 : Value) (m_7 : Value) (nu : Int32) (m_9 : Value) (m_10 : Value) (m_11 : Value) (m_12 : Value) (m_13 : Value) (m_14 : Value) (m_15 : Value) (m_16 : Value) (m_17 : Value) (m_18 : Value) (m_19 : Value) (m_20 : Value) (m_21 : Value) (m_22 : Value) (m_23 : Value) (m_24 : Value) (m_25 : Value) (m_26 : Value) (m_27 : Value) (m_28 : Value) (m_29 : Value) (m_30 : Value) (m_31 : Value) (m_32 : Value) (m_33 : Value) (m_34 : Value) (m_35 : Value) (m_36 : Value) (m_37 : Value) (m_38 : Value) (m_39 : Value) (m_40 : Value) (m_41 : Value) (m_42 : Value) (m_43 : Value) (m_44 : Value) (m_45 : Value) (m_46 : Value) (m_47 : Value) (m_48 : Value) (m_49 : Value) (m_50 : Value) (m_51 : Value) (m_52 : Value) (m_53 : Value) (m_54 : Value) (m_55 : Value) (m_56 : Value) (m_57 : Value) (m_58 : Value) (m_59 : Value) (fw : Nat → Int32) (frf : Nat → Int32) (sz : Nat) (zfw : RwOK fw) : Met l yX12_house wsX12_house ({ frames := 1, cells := 0, slots := 0, locals := 25 }) (va_Pc [.ref m0, .int x0, .int x1, .int x2, .int x3, .int x4] (Pre D K [(m0, .inr (12, [.int thr, .int sta, .ref r0, .ref w0, m_4, m_5, m_6, m_7, .int nu, m_9, m_10, m_11, m_12, m_13, m_14, m_15, m_16, m_17, m_18, m_19, m_20, m_21, m_22, m_23, m_24, m_25, m_26, m_27, m_28, m_29, m_30, m_31, m_32, m_33, m_34, m_35, m_36, m_37, m_38, m_39, m_40, m_41, m_42, m_43, m_44, m_45, m_46, m_47, m_48, m_49, m_50, m_51, m_52, m_53, m_54, m_55, m_56, m_57, m_58, m_59])), (w0, .inl (K 0, 5500, .inl fw)), (r0, .inl (K 0, 7, .inl frf))] sz)) (va_Qi (S := Su) (fun (r : Int32) (u : Su) => ((-6) ≤ r.toInt) ∧ ((-6) ≤ (u.2.2.2.1 0).toInt ∧ (u.2.2.2.1 0).toInt ≤ 0) ∧ (RwOK (u.2.1 0)) ∧ True) (fun u t => Wd D (va_A [(m0, .inr (12, [.int thr, .int sta, .ref r0, .ref w0, m_4, m_5, m_6, m_7, .int nu, m_9, m_10, m_11, m_12, m_13, m_14, m_15, m_16, m_17, m_18, m_19, m_20, m_21, m_22, m_23, m_24, m_25, m_26, m_27, m_28, m_29, m_30, m_31, m_32, m_33, m_34, m_35, m_36, m_37, m_38, m_39, m_40, m_41, m_42, m_43, m_44, m_45, m_46, m_47, m_48, m_49, m_50, m_51, m_52, m_53, m_54, m_55, m_56, m_57, m_58, m_59])), (w0, .inl (K 0, 5500, .inl fw)), (r0, .inl (K 0, 7, .inl frf))] sz) ((fun u => [(m0, .inr (12, [.int 0, .int (u.2.2.2.1 0), .ref r0, .ref w0, m_4, m_5, m_6, m_7, .int (u.2.2.2.1 1), m_9, m_10, m_11, m_12, m_13, m_14, m_15, m_16, m_17, m_18, m_19, m_20, m_21, m_22, m_23, m_24, m_25, m_26, m_27, m_28, m_29, m_30, m_31, m_32, m_33, m_34, m_35, m_36, m_37, m_38, m_39, m_40, m_41, m_42, m_43, m_44, m_45, m_46, m_47, m_48, m_49, m_50, m_51, m_52, m_53, m_54, m_55, m_56, m_57, m_58, m_59])), (w0, .inl (K 0, 5500, .inl (u.2.1 0))), (r0, .inl (K 0, 7, .inl (u.2.1 1)))]) u) t) (va_A [(m0, .inr (12, [.int thr, .int sta, .ref r0, .ref w0, m_4, m_5, m_6, m_7, .int nu, m_9, m_10, m_11, m_12, m_13, m_14, m_15, m_16, m_17, m_18, m_19, m_20, m_21, m_22, m_23, m_24, m_25, m_26, m_27, m_28, m_29, m_30, m_31, m_32, m_33, m_34, m_35, m_36, m_37, m_38, m_39, m_40, m_41, m_42, m_43, m_44, m_45, m_46, m_47, m_48, m_49, m_50, m_51, m_52, m_53, m_54, m_55, m_56, m_57, m_58, m_59])), (w0, .inl (K 0, 5500, .inl fw)), (r0, .inl (K 0, 7, .inl frf))] sz)) 0 0 (va_A [(m0, .inr (12, [.int thr, .int sta, .ref r0, .ref w0, m_4, m_5, m_6, m_7, .int nu, m_9, m_10, m_11, m_12, m_13, m_14, m_15, m_16, m_17, m_18, m_19, m_20, m_21, m_22, m_23, m_24, m_25, m_26, m_27, m_28, m_29, m_30, m_31, m_32, m_33, m_34, m_35, m_36, m_37, m_38, m_39, m_40, m_41, m_42, m_43, m_44, m_45, m_46, m_47, m_48, m_49, m_50, m_51, m_52, m_53, m_54, m_55, m_56, m_57, m_58, m_59])), (w0, .inl (K 0, 5500, .inl fw)), (r0, .inl (K 0, 7, .inl frf))] sz) := by
  refine Met.ofW (cc := cX12_house) (maxL := 8) (ret := (some .int)) (by decide) rfl ?_
  intro p e s m args below meth c s₁ B hml hv
  obtain ⟨rfl, hsz, hP, hK, hD0, hN⟩ := hv
  have hx := B.exec
  have hb := B.bytes
  have hr := B.returns
  have hts := atoms_spec (ws := wsX12_house) B.pre
  have hown : s.vm.findClass RX12 = some m.cls := findClass_of_methodNamed B.named
  have hlocks := B.notSynchronized
  subst hsz
  have hD := hD0.self (sz := s.heap.size)
  generalize hAe : va_A [(m0, .inr (12, [.int thr, .int sta, .ref r0, .ref w0, m_4, m_5, m_6, m_7, .int nu, m_9, m_10, m_11, m_12, m_13, m_14, m_15, m_16, m_17, m_18, m_19, m_20, m_21, m_22, m_23, m_24, m_25, m_26, m_27, m_28, m_29, m_30, m_31, m_32, m_33, m_34, m_35, m_36, m_37, m_38, m_39, m_40, m_41, m_42, m_43, m_44, m_45, m_46, m_47, m_48, m_49, m_50, m_51, m_52, m_53, m_54, m_55, m_56, m_57, m_58, m_59])), (w0, .inl (K 0, 5500, .inl fw)), (r0, .inl (K 0, 7, .inl frf))] s.heap.size = A at hD ⊢
  have hA : ∀ q : Nat, s.heap.size ≤ q → A q := fun q h => by rw [← hAe]; exact Or.inr h
  have hS : va_S A s.heap s.heap [] := va_S.rf
  have hP : va_P D vwCl [(m0, .inr (12, [.int thr, .int sta, .ref r0, .ref w0, m_4, m_5, m_6, m_7, .int nu, m_9, m_10, m_11, m_12, m_13, m_14, m_15, m_16, m_17, m_18, m_19, m_20, m_21, m_22, m_23, m_24, m_25, m_26, m_27, m_28, m_29, m_30, m_31, m_32, m_33, m_34, m_35, m_36, m_37, m_38, m_39, m_40, m_41, m_42, m_43, m_44, m_45, m_46, m_47, m_48, m_49, m_50, m_51, m_52, m_53, m_54, m_55, m_56, m_57, m_58, m_59])), (w0, .inl (K 0, 5500, .inl fw)), (r0, .inl (K 0, 7, .inl frf))] s.heap := hP
  have hl := lv_entry [.ref m0, .int x0, .int x1, .int x2, .int x3, .int x4] (n := 8) (Nat.le_of_ble_eq_true rfl)
  rw [lg_entry_eq]
  generalize (lg_sl [.ref m0, .int x0, .int x1, .int x2, .int x3, .int x4] ++ List.replicate (8 - (lg_sl [.ref m0, .int x0, .int x1, .int x2, .int x3, .int x4]).length) Slot.unset).toArray = ls at hl ⊢
  have hl : lv_has ls 8 [(0, .ref m0), (1, .int x0), (2, .int x1), (3, .int x2), (4, .int x3), (5, .int x4)] := hl
  have hw12 : ∀ w ∈ wsX120, w ∈ wsX12_house := fun w h => (List.mem_cons_of_mem _ (List.mem_append_right _ h))
  generalize hQ : MQ below _ _ s _ _ _ = Q
  refine lv_aload_n hx hb dX12_house_0 rfl (lv_at hl 0 rfl) ?_
  refine lv_iconst (v := 0) hx hb dX12_house_1 (by decide) ?_
  refine va_put (ci := 12) (v := .int 0) (ty := .int) (C := RX12) (T := TX12) (N := 60) hx hb hts hw12 tyX12 tyX12_ok nmX12 hown hK hP hD hS 0 rfl rfl 0 (by decide) (hts (.fieldLink RX12 158 "SmokeTuneModel" "thrown" "I") (List.mem_cons_of_mem _ (List.mem_append_left _ (List.mem_of_getElem? (i := 0) rfl)))) (fun _ h9 => h9) rfl (by decide +kernel) (by first | rfl | decide) (by first | rfl | decide) (Nat.le_of_ble_eq_true rfl) dX12_house_2 (fun H locs hP hD hS => ?_)
  have hP : va_P D vwCl [(m0, .inr (12, [.int 0, .int sta, .ref r0, .ref w0, m_4, m_5, m_6, m_7, .int nu, m_9, m_10, m_11, m_12, m_13, m_14, m_15, m_16, m_17, m_18, m_19, m_20, m_21, m_22, m_23, m_24, m_25, m_26, m_27, m_28, m_29, m_30, m_31, m_32, m_33, m_34, m_35, m_36, m_37, m_38, m_39, m_40, m_41, m_42, m_43, m_44, m_45, m_46, m_47, m_48, m_49, m_50, m_51, m_52, m_53, m_54, m_55, m_56, m_57, m_58, m_59])), (w0, .inl (K 0, 5500, .inl fw)), (r0, .inl (K 0, 7, .inl frf))] H := hP
  have hD : va_D A [(m0, .inr (12, [.int 0, .int sta, .ref r0, .ref w0, m_4, m_5, m_6, m_7, .int nu, m_9, m_10, m_11, m_12, m_13, m_14, m_15, m_16, m_17, m_18, m_19, m_20, m_21, m_22, m_23, m_24, m_25, m_26, m_27, m_28, m_29, m_30, m_31, m_32, m_33, m_34, m_35, m_36, m_37, m_38, m_39, m_40, m_41, m_42, m_43, m_44, m_45, m_46, m_47, m_48, m_49, m_50, m_51, m_52, m_53, m_54, m_55, m_56, m_57, m_58, m_59])), (w0, .inl (K 0, 5500, .inl fw)), (r0, .inl (K 0, 7, .inl frf))] := hD
  refine lv_iload_n hx hb dX12_house_5 rfl (lv_at hl 1 rfl) ?_
  refine lv_i2l hx hb dX12_house_6 rfl ?_
  refine lv_topl (fun x_505 ex_505 => ?_)
  have hx_505 : x_505.toInt = x0.toInt := by rw [ex_505]; exact i_wide rfl
  have hbx_505 := i_rng (a := x0) rfl
  refine lv_lconst (v := 0) hx hb dX12_house_7 (by decide) ?_
  refine lv_ldc2 (v := 6) hx hb hown (hts (.constantLong RX12 189 (6)) (List.mem_cons_of_mem _ (List.mem_append_left _ (List.mem_of_getElem? (i := 1) rfl)))) dX12_house_8 ?_
  have j_616 : ∀ (H : Heap) (locs : List Loc) (hP : va_P D vwCl [(m0, .inr (12, [.int 0, .int sta, .ref r0, .ref w0, m_4, m_5, m_6, m_7, .int nu, m_9, m_10, m_11, m_12, m_13, m_14, m_15, m_16, m_17, m_18, m_19, m_20, m_21, m_22, m_23, m_24, m_25, m_26, m_27, m_28, m_29, m_30, m_31, m_32, m_33, m_34, m_35, m_36, m_37, m_38, m_39, m_40, m_41, m_42, m_43, m_44, m_45, m_46, m_47, m_48, m_49, m_50, m_51, m_52, m_53, m_54, m_55, m_56, m_57, m_58, m_59])), (w0, .inl (K 0, 5500, .inl fw)), (r0, .inl (K 0, 7, .inl frf))] H) (hD : va_D A [(m0, .inr (12, [.int 0, .int sta, .ref r0, .ref w0, m_4, m_5, m_6, m_7, .int nu, m_9, m_10, m_11, m_12, m_13, m_14, m_15, m_16, m_17, m_18, m_19, m_20, m_21, m_22, m_23, m_24, m_25, m_26, m_27, m_28, m_29, m_30, m_31, m_32, m_33, m_34, m_35, m_36, m_37, m_38, m_39, m_40, m_41, m_42, m_43, m_44, m_45, m_46, m_47, m_48, m_49, m_50, m_51, m_52, m_53, m_54, m_55, m_56, m_57, m_58, m_59])), (w0, .inl (K 0, 5500, .inl fw)), (r0, .inl (K 0, 7, .inl frf))]) (hS : va_S A s.heap H locs) (ls : Array Slot) (hl : lv_has ls 8 [(0, .ref m0)]), W p l e ({ frames := 1, cells := 0, slots := 0, locals := 25 }) s m (([.ref m0, .int x0, .int x1, .int x2, .int x3, .int x4] : List Value).toArray) below meth c H locs 0 0 Q (F0 m 67 ls []) := by
    intro H locs hP hD hS ls hl
    refine lv_aload_n hx hb dX12_house_67 rfl (lv_at hl 0 rfl) ?_
    refine lv_iconst (v := (-1)) hx hb dX12_house_68 (by decide) ?_
    refine kci (S := Su) (wr := [(w0, .inl (K 0, 5500, .inl fw))]) (va_runV (As := [.int (-1)]) (rest := []) ⟨hx, hb, hml, hown, hts⟩ (v_tell l D K m0 (-1) (.int 0) sta r0 (.ref w0) m_4 m_5 m_6 m_7 (.int nu) m_9 m_10 m_11 m_12 m_13 m_14 m_15 m_16 m_17 m_18 m_19 m_20 m_21 m_22 m_23 m_24 m_25 m_26 m_27 m_28 m_29 m_30 m_31 m_32 m_33 m_34 m_35 m_36 m_37 m_38 m_39 m_40 m_41 m_42 m_43 m_44 m_45 m_46 m_47 m_48 m_49 m_50 m_51 m_52 m_53 m_54 m_55 m_56 m_57 m_58 m_59 frf H.size (by first | omega | decide)) (cwV 1 hts gX12_house_X12_tell rfl rfl rfl (by decide +kernel) ⟨Nat.le_of_ble_eq_true rfl, Nat.le_of_ble_eq_true rfl⟩) (mkV hK hN (hP.sub [0, 2] rfl) (hD.sub [0, 2] (by decide) rfl) (ci := 12) (q0 := 0) rfl rfl) rfl rfl hl.1 rfl (lv_room (Nat.le_of_ble_eq_true rfl)) dX12_house_69 ⟨Nat.le_of_ble_eq_true rfl, Nat.le_of_ble_eq_true rfl⟩) hP hD hS hA [0, 2] [1] rfl rfl (by decide) (by decide) (fun r_617 u_618 H locs hw hP hD hS => ?_)
    have hP : va_P D vwCl [(w0, .inl (K 0, 5500, .inl fw)), (m0, .inr (12, [.int 0, .int (u_618.2.2.2.1 0), .ref r0, .ref w0, m_4, m_5, m_6, m_7, .int nu, m_9, m_10, m_11, m_12, m_13, m_14, m_15, m_16, m_17, m_18, m_19, m_20, m_21, m_22, m_23, m_24, m_25, m_26, m_27, m_28, m_29, m_30, m_31, m_32, m_33, m_34, m_35, m_36, m_37, m_38, m_39, m_40, m_41, m_42, m_43, m_44, m_45, m_46, m_47, m_48, m_49, m_50, m_51, m_52, m_53, m_54, m_55, m_56, m_57, m_58, m_59])), (r0, .inl (K 0, 7, .inl (u_618.2.1 0)))] H := hP
    have hD : va_D A [(w0, .inl (K 0, 5500, .inl fw)), (m0, .inr (12, [.int 0, .int (u_618.2.2.2.1 0), .ref r0, .ref w0, m_4, m_5, m_6, m_7, .int nu, m_9, m_10, m_11, m_12, m_13, m_14, m_15, m_16, m_17, m_18, m_19, m_20, m_21, m_22, m_23, m_24, m_25, m_26, m_27, m_28, m_29, m_30, m_31, m_32, m_33, m_34, m_35, m_36, m_37, m_38, m_39, m_40, m_41, m_42, m_43, m_44, m_45, m_46, m_47, m_48, m_49, m_50, m_51, m_52, m_53, m_54, m_55, m_56, m_57, m_58, m_59])), (r0, .inl (K 0, 7, .inl (u_618.2.1 0)))] := hD
    obtain ⟨h_620, k_619, -⟩ := hw
    rw [← hQ]
    have hP9 := hP.sub (ws' := [(m0, .inr (12, [.int 0, .int (u_618.2.2.2.1 0), .ref r0, .ref w0, m_4, m_5, m_6, m_7, .int nu, m_9, m_10, m_11, m_12, m_13, m_14, m_15, m_16, m_17, m_18, m_19, m_20, m_21, m_22, m_23, m_24, m_25, m_26, m_27, m_28, m_29, m_30, m_31, m_32, m_33, m_34, m_35, m_36, m_37, m_38, m_39, m_40, m_41, m_42, m_43, m_44, m_45, m_46, m_47, m_48, m_49, m_50, m_51, m_52, m_53, m_54, m_55, m_56, m_57, m_58, m_59])), (w0, .inl (K 0, 5500, .inl fw)), (r0, .inl (K 0, 7, .inl (u_618.2.1 0)))]) [1, 0, 2] rfl
    have hD9 := hD.sub (ws' := [(m0, .inr (12, [.int 0, .int (u_618.2.2.2.1 0), .ref r0, .ref w0, m_4, m_5, m_6, m_7, .int nu, m_9, m_10, m_11, m_12, m_13, m_14, m_15, m_16, m_17, m_18, m_19, m_20, m_21, m_22, m_23, m_24, m_25, m_26, m_27, m_28, m_29, m_30, m_31, m_32, m_33, m_34, m_35, m_36, m_37, m_38, m_39, m_40, m_41, m_42, m_43, m_44, m_45, m_46, m_47, m_48, m_49, m_50, m_51, m_52, m_53, m_54, m_55, m_56, m_57, m_58, m_59])), (w0, .inl (K 0, 5500, .inl fw)), (r0, .inl (K 0, 7, .inl (u_618.2.1 0)))]) [1, 0, 2] (by decide) rfl
    exact W.iret (v := r_617) hx hb hr (fun t ht hW => ⟨⟨r_617, ((fun _ => 0, fun i => match i with | 0 => fw | _ => (u_618.2.1 0), fun _ => fun _ => 0, fun i => match i with | 0 => (u_618.2.2.2.1 0) | _ => nu, fun _ => 0, fun _ => fun _ => none) : Su), rfl, ⟨(show (-6) ≤ r_617.toInt by omega), (show (-6) ≤ ((u_618.2.2.2.1 0) : Int32).toInt ∧ ((u_618.2.2.2.1 0) : Int32).toInt ≤ 0 by omega), zfw, trivial⟩, (⟨by rw [ht]; exact hP9, hD9⟩ : Wd D A _ t)⟩, hS.F ht⟩) hS.2.2 dX12_house_72
  refine pci (va_runS (As := [.long x_505, .long 0, .long 6]) (rest := []) ⟨hx, hb, hml, hown, hts⟩ (v_in l D K x0.toInt 0 6 x_505 0 6 H.size hx_505 (show (0 : Int64).toInt = 0 from rfl) (show (6 : Int64).toInt = 6 from rfl)) (va_cwS 3 hts gX12_house_X12_in rfl rfl rfl (by decide +kernel) ⟨Nat.le_of_ble_eq_true rfl, Nat.le_of_ble_eq_true rfl⟩) (mkS hK hN (va_P.nil) (va_D.nil (A := fun _ => True))) rfl rfl hl.1 rfl (lv_room (Nat.le_of_ble_eq_true rfl)) dX12_house_11 ⟨Nat.le_of_ble_eq_true rfl, Nat.le_of_ble_eq_true rfl⟩) (fun r_621 hw => ?_)
  obtain ⟨hw, -⟩ := hw
  rcases hw with ⟨rfl, h_622, h_623⟩ | ⟨rfl, h_624⟩
  · refine lv_if_eq (tgt := 67) hx hb dX12_house_14 (by decide) (fun c_625 => absurd c_625 (by decide)) (fun c_625 => ?_)
    refine lv_iload_n hx hb dX12_house_17 rfl (lv_at hl 2 rfl) ?_
    refine lv_i2l hx hb dX12_house_18 rfl ?_
    refine lv_topl (fun x_626 ex_626 => ?_)
    have hx_626 : x_626.toInt = x1.toInt := by rw [ex_626]; exact i_wide rfl
    have hbx_626 := i_rng (a := x1) rfl
    refine lv_lconst (v := 0) hx hb dX12_house_19 (by decide) ?_
    refine lv_ldc2 (v := 3) hx hb hown (hts (.constantLong RX12 191 (3)) (List.mem_cons_of_mem _ (List.mem_append_left _ (List.mem_of_getElem? (i := 2) rfl)))) dX12_house_20 ?_
    refine pci (va_runS (As := [.long x_626, .long 0, .long 3]) (rest := []) ⟨hx, hb, hml, hown, hts⟩ (v_in l D K x1.toInt 0 3 x_626 0 3 H.size hx_626 (show (0 : Int64).toInt = 0 from rfl) (show (3 : Int64).toInt = 3 from rfl)) (va_cwS 3 hts gX12_house_X12_in rfl rfl rfl (by decide +kernel) ⟨Nat.le_of_ble_eq_true rfl, Nat.le_of_ble_eq_true rfl⟩) (mkS hK hN (va_P.nil) (va_D.nil (A := fun _ => True))) rfl rfl hl.1 rfl (lv_room (Nat.le_of_ble_eq_true rfl)) dX12_house_23 ⟨Nat.le_of_ble_eq_true rfl, Nat.le_of_ble_eq_true rfl⟩) (fun r_627 hw => ?_)
    obtain ⟨hw, -⟩ := hw
    rcases hw with ⟨rfl, h_628, h_629⟩ | ⟨rfl, h_630⟩
    · refine lv_if_eq (tgt := 67) hx hb dX12_house_26 (by decide) (fun c_631 => absurd c_631 (by decide)) (fun c_631 => ?_)
      refine lv_iload_n hx hb dX12_house_29 rfl (lv_at hl 3 rfl) ?_
      refine lv_i2l hx hb dX12_house_30 rfl ?_
      refine lv_topl (fun x_632 ex_632 => ?_)
      have hx_632 : x_632.toInt = x2.toInt := by rw [ex_632]; exact i_wide rfl
      have hbx_632 := i_rng (a := x2) rfl
      refine lv_lconst (v := 0) hx hb dX12_house_31 (by decide) ?_
      refine lv_ldc2 (v := 999) hx hb hown (hts (.constantLong RX12 193 (999)) (List.mem_cons_of_mem _ (List.mem_append_left _ (List.mem_of_getElem? (i := 3) rfl)))) dX12_house_32 ?_
      refine pci (va_runS (As := [.long x_632, .long 0, .long 999]) (rest := []) ⟨hx, hb, hml, hown, hts⟩ (v_in l D K x2.toInt 0 999 x_632 0 999 H.size hx_632 (show (0 : Int64).toInt = 0 from rfl) (show (999 : Int64).toInt = 999 from rfl)) (va_cwS 3 hts gX12_house_X12_in rfl rfl rfl (by decide +kernel) ⟨Nat.le_of_ble_eq_true rfl, Nat.le_of_ble_eq_true rfl⟩) (mkS hK hN (va_P.nil) (va_D.nil (A := fun _ => True))) rfl rfl hl.1 rfl (lv_room (Nat.le_of_ble_eq_true rfl)) dX12_house_35 ⟨Nat.le_of_ble_eq_true rfl, Nat.le_of_ble_eq_true rfl⟩) (fun r_633 hw => ?_)
      obtain ⟨hw, -⟩ := hw
      rcases hw with ⟨rfl, h_634, h_635⟩ | ⟨rfl, h_636⟩
      · refine lv_if_eq (tgt := 67) hx hb dX12_house_38 (by decide) (fun c_637 => absurd c_637 (by decide)) (fun c_637 => ?_)
        refine lv_iload hx hb dX12_house_41 (lv_at hl 4 rfl) ?_
        refine lv_i2l hx hb dX12_house_43 rfl ?_
        refine lv_topl (fun x_638 ex_638 => ?_)
        have hx_638 : x_638.toInt = x3.toInt := by rw [ex_638]; exact i_wide rfl
        have hbx_638 := i_rng (a := x3) rfl
        refine lv_lconst (v := 0) hx hb dX12_house_44 (by decide) ?_
        refine lv_ldc2 (v := 7) hx hb hown (hts (.constantLong RX12 195 (7)) (List.mem_cons_of_mem _ (List.mem_append_left _ (List.mem_of_getElem? (i := 4) rfl)))) dX12_house_45 ?_
        refine pci (va_runS (As := [.long x_638, .long 0, .long 7]) (rest := []) ⟨hx, hb, hml, hown, hts⟩ (v_in l D K x3.toInt 0 7 x_638 0 7 H.size hx_638 (show (0 : Int64).toInt = 0 from rfl) (show (7 : Int64).toInt = 7 from rfl)) (va_cwS 3 hts gX12_house_X12_in rfl rfl rfl (by decide +kernel) ⟨Nat.le_of_ble_eq_true rfl, Nat.le_of_ble_eq_true rfl⟩) (mkS hK hN (va_P.nil) (va_D.nil (A := fun _ => True))) rfl rfl hl.1 rfl (lv_room (Nat.le_of_ble_eq_true rfl)) dX12_house_48 ⟨Nat.le_of_ble_eq_true rfl, Nat.le_of_ble_eq_true rfl⟩) (fun r_639 hw => ?_)
        obtain ⟨hw, -⟩ := hw
        rcases hw with ⟨rfl, h_640, h_641⟩ | ⟨rfl, h_642⟩
        · refine lv_if_eq (tgt := 67) hx hb dX12_house_51 (by decide) (fun c_643 => absurd c_643 (by decide)) (fun c_643 => ?_)
          refine lv_iload hx hb dX12_house_54 (lv_at hl 5 rfl) ?_
          refine lv_i2l hx hb dX12_house_56 rfl ?_
          refine lv_topl (fun x_644 ex_644 => ?_)
          have hx_644 : x_644.toInt = x4.toInt := by rw [ex_644]; exact i_wide rfl
          have hbx_644 := i_rng (a := x4) rfl
          refine lv_lconst (v := 0) hx hb dX12_house_57 (by decide) ?_
          refine lv_ldc2 (v := 7) hx hb hown (hts (.constantLong RX12 195 (7)) (List.mem_cons_of_mem _ (List.mem_append_left _ (List.mem_of_getElem? (i := 4) rfl)))) dX12_house_58 ?_
          refine pci (va_runS (As := [.long x_644, .long 0, .long 7]) (rest := []) ⟨hx, hb, hml, hown, hts⟩ (v_in l D K x4.toInt 0 7 x_644 0 7 H.size hx_644 (show (0 : Int64).toInt = 0 from rfl) (show (7 : Int64).toInt = 7 from rfl)) (va_cwS 3 hts gX12_house_X12_in rfl rfl rfl (by decide +kernel) ⟨Nat.le_of_ble_eq_true rfl, Nat.le_of_ble_eq_true rfl⟩) (mkS hK hN (va_P.nil) (va_D.nil (A := fun _ => True))) rfl rfl hl.1 rfl (lv_room (Nat.le_of_ble_eq_true rfl)) dX12_house_61 ⟨Nat.le_of_ble_eq_true rfl, Nat.le_of_ble_eq_true rfl⟩) (fun r_645 hw => ?_)
          obtain ⟨hw, -⟩ := hw
          rcases hw with ⟨rfl, h_646, h_647⟩ | ⟨rfl, h_648⟩
          · refine lv_if_ne (tgt := 73) hx hb dX12_house_64 (by decide) (fun c_649 => ?_) (fun c_649 => absurd c_649 (by decide))
            refine lv_aload_n hx hb dX12_house_73 rfl (lv_at hl 0 rfl) ?_
            refine va_get (ci := 12) (v := .ref w0) (C := RX12) (T := TX12) (N := 60) hx hb hts hw12 hown hK hP 0 rfl rfl 3 (by decide) (hts (.fieldLink RX12 13 "SmokeTuneModel" "row" "[I") (List.mem_cons_of_mem _ (List.mem_append_left _ (List.mem_of_getElem? (i := 5) rfl)))) (fun _ h9 => h9) rfl dX12_house_74 ?_
            refine lv_iconst (v := 0) hx hb dX12_house_77 (by decide) ?_
            refine va_iald hx hb hK hP 1 0 rfl rfl (i_in (x := 0) rfl (by omega)) dX12_house_78 ?_
            refine lv_topi (fun x_650 ex_650 => ?_)
            have px_650 := RwOK.at zfw (show (0 : Int32).toInt = 0 from rfl) (show 0 ≤ 0 ∧ 0 < 100 by omega)
            rw [← ex_650] at px_650
            have hx_650 := PR.r_0 px_650 (by omega)
            have kx_650 : fw 0 = x_650 := ex_650.symm
            refine lv_istore (lv' := [(6, .int x_650), (0, .ref m0), (1, .int x0), (2, .int x1), (3, .int x2), (4, .int x3), (5, .int x4)]) hx hb dX12_house_79 hl (by decide) rfl (fun ls hl => ?_)
            refine lv_iconst (v := 0) hx hb dX12_house_81 (by decide) ?_
            refine lv_istore (lv' := [(7, .int 0), (6, .int x_650), (0, .ref m0), (1, .int x0), (2, .int x1), (3, .int x2), (4, .int x3), (5, .int x4)]) hx hb dX12_house_82 hl (by decide) rfl (fun ls hl => ?_)
            have lp_685 : ∀ (nn_ : Nat) (v_673 : Int32) (hv_673 : 0 ≤ v_673.toInt ∧ v_673.toInt ≤ 8) (hn : (9 - v_673.toInt : Int).toNat < nn_) (H : Heap) (locs : List Loc) (hP : va_P D vwCl [(m0, .inr (12, [.int 0, .int sta, .ref r0, .ref w0, m_4, m_5, m_6, m_7, .int nu, m_9, m_10, m_11, m_12, m_13, m_14, m_15, m_16, m_17, m_18, m_19, m_20, m_21, m_22, m_23, m_24, m_25, m_26, m_27, m_28, m_29, m_30, m_31, m_32, m_33, m_34, m_35, m_36, m_37, m_38, m_39, m_40, m_41, m_42, m_43, m_44, m_45, m_46, m_47, m_48, m_49, m_50, m_51, m_52, m_53, m_54, m_55, m_56, m_57, m_58, m_59])), (w0, .inl (K 0, 5500, .inl fw)), (r0, .inl (K 0, 7, .inl frf))] H) (hD : va_D A [(m0, .inr (12, [.int 0, .int sta, .ref r0, .ref w0, m_4, m_5, m_6, m_7, .int nu, m_9, m_10, m_11, m_12, m_13, m_14, m_15, m_16, m_17, m_18, m_19, m_20, m_21, m_22, m_23, m_24, m_25, m_26, m_27, m_28, m_29, m_30, m_31, m_32, m_33, m_34, m_35, m_36, m_37, m_38, m_39, m_40, m_41, m_42, m_43, m_44, m_45, m_46, m_47, m_48, m_49, m_50, m_51, m_52, m_53, m_54, m_55, m_56, m_57, m_58, m_59])), (w0, .inl (K 0, 5500, .inl fw)), (r0, .inl (K 0, 7, .inl frf))]) (hS : va_S A s.heap H locs) (ls : Array Slot) (hl : lv_has ls 8 [(7, .int v_673), (6, .int x_650), (0, .ref m0), (1, .int x0), (2, .int x1), (3, .int x2), (4, .int x3), (5, .int x4)]), W p l e ({ frames := 1, cells := 0, slots := 0, locals := 25 }) s m (([.ref m0, .int x0, .int x1, .int x2, .int x3, .int x4] : List Value).toArray) below meth c H locs 0 0 Q (F0 m 84 ls []) := by
              intro nn_
              induction nn_ with
              | zero =>
                intro v_673 hv_673 hn H locs hP hD hS ls hl
                exact absurd hn (Nat.not_lt_zero _)
              | succ nn_ ih_686 =>
                intro v_673 hv_673 hn H locs hP hD hS ls hl
                refine lv_iload hx hb dX12_house_84 (lv_at hl 0 rfl) ?_
                refine lv_iload hx hb dX12_house_86 (lv_at hl 1 rfl) ?_
                refine lv_icmp_ge (tgt := 119) hx hb dX12_house_88 (by decide) (fun c_687 => ?_) (fun c_687 => ?_)
                · have c_687i := i_le (x := x_650.toInt) (y := v_673.toInt) rfl rfl c_687
                  refine lv_iload hx hb dX12_house_119 (lv_at hl 1 rfl) ?_
                  refine lv_bipush (v := 8) hx hb dX12_house_121 (by decide) ?_
                  refine lv_icmp_ne (tgt := 133) hx hb dX12_house_123 (by decide) (fun c_688 => ?_) (fun c_688 => ?_)
                  · have c_688i := i_ne (x := x_650.toInt) (y := 8) rfl rfl c_688
                    refine lv_aload_n hx hb dX12_house_133 rfl (lv_at hl 2 rfl) ?_
                    refine va_get (ci := 12) (v := .ref w0) (C := RX12) (T := TX12) (N := 60) hx hb hts hw12 hown hK hP 0 rfl rfl 3 (by decide) (hts (.fieldLink RX12 13 "SmokeTuneModel" "row" "[I") (List.mem_cons_of_mem _ (List.mem_append_left _ (List.mem_of_getElem? (i := 5) rfl)))) (fun _ h9 => h9) rfl dX12_house_134 ?_
                    refine lv_bipush (v := 35) hx hb dX12_house_137 (by decide) ?_
                    refine lv_iload hx hb dX12_house_139 (lv_at hl 1 rfl) ?_
                    refine lv_iadd hx hb dX12_house_141 ?_
                    refine lv_topi (fun x_689 ex_689 => ?_)
                    have hx_689 : x_689.toInt = (35 + x_650.toInt) := by rw [ex_689]; exact i_add (show (35 : Int32).toInt = 35 from rfl) rfl (by omega)
                    refine lv_iload_n hx hb dX12_house_142 rfl (lv_at hl 3 rfl) ?_
                    refine va_iast hx hb hK hP hD hS 1 0 rfl rfl (i_in hx_689 (by omega)) dX12_house_143 (fun H locs hP hD hS => ?_)
                    generalize hf_690 : (upd fw (x_689 : Int32).toNatClampNeg x0) = f_690 at hP hD
                    have hf_690_0 : RwOK f_690 := by rw [← hf_690]; exact RwOK.upd zfw hx_689 (by omega) rfl (PR.w_35 (by omega) (by omega))
                    have hf_690_1 : f_690 0 = x_650 := by rw [← hf_690]; exact (pk_un (show ¬ 0 = _ by rw [i_clamp hx_689]; omega)).trans kx_650
                    have hP : va_P D vwCl [(m0, .inr (12, [.int 0, .int sta, .ref r0, .ref w0, m_4, m_5, m_6, m_7, .int nu, m_9, m_10, m_11, m_12, m_13, m_14, m_15, m_16, m_17, m_18, m_19, m_20, m_21, m_22, m_23, m_24, m_25, m_26, m_27, m_28, m_29, m_30, m_31, m_32, m_33, m_34, m_35, m_36, m_37, m_38, m_39, m_40, m_41, m_42, m_43, m_44, m_45, m_46, m_47, m_48, m_49, m_50, m_51, m_52, m_53, m_54, m_55, m_56, m_57, m_58, m_59])), (w0, .inl (K 0, 5500, .inl f_690)), (r0, .inl (K 0, 7, .inl frf))] H := hP
                    have hD : va_D A [(m0, .inr (12, [.int 0, .int sta, .ref r0, .ref w0, m_4, m_5, m_6, m_7, .int nu, m_9, m_10, m_11, m_12, m_13, m_14, m_15, m_16, m_17, m_18, m_19, m_20, m_21, m_22, m_23, m_24, m_25, m_26, m_27, m_28, m_29, m_30, m_31, m_32, m_33, m_34, m_35, m_36, m_37, m_38, m_39, m_40, m_41, m_42, m_43, m_44, m_45, m_46, m_47, m_48, m_49, m_50, m_51, m_52, m_53, m_54, m_55, m_56, m_57, m_58, m_59])), (w0, .inl (K 0, 5500, .inl f_690)), (r0, .inl (K 0, 7, .inl frf))] := hD
                    refine lv_aload_n hx hb dX12_house_144 rfl (lv_at hl 2 rfl) ?_
                    refine va_get (ci := 12) (v := .ref w0) (C := RX12) (T := TX12) (N := 60) hx hb hts hw12 hown hK hP 0 rfl rfl 3 (by decide) (hts (.fieldLink RX12 13 "SmokeTuneModel" "row" "[I") (List.mem_cons_of_mem _ (List.mem_append_left _ (List.mem_of_getElem? (i := 5) rfl)))) (fun _ h9 => h9) rfl dX12_house_145 ?_
                    refine lv_bipush (v := 43) hx hb dX12_house_148 (by decide) ?_
                    refine lv_iload hx hb dX12_house_150 (lv_at hl 1 rfl) ?_
                    refine lv_iadd hx hb dX12_house_152 ?_
                    refine lv_topi (fun x_691 ex_691 => ?_)
                    have hx_691 : x_691.toInt = (43 + x_650.toInt) := by rw [ex_691]; exact i_add (show (43 : Int32).toInt = 43 from rfl) rfl (by omega)
                    refine lv_iload_n hx hb dX12_house_153 rfl (lv_at hl 4 rfl) ?_
                    refine va_iast hx hb hK hP hD hS 1 0 rfl rfl (i_in hx_691 (by omega)) dX12_house_154 (fun H locs hP hD hS => ?_)
                    generalize hf_692 : (upd f_690 (x_691 : Int32).toNatClampNeg x1) = f_692 at hP hD
                    have hf_692_0 : RwOK f_692 := by rw [← hf_692]; exact RwOK.upd hf_690_0 hx_691 (by omega) rfl (PR.free (by omega))
                    have hf_692_1 : f_692 0 = x_650 := by rw [← hf_692]; exact (pk_un (show ¬ 0 = _ by rw [i_clamp hx_691]; omega)).trans hf_690_1
                    have hP : va_P D vwCl [(m0, .inr (12, [.int 0, .int sta, .ref r0, .ref w0, m_4, m_5, m_6, m_7, .int nu, m_9, m_10, m_11, m_12, m_13, m_14, m_15, m_16, m_17, m_18, m_19, m_20, m_21, m_22, m_23, m_24, m_25, m_26, m_27, m_28, m_29, m_30, m_31, m_32, m_33, m_34, m_35, m_36, m_37, m_38, m_39, m_40, m_41, m_42, m_43, m_44, m_45, m_46, m_47, m_48, m_49, m_50, m_51, m_52, m_53, m_54, m_55, m_56, m_57, m_58, m_59])), (w0, .inl (K 0, 5500, .inl f_692)), (r0, .inl (K 0, 7, .inl frf))] H := hP
                    have hD : va_D A [(m0, .inr (12, [.int 0, .int sta, .ref r0, .ref w0, m_4, m_5, m_6, m_7, .int nu, m_9, m_10, m_11, m_12, m_13, m_14, m_15, m_16, m_17, m_18, m_19, m_20, m_21, m_22, m_23, m_24, m_25, m_26, m_27, m_28, m_29, m_30, m_31, m_32, m_33, m_34, m_35, m_36, m_37, m_38, m_39, m_40, m_41, m_42, m_43, m_44, m_45, m_46, m_47, m_48, m_49, m_50, m_51, m_52, m_53, m_54, m_55, m_56, m_57, m_58, m_59])), (w0, .inl (K 0, 5500, .inl f_692)), (r0, .inl (K 0, 7, .inl frf))] := hD
                    refine lv_aload_n hx hb dX12_house_155 rfl (lv_at hl 2 rfl) ?_
                    refine va_get (ci := 12) (v := .ref w0) (C := RX12) (T := TX12) (N := 60) hx hb hts hw12 hown hK hP 0 rfl rfl 3 (by decide) (hts (.fieldLink RX12 13 "SmokeTuneModel" "row" "[I") (List.mem_cons_of_mem _ (List.mem_append_left _ (List.mem_of_getElem? (i := 5) rfl)))) (fun _ h9 => h9) rfl dX12_house_156 ?_
                    refine lv_bipush (v := 19) hx hb dX12_house_159 (by decide) ?_
                    refine lv_iload hx hb dX12_house_161 (lv_at hl 1 rfl) ?_
                    refine lv_iadd hx hb dX12_house_163 ?_
                    refine lv_topi (fun x_693 ex_693 => ?_)
                    have hx_693 : x_693.toInt = (19 + x_650.toInt) := by rw [ex_693]; exact i_add (show (19 : Int32).toInt = 19 from rfl) rfl (by omega)
                    refine lv_iload_n hx hb dX12_house_164 rfl (lv_at hl 5 rfl) ?_
                    refine va_iast hx hb hK hP hD hS 1 0 rfl rfl (i_in hx_693 (by omega)) dX12_house_165 (fun H locs hP hD hS => ?_)
                    generalize hf_694 : (upd f_692 (x_693 : Int32).toNatClampNeg x2) = f_694 at hP hD
                    have hf_694_0 : RwOK f_694 := by rw [← hf_694]; exact RwOK.upd hf_692_0 hx_693 (by omega) rfl (PR.free (by omega))
                    have hf_694_1 : f_694 0 = x_650 := by rw [← hf_694]; exact (pk_un (show ¬ 0 = _ by rw [i_clamp hx_693]; omega)).trans hf_692_1
                    have hP : va_P D vwCl [(m0, .inr (12, [.int 0, .int sta, .ref r0, .ref w0, m_4, m_5, m_6, m_7, .int nu, m_9, m_10, m_11, m_12, m_13, m_14, m_15, m_16, m_17, m_18, m_19, m_20, m_21, m_22, m_23, m_24, m_25, m_26, m_27, m_28, m_29, m_30, m_31, m_32, m_33, m_34, m_35, m_36, m_37, m_38, m_39, m_40, m_41, m_42, m_43, m_44, m_45, m_46, m_47, m_48, m_49, m_50, m_51, m_52, m_53, m_54, m_55, m_56, m_57, m_58, m_59])), (w0, .inl (K 0, 5500, .inl f_694)), (r0, .inl (K 0, 7, .inl frf))] H := hP
                    have hD : va_D A [(m0, .inr (12, [.int 0, .int sta, .ref r0, .ref w0, m_4, m_5, m_6, m_7, .int nu, m_9, m_10, m_11, m_12, m_13, m_14, m_15, m_16, m_17, m_18, m_19, m_20, m_21, m_22, m_23, m_24, m_25, m_26, m_27, m_28, m_29, m_30, m_31, m_32, m_33, m_34, m_35, m_36, m_37, m_38, m_39, m_40, m_41, m_42, m_43, m_44, m_45, m_46, m_47, m_48, m_49, m_50, m_51, m_52, m_53, m_54, m_55, m_56, m_57, m_58, m_59])), (w0, .inl (K 0, 5500, .inl f_694)), (r0, .inl (K 0, 7, .inl frf))] := hD
                    refine lv_aload_n hx hb dX12_house_166 rfl (lv_at hl 2 rfl) ?_
                    refine va_get (ci := 12) (v := .ref w0) (C := RX12) (T := TX12) (N := 60) hx hb hts hw12 hown hK hP 0 rfl rfl 3 (by decide) (hts (.fieldLink RX12 13 "SmokeTuneModel" "row" "[I") (List.mem_cons_of_mem _ (List.mem_append_left _ (List.mem_of_getElem? (i := 5) rfl)))) (fun _ h9 => h9) rfl dX12_house_167 ?_
                    refine lv_bipush (v := 51) hx hb dX12_house_170 (by decide) ?_
                    refine lv_iload hx hb dX12_house_172 (lv_at hl 1 rfl) ?_
                    refine lv_iadd hx hb dX12_house_174 ?_
                    refine lv_topi (fun x_695 ex_695 => ?_)
                    have hx_695 : x_695.toInt = (51 + x_650.toInt) := by rw [ex_695]; exact i_add (show (51 : Int32).toInt = 51 from rfl) rfl (by omega)
                    refine lv_iload hx hb dX12_house_175 (lv_at hl 6 rfl) ?_
                    refine va_iast hx hb hK hP hD hS 1 0 rfl rfl (i_in hx_695 (by omega)) dX12_house_177 (fun H locs hP hD hS => ?_)
                    generalize hf_696 : (upd f_694 (x_695 : Int32).toNatClampNeg x3) = f_696 at hP hD
                    have hf_696_0 : RwOK f_696 := by rw [← hf_696]; exact RwOK.upd hf_694_0 hx_695 (by omega) rfl (PR.free (by omega))
                    have hf_696_1 : f_696 0 = x_650 := by rw [← hf_696]; exact (pk_un (show ¬ 0 = _ by rw [i_clamp hx_695]; omega)).trans hf_694_1
                    have hP : va_P D vwCl [(m0, .inr (12, [.int 0, .int sta, .ref r0, .ref w0, m_4, m_5, m_6, m_7, .int nu, m_9, m_10, m_11, m_12, m_13, m_14, m_15, m_16, m_17, m_18, m_19, m_20, m_21, m_22, m_23, m_24, m_25, m_26, m_27, m_28, m_29, m_30, m_31, m_32, m_33, m_34, m_35, m_36, m_37, m_38, m_39, m_40, m_41, m_42, m_43, m_44, m_45, m_46, m_47, m_48, m_49, m_50, m_51, m_52, m_53, m_54, m_55, m_56, m_57, m_58, m_59])), (w0, .inl (K 0, 5500, .inl f_696)), (r0, .inl (K 0, 7, .inl frf))] H := hP
                    have hD : va_D A [(m0, .inr (12, [.int 0, .int sta, .ref r0, .ref w0, m_4, m_5, m_6, m_7, .int nu, m_9, m_10, m_11, m_12, m_13, m_14, m_15, m_16, m_17, m_18, m_19, m_20, m_21, m_22, m_23, m_24, m_25, m_26, m_27, m_28, m_29, m_30, m_31, m_32, m_33, m_34, m_35, m_36, m_37, m_38, m_39, m_40, m_41, m_42, m_43, m_44, m_45, m_46, m_47, m_48, m_49, m_50, m_51, m_52, m_53, m_54, m_55, m_56, m_57, m_58, m_59])), (w0, .inl (K 0, 5500, .inl f_696)), (r0, .inl (K 0, 7, .inl frf))] := hD
                    refine lv_aload_n hx hb dX12_house_178 rfl (lv_at hl 2 rfl) ?_
                    refine va_get (ci := 12) (v := .ref w0) (C := RX12) (T := TX12) (N := 60) hx hb hts hw12 hown hK hP 0 rfl rfl 3 (by decide) (hts (.fieldLink RX12 13 "SmokeTuneModel" "row" "[I") (List.mem_cons_of_mem _ (List.mem_append_left _ (List.mem_of_getElem? (i := 5) rfl)))) (fun _ h9 => h9) rfl dX12_house_179 ?_
                    refine lv_bipush (v := 59) hx hb dX12_house_182 (by decide) ?_
                    refine lv_iload hx hb dX12_house_184 (lv_at hl 1 rfl) ?_
                    refine lv_iadd hx hb dX12_house_186 ?_
                    refine lv_topi (fun x_697 ex_697 => ?_)
                    have hx_697 : x_697.toInt = (59 + x_650.toInt) := by rw [ex_697]; exact i_add (show (59 : Int32).toInt = 59 from rfl) rfl (by omega)
                    refine lv_iload hx hb dX12_house_187 (lv_at hl 7 rfl) ?_
                    refine va_iast hx hb hK hP hD hS 1 0 rfl rfl (i_in hx_697 (by omega)) dX12_house_189 (fun H locs hP hD hS => ?_)
                    generalize hf_698 : (upd f_696 (x_697 : Int32).toNatClampNeg x4) = f_698 at hP hD
                    have hf_698_0 : RwOK f_698 := by rw [← hf_698]; exact RwOK.upd hf_696_0 hx_697 (by omega) rfl (PR.free (by omega))
                    have hf_698_1 : f_698 0 = x_650 := by rw [← hf_698]; exact (pk_un (show ¬ 0 = _ by rw [i_clamp hx_697]; omega)).trans hf_696_1
                    have hP : va_P D vwCl [(m0, .inr (12, [.int 0, .int sta, .ref r0, .ref w0, m_4, m_5, m_6, m_7, .int nu, m_9, m_10, m_11, m_12, m_13, m_14, m_15, m_16, m_17, m_18, m_19, m_20, m_21, m_22, m_23, m_24, m_25, m_26, m_27, m_28, m_29, m_30, m_31, m_32, m_33, m_34, m_35, m_36, m_37, m_38, m_39, m_40, m_41, m_42, m_43, m_44, m_45, m_46, m_47, m_48, m_49, m_50, m_51, m_52, m_53, m_54, m_55, m_56, m_57, m_58, m_59])), (w0, .inl (K 0, 5500, .inl f_698)), (r0, .inl (K 0, 7, .inl frf))] H := hP
                    have hD : va_D A [(m0, .inr (12, [.int 0, .int sta, .ref r0, .ref w0, m_4, m_5, m_6, m_7, .int nu, m_9, m_10, m_11, m_12, m_13, m_14, m_15, m_16, m_17, m_18, m_19, m_20, m_21, m_22, m_23, m_24, m_25, m_26, m_27, m_28, m_29, m_30, m_31, m_32, m_33, m_34, m_35, m_36, m_37, m_38, m_39, m_40, m_41, m_42, m_43, m_44, m_45, m_46, m_47, m_48, m_49, m_50, m_51, m_52, m_53, m_54, m_55, m_56, m_57, m_58, m_59])), (w0, .inl (K 0, 5500, .inl f_698)), (r0, .inl (K 0, 7, .inl frf))] := hD
                    refine lv_aload_n hx hb dX12_house_190 rfl (lv_at hl 2 rfl) ?_
                    refine va_get (ci := 12) (v := .ref w0) (C := RX12) (T := TX12) (N := 60) hx hb hts hw12 hown hK hP 0 rfl rfl 3 (by decide) (hts (.fieldLink RX12 13 "SmokeTuneModel" "row" "[I") (List.mem_cons_of_mem _ (List.mem_append_left _ (List.mem_of_getElem? (i := 5) rfl)))) (fun _ h9 => h9) rfl dX12_house_191 ?_
                    refine lv_bipush (v := 11) hx hb dX12_house_194 (by decide) ?_
                    refine lv_iload hx hb dX12_house_196 (lv_at hl 1 rfl) ?_
                    refine lv_iadd hx hb dX12_house_198 ?_
                    refine lv_topi (fun x_699 ex_699 => ?_)
                    have hx_699 : x_699.toInt = (11 + x_650.toInt) := by rw [ex_699]; exact i_add (show (11 : Int32).toInt = 11 from rfl) rfl (by omega)
                    refine lv_iconst (v := 0) hx hb dX12_house_199 (by decide) ?_
                    refine va_iast hx hb hK hP hD hS 1 0 rfl rfl (i_in hx_699 (by omega)) dX12_house_200 (fun H locs hP hD hS => ?_)
                    generalize hf_700 : (upd f_698 (x_699 : Int32).toNatClampNeg 0) = f_700 at hP hD
                    have hf_700_0 : RwOK f_700 := by rw [← hf_700]; exact RwOK.upd hf_698_0 hx_699 (by omega) (show (0 : Int32).toInt = 0 from rfl) (PR.w_11 (by omega) (by omega))
                    have hf_700_1 : f_700 0 = x_650 := by rw [← hf_700]; exact (pk_un (show ¬ 0 = _ by rw [i_clamp hx_699]; omega)).trans hf_698_1
                    have hP : va_P D vwCl [(m0, .inr (12, [.int 0, .int sta, .ref r0, .ref w0, m_4, m_5, m_6, m_7, .int nu, m_9, m_10, m_11, m_12, m_13, m_14, m_15, m_16, m_17, m_18, m_19, m_20, m_21, m_22, m_23, m_24, m_25, m_26, m_27, m_28, m_29, m_30, m_31, m_32, m_33, m_34, m_35, m_36, m_37, m_38, m_39, m_40, m_41, m_42, m_43, m_44, m_45, m_46, m_47, m_48, m_49, m_50, m_51, m_52, m_53, m_54, m_55, m_56, m_57, m_58, m_59])), (w0, .inl (K 0, 5500, .inl f_700)), (r0, .inl (K 0, 7, .inl frf))] H := hP
                    have hD : va_D A [(m0, .inr (12, [.int 0, .int sta, .ref r0, .ref w0, m_4, m_5, m_6, m_7, .int nu, m_9, m_10, m_11, m_12, m_13, m_14, m_15, m_16, m_17, m_18, m_19, m_20, m_21, m_22, m_23, m_24, m_25, m_26, m_27, m_28, m_29, m_30, m_31, m_32, m_33, m_34, m_35, m_36, m_37, m_38, m_39, m_40, m_41, m_42, m_43, m_44, m_45, m_46, m_47, m_48, m_49, m_50, m_51, m_52, m_53, m_54, m_55, m_56, m_57, m_58, m_59])), (w0, .inl (K 0, 5500, .inl f_700)), (r0, .inl (K 0, 7, .inl frf))] := hD
                    refine lv_aload_n hx hb dX12_house_201 rfl (lv_at hl 2 rfl) ?_
                    refine va_get (ci := 12) (v := .ref w0) (C := RX12) (T := TX12) (N := 60) hx hb hts hw12 hown hK hP 0 rfl rfl 3 (by decide) (hts (.fieldLink RX12 13 "SmokeTuneModel" "row" "[I") (List.mem_cons_of_mem _ (List.mem_append_left _ (List.mem_of_getElem? (i := 5) rfl)))) (fun _ h9 => h9) rfl dX12_house_202 ?_
                    refine lv_bipush (v := 27) hx hb dX12_house_205 (by decide) ?_
                    refine lv_iload hx hb dX12_house_207 (lv_at hl 1 rfl) ?_
                    refine lv_iadd hx hb dX12_house_209 ?_
                    refine lv_topi (fun x_701 ex_701 => ?_)
                    have hx_701 : x_701.toInt = (27 + x_650.toInt) := by rw [ex_701]; exact i_add (show (27 : Int32).toInt = 27 from rfl) rfl (by omega)
                    refine lv_iconst (v := 0) hx hb dX12_house_210 (by decide) ?_
                    refine va_iast hx hb hK hP hD hS 1 0 rfl rfl (i_in hx_701 (by omega)) dX12_house_211 (fun H locs hP hD hS => ?_)
                    generalize hf_702 : (upd f_700 (x_701 : Int32).toNatClampNeg 0) = f_702 at hP hD
                    have hf_702_0 : RwOK f_702 := by rw [← hf_702]; exact RwOK.upd hf_700_0 hx_701 (by omega) (show (0 : Int32).toInt = 0 from rfl) (PR.free (by omega))
                    have hf_702_1 : f_702 0 = x_650 := by rw [← hf_702]; exact (pk_un (show ¬ 0 = _ by rw [i_clamp hx_701]; omega)).trans hf_700_1
                    have hP : va_P D vwCl [(m0, .inr (12, [.int 0, .int sta, .ref r0, .ref w0, m_4, m_5, m_6, m_7, .int nu, m_9, m_10, m_11, m_12, m_13, m_14, m_15, m_16, m_17, m_18, m_19, m_20, m_21, m_22, m_23, m_24, m_25, m_26, m_27, m_28, m_29, m_30, m_31, m_32, m_33, m_34, m_35, m_36, m_37, m_38, m_39, m_40, m_41, m_42, m_43, m_44, m_45, m_46, m_47, m_48, m_49, m_50, m_51, m_52, m_53, m_54, m_55, m_56, m_57, m_58, m_59])), (w0, .inl (K 0, 5500, .inl f_702)), (r0, .inl (K 0, 7, .inl frf))] H := hP
                    have hD : va_D A [(m0, .inr (12, [.int 0, .int sta, .ref r0, .ref w0, m_4, m_5, m_6, m_7, .int nu, m_9, m_10, m_11, m_12, m_13, m_14, m_15, m_16, m_17, m_18, m_19, m_20, m_21, m_22, m_23, m_24, m_25, m_26, m_27, m_28, m_29, m_30, m_31, m_32, m_33, m_34, m_35, m_36, m_37, m_38, m_39, m_40, m_41, m_42, m_43, m_44, m_45, m_46, m_47, m_48, m_49, m_50, m_51, m_52, m_53, m_54, m_55, m_56, m_57, m_58, m_59])), (w0, .inl (K 0, 5500, .inl f_702)), (r0, .inl (K 0, 7, .inl frf))] := hD
                    refine lv_aload_n hx hb dX12_house_212 rfl (lv_at hl 2 rfl) ?_
                    refine va_get (ci := 12) (v := .ref w0) (C := RX12) (T := TX12) (N := 60) hx hb hts hw12 hown hK hP 0 rfl rfl 3 (by decide) (hts (.fieldLink RX12 13 "SmokeTuneModel" "row" "[I") (List.mem_cons_of_mem _ (List.mem_append_left _ (List.mem_of_getElem? (i := 5) rfl)))) (fun _ h9 => h9) rfl dX12_house_213 ?_
                    refine lv_iconst (v := 0) hx hb dX12_house_216 (by decide) ?_
                    refine lv_dup2_11 hx hb dX12_house_217 rfl rfl ?_
                    refine va_iald hx hb hK hP 1 0 rfl rfl (i_in (x := 0) rfl (by omega)) dX12_house_218 ?_
                    refine lv_topi (fun x_703 ex_703 => ?_)
                    have erx_703 : x_703 = x_650 := ex_703.trans hf_702_1
                    have hrx_703 : x_703.toInt = x_650.toInt := (congrArg Int32.toInt erx_703).trans rfl
                    refine lv_iconst (v := 1) hx hb dX12_house_219 (by decide) ?_
                    refine lv_iadd hx hb dX12_house_220 ?_
                    refine lv_topi (fun x_704 ex_704 => ?_)
                    have hx_704 : x_704.toInt = (x_650.toInt + 1) := by rw [ex_704]; exact i_add hrx_703 (show (1 : Int32).toInt = 1 from rfl) (by omega)
                    refine va_iast hx hb hK hP hD hS 1 0 rfl rfl (i_in (x := 0) rfl (by omega)) dX12_house_221 (fun H locs hP hD hS => ?_)
                    generalize hf_705 : (upd f_702 (0 : Int32).toNatClampNeg x_704) = f_705 at hP hD
                    have hf_705_0 : RwOK f_705 := by rw [← hf_705]; exact RwOK.upd hf_702_0 (show (0 : Int32).toInt = 0 from rfl) (by omega) hx_704 (PR.w_0 (by omega) (by omega))
                    have kf_705 : f_705 0 = x_704 := by rw [← hf_705]; exact pk_us
                    have hP : va_P D vwCl [(m0, .inr (12, [.int 0, .int sta, .ref r0, .ref w0, m_4, m_5, m_6, m_7, .int nu, m_9, m_10, m_11, m_12, m_13, m_14, m_15, m_16, m_17, m_18, m_19, m_20, m_21, m_22, m_23, m_24, m_25, m_26, m_27, m_28, m_29, m_30, m_31, m_32, m_33, m_34, m_35, m_36, m_37, m_38, m_39, m_40, m_41, m_42, m_43, m_44, m_45, m_46, m_47, m_48, m_49, m_50, m_51, m_52, m_53, m_54, m_55, m_56, m_57, m_58, m_59])), (w0, .inl (K 0, 5500, .inl f_705)), (r0, .inl (K 0, 7, .inl frf))] H := hP
                    have hD : va_D A [(m0, .inr (12, [.int 0, .int sta, .ref r0, .ref w0, m_4, m_5, m_6, m_7, .int nu, m_9, m_10, m_11, m_12, m_13, m_14, m_15, m_16, m_17, m_18, m_19, m_20, m_21, m_22, m_23, m_24, m_25, m_26, m_27, m_28, m_29, m_30, m_31, m_32, m_33, m_34, m_35, m_36, m_37, m_38, m_39, m_40, m_41, m_42, m_43, m_44, m_45, m_46, m_47, m_48, m_49, m_50, m_51, m_52, m_53, m_54, m_55, m_56, m_57, m_58, m_59])), (w0, .inl (K 0, 5500, .inl f_705)), (r0, .inl (K 0, 7, .inl frf))] := hD
                    refine lv_aload_n hx hb dX12_house_222 rfl (lv_at hl 2 rfl) ?_
                    refine lv_iconst (v := 0) hx hb dX12_house_223 (by decide) ?_
                    refine va_put (ci := 12) (v := .int 0) (ty := .int) (C := RX12) (T := TX12) (N := 60) hx hb hts hw12 tyX12 tyX12_ok nmX12 hown hK hP hD hS 0 rfl rfl 8 (by decide) (hts (.fieldLink RX12 164 "SmokeTuneModel" "nUndo" "I") (List.mem_cons_of_mem _ (List.mem_append_left _ (List.mem_of_getElem? (i := 6) rfl)))) (fun _ h9 => h9) rfl (by decide +kernel) (by first | rfl | decide) (by first | rfl | decide) (Nat.le_of_ble_eq_true rfl) dX12_house_224 (fun H locs hP hD hS => ?_)
                    have hP : va_P D vwCl [(m0, .inr (12, [.int 0, .int sta, .ref r0, .ref w0, m_4, m_5, m_6, m_7, .int 0, m_9, m_10, m_11, m_12, m_13, m_14, m_15, m_16, m_17, m_18, m_19, m_20, m_21, m_22, m_23, m_24, m_25, m_26, m_27, m_28, m_29, m_30, m_31, m_32, m_33, m_34, m_35, m_36, m_37, m_38, m_39, m_40, m_41, m_42, m_43, m_44, m_45, m_46, m_47, m_48, m_49, m_50, m_51, m_52, m_53, m_54, m_55, m_56, m_57, m_58, m_59])), (w0, .inl (K 0, 5500, .inl f_705)), (r0, .inl (K 0, 7, .inl frf))] H := hP
                    have hD : va_D A [(m0, .inr (12, [.int 0, .int sta, .ref r0, .ref w0, m_4, m_5, m_6, m_7, .int 0, m_9, m_10, m_11, m_12, m_13, m_14, m_15, m_16, m_17, m_18, m_19, m_20, m_21, m_22, m_23, m_24, m_25, m_26, m_27, m_28, m_29, m_30, m_31, m_32, m_33, m_34, m_35, m_36, m_37, m_38, m_39, m_40, m_41, m_42, m_43, m_44, m_45, m_46, m_47, m_48, m_49, m_50, m_51, m_52, m_53, m_54, m_55, m_56, m_57, m_58, m_59])), (w0, .inl (K 0, 5500, .inl f_705)), (r0, .inl (K 0, 7, .inl frf))] := hD
                    refine lv_aload_n hx hb dX12_house_227 rfl (lv_at hl 2 rfl) ?_
                    refine lv_iload hx hb dX12_house_228 (lv_at hl 1 rfl) ?_
                    refine kci (S := Su) (wr := [(w0, .inl (K 0, 5500, .inl f_705))]) (va_runV (As := [.int x_650]) (rest := []) ⟨hx, hb, hml, hown, hts⟩ (v_tell l D K m0 x_650 (.int 0) sta r0 (.ref w0) m_4 m_5 m_6 m_7 (.int 0) m_9 m_10 m_11 m_12 m_13 m_14 m_15 m_16 m_17 m_18 m_19 m_20 m_21 m_22 m_23 m_24 m_25 m_26 m_27 m_28 m_29 m_30 m_31 m_32 m_33 m_34 m_35 m_36 m_37 m_38 m_39 m_40 m_41 m_42 m_43 m_44 m_45 m_46 m_47 m_48 m_49 m_50 m_51 m_52 m_53 m_54 m_55 m_56 m_57 m_58 m_59 frf H.size (by first | omega | decide)) (cwV 1 hts gX12_house_X12_tell rfl rfl rfl (by decide +kernel) ⟨Nat.le_of_ble_eq_true rfl, Nat.le_of_ble_eq_true rfl⟩) (mkV hK hN (hP.sub [0, 2] rfl) (hD.sub [0, 2] (by decide) rfl) (ci := 12) (q0 := 0) rfl rfl) rfl rfl hl.1 rfl (lv_room (Nat.le_of_ble_eq_true rfl)) dX12_house_230 ⟨Nat.le_of_ble_eq_true rfl, Nat.le_of_ble_eq_true rfl⟩) hP hD hS hA [0, 2] [1] rfl rfl (by decide) (by decide) (fun r_706 u_707 H locs hw hP hD hS => ?_)
                    have hP : va_P D vwCl [(w0, .inl (K 0, 5500, .inl f_705)), (m0, .inr (12, [.int 0, .int (u_707.2.2.2.1 0), .ref r0, .ref w0, m_4, m_5, m_6, m_7, .int 0, m_9, m_10, m_11, m_12, m_13, m_14, m_15, m_16, m_17, m_18, m_19, m_20, m_21, m_22, m_23, m_24, m_25, m_26, m_27, m_28, m_29, m_30, m_31, m_32, m_33, m_34, m_35, m_36, m_37, m_38, m_39, m_40, m_41, m_42, m_43, m_44, m_45, m_46, m_47, m_48, m_49, m_50, m_51, m_52, m_53, m_54, m_55, m_56, m_57, m_58, m_59])), (r0, .inl (K 0, 7, .inl (u_707.2.1 0)))] H := hP
                    have hD : va_D A [(w0, .inl (K 0, 5500, .inl f_705)), (m0, .inr (12, [.int 0, .int (u_707.2.2.2.1 0), .ref r0, .ref w0, m_4, m_5, m_6, m_7, .int 0, m_9, m_10, m_11, m_12, m_13, m_14, m_15, m_16, m_17, m_18, m_19, m_20, m_21, m_22, m_23, m_24, m_25, m_26, m_27, m_28, m_29, m_30, m_31, m_32, m_33, m_34, m_35, m_36, m_37, m_38, m_39, m_40, m_41, m_42, m_43, m_44, m_45, m_46, m_47, m_48, m_49, m_50, m_51, m_52, m_53, m_54, m_55, m_56, m_57, m_58, m_59])), (r0, .inl (K 0, 7, .inl (u_707.2.1 0)))] := hD
                    obtain ⟨h_709, k_708, -⟩ := hw
                    rw [← hQ]
                    have hP9 := hP.sub (ws' := [(m0, .inr (12, [.int 0, .int (u_707.2.2.2.1 0), .ref r0, .ref w0, m_4, m_5, m_6, m_7, .int 0, m_9, m_10, m_11, m_12, m_13, m_14, m_15, m_16, m_17, m_18, m_19, m_20, m_21, m_22, m_23, m_24, m_25, m_26, m_27, m_28, m_29, m_30, m_31, m_32, m_33, m_34, m_35, m_36, m_37, m_38, m_39, m_40, m_41, m_42, m_43, m_44, m_45, m_46, m_47, m_48, m_49, m_50, m_51, m_52, m_53, m_54, m_55, m_56, m_57, m_58, m_59])), (w0, .inl (K 0, 5500, .inl f_705)), (r0, .inl (K 0, 7, .inl (u_707.2.1 0)))]) [1, 0, 2] rfl
                    have hD9 := hD.sub (ws' := [(m0, .inr (12, [.int 0, .int (u_707.2.2.2.1 0), .ref r0, .ref w0, m_4, m_5, m_6, m_7, .int 0, m_9, m_10, m_11, m_12, m_13, m_14, m_15, m_16, m_17, m_18, m_19, m_20, m_21, m_22, m_23, m_24, m_25, m_26, m_27, m_28, m_29, m_30, m_31, m_32, m_33, m_34, m_35, m_36, m_37, m_38, m_39, m_40, m_41, m_42, m_43, m_44, m_45, m_46, m_47, m_48, m_49, m_50, m_51, m_52, m_53, m_54, m_55, m_56, m_57, m_58, m_59])), (w0, .inl (K 0, 5500, .inl f_705)), (r0, .inl (K 0, 7, .inl (u_707.2.1 0)))]) [1, 0, 2] (by decide) rfl
                    exact W.iret (v := r_706) hx hb hr (fun t ht hW => ⟨⟨r_706, ((fun _ => 0, fun i => match i with | 0 => f_705 | _ => (u_707.2.1 0), fun _ => fun _ => 0, fun i => match i with | 0 => (u_707.2.2.2.1 0) | _ => 0, fun _ => 0, fun _ => fun _ => none) : Su), rfl, ⟨(show (-6) ≤ r_706.toInt by omega), (show (-6) ≤ ((u_707.2.2.2.1 0) : Int32).toInt ∧ ((u_707.2.2.2.1 0) : Int32).toInt ≤ 0 by omega), hf_705_0, trivial⟩, (⟨by rw [ht]; exact hP9, hD9⟩ : Wd D A _ t)⟩, hS.F ht⟩) hS.2.2 dX12_house_233
                  · have c_688i := i_eq (x := x_650.toInt) (y := 8) rfl rfl c_688
                    refine lv_aload_n hx hb dX12_house_126 rfl (lv_at hl 2 rfl) ?_
                    refine lv_bipush (v := (-5)) hx hb dX12_house_127 (by decide) ?_
                    refine kci (S := Su) (wr := [(w0, .inl (K 0, 5500, .inl fw))]) (va_runV (As := [.int (-5)]) (rest := []) ⟨hx, hb, hml, hown, hts⟩ (v_tell l D K m0 (-5) (.int 0) sta r0 (.ref w0) m_4 m_5 m_6 m_7 (.int nu) m_9 m_10 m_11 m_12 m_13 m_14 m_15 m_16 m_17 m_18 m_19 m_20 m_21 m_22 m_23 m_24 m_25 m_26 m_27 m_28 m_29 m_30 m_31 m_32 m_33 m_34 m_35 m_36 m_37 m_38 m_39 m_40 m_41 m_42 m_43 m_44 m_45 m_46 m_47 m_48 m_49 m_50 m_51 m_52 m_53 m_54 m_55 m_56 m_57 m_58 m_59 frf H.size (by first | omega | decide)) (cwV 1 hts gX12_house_X12_tell rfl rfl rfl (by decide +kernel) ⟨Nat.le_of_ble_eq_true rfl, Nat.le_of_ble_eq_true rfl⟩) (mkV hK hN (hP.sub [0, 2] rfl) (hD.sub [0, 2] (by decide) rfl) (ci := 12) (q0 := 0) rfl rfl) rfl rfl hl.1 rfl (lv_room (Nat.le_of_ble_eq_true rfl)) dX12_house_129 ⟨Nat.le_of_ble_eq_true rfl, Nat.le_of_ble_eq_true rfl⟩) hP hD hS hA [0, 2] [1] rfl rfl (by decide) (by decide) (fun r_710 u_711 H locs hw hP hD hS => ?_)
                    have hP : va_P D vwCl [(w0, .inl (K 0, 5500, .inl fw)), (m0, .inr (12, [.int 0, .int (u_711.2.2.2.1 0), .ref r0, .ref w0, m_4, m_5, m_6, m_7, .int nu, m_9, m_10, m_11, m_12, m_13, m_14, m_15, m_16, m_17, m_18, m_19, m_20, m_21, m_22, m_23, m_24, m_25, m_26, m_27, m_28, m_29, m_30, m_31, m_32, m_33, m_34, m_35, m_36, m_37, m_38, m_39, m_40, m_41, m_42, m_43, m_44, m_45, m_46, m_47, m_48, m_49, m_50, m_51, m_52, m_53, m_54, m_55, m_56, m_57, m_58, m_59])), (r0, .inl (K 0, 7, .inl (u_711.2.1 0)))] H := hP
                    have hD : va_D A [(w0, .inl (K 0, 5500, .inl fw)), (m0, .inr (12, [.int 0, .int (u_711.2.2.2.1 0), .ref r0, .ref w0, m_4, m_5, m_6, m_7, .int nu, m_9, m_10, m_11, m_12, m_13, m_14, m_15, m_16, m_17, m_18, m_19, m_20, m_21, m_22, m_23, m_24, m_25, m_26, m_27, m_28, m_29, m_30, m_31, m_32, m_33, m_34, m_35, m_36, m_37, m_38, m_39, m_40, m_41, m_42, m_43, m_44, m_45, m_46, m_47, m_48, m_49, m_50, m_51, m_52, m_53, m_54, m_55, m_56, m_57, m_58, m_59])), (r0, .inl (K 0, 7, .inl (u_711.2.1 0)))] := hD
                    obtain ⟨h_713, k_712, -⟩ := hw
                    rw [← hQ]
                    have hP9 := hP.sub (ws' := [(m0, .inr (12, [.int 0, .int (u_711.2.2.2.1 0), .ref r0, .ref w0, m_4, m_5, m_6, m_7, .int nu, m_9, m_10, m_11, m_12, m_13, m_14, m_15, m_16, m_17, m_18, m_19, m_20, m_21, m_22, m_23, m_24, m_25, m_26, m_27, m_28, m_29, m_30, m_31, m_32, m_33, m_34, m_35, m_36, m_37, m_38, m_39, m_40, m_41, m_42, m_43, m_44, m_45, m_46, m_47, m_48, m_49, m_50, m_51, m_52, m_53, m_54, m_55, m_56, m_57, m_58, m_59])), (w0, .inl (K 0, 5500, .inl fw)), (r0, .inl (K 0, 7, .inl (u_711.2.1 0)))]) [1, 0, 2] rfl
                    have hD9 := hD.sub (ws' := [(m0, .inr (12, [.int 0, .int (u_711.2.2.2.1 0), .ref r0, .ref w0, m_4, m_5, m_6, m_7, .int nu, m_9, m_10, m_11, m_12, m_13, m_14, m_15, m_16, m_17, m_18, m_19, m_20, m_21, m_22, m_23, m_24, m_25, m_26, m_27, m_28, m_29, m_30, m_31, m_32, m_33, m_34, m_35, m_36, m_37, m_38, m_39, m_40, m_41, m_42, m_43, m_44, m_45, m_46, m_47, m_48, m_49, m_50, m_51, m_52, m_53, m_54, m_55, m_56, m_57, m_58, m_59])), (w0, .inl (K 0, 5500, .inl fw)), (r0, .inl (K 0, 7, .inl (u_711.2.1 0)))]) [1, 0, 2] (by decide) rfl
                    exact W.iret (v := r_710) hx hb hr (fun t ht hW => ⟨⟨r_710, ((fun _ => 0, fun i => match i with | 0 => fw | _ => (u_711.2.1 0), fun _ => fun _ => 0, fun i => match i with | 0 => (u_711.2.2.2.1 0) | _ => nu, fun _ => 0, fun _ => fun _ => none) : Su), rfl, ⟨(show (-6) ≤ r_710.toInt by omega), (show (-6) ≤ ((u_711.2.2.2.1 0) : Int32).toInt ∧ ((u_711.2.2.2.1 0) : Int32).toInt ≤ 0 by omega), zfw, trivial⟩, (⟨by rw [ht]; exact hP9, hD9⟩ : Wd D A _ t)⟩, hS.F ht⟩) hS.2.2 dX12_house_132
                · have c_687i := i_nle (x := x_650.toInt) (y := v_673.toInt) rfl rfl c_687
                  refine lv_aload_n hx hb dX12_house_91 rfl (lv_at hl 2 rfl) ?_
                  refine va_get (ci := 12) (v := .ref w0) (C := RX12) (T := TX12) (N := 60) hx hb hts hw12 hown hK hP 0 rfl rfl 3 (by decide) (hts (.fieldLink RX12 13 "SmokeTuneModel" "row" "[I") (List.mem_cons_of_mem _ (List.mem_append_left _ (List.mem_of_getElem? (i := 5) rfl)))) (fun _ h9 => h9) rfl dX12_house_92 ?_
                  refine lv_bipush (v := 51) hx hb dX12_house_95 (by decide) ?_
                  refine lv_iload hx hb dX12_house_97 (lv_at hl 0 rfl) ?_
                  refine lv_iadd hx hb dX12_house_99 ?_
                  refine lv_topi (fun x_714 ex_714 => ?_)
                  have hx_714 : x_714.toInt = (51 + v_673.toInt) := by rw [ex_714]; exact i_add (show (51 : Int32).toInt = 51 from rfl) rfl (by omega)
                  refine va_iald hx hb hK hP 1 0 rfl rfl (i_in hx_714 (by omega)) dX12_house_100 ?_
                  refine lv_topi (fun x_715 ex_715 => ?_)
                  have px_715 := RwOK.at zfw hx_714 (show 0 ≤ (51 + v_673.toInt) ∧ (51 + v_673.toInt) < 100 by omega)
                  rw [← ex_715] at px_715
                  refine lv_iload hx hb dX12_house_101 (lv_at hl 6 rfl) ?_
                  refine lv_icmp_ne (tgt := 113) hx hb dX12_house_103 (by decide) (fun c_716 => ?_) (fun c_716 => ?_)
                  · have c_716i := i_ne (x := x_715.toInt) (y := x3.toInt) rfl rfl c_716
                    obtain ⟨x_717, ex_717⟩ : ∃ y : Int32, y = v_673 + Int32.ofInt 1 := ⟨_, rfl⟩
                    have hx_717 : x_717.toInt = (v_673.toInt + 1) := by rw [ex_717]; exact i_add rfl (show (Int32.ofInt 1).toInt = 1 from rfl) (by omega)
                    refine lv_iinc (v := x_717) (lv' := [(7, .int x_717), (6, .int x_650), (0, .ref m0), (1, .int x0), (2, .int x1), (3, .int x2), (4, .int x3), (5, .int x4)]) hx hb dX12_house_113 hl (k := 0) rfl (by rw [ex_717]) (by decide) rfl (fun ls hl => ?_)
                    refine lv_goto (tgt := 84) hx hb dX12_house_116 (by decide) ?_
                    exact ih_686 x_717 (by rw [hx_717]; omega) (by omega) _ _ hP hD hS ls (lv_sub hl [0, 1, 2, 3, 4, 5, 6, 7] rfl)
                  · have c_716i := i_eq (x := x_715.toInt) (y := x3.toInt) rfl rfl c_716
                    refine lv_aload_n hx hb dX12_house_106 rfl (lv_at hl 2 rfl) ?_
                    refine lv_bipush (v := (-3)) hx hb dX12_house_107 (by decide) ?_
                    refine kci (S := Su) (wr := [(w0, .inl (K 0, 5500, .inl fw))]) (va_runV (As := [.int (-3)]) (rest := []) ⟨hx, hb, hml, hown, hts⟩ (v_tell l D K m0 (-3) (.int 0) sta r0 (.ref w0) m_4 m_5 m_6 m_7 (.int nu) m_9 m_10 m_11 m_12 m_13 m_14 m_15 m_16 m_17 m_18 m_19 m_20 m_21 m_22 m_23 m_24 m_25 m_26 m_27 m_28 m_29 m_30 m_31 m_32 m_33 m_34 m_35 m_36 m_37 m_38 m_39 m_40 m_41 m_42 m_43 m_44 m_45 m_46 m_47 m_48 m_49 m_50 m_51 m_52 m_53 m_54 m_55 m_56 m_57 m_58 m_59 frf H.size (by first | omega | decide)) (cwV 1 hts gX12_house_X12_tell rfl rfl rfl (by decide +kernel) ⟨Nat.le_of_ble_eq_true rfl, Nat.le_of_ble_eq_true rfl⟩) (mkV hK hN (hP.sub [0, 2] rfl) (hD.sub [0, 2] (by decide) rfl) (ci := 12) (q0 := 0) rfl rfl) rfl rfl hl.1 rfl (lv_room (Nat.le_of_ble_eq_true rfl)) dX12_house_109 ⟨Nat.le_of_ble_eq_true rfl, Nat.le_of_ble_eq_true rfl⟩) hP hD hS hA [0, 2] [1] rfl rfl (by decide) (by decide) (fun r_718 u_719 H locs hw hP hD hS => ?_)
                    have hP : va_P D vwCl [(w0, .inl (K 0, 5500, .inl fw)), (m0, .inr (12, [.int 0, .int (u_719.2.2.2.1 0), .ref r0, .ref w0, m_4, m_5, m_6, m_7, .int nu, m_9, m_10, m_11, m_12, m_13, m_14, m_15, m_16, m_17, m_18, m_19, m_20, m_21, m_22, m_23, m_24, m_25, m_26, m_27, m_28, m_29, m_30, m_31, m_32, m_33, m_34, m_35, m_36, m_37, m_38, m_39, m_40, m_41, m_42, m_43, m_44, m_45, m_46, m_47, m_48, m_49, m_50, m_51, m_52, m_53, m_54, m_55, m_56, m_57, m_58, m_59])), (r0, .inl (K 0, 7, .inl (u_719.2.1 0)))] H := hP
                    have hD : va_D A [(w0, .inl (K 0, 5500, .inl fw)), (m0, .inr (12, [.int 0, .int (u_719.2.2.2.1 0), .ref r0, .ref w0, m_4, m_5, m_6, m_7, .int nu, m_9, m_10, m_11, m_12, m_13, m_14, m_15, m_16, m_17, m_18, m_19, m_20, m_21, m_22, m_23, m_24, m_25, m_26, m_27, m_28, m_29, m_30, m_31, m_32, m_33, m_34, m_35, m_36, m_37, m_38, m_39, m_40, m_41, m_42, m_43, m_44, m_45, m_46, m_47, m_48, m_49, m_50, m_51, m_52, m_53, m_54, m_55, m_56, m_57, m_58, m_59])), (r0, .inl (K 0, 7, .inl (u_719.2.1 0)))] := hD
                    obtain ⟨h_721, k_720, -⟩ := hw
                    rw [← hQ]
                    have hP9 := hP.sub (ws' := [(m0, .inr (12, [.int 0, .int (u_719.2.2.2.1 0), .ref r0, .ref w0, m_4, m_5, m_6, m_7, .int nu, m_9, m_10, m_11, m_12, m_13, m_14, m_15, m_16, m_17, m_18, m_19, m_20, m_21, m_22, m_23, m_24, m_25, m_26, m_27, m_28, m_29, m_30, m_31, m_32, m_33, m_34, m_35, m_36, m_37, m_38, m_39, m_40, m_41, m_42, m_43, m_44, m_45, m_46, m_47, m_48, m_49, m_50, m_51, m_52, m_53, m_54, m_55, m_56, m_57, m_58, m_59])), (w0, .inl (K 0, 5500, .inl fw)), (r0, .inl (K 0, 7, .inl (u_719.2.1 0)))]) [1, 0, 2] rfl
                    have hD9 := hD.sub (ws' := [(m0, .inr (12, [.int 0, .int (u_719.2.2.2.1 0), .ref r0, .ref w0, m_4, m_5, m_6, m_7, .int nu, m_9, m_10, m_11, m_12, m_13, m_14, m_15, m_16, m_17, m_18, m_19, m_20, m_21, m_22, m_23, m_24, m_25, m_26, m_27, m_28, m_29, m_30, m_31, m_32, m_33, m_34, m_35, m_36, m_37, m_38, m_39, m_40, m_41, m_42, m_43, m_44, m_45, m_46, m_47, m_48, m_49, m_50, m_51, m_52, m_53, m_54, m_55, m_56, m_57, m_58, m_59])), (w0, .inl (K 0, 5500, .inl fw)), (r0, .inl (K 0, 7, .inl (u_719.2.1 0)))]) [1, 0, 2] (by decide) rfl
                    exact W.iret (v := r_718) hx hb hr (fun t ht hW => ⟨⟨r_718, ((fun _ => 0, fun i => match i with | 0 => fw | _ => (u_719.2.1 0), fun _ => fun _ => 0, fun i => match i with | 0 => (u_719.2.2.2.1 0) | _ => nu, fun _ => 0, fun _ => fun _ => none) : Su), rfl, ⟨(show (-6) ≤ r_718.toInt by omega), (show (-6) ≤ ((u_719.2.2.2.1 0) : Int32).toInt ∧ ((u_719.2.2.2.1 0) : Int32).toInt ≤ 0 by omega), zfw, trivial⟩, (⟨by rw [ht]; exact hP9, hD9⟩ : Wd D A _ t)⟩, hS.F ht⟩) hS.2.2 dX12_house_112
            exact lp_685 ((9 - (0 : Int32).toInt : Int).toNat + 1) 0 (by decide) (Nat.lt_succ_self _) _ _ hP hD hS ls (lv_sub hl [0, 1, 2, 3, 4, 5, 6, 7] rfl)
          · refine lv_if_ne (tgt := 73) hx hb dX12_house_64 (by decide) (fun c_722 => absurd (by decide) c_722) (fun c_722 => ?_)
            exact j_616   _ _ hP hD hS ls (lv_sub hl [0] rfl)
        · refine lv_if_eq (tgt := 67) hx hb dX12_house_51 (by decide) (fun c_723 => ?_) (fun c_723 => absurd (by decide) c_723)
          exact j_616   _ _ hP hD hS ls (lv_sub hl [0] rfl)
      · refine lv_if_eq (tgt := 67) hx hb dX12_house_38 (by decide) (fun c_724 => ?_) (fun c_724 => absurd (by decide) c_724)
        exact j_616   _ _ hP hD hS ls (lv_sub hl [0] rfl)
    · refine lv_if_eq (tgt := 67) hx hb dX12_house_26 (by decide) (fun c_725 => ?_) (fun c_725 => absurd (by decide) c_725)
      exact j_616   _ _ hP hD hS ls (lv_sub hl [0] rfl)
  · refine lv_if_eq (tgt := 67) hx hb dX12_house_14 (by decide) (fun c_726 => ?_) (fun c_726 => absurd (by decide) c_726)
    exact j_616   _ _ hP hD hS ls (lv_sub hl [0] rfl)
set_option maxHeartbeats 4000000 in
set_option maxRecDepth 100000 in
theorem v_score (l : Launch) (D : va_G) (K : Nat → ClassId) (m0 : Nat) (x : Int32) (y : Int32) (thr : Int32) (sta : Int32) (r0 : Nat) (w0 : Nat) (m_4 : Value) (m_5 : Value) (m_6 : Value) (m_7 : Value) (m_8 : Value) (m_9 : Value) (m_10 : Value) (m_11 : Value) (m_12 : Value) (m_13 : Value) (m_14 : Value) (m_15 : Value) (m_16 : Value) (m_17 : Value) (m_18 : Value) (m_19 : Value) (m_20 : Value) (m_21 : Value) (m_22 : Value) (m_23 : Value) (m_24 : Value) (m_25 : Value) (m_26 : Value) (m_27 : Value) (m_28 : Value) (m_29 : Value) (m_30 : Value) (m_31 : Value) (m_32 : Value) (m_33 : Value) (m_34 : Value) (m_35 : Value) (m_36 : Value) (m_37 : Value) (m_38 : Value) (m_39 : Value) (m_40 : Value) (m_41 : Value) (m_42 : Value) (m_43 : Value) (m_44 : Value) (m_45 : Value) (m_46 : Value) (m_47 : Value) (m_48 : Value) (m_49 : Value) (m_50 : Value) (m_51 : Value) (m_52 : Value) (m_53 : Value) (m_54 : Value) (m_55 : Value) (m_56 : Value) (m_57 : Value) (m_58 : Value) (m_59 : Value) (fw : Nat → Int32) (frf : Nat → Int32) (sz : Nat) (zfw : RwOK fw) : Met l yX12_score wsX12_score ({ frames := 1, cells := 0, slots := 0, locals := 25 }) (va_Pc [.ref m0, .int x, .int y] (Pre D K [(m0, .inr (12, [.int thr, .int sta, .ref r0, .ref w0, m_4, m_5, m_6, m_7, m_8, m_9, m_10, m_11, m_12, m_13, m_14, m_15, m_16, m_17, m_18, m_19, m_20, m_21, m_22, m_23, m_24, m_25, m_26, m_27, m_28, m_29, m_30, m_31, m_32, m_33, m_34, m_35, m_36, m_37, m_38, m_39, m_40, m_41, m_42, m_43, m_44, m_45, m_46, m_47, m_48, m_49, m_50, m_51, m_52, m_53, m_54, m_55, m_56, m_57, m_58, m_59])), (w0, .inl (K 0, 5500, .inl fw)), (r0, .inl (K 0, 7, .inl frf))] sz)) (va_Qi (S := Su) (fun (r : Int32) (u : Su) => ((-6) ≤ (u.2.2.2.1 0).toInt ∧ (u.2.2.2.1 0).toInt ≤ 0) ∧ (RwOK (u.2.1 0)) ∧ True) (fun u t => Wd D (va_A [(m0, .inr (12, [.int thr, .int sta, .ref r0, .ref w0, m_4, m_5, m_6, m_7, m_8, m_9, m_10, m_11, m_12, m_13, m_14, m_15, m_16, m_17, m_18, m_19, m_20, m_21, m_22, m_23, m_24, m_25, m_26, m_27, m_28, m_29, m_30, m_31, m_32, m_33, m_34, m_35, m_36, m_37, m_38, m_39, m_40, m_41, m_42, m_43, m_44, m_45, m_46, m_47, m_48, m_49, m_50, m_51, m_52, m_53, m_54, m_55, m_56, m_57, m_58, m_59])), (w0, .inl (K 0, 5500, .inl fw)), (r0, .inl (K 0, 7, .inl frf))] sz) ((fun u => [(m0, .inr (12, [.int 0, .int (u.2.2.2.1 0), .ref r0, .ref w0, m_4, m_5, m_6, m_7, m_8, m_9, m_10, m_11, m_12, m_13, m_14, m_15, m_16, m_17, m_18, m_19, m_20, m_21, m_22, m_23, m_24, m_25, m_26, m_27, m_28, m_29, m_30, m_31, m_32, m_33, m_34, m_35, m_36, m_37, m_38, m_39, m_40, m_41, m_42, m_43, m_44, m_45, m_46, m_47, m_48, m_49, m_50, m_51, m_52, m_53, m_54, m_55, m_56, m_57, m_58, m_59])), (w0, .inl (K 0, 5500, .inl (u.2.1 0))), (r0, .inl (K 0, 7, .inl (u.2.1 1)))]) u) t) (va_A [(m0, .inr (12, [.int thr, .int sta, .ref r0, .ref w0, m_4, m_5, m_6, m_7, m_8, m_9, m_10, m_11, m_12, m_13, m_14, m_15, m_16, m_17, m_18, m_19, m_20, m_21, m_22, m_23, m_24, m_25, m_26, m_27, m_28, m_29, m_30, m_31, m_32, m_33, m_34, m_35, m_36, m_37, m_38, m_39, m_40, m_41, m_42, m_43, m_44, m_45, m_46, m_47, m_48, m_49, m_50, m_51, m_52, m_53, m_54, m_55, m_56, m_57, m_58, m_59])), (w0, .inl (K 0, 5500, .inl fw)), (r0, .inl (K 0, 7, .inl frf))] sz)) 0 0 (va_A [(m0, .inr (12, [.int thr, .int sta, .ref r0, .ref w0, m_4, m_5, m_6, m_7, m_8, m_9, m_10, m_11, m_12, m_13, m_14, m_15, m_16, m_17, m_18, m_19, m_20, m_21, m_22, m_23, m_24, m_25, m_26, m_27, m_28, m_29, m_30, m_31, m_32, m_33, m_34, m_35, m_36, m_37, m_38, m_39, m_40, m_41, m_42, m_43, m_44, m_45, m_46, m_47, m_48, m_49, m_50, m_51, m_52, m_53, m_54, m_55, m_56, m_57, m_58, m_59])), (w0, .inl (K 0, 5500, .inl fw)), (r0, .inl (K 0, 7, .inl frf))] sz) := by
  refine Met.ofW (cc := cX12_score) (maxL := 3) (ret := (some .int)) (by decide) rfl ?_
  intro p e s m args below meth c s₁ B hml hv
  obtain ⟨rfl, hsz, hP, hK, hD0, hN⟩ := hv
  have hx := B.exec
  have hb := B.bytes
  have hr := B.returns
  have hts := atoms_spec (ws := wsX12_score) B.pre
  have hown : s.vm.findClass RX12 = some m.cls := findClass_of_methodNamed B.named
  have hlocks := B.notSynchronized
  subst hsz
  have hD := hD0.self (sz := s.heap.size)
  generalize hAe : va_A [(m0, .inr (12, [.int thr, .int sta, .ref r0, .ref w0, m_4, m_5, m_6, m_7, m_8, m_9, m_10, m_11, m_12, m_13, m_14, m_15, m_16, m_17, m_18, m_19, m_20, m_21, m_22, m_23, m_24, m_25, m_26, m_27, m_28, m_29, m_30, m_31, m_32, m_33, m_34, m_35, m_36, m_37, m_38, m_39, m_40, m_41, m_42, m_43, m_44, m_45, m_46, m_47, m_48, m_49, m_50, m_51, m_52, m_53, m_54, m_55, m_56, m_57, m_58, m_59])), (w0, .inl (K 0, 5500, .inl fw)), (r0, .inl (K 0, 7, .inl frf))] s.heap.size = A at hD ⊢
  have hA : ∀ q : Nat, s.heap.size ≤ q → A q := fun q h => by rw [← hAe]; exact Or.inr h
  have hS : va_S A s.heap s.heap [] := va_S.rf
  have hP : va_P D vwCl [(m0, .inr (12, [.int thr, .int sta, .ref r0, .ref w0, m_4, m_5, m_6, m_7, m_8, m_9, m_10, m_11, m_12, m_13, m_14, m_15, m_16, m_17, m_18, m_19, m_20, m_21, m_22, m_23, m_24, m_25, m_26, m_27, m_28, m_29, m_30, m_31, m_32, m_33, m_34, m_35, m_36, m_37, m_38, m_39, m_40, m_41, m_42, m_43, m_44, m_45, m_46, m_47, m_48, m_49, m_50, m_51, m_52, m_53, m_54, m_55, m_56, m_57, m_58, m_59])), (w0, .inl (K 0, 5500, .inl fw)), (r0, .inl (K 0, 7, .inl frf))] s.heap := hP
  have hl := lv_entry [.ref m0, .int x, .int y] (n := 3) (Nat.le_of_ble_eq_true rfl)
  rw [lg_entry_eq]
  generalize (lg_sl [.ref m0, .int x, .int y] ++ List.replicate (3 - (lg_sl [.ref m0, .int x, .int y]).length) Slot.unset).toArray = ls at hl ⊢
  have hl : lv_has ls 3 [(0, .ref m0), (1, .int x), (2, .int y)] := hl
  have hw12 : ∀ w ∈ wsX120, w ∈ wsX12_score := fun w h => (List.mem_cons_of_mem _ (List.mem_append_right _ h))
  generalize hQ : MQ below _ _ s _ _ _ = Q
  refine lv_aload_n hx hb dX12_score_0 rfl (lv_at hl 0 rfl) ?_
  refine lv_iconst (v := 0) hx hb dX12_score_1 (by decide) ?_
  refine va_put (ci := 12) (v := .int 0) (ty := .int) (C := RX12) (T := TX12) (N := 60) hx hb hts hw12 tyX12 tyX12_ok nmX12 hown hK hP hD hS 0 rfl rfl 0 (by decide) (hts (.fieldLink RX12 158 "SmokeTuneModel" "thrown" "I") (List.mem_cons_of_mem _ (List.mem_append_left _ (List.mem_of_getElem? (i := 0) rfl)))) (fun _ h9 => h9) rfl (by decide +kernel) (by first | rfl | decide) (by first | rfl | decide) (Nat.le_of_ble_eq_true rfl) dX12_score_2 (fun H locs hP hD hS => ?_)
  have hP : va_P D vwCl [(m0, .inr (12, [.int 0, .int sta, .ref r0, .ref w0, m_4, m_5, m_6, m_7, m_8, m_9, m_10, m_11, m_12, m_13, m_14, m_15, m_16, m_17, m_18, m_19, m_20, m_21, m_22, m_23, m_24, m_25, m_26, m_27, m_28, m_29, m_30, m_31, m_32, m_33, m_34, m_35, m_36, m_37, m_38, m_39, m_40, m_41, m_42, m_43, m_44, m_45, m_46, m_47, m_48, m_49, m_50, m_51, m_52, m_53, m_54, m_55, m_56, m_57, m_58, m_59])), (w0, .inl (K 0, 5500, .inl fw)), (r0, .inl (K 0, 7, .inl frf))] H := hP
  have hD : va_D A [(m0, .inr (12, [.int 0, .int sta, .ref r0, .ref w0, m_4, m_5, m_6, m_7, m_8, m_9, m_10, m_11, m_12, m_13, m_14, m_15, m_16, m_17, m_18, m_19, m_20, m_21, m_22, m_23, m_24, m_25, m_26, m_27, m_28, m_29, m_30, m_31, m_32, m_33, m_34, m_35, m_36, m_37, m_38, m_39, m_40, m_41, m_42, m_43, m_44, m_45, m_46, m_47, m_48, m_49, m_50, m_51, m_52, m_53, m_54, m_55, m_56, m_57, m_58, m_59])), (w0, .inl (K 0, 5500, .inl fw)), (r0, .inl (K 0, 7, .inl frf))] := hD
  refine lv_iload_n hx hb dX12_score_5 rfl (lv_at hl 1 rfl) ?_
  refine lv_i2l hx hb dX12_score_6 rfl ?_
  refine lv_topl (fun x_149 ex_149 => ?_)
  have hx_149 : x_149.toInt = x.toInt := by rw [ex_149]; exact i_wide rfl
  have hbx_149 := i_rng (a := x) rfl
  refine lv_lconst (v := 0) hx hb dX12_score_7 (by decide) ?_
  refine lv_ldc2 (v := 23) hx hb hown (hts (.constantLong RX12 210 (23)) (List.mem_cons_of_mem _ (List.mem_append_left _ (List.mem_of_getElem? (i := 1) rfl)))) dX12_score_8 ?_
  have j_171 : ∀ (H : Heap) (locs : List Loc) (hP : va_P D vwCl [(m0, .inr (12, [.int 0, .int sta, .ref r0, .ref w0, m_4, m_5, m_6, m_7, m_8, m_9, m_10, m_11, m_12, m_13, m_14, m_15, m_16, m_17, m_18, m_19, m_20, m_21, m_22, m_23, m_24, m_25, m_26, m_27, m_28, m_29, m_30, m_31, m_32, m_33, m_34, m_35, m_36, m_37, m_38, m_39, m_40, m_41, m_42, m_43, m_44, m_45, m_46, m_47, m_48, m_49, m_50, m_51, m_52, m_53, m_54, m_55, m_56, m_57, m_58, m_59])), (w0, .inl (K 0, 5500, .inl fw)), (r0, .inl (K 0, 7, .inl frf))] H) (hD : va_D A [(m0, .inr (12, [.int 0, .int sta, .ref r0, .ref w0, m_4, m_5, m_6, m_7, m_8, m_9, m_10, m_11, m_12, m_13, m_14, m_15, m_16, m_17, m_18, m_19, m_20, m_21, m_22, m_23, m_24, m_25, m_26, m_27, m_28, m_29, m_30, m_31, m_32, m_33, m_34, m_35, m_36, m_37, m_38, m_39, m_40, m_41, m_42, m_43, m_44, m_45, m_46, m_47, m_48, m_49, m_50, m_51, m_52, m_53, m_54, m_55, m_56, m_57, m_58, m_59])), (w0, .inl (K 0, 5500, .inl fw)), (r0, .inl (K 0, 7, .inl frf))]) (hS : va_S A s.heap H locs) (ls : Array Slot) (hl : lv_has ls 3 [(0, .ref m0)]), W p l e ({ frames := 1, cells := 0, slots := 0, locals := 25 }) s m (([.ref m0, .int x, .int y] : List Value).toArray) below meth c H locs 0 0 Q (F0 m 41 ls []) := by
    intro H locs hP hD hS ls hl
    refine lv_aload_n hx hb dX12_score_41 rfl (lv_at hl 0 rfl) ?_
    refine lv_iconst (v := (-1)) hx hb dX12_score_42 (by decide) ?_
    refine kci (S := Su) (wr := [(w0, .inl (K 0, 5500, .inl fw))]) (va_runV (As := [.int (-1)]) (rest := []) ⟨hx, hb, hml, hown, hts⟩ (v_tell l D K m0 (-1) (.int 0) sta r0 (.ref w0) m_4 m_5 m_6 m_7 m_8 m_9 m_10 m_11 m_12 m_13 m_14 m_15 m_16 m_17 m_18 m_19 m_20 m_21 m_22 m_23 m_24 m_25 m_26 m_27 m_28 m_29 m_30 m_31 m_32 m_33 m_34 m_35 m_36 m_37 m_38 m_39 m_40 m_41 m_42 m_43 m_44 m_45 m_46 m_47 m_48 m_49 m_50 m_51 m_52 m_53 m_54 m_55 m_56 m_57 m_58 m_59 frf H.size (by first | omega | decide)) (cwV 1 hts gX12_score_X12_tell rfl rfl rfl (by decide +kernel) ⟨Nat.le_of_ble_eq_true rfl, Nat.le_of_ble_eq_true rfl⟩) (mkV hK hN (hP.sub [0, 2] rfl) (hD.sub [0, 2] (by decide) rfl) (ci := 12) (q0 := 0) rfl rfl) rfl rfl hl.1 rfl (lv_room (Nat.le_of_ble_eq_true rfl)) dX12_score_43 ⟨Nat.le_of_ble_eq_true rfl, Nat.le_of_ble_eq_true rfl⟩) hP hD hS hA [0, 2] [1] rfl rfl (by decide) (by decide) (fun r_172 u_173 H locs hw hP hD hS => ?_)
    have hP : va_P D vwCl [(w0, .inl (K 0, 5500, .inl fw)), (m0, .inr (12, [.int 0, .int (u_173.2.2.2.1 0), .ref r0, .ref w0, m_4, m_5, m_6, m_7, m_8, m_9, m_10, m_11, m_12, m_13, m_14, m_15, m_16, m_17, m_18, m_19, m_20, m_21, m_22, m_23, m_24, m_25, m_26, m_27, m_28, m_29, m_30, m_31, m_32, m_33, m_34, m_35, m_36, m_37, m_38, m_39, m_40, m_41, m_42, m_43, m_44, m_45, m_46, m_47, m_48, m_49, m_50, m_51, m_52, m_53, m_54, m_55, m_56, m_57, m_58, m_59])), (r0, .inl (K 0, 7, .inl (u_173.2.1 0)))] H := hP
    have hD : va_D A [(w0, .inl (K 0, 5500, .inl fw)), (m0, .inr (12, [.int 0, .int (u_173.2.2.2.1 0), .ref r0, .ref w0, m_4, m_5, m_6, m_7, m_8, m_9, m_10, m_11, m_12, m_13, m_14, m_15, m_16, m_17, m_18, m_19, m_20, m_21, m_22, m_23, m_24, m_25, m_26, m_27, m_28, m_29, m_30, m_31, m_32, m_33, m_34, m_35, m_36, m_37, m_38, m_39, m_40, m_41, m_42, m_43, m_44, m_45, m_46, m_47, m_48, m_49, m_50, m_51, m_52, m_53, m_54, m_55, m_56, m_57, m_58, m_59])), (r0, .inl (K 0, 7, .inl (u_173.2.1 0)))] := hD
    obtain ⟨h_175, k_174, -⟩ := hw
    rw [← hQ]
    have hP9 := hP.sub (ws' := [(m0, .inr (12, [.int 0, .int (u_173.2.2.2.1 0), .ref r0, .ref w0, m_4, m_5, m_6, m_7, m_8, m_9, m_10, m_11, m_12, m_13, m_14, m_15, m_16, m_17, m_18, m_19, m_20, m_21, m_22, m_23, m_24, m_25, m_26, m_27, m_28, m_29, m_30, m_31, m_32, m_33, m_34, m_35, m_36, m_37, m_38, m_39, m_40, m_41, m_42, m_43, m_44, m_45, m_46, m_47, m_48, m_49, m_50, m_51, m_52, m_53, m_54, m_55, m_56, m_57, m_58, m_59])), (w0, .inl (K 0, 5500, .inl fw)), (r0, .inl (K 0, 7, .inl (u_173.2.1 0)))]) [1, 0, 2] rfl
    have hD9 := hD.sub (ws' := [(m0, .inr (12, [.int 0, .int (u_173.2.2.2.1 0), .ref r0, .ref w0, m_4, m_5, m_6, m_7, m_8, m_9, m_10, m_11, m_12, m_13, m_14, m_15, m_16, m_17, m_18, m_19, m_20, m_21, m_22, m_23, m_24, m_25, m_26, m_27, m_28, m_29, m_30, m_31, m_32, m_33, m_34, m_35, m_36, m_37, m_38, m_39, m_40, m_41, m_42, m_43, m_44, m_45, m_46, m_47, m_48, m_49, m_50, m_51, m_52, m_53, m_54, m_55, m_56, m_57, m_58, m_59])), (w0, .inl (K 0, 5500, .inl fw)), (r0, .inl (K 0, 7, .inl (u_173.2.1 0)))]) [1, 0, 2] (by decide) rfl
    exact W.iret (v := r_172) hx hb hr (fun t ht hW => ⟨⟨r_172, ((fun _ => 0, fun i => match i with | 0 => fw | _ => (u_173.2.1 0), fun _ => fun _ => 0, fun i => match i with | _ => (u_173.2.2.2.1 0), fun _ => 0, fun _ => fun _ => none) : Su), rfl, ⟨(show (-6) ≤ ((u_173.2.2.2.1 0) : Int32).toInt ∧ ((u_173.2.2.2.1 0) : Int32).toInt ≤ 0 by omega), zfw, trivial⟩, (⟨by rw [ht]; exact hP9, hD9⟩ : Wd D A _ t)⟩, hS.F ht⟩) hS.2.2 dX12_score_46
  refine pci (va_runS (As := [.long x_149, .long 0, .long 23]) (rest := []) ⟨hx, hb, hml, hown, hts⟩ (v_in l D K x.toInt 0 23 x_149 0 23 H.size hx_149 (show (0 : Int64).toInt = 0 from rfl) (show (23 : Int64).toInt = 23 from rfl)) (va_cwS 3 hts gX12_score_X12_in rfl rfl rfl (by decide +kernel) ⟨Nat.le_of_ble_eq_true rfl, Nat.le_of_ble_eq_true rfl⟩) (mkS hK hN (va_P.nil) (va_D.nil (A := fun _ => True))) rfl rfl hl.1 rfl (lv_room (Nat.le_of_ble_eq_true rfl)) dX12_score_11 ⟨Nat.le_of_ble_eq_true rfl, Nat.le_of_ble_eq_true rfl⟩) (fun r_176 hw => ?_)
  obtain ⟨hw, -⟩ := hw
  rcases hw with ⟨rfl, h_177, h_178⟩ | ⟨rfl, h_179⟩
  · refine lv_if_eq (tgt := 41) hx hb dX12_score_14 (by decide) (fun c_180 => absurd c_180 (by decide)) (fun c_180 => ?_)
    refine lv_iload_n hx hb dX12_score_17 rfl (lv_at hl 2 rfl) ?_
    refine lv_i2l hx hb dX12_score_18 rfl ?_
    refine lv_topl (fun x_181 ex_181 => ?_)
    have hx_181 : x_181.toInt = y.toInt := by rw [ex_181]; exact i_wide rfl
    have hbx_181 := i_rng (a := y) rfl
    refine lv_lconst (v := 0) hx hb dX12_score_19 (by decide) ?_
    refine lv_ldc2 (v := 127) hx hb hown (hts (.constantLong RX12 212 (127)) (List.mem_cons_of_mem _ (List.mem_append_left _ (List.mem_of_getElem? (i := 2) rfl)))) dX12_score_20 ?_
    refine pci (va_runS (As := [.long x_181, .long 0, .long 127]) (rest := []) ⟨hx, hb, hml, hown, hts⟩ (v_in l D K y.toInt 0 127 x_181 0 127 H.size hx_181 (show (0 : Int64).toInt = 0 from rfl) (show (127 : Int64).toInt = 127 from rfl)) (va_cwS 3 hts gX12_score_X12_in rfl rfl rfl (by decide +kernel) ⟨Nat.le_of_ble_eq_true rfl, Nat.le_of_ble_eq_true rfl⟩) (mkS hK hN (va_P.nil) (va_D.nil (A := fun _ => True))) rfl rfl hl.1 rfl (lv_room (Nat.le_of_ble_eq_true rfl)) dX12_score_23 ⟨Nat.le_of_ble_eq_true rfl, Nat.le_of_ble_eq_true rfl⟩) (fun r_182 hw => ?_)
    obtain ⟨hw, -⟩ := hw
    rcases hw with ⟨rfl, h_183, h_184⟩ | ⟨rfl, h_185⟩
    · refine lv_if_eq (tgt := 41) hx hb dX12_score_26 (by decide) (fun c_186 => absurd c_186 (by decide)) (fun c_186 => ?_)
      refine lv_aload_n hx hb dX12_score_29 rfl (lv_at hl 0 rfl) ?_
      refine lv_bipush (v := 67) hx hb dX12_score_30 (by decide) ?_
      refine lv_iload_n hx hb dX12_score_32 rfl (lv_at hl 1 rfl) ?_
      refine lv_iadd hx hb dX12_score_33 ?_
      refine lv_topi (fun x_187 ex_187 => ?_)
      have hx_187 : x_187.toInt = (67 + x.toInt) := by rw [ex_187]; exact i_add (show (67 : Int32).toInt = 67 from rfl) rfl (by omega)
      refine lv_iload_n hx hb dX12_score_34 rfl (lv_at hl 2 rfl) ?_
      refine kci (S := Su) (wr := [(r0, .inl (K 0, 7, .inl frf))]) (va_runV (As := [.int x_187, .int y]) (rest := []) ⟨hx, hb, hml, hown, hts⟩ (v_change l D K m0 x_187 y (.int 0) sta (.ref r0) w0 m_4 m_5 m_6 m_7 m_8 m_9 m_10 m_11 m_12 m_13 m_14 m_15 m_16 m_17 m_18 m_19 m_20 m_21 m_22 m_23 m_24 m_25 m_26 m_27 m_28 m_29 m_30 m_31 m_32 m_33 m_34 m_35 m_36 m_37 m_38 m_39 m_40 m_41 m_42 m_43 m_44 m_45 m_46 m_47 m_48 m_49 m_50 m_51 m_52 m_53 m_54 m_55 m_56 m_57 m_58 m_59 fw H.size (by first | omega | decide) (PR.free (by omega)) zfw) (cwV 2 hts gX12_score_X12_change rfl rfl rfl (by decide +kernel) ⟨Nat.le_of_ble_eq_true rfl, Nat.le_of_ble_eq_true rfl⟩) (mkV hK hN (hP.sub [0, 1] rfl) (hD.sub [0, 1] (by decide) rfl) (ci := 12) (q0 := 0) rfl rfl) rfl rfl hl.1 rfl (lv_room (Nat.le_of_ble_eq_true rfl)) dX12_score_35 ⟨Nat.le_of_ble_eq_true rfl, Nat.le_of_ble_eq_true rfl⟩) hP hD hS hA [0, 1] [2] rfl rfl (by decide) (by decide) (fun r_188 u_189 H locs hw hP hD hS => ?_)
      have hP : va_P D vwCl [(r0, .inl (K 0, 7, .inl frf)), (m0, .inr (12, [.int 0, .int 0, .ref r0, .ref w0, m_4, m_5, m_6, m_7, m_8, m_9, m_10, m_11, m_12, m_13, m_14, m_15, m_16, m_17, m_18, m_19, m_20, m_21, m_22, m_23, m_24, m_25, m_26, m_27, m_28, m_29, m_30, m_31, m_32, m_33, m_34, m_35, m_36, m_37, m_38, m_39, m_40, m_41, m_42, m_43, m_44, m_45, m_46, m_47, m_48, m_49, m_50, m_51, m_52, m_53, m_54, m_55, m_56, m_57, m_58, m_59])), (w0, .inl (K 0, 5500, .inl (u_189.2.1 0)))] H := hP
      have hD : va_D A [(r0, .inl (K 0, 7, .inl frf)), (m0, .inr (12, [.int 0, .int 0, .ref r0, .ref w0, m_4, m_5, m_6, m_7, m_8, m_9, m_10, m_11, m_12, m_13, m_14, m_15, m_16, m_17, m_18, m_19, m_20, m_21, m_22, m_23, m_24, m_25, m_26, m_27, m_28, m_29, m_30, m_31, m_32, m_33, m_34, m_35, m_36, m_37, m_38, m_39, m_40, m_41, m_42, m_43, m_44, m_45, m_46, m_47, m_48, m_49, m_50, m_51, m_52, m_53, m_54, m_55, m_56, m_57, m_58, m_59])), (w0, .inl (K 0, 5500, .inl (u_189.2.1 0)))] := hD
      obtain ⟨k_190, -⟩ := hw
      refine lv_goto (tgt := 46) hx hb dX12_score_38 (by decide) ?_
      rw [← hQ]
      have hP9 := hP.sub (ws' := [(m0, .inr (12, [.int 0, .int 0, .ref r0, .ref w0, m_4, m_5, m_6, m_7, m_8, m_9, m_10, m_11, m_12, m_13, m_14, m_15, m_16, m_17, m_18, m_19, m_20, m_21, m_22, m_23, m_24, m_25, m_26, m_27, m_28, m_29, m_30, m_31, m_32, m_33, m_34, m_35, m_36, m_37, m_38, m_39, m_40, m_41, m_42, m_43, m_44, m_45, m_46, m_47, m_48, m_49, m_50, m_51, m_52, m_53, m_54, m_55, m_56, m_57, m_58, m_59])), (w0, .inl (K 0, 5500, .inl (u_189.2.1 0))), (r0, .inl (K 0, 7, .inl frf))]) [1, 2, 0] rfl
      have hD9 := hD.sub (ws' := [(m0, .inr (12, [.int 0, .int 0, .ref r0, .ref w0, m_4, m_5, m_6, m_7, m_8, m_9, m_10, m_11, m_12, m_13, m_14, m_15, m_16, m_17, m_18, m_19, m_20, m_21, m_22, m_23, m_24, m_25, m_26, m_27, m_28, m_29, m_30, m_31, m_32, m_33, m_34, m_35, m_36, m_37, m_38, m_39, m_40, m_41, m_42, m_43, m_44, m_45, m_46, m_47, m_48, m_49, m_50, m_51, m_52, m_53, m_54, m_55, m_56, m_57, m_58, m_59])), (w0, .inl (K 0, 5500, .inl (u_189.2.1 0))), (r0, .inl (K 0, 7, .inl frf))]) [1, 2, 0] (by decide) rfl
      exact W.iret (v := r_188) hx hb hr (fun t ht hW => ⟨⟨r_188, ((fun _ => 0, fun i => match i with | 0 => (u_189.2.1 0) | _ => frf, fun _ => fun _ => 0, fun i => match i with | _ => 0, fun _ => 0, fun _ => fun _ => none) : Su), rfl, ⟨(show (-6) ≤ (0 : Int32).toInt ∧ (0 : Int32).toInt ≤ 0 by decide), k_190, trivial⟩, (⟨by rw [ht]; exact hP9, hD9⟩ : Wd D A _ t)⟩, hS.F ht⟩) hS.2.2 dX12_score_46
    · refine lv_if_eq (tgt := 41) hx hb dX12_score_26 (by decide) (fun c_191 => ?_) (fun c_191 => absurd (by decide) c_191)
      exact j_171   _ _ hP hD hS ls (lv_sub hl [0] rfl)
  · refine lv_if_eq (tgt := 41) hx hb dX12_score_14 (by decide) (fun c_192 => ?_) (fun c_192 => absurd (by decide) c_192)
    exact j_171   _ _ hP hD hS ls (lv_sub hl [0] rfl)
set_option maxHeartbeats 4000000 in
set_option maxRecDepth 100000 in
theorem v_chord (l : Launch) (D : va_G) (K : Nat → ClassId) (m0 : Nat) (x : Int32) (thr : Int32) (m_1 : Value) (m_2 : Value) (w0 : Nat) (m_4 : Value) (m_5 : Value) (m_6 : Value) (m_7 : Value) (m_8 : Value) (m_9 : Value) (m_10 : Value) (m_11 : Value) (m_12 : Value) (m_13 : Value) (m_14 : Value) (m_15 : Value) (m_16 : Value) (m_17 : Value) (m_18 : Value) (m_19 : Value) (m_20 : Value) (m_21 : Value) (m_22 : Value) (m_23 : Value) (m_24 : Value) (m_25 : Value) (m_26 : Value) (m_27 : Value) (m_28 : Value) (m_29 : Value) (m_30 : Value) (m_31 : Value) (m_32 : Value) (m_33 : Value) (m_34 : Value) (m_35 : Value) (m_36 : Value) (m_37 : Value) (m_38 : Value) (m_39 : Value) (m_40 : Value) (m_41 : Value) (m_42 : Value) (m_43 : Value) (m_44 : Value) (m_45 : Value) (m_46 : Value) (m_47 : Value) (m_48 : Value) (m_49 : Value) (m_50 : Value) (m_51 : Value) (m_52 : Value) (m_53 : Value) (m_54 : Value) (m_55 : Value) (m_56 : Value) (m_57 : Value) (m_58 : Value) (m_59 : Value) (fw : Nat → Int32) (sz : Nat) (zfw : RwOK fw) : Met l yX12_chord wsX12_chord ({ frames := 1, cells := 0, slots := 0, locals := 25 }) (va_Pc [.ref m0, .int x] (Pre D K [(m0, .inr (12, [.int thr, m_1, m_2, .ref w0, m_4, m_5, m_6, m_7, m_8, m_9, m_10, m_11, m_12, m_13, m_14, m_15, m_16, m_17, m_18, m_19, m_20, m_21, m_22, m_23, m_24, m_25, m_26, m_27, m_28, m_29, m_30, m_31, m_32, m_33, m_34, m_35, m_36, m_37, m_38, m_39, m_40, m_41, m_42, m_43, m_44, m_45, m_46, m_47, m_48, m_49, m_50, m_51, m_52, m_53, m_54, m_55, m_56, m_57, m_58, m_59])), (w0, .inl (K 0, 5500, .inl fw))] sz)) (va_Qi (S := Su) (fun (r : Int32) (u : Su) => True) (fun u t => Wd D (va_A [(m0, .inr (12, [.int thr, m_1, m_2, .ref w0, m_4, m_5, m_6, m_7, m_8, m_9, m_10, m_11, m_12, m_13, m_14, m_15, m_16, m_17, m_18, m_19, m_20, m_21, m_22, m_23, m_24, m_25, m_26, m_27, m_28, m_29, m_30, m_31, m_32, m_33, m_34, m_35, m_36, m_37, m_38, m_39, m_40, m_41, m_42, m_43, m_44, m_45, m_46, m_47, m_48, m_49, m_50, m_51, m_52, m_53, m_54, m_55, m_56, m_57, m_58, m_59])), (w0, .inl (K 0, 5500, .inl fw))] sz) ((fun u => [(m0, .inr (12, [.int 0, m_1, m_2, .ref w0, m_4, m_5, m_6, m_7, m_8, m_9, m_10, m_11, m_12, m_13, m_14, m_15, m_16, m_17, m_18, m_19, m_20, m_21, m_22, m_23, m_24, m_25, m_26, m_27, m_28, m_29, m_30, m_31, m_32, m_33, m_34, m_35, m_36, m_37, m_38, m_39, m_40, m_41, m_42, m_43, m_44, m_45, m_46, m_47, m_48, m_49, m_50, m_51, m_52, m_53, m_54, m_55, m_56, m_57, m_58, m_59])), (w0, .inl (K 0, 5500, .inl fw))]) u) t) (va_A [(m0, .inr (12, [.int thr, m_1, m_2, .ref w0, m_4, m_5, m_6, m_7, m_8, m_9, m_10, m_11, m_12, m_13, m_14, m_15, m_16, m_17, m_18, m_19, m_20, m_21, m_22, m_23, m_24, m_25, m_26, m_27, m_28, m_29, m_30, m_31, m_32, m_33, m_34, m_35, m_36, m_37, m_38, m_39, m_40, m_41, m_42, m_43, m_44, m_45, m_46, m_47, m_48, m_49, m_50, m_51, m_52, m_53, m_54, m_55, m_56, m_57, m_58, m_59])), (w0, .inl (K 0, 5500, .inl fw))] sz)) 0 0 (va_A [(m0, .inr (12, [.int thr, m_1, m_2, .ref w0, m_4, m_5, m_6, m_7, m_8, m_9, m_10, m_11, m_12, m_13, m_14, m_15, m_16, m_17, m_18, m_19, m_20, m_21, m_22, m_23, m_24, m_25, m_26, m_27, m_28, m_29, m_30, m_31, m_32, m_33, m_34, m_35, m_36, m_37, m_38, m_39, m_40, m_41, m_42, m_43, m_44, m_45, m_46, m_47, m_48, m_49, m_50, m_51, m_52, m_53, m_54, m_55, m_56, m_57, m_58, m_59])), (w0, .inl (K 0, 5500, .inl fw))] sz) := by
  refine Met.ofW (cc := cX12_chord) (maxL := 2) (ret := (some .int)) (by decide) rfl ?_
  intro p e s m args below meth c s₁ B hml hv
  obtain ⟨rfl, hsz, hP, hK, hD0, hN⟩ := hv
  have hx := B.exec
  have hb := B.bytes
  have hr := B.returns
  have hts := atoms_spec (ws := wsX12_chord) B.pre
  have hown : s.vm.findClass RX12 = some m.cls := findClass_of_methodNamed B.named
  have hlocks := B.notSynchronized
  subst hsz
  have hD := hD0.self (sz := s.heap.size)
  generalize hAe : va_A [(m0, .inr (12, [.int thr, m_1, m_2, .ref w0, m_4, m_5, m_6, m_7, m_8, m_9, m_10, m_11, m_12, m_13, m_14, m_15, m_16, m_17, m_18, m_19, m_20, m_21, m_22, m_23, m_24, m_25, m_26, m_27, m_28, m_29, m_30, m_31, m_32, m_33, m_34, m_35, m_36, m_37, m_38, m_39, m_40, m_41, m_42, m_43, m_44, m_45, m_46, m_47, m_48, m_49, m_50, m_51, m_52, m_53, m_54, m_55, m_56, m_57, m_58, m_59])), (w0, .inl (K 0, 5500, .inl fw))] s.heap.size = A at hD ⊢
  have hA : ∀ q : Nat, s.heap.size ≤ q → A q := fun q h => by rw [← hAe]; exact Or.inr h
  have hS : va_S A s.heap s.heap [] := va_S.rf
  have hP : va_P D vwCl [(m0, .inr (12, [.int thr, m_1, m_2, .ref w0, m_4, m_5, m_6, m_7, m_8, m_9, m_10, m_11, m_12, m_13, m_14, m_15, m_16, m_17, m_18, m_19, m_20, m_21, m_22, m_23, m_24, m_25, m_26, m_27, m_28, m_29, m_30, m_31, m_32, m_33, m_34, m_35, m_36, m_37, m_38, m_39, m_40, m_41, m_42, m_43, m_44, m_45, m_46, m_47, m_48, m_49, m_50, m_51, m_52, m_53, m_54, m_55, m_56, m_57, m_58, m_59])), (w0, .inl (K 0, 5500, .inl fw))] s.heap := hP
  have hl := lv_entry [.ref m0, .int x] (n := 2) (Nat.le_of_ble_eq_true rfl)
  rw [lg_entry_eq]
  generalize (lg_sl [.ref m0, .int x] ++ List.replicate (2 - (lg_sl [.ref m0, .int x]).length) Slot.unset).toArray = ls at hl ⊢
  have hl : lv_has ls 2 [(0, .ref m0), (1, .int x)] := hl
  have hw12 : ∀ w ∈ wsX120, w ∈ wsX12_chord := fun w h => (List.mem_cons_of_mem _ (List.mem_append_right _ h))
  generalize hQ : MQ below _ _ s _ _ _ = Q
  refine lv_aload_n hx hb dX12_chord_0 rfl (lv_at hl 0 rfl) ?_
  refine lv_iconst (v := 0) hx hb dX12_chord_1 (by decide) ?_
  refine va_put (ci := 12) (v := .int 0) (ty := .int) (C := RX12) (T := TX12) (N := 60) hx hb hts hw12 tyX12 tyX12_ok nmX12 hown hK hP hD hS 0 rfl rfl 0 (by decide) (hts (.fieldLink RX12 158 "SmokeTuneModel" "thrown" "I") (List.mem_cons_of_mem _ (List.mem_append_left _ (List.mem_of_getElem? (i := 0) rfl)))) (fun _ h9 => h9) rfl (by decide +kernel) (by first | rfl | decide) (by first | rfl | decide) (Nat.le_of_ble_eq_true rfl) dX12_chord_2 (fun H locs hP hD hS => ?_)
  have hP : va_P D vwCl [(m0, .inr (12, [.int 0, m_1, m_2, .ref w0, m_4, m_5, m_6, m_7, m_8, m_9, m_10, m_11, m_12, m_13, m_14, m_15, m_16, m_17, m_18, m_19, m_20, m_21, m_22, m_23, m_24, m_25, m_26, m_27, m_28, m_29, m_30, m_31, m_32, m_33, m_34, m_35, m_36, m_37, m_38, m_39, m_40, m_41, m_42, m_43, m_44, m_45, m_46, m_47, m_48, m_49, m_50, m_51, m_52, m_53, m_54, m_55, m_56, m_57, m_58, m_59])), (w0, .inl (K 0, 5500, .inl fw))] H := hP
  have hD : va_D A [(m0, .inr (12, [.int 0, m_1, m_2, .ref w0, m_4, m_5, m_6, m_7, m_8, m_9, m_10, m_11, m_12, m_13, m_14, m_15, m_16, m_17, m_18, m_19, m_20, m_21, m_22, m_23, m_24, m_25, m_26, m_27, m_28, m_29, m_30, m_31, m_32, m_33, m_34, m_35, m_36, m_37, m_38, m_39, m_40, m_41, m_42, m_43, m_44, m_45, m_46, m_47, m_48, m_49, m_50, m_51, m_52, m_53, m_54, m_55, m_56, m_57, m_58, m_59])), (w0, .inl (K 0, 5500, .inl fw))] := hD
  refine lv_iload_n hx hb dX12_chord_5 rfl (lv_at hl 1 rfl) ?_
  refine lv_i2l hx hb dX12_chord_6 rfl ?_
  refine lv_topl (fun x_79 ex_79 => ?_)
  have hx_79 : x_79.toInt = x.toInt := by rw [ex_79]; exact i_wide rfl
  have hbx_79 := i_rng (a := x) rfl
  refine lv_lconst (v := 0) hx hb dX12_chord_7 (by decide) ?_
  refine lv_ldc2 (v := 23) hx hb hown (hts (.constantLong RX12 210 (23)) (List.mem_cons_of_mem _ (List.mem_append_left _ (List.mem_of_getElem? (i := 1) rfl)))) dX12_chord_8 ?_
  refine pci (va_runS (As := [.long x_79, .long 0, .long 23]) (rest := []) ⟨hx, hb, hml, hown, hts⟩ (v_in l D K x.toInt 0 23 x_79 0 23 H.size hx_79 (show (0 : Int64).toInt = 0 from rfl) (show (23 : Int64).toInt = 23 from rfl)) (va_cwS 3 hts gX12_chord_X12_in rfl rfl rfl (by decide +kernel) ⟨Nat.le_of_ble_eq_true rfl, Nat.le_of_ble_eq_true rfl⟩) (mkS hK hN (va_P.nil) (va_D.nil (A := fun _ => True))) rfl rfl hl.1 rfl (lv_room (Nat.le_of_ble_eq_true rfl)) dX12_chord_11 ⟨Nat.le_of_ble_eq_true rfl, Nat.le_of_ble_eq_true rfl⟩) (fun r_80 hw => ?_)
  obtain ⟨hw, -⟩ := hw
  rcases hw with ⟨rfl, h_81, h_82⟩ | ⟨rfl, h_83⟩
  · refine lv_if_eq (tgt := 29) hx hb dX12_chord_14 (by decide) (fun c_84 => absurd c_84 (by decide)) (fun c_84 => ?_)
    refine lv_aload_n hx hb dX12_chord_17 rfl (lv_at hl 0 rfl) ?_
    refine va_get (ci := 12) (v := .ref w0) (C := RX12) (T := TX12) (N := 60) hx hb hts hw12 hown hK hP 0 rfl rfl 3 (by decide) (hts (.fieldLink RX12 13 "SmokeTuneModel" "row" "[I") (List.mem_cons_of_mem _ (List.mem_append_left _ (List.mem_of_getElem? (i := 2) rfl)))) (fun _ h9 => h9) rfl dX12_chord_18 ?_
    refine lv_bipush (v := 67) hx hb dX12_chord_21 (by decide) ?_
    refine lv_iload_n hx hb dX12_chord_23 rfl (lv_at hl 1 rfl) ?_
    refine lv_iadd hx hb dX12_chord_24 ?_
    refine lv_topi (fun x_85 ex_85 => ?_)
    have hx_85 : x_85.toInt = (67 + x.toInt) := by rw [ex_85]; exact i_add (show (67 : Int32).toInt = 67 from rfl) rfl (by omega)
    refine va_iald hx hb hK hP 1 0 rfl rfl (i_in hx_85 (by omega)) dX12_chord_25 ?_
    refine lv_topi (fun x_86 ex_86 => ?_)
    have px_86 := RwOK.at zfw hx_85 (show 0 ≤ (67 + x.toInt) ∧ (67 + x.toInt) < 100 by omega)
    rw [← ex_86] at px_86
    refine lv_goto (tgt := 30) hx hb dX12_chord_26 (by decide) ?_
    rw [← hQ]
    have hP9 := hP.sub (ws' := [(m0, .inr (12, [.int 0, m_1, m_2, .ref w0, m_4, m_5, m_6, m_7, m_8, m_9, m_10, m_11, m_12, m_13, m_14, m_15, m_16, m_17, m_18, m_19, m_20, m_21, m_22, m_23, m_24, m_25, m_26, m_27, m_28, m_29, m_30, m_31, m_32, m_33, m_34, m_35, m_36, m_37, m_38, m_39, m_40, m_41, m_42, m_43, m_44, m_45, m_46, m_47, m_48, m_49, m_50, m_51, m_52, m_53, m_54, m_55, m_56, m_57, m_58, m_59])), (w0, .inl (K 0, 5500, .inl fw))]) [0, 1] rfl
    have hD9 := hD.sub (ws' := [(m0, .inr (12, [.int 0, m_1, m_2, .ref w0, m_4, m_5, m_6, m_7, m_8, m_9, m_10, m_11, m_12, m_13, m_14, m_15, m_16, m_17, m_18, m_19, m_20, m_21, m_22, m_23, m_24, m_25, m_26, m_27, m_28, m_29, m_30, m_31, m_32, m_33, m_34, m_35, m_36, m_37, m_38, m_39, m_40, m_41, m_42, m_43, m_44, m_45, m_46, m_47, m_48, m_49, m_50, m_51, m_52, m_53, m_54, m_55, m_56, m_57, m_58, m_59])), (w0, .inl (K 0, 5500, .inl fw))]) [0, 1] (by decide) rfl
    exact W.iret (v := x_86) hx hb hr (fun t ht hW => ⟨⟨x_86, ((fun _ => 0, fun _ => fun _ => 0, fun _ => fun _ => 0, fun _ => 0, fun _ => 0, fun _ => fun _ => none) : Su), rfl, trivial, (⟨by rw [ht]; exact hP9, hD9⟩ : Wd D A _ t)⟩, hS.F ht⟩) hS.2.2 dX12_chord_30
  · refine lv_if_eq (tgt := 29) hx hb dX12_chord_14 (by decide) (fun c_87 => ?_) (fun c_87 => absurd (by decide) c_87)
    refine lv_iconst (v := (-1)) hx hb dX12_chord_29 (by decide) ?_
    rw [← hQ]
    have hP9 := hP.sub (ws' := [(m0, .inr (12, [.int 0, m_1, m_2, .ref w0, m_4, m_5, m_6, m_7, m_8, m_9, m_10, m_11, m_12, m_13, m_14, m_15, m_16, m_17, m_18, m_19, m_20, m_21, m_22, m_23, m_24, m_25, m_26, m_27, m_28, m_29, m_30, m_31, m_32, m_33, m_34, m_35, m_36, m_37, m_38, m_39, m_40, m_41, m_42, m_43, m_44, m_45, m_46, m_47, m_48, m_49, m_50, m_51, m_52, m_53, m_54, m_55, m_56, m_57, m_58, m_59])), (w0, .inl (K 0, 5500, .inl fw))]) [0, 1] rfl
    have hD9 := hD.sub (ws' := [(m0, .inr (12, [.int 0, m_1, m_2, .ref w0, m_4, m_5, m_6, m_7, m_8, m_9, m_10, m_11, m_12, m_13, m_14, m_15, m_16, m_17, m_18, m_19, m_20, m_21, m_22, m_23, m_24, m_25, m_26, m_27, m_28, m_29, m_30, m_31, m_32, m_33, m_34, m_35, m_36, m_37, m_38, m_39, m_40, m_41, m_42, m_43, m_44, m_45, m_46, m_47, m_48, m_49, m_50, m_51, m_52, m_53, m_54, m_55, m_56, m_57, m_58, m_59])), (w0, .inl (K 0, 5500, .inl fw))]) [0, 1] (by decide) rfl
    exact W.iret (v := (-1)) hx hb hr (fun t ht hW => ⟨⟨(-1), ((fun _ => 0, fun _ => fun _ => 0, fun _ => fun _ => 0, fun _ => 0, fun _ => 0, fun _ => fun _ => none) : Su), rfl, trivial, (⟨by rw [ht]; exact hP9, hD9⟩ : Wd D A _ t)⟩, hS.F ht⟩) hS.2.2 dX12_chord_30
set_option maxHeartbeats 4000000 in
set_option maxRecDepth 100000 in
theorem v_canBe (l : Launch) (D : va_G) (K : Nat → ClassId) (x : Int32) (y : Int32) (sz : Nat) : Met l yX12_canBe wsX12_canBe ({ frames := 1, cells := 0, slots := 0, locals := 25 }) (va_Pc [.int x, .int y] (Pre D K [] sz)) (vp_Si (fun r : Int32 => ((r = 1 ∧ ((x.toInt = 0 ∧ 0 ≤ y.toInt ∧ y.toInt ≤ 23) ∨ (1 ≤ x.toInt ∧ x.toInt ≤ 5))) ∨ (r = 0)) ∧ True)) 0 0 (fun _ => False) := by
  refine Met.ofW (cc := cX12_canBe) (maxL := 2) (ret := (some .boolean)) (by decide) rfl ?_
  intro p e s m args below meth c s₁ B hml hv
  obtain ⟨rfl, hsz, hP, hK, hD0, hN⟩ := hv
  have hx := B.exec
  have hb := B.bytes
  have hr := B.returns
  have hts := atoms_spec (ws := wsX12_canBe) B.pre
  have hown : s.vm.findClass RX12 = some m.cls := findClass_of_methodNamed B.named
  have hlocks := B.notSynchronized
  subst hsz
  have hD := hD0
  have hP : va_P D vwCl [] s.heap := hP
  have hl := lv_entry [.int x, .int y] (n := 2) (Nat.le_of_ble_eq_true rfl)
  rw [lg_entry_eq]
  generalize (lg_sl [.int x, .int y] ++ List.replicate (2 - (lg_sl [.int x, .int y]).length) Slot.unset).toArray = ls at hl ⊢
  have hl : lv_has ls 2 [(0, .int x), (1, .int y)] := hl
  generalize hQ : MQ below _ _ s _ _ _ = Q
  refine lv_iload_n hx hb dX12_canBe_0 rfl (lv_at hl 0 rfl) ?_
  have w_129 : x.toInt = 0 ∨ x.toInt = 1 ∨ x.toInt = 2 ∨ x.toInt = 3 ∨ x.toInt = 4 ∨ (x.toInt < 0 ∨ 4 < x.toInt) := by omega
  rcases w_129 with w_129 | w_129 | w_129 | w_129 | w_129 | w_129
  · refine lv_tableIn (tgt := 36) hx hb dX12_canBe_1 (by omega) (by omega) (by rw [w_129]; rfl) (by decide) ?_
    refine lv_iload_n hx hb dX12_canBe_36 rfl (lv_at hl 1 rfl) ?_
    refine lv_i2l hx hb dX12_canBe_37 rfl ?_
    refine lv_topl (fun x_130 ex_130 => ?_)
    have hx_130 : x_130.toInt = y.toInt := by rw [ex_130]; exact i_wide rfl
    have hbx_130 := i_rng (a := y) rfl
    refine lv_lconst (v := 0) hx hb dX12_canBe_38 (by decide) ?_
    refine lv_ldc2 (v := 23) hx hb hown (hts (.constantLong RX12 210 (23)) (List.mem_cons_of_mem _ (List.mem_of_getElem? (i := 0) rfl))) dX12_canBe_39 ?_
    refine pci (va_runS (As := [.long x_130, .long 0, .long 23]) (rest := []) ⟨hx, hb, hml, hown, hts⟩ (v_in l D K y.toInt 0 23 x_130 0 23 s.heap.size hx_130 (show (0 : Int64).toInt = 0 from rfl) (show (23 : Int64).toInt = 23 from rfl)) (va_cwS 3 hts gX12_canBe_X12_in rfl rfl rfl (by decide +kernel) ⟨Nat.le_of_ble_eq_true rfl, Nat.le_of_ble_eq_true rfl⟩) (mkS hK hN (va_P.nil) (va_D.nil (A := fun _ => True))) rfl rfl hl.1 rfl (lv_room (Nat.le_of_ble_eq_true rfl)) dX12_canBe_42 ⟨Nat.le_of_ble_eq_true rfl, Nat.le_of_ble_eq_true rfl⟩) (fun r_131 hw => ?_)
    obtain ⟨hw, -⟩ := hw
    rcases hw with ⟨rfl, h_132, h_133⟩ | ⟨rfl, h_134⟩
    · rw [← hQ]
      exact W.zret (v := 1) hx hb hr (by decide) (fun t ht hW => ⟨_, rfl, ⟨(by first | exact Or.inl ⟨rfl, by first | omega | decide | (subst_vars; assumption)⟩), trivial⟩, ht⟩) (fun q hq => by cases hq) dX12_canBe_45
    · rw [← hQ]
      exact W.zret (v := 0) hx hb hr (by decide) (fun t ht hW => ⟨_, rfl, ⟨(by first | exact Or.inr (rfl)), trivial⟩, ht⟩) (fun q hq => by cases hq) dX12_canBe_45
  · refine lv_tableIn (tgt := 46) hx hb dX12_canBe_1 (by omega) (by omega) (by rw [w_129]; rfl) (by decide) ?_
    refine lv_iload_n hx hb dX12_canBe_46 rfl (lv_at hl 1 rfl) ?_
    refine lv_i2l hx hb dX12_canBe_47 rfl ?_
    refine lv_topl (fun x_135 ex_135 => ?_)
    have hx_135 : x_135.toInt = y.toInt := by rw [ex_135]; exact i_wide rfl
    have hbx_135 := i_rng (a := y) rfl
    refine lv_lconst (v := 0) hx hb dX12_canBe_48 (by decide) ?_
    refine lv_ldc2 (v := 999) hx hb hown (hts (.constantLong RX12 193 (999)) (List.mem_cons_of_mem _ (List.mem_of_getElem? (i := 1) rfl))) dX12_canBe_49 ?_
    refine pci (va_runS (As := [.long x_135, .long 0, .long 999]) (rest := []) ⟨hx, hb, hml, hown, hts⟩ (v_in l D K y.toInt 0 999 x_135 0 999 s.heap.size hx_135 (show (0 : Int64).toInt = 0 from rfl) (show (999 : Int64).toInt = 999 from rfl)) (va_cwS 3 hts gX12_canBe_X12_in rfl rfl rfl (by decide +kernel) ⟨Nat.le_of_ble_eq_true rfl, Nat.le_of_ble_eq_true rfl⟩) (mkS hK hN (va_P.nil) (va_D.nil (A := fun _ => True))) rfl rfl hl.1 rfl (lv_room (Nat.le_of_ble_eq_true rfl)) dX12_canBe_52 ⟨Nat.le_of_ble_eq_true rfl, Nat.le_of_ble_eq_true rfl⟩) (fun r_136 hw => ?_)
    obtain ⟨hw, -⟩ := hw
    rcases hw with ⟨rfl, h_137, h_138⟩ | ⟨rfl, h_139⟩
    · rw [← hQ]
      exact W.zret (v := 1) hx hb hr (by decide) (fun t ht hW => ⟨_, rfl, ⟨(by first | exact Or.inl ⟨rfl, by first | omega | decide | (subst_vars; assumption)⟩), trivial⟩, ht⟩) (fun q hq => by cases hq) dX12_canBe_55
    · rw [← hQ]
      exact W.zret (v := 0) hx hb hr (by decide) (fun t ht hW => ⟨_, rfl, ⟨(by first | exact Or.inr (rfl)), trivial⟩, ht⟩) (fun q hq => by cases hq) dX12_canBe_55
  · refine lv_tableIn (tgt := 56) hx hb dX12_canBe_1 (by omega) (by omega) (by rw [w_129]; rfl) (by decide) ?_
    refine lv_iload_n hx hb dX12_canBe_56 rfl (lv_at hl 1 rfl) ?_
    refine lv_i2l hx hb dX12_canBe_57 rfl ?_
    refine lv_topl (fun x_140 ex_140 => ?_)
    have hx_140 : x_140.toInt = y.toInt := by rw [ex_140]; exact i_wide rfl
    have hbx_140 := i_rng (a := y) rfl
    refine lv_lconst (v := 1) hx hb dX12_canBe_58 (by decide) ?_
    refine lv_ldc2 (v := 20) hx hb hown (hts (.constantLong RX12 217 (20)) (List.mem_cons_of_mem _ (List.mem_of_getElem? (i := 2) rfl))) dX12_canBe_59 ?_
    refine pci (va_runS (As := [.long x_140, .long 1, .long 20]) (rest := []) ⟨hx, hb, hml, hown, hts⟩ (v_in l D K y.toInt 1 20 x_140 1 20 s.heap.size hx_140 (show (1 : Int64).toInt = 1 from rfl) (show (20 : Int64).toInt = 20 from rfl)) (va_cwS 3 hts gX12_canBe_X12_in rfl rfl rfl (by decide +kernel) ⟨Nat.le_of_ble_eq_true rfl, Nat.le_of_ble_eq_true rfl⟩) (mkS hK hN (va_P.nil) (va_D.nil (A := fun _ => True))) rfl rfl hl.1 rfl (lv_room (Nat.le_of_ble_eq_true rfl)) dX12_canBe_62 ⟨Nat.le_of_ble_eq_true rfl, Nat.le_of_ble_eq_true rfl⟩) (fun r_141 hw => ?_)
    obtain ⟨hw, -⟩ := hw
    rcases hw with ⟨rfl, h_142, h_143⟩ | ⟨rfl, h_144⟩
    · rw [← hQ]
      exact W.zret (v := 1) hx hb hr (by decide) (fun t ht hW => ⟨_, rfl, ⟨(by first | exact Or.inl ⟨rfl, by first | omega | decide | (subst_vars; assumption)⟩), trivial⟩, ht⟩) (fun q hq => by cases hq) dX12_canBe_65
    · rw [← hQ]
      exact W.zret (v := 0) hx hb hr (by decide) (fun t ht hW => ⟨_, rfl, ⟨(by first | exact Or.inr (rfl)), trivial⟩, ht⟩) (fun q hq => by cases hq) dX12_canBe_65
  · refine lv_tableIn (tgt := 56) hx hb dX12_canBe_1 (by omega) (by omega) (by rw [w_129]; rfl) (by decide) ?_
    refine lv_iload_n hx hb dX12_canBe_56 rfl (lv_at hl 1 rfl) ?_
    refine lv_i2l hx hb dX12_canBe_57 rfl ?_
    refine lv_topl (fun x_145 ex_145 => ?_)
    have hx_145 : x_145.toInt = y.toInt := by rw [ex_145]; exact i_wide rfl
    have hbx_145 := i_rng (a := y) rfl
    refine lv_lconst (v := 1) hx hb dX12_canBe_58 (by decide) ?_
    refine lv_ldc2 (v := 20) hx hb hown (hts (.constantLong RX12 217 (20)) (List.mem_cons_of_mem _ (List.mem_of_getElem? (i := 2) rfl))) dX12_canBe_59 ?_
    refine pci (va_runS (As := [.long x_145, .long 1, .long 20]) (rest := []) ⟨hx, hb, hml, hown, hts⟩ (v_in l D K y.toInt 1 20 x_145 1 20 s.heap.size hx_145 (show (1 : Int64).toInt = 1 from rfl) (show (20 : Int64).toInt = 20 from rfl)) (va_cwS 3 hts gX12_canBe_X12_in rfl rfl rfl (by decide +kernel) ⟨Nat.le_of_ble_eq_true rfl, Nat.le_of_ble_eq_true rfl⟩) (mkS hK hN (va_P.nil) (va_D.nil (A := fun _ => True))) rfl rfl hl.1 rfl (lv_room (Nat.le_of_ble_eq_true rfl)) dX12_canBe_62 ⟨Nat.le_of_ble_eq_true rfl, Nat.le_of_ble_eq_true rfl⟩) (fun r_146 hw => ?_)
    obtain ⟨hw, -⟩ := hw
    rcases hw with ⟨rfl, h_147, h_148⟩ | ⟨rfl, h_149⟩
    · rw [← hQ]
      exact W.zret (v := 1) hx hb hr (by decide) (fun t ht hW => ⟨_, rfl, ⟨(by first | exact Or.inl ⟨rfl, by first | omega | decide | (subst_vars; assumption)⟩), trivial⟩, ht⟩) (fun q hq => by cases hq) dX12_canBe_65
    · rw [← hQ]
      exact W.zret (v := 0) hx hb hr (by decide) (fun t ht hW => ⟨_, rfl, ⟨(by first | exact Or.inr (rfl)), trivial⟩, ht⟩) (fun q hq => by cases hq) dX12_canBe_65
  · refine lv_tableIn (tgt := 66) hx hb dX12_canBe_1 (by omega) (by omega) (by rw [w_129]; rfl) (by decide) ?_
    refine lv_iload_n hx hb dX12_canBe_66 rfl (lv_at hl 1 rfl) ?_
    refine lv_i2l hx hb dX12_canBe_67 rfl ?_
    refine lv_topl (fun x_150 ex_150 => ?_)
    have hx_150 : x_150.toInt = y.toInt := by rw [ex_150]; exact i_wide rfl
    have hbx_150 := i_rng (a := y) rfl
    refine lv_lconst (v := 0) hx hb dX12_canBe_68 (by decide) ?_
    refine lv_ldc2 (v := 10) hx hb hown (hts (.constantLong RX12 219 (10)) (List.mem_cons_of_mem _ (List.mem_of_getElem? (i := 3) rfl))) dX12_canBe_69 ?_
    refine pci (va_runS (As := [.long x_150, .long 0, .long 10]) (rest := []) ⟨hx, hb, hml, hown, hts⟩ (v_in l D K y.toInt 0 10 x_150 0 10 s.heap.size hx_150 (show (0 : Int64).toInt = 0 from rfl) (show (10 : Int64).toInt = 10 from rfl)) (va_cwS 3 hts gX12_canBe_X12_in rfl rfl rfl (by decide +kernel) ⟨Nat.le_of_ble_eq_true rfl, Nat.le_of_ble_eq_true rfl⟩) (mkS hK hN (va_P.nil) (va_D.nil (A := fun _ => True))) rfl rfl hl.1 rfl (lv_room (Nat.le_of_ble_eq_true rfl)) dX12_canBe_72 ⟨Nat.le_of_ble_eq_true rfl, Nat.le_of_ble_eq_true rfl⟩) (fun r_151 hw => ?_)
    obtain ⟨hw, -⟩ := hw
    rcases hw with ⟨rfl, h_152, h_153⟩ | ⟨rfl, h_154⟩
    · rw [← hQ]
      exact W.zret (v := 1) hx hb hr (by decide) (fun t ht hW => ⟨_, rfl, ⟨(by first | exact Or.inl ⟨rfl, by first | omega | decide | (subst_vars; assumption)⟩), trivial⟩, ht⟩) (fun q hq => by cases hq) dX12_canBe_75
    · rw [← hQ]
      exact W.zret (v := 0) hx hb hr (by decide) (fun t ht hW => ⟨_, rfl, ⟨(by first | exact Or.inr (rfl)), trivial⟩, ht⟩) (fun q hq => by cases hq) dX12_canBe_75
  · refine lv_tableOut (tgt := 76) hx hb dX12_canBe_1 (by omega) (by decide) ?_
    refine lv_iload_n hx hb dX12_canBe_76 rfl (lv_at hl 0 rfl) ?_
    refine lv_iconst (v := 5) hx hb dX12_canBe_77 (by decide) ?_
    refine lv_icmp_ne (tgt := 97) hx hb dX12_canBe_78 (by decide) (fun c_155 => ?_) (fun c_155 => ?_)
    · have c_155i := i_ne (x := x.toInt) (y := 5) rfl rfl c_155
      refine lv_iconst (v := 0) hx hb dX12_canBe_97 (by decide) ?_
      rw [← hQ]
      exact W.zret (v := 0) hx hb hr (by decide) (fun t ht hW => ⟨_, rfl, ⟨(by first | exact Or.inr (rfl)), trivial⟩, ht⟩) (fun q hq => by cases hq) dX12_canBe_98
    · have c_155i := i_eq (x := x.toInt) (y := 5) rfl rfl c_155
      refine lv_iload_n hx hb dX12_canBe_81 rfl (lv_at hl 1 rfl) ?_
      refine lv_i2l hx hb dX12_canBe_82 rfl ?_
      refine lv_topl (fun x_156 ex_156 => ?_)
      have hx_156 : x_156.toInt = y.toInt := by rw [ex_156]; exact i_wide rfl
      have hbx_156 := i_rng (a := y) rfl
      refine lv_lconst (v := 0) hx hb dX12_canBe_83 (by decide) ?_
      refine lv_ldc2 (v := 9) hx hb hown (hts (.constantLong RX12 221 (9)) (List.mem_cons_of_mem _ (List.mem_of_getElem? (i := 4) rfl))) dX12_canBe_84 ?_
      refine pci (va_runS (As := [.long x_156, .long 0, .long 9]) (rest := []) ⟨hx, hb, hml, hown, hts⟩ (v_in l D K y.toInt 0 9 x_156 0 9 s.heap.size hx_156 (show (0 : Int64).toInt = 0 from rfl) (show (9 : Int64).toInt = 9 from rfl)) (va_cwS 3 hts gX12_canBe_X12_in rfl rfl rfl (by decide +kernel) ⟨Nat.le_of_ble_eq_true rfl, Nat.le_of_ble_eq_true rfl⟩) (mkS hK hN (va_P.nil) (va_D.nil (A := fun _ => True))) rfl rfl hl.1 rfl (lv_room (Nat.le_of_ble_eq_true rfl)) dX12_canBe_87 ⟨Nat.le_of_ble_eq_true rfl, Nat.le_of_ble_eq_true rfl⟩) (fun r_157 hw => ?_)
      obtain ⟨hw, -⟩ := hw
      rcases hw with ⟨rfl, h_158, h_159⟩ | ⟨rfl, h_160⟩
      · refine lv_if_eq (tgt := 97) hx hb dX12_canBe_90 (by decide) (fun c_161 => absurd c_161 (by decide)) (fun c_161 => ?_)
        refine lv_iconst (v := 1) hx hb dX12_canBe_93 (by decide) ?_
        refine lv_goto (tgt := 98) hx hb dX12_canBe_94 (by decide) ?_
        rw [← hQ]
        exact W.zret (v := 1) hx hb hr (by decide) (fun t ht hW => ⟨_, rfl, ⟨(by first | exact Or.inl ⟨rfl, by first | omega | decide | (subst_vars; assumption)⟩), trivial⟩, ht⟩) (fun q hq => by cases hq) dX12_canBe_98
      · refine lv_if_eq (tgt := 97) hx hb dX12_canBe_90 (by decide) (fun c_162 => ?_) (fun c_162 => absurd (by decide) c_162)
        refine lv_iconst (v := 0) hx hb dX12_canBe_97 (by decide) ?_
        rw [← hQ]
        exact W.zret (v := 0) hx hb hr (by decide) (fun t ht hW => ⟨_, rfl, ⟨(by first | exact Or.inr (rfl)), trivial⟩, ht⟩) (fun q hq => by cases hq) dX12_canBe_98
