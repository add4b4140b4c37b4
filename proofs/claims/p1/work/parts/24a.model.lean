theorem dX12_layTunes_0 : decode cX12_layTunes 0 = .ok (.iconst 0, 1) := by decide +kernel
theorem dX12_layTunes_1 : decode cX12_layTunes 1 = .ok (.istore_n 2, 1) := by decide +kernel
theorem dX12_layTunes_2 : decode cX12_layTunes 2 = .ok (.iconst 0, 1) := by decide +kernel
theorem dX12_layTunes_3 : decode cX12_layTunes 3 = .ok (.istore_n 3, 1) := by decide +kernel
theorem dX12_layTunes_4 : decode cX12_layTunes 4 = .ok (.iload_n 3, 1) := by decide +kernel
theorem dX12_layTunes_5 : decode cX12_layTunes 5 = .ok (.aload_n 0, 1) := by decide +kernel
theorem dX12_layTunes_6 : decode cX12_layTunes 6 = .ok (.getfield 13, 3) := by decide +kernel
theorem dX12_layTunes_9 : decode cX12_layTunes 9 = .ok (.iconst 0, 1) := by decide +kernel
theorem dX12_layTunes_10 : decode cX12_layTunes 10 = .ok (.iaload, 1) := by decide +kernel
theorem dX12_layTunes_11 : decode cX12_layTunes 11 = .ok (.if_icmp .ge 32, 3) := by decide +kernel
theorem dX12_layTunes_43 : decode cX12_layTunes 43 = .ok (.iconst 0, 1) := by decide +kernel
theorem dX12_layTunes_44 : decode cX12_layTunes 44 = .ok (.istore_n 3, 1) := by decide +kernel
theorem dX12_layTunes_45 : decode cX12_layTunes 45 = .ok (.iload_n 3, 1) := by decide +kernel
theorem dX12_layTunes_46 : decode cX12_layTunes 46 = .ok (.sipush 128, 3) := by decide +kernel
theorem dX12_layTunes_49 : decode cX12_layTunes 49 = .ok (.if_icmp .ge 22, 3) := by decide +kernel
theorem dX12_layTunes_71 : decode cX12_layTunes 71 = .ok (.iload_n 2, 1) := by decide +kernel
theorem dX12_layTunes_72 : decode cX12_layTunes 72 = .ok (.iconst 1, 1) := by decide +kernel
theorem dX12_layTunes_73 : decode cX12_layTunes 73 = .ok (.isub, 1) := by decide +kernel
theorem dX12_layTunes_74 : decode cX12_layTunes 74 = .ok (.istore_n 3, 1) := by decide +kernel
theorem dX12_layTunes_75 : decode cX12_layTunes 75 = .ok (.iload_n 3, 1) := by decide +kernel
theorem dX12_layTunes_76 : decode cX12_layTunes 76 = .ok (.ifCond .lt 89, 3) := by decide +kernel
theorem dX12_layTunes_165 : decode cX12_layTunes 165 = .ok (.iload_n 2, 1) := by decide +kernel
theorem dX12_layTunes_166 : decode cX12_layTunes 166 = .ok (.ireturn, 1) := by decide +kernel
theorem dX12_layTunes_52 : decode cX12_layTunes 52 = .ok (.aload_n 0, 1) := by decide +kernel
theorem dX12_layTunes_53 : decode cX12_layTunes 53 = .ok (.getfield 126, 3) := by decide +kernel
theorem dX12_layTunes_56 : decode cX12_layTunes 56 = .ok (.sipush 128, 3) := by decide +kernel
theorem dX12_layTunes_59 : decode cX12_layTunes 59 = .ok (.iload_n 2, 1) := by decide +kernel
theorem dX12_layTunes_60 : decode cX12_layTunes 60 = .ok (.imul, 1) := by decide +kernel
theorem dX12_layTunes_61 : decode cX12_layTunes 61 = .ok (.iload_n 3, 1) := by decide +kernel
theorem dX12_layTunes_62 : decode cX12_layTunes 62 = .ok (.iadd, 1) := by decide +kernel
theorem dX12_layTunes_63 : decode cX12_layTunes 63 = .ok (.iconst 0, 1) := by decide +kernel
theorem dX12_layTunes_64 : decode cX12_layTunes 64 = .ok (.iastore, 1) := by decide +kernel
theorem dX12_layTunes_65 : decode cX12_layTunes 65 = .ok (.iinc 3 1, 3) := by decide +kernel
theorem dX12_layTunes_68 : decode cX12_layTunes 68 = .ok (.goto (-23), 3) := by decide +kernel
theorem dX12_tune_0 : decode cX12_tune 0 = .ok (.aload_n 0, 1) := by decide +kernel
theorem dX12_tune_1 : decode cX12_tune 1 = .ok (.iconst 0, 1) := by decide +kernel
theorem dX12_tune_2 : decode cX12_tune 2 = .ok (.putfield 158, 3) := by decide +kernel
theorem dX12_tune_5 : decode cX12_tune 5 = .ok (.iload_n 1, 1) := by decide +kernel
theorem dX12_tune_6 : decode cX12_tune 6 = .ok (.i2l, 1) := by decide +kernel
theorem dX12_tune_7 : decode cX12_tune 7 = .ok (.lconst 0, 1) := by decide +kernel
theorem dX12_tune_8 : decode cX12_tune 8 = .ok (.ldc2_w 191, 3) := by decide +kernel
theorem dX12_tune_11 : decode cX12_tune 11 = .ok (.invokestatic 178, 3) := by decide +kernel
theorem dX12_tune_14 : decode cX12_tune 14 = .ok (.ifCond .eq 36, 3) := by decide +kernel
theorem dX12_tune_17 : decode cX12_tune 17 = .ok (.iload_n 2, 1) := by decide +kernel
theorem dX12_tune_18 : decode cX12_tune 18 = .ok (.ifCond .lt 32, 3) := by decide +kernel
theorem dX12_tune_50 : decode cX12_tune 50 = .ok (.iconst (-1), 1) := by decide +kernel
theorem dX12_tune_51 : decode cX12_tune 51 = .ok (.ireturn, 1) := by decide +kernel
theorem dX12_tune_21 : decode cX12_tune 21 = .ok (.iload_n 2, 1) := by decide +kernel
theorem dX12_tune_22 : decode cX12_tune 22 = .ok (.ifCond .le 30, 3) := by decide +kernel
theorem dX12_tune_52 : decode cX12_tune 52 = .ok (.aload_n 0, 1) := by decide +kernel
theorem dX12_tune_53 : decode cX12_tune 53 = .ok (.iload_n 1, 1) := by decide +kernel
theorem dX12_tune_54 : decode cX12_tune 54 = .ok (.invokevirtual 512, 3) := by decide +kernel
theorem dX12_tune_57 : decode cX12_tune 57 = .ok (.istore_n 3, 1) := by decide +kernel
theorem dX12_tune_58 : decode cX12_tune 58 = .ok (.iload_n 2, 1) := by decide +kernel
theorem dX12_tune_59 : decode cX12_tune 59 = .ok (.ifCond .ne 10, 3) := by decide +kernel
theorem dX12_tune_62 : decode cX12_tune 62 = .ok (.aload_n 0, 1) := by decide +kernel
theorem dX12_tune_63 : decode cX12_tune 63 = .ok (.getfield 126, 3) := by decide +kernel
theorem dX12_tune_66 : decode cX12_tune 66 = .ok (.iconst 0, 1) := by decide +kernel
theorem dX12_tune_67 : decode cX12_tune 67 = .ok (.iaload, 1) := by decide +kernel
theorem dX12_tune_68 : decode cX12_tune 68 = .ok (.ireturn, 1) := by decide +kernel
theorem dX12_tune_25 : decode cX12_tune 25 = .ok (.aload_n 0, 1) := by decide +kernel
theorem dX12_tune_26 : decode cX12_tune 26 = .ok (.iload_n 2, 1) := by decide +kernel
theorem dX12_tune_27 : decode cX12_tune 27 = .ok (.iconst 1, 1) := by decide +kernel
theorem dX12_tune_28 : decode cX12_tune 28 = .ok (.isub, 1) := by decide +kernel
theorem dX12_tune_29 : decode cX12_tune 29 = .ok (.invokevirtual 197, 3) := by decide +kernel
theorem dX12_tune_32 : decode cX12_tune 32 = .ok (.ifCond .eq 18, 3) := by decide +kernel
theorem dX12_isAsHeard_0 : decode cX12_isAsHeard 0 = .ok (.iconst 0, 1) := by decide +kernel
theorem dX12_isAsHeard_1 : decode cX12_isAsHeard 1 = .ok (.istore_n 2, 1) := by decide +kernel
theorem dX12_isAsHeard_2 : decode cX12_isAsHeard 2 = .ok (.iconst 0, 1) := by decide +kernel
theorem dX12_isAsHeard_3 : decode cX12_isAsHeard 3 = .ok (.istore_n 3, 1) := by decide +kernel
theorem dX12_isAsHeard_4 : decode cX12_isAsHeard 4 = .ok (.iload_n 3, 1) := by decide +kernel
theorem dX12_isAsHeard_5 : decode cX12_isAsHeard 5 = .ok (.aload_n 0, 1) := by decide +kernel
theorem dX12_isAsHeard_6 : decode cX12_isAsHeard 6 = .ok (.getfield 13, 3) := by decide +kernel
theorem dX12_isAsHeard_9 : decode cX12_isAsHeard 9 = .ok (.iconst 1, 1) := by decide +kernel
theorem dX12_isAsHeard_10 : decode cX12_isAsHeard 10 = .ok (.iaload, 1) := by decide +kernel
theorem dX12_isAsHeard_11 : decode cX12_isAsHeard 11 = .ok (.if_icmp .ge 21, 3) := by decide +kernel
theorem dX12_isAsHeard_32 : decode cX12_isAsHeard 32 = .ok (.iconst 0, 1) := by decide +kernel
theorem dX12_isAsHeard_33 : decode cX12_isAsHeard 33 = .ok (.istore_n 3, 1) := by decide +kernel
theorem dX12_isAsHeard_34 : decode cX12_isAsHeard 34 = .ok (.iconst 0, 1) := by decide +kernel
theorem dX12_isAsHeard_35 : decode cX12_isAsHeard 35 = .ok (.istore 4, 2) := by decide +kernel
theorem dX12_isAsHeard_37 : decode cX12_isAsHeard 37 = .ok (.iload 4, 2) := by decide +kernel
theorem dX12_isAsHeard_39 : decode cX12_isAsHeard 39 = .ok (.aload_n 0, 1) := by decide +kernel
theorem dX12_isAsHeard_40 : decode cX12_isAsHeard 40 = .ok (.getfield 13, 3) := by decide +kernel
theorem dX12_isAsHeard_43 : decode cX12_isAsHeard 43 = .ok (.iconst 0, 1) := by decide +kernel
theorem dX12_isAsHeard_44 : decode cX12_isAsHeard 44 = .ok (.iaload, 1) := by decide +kernel
theorem dX12_isAsHeard_45 : decode cX12_isAsHeard 45 = .ok (.if_icmp .ge 37, 3) := by decide +kernel
theorem dX12_isAsHeard_82 : decode cX12_isAsHeard 82 = .ok (.iload_n 3, 1) := by decide +kernel
theorem dX12_isAsHeard_83 : decode cX12_isAsHeard 83 = .ok (.iload_n 2, 1) := by decide +kernel
theorem dX12_isAsHeard_84 : decode cX12_isAsHeard 84 = .ok (.if_icmp .ne 7, 3) := by decide +kernel
theorem dX12_isAsHeard_87 : decode cX12_isAsHeard 87 = .ok (.iconst 1, 1) := by decide +kernel
theorem dX12_isAsHeard_88 : decode cX12_isAsHeard 88 = .ok (.goto 4, 3) := by decide +kernel
theorem dX12_isAsHeard_92 : decode cX12_isAsHeard 92 = .ok (.ireturn, 1) := by decide +kernel
theorem dX12_hill_0 : decode cX12_hill 0 = .ok (.aload_n 0, 1) := by decide +kernel
theorem dX12_hill_1 : decode cX12_hill 1 = .ok (.iconst 0, 1) := by decide +kernel
theorem dX12_hill_2 : decode cX12_hill 2 = .ok (.putfield 158, 3) := by decide +kernel
theorem dX12_hill_5 : decode cX12_hill 5 = .ok (.iconst 0, 1) := by decide +kernel
theorem dX12_hill_6 : decode cX12_hill 6 = .ok (.istore_n 2, 1) := by decide +kernel
theorem dX12_hill_7 : decode cX12_hill 7 = .ok (.iconst (-1), 1) := by decide +kernel
theorem dX12_hill_8 : decode cX12_hill 8 = .ok (.istore_n 3, 1) := by decide +kernel
theorem dX12_hill_9 : decode cX12_hill 9 = .ok (.iconst 0, 1) := by decide +kernel
theorem dX12_hill_10 : decode cX12_hill 10 = .ok (.istore 4, 2) := by decide +kernel
theorem dX12_hill_12 : decode cX12_hill 12 = .ok (.iload 4, 2) := by decide +kernel
theorem dX12_hill_14 : decode cX12_hill 14 = .ok (.iconst 1, 1) := by decide +kernel
theorem dX12_hill_15 : decode cX12_hill 15 = .ok (.aload_n 0, 1) := by decide +kernel
theorem dX12_hill_16 : decode cX12_hill 16 = .ok (.getfield 13, 3) := by decide +kernel
theorem dX12_hill_19 : decode cX12_hill 19 = .ok (.iconst 0, 1) := by decide +kernel
theorem dX12_hill_20 : decode cX12_hill 20 = .ok (.iaload, 1) := by decide +kernel
theorem dX12_hill_21 : decode cX12_hill 21 = .ok (.ishl, 1) := by decide +kernel
theorem dX12_hill_22 : decode cX12_hill 22 = .ok (.if_icmp .ge 33, 3) := by decide +kernel
theorem dX12_hill_25 : decode cX12_hill 25 = .ok (.aload_n 0, 1) := by decide +kernel
theorem dX12_hill_26 : decode cX12_hill 26 = .ok (.iload 4, 2) := by decide +kernel
theorem dX12_hill_28 : decode cX12_hill 28 = .ok (.invokevirtual 515, 3) := by decide +kernel
theorem dX12_hill_31 : decode cX12_hill 31 = .ok (.ifCond .eq 18, 3) := by decide +kernel
theorem dX12_hill_34 : decode cX12_hill 34 = .ok (.iload_n 2, 1) := by decide +kernel
theorem dX12_hill_35 : decode cX12_hill 35 = .ok (.iload_n 1, 1) := by decide +kernel
theorem dX12_hill_36 : decode cX12_hill 36 = .ok (.if_icmp .ne 8, 3) := by decide +kernel
theorem dX12_hill_44 : decode cX12_hill 44 = .ok (.iload_n 3, 1) := by decide +kernel
theorem dX12_hill_45 : decode cX12_hill 45 = .ok (.istore_n 3, 1) := by decide +kernel
theorem dX12_hill_46 : decode cX12_hill 46 = .ok (.iinc 2 1, 3) := by decide +kernel
theorem dX12_hill_49 : decode cX12_hill 49 = .ok (.iinc 4 1, 3) := by decide +kernel
theorem dX12_hill_52 : decode cX12_hill 52 = .ok (.goto (-40), 3) := by decide +kernel
theorem dX12_hill_55 : decode cX12_hill 55 = .ok (.iload_n 1, 1) := by decide +kernel
theorem dX12_hill_56 : decode cX12_hill 56 = .ok (.iconst (-1), 1) := by decide +kernel
theorem dX12_hill_57 : decode cX12_hill 57 = .ok (.if_icmp .ne 7, 3) := by decide +kernel
theorem dX12_hill_64 : decode cX12_hill 64 = .ok (.iload_n 3, 1) := by decide +kernel
theorem dX12_hill_65 : decode cX12_hill 65 = .ok (.ireturn, 1) := by decide +kernel
theorem dX12_hill_60 : decode cX12_hill 60 = .ok (.iload_n 2, 1) := by decide +kernel
theorem dX12_hill_61 : decode cX12_hill 61 = .ok (.goto 4, 3) := by decide +kernel
theorem dX12_hill_39 : decode cX12_hill 39 = .ok (.iload 4, 2) := by decide +kernel
theorem dX12_hill_41 : decode cX12_hill 41 = .ok (.goto 4, 3) := by decide +kernel
theorem dX12_ask_0 : decode cX12_ask 0 = .ok (.aload_n 0, 1) := by decide +kernel
theorem dX12_ask_1 : decode cX12_ask 1 = .ok (.iconst 0, 1) := by decide +kernel
theorem dX12_ask_2 : decode cX12_ask 2 = .ok (.putfield 158, 3) := by decide +kernel
theorem dX12_ask_5 : decode cX12_ask 5 = .ok (.iload_n 1, 1) := by decide +kernel
theorem dX12_ask_6 : decode cX12_ask 6 = .ok (.i2l, 1) := by decide +kernel
theorem dX12_ask_7 : decode cX12_ask 7 = .ok (.lconst 0, 1) := by decide +kernel
theorem dX12_ask_8 : decode cX12_ask 8 = .ok (.lconst 1, 1) := by decide +kernel
theorem dX12_ask_9 : decode cX12_ask 9 = .ok (.invokestatic 178, 3) := by decide +kernel
theorem dX12_ask_12 : decode cX12_ask 12 = .ok (.ifCond .ne 5, 3) := by decide +kernel
theorem dX12_ask_17 : decode cX12_ask 17 = .ok (.iconst 0, 1) := by decide +kernel
theorem dX12_ask_18 : decode cX12_ask 18 = .ok (.istore_n 2, 1) := by decide +kernel
theorem dX12_ask_19 : decode cX12_ask 19 = .ok (.iconst 0, 1) := by decide +kernel
theorem dX12_ask_20 : decode cX12_ask 20 = .ok (.istore_n 3, 1) := by decide +kernel
theorem dX12_ask_21 : decode cX12_ask 21 = .ok (.iload_n 3, 1) := by decide +kernel
theorem dX12_ask_22 : decode cX12_ask 22 = .ok (.bipush 8, 2) := by decide +kernel
theorem dX12_ask_24 : decode cX12_ask 24 = .ok (.if_icmp .ge 16, 3) := by decide +kernel
theorem dX12_ask_27 : decode cX12_ask 27 = .ok (.aload_n 0, 1) := by decide +kernel
theorem dX12_ask_28 : decode cX12_ask 28 = .ok (.getfield 132, 3) := by decide +kernel
theorem dX12_ask_31 : decode cX12_ask 31 = .ok (.iload_n 3, 1) := by decide +kernel
theorem dX12_ask_32 : decode cX12_ask 32 = .ok (.iconst 0, 1) := by decide +kernel
theorem dX12_ask_33 : decode cX12_ask 33 = .ok (.iastore, 1) := by decide +kernel
theorem dX12_ask_34 : decode cX12_ask 34 = .ok (.iinc 3 1, 3) := by decide +kernel
theorem dX12_ask_37 : decode cX12_ask 37 = .ok (.goto (-16), 3) := by decide +kernel
theorem dX12_ask_40 : decode cX12_ask 40 = .ok (.iconst 0, 1) := by decide +kernel
theorem dX12_ask_41 : decode cX12_ask 41 = .ok (.istore_n 3, 1) := by decide +kernel
theorem dX12_ask_42 : decode cX12_ask 42 = .ok (.iload_n 3, 1) := by decide +kernel
theorem dX12_ask_43 : decode cX12_ask 43 = .ok (.iconst 1, 1) := by decide +kernel
theorem dX12_ask_44 : decode cX12_ask 44 = .ok (.aload_n 0, 1) := by decide +kernel
theorem dX12_ask_45 : decode cX12_ask 45 = .ok (.getfield 13, 3) := by decide +kernel
theorem dX12_ask_48 : decode cX12_ask 48 = .ok (.iconst 0, 1) := by decide +kernel
theorem dX12_ask_49 : decode cX12_ask 49 = .ok (.iaload, 1) := by decide +kernel
theorem dX12_ask_50 : decode cX12_ask 50 = .ok (.ishl, 1) := by decide +kernel
theorem dX12_ask_51 : decode cX12_ask 51 = .ok (.if_icmp .ge 52, 3) := by decide +kernel
theorem dX12_ask_54 : decode cX12_ask 54 = .ok (.aload_n 0, 1) := by decide +kernel
theorem dX12_ask_55 : decode cX12_ask 55 = .ok (.iload_n 3, 1) := by decide +kernel
theorem dX12_ask_56 : decode cX12_ask 56 = .ok (.invokevirtual 515, 3) := by decide +kernel
theorem dX12_ask_59 : decode cX12_ask 59 = .ok (.ifCond .eq 38, 3) := by decide +kernel
theorem dX12_ask_62 : decode cX12_ask 62 = .ok (.iinc 2 1, 3) := by decide +kernel
theorem dX12_ask_65 : decode cX12_ask 65 = .ok (.iconst 0, 1) := by decide +kernel
theorem dX12_ask_66 : decode cX12_ask 66 = .ok (.istore 4, 2) := by decide +kernel
theorem dX12_ask_68 : decode cX12_ask 68 = .ok (.iload 4, 2) := by decide +kernel
theorem dX12_ask_70 : decode cX12_ask 70 = .ok (.bipush 8, 2) := by decide +kernel
theorem dX12_ask_72 : decode cX12_ask 72 = .ok (.if_icmp .ge 25, 3) := by decide +kernel
theorem dX12_ask_75 : decode cX12_ask 75 = .ok (.aload_n 0, 1) := by decide +kernel
theorem dX12_ask_76 : decode cX12_ask 76 = .ok (.getfield 132, 3) := by decide +kernel
theorem dX12_ask_79 : decode cX12_ask 79 = .ok (.iload 4, 2) := by decide +kernel
theorem dX12_ask_81 : decode cX12_ask 81 = .ok (.dup2, 1) := by decide +kernel
theorem dX12_ask_82 : decode cX12_ask 82 = .ok (.iaload, 1) := by decide +kernel
theorem dX12_ask_83 : decode cX12_ask 83 = .ok (.iload_n 3, 1) := by decide +kernel
theorem dX12_ask_84 : decode cX12_ask 84 = .ok (.iload 4, 2) := by decide +kernel
theorem dX12_ask_86 : decode cX12_ask 86 = .ok (.ishr, 1) := by decide +kernel
theorem dX12_ask_87 : decode cX12_ask 87 = .ok (.iconst 1, 1) := by decide +kernel
theorem dX12_ask_88 : decode cX12_ask 88 = .ok (.iand, 1) := by decide +kernel
theorem dX12_ask_89 : decode cX12_ask 89 = .ok (.iadd, 1) := by decide +kernel
theorem dX12_ask_90 : decode cX12_ask 90 = .ok (.iastore, 1) := by decide +kernel
theorem dX12_ask_91 : decode cX12_ask 91 = .ok (.iinc 4 1, 3) := by decide +kernel
theorem dX12_ask_94 : decode cX12_ask 94 = .ok (.goto (-26), 3) := by decide +kernel
theorem dX12_ask_97 : decode cX12_ask 97 = .ok (.iinc 3 1, 3) := by decide +kernel
theorem dX12_ask_100 : decode cX12_ask 100 = .ok (.goto (-58), 3) := by decide +kernel
theorem dX12_ask_103 : decode cX12_ask 103 = .ok (.iconst (-1), 1) := by decide +kernel
theorem dX12_ask_104 : decode cX12_ask 104 = .ok (.istore_n 3, 1) := by decide +kernel
theorem dX12_ask_105 : decode cX12_ask 105 = .ok (.ldc_w 476, 3) := by decide +kernel
theorem dX12_ask_108 : decode cX12_ask 108 = .ok (.istore 4, 2) := by decide +kernel
theorem dX12_ask_110 : decode cX12_ask 110 = .ok (.iconst 0, 1) := by decide +kernel
theorem dX12_ask_111 : decode cX12_ask 111 = .ok (.istore 5, 2) := by decide +kernel
theorem dX12_ask_113 : decode cX12_ask 113 = .ok (.iload 5, 2) := by decide +kernel
theorem dX12_ask_115 : decode cX12_ask 115 = .ok (.aload_n 0, 1) := by decide +kernel
theorem dX12_ask_116 : decode cX12_ask 116 = .ok (.getfield 13, 3) := by decide +kernel
theorem dX12_ask_119 : decode cX12_ask 119 = .ok (.iconst 0, 1) := by decide +kernel
theorem dX12_ask_120 : decode cX12_ask 120 = .ok (.iaload, 1) := by decide +kernel
theorem dX12_ask_121 : decode cX12_ask 121 = .ok (.if_icmp .ge 83, 3) := by decide +kernel
theorem dX12_ask_204 : decode cX12_ask 204 = .ok (.iload_n 3, 1) := by decide +kernel
theorem dX12_ask_205 : decode cX12_ask 205 = .ok (.iconst (-1), 1) := by decide +kernel
theorem dX12_ask_206 : decode cX12_ask 206 = .ok (.if_icmp .eq 7, 3) := by decide +kernel
theorem dX12_ask_213 : decode cX12_ask 213 = .ok (.iload_n 3, 1) := by decide +kernel
theorem dX12_ask_214 : decode cX12_ask 214 = .ok (.goto 5, 3) := by decide +kernel
theorem dX12_ask_219 : decode cX12_ask 219 = .ok (.ireturn, 1) := by decide +kernel
theorem dX12_ask_15 : decode cX12_ask 15 = .ok (.iconst (-1), 1) := by decide +kernel
theorem dX12_ask_16 : decode cX12_ask 16 = .ok (.ireturn, 1) := by decide +kernel
theorem dX12_chance_0 : decode cX12_chance 0 = .ok (.aload_n 0, 1) := by decide +kernel
theorem dX12_chance_1 : decode cX12_chance 1 = .ok (.iconst 0, 1) := by decide +kernel
theorem dX12_chance_2 : decode cX12_chance 2 = .ok (.putfield 158, 3) := by decide +kernel
theorem dX12_chance_5 : decode cX12_chance 5 = .ok (.iload_n 1, 1) := by decide +kernel
theorem dX12_chance_6 : decode cX12_chance 6 = .ok (.i2l, 1) := by decide +kernel
theorem dX12_chance_7 : decode cX12_chance 7 = .ok (.lconst 0, 1) := by decide +kernel
theorem dX12_chance_8 : decode cX12_chance 8 = .ok (.ldc2_w 212, 3) := by decide +kernel
theorem dX12_chance_11 : decode cX12_chance 11 = .ok (.invokestatic 178, 3) := by decide +kernel
theorem dX12_chance_14 : decode cX12_chance 14 = .ok (.ifCond .ne 7, 3) := by decide +kernel
theorem dX12_chance_21 : decode cX12_chance 21 = .ok (.ldc2_w 518, 3) := by decide +kernel
theorem dX12_chance_24 : decode cX12_chance 24 = .ok (.lstore_n 2, 1) := by decide +kernel
theorem dX12_chance_25 : decode cX12_chance 25 = .ok (.iconst 0, 1) := by decide +kernel
theorem dX12_chance_26 : decode cX12_chance 26 = .ok (.istore 4, 2) := by decide +kernel
theorem dX12_chance_28 : decode cX12_chance 28 = .ok (.iload 4, 2) := by decide +kernel
theorem dX12_chance_30 : decode cX12_chance 30 = .ok (.bipush 7, 2) := by decide +kernel
theorem dX12_chance_32 : decode cX12_chance 32 = .ok (.if_icmp .ge 60, 3) := by decide +kernel
theorem dX12_chance_92 : decode cX12_chance 92 = .ok (.lload_n 2, 1) := by decide +kernel
theorem dX12_chance_93 : decode cX12_chance 93 = .ok (.lreturn, 1) := by decide +kernel
theorem dX12_chance_35 : decode cX12_chance 35 = .ok (.iload_n 1, 1) := by decide +kernel
theorem dX12_chance_36 : decode cX12_chance 36 = .ok (.iload 4, 2) := by decide +kernel
theorem dX12_chance_38 : decode cX12_chance 38 = .ok (.invokestatic 436, 3) := by decide +kernel
theorem dX12_chance_41 : decode cX12_chance 41 = .ok (.ifCond .eq 45, 3) := by decide +kernel
theorem dX12_chance_44 : decode cX12_chance 44 = .ok (.lload_n 2, 1) := by decide +kernel
theorem dX12_chance_45 : decode cX12_chance 45 = .ok (.lstore 5, 2) := by decide +kernel
theorem dX12_chance_47 : decode cX12_chance 47 = .ok (.aload_n 0, 1) := by decide +kernel
theorem dX12_chance_48 : decode cX12_chance 48 = .ok (.iload 4, 2) := by decide +kernel
theorem dX12_chance_50 : decode cX12_chance 50 = .ok (.invokevirtual 392, 3) := by decide +kernel
theorem dX12_chance_53 : decode cX12_chance 53 = .ok (.istore 7, 2) := by decide +kernel
theorem dX12_chance_55 : decode cX12_chance 55 = .ok (.iload 7, 2) := by decide +kernel
theorem dX12_chance_57 : decode cX12_chance 57 = .ok (.ifCond .le 24, 3) := by decide +kernel
theorem dX12_chance_81 : decode cX12_chance 81 = .ok (.lload_n 2, 1) := by decide +kernel
theorem dX12_chance_82 : decode cX12_chance 82 = .ok (.lload 5, 2) := by decide +kernel
theorem dX12_chance_84 : decode cX12_chance 84 = .ok (.lsub, 1) := by decide +kernel
theorem dX12_chance_85 : decode cX12_chance 85 = .ok (.lstore_n 2, 1) := by decide +kernel
theorem dX12_chance_86 : decode cX12_chance 86 = .ok (.iinc 4 1, 3) := by decide +kernel
theorem dX12_chance_89 : decode cX12_chance 89 = .ok (.goto (-61), 3) := by decide +kernel
theorem dX12_chance_17 : decode cX12_chance 17 = .ok (.ldc2_w 266, 3) := by decide +kernel
theorem dX12_chance_20 : decode cX12_chance 20 = .ok (.lreturn, 1) := by decide +kernel
theorem dX12_compare_0 : decode cX12_compare 0 = .ok (.aload_n 0, 1) := by decide +kernel
theorem dX12_compare_1 : decode cX12_compare 1 = .ok (.iconst 0, 1) := by decide +kernel
theorem dX12_compare_2 : decode cX12_compare 2 = .ok (.putfield 158, 3) := by decide +kernel
theorem dX12_compare_5 : decode cX12_compare 5 = .ok (.aload_n 0, 1) := by decide +kernel
theorem dX12_compare_6 : decode cX12_compare 6 = .ok (.iload_n 1, 1) := by decide +kernel
theorem dX12_compare_7 : decode cX12_compare 7 = .ok (.invokevirtual 383, 3) := by decide +kernel
theorem dX12_compare_10 : decode cX12_compare 10 = .ok (.ifCond .eq 15, 3) := by decide +kernel
theorem dX12_compare_13 : decode cX12_compare 13 = .ok (.iload_n 2, 1) := by decide +kernel
theorem dX12_compare_14 : decode cX12_compare 14 = .ok (.i2l, 1) := by decide +kernel
theorem dX12_compare_15 : decode cX12_compare 15 = .ok (.lconst 1, 1) := by decide +kernel
theorem dX12_compare_16 : decode cX12_compare 16 = .ok (.ldc2_w 520, 3) := by decide +kernel
theorem dX12_compare_19 : decode cX12_compare 19 = .ok (.invokestatic 178, 3) := by decide +kernel
theorem dX12_compare_22 : decode cX12_compare 22 = .ok (.ifCond .ne 5, 3) := by decide +kernel
theorem dX12_compare_27 : decode cX12_compare 27 = .ok (.aload_n 0, 1) := by decide +kernel
theorem dX12_compare_28 : decode cX12_compare 28 = .ok (.bipush 16, 2) := by decide +kernel
theorem dX12_compare_30 : decode cX12_compare 30 = .ok (.invokevirtual 167, 3) := by decide +kernel
theorem dX12_compare_33 : decode cX12_compare 33 = .ok (.iconst 0, 1) := by decide +kernel
theorem dX12_compare_34 : decode cX12_compare 34 = .ok (.istore_n 3, 1) := by decide +kernel
theorem dX12_compare_35 : decode cX12_compare 35 = .ok (.iconst 0, 1) := by decide +kernel
theorem dX12_compare_36 : decode cX12_compare 36 = .ok (.istore 4, 2) := by decide +kernel
theorem dX12_compare_38 : decode cX12_compare 38 = .ok (.iload 4, 2) := by decide +kernel
theorem dX12_compare_40 : decode cX12_compare 40 = .ok (.iload_n 2, 1) := by decide +kernel
theorem dX12_compare_41 : decode cX12_compare 41 = .ok (.if_icmp .ge 96, 3) := by decide +kernel
theorem dX12_compare_137 : decode cX12_compare 137 = .ok (.aload_n 0, 1) := by decide +kernel
theorem dX12_compare_138 : decode cX12_compare 138 = .ok (.bipush 16, 2) := by decide +kernel
theorem dX12_compare_140 : decode cX12_compare 140 = .ok (.invokevirtual 175, 3) := by decide +kernel
theorem dX12_compare_143 : decode cX12_compare 143 = .ok (.iload_n 3, 1) := by decide +kernel
theorem dX12_compare_144 : decode cX12_compare 144 = .ok (.ireturn, 1) := by decide +kernel
theorem dX12_compare_44 : decode cX12_compare 44 = .ok (.iconst 0, 1) := by decide +kernel
theorem dX12_compare_45 : decode cX12_compare 45 = .ok (.istore 5, 2) := by decide +kernel
theorem dX12_compare_47 : decode cX12_compare 47 = .ok (.iload 5, 2) := by decide +kernel
theorem dX12_compare_49 : decode cX12_compare 49 = .ok (.aload_n 0, 1) := by decide +kernel
theorem dX12_compare_50 : decode cX12_compare 50 = .ok (.getfield 13, 3) := by decide +kernel
theorem dX12_compare_53 : decode cX12_compare 53 = .ok (.iconst 0, 1) := by decide +kernel
theorem dX12_compare_54 : decode cX12_compare 54 = .ok (.iaload, 1) := by decide +kernel
theorem dX12_compare_55 : decode cX12_compare 55 = .ok (.if_icmp .ge 72, 3) := by decide +kernel
theorem dX12_compare_127 : decode cX12_compare 127 = .ok (.aload_n 0, 1) := by decide +kernel
theorem dX12_compare_128 : decode cX12_compare 128 = .ok (.invokevirtual 464, 3) := by decide +kernel
theorem dX12_compare_131 : decode cX12_compare 131 = .ok (.iinc 4 1, 3) := by decide +kernel
theorem dX12_compare_134 : decode cX12_compare 134 = .ok (.goto (-96), 3) := by decide +kernel
theorem dX12_compare_25 : decode cX12_compare 25 = .ok (.iconst (-1), 1) := by decide +kernel
theorem dX12_compare_26 : decode cX12_compare 26 = .ok (.ireturn, 1) := by decide +kernel
theorem dX12_days_0 : decode cX12_days 0 = .ok (.aload_n 0, 1) := by decide +kernel
theorem dX12_days_1 : decode cX12_days 1 = .ok (.iconst 0, 1) := by decide +kernel
theorem dX12_days_2 : decode cX12_days 2 = .ok (.putfield 158, 3) := by decide +kernel
theorem dX12_days_5 : decode cX12_days 5 = .ok (.iload_n 1, 1) := by decide +kernel
theorem dX12_days_6 : decode cX12_days 6 = .ok (.i2l, 1) := by decide +kernel
theorem dX12_days_7 : decode cX12_days 7 = .ok (.lconst 0, 1) := by decide +kernel
theorem dX12_days_8 : decode cX12_days 8 = .ok (.ldc2_w 268, 3) := by decide +kernel
theorem dX12_days_11 : decode cX12_days 11 = .ok (.invokestatic 178, 3) := by decide +kernel
theorem dX12_days_14 : decode cX12_days 14 = .ok (.ifCond .eq 15, 3) := by decide +kernel
theorem dX12_days_17 : decode cX12_days 17 = .ok (.iload_n 2, 1) := by decide +kernel
theorem dX12_days_18 : decode cX12_days 18 = .ok (.i2l, 1) := by decide +kernel
theorem dX12_days_19 : decode cX12_days 19 = .ok (.lconst 1, 1) := by decide +kernel
theorem dX12_days_20 : decode cX12_days 20 = .ok (.ldc2_w 562, 3) := by decide +kernel
theorem dX12_days_23 : decode cX12_days 23 = .ok (.invokestatic 178, 3) := by decide +kernel
theorem dX12_days_26 : decode cX12_days 26 = .ok (.ifCond .ne 9, 3) := by decide +kernel
theorem dX12_days_35 : decode cX12_days 35 = .ok (.aload_n 0, 1) := by decide +kernel
theorem dX12_days_36 : decode cX12_days 36 = .ok (.bipush 16, 2) := by decide +kernel
theorem dX12_days_38 : decode cX12_days 38 = .ok (.invokevirtual 167, 3) := by decide +kernel
theorem dX12_days_41 : decode cX12_days 41 = .ok (.aload_n 0, 1) := by decide +kernel
theorem dX12_days_42 : decode cX12_days 42 = .ok (.iload_n 1, 1) := by decide +kernel
theorem dX12_days_43 : decode cX12_days 43 = .ok (.i2l, 1) := by decide +kernel
theorem dX12_days_44 : decode cX12_days 44 = .ok (.putfield 553, 3) := by decide +kernel
theorem dX12_days_47 : decode cX12_days 47 = .ok (.aload_n 0, 1) := by decide +kernel
theorem dX12_days_48 : decode cX12_days 48 = .ok (.getfield 13, 3) := by decide +kernel
theorem dX12_days_51 : decode cX12_days 51 = .ok (.bipush 10, 2) := by decide +kernel
theorem dX12_days_53 : decode cX12_days 53 = .ok (.iaload, 1) := by decide +kernel
theorem dX12_days_54 : decode cX12_days 54 = .ok (.istore_n 3, 1) := by decide +kernel
theorem dX12_days_55 : decode cX12_days 55 = .ok (.iconst 0, 1) := by decide +kernel
theorem dX12_days_56 : decode cX12_days 56 = .ok (.istore 4, 2) := by decide +kernel
theorem dX12_days_58 : decode cX12_days 58 = .ok (.iconst 0, 1) := by decide +kernel
theorem dX12_days_59 : decode cX12_days 59 = .ok (.istore 5, 2) := by decide +kernel
theorem dX12_days_61 : decode cX12_days 61 = .ok (.iload 5, 2) := by decide +kernel
theorem dX12_days_63 : decode cX12_days 63 = .ok (.iload_n 2, 1) := by decide +kernel
theorem dX12_days_64 : decode cX12_days 64 = .ok (.if_icmp .ge 69, 3) := by decide +kernel
theorem dX12_days_133 : decode cX12_days 133 = .ok (.aload_n 0, 1) := by decide +kernel
theorem dX12_days_134 : decode cX12_days 134 = .ok (.aload_n 0, 1) := by decide +kernel
theorem dX12_days_135 : decode cX12_days 135 = .ok (.getfield 13, 3) := by decide +kernel
theorem dX12_days_138 : decode cX12_days 138 = .ok (.iconst 0, 1) := by decide +kernel
theorem dX12_days_139 : decode cX12_days 139 = .ok (.iaload, 1) := by decide +kernel
theorem dX12_days_140 : decode cX12_days 140 = .ok (.putfield 155, 3) := by decide +kernel
theorem dX12_days_143 : decode cX12_days 143 = .ok (.iconst 0, 1) := by decide +kernel
theorem dX12_days_144 : decode cX12_days 144 = .ok (.istore 5, 2) := by decide +kernel
theorem dX12_days_146 : decode cX12_days 146 = .ok (.iload 5, 2) := by decide +kernel
theorem dX12_days_148 : decode cX12_days 148 = .ok (.aload_n 0, 1) := by decide +kernel
theorem dX12_days_149 : decode cX12_days 149 = .ok (.getfield 155, 3) := by decide +kernel
theorem dX12_days_152 : decode cX12_days 152 = .ok (.if_icmp .ge 49, 3) := by decide +kernel
theorem dX12_days_201 : decode cX12_days 201 = .ok (.aload_n 0, 1) := by decide +kernel
theorem dX12_days_202 : decode cX12_days 202 = .ok (.aload_n 0, 1) := by decide +kernel
theorem dX12_days_203 : decode cX12_days 203 = .ok (.getfield 13, 3) := by decide +kernel
theorem dX12_days_206 : decode cX12_days 206 = .ok (.bipush 10, 2) := by decide +kernel
theorem dX12_days_208 : decode cX12_days 208 = .ok (.iaload, 1) := by decide +kernel
theorem dX12_days_209 : decode cX12_days 209 = .ok (.iload_n 3, 1) := by decide +kernel
theorem dX12_days_210 : decode cX12_days 210 = .ok (.isub, 1) := by decide +kernel
theorem dX12_days_211 : decode cX12_days 211 = .ok (.putfield 567, 3) := by decide +kernel
theorem dX12_days_214 : decode cX12_days 214 = .ok (.aload_n 0, 1) := by decide +kernel
theorem dX12_days_215 : decode cX12_days 215 = .ok (.bipush 16, 2) := by decide +kernel
theorem dX12_days_217 : decode cX12_days 217 = .ok (.invokevirtual 175, 3) := by decide +kernel
theorem dX12_days_220 : decode cX12_days 220 = .ok (.aload_n 0, 1) := by decide +kernel
theorem dX12_days_221 : decode cX12_days 221 = .ok (.iload 4, 2) := by decide +kernel
theorem dX12_days_223 : decode cX12_days 223 = .ok (.invokevirtual 171, 3) := by decide +kernel
theorem dX12_days_226 : decode cX12_days 226 = .ok (.ireturn, 1) := by decide +kernel
theorem dX12_days_67 : decode cX12_days 67 = .ok (.aload_n 0, 1) := by decide +kernel
theorem dX12_days_68 : decode cX12_days 68 = .ok (.invokevirtual 467, 3) := by decide +kernel
theorem dX12_days_71 : decode cX12_days 71 = .ok (.ifCond .eq 62, 3) := by decide +kernel
theorem dX12_days_74 : decode cX12_days 74 = .ok (.aload_n 0, 1) := by decide +kernel
theorem dX12_days_75 : decode cX12_days 75 = .ok (.getfield 13, 3) := by decide +kernel
theorem dX12_days_78 : decode cX12_days 78 = .ok (.iconst 0, 1) := by decide +kernel
theorem dX12_days_79 : decode cX12_days 79 = .ok (.iaload, 1) := by decide +kernel
theorem dX12_days_80 : decode cX12_days 80 = .ok (.ifCond .le 30, 3) := by decide +kernel
theorem dX12_days_110 : decode cX12_days 110 = .ok (.iload 4, 2) := by decide +kernel
theorem dX12_days_112 : decode cX12_days 112 = .ok (.aload_n 0, 1) := by decide +kernel
theorem dX12_days_113 : decode cX12_days 113 = .ok (.invokevirtual 470, 3) := by decide +kernel
theorem dX12_days_116 : decode cX12_days 116 = .ok (.ifCond .eq 7, 3) := by decide +kernel
theorem dX12_days_119 : decode cX12_days 119 = .ok (.iconst 1, 1) := by decide +kernel
theorem dX12_days_120 : decode cX12_days 120 = .ok (.goto 4, 3) := by decide +kernel
theorem dX12_days_124 : decode cX12_days 124 = .ok (.iadd, 1) := by decide +kernel
theorem dX12_days_125 : decode cX12_days 125 = .ok (.istore 4, 2) := by decide +kernel
theorem dX12_days_127 : decode cX12_days 127 = .ok (.iinc 5 1, 3) := by decide +kernel
theorem dX12_days_130 : decode cX12_days 130 = .ok (.goto (-69), 3) := by decide +kernel
theorem dX12_days_29 : decode cX12_days 29 = .ok (.aload_n 0, 1) := by decide +kernel
theorem dX12_days_30 : decode cX12_days 30 = .ok (.iconst (-1), 1) := by decide +kernel
theorem dX12_days_31 : decode cX12_days 31 = .ok (.invokevirtual 171, 3) := by decide +kernel
theorem dX12_days_34 : decode cX12_days 34 = .ok (.ireturn, 1) := by decide +kernel
theorem dX12_image_0 : decode cX12_image 0 = .ok (.aload_n 0, 1) := by decide +kernel
theorem dX12_image_1 : decode cX12_image 1 = .ok (.iconst 0, 1) := by decide +kernel
theorem dX12_image_2 : decode cX12_image 2 = .ok (.putfield 158, 3) := by decide +kernel
theorem dX12_image_5 : decode cX12_image 5 = .ok (.iload_n 1, 1) := by decide +kernel
theorem dX12_image_6 : decode cX12_image 6 = .ok (.i2l, 1) := by decide +kernel
theorem dX12_image_7 : decode cX12_image 7 = .ok (.lconst 0, 1) := by decide +kernel
theorem dX12_image_8 : decode cX12_image 8 = .ok (.lconst 1, 1) := by decide +kernel
theorem dX12_image_9 : decode cX12_image 9 = .ok (.invokestatic 178, 3) := by decide +kernel
theorem dX12_image_12 : decode cX12_image 12 = .ok (.ifCond .ne 9, 3) := by decide +kernel
theorem dX12_image_21 : decode cX12_image 21 = .ok (.iconst 0, 1) := by decide +kernel
theorem dX12_image_22 : decode cX12_image 22 = .ok (.istore_n 2, 1) := by decide +kernel
theorem dX12_image_23 : decode cX12_image 23 = .ok (.iload_n 2, 1) := by decide +kernel
theorem dX12_image_24 : decode cX12_image 24 = .ok (.sipush 5500, 3) := by decide +kernel
theorem dX12_image_27 : decode cX12_image 27 = .ok (.if_icmp .ge 27, 3) := by decide +kernel
theorem dX12_image_54 : decode cX12_image 54 = .ok (.aload_n 0, 1) := by decide +kernel
theorem dX12_image_55 : decode cX12_image 55 = .ok (.getfield 19, 3) := by decide +kernel
theorem dX12_image_58 : decode cX12_image 58 = .ok (.iload_n 1, 1) := by decide +kernel
theorem dX12_image_59 : decode cX12_image 59 = .ok (.iconst 1, 1) := by decide +kernel
theorem dX12_image_60 : decode cX12_image 60 = .ok (.bastore, 1) := by decide +kernel
theorem dX12_image_61 : decode cX12_image 61 = .ok (.aload_n 0, 1) := by decide +kernel
theorem dX12_image_62 : decode cX12_image 62 = .ok (.iconst 0, 1) := by decide +kernel
theorem dX12_image_63 : decode cX12_image 63 = .ok (.invokevirtual 171, 3) := by decide +kernel
theorem dX12_image_66 : decode cX12_image 66 = .ok (.ireturn, 1) := by decide +kernel
theorem dX12_image_30 : decode cX12_image 30 = .ok (.aload_n 0, 1) := by decide +kernel
theorem dX12_image_31 : decode cX12_image 31 = .ok (.getfield 16, 3) := by decide +kernel
theorem dX12_image_34 : decode cX12_image 34 = .ok (.sipush 5500, 3) := by decide +kernel
theorem dX12_image_37 : decode cX12_image 37 = .ok (.iload_n 1, 1) := by decide +kernel
theorem dX12_image_38 : decode cX12_image 38 = .ok (.imul, 1) := by decide +kernel
theorem dX12_image_39 : decode cX12_image 39 = .ok (.iload_n 2, 1) := by decide +kernel
theorem dX12_image_40 : decode cX12_image 40 = .ok (.iadd, 1) := by decide +kernel
theorem dX12_image_41 : decode cX12_image 41 = .ok (.aload_n 0, 1) := by decide +kernel
theorem dX12_image_42 : decode cX12_image 42 = .ok (.getfield 13, 3) := by decide +kernel
theorem dX12_image_45 : decode cX12_image 45 = .ok (.iload_n 2, 1) := by decide +kernel
theorem dX12_image_46 : decode cX12_image 46 = .ok (.iaload, 1) := by decide +kernel
theorem dX12_image_47 : decode cX12_image 47 = .ok (.iastore, 1) := by decide +kernel
theorem dX12_image_48 : decode cX12_image 48 = .ok (.iinc 2 1, 3) := by decide +kernel
theorem dX12_image_51 : decode cX12_image 51 = .ok (.goto (-28), 3) := by decide +kernel
theorem dX12_image_15 : decode cX12_image 15 = .ok (.aload_n 0, 1) := by decide +kernel
theorem dX12_image_16 : decode cX12_image 16 = .ok (.iconst (-1), 1) := by decide +kernel
theorem dX12_image_17 : decode cX12_image 17 = .ok (.invokevirtual 171, 3) := by decide +kernel
theorem dX12_image_20 : decode cX12_image 20 = .ok (.ireturn, 1) := by decide +kernel
theorem dX12_remember_0 : decode cX12_remember 0 = .ok (.aload_n 0, 1) := by decide +kernel
theorem dX12_remember_1 : decode cX12_remember 1 = .ok (.getfield 164, 3) := by decide +kernel
theorem dX12_remember_4 : decode cX12_remember 4 = .ok (.bipush 16, 2) := by decide +kernel
theorem dX12_remember_6 : decode cX12_remember 6 = .ok (.if_icmp .ne 71, 3) := by decide +kernel
theorem dX12_remember_77 : decode cX12_remember 77 = .ok (.aload_n 0, 1) := by decide +kernel
theorem dX12_remember_78 : decode cX12_remember 78 = .ok (.aload_n 0, 1) := by decide +kernel
theorem dX12_remember_79 : decode cX12_remember 79 = .ok (.getfield 164, 3) := by decide +kernel
theorem dX12_remember_82 : decode cX12_remember 82 = .ok (.invokevirtual 167, 3) := by decide +kernel
theorem dX12_remember_85 : decode cX12_remember 85 = .ok (.aload_n 0, 1) := by decide +kernel
theorem dX12_remember_86 : decode cX12_remember 86 = .ok (.getfield 26, 3) := by decide +kernel
theorem dX12_remember_89 : decode cX12_remember 89 = .ok (.aload_n 0, 1) := by decide +kernel
theorem dX12_remember_90 : decode cX12_remember 90 = .ok (.getfield 164, 3) := by decide +kernel
theorem dX12_remember_93 : decode cX12_remember 93 = .ok (.iload_n 1, 1) := by decide +kernel
theorem dX12_remember_94 : decode cX12_remember 94 = .ok (.iastore, 1) := by decide +kernel
theorem dX12_remember_95 : decode cX12_remember 95 = .ok (.aload_n 0, 1) := by decide +kernel
theorem dX12_remember_96 : decode cX12_remember 96 = .ok (.dup, 1) := by decide +kernel
theorem dX12_remember_97 : decode cX12_remember 97 = .ok (.getfield 164, 3) := by decide +kernel
theorem dX12_remember_100 : decode cX12_remember 100 = .ok (.iconst 1, 1) := by decide +kernel
theorem dX12_remember_101 : decode cX12_remember 101 = .ok (.iadd, 1) := by decide +kernel
theorem dX12_remember_102 : decode cX12_remember 102 = .ok (.putfield 164, 3) := by decide +kernel
theorem dX12_remember_105 : decode cX12_remember 105 = .ok (.return_, 1) := by decide +kernel
theorem dX12_passNow_0 : decode cX12_passNow 0 = .ok (.aload_n 0, 1) := by decide +kernel
theorem dX12_passNow_1 : decode cX12_passNow 1 = .ok (.invokevirtual 467, 3) := by decide +kernel
theorem dX12_passNow_4 : decode cX12_passNow 4 = .ok (.ifCond .ne 6, 3) := by decide +kernel
theorem dX12_passNow_10 : decode cX12_passNow 10 = .ok (.aload_n 0, 1) := by decide +kernel
theorem dX12_passNow_11 : decode cX12_passNow 11 = .ok (.iconst 3, 1) := by decide +kernel
theorem dX12_passNow_12 : decode cX12_passNow 12 = .ok (.invokevirtual 448, 3) := by decide +kernel
theorem dX12_passNow_15 : decode cX12_passNow 15 = .ok (.aload_n 0, 1) := by decide +kernel
theorem dX12_passNow_16 : decode cX12_passNow 16 = .ok (.invokevirtual 470, 3) := by decide +kernel
theorem dX12_passNow_19 : decode cX12_passNow 19 = .ok (.ifCond .eq 7, 3) := by decide +kernel
theorem dX12_passNow_22 : decode cX12_passNow 22 = .ok (.iconst 1, 1) := by decide +kernel
theorem dX12_passNow_23 : decode cX12_passNow 23 = .ok (.goto 4, 3) := by decide +kernel
theorem dX12_passNow_27 : decode cX12_passNow 27 = .ok (.ireturn, 1) := by decide +kernel
theorem dX12_pass_0 : decode cX12_pass 0 = .ok (.aload_n 0, 1) := by decide +kernel
theorem dX12_pass_1 : decode cX12_pass 1 = .ok (.iconst 0, 1) := by decide +kernel
theorem dX12_pass_2 : decode cX12_pass 2 = .ok (.putfield 158, 3) := by decide +kernel
theorem dX12_pass_5 : decode cX12_pass 5 = .ok (.aload_n 0, 1) := by decide +kernel
theorem dX12_pass_6 : decode cX12_pass 6 = .ok (.aload_n 0, 1) := by decide +kernel
theorem dX12_pass_7 : decode cX12_pass 7 = .ok (.invokevirtual 473, 3) := by decide +kernel
theorem dX12_pass_10 : decode cX12_pass 10 = .ok (.invokevirtual 171, 3) := by decide +kernel
theorem dX12_pass_13 : decode cX12_pass 13 = .ok (.ireturn, 1) := by decide +kernel
theorem dX12_next_0 : decode cX12_next 0 = .ok (.aload_n 0, 1) := by decide +kernel
theorem dX12_next_1 : decode cX12_next 1 = .ok (.aload_n 0, 1) := by decide +kernel
theorem dX12_next_2 : decode cX12_next 2 = .ok (.getfield 236, 3) := by decide +kernel
theorem dX12_next_5 : decode cX12_next 5 = .ok (.putfield 246, 3) := by decide +kernel
theorem dX12_next_8 : decode cX12_next 8 = .ok (.aload_n 0, 1) := by decide +kernel
theorem dX12_next_9 : decode cX12_next 9 = .ok (.getfield 246, 3) := by decide +kernel
theorem dX12_next_12 : decode cX12_next 12 = .ok (.aload_n 0, 1) := by decide +kernel
theorem dX12_next_13 : decode cX12_next 13 = .ok (.getfield 227, 3) := by decide +kernel
theorem dX12_next_16 : decode cX12_next 16 = .ok (.if_icmp .ge 30, 3) := by decide +kernel
theorem dX12_next_46 : decode cX12_next 46 = .ok (.aload_n 0, 1) := by decide +kernel
theorem dX12_next_47 : decode cX12_next 47 = .ok (.aload_n 0, 1) := by decide +kernel
theorem dX12_next_48 : decode cX12_next 48 = .ok (.getfield 246, 3) := by decide +kernel
theorem dX12_next_51 : decode cX12_next 51 = .ok (.putfield 236, 3) := by decide +kernel
theorem dX12_next_54 : decode cX12_next 54 = .ok (.aload_n 0, 1) := by decide +kernel
theorem dX12_next_55 : decode cX12_next 55 = .ok (.lconst 0, 1) := by decide +kernel
theorem dX12_next_56 : decode cX12_next 56 = .ok (.putfield 249, 3) := by decide +kernel
theorem dX12_next_59 : decode cX12_next 59 = .ok (.aload_n 0, 1) := by decide +kernel
theorem dX12_next_60 : decode cX12_next 60 = .ok (.aload_n 0, 1) := by decide +kernel
theorem dX12_next_61 : decode cX12_next 61 = .ok (.getfield 246, 3) := by decide +kernel
theorem dX12_next_64 : decode cX12_next 64 = .ok (.aload_n 0, 1) := by decide +kernel
theorem dX12_next_65 : decode cX12_next 65 = .ok (.getfield 227, 3) := by decide +kernel
theorem dX12_next_68 : decode cX12_next 68 = .ok (.if_icmp .ne 7, 3) := by decide +kernel
theorem dX12_next_71 : decode cX12_next 71 = .ok (.iconst 0, 1) := by decide +kernel
theorem dX12_next_72 : decode cX12_next 72 = .ok (.goto 42, 3) := by decide +kernel
theorem dX12_next_114 : decode cX12_next 114 = .ok (.putfield 259, 3) := by decide +kernel
theorem dX12_next_117 : decode cX12_next 117 = .ok (.aload_n 0, 1) := by decide +kernel
theorem dX12_next_118 : decode cX12_next 118 = .ok (.getfield 259, 3) := by decide +kernel
theorem dX12_next_121 : decode cX12_next 121 = .ok (.iconst 3, 1) := by decide +kernel
theorem dX12_next_122 : decode cX12_next 122 = .ok (.if_icmp .ne 27, 3) := by decide +kernel
theorem dX12_next_149 : decode cX12_next 149 = .ok (.aload_n 0, 1) := by decide +kernel
theorem dX12_next_150 : decode cX12_next 150 = .ok (.getfield 259, 3) := by decide +kernel
theorem dX12_next_153 : decode cX12_next 153 = .ok (.iconst 1, 1) := by decide +kernel
theorem dX12_next_154 : decode cX12_next 154 = .ok (.if_icmp .ne 89, 3) := by decide +kernel
theorem dX12_next_243 : decode cX12_next 243 = .ok (.aload_n 0, 1) := by decide +kernel
theorem dX12_next_244 : decode cX12_next 244 = .ok (.getfield 259, 3) := by decide +kernel
theorem dX12_next_247 : decode cX12_next 247 = .ok (.iconst 2, 1) := by decide +kernel
theorem dX12_next_248 : decode cX12_next 248 = .ok (.if_icmp .ne 87, 3) := by decide +kernel
theorem dX12_next_335 : decode cX12_next 335 = .ok (.return_, 1) := by decide +kernel
theorem dX12_begin_0 : decode cX12_begin 0 = .ok (.aload_n 0, 1) := by decide +kernel
theorem dX12_begin_1 : decode cX12_begin 1 = .ok (.iconst 0, 1) := by decide +kernel
theorem dX12_begin_2 : decode cX12_begin 2 = .ok (.putfield 236, 3) := by decide +kernel
theorem dX12_begin_5 : decode cX12_begin 5 = .ok (.aload_n 0, 1) := by decide +kernel
theorem dX12_begin_6 : decode cX12_begin 6 = .ok (.iconst 0, 1) := by decide +kernel
theorem dX12_begin_7 : decode cX12_begin 7 = .ok (.putfield 239, 3) := by decide +kernel
theorem dX12_begin_10 : decode cX12_begin 10 = .ok (.aload_n 0, 1) := by decide +kernel
theorem dX12_begin_11 : decode cX12_begin 11 = .ok (.iconst (-1), 1) := by decide +kernel
theorem dX12_begin_12 : decode cX12_begin 12 = .ok (.putfield 38, 3) := by decide +kernel
theorem dX12_begin_15 : decode cX12_begin 15 = .ok (.aload_n 0, 1) := by decide +kernel
theorem dX12_begin_16 : decode cX12_begin 16 = .ok (.invokevirtual 243, 3) := by decide +kernel
theorem dX12_begin_19 : decode cX12_begin 19 = .ok (.return_, 1) := by decide +kernel
set_option maxRecDepth 20000 in
theorem ggX12_tune_X12_in : GoodIn wsX12_tune wsX12_in := goodIn_r _ [9] (by decide +kernel) (by decide +kernel)
set_option maxRecDepth 20000 in
theorem gX12_tune_X12_in : GoodIn wsX12_tune (va_wsS RX12 178 yX12_in wsX12_in) := goodIn_app (goodIn_of _ (by decide +kernel)) ggX12_tune_X12_in
set_option maxRecDepth 20000 in
theorem ggX12_tune_X12_layTunes : GoodIn wsX12_tune wsX12_layTunes := goodIn_r _ [17, 3, 5, 4, 18, 19, 20, 21, 8, 22, 23, 24, 25, 26, 27, 28, 29, 30, 31, 32, 33, 34, 35, 36, 37, 38, 39, 40, 41, 42, 43, 44, 45, 46, 47, 48, 49, 50, 51, 52, 53, 54, 55, 56, 57, 58, 59, 60, 61, 62, 63, 64, 65, 66, 67, 68, 69, 70, 71, 72, 73, 74, 75, 76, 77, 78, 79, 80, 81, 82, 83, 84, 85, 86, 87, 88, 89, 90, 91, 92, 93, 94] (by decide +kernel) (by decide +kernel)
set_option maxRecDepth 20000 in
theorem gX12_tune_X12_layTunes : GoodIn wsX12_tune (wsV RX12 512 RX12 yX12_layTunes wsX12_layTunes) := goodIn_app (goodIn_of _ (by decide +kernel)) ggX12_tune_X12_layTunes
set_option maxRecDepth 20000 in
theorem ggX12_tune_X12_isHouse : GoodIn wsX12_tune wsX12_isHouse := goodIn_r _ [13, 3, 6, 7, 8, 9, 35, 36, 37, 38, 39, 40, 41, 42, 43, 44, 45, 46, 47, 48, 49, 50, 51, 52, 53, 54, 55, 56, 57, 58, 59, 60, 61, 62, 63, 64, 65, 66, 67, 68, 69, 70, 71, 72, 73, 74, 75, 76, 77, 78, 79, 80, 81, 82, 83, 84, 85, 86, 87, 88, 89, 90, 91, 92, 93, 94] (by decide +kernel) (by decide +kernel)
set_option maxRecDepth 20000 in
theorem gX12_tune_X12_isHouse : GoodIn wsX12_tune (wsV RX12 197 RX12 yX12_isHouse wsX12_isHouse) := goodIn_app (goodIn_of _ (by decide +kernel)) ggX12_tune_X12_isHouse
set_option maxRecDepth 20000 in
theorem ggX12_hill_X12_isAsHeard : GoodIn wsX12_hill wsX12_isAsHeard := goodIn_r _ [7, 2, 8, 9, 6, 10, 11, 12, 13, 14, 15, 16, 17, 18, 19, 20, 21, 22, 23, 24, 25, 26, 27, 28, 29, 30, 31, 32, 33, 34, 35, 36, 37, 38, 39, 40, 41, 42, 43, 44, 45, 46, 47, 48, 49, 50, 51, 52, 53, 54, 55, 56, 57, 58, 59, 60, 61, 62, 63, 64, 65, 66, 67, 68, 69, 70] (by decide +kernel) (by decide +kernel)
set_option maxRecDepth 20000 in
theorem gX12_hill_X12_isAsHeard : GoodIn wsX12_hill (wsV RX12 515 RX12 yX12_isAsHeard wsX12_isAsHeard) := goodIn_app (goodIn_of _ (by decide +kernel)) ggX12_hill_X12_isAsHeard
set_option maxRecDepth 20000 in
theorem ggX12_ask_X12_in : GoodIn wsX12_ask wsX12_in := goodIn_r _ [8] (by decide +kernel) (by decide +kernel)
set_option maxRecDepth 20000 in
theorem gX12_ask_X12_in : GoodIn wsX12_ask (va_wsS RX12 178 yX12_in wsX12_in) := goodIn_app (goodIn_of _ (by decide +kernel)) ggX12_ask_X12_in
set_option maxRecDepth 20000 in
theorem ggX12_ask_X12_isAsHeard : GoodIn wsX12_ask wsX12_isAsHeard := goodIn_r _ [12, 3, 13, 14, 7, 15, 16, 17, 18, 19, 20, 21, 22, 23, 24, 25, 26, 27, 28, 29, 30, 31, 32, 33, 34, 35, 36, 37, 38, 39, 40, 41, 42, 43, 44, 45, 46, 47, 48, 49, 50, 51, 52, 53, 54, 55, 56, 57, 58, 59, 60, 61, 62, 63, 64, 65, 66, 67, 68, 69, 70, 71, 72, 73, 74, 75] (by decide +kernel) (by decide +kernel)
set_option maxRecDepth 20000 in
theorem gX12_ask_X12_isAsHeard : GoodIn wsX12_ask (wsV RX12 515 RX12 yX12_isAsHeard wsX12_isAsHeard) := goodIn_app (goodIn_of _ (by decide +kernel)) ggX12_ask_X12_isAsHeard
set_option maxRecDepth 20000 in
theorem ggX12_chance_X12_in : GoodIn wsX12_chance wsX12_in := goodIn_r _ [9] (by decide +kernel) (by decide +kernel)
set_option maxRecDepth 20000 in
theorem gX12_chance_X12_in : GoodIn wsX12_chance (va_wsS RX12 178 yX12_in wsX12_in) := goodIn_app (goodIn_of _ (by decide +kernel)) ggX12_chance_X12_in
set_option maxRecDepth 20000 in
theorem ggX12_chance_X12_is : GoodIn wsX12_chance wsX12_is := goodIn_r _ [12] (by decide +kernel) (by decide +kernel)
set_option maxRecDepth 20000 in
theorem gX12_chance_X12_is : GoodIn wsX12_chance (va_wsS RX12 436 yX12_is wsX12_is) := goodIn_app (goodIn_of _ (by decide +kernel)) ggX12_chance_X12_is
set_option maxRecDepth 20000 in
theorem ggX12_chance_X12_soundWith : GoodIn wsX12_chance wsX12_soundWith := goodIn_r _ [16, 17, 18, 19, 20, 8, 21, 22, 23, 24, 25, 6, 7, 9, 26, 27, 28, 29, 30, 31, 32, 33, 34, 35, 36, 37, 38, 39, 40, 41, 42, 43, 44, 45, 46, 47, 48, 49, 50, 51, 52, 53, 54, 55, 56, 57, 58, 59, 60, 61, 62, 63, 64, 65, 66, 67, 68, 69, 70, 71, 72, 73, 74, 75, 76, 77, 78, 79, 80, 81, 82, 83, 84, 85] (by decide +kernel) (by decide +kernel)
set_option maxRecDepth 20000 in
theorem gX12_chance_X12_soundWith : GoodIn wsX12_chance (wsV RX12 392 RX12 yX12_soundWith wsX12_soundWith) := goodIn_app (goodIn_of _ (by decide +kernel)) ggX12_chance_X12_soundWith
set_option maxRecDepth 20000 in
theorem ggX12_compare_X12_isLaw : GoodIn wsX12_compare wsX12_isLaw := goodIn_r _ [8, 3, 9, 10, 7, 11, 86, 87, 88, 89, 90, 91, 92, 93, 94, 95, 96, 97, 98, 99, 100, 101, 102, 103, 104, 105, 106, 107, 108, 109, 110, 111, 112, 113, 114, 115, 116, 117, 118, 119, 120, 121, 122, 123, 124, 125, 126, 127, 128, 129, 130, 131, 132, 133, 134, 135, 136, 137, 138, 139, 140, 141, 142, 143, 144, 145] (by decide +kernel) (by decide +kernel)
set_option maxRecDepth 20000 in
theorem gX12_compare_X12_isLaw : GoodIn wsX12_compare (wsV RX12 383 RX12 yX12_isLaw wsX12_isLaw) := goodIn_app (goodIn_of _ (by decide +kernel)) ggX12_compare_X12_isLaw
set_option maxRecDepth 20000 in
theorem ggX12_compare_X12_in : GoodIn wsX12_compare wsX12_in := goodIn_r _ [11] (by decide +kernel) (by decide +kernel)
set_option maxRecDepth 20000 in
theorem gX12_compare_X12_in : GoodIn wsX12_compare (va_wsS RX12 178 yX12_in wsX12_in) := goodIn_app (goodIn_of _ (by decide +kernel)) ggX12_compare_X12_in
set_option maxRecDepth 20000 in
theorem ggX12_compare_X12_keepAll : GoodIn wsX12_compare wsX12_keepAll := goodIn_r _ [15, 16, 3, 86, 87, 88, 89, 90, 91, 92, 93, 94, 95, 96, 97, 98, 99, 100, 101, 102, 103, 104, 105, 106, 107, 108, 109, 110, 111, 112, 113, 114, 115, 116, 117, 118, 119, 120, 121, 122, 123, 124, 125, 126, 127, 128, 129, 130, 131, 132, 133, 134, 135, 136, 137, 138, 139, 140, 141, 142, 143, 144, 145] (by decide +kernel) (by decide +kernel)
set_option maxRecDepth 20000 in
theorem gX12_compare_X12_keepAll : GoodIn wsX12_compare (wsV RX12 167 RX12 yX12_keepAll wsX12_keepAll) := goodIn_app (goodIn_of _ (by decide +kernel)) ggX12_compare_X12_keepAll
set_option maxRecDepth 20000 in
theorem ggX12_compare_X12_putBack : GoodIn wsX12_compare wsX12_putBack := goodIn_r _ [85, 3, 16, 86, 87, 88, 89, 90, 91, 92, 93, 94, 95, 96, 97, 98, 99, 100, 101, 102, 103, 104, 105, 106, 107, 108, 109, 110, 111, 112, 113, 114, 115, 116, 117, 118, 119, 120, 121, 122, 123, 124, 125, 126, 127, 128, 129, 130, 131, 132, 133, 134, 135, 136, 137, 138, 139, 140, 141, 142, 143, 144, 145] (by decide +kernel) (by decide +kernel)
set_option maxRecDepth 20000 in
theorem gX12_compare_X12_putBack : GoodIn wsX12_compare (wsV RX12 175 RX12 yX12_putBack wsX12_putBack) := goodIn_app (goodIn_of _ (by decide +kernel)) ggX12_compare_X12_putBack
set_option maxRecDepth 20000 in
theorem ggX12_compare_X12_goOn : GoodIn wsX12_compare wsX12_goOn := goodIn_r _ [81, 3, 17, 18, 19, 7, 20, 86, 87, 88, 89, 90, 91, 92, 93, 94, 95, 96, 97, 98, 99, 100, 101, 102, 103, 104, 105, 106, 107, 108, 109, 110, 111, 112, 113, 114, 115, 116, 117, 118, 119, 120, 121, 122, 123, 124, 125, 126, 127, 128, 129, 130, 131, 132, 133, 134, 135, 136, 137, 138, 139, 140, 141, 142, 143, 144, 145] (by decide +kernel) (by decide +kernel)
set_option maxRecDepth 20000 in
theorem gX12_compare_X12_goOn : GoodIn wsX12_compare (wsV RX12 464 RX12 yX12_goOn wsX12_goOn) := goodIn_app (goodIn_of _ (by decide +kernel)) ggX12_compare_X12_goOn
set_option maxRecDepth 20000 in
theorem ggX12_days_X12_in : GoodIn wsX12_days wsX12_in := goodIn_r _ [12] (by decide +kernel) (by decide +kernel)
set_option maxRecDepth 20000 in
theorem gX12_days_X12_in : GoodIn wsX12_days (va_wsS RX12 178 yX12_in wsX12_in) := goodIn_app (goodIn_of _ (by decide +kernel)) ggX12_days_X12_in
set_option maxRecDepth 20000 in
theorem ggX12_days_X12_keepAll : GoodIn wsX12_days wsX12_keepAll := goodIn_r _ [22, 23, 5, 137, 138, 139, 140, 141, 142, 143, 144, 145, 146, 147, 148, 149, 150, 151, 152, 153, 154, 155, 156, 157, 158, 159, 160, 161, 162, 163, 164, 165, 166, 167, 168, 169, 170, 171, 172, 173, 174, 175, 176, 177, 178, 179, 180, 181, 182, 183, 184, 185, 186, 187, 188, 189, 190, 191, 192, 193, 194, 195, 196] (by decide +kernel) (by decide +kernel)
set_option maxRecDepth 20000 in
theorem gX12_days_X12_keepAll : GoodIn wsX12_days (wsV RX12 167 RX12 yX12_keepAll wsX12_keepAll) := goodIn_app (goodIn_of _ (by decide +kernel)) ggX12_days_X12_keepAll
set_option maxRecDepth 20000 in
theorem ggX12_days_X12_putBack : GoodIn wsX12_days wsX12_putBack := goodIn_r _ [136, 5, 23, 137, 138, 139, 140, 141, 142, 143, 144, 145, 146, 147, 148, 149, 150, 151, 152, 153, 154, 155, 156, 157, 158, 159, 160, 161, 162, 163, 164, 165, 166, 167, 168, 169, 170, 171, 172, 173, 174, 175, 176, 177, 178, 179, 180, 181, 182, 183, 184, 185, 186, 187, 188, 189, 190, 191, 192, 193, 194, 195, 196] (by decide +kernel) (by decide +kernel)
set_option maxRecDepth 20000 in
theorem gX12_days_X12_putBack : GoodIn wsX12_days (wsV RX12 175 RX12 yX12_putBack wsX12_putBack) := goodIn_app (goodIn_of _ (by decide +kernel)) ggX12_days_X12_putBack
set_option maxRecDepth 20000 in
theorem ggX12_days_X12_tell : GoodIn wsX12_days wsX12_tell := goodIn_r _ [16, 17, 18, 137, 138, 139, 140, 141, 142, 143, 144, 145, 146, 147, 148, 149, 150, 151, 152, 153, 154, 155, 156, 157, 158, 159, 160, 161, 162, 163, 164, 165, 166, 167, 168, 169, 170, 171, 172, 173, 174, 175, 176, 177, 178, 179, 180, 181, 182, 183, 184, 185, 186, 187, 188, 189, 190, 191, 192, 193, 194, 195, 196] (by decide +kernel) (by decide +kernel)
set_option maxRecDepth 20000 in
theorem gX12_days_X12_tell : GoodIn wsX12_days (wsV RX12 171 RX12 yX12_tell wsX12_tell) := goodIn_app (goodIn_of _ (by decide +kernel)) ggX12_days_X12_tell
set_option maxRecDepth 20000 in
theorem ggX12_days_X12_canPass : GoodIn wsX12_days wsX12_canPass := goodIn_r _ [27, 28, 29, 30, 11, 31, 5, 137, 138, 139, 140, 141, 142, 143, 144, 145, 146, 147, 148, 149, 150, 151, 152, 153, 154, 155, 156, 157, 158, 159, 160, 161, 162, 163, 164, 165, 166, 167, 168, 169, 170, 171, 172, 173, 174, 175, 176, 177, 178, 179, 180, 181, 182, 183, 184, 185, 186, 187, 188, 189, 190, 191, 192, 193, 194, 195, 196] (by decide +kernel) (by decide +kernel)
set_option maxRecDepth 20000 in
theorem gX12_days_X12_canPass : GoodIn wsX12_days (wsV RX12 467 RX12 yX12_canPass wsX12_canPass) := goodIn_app (goodIn_of _ (by decide +kernel)) ggX12_days_X12_canPass
set_option maxRecDepth 20000 in
theorem ggX12_days_X12_passIt : GoodIn wsX12_days wsX12_passIt := goodIn_r _ [107, 5, 108, 109, 110, 111, 112, 11, 113, 28, 29, 30, 31, 114, 115, 116, 117, 76, 77, 78, 79, 9, 10, 12, 118, 119, 120, 121, 122, 123, 124, 47, 48, 49, 50, 51, 52, 53, 54, 55, 56, 57, 58, 59, 60, 61, 62, 63, 64, 65, 66, 67, 68, 69, 70, 71, 72, 73, 74, 75, 80, 81, 82, 83, 84, 85, 86, 87, 101, 102, 103, 125, 126, 127, 128, 129, 130, 131, 132, 137, 138, 139, 140, 141, 142, 143, 144, 145, 146, 147, 148, 149, 150, 151, 152, 153, 154, 155, 156, 157, 158, 159, 160, 161, 162, 163, 164, 165, 166, 167, 168, 169, 170, 171, 172, 173, 174, 175, 176, 177, 178, 179, 180, 181, 182, 183, 184, 185, 186, 187, 188, 189, 190, 191, 192, 193, 194, 195, 196] (by decide +kernel) (by decide +kernel)
set_option maxRecDepth 20000 in
theorem gX12_days_X12_passIt : GoodIn wsX12_days (wsV RX12 470 RX12 yX12_passIt wsX12_passIt) := goodIn_app (goodIn_of _ (by decide +kernel)) ggX12_days_X12_passIt
set_option maxRecDepth 20000 in
theorem ggX12_image_X12_in : GoodIn wsX12_image wsX12_in := goodIn_r _ [8] (by decide +kernel) (by decide +kernel)
set_option maxRecDepth 20000 in
theorem gX12_image_X12_in : GoodIn wsX12_image (va_wsS RX12 178 yX12_in wsX12_in) := goodIn_app (goodIn_of _ (by decide +kernel)) ggX12_image_X12_in
set_option maxRecDepth 20000 in
theorem ggX12_image_X12_tell : GoodIn wsX12_image wsX12_tell := goodIn_r _ [12, 13, 14, 15, 16, 17, 18, 19, 20, 21, 22, 23, 24, 25, 26, 27, 28, 29, 30, 31, 32, 33, 34, 35, 36, 37, 38, 39, 40, 41, 42, 43, 44, 45, 46, 47, 48, 49, 50, 51, 52, 53, 54, 55, 56, 57, 58, 59, 60, 61, 62, 63, 64, 65, 66, 67, 68, 69, 70, 71, 72, 73, 74] (by decide +kernel) (by decide +kernel)
set_option maxRecDepth 20000 in
theorem gX12_image_X12_tell : GoodIn wsX12_image (wsV RX12 171 RX12 yX12_tell wsX12_tell) := goodIn_app (goodIn_of _ (by decide +kernel)) ggX12_image_X12_tell
set_option maxRecDepth 20000 in
theorem ggX12_remember_X12_keepAll : GoodIn wsX12_remember wsX12_keepAll := goodIn_r _ [8, 2, 9, 10, 11, 12, 13, 14, 15, 16, 17, 18, 19, 20, 21, 22, 23, 24, 25, 26, 27, 28, 29, 30, 31, 32, 33, 34, 35, 36, 37, 38, 39, 40, 41, 42, 43, 44, 45, 46, 47, 48, 49, 50, 51, 52, 53, 54, 55, 56, 57, 58, 59, 60, 61, 62, 63, 64, 65, 66, 67, 68, 69] (by decide +kernel) (by decide +kernel)
set_option maxRecDepth 20000 in
theorem gX12_remember_X12_keepAll : GoodIn wsX12_remember (wsV RX12 167 RX12 yX12_keepAll wsX12_keepAll) := goodIn_app (goodIn_of _ (by decide +kernel)) ggX12_remember_X12_keepAll
set_option maxRecDepth 20000 in
theorem ggX12_passNow_X12_canPass : GoodIn wsX12_passNow wsX12_canPass := goodIn_r _ [5, 6, 7, 8, 4, 9, 10, 98, 99, 100, 101, 102, 103, 104, 105, 106, 107, 108, 109, 110, 111, 112, 113, 114, 115, 116, 117, 118, 119, 120, 121, 122, 123, 124, 125, 126, 127, 128, 129, 130, 131, 132, 133, 134, 135, 136, 137, 138, 139, 140, 141, 142, 143, 144, 145, 146, 147, 148, 149, 150, 151, 152, 153, 154, 155, 156, 157] (by decide +kernel) (by decide +kernel)
set_option maxRecDepth 20000 in
theorem gX12_passNow_X12_canPass : GoodIn wsX12_passNow (wsV RX12 467 RX12 yX12_canPass wsX12_canPass) := goodIn_app (goodIn_of _ (by decide +kernel)) ggX12_passNow_X12_canPass
set_option maxRecDepth 20000 in
theorem ggX12_passNow_X12_remember : GoodIn wsX12_passNow wsX12_remember := goodIn_r _ [14, 15, 16, 17, 18, 19, 20, 4, 21, 10, 98, 99, 100, 101, 102, 103, 104, 105, 106, 107, 108, 109, 110, 111, 112, 113, 114, 115, 116, 117, 118, 119, 120, 121, 122, 123, 124, 125, 126, 127, 128, 129, 130, 131, 132, 133, 134, 135, 136, 137, 138, 139, 140, 141, 142, 143, 144, 145, 146, 147, 148, 149, 150, 151, 152, 153, 154, 155, 156, 157] (by decide +kernel) (by decide +kernel)
set_option maxRecDepth 20000 in
theorem gX12_passNow_X12_remember : GoodIn wsX12_passNow (wsV RX12 448 RX12 yX12_remember wsX12_remember) := goodIn_app (goodIn_of _ (by decide +kernel)) ggX12_passNow_X12_remember
set_option maxRecDepth 20000 in
theorem ggX12_passNow_X12_passIt : GoodIn wsX12_passNow wsX12_passIt := goodIn_r _ [25, 10, 26, 27, 28, 29, 30, 4, 31, 6, 7, 8, 9, 32, 33, 34, 35, 36, 37, 38, 39, 40, 41, 42, 43, 44, 45, 46, 47, 48, 49, 50, 51, 52, 53, 54, 55, 56, 57, 58, 59, 60, 61, 62, 63, 64, 65, 66, 67, 68, 69, 70, 71, 72, 73, 74, 75, 76, 77, 78, 79, 80, 81, 82, 83, 84, 85, 86, 87, 88, 89, 90, 91, 92, 93, 94, 95, 96, 97, 98, 99, 100, 101, 102, 103, 104, 105, 106, 107, 108, 109, 110, 111, 112, 113, 114, 115, 116, 117, 118, 119, 120, 121, 122, 123, 124, 125, 126, 127, 128, 129, 130, 131, 132, 133, 134, 135, 136, 137, 138, 139, 140, 141, 142, 143, 144, 145, 146, 147, 148, 149, 150, 151, 152, 153, 154, 155, 156, 157] (by decide +kernel) (by decide +kernel)
set_option maxRecDepth 20000 in
theorem gX12_passNow_X12_passIt : GoodIn wsX12_passNow (wsV RX12 470 RX12 yX12_passIt wsX12_passIt) := goodIn_app (goodIn_of _ (by decide +kernel)) ggX12_passNow_X12_passIt
set_option maxRecDepth 20000 in
theorem ggX12_pass_X12_passNow : GoodIn wsX12_pass wsX12_passNow := goodIn_r _ [6, 7, 8, 9, 5, 10, 11, 12, 13, 14, 15, 16, 17, 18, 19, 20, 21, 22, 23, 24, 25, 26, 27, 28, 29, 30, 31, 32, 33, 34, 35, 36, 37, 38, 39, 40, 41, 42, 43, 44, 45, 46, 47, 48, 49, 50, 51, 52, 53, 54, 55, 56, 57, 58, 59, 60, 61, 62, 63, 64, 65, 66, 67, 68, 69, 70, 71, 72, 73, 74, 75, 76, 77, 78, 79, 80, 81, 82, 83, 84, 85, 86, 87, 88, 89, 90, 91, 92, 93, 94, 95, 96, 97, 98, 99, 100, 101, 102, 109, 110, 111, 112, 113, 114, 115, 116, 117, 118, 119, 120, 121, 122, 123, 124, 125, 126, 127, 128, 129, 130, 131, 132, 133, 134, 135, 136, 137, 138, 139, 140, 141, 142, 143, 144, 145, 146, 147, 148, 149, 150, 151, 152, 153, 154, 155, 156, 157, 158, 159, 160, 161, 162, 163, 164, 165, 166, 167, 168] (by decide +kernel) (by decide +kernel)
set_option maxRecDepth 20000 in
theorem gX12_pass_X12_passNow : GoodIn wsX12_pass (wsV RX12 473 RX12 yX12_passNow wsX12_passNow) := goodIn_app (goodIn_of _ (by decide +kernel)) ggX12_pass_X12_passNow
set_option maxRecDepth 20000 in
theorem ggX12_pass_X12_tell : GoodIn wsX12_pass wsX12_tell := goodIn_r _ [106, 107, 108, 109, 110, 111, 112, 113, 114, 115, 116, 117, 118, 119, 120, 121, 122, 123, 124, 125, 126, 127, 128, 129, 130, 131, 132, 133, 134, 135, 136, 137, 138, 139, 140, 141, 142, 143, 144, 145, 146, 147, 148, 149, 150, 151, 152, 153, 154, 155, 156, 157, 158, 159, 160, 161, 162, 163, 164, 165, 166, 167, 168] (by decide +kernel) (by decide +kernel)
set_option maxRecDepth 20000 in
theorem gX12_pass_X12_tell : GoodIn wsX12_pass (wsV RX12 171 RX12 yX12_tell wsX12_tell) := goodIn_app (goodIn_of _ (by decide +kernel)) ggX12_pass_X12_tell
set_option maxRecDepth 20000 in
theorem ggX12_begin_X12_next : GoodIn wsX12_begin wsX12_next := goodIn_r _ [8, 1, 9, 10, 11, 12, 13, 14, 15, 16, 17, 18, 19, 20, 21, 7, 22, 23, 24, 25, 26, 27, 28, 29, 30, 31, 32, 33, 34, 35, 36, 37, 38, 39, 40, 41, 42, 43, 44, 45, 46, 47, 48, 49, 50, 51, 52, 53, 54, 55, 56, 57, 58, 59, 60, 61, 62, 63, 64, 65, 66, 67, 68, 69, 70, 71, 72, 73, 74, 75, 76, 77, 78, 79, 80, 81, 82, 83, 84, 85] (by decide +kernel) (by decide +kernel)
set_option maxRecDepth 20000 in
theorem gX12_begin_X12_next : GoodIn wsX12_begin (wsV RX12 243 RX12 yX12_next wsX12_next) := goodIn_app (goodIn_of _ (by decide +kernel)) ggX12_begin_X12_next
set_option maxHeartbeats 4000000 in
set_option maxRecDepth 100000 in
theorem m_layTunes (l : Launch) (D : va_G) (K : Nat → ClassId) (a0 : Nat) (x : Int32) (w0 : Value) (w1 : Value) (w2 : Value) (a1 : Nat) (w4 : Value) (w5 : Value) (w6 : Value) (w7 : Value) (w8 : Value) (w9 : Value) (w10 : Value) (w11 : Value) (w12 : Value) (w13 : Value) (w14 : Value) (w15 : Value) (w16 : Value) (w17 : Value) (w18 : Value) (w19 : Value) (w20 : Value) (w21 : Value) (w22 : Value) (w23 : Value) (w24 : Value) (w25 : Value) (w26 : Value) (w27 : Value) (w28 : Value) (w29 : Value) (w30 : Value) (w31 : Value) (w32 : Value) (w33 : Value) (w34 : Value) (w35 : Value) (w36 : Value) (w37 : Value) (w38 : Value) (w39 : Value) (w40 : Value) (w41 : Value) (w42 : Value) (w43 : Value) (w44 : Value) (w45 : Value) (w46 : Value) (a5 : Nat) (w48 : Value) (w49 : Value) (w50 : Value) (w51 : Value) (w52 : Value) (w53 : Value) (w54 : Value) (w55 : Value) (w56 : Value) (w57 : Value) (w58 : Value) (w59 : Value) (sz : Nat) : Met l yX12_layTunes wsX12_layTunes ({ frames := 0, cells := 0, slots := 0, locals := 0 }) (va_Pc [.ref a0, .int x] (Pre D K [(a0, .inr (12, [w0, w1, w2, .ref a1, w4, w5, w6, w7, w8, w9, w10, w11, w12, w13, w14, w15, w16, w17, w18, w19, w20, w21, w22, w23, w24, w25, w26, w27, w28, w29, w30, w31, w32, w33, w34, w35, w36, w37, w38, w39, w40, w41, w42, w43, w44, w45, w46, .ref a5, w48, w49, w50, w51, w52, w53, w54, w55, w56, w57, w58, w59])), (a1, .inl (K 0, 5500, .inl row0)), (a5, .inl (K 0, 1152, .inl (fun _ => 0)))] sz)) (va_Qi (S := (Nat → Nat) × (Nat → Nat → Int32) × (Nat → Nat → Int64) × (Nat → Int32)) (fun (r : Int32) (u : (Nat → Nat) × (Nat → Nat → Int32) × (Nat → Nat → Int64) × (Nat → Int32)) => r = 0 ∧ ∀ j, u.2.1 0 j = 0) (fun u t => Wd D (va_A [(a0, .inr (12, [w0, w1, w2, .ref a1, w4, w5, w6, w7, w8, w9, w10, w11, w12, w13, w14, w15, w16, w17, w18, w19, w20, w21, w22, w23, w24, w25, w26, w27, w28, w29, w30, w31, w32, w33, w34, w35, w36, w37, w38, w39, w40, w41, w42, w43, w44, w45, w46, .ref a5, w48, w49, w50, w51, w52, w53, w54, w55, w56, w57, w58, w59])), (a1, .inl (K 0, 5500, .inl row0)), (a5, .inl (K 0, 1152, .inl (fun _ => 0)))] sz) ((fun u => [(a0, .inr (12, [w0, w1, w2, .ref a1, w4, w5, w6, w7, w8, w9, w10, w11, w12, w13, w14, w15, w16, w17, w18, w19, w20, w21, w22, w23, w24, w25, w26, w27, w28, w29, w30, w31, w32, w33, w34, w35, w36, w37, w38, w39, w40, w41, w42, w43, w44, w45, w46, .ref a5, w48, w49, w50, w51, w52, w53, w54, w55, w56, w57, w58, w59])), (a1, .inl (K 0, 5500, .inl row0)), (a5, .inl (K 0, 1152, .inl ((u.2.1 0))))]) u) t) (va_A [(a0, .inr (12, [w0, w1, w2, .ref a1, w4, w5, w6, w7, w8, w9, w10, w11, w12, w13, w14, w15, w16, w17, w18, w19, w20, w21, w22, w23, w24, w25, w26, w27, w28, w29, w30, w31, w32, w33, w34, w35, w36, w37, w38, w39, w40, w41, w42, w43, w44, w45, w46, .ref a5, w48, w49, w50, w51, w52, w53, w54, w55, w56, w57, w58, w59])), (a1, .inl (K 0, 5500, .inl row0)), (a5, .inl (K 0, 1152, .inl (fun _ => 0)))] sz)) 0 0 (va_A [(a0, .inr (12, [w0, w1, w2, .ref a1, w4, w5, w6, w7, w8, w9, w10, w11, w12, w13, w14, w15, w16, w17, w18, w19, w20, w21, w22, w23, w24, w25, w26, w27, w28, w29, w30, w31, w32, w33, w34, w35, w36, w37, w38, w39, w40, w41, w42, w43, w44, w45, w46, .ref a5, w48, w49, w50, w51, w52, w53, w54, w55, w56, w57, w58, w59])), (a1, .inl (K 0, 5500, .inl row0)), (a5, .inl (K 0, 1152, .inl (fun _ => 0)))] sz) := by
  refine Met.ofW (cc := cX12_layTunes) (maxL := 8) (ret := (some .int)) (by decide) rfl ?_
  intro p e s m args below meth c s₁ B hml hv
  obtain ⟨rfl, hsz, hP, hK, hD0, hN⟩ := hv
  have hx := B.exec
  have hb := B.bytes
  have hr := B.returns
  have hts := atoms_spec (ws := wsX12_layTunes) B.pre
  have hown : s.vm.findClass RX12 = some m.cls := findClass_of_methodNamed B.named
  have hlocks := B.notSynchronized
  subst hsz
  have hD := hD0.self (sz := s.heap.size)
  generalize hAe : va_A [(a0, .inr (12, [w0, w1, w2, .ref a1, w4, w5, w6, w7, w8, w9, w10, w11, w12, w13, w14, w15, w16, w17, w18, w19, w20, w21, w22, w23, w24, w25, w26, w27, w28, w29, w30, w31, w32, w33, w34, w35, w36, w37, w38, w39, w40, w41, w42, w43, w44, w45, w46, .ref a5, w48, w49, w50, w51, w52, w53, w54, w55, w56, w57, w58, w59])), (a1, .inl (K 0, 5500, .inl row0)), (a5, .inl (K 0, 1152, .inl (fun _ => 0)))] s.heap.size = A at hD ⊢
  have hA : ∀ q : Nat, s.heap.size ≤ q → A q := fun q h => by rw [← hAe]; exact Or.inr h
  have hS : va_S A s.heap s.heap [] := va_S.rf
  have hP : va_P D vwCl [(a0, .inr (12, [w0, w1, w2, .ref a1, w4, w5, w6, w7, w8, w9, w10, w11, w12, w13, w14, w15, w16, w17, w18, w19, w20, w21, w22, w23, w24, w25, w26, w27, w28, w29, w30, w31, w32, w33, w34, w35, w36, w37, w38, w39, w40, w41, w42, w43, w44, w45, w46, .ref a5, w48, w49, w50, w51, w52, w53, w54, w55, w56, w57, w58, w59])), (a1, .inl (K 0, 5500, .inl row0)), (a5, .inl (K 0, 1152, .inl (fun _ => 0)))] s.heap := hP
  have hl := lv_entry [.ref a0, .int x] (n := 8) (Nat.le_of_ble_eq_true rfl)
  rw [lg_entry_eq]
  generalize (lg_sl [.ref a0, .int x] ++ List.replicate (8 - (lg_sl [.ref a0, .int x]).length) Slot.unset).toArray = ls at hl ⊢
  have hl : lv_has ls 8 [(0, .ref a0), (1, .int x)] := hl
  have hw12 : ∀ w ∈ wsX120, w ∈ wsX12_layTunes := fun w h => (List.mem_cons_of_mem _ (List.mem_append_right _ h))
  generalize hQ : MQ below _ _ s _ _ _ = Q
  refine lv_iconst (v := 0) hx hb dX12_layTunes_0 (by decide) ?_
  refine lv_istore_n (lv' := [(2, .int 0), (0, .ref a0), (1, .int x)]) hx hb dX12_layTunes_1 rfl hl (by decide) rfl (fun ls hl => ?_)
  refine lv_iconst (v := 0) hx hb dX12_layTunes_2 (by decide) ?_
  refine lv_istore_n (lv' := [(3, .int 0), (2, .int 0), (0, .ref a0), (1, .int x)]) hx hb dX12_layTunes_3 rfl hl (by decide) rfl (fun ls hl => ?_)
  refine lv_iload_n hx hb dX12_layTunes_4 rfl (lv_at hl 0 rfl) ?_
  refine lv_aload_n hx hb dX12_layTunes_5 rfl (lv_at hl 2 rfl) ?_
  refine va_get (ci := 12) (v := .ref a1) (C := RX12) (T := TX12) (N := 60) hx hb hts hw12 hown hK hP 0 rfl rfl 3 (by decide) (hts (.fieldLink RX12 13 "SmokeTuneModel" "row" "[I") (List.mem_cons_of_mem _ (List.mem_append_left _ (List.mem_of_getElem? (i := 0) rfl)))) (fun _ h9 => h9) rfl dX12_layTunes_6 ?_
  refine lv_iconst (v := 0) hx hb dX12_layTunes_9 (by decide) ?_
  refine va_iald hx hb hK hP 1 0 rfl rfl (i_in (x := 0) rfl (by omega)) dX12_layTunes_10 ?_
  refine lv_topi (fun x_1 ex_1 => ?_)
  obtain rfl : x_1 = 0 := ex_1.trans (by first | rfl | decide | exact rfl)
  refine lv_icmp_ge (tgt := 43) hx hb dX12_layTunes_11 (by decide) (fun c_2 => ?_) (fun c_2 => absurd (by decide) c_2)
  refine lv_iconst (v := 0) hx hb dX12_layTunes_43 (by decide) ?_
  refine lv_istore_n (lv' := [(3, .int 0), (2, .int 0), (0, .ref a0), (1, .int x)]) hx hb dX12_layTunes_44 rfl hl (by decide) rfl (fun ls hl => ?_)
  have lp_3 : ∀ (n : Nat) (i : Nat) (f_902 : Nat → Int32) (hn : 129 ≤ i + n) (hi8 : i ≤ 128) (hz : ∀ j, f_902 j = 0) (H : Heap) (locs : List Loc) (hP : va_P D vwCl [(a0, .inr (12, [w0, w1, w2, .ref a1, w4, w5, w6, w7, w8, w9, w10, w11, w12, w13, w14, w15, w16, w17, w18, w19, w20, w21, w22, w23, w24, w25, w26, w27, w28, w29, w30, w31, w32, w33, w34, w35, w36, w37, w38, w39, w40, w41, w42, w43, w44, w45, w46, .ref a5, w48, w49, w50, w51, w52, w53, w54, w55, w56, w57, w58, w59])), (a1, .inl (K 0, 5500, .inl row0)), (a5, .inl (K 0, 1152, .inl f_902))] H) (hD : va_D A [(a0, .inr (12, [w0, w1, w2, .ref a1, w4, w5, w6, w7, w8, w9, w10, w11, w12, w13, w14, w15, w16, w17, w18, w19, w20, w21, w22, w23, w24, w25, w26, w27, w28, w29, w30, w31, w32, w33, w34, w35, w36, w37, w38, w39, w40, w41, w42, w43, w44, w45, w46, .ref a5, w48, w49, w50, w51, w52, w53, w54, w55, w56, w57, w58, w59])), (a1, .inl (K 0, 5500, .inl row0)), (a5, .inl (K 0, 1152, .inl f_902))]) (hS : va_S A s.heap H locs) (ls : Array Slot) (hl : lv_has ls 8 [(3, .int (nI i)), (2, .int 0), (0, .ref a0), (1, .int x)]), W p l e ({ frames := 0, cells := 0, slots := 0, locals := 0 }) s m (([.ref a0, .int x] : List Value).toArray) below meth c H locs 0 0 Q (F0 m 45 ls []) := by
    intro n
    induction n with
    | zero =>
      intro i f_902 hn hi8 hz H locs hP hD hS ls hl
      exfalso; omega
    | succ n ih =>
      intro i f_902 hn hi8 hz H locs hP hD hS ls hl
      refine lv_iload_n hx hb dX12_layTunes_45 rfl (lv_at hl 0 rfl) ?_
      refine lv_sipush (v := 128) hx hb dX12_layTunes_46 (by decide) ?_
      refine lv_icmp_ge (tgt := 71) hx hb dX12_layTunes_49 (by decide) (fun c_4 => ?_) (fun c_4 => ?_)
      · have c_4i := i_le (x := 128) (y := ((i : Nat) : Int)) rfl (nI_toInt (by omega)) c_4
        refine lv_iload_n hx hb dX12_layTunes_71 rfl (lv_at hl 1 rfl) ?_
        refine lv_iconst (v := 1) hx hb dX12_layTunes_72 (by decide) ?_
        refine lv_isub hx hb dX12_layTunes_73 ?_
        refine lv_topi (fun x_5 ex_5 => ?_)
        obtain rfl : x_5 = (-1) := ex_5.trans (by first | rfl | decide)
        refine lv_istore_n (lv' := [(3, .int (-1)), (2, .int 0), (0, .ref a0), (1, .int x)]) hx hb dX12_layTunes_74 rfl hl (by decide) rfl (fun ls hl => ?_)
        refine lv_iload_n hx hb dX12_layTunes_75 rfl (lv_at hl 0 rfl) ?_
        refine lv_if_lt (tgt := 165) hx hb dX12_layTunes_76 (by decide) (fun c_6 => ?_) (fun c_6 => absurd (by decide) c_6)
        refine lv_iload_n hx hb dX12_layTunes_165 rfl (lv_at hl 1 rfl) ?_
        subst hQ
        have hP9 := hP.sub (ws' := [(a0, .inr (12, [w0, w1, w2, .ref a1, w4, w5, w6, w7, w8, w9, w10, w11, w12, w13, w14, w15, w16, w17, w18, w19, w20, w21, w22, w23, w24, w25, w26, w27, w28, w29, w30, w31, w32, w33, w34, w35, w36, w37, w38, w39, w40, w41, w42, w43, w44, w45, w46, .ref a5, w48, w49, w50, w51, w52, w53, w54, w55, w56, w57, w58, w59])), (a1, .inl (K 0, 5500, .inl row0)), (a5, .inl (K 0, 1152, .inl f_902))]) [0, 1, 2] rfl
        have hD9 := hD.sub (ws' := [(a0, .inr (12, [w0, w1, w2, .ref a1, w4, w5, w6, w7, w8, w9, w10, w11, w12, w13, w14, w15, w16, w17, w18, w19, w20, w21, w22, w23, w24, w25, w26, w27, w28, w29, w30, w31, w32, w33, w34, w35, w36, w37, w38, w39, w40, w41, w42, w43, w44, w45, w46, .ref a5, w48, w49, w50, w51, w52, w53, w54, w55, w56, w57, w58, w59])), (a1, .inl (K 0, 5500, .inl row0)), (a5, .inl (K 0, 1152, .inl f_902))]) [0, 1, 2] (by decide) rfl
        exact W.iret (v := 0) hx hb hr (fun t ht hW => ⟨⟨0, (fun _ => 0, fun i => match i with | _ => f_902, fun _ => fun _ => 0, fun _ => 0), rfl, ⟨rfl, hz⟩, (⟨by rw [ht]; exact hP9, hD9⟩ : Wd D A _ t)⟩, hS.F ht⟩) hS.2.2 dX12_layTunes_166
      · have c_4i := i_nle (x := 128) (y := ((i : Nat) : Int)) rfl (nI_toInt (by omega)) c_4
        refine lv_aload_n hx hb dX12_layTunes_52 rfl (lv_at hl 2 rfl) ?_
        refine va_get (ci := 12) (v := .ref a5) (C := RX12) (T := TX12) (N := 60) hx hb hts hw12 hown hK hP 0 rfl rfl 47 (by decide) (hts (.fieldLink RX12 126 "SmokeTuneModel" "moved" "[I") (List.mem_cons_of_mem _ (List.mem_append_left _ (List.mem_of_getElem? (i := 2) rfl)))) (fun _ h9 => h9) rfl dX12_layTunes_53 ?_
        refine lv_sipush (v := 128) hx hb dX12_layTunes_56 (by decide) ?_
        refine lv_iload_n hx hb dX12_layTunes_59 rfl (lv_at hl 1 rfl) ?_
        refine lv_imul hx hb dX12_layTunes_60 ?_
        refine lv_topi (fun x_7 ex_7 => ?_)
        obtain rfl : x_7 = 0 := ex_7.trans (by first | rfl | decide)
        refine lv_iload_n hx hb dX12_layTunes_61 rfl (lv_at hl 0 rfl) ?_
        refine lv_iadd hx hb dX12_layTunes_62 ?_
        refine lv_topi (fun x_8 ex_8 => ?_)
        have hx_8 : x_8.toInt = (0 + ((i : Nat) : Int)) := by rw [ex_8]; exact i_add rfl (nI_toInt (by omega)) (by omega)
        refine lv_iconst (v := 0) hx hb dX12_layTunes_63 (by decide) ?_
        refine va_iast hx hb hK hP hD hS 2 0 rfl rfl (i_in hx_8 (by omega)) dX12_layTunes_64 (fun H locs hP hD hS => ?_)
        generalize hf_9 : (upd f_902 (x_8 : Int32).toNatClampNeg 0) = f_9 at hP hD
        have hP : va_P D vwCl [(a0, .inr (12, [w0, w1, w2, .ref a1, w4, w5, w6, w7, w8, w9, w10, w11, w12, w13, w14, w15, w16, w17, w18, w19, w20, w21, w22, w23, w24, w25, w26, w27, w28, w29, w30, w31, w32, w33, w34, w35, w36, w37, w38, w39, w40, w41, w42, w43, w44, w45, w46, .ref a5, w48, w49, w50, w51, w52, w53, w54, w55, w56, w57, w58, w59])), (a1, .inl (K 0, 5500, .inl row0)), (a5, .inl (K 0, 1152, .inl f_9))] H := hP
        have hD : va_D A [(a0, .inr (12, [w0, w1, w2, .ref a1, w4, w5, w6, w7, w8, w9, w10, w11, w12, w13, w14, w15, w16, w17, w18, w19, w20, w21, w22, w23, w24, w25, w26, w27, w28, w29, w30, w31, w32, w33, w34, w35, w36, w37, w38, w39, w40, w41, w42, w43, w44, w45, w46, .ref a5, w48, w49, w50, w51, w52, w53, w54, w55, w56, w57, w58, w59])), (a1, .inl (K 0, 5500, .inl row0)), (a5, .inl (K 0, 1152, .inl f_9))] := hD
        refine lv_iinc (v := nI (i + 1)) (lv' := [(3, .int (nI (i + 1))), (2, .int 0), (0, .ref a0), (1, .int x)]) hx hb dX12_layTunes_65 hl (k := 0) rfl (nI_1 i) (by decide) rfl (fun ls hl => ?_)
        refine lv_goto (tgt := 45) hx hb dX12_layTunes_68 (by decide) ?_
        exact ih (i + 1) f_9 (by omega) (by omega) (fun j => by rw [← hf_9]; exact z_upd hz) _ _ hP hD hS ls (lv_sub hl [0, 1, 2, 3] rfl)
  exact lp_3 129 0 (fun _ => 0) (by omega) (by omega) (fun _ => rfl) _ _ hP hD hS ls (lv_sub hl [0, 1, 2, 3] rfl)
set_option maxHeartbeats 4000000 in
set_option maxRecDepth 100000 in
theorem r_tune (l : Launch) (D : va_G) (K : Nat → ClassId) (a0 : Nat) (x : Int32) (y : Int32) (w0 : Value) (w1 : Value) (w2 : Value) (a1 : Nat) (w4 : Value) (w5 : Value) (w6 : Value) (w7 : Value) (w8 : Value) (w9 : Value) (w10 : Value) (w11 : Value) (w12 : Value) (w13 : Value) (w14 : Value) (w15 : Value) (w16 : Value) (w17 : Value) (w18 : Value) (w19 : Value) (w20 : Value) (w21 : Value) (w22 : Value) (w23 : Value) (w24 : Value) (w25 : Value) (w26 : Value) (w27 : Value) (w28 : Value) (w29 : Value) (w30 : Value) (w31 : Value) (w32 : Value) (w33 : Value) (w34 : Value) (w35 : Value) (w36 : Value) (w37 : Value) (w38 : Value) (w39 : Value) (w40 : Value) (w41 : Value) (w42 : Value) (w43 : Value) (w44 : Value) (w45 : Value) (w46 : Value) (a5 : Nat) (w48 : Value) (w49 : Value) (w50 : Value) (w51 : Value) (w52 : Value) (w53 : Value) (w54 : Value) (w55 : Value) (w56 : Value) (w57 : Value) (w58 : Value) (w59 : Value) (sz : Nat) : Met l yX12_tune wsX12_tune ({ frames := 2, cells := 0, slots := 0, locals := 46 }) (va_Pc [.ref a0, .int x, .int y] (Pre D K [(a0, .inr (12, [w0, w1, w2, .ref a1, w4, w5, w6, w7, w8, w9, w10, w11, w12, w13, w14, w15, w16, w17, w18, w19, w20, w21, w22, w23, w24, w25, w26, w27, w28, w29, w30, w31, w32, w33, w34, w35, w36, w37, w38, w39, w40, w41, w42, w43, w44, w45, w46, .ref a5, w48, w49, w50, w51, w52, w53, w54, w55, w56, w57, w58, w59])), (a1, .inl (K 0, 5500, .inl row0)), (a5, .inl (K 0, 1152, .inl (fun _ => 0)))] sz)) (va_Qi (S := Unit) (fun (r : Int32) (_ : Unit) => (r = 0 ∧ 0 ≤ x.toInt ∧ x.toInt ≤ 3 ∧ y.toInt = 0) ∨ (r = (-1) ∧ (x.toInt < 0 ∨ 3 < x.toInt ∨ y.toInt ≠ 0))) (fun u t => Wd D (va_A [(a0, .inr (12, [w0, w1, w2, .ref a1, w4, w5, w6, w7, w8, w9, w10, w11, w12, w13, w14, w15, w16, w17, w18, w19, w20, w21, w22, w23, w24, w25, w26, w27, w28, w29, w30, w31, w32, w33, w34, w35, w36, w37, w38, w39, w40, w41, w42, w43, w44, w45, w46, .ref a5, w48, w49, w50, w51, w52, w53, w54, w55, w56, w57, w58, w59])), (a1, .inl (K 0, 5500, .inl row0)), (a5, .inl (K 0, 1152, .inl (fun _ => 0)))] sz) ((fun _ => []) u) t) (va_A [(a0, .inr (12, [w0, w1, w2, .ref a1, w4, w5, w6, w7, w8, w9, w10, w11, w12, w13, w14, w15, w16, w17, w18, w19, w20, w21, w22, w23, w24, w25, w26, w27, w28, w29, w30, w31, w32, w33, w34, w35, w36, w37, w38, w39, w40, w41, w42, w43, w44, w45, w46, .ref a5, w48, w49, w50, w51, w52, w53, w54, w55, w56, w57, w58, w59])), (a1, .inl (K 0, 5500, .inl row0)), (a5, .inl (K 0, 1152, .inl (fun _ => 0)))] sz)) 0 0 (va_A [(a0, .inr (12, [w0, w1, w2, .ref a1, w4, w5, w6, w7, w8, w9, w10, w11, w12, w13, w14, w15, w16, w17, w18, w19, w20, w21, w22, w23, w24, w25, w26, w27, w28, w29, w30, w31, w32, w33, w34, w35, w36, w37, w38, w39, w40, w41, w42, w43, w44, w45, w46, .ref a5, w48, w49, w50, w51, w52, w53, w54, w55, w56, w57, w58, w59])), (a1, .inl (K 0, 5500, .inl row0)), (a5, .inl (K 0, 1152, .inl (fun _ => 0)))] sz) := by
  refine Met.ofW (cc := cX12_tune) (maxL := 7) (ret := (some .int)) (by decide) rfl ?_
  intro p e s m args below meth c s₁ B hml hv
  obtain ⟨rfl, hsz, hP, hK, hD0, hN⟩ := hv
  have hx := B.exec
  have hb := B.bytes
  have hr := B.returns
  have hts := atoms_spec (ws := wsX12_tune) B.pre
  have hown : s.vm.findClass RX12 = some m.cls := findClass_of_methodNamed B.named
  have hlocks := B.notSynchronized
  subst hsz
  have hD := hD0.self (sz := s.heap.size)
  generalize hAe : va_A [(a0, .inr (12, [w0, w1, w2, .ref a1, w4, w5, w6, w7, w8, w9, w10, w11, w12, w13, w14, w15, w16, w17, w18, w19, w20, w21, w22, w23, w24, w25, w26, w27, w28, w29, w30, w31, w32, w33, w34, w35, w36, w37, w38, w39, w40, w41, w42, w43, w44, w45, w46, .ref a5, w48, w49, w50, w51, w52, w53, w54, w55, w56, w57, w58, w59])), (a1, .inl (K 0, 5500, .inl row0)), (a5, .inl (K 0, 1152, .inl (fun _ => 0)))] s.heap.size = A at hD ⊢
  have hA : ∀ q : Nat, s.heap.size ≤ q → A q := fun q h => by rw [← hAe]; exact Or.inr h
  have hS : va_S A s.heap s.heap [] := va_S.rf
  have hP : va_P D vwCl [(a0, .inr (12, [w0, w1, w2, .ref a1, w4, w5, w6, w7, w8, w9, w10, w11, w12, w13, w14, w15, w16, w17, w18, w19, w20, w21, w22, w23, w24, w25, w26, w27, w28, w29, w30, w31, w32, w33, w34, w35, w36, w37, w38, w39, w40, w41, w42, w43, w44, w45, w46, .ref a5, w48, w49, w50, w51, w52, w53, w54, w55, w56, w57, w58, w59])), (a1, .inl (K 0, 5500, .inl row0)), (a5, .inl (K 0, 1152, .inl (fun _ => 0)))] s.heap := hP
  have hl := lv_entry [.ref a0, .int x, .int y] (n := 7) (Nat.le_of_ble_eq_true rfl)
  rw [lg_entry_eq]
  generalize (lg_sl [.ref a0, .int x, .int y] ++ List.replicate (7 - (lg_sl [.ref a0, .int x, .int y]).length) Slot.unset).toArray = ls at hl ⊢
  have hl : lv_has ls 7 [(0, .ref a0), (1, .int x), (2, .int y)] := hl
  have hw12 : ∀ w ∈ wsX120, w ∈ wsX12_tune := fun w h => (List.mem_cons_of_mem _ (List.mem_append_right _ h))
  refine lv_aload_n hx hb dX12_tune_0 rfl (lv_at hl 0 rfl) ?_
  refine lv_iconst (v := 0) hx hb dX12_tune_1 (by decide) ?_
  refine va_put (ci := 12) (v := .int 0) (ty := .int) (C := RX12) (T := TX12) (N := 60) hx hb hts hw12 tyX12 tyX12_ok nmX12 hown hK hP hD hS 0 rfl rfl 0 (by decide) (hts (.fieldLink RX12 158 "SmokeTuneModel" "thrown" "I") (List.mem_cons_of_mem _ (List.mem_append_left _ (List.mem_append_left _ (List.mem_of_getElem? (i := 0) rfl))))) (fun _ h9 => h9) rfl (by decide +kernel) (by first | rfl | decide) (by first | rfl | decide) (Nat.le_of_ble_eq_true rfl) dX12_tune_2 (fun H locs hP hD hS => ?_)
  have hP : va_P D vwCl [(a0, .inr (12, [.int 0, w1, w2, .ref a1, w4, w5, w6, w7, w8, w9, w10, w11, w12, w13, w14, w15, w16, w17, w18, w19, w20, w21, w22, w23, w24, w25, w26, w27, w28, w29, w30, w31, w32, w33, w34, w35, w36, w37, w38, w39, w40, w41, w42, w43, w44, w45, w46, .ref a5, w48, w49, w50, w51, w52, w53, w54, w55, w56, w57, w58, w59])), (a1, .inl (K 0, 5500, .inl row0)), (a5, .inl (K 0, 1152, .inl (fun _ => 0)))] H := hP
  have hD : va_D A [(a0, .inr (12, [.int 0, w1, w2, .ref a1, w4, w5, w6, w7, w8, w9, w10, w11, w12, w13, w14, w15, w16, w17, w18, w19, w20, w21, w22, w23, w24, w25, w26, w27, w28, w29, w30, w31, w32, w33, w34, w35, w36, w37, w38, w39, w40, w41, w42, w43, w44, w45, w46, .ref a5, w48, w49, w50, w51, w52, w53, w54, w55, w56, w57, w58, w59])), (a1, .inl (K 0, 5500, .inl row0)), (a5, .inl (K 0, 1152, .inl (fun _ => 0)))] := hD
  refine lv_iload_n hx hb dX12_tune_5 rfl (lv_at hl 1 rfl) ?_
  refine lv_i2l hx hb dX12_tune_6 rfl ?_
  refine lv_topl (fun x_1 ex_1 => ?_)
  have hx_1 : x_1.toInt = x.toInt := by rw [ex_1]; exact i_wide rfl
  refine lv_lconst (v := 0) hx hb dX12_tune_7 (by decide) ?_
  refine lv_ldc2 (v := 3) hx hb hown (hts (.constantLong RX12 191 (3)) (List.mem_cons_of_mem _ (List.mem_append_left _ (List.mem_append_left _ (List.mem_of_getElem? (i := 1) rfl))))) dX12_tune_8 ?_
  refine pci (va_runS (As := [.long x_1, .long 0, .long 3]) (rest := []) ⟨hx, hb, hml, hown, hts⟩ (c_in l D K x_1 0 3 x.toInt 0 3 H.size hx_1 rfl rfl) (va_cwS 3 hts gX12_tune_X12_in rfl rfl rfl (by decide +kernel) ⟨Nat.le_of_ble_eq_true rfl, Nat.le_of_ble_eq_true rfl⟩) (mkS hK hN (hP.sub [] rfl) (hD.sub [] (by decide) rfl)) rfl rfl hl.1 rfl (lv_room (Nat.le_of_ble_eq_true rfl)) dX12_tune_11 ⟨Nat.le_of_ble_eq_true rfl, Nat.le_of_ble_eq_true rfl⟩) (fun r_2 hw => ?_)
  rcases hw with ⟨rfl, h_3, h_4⟩ | ⟨rfl, h_5⟩
  · refine lv_if_eq (tgt := 50) hx hb dX12_tune_14 (by decide) (fun c_6 => absurd c_6 (by decide)) (fun c_6 => ?_)
    refine lv_iload_n hx hb dX12_tune_17 rfl (lv_at hl 2 rfl) ?_
    refine lv_if_lt (tgt := 50) hx hb dX12_tune_18 (by decide) (fun c_7 => ?_) (fun c_7 => ?_)
    · have c_7i := i_lt (x := y.toInt) (y := 0) rfl rfl c_7
      refine lv_iconst (v := (-1)) hx hb dX12_tune_50 (by decide) ?_
      exact W.iret (v := (-1)) hx hb hr (fun t ht hW => ⟨⟨(-1), (), rfl, (by first | exact Or.inr (⟨rfl, by first | omega | decide | (subst_vars; assumption) | (subst_vars; symm; assumption)⟩)), Wd.nil⟩, hS.F ht⟩) hS.2.2 dX12_tune_51
    · have c_7i := i_nlt (x := y.toInt) (y := 0) rfl rfl c_7
      refine lv_iload_n hx hb dX12_tune_21 rfl (lv_at hl 2 rfl) ?_
      refine lv_if_le (tgt := 52) hx hb dX12_tune_22 (by decide) (fun c_8 => ?_) (fun c_8 => ?_)
      · have c_8i := i_le (x := y.toInt) (y := 0) rfl rfl c_8
        refine lv_aload_n hx hb dX12_tune_52 rfl (lv_at hl 0 rfl) ?_
        refine lv_iload_n hx hb dX12_tune_53 rfl (lv_at hl 1 rfl) ?_
        refine kci (wr := []) (va_runV (As := [.int x]) (rest := []) ⟨hx, hb, hml, hown, hts⟩ (m_layTunes l D K a0 x (.int 0) w1 w2 a1 w4 w5 w6 w7 w8 w9 w10 w11 w12 w13 w14 w15 w16 w17 w18 w19 w20 w21 w22 w23 w24 w25 w26 w27 w28 w29 w30 w31 w32 w33 w34 w35 w36 w37 w38 w39 w40 w41 w42 w43 w44 w45 w46 a5 w48 w49 w50 w51 w52 w53 w54 w55 w56 w57 w58 w59 H.size) (cwV 1 hts gX12_tune_X12_layTunes rfl rfl rfl (by decide +kernel) ⟨Nat.le_of_ble_eq_true rfl, Nat.le_of_ble_eq_true rfl⟩) (mkV hK hN (hP.sub [0, 1, 2] rfl) (hD.sub [0, 1, 2] (by decide) rfl) (ci := 12) (q0 := 0) rfl rfl) rfl rfl hl.1 rfl (lv_room (Nat.le_of_ble_eq_true rfl)) dX12_tune_54 ⟨Nat.le_of_ble_eq_true rfl, Nat.le_of_ble_eq_true rfl⟩) hP hD hS hA [0, 1, 2] [] rfl rfl (by decide) (by decide) (fun r_9 u_10 H locs hw hP hD hS => ?_)
        have hP : va_P D vwCl [(a0, .inr (12, [.int 0, w1, w2, .ref a1, w4, w5, w6, w7, w8, w9, w10, w11, w12, w13, w14, w15, w16, w17, w18, w19, w20, w21, w22, w23, w24, w25, w26, w27, w28, w29, w30, w31, w32, w33, w34, w35, w36, w37, w38, w39, w40, w41, w42, w43, w44, w45, w46, .ref a5, w48, w49, w50, w51, w52, w53, w54, w55, w56, w57, w58, w59])), (a1, .inl (K 0, 5500, .inl row0)), (a5, .inl (K 0, 1152, .inl ((u_10.2.1 0))))] H := hP
        have hD : va_D A [(a0, .inr (12, [.int 0, w1, w2, .ref a1, w4, w5, w6, w7, w8, w9, w10, w11, w12, w13, w14, w15, w16, w17, w18, w19, w20, w21, w22, w23, w24, w25, w26, w27, w28, w29, w30, w31, w32, w33, w34, w35, w36, w37, w38, w39, w40, w41, w42, w43, w44, w45, w46, .ref a5, w48, w49, w50, w51, w52, w53, w54, w55, w56, w57, w58, w59])), (a1, .inl (K 0, 5500, .inl row0)), (a5, .inl (K 0, 1152, .inl ((u_10.2.1 0))))] := hD
        obtain ⟨rfl, hzm⟩ := hw
        refine lv_istore_n (lv' := [(3, .int 0), (0, .ref a0), (1, .int x), (2, .int y)]) hx hb dX12_tune_57 rfl hl (by decide) rfl (fun ls hl => ?_)
        refine lv_iload_n hx hb dX12_tune_58 rfl (lv_at hl 3 rfl) ?_
        refine lv_if_ne (tgt := 69) hx hb dX12_tune_59 (by decide) (fun c_11 => ?_) (fun c_11 => ?_)
        · have c_11i := i_ne (x := y.toInt) (y := 0) rfl rfl c_11
          exfalso; omega
        · have c_11i := i_eq (x := y.toInt) (y := 0) rfl rfl c_11
          refine lv_aload_n hx hb dX12_tune_62 rfl (lv_at hl 1 rfl) ?_
          refine va_get (ci := 12) (v := .ref a5) (C := RX12) (T := TX12) (N := 60) hx hb hts hw12 hown hK hP 0 rfl rfl 47 (by decide) (hts (.fieldLink RX12 126 "SmokeTuneModel" "moved" "[I") (List.mem_cons_of_mem _ (List.mem_append_left _ (List.mem_append_left _ (List.mem_of_getElem? (i := 3) rfl))))) (fun _ h9 => h9) rfl dX12_tune_63 ?_
          refine lv_iconst (v := 0) hx hb dX12_tune_66 (by decide) ?_
          refine va_iald hx hb hK hP 2 0 rfl rfl (i_in (x := 0) rfl (by omega)) dX12_tune_67 ?_
          refine lv_topi (fun x_12 ex_12 => ?_)
          obtain rfl : x_12 = 0 := ex_12.trans (hzm 0)
          exact W.iret (v := 0) hx hb hr (fun t ht hW => ⟨⟨0, (), rfl, (by first | exact Or.inl (⟨rfl, by first | omega | decide | (subst_vars; assumption) | (subst_vars; symm; assumption), by first | omega | decide | (subst_vars; assumption) | (subst_vars; symm; assumption), by first | omega | decide | (subst_vars; assumption) | (subst_vars; symm; assumption)⟩)), Wd.nil⟩, hS.F ht⟩) hS.2.2 dX12_tune_68
      · have c_8i := i_nle (x := y.toInt) (y := 0) rfl rfl c_8
        refine lv_aload_n hx hb dX12_tune_25 rfl (lv_at hl 0 rfl) ?_
        refine lv_iload_n hx hb dX12_tune_26 rfl (lv_at hl 2 rfl) ?_
        refine lv_iconst (v := 1) hx hb dX12_tune_27 (by decide) ?_
        refine lv_isub hx hb dX12_tune_28 ?_
        refine lv_topi (fun x_13 ex_13 => ?_)
        refine pci (va_runV (As := [.int x_13]) (rest := []) ⟨hx, hb, hml, hown, hts⟩ (m_isHouse l D K a0 x_13 (.int 0) w1 w2 a1 w4 w5 w6 w7 w8 w9 w10 w11 w12 w13 w14 w15 w16 w17 w18 w19 w20 w21 w22 w23 w24 w25 w26 w27 w28 w29 w30 w31 w32 w33 w34 w35 w36 w37 w38 w39 w40 w41 w42 w43 w44 w45 w46 (.ref a5) w48 w49 w50 w51 w52 w53 w54 w55 w56 w57 w58 w59 row0 0 0 H.size row0_ok (by omega) (by omega)) (cwV 1 hts gX12_tune_X12_isHouse rfl rfl rfl (by decide +kernel) ⟨Nat.le_of_ble_eq_true rfl, Nat.le_of_ble_eq_true rfl⟩) (mkV hK hN (hP.sub [0, 1] rfl) (hD.sub [0, 1] (by decide) rfl) (ci := 12) (q0 := 0) rfl rfl) rfl rfl hl.1 rfl (lv_room (Nat.le_of_ble_eq_true rfl)) dX12_tune_29 ⟨Nat.le_of_ble_eq_true rfl, Nat.le_of_ble_eq_true rfl⟩) (fun r_14 hw => ?_)
        obtain rfl : r_14 = 0 := hw
        refine lv_if_eq (tgt := 50) hx hb dX12_tune_32 (by decide) (fun c_15 => ?_) (fun c_15 => absurd (by decide) c_15)
        refine lv_iconst (v := (-1)) hx hb dX12_tune_50 (by decide) ?_
        exact W.iret (v := (-1)) hx hb hr (fun t ht hW => ⟨⟨(-1), (), rfl, (by first | exact Or.inr (⟨rfl, by first | omega | decide | (subst_vars; assumption) | (subst_vars; symm; assumption)⟩)), Wd.nil⟩, hS.F ht⟩) hS.2.2 dX12_tune_51
  · refine lv_if_eq (tgt := 50) hx hb dX12_tune_14 (by decide) (fun c_16 => ?_) (fun c_16 => absurd (by decide) c_16)
    refine lv_iconst (v := (-1)) hx hb dX12_tune_50 (by decide) ?_
    exact W.iret (v := (-1)) hx hb hr (fun t ht hW => ⟨⟨(-1), (), rfl, (by first | exact Or.inr (⟨rfl, by first | omega | decide | (subst_vars; assumption) | (subst_vars; symm; assumption)⟩)), Wd.nil⟩, hS.F ht⟩) hS.2.2 dX12_tune_51
set_option maxHeartbeats 4000000 in
set_option maxRecDepth 100000 in
theorem m_isAsHeard (l : Launch) (D : va_G) (K : Nat → ClassId) (a0 : Nat) (x : Int32) (w0 : Value) (w1 : Value) (w2 : Value) (a1 : Nat) (w4 : Value) (w5 : Value) (w6 : Value) (w7 : Value) (w8 : Value) (w9 : Value) (w10 : Value) (w11 : Value) (w12 : Value) (w13 : Value) (w14 : Value) (w15 : Value) (w16 : Value) (w17 : Value) (w18 : Value) (w19 : Value) (w20 : Value) (w21 : Value) (w22 : Value) (w23 : Value) (w24 : Value) (w25 : Value) (w26 : Value) (w27 : Value) (w28 : Value) (w29 : Value) (w30 : Value) (w31 : Value) (w32 : Value) (w33 : Value) (w34 : Value) (w35 : Value) (w36 : Value) (w37 : Value) (w38 : Value) (w39 : Value) (w40 : Value) (w41 : Value) (w42 : Value) (w43 : Value) (w44 : Value) (w45 : Value) (w46 : Value) (w47 : Value) (w48 : Value) (w49 : Value) (w50 : Value) (w51 : Value) (w52 : Value) (w53 : Value) (w54 : Value) (w55 : Value) (w56 : Value) (w57 : Value) (w58 : Value) (w59 : Value) (sz : Nat) : Met l yX12_isAsHeard wsX12_isAsHeard ({ frames := 0, cells := 0, slots := 0, locals := 0 }) (va_Pc [.ref a0, .int x] (Pre D K [(a0, .inr (12, [w0, w1, w2, .ref a1, w4, w5, w6, w7, w8, w9, w10, w11, w12, w13, w14, w15, w16, w17, w18, w19, w20, w21, w22, w23, w24, w25, w26, w27, w28, w29, w30, w31, w32, w33, w34, w35, w36, w37, w38, w39, w40, w41, w42, w43, w44, w45, w46, w47, w48, w49, w50, w51, w52, w53, w54, w55, w56, w57, w58, w59])), (a1, .inl (K 0, 5500, .inl row0))] sz)) (vp_Si (fun r : Int32 => (r = 1))) 0 0 (fun _ => False) := by
  refine Met.ofW (cc := cX12_isAsHeard) (maxL := 5) (ret := (some .boolean)) (by decide) rfl ?_
  intro p e s m args below meth c s₁ B hml hv
  obtain ⟨rfl, hsz, hP, hK, hD0, hN⟩ := hv
  have hx := B.exec
  have hb := B.bytes
  have hr := B.returns
  have hts := atoms_spec (ws := wsX12_isAsHeard) B.pre
  have hown : s.vm.findClass RX12 = some m.cls := findClass_of_methodNamed B.named
  have hlocks := B.notSynchronized
  subst hsz
  have hD := hD0
  have hP : va_P D vwCl [(a0, .inr (12, [w0, w1, w2, .ref a1, w4, w5, w6, w7, w8, w9, w10, w11, w12, w13, w14, w15, w16, w17, w18, w19, w20, w21, w22, w23, w24, w25, w26, w27, w28, w29, w30, w31, w32, w33, w34, w35, w36, w37, w38, w39, w40, w41, w42, w43, w44, w45, w46, w47, w48, w49, w50, w51, w52, w53, w54, w55, w56, w57, w58, w59])), (a1, .inl (K 0, 5500, .inl row0))] s.heap := hP
  have hl := lv_entry [.ref a0, .int x] (n := 5) (Nat.le_of_ble_eq_true rfl)
  rw [lg_entry_eq]
  generalize (lg_sl [.ref a0, .int x] ++ List.replicate (5 - (lg_sl [.ref a0, .int x]).length) Slot.unset).toArray = ls at hl ⊢
  have hl : lv_has ls 5 [(0, .ref a0), (1, .int x)] := hl
  have hw12 : ∀ w ∈ wsX120, w ∈ wsX12_isAsHeard := fun w h => (List.mem_cons_of_mem _ (List.mem_append_right _ h))
  refine lv_iconst (v := 0) hx hb dX12_isAsHeard_0 (by decide) ?_
  refine lv_istore_n (lv' := [(2, .int 0), (0, .ref a0), (1, .int x)]) hx hb dX12_isAsHeard_1 rfl hl (by decide) rfl (fun ls hl => ?_)
  refine lv_iconst (v := 0) hx hb dX12_isAsHeard_2 (by decide) ?_
  refine lv_istore_n (lv' := [(3, .int 0), (2, .int 0), (0, .ref a0), (1, .int x)]) hx hb dX12_isAsHeard_3 rfl hl (by decide) rfl (fun ls hl => ?_)
  refine lv_iload_n hx hb dX12_isAsHeard_4 rfl (lv_at hl 0 rfl) ?_
  refine lv_aload_n hx hb dX12_isAsHeard_5 rfl (lv_at hl 2 rfl) ?_
  refine va_get (ci := 12) (v := .ref a1) (C := RX12) (T := TX12) (N := 60) hx hb hts hw12 hown hK hP 0 rfl rfl 3 (by decide) (hts (.fieldLink RX12 13 "SmokeTuneModel" "row" "[I") (List.mem_cons_of_mem _ (List.mem_append_left _ (List.mem_of_getElem? (i := 0) rfl)))) (fun _ h9 => h9) rfl dX12_isAsHeard_6 ?_
  refine lv_iconst (v := 1) hx hb dX12_isAsHeard_9 (by decide) ?_
  refine va_iald hx hb hK hP 1 0 rfl rfl (i_in (x := 1) rfl (by omega)) dX12_isAsHeard_10 ?_
  refine lv_topi (fun x_1 ex_1 => ?_)
  obtain rfl : x_1 = 0 := ex_1.trans (by first | rfl | decide | exact rfl)
  refine lv_icmp_ge (tgt := 32) hx hb dX12_isAsHeard_11 (by decide) (fun c_2 => ?_) (fun c_2 => absurd (by decide) c_2)
  refine lv_iconst (v := 0) hx hb dX12_isAsHeard_32 (by decide) ?_
  refine lv_istore_n (lv' := [(3, .int 0), (2, .int 0), (0, .ref a0), (1, .int x)]) hx hb dX12_isAsHeard_33 rfl hl (by decide) rfl (fun ls hl => ?_)
  refine lv_iconst (v := 0) hx hb dX12_isAsHeard_34 (by decide) ?_
  refine lv_istore (lv' := [(4, .int 0), (3, .int 0), (2, .int 0), (0, .ref a0), (1, .int x)]) hx hb dX12_isAsHeard_35 hl (by decide) rfl (fun ls hl => ?_)
  refine lv_iload hx hb dX12_isAsHeard_37 (lv_at hl 0 rfl) ?_
  refine lv_aload_n hx hb dX12_isAsHeard_39 rfl (lv_at hl 3 rfl) ?_
  refine va_get (ci := 12) (v := .ref a1) (C := RX12) (T := TX12) (N := 60) hx hb hts hw12 hown hK hP 0 rfl rfl 3 (by decide) (hts (.fieldLink RX12 13 "SmokeTuneModel" "row" "[I") (List.mem_cons_of_mem _ (List.mem_append_left _ (List.mem_of_getElem? (i := 0) rfl)))) (fun _ h9 => h9) rfl dX12_isAsHeard_40 ?_
  refine lv_iconst (v := 0) hx hb dX12_isAsHeard_43 (by decide) ?_
  refine va_iald hx hb hK hP 1 0 rfl rfl (i_in (x := 0) rfl (by omega)) dX12_isAsHeard_44 ?_
  refine lv_topi (fun x_3 ex_3 => ?_)
  obtain rfl : x_3 = 0 := ex_3.trans (by first | rfl | decide | exact rfl)
  refine lv_icmp_ge (tgt := 82) hx hb dX12_isAsHeard_45 (by decide) (fun c_4 => ?_) (fun c_4 => absurd (by decide) c_4)
  refine lv_iload_n hx hb dX12_isAsHeard_82 rfl (lv_at hl 1 rfl) ?_
  refine lv_iload_n hx hb dX12_isAsHeard_83 rfl (lv_at hl 2 rfl) ?_
  refine lv_icmp_ne (tgt := 91) hx hb dX12_isAsHeard_84 (by decide) (fun c_5 => absurd (by decide) c_5) (fun c_5 => ?_)
  refine lv_iconst (v := 1) hx hb dX12_isAsHeard_87 (by decide) ?_
  refine lv_goto (tgt := 92) hx hb dX12_isAsHeard_88 (by decide) ?_
  exact W.zret (v := 1) hx hb hr (by first | rfl | decide) (fun t ht hW => ⟨_, rfl, (by first | exact rfl), ht⟩) (fun q hq => by cases hq) dX12_isAsHeard_92
set_option maxHeartbeats 4000000 in
set_option maxRecDepth 100000 in
theorem r_hill (l : Launch) (D : va_G) (K : Nat → ClassId) (a0 : Nat) (x : Int32) (w0 : Value) (w1 : Value) (w2 : Value) (a1 : Nat) (w4 : Value) (w5 : Value) (w6 : Value) (w7 : Value) (w8 : Value) (w9 : Value) (w10 : Value) (w11 : Value) (w12 : Value) (w13 : Value) (w14 : Value) (w15 : Value) (w16 : Value) (w17 : Value) (w18 : Value) (w19 : Value) (w20 : Value) (w21 : Value) (w22 : Value) (w23 : Value) (w24 : Value) (w25 : Value) (w26 : Value) (w27 : Value) (w28 : Value) (w29 : Value) (w30 : Value) (w31 : Value) (w32 : Value) (w33 : Value) (w34 : Value) (w35 : Value) (w36 : Value) (w37 : Value) (w38 : Value) (w39 : Value) (w40 : Value) (w41 : Value) (w42 : Value) (w43 : Value) (w44 : Value) (w45 : Value) (w46 : Value) (w47 : Value) (w48 : Value) (w49 : Value) (w50 : Value) (w51 : Value) (w52 : Value) (w53 : Value) (w54 : Value) (w55 : Value) (w56 : Value) (w57 : Value) (w58 : Value) (w59 : Value) (sz : Nat) : Met l yX12_hill wsX12_hill ({ frames := 1, cells := 0, slots := 0, locals := 24 }) (va_Pc [.ref a0, .int x] (Pre D K [(a0, .inr (12, [w0, w1, w2, .ref a1, w4, w5, w6, w7, w8, w9, w10, w11, w12, w13, w14, w15, w16, w17, w18, w19, w20, w21, w22, w23, w24, w25, w26, w27, w28, w29, w30, w31, w32, w33, w34, w35, w36, w37, w38, w39, w40, w41, w42, w43, w44, w45, w46, w47, w48, w49, w50, w51, w52, w53, w54, w55, w56, w57, w58, w59])), (a1, .inl (K 0, 5500, .inl row0))] sz)) (va_Qi (S := Unit) (fun (r : Int32) (_ : Unit) => (r = 1 ∧ x.toInt = -1) ∨ (r = 0 ∧ x.toInt = 0) ∨ (r = (-1) ∧ x.toInt ≠ 0 ∧ x.toInt ≠ -1)) (fun u t => Wd D (va_A [(a0, .inr (12, [w0, w1, w2, .ref a1, w4, w5, w6, w7, w8, w9, w10, w11, w12, w13, w14, w15, w16, w17, w18, w19, w20, w21, w22, w23, w24, w25, w26, w27, w28, w29, w30, w31, w32, w33, w34, w35, w36, w37, w38, w39, w40, w41, w42, w43, w44, w45, w46, w47, w48, w49, w50, w51, w52, w53, w54, w55, w56, w57, w58, w59])), (a1, .inl (K 0, 5500, .inl row0))] sz) ((fun _ => []) u) t) (va_A [(a0, .inr (12, [w0, w1, w2, .ref a1, w4, w5, w6, w7, w8, w9, w10, w11, w12, w13, w14, w15, w16, w17, w18, w19, w20, w21, w22, w23, w24, w25, w26, w27, w28, w29, w30, w31, w32, w33, w34, w35, w36, w37, w38, w39, w40, w41, w42, w43, w44, w45, w46, w47, w48, w49, w50, w51, w52, w53, w54, w55, w56, w57, w58, w59])), (a1, .inl (K 0, 5500, .inl row0))] sz)) 0 0 (va_A [(a0, .inr (12, [w0, w1, w2, .ref a1, w4, w5, w6, w7, w8, w9, w10, w11, w12, w13, w14, w15, w16, w17, w18, w19, w20, w21, w22, w23, w24, w25, w26, w27, w28, w29, w30, w31, w32, w33, w34, w35, w36, w37, w38, w39, w40, w41, w42, w43, w44, w45, w46, w47, w48, w49, w50, w51, w52, w53, w54, w55, w56, w57, w58, w59])), (a1, .inl (K 0, 5500, .inl row0))] sz) := by
  refine Met.ofW (cc := cX12_hill) (maxL := 5) (ret := (some .int)) (by decide) rfl ?_
  intro p e s m args below meth c s₁ B hml hv
  obtain ⟨rfl, hsz, hP, hK, hD0, hN⟩ := hv
  have hx := B.exec
  have hb := B.bytes
  have hr := B.returns
  have hts := atoms_spec (ws := wsX12_hill) B.pre
  have hown : s.vm.findClass RX12 = some m.cls := findClass_of_methodNamed B.named
  have hlocks := B.notSynchronized
  subst hsz
  have hD := hD0.self (sz := s.heap.size)
  generalize hAe : va_A [(a0, .inr (12, [w0, w1, w2, .ref a1, w4, w5, w6, w7, w8, w9, w10, w11, w12, w13, w14, w15, w16, w17, w18, w19, w20, w21, w22, w23, w24, w25, w26, w27, w28, w29, w30, w31, w32, w33, w34, w35, w36, w37, w38, w39, w40, w41, w42, w43, w44, w45, w46, w47, w48, w49, w50, w51, w52, w53, w54, w55, w56, w57, w58, w59])), (a1, .inl (K 0, 5500, .inl row0))] s.heap.size = A at hD ⊢
  have hA : ∀ q : Nat, s.heap.size ≤ q → A q := fun q h => by rw [← hAe]; exact Or.inr h
  have hS : va_S A s.heap s.heap [] := va_S.rf
  have hP : va_P D vwCl [(a0, .inr (12, [w0, w1, w2, .ref a1, w4, w5, w6, w7, w8, w9, w10, w11, w12, w13, w14, w15, w16, w17, w18, w19, w20, w21, w22, w23, w24, w25, w26, w27, w28, w29, w30, w31, w32, w33, w34, w35, w36, w37, w38, w39, w40, w41, w42, w43, w44, w45, w46, w47, w48, w49, w50, w51, w52, w53, w54, w55, w56, w57, w58, w59])), (a1, .inl (K 0, 5500, .inl row0))] s.heap := hP
  have hl := lv_entry [.ref a0, .int x] (n := 5) (Nat.le_of_ble_eq_true rfl)
  rw [lg_entry_eq]
  generalize (lg_sl [.ref a0, .int x] ++ List.replicate (5 - (lg_sl [.ref a0, .int x]).length) Slot.unset).toArray = ls at hl ⊢
  have hl : lv_has ls 5 [(0, .ref a0), (1, .int x)] := hl
  have hw12 : ∀ w ∈ wsX120, w ∈ wsX12_hill := fun w h => (List.mem_cons_of_mem _ (List.mem_append_right _ h))
  refine lv_aload_n hx hb dX12_hill_0 rfl (lv_at hl 0 rfl) ?_
  refine lv_iconst (v := 0) hx hb dX12_hill_1 (by decide) ?_
  refine va_put (ci := 12) (v := .int 0) (ty := .int) (C := RX12) (T := TX12) (N := 60) hx hb hts hw12 tyX12 tyX12_ok nmX12 hown hK hP hD hS 0 rfl rfl 0 (by decide) (hts (.fieldLink RX12 158 "SmokeTuneModel" "thrown" "I") (List.mem_cons_of_mem _ (List.mem_append_left _ (List.mem_of_getElem? (i := 0) rfl)))) (fun _ h9 => h9) rfl (by decide +kernel) (by first | rfl | decide) (by first | rfl | decide) (Nat.le_of_ble_eq_true rfl) dX12_hill_2 (fun H locs hP hD hS => ?_)
  have hP : va_P D vwCl [(a0, .inr (12, [.int 0, w1, w2, .ref a1, w4, w5, w6, w7, w8, w9, w10, w11, w12, w13, w14, w15, w16, w17, w18, w19, w20, w21, w22, w23, w24, w25, w26, w27, w28, w29, w30, w31, w32, w33, w34, w35, w36, w37, w38, w39, w40, w41, w42, w43, w44, w45, w46, w47, w48, w49, w50, w51, w52, w53, w54, w55, w56, w57, w58, w59])), (a1, .inl (K 0, 5500, .inl row0))] H := hP
  have hD : va_D A [(a0, .inr (12, [.int 0, w1, w2, .ref a1, w4, w5, w6, w7, w8, w9, w10, w11, w12, w13, w14, w15, w16, w17, w18, w19, w20, w21, w22, w23, w24, w25, w26, w27, w28, w29, w30, w31, w32, w33, w34, w35, w36, w37, w38, w39, w40, w41, w42, w43, w44, w45, w46, w47, w48, w49, w50, w51, w52, w53, w54, w55, w56, w57, w58, w59])), (a1, .inl (K 0, 5500, .inl row0))] := hD
  refine lv_iconst (v := 0) hx hb dX12_hill_5 (by decide) ?_
  refine lv_istore_n (lv' := [(2, .int 0), (0, .ref a0), (1, .int x)]) hx hb dX12_hill_6 rfl hl (by decide) rfl (fun ls hl => ?_)
  refine lv_iconst (v := (-1)) hx hb dX12_hill_7 (by decide) ?_
  refine lv_istore_n (lv' := [(3, .int (-1)), (2, .int 0), (0, .ref a0), (1, .int x)]) hx hb dX12_hill_8 rfl hl (by decide) rfl (fun ls hl => ?_)
  refine lv_iconst (v := 0) hx hb dX12_hill_9 (by decide) ?_
  refine lv_istore (lv' := [(4, .int 0), (3, .int (-1)), (2, .int 0), (0, .ref a0), (1, .int x)]) hx hb dX12_hill_10 hl (by decide) rfl (fun ls hl => ?_)
  refine lv_iload hx hb dX12_hill_12 (lv_at hl 0 rfl) ?_
  refine lv_iconst (v := 1) hx hb dX12_hill_14 (by decide) ?_
  refine lv_aload_n hx hb dX12_hill_15 rfl (lv_at hl 3 rfl) ?_
  refine va_get (ci := 12) (v := .ref a1) (C := RX12) (T := TX12) (N := 60) hx hb hts hw12 hown hK hP 0 rfl rfl 3 (by decide) (hts (.fieldLink RX12 13 "SmokeTuneModel" "row" "[I") (List.mem_cons_of_mem _ (List.mem_append_left _ (List.mem_of_getElem? (i := 1) rfl)))) (fun _ h9 => h9) rfl dX12_hill_16 ?_
  refine lv_iconst (v := 0) hx hb dX12_hill_19 (by decide) ?_
  refine va_iald hx hb hK hP 1 0 rfl rfl (i_in (x := 0) rfl (by omega)) dX12_hill_20 ?_
  refine lv_topi (fun x_1 ex_1 => ?_)
  obtain rfl : x_1 = 0 := ex_1.trans (by first | rfl | decide | exact rfl)
  refine lv_ishl hx hb dX12_hill_21 ?_
  refine lv_topi (fun x_2 ex_2 => ?_)
  obtain rfl : x_2 = 1 := ex_2.trans (by first | rfl | decide)
  refine lv_icmp_ge (tgt := 55) hx hb dX12_hill_22 (by decide) (fun c_3 => absurd c_3 (by decide)) (fun c_3 => ?_)
  refine lv_aload_n hx hb dX12_hill_25 rfl (lv_at hl 3 rfl) ?_
  refine lv_iload hx hb dX12_hill_26 (lv_at hl 0 rfl) ?_
  refine pci (va_runV (As := [.int 0]) (rest := []) ⟨hx, hb, hml, hown, hts⟩ (m_isAsHeard l D K a0 0 (.int 0) w1 w2 a1 w4 w5 w6 w7 w8 w9 w10 w11 w12 w13 w14 w15 w16 w17 w18 w19 w20 w21 w22 w23 w24 w25 w26 w27 w28 w29 w30 w31 w32 w33 w34 w35 w36 w37 w38 w39 w40 w41 w42 w43 w44 w45 w46 w47 w48 w49 w50 w51 w52 w53 w54 w55 w56 w57 w58 w59 H.size) (cwV 1 hts gX12_hill_X12_isAsHeard rfl rfl rfl (by decide +kernel) ⟨Nat.le_of_ble_eq_true rfl, Nat.le_of_ble_eq_true rfl⟩) (mkV hK hN (hP.sub [0, 1] rfl) (hD.sub [0, 1] (by decide) rfl) (ci := 12) (q0 := 0) rfl rfl) rfl rfl hl.1 rfl (lv_room (Nat.le_of_ble_eq_true rfl)) dX12_hill_28 ⟨Nat.le_of_ble_eq_true rfl, Nat.le_of_ble_eq_true rfl⟩) (fun r_4 hw => ?_)
  obtain rfl : r_4 = 1 := hw
  refine lv_if_eq (tgt := 49) hx hb dX12_hill_31 (by decide) (fun c_5 => absurd c_5 (by decide)) (fun c_5 => ?_)
  refine lv_iload_n hx hb dX12_hill_34 rfl (lv_at hl 2 rfl) ?_
  refine lv_iload_n hx hb dX12_hill_35 rfl (lv_at hl 4 rfl) ?_
  refine lv_icmp_ne (tgt := 44) hx hb dX12_hill_36 (by decide) (fun c_6 => ?_) (fun c_6 => ?_)
  · have c_6i := i_ne (x := 0) (y := x.toInt) rfl rfl c_6
    refine lv_iload_n hx hb dX12_hill_44 rfl (lv_at hl 1 rfl) ?_
    refine lv_istore_n (lv' := [(3, .int (-1)), (4, .int 0), (2, .int 0), (0, .ref a0), (1, .int x)]) hx hb dX12_hill_45 rfl hl (by decide) rfl (fun ls hl => ?_)
    refine lv_iinc (v := 1) (lv' := [(2, .int 1), (3, .int (-1)), (4, .int 0), (0, .ref a0), (1, .int x)]) hx hb dX12_hill_46 hl (k := 2) rfl (by decide) (by decide) rfl (fun ls hl => ?_)
    refine lv_iinc (v := 1) (lv' := [(4, .int 1), (2, .int 1), (3, .int (-1)), (0, .ref a0), (1, .int x)]) hx hb dX12_hill_49 hl (k := 2) rfl (by decide) (by decide) rfl (fun ls hl => ?_)
    refine lv_goto (tgt := 12) hx hb dX12_hill_52 (by decide) ?_
    refine lv_iload hx hb dX12_hill_12 (lv_at hl 0 rfl) ?_
    refine lv_iconst (v := 1) hx hb dX12_hill_14 (by decide) ?_
    refine lv_aload_n hx hb dX12_hill_15 rfl (lv_at hl 3 rfl) ?_
    refine va_get (ci := 12) (v := .ref a1) (C := RX12) (T := TX12) (N := 60) hx hb hts hw12 hown hK hP 0 rfl rfl 3 (by decide) (hts (.fieldLink RX12 13 "SmokeTuneModel" "row" "[I") (List.mem_cons_of_mem _ (List.mem_append_left _ (List.mem_of_getElem? (i := 1) rfl)))) (fun _ h9 => h9) rfl dX12_hill_16 ?_
    refine lv_iconst (v := 0) hx hb dX12_hill_19 (by decide) ?_
    refine va_iald hx hb hK hP 1 0 rfl rfl (i_in (x := 0) rfl (by omega)) dX12_hill_20 ?_
    refine lv_topi (fun x_7 ex_7 => ?_)
    obtain rfl : x_7 = 0 := ex_7.trans (by first | rfl | decide | exact rfl)
    refine lv_ishl hx hb dX12_hill_21 ?_
    refine lv_topi (fun x_8 ex_8 => ?_)
    obtain rfl : x_8 = 1 := ex_8.trans (by first | rfl | decide)
    refine lv_icmp_ge (tgt := 55) hx hb dX12_hill_22 (by decide) (fun c_9 => ?_) (fun c_9 => absurd (by decide) c_9)
    refine lv_iload_n hx hb dX12_hill_55 rfl (lv_at hl 4 rfl) ?_
    refine lv_iconst (v := (-1)) hx hb dX12_hill_56 (by decide) ?_
    refine lv_icmp_ne (tgt := 64) hx hb dX12_hill_57 (by decide) (fun c_10 => ?_) (fun c_10 => ?_)
    · have c_10i := i_ne (x := x.toInt) (y := (-1)) rfl rfl c_10
      refine lv_iload_n hx hb dX12_hill_64 rfl (lv_at hl 2 rfl) ?_
      exact W.iret (v := (-1)) hx hb hr (fun t ht hW => ⟨⟨(-1), (), rfl, (by first | exact Or.inr (Or.inr (⟨rfl, by first | omega | decide | (subst_vars; assumption) | (subst_vars; symm; assumption), by first | omega | decide | (subst_vars; assumption) | (subst_vars; symm; assumption)⟩))), Wd.nil⟩, hS.F ht⟩) hS.2.2 dX12_hill_65
    · have c_10i := i_eq (x := x.toInt) (y := (-1)) rfl rfl c_10
      refine lv_iload_n hx hb dX12_hill_60 rfl (lv_at hl 1 rfl) ?_
      refine lv_goto (tgt := 65) hx hb dX12_hill_61 (by decide) ?_
      exact W.iret (v := 1) hx hb hr (fun t ht hW => ⟨⟨1, (), rfl, (by first | exact Or.inl (⟨rfl, by first | omega | decide | (subst_vars; assumption) | (subst_vars; symm; assumption)⟩)), Wd.nil⟩, hS.F ht⟩) hS.2.2 dX12_hill_65
  · have c_6i := i_eq (x := 0) (y := x.toInt) rfl rfl c_6
    refine lv_iload hx hb dX12_hill_39 (lv_at hl 0 rfl) ?_
    refine lv_goto (tgt := 45) hx hb dX12_hill_41 (by decide) ?_
    refine lv_istore_n (lv' := [(3, .int 0), (4, .int 0), (2, .int 0), (0, .ref a0), (1, .int x)]) hx hb dX12_hill_45 rfl hl (by decide) rfl (fun ls hl => ?_)
    refine lv_iinc (v := 1) (lv' := [(2, .int 1), (3, .int 0), (4, .int 0), (0, .ref a0), (1, .int x)]) hx hb dX12_hill_46 hl (k := 2) rfl (by decide) (by decide) rfl (fun ls hl => ?_)
    refine lv_iinc (v := 1) (lv' := [(4, .int 1), (2, .int 1), (3, .int 0), (0, .ref a0), (1, .int x)]) hx hb dX12_hill_49 hl (k := 2) rfl (by decide) (by decide) rfl (fun ls hl => ?_)
    refine lv_goto (tgt := 12) hx hb dX12_hill_52 (by decide) ?_
    refine lv_iload hx hb dX12_hill_12 (lv_at hl 0 rfl) ?_
    refine lv_iconst (v := 1) hx hb dX12_hill_14 (by decide) ?_
    refine lv_aload_n hx hb dX12_hill_15 rfl (lv_at hl 3 rfl) ?_
    refine va_get (ci := 12) (v := .ref a1) (C := RX12) (T := TX12) (N := 60) hx hb hts hw12 hown hK hP 0 rfl rfl 3 (by decide) (hts (.fieldLink RX12 13 "SmokeTuneModel" "row" "[I") (List.mem_cons_of_mem _ (List.mem_append_left _ (List.mem_of_getElem? (i := 1) rfl)))) (fun _ h9 => h9) rfl dX12_hill_16 ?_
    refine lv_iconst (v := 0) hx hb dX12_hill_19 (by decide) ?_
    refine va_iald hx hb hK hP 1 0 rfl rfl (i_in (x := 0) rfl (by omega)) dX12_hill_20 ?_
    refine lv_topi (fun x_11 ex_11 => ?_)
    obtain rfl : x_11 = 0 := ex_11.trans (by first | rfl | decide | exact rfl)
    refine lv_ishl hx hb dX12_hill_21 ?_
    refine lv_topi (fun x_12 ex_12 => ?_)
    obtain rfl : x_12 = 1 := ex_12.trans (by first | rfl | decide)
    refine lv_icmp_ge (tgt := 55) hx hb dX12_hill_22 (by decide) (fun c_13 => ?_) (fun c_13 => absurd (by decide) c_13)
    refine lv_iload_n hx hb dX12_hill_55 rfl (lv_at hl 4 rfl) ?_
    refine lv_iconst (v := (-1)) hx hb dX12_hill_56 (by decide) ?_
    refine lv_icmp_ne (tgt := 64) hx hb dX12_hill_57 (by decide) (fun c_14 => ?_) (fun c_14 => ?_)
    · have c_14i := i_ne (x := x.toInt) (y := (-1)) rfl rfl c_14
      refine lv_iload_n hx hb dX12_hill_64 rfl (lv_at hl 2 rfl) ?_
      exact W.iret (v := 0) hx hb hr (fun t ht hW => ⟨⟨0, (), rfl, (by first | exact Or.inr (Or.inl (⟨rfl, by first | omega | decide | (subst_vars; assumption) | (subst_vars; symm; assumption)⟩))), Wd.nil⟩, hS.F ht⟩) hS.2.2 dX12_hill_65
    · have c_14i := i_eq (x := x.toInt) (y := (-1)) rfl rfl c_14
      exfalso; omega
set_option maxHeartbeats 4000000 in
set_option maxRecDepth 100000 in
theorem r_ask (l : Launch) (D : va_G) (K : Nat → ClassId) (a0 : Nat) (x : Int32) (w0 : Value) (w1 : Value) (w2 : Value) (a1 : Nat) (w4 : Value) (w5 : Value) (w6 : Value) (w7 : Value) (w8 : Value) (w9 : Value) (w10 : Value) (w11 : Value) (w12 : Value) (w13 : Value) (w14 : Value) (w15 : Value) (w16 : Value) (w17 : Value) (w18 : Value) (w19 : Value) (w20 : Value) (w21 : Value) (w22 : Value) (w23 : Value) (w24 : Value) (w25 : Value) (w26 : Value) (w27 : Value) (w28 : Value) (w29 : Value) (w30 : Value) (w31 : Value) (w32 : Value) (w33 : Value) (w34 : Value) (w35 : Value) (w36 : Value) (w37 : Value) (w38 : Value) (w39 : Value) (w40 : Value) (w41 : Value) (w42 : Value) (w43 : Value) (w44 : Value) (w45 : Value) (w46 : Value) (w47 : Value) (w48 : Value) (a5 : Nat) (w50 : Value) (w51 : Value) (w52 : Value) (w53 : Value) (w54 : Value) (w55 : Value) (w56 : Value) (w57 : Value) (w58 : Value) (w59 : Value) (sz : Nat) : Met l yX12_ask wsX12_ask ({ frames := 1, cells := 0, slots := 0, locals := 25 }) (va_Pc [.ref a0, .int x] (Pre D K [(a0, .inr (12, [w0, w1, w2, .ref a1, w4, w5, w6, w7, w8, w9, w10, w11, w12, w13, w14, w15, w16, w17, w18, w19, w20, w21, w22, w23, w24, w25, w26, w27, w28, w29, w30, w31, w32, w33, w34, w35, w36, w37, w38, w39, w40, w41, w42, w43, w44, w45, w46, w47, w48, .ref a5, w50, w51, w52, w53, w54, w55, w56, w57, w58, w59])), (a1, .inl (K 0, 5500, .inl row0)), (a5, .inl (K 0, 8, .inl (fun _ => 0)))] sz)) (va_Qi (S := Unit) (fun (r : Int32) (_ : Unit) => (r = (-1))) (fun u t => Wd D (va_A [(a0, .inr (12, [w0, w1, w2, .ref a1, w4, w5, w6, w7, w8, w9, w10, w11, w12, w13, w14, w15, w16, w17, w18, w19, w20, w21, w22, w23, w24, w25, w26, w27, w28, w29, w30, w31, w32, w33, w34, w35, w36, w37, w38, w39, w40, w41, w42, w43, w44, w45, w46, w47, w48, .ref a5, w50, w51, w52, w53, w54, w55, w56, w57, w58, w59])), (a1, .inl (K 0, 5500, .inl row0)), (a5, .inl (K 0, 8, .inl (fun _ => 0)))] sz) ((fun _ => []) u) t) (va_A [(a0, .inr (12, [w0, w1, w2, .ref a1, w4, w5, w6, w7, w8, w9, w10, w11, w12, w13, w14, w15, w16, w17, w18, w19, w20, w21, w22, w23, w24, w25, w26, w27, w28, w29, w30, w31, w32, w33, w34, w35, w36, w37, w38, w39, w40, w41, w42, w43, w44, w45, w46, w47, w48, .ref a5, w50, w51, w52, w53, w54, w55, w56, w57, w58, w59])), (a1, .inl (K 0, 5500, .inl row0)), (a5, .inl (K 0, 8, .inl (fun _ => 0)))] sz)) 0 0 (va_A [(a0, .inr (12, [w0, w1, w2, .ref a1, w4, w5, w6, w7, w8, w9, w10, w11, w12, w13, w14, w15, w16, w17, w18, w19, w20, w21, w22, w23, w24, w25, w26, w27, w28, w29, w30, w31, w32, w33, w34, w35, w36, w37, w38, w39, w40, w41, w42, w43, w44, w45, w46, w47, w48, .ref a5, w50, w51, w52, w53, w54, w55, w56, w57, w58, w59])), (a1, .inl (K 0, 5500, .inl row0)), (a5, .inl (K 0, 8, .inl (fun _ => 0)))] sz) := by
  refine Met.ofW (cc := cX12_ask) (maxL := 7) (ret := (some .int)) (by decide) rfl ?_
  intro p e s m args below meth c s₁ B hml hv
  obtain ⟨rfl, hsz, hP, hK, hD0, hN⟩ := hv
  have hx := B.exec
  have hb := B.bytes
  have hr := B.returns
  have hts := atoms_spec (ws := wsX12_ask) B.pre
  have hown : s.vm.findClass RX12 = some m.cls := findClass_of_methodNamed B.named
  have hlocks := B.notSynchronized
  subst hsz
  have hD := hD0.self (sz := s.heap.size)
  generalize hAe : va_A [(a0, .inr (12, [w0, w1, w2, .ref a1, w4, w5, w6, w7, w8, w9, w10, w11, w12, w13, w14, w15, w16, w17, w18, w19, w20, w21, w22, w23, w24, w25, w26, w27, w28, w29, w30, w31, w32, w33, w34, w35, w36, w37, w38, w39, w40, w41, w42, w43, w44, w45, w46, w47, w48, .ref a5, w50, w51, w52, w53, w54, w55, w56, w57, w58, w59])), (a1, .inl (K 0, 5500, .inl row0)), (a5, .inl (K 0, 8, .inl (fun _ => 0)))] s.heap.size = A at hD ⊢
  have hA : ∀ q : Nat, s.heap.size ≤ q → A q := fun q h => by rw [← hAe]; exact Or.inr h
  have hS : va_S A s.heap s.heap [] := va_S.rf
  have hP : va_P D vwCl [(a0, .inr (12, [w0, w1, w2, .ref a1, w4, w5, w6, w7, w8, w9, w10, w11, w12, w13, w14, w15, w16, w17, w18, w19, w20, w21, w22, w23, w24, w25, w26, w27, w28, w29, w30, w31, w32, w33, w34, w35, w36, w37, w38, w39, w40, w41, w42, w43, w44, w45, w46, w47, w48, .ref a5, w50, w51, w52, w53, w54, w55, w56, w57, w58, w59])), (a1, .inl (K 0, 5500, .inl row0)), (a5, .inl (K 0, 8, .inl (fun _ => 0)))] s.heap := hP
  have hl := lv_entry [.ref a0, .int x] (n := 7) (Nat.le_of_ble_eq_true rfl)
  rw [lg_entry_eq]
  generalize (lg_sl [.ref a0, .int x] ++ List.replicate (7 - (lg_sl [.ref a0, .int x]).length) Slot.unset).toArray = ls at hl ⊢
  have hl : lv_has ls 7 [(0, .ref a0), (1, .int x)] := hl
  have hw12 : ∀ w ∈ wsX120, w ∈ wsX12_ask := fun w h => (List.mem_cons_of_mem _ (List.mem_append_right _ h))
  refine lv_aload_n hx hb dX12_ask_0 rfl (lv_at hl 0 rfl) ?_
  refine lv_iconst (v := 0) hx hb dX12_ask_1 (by decide) ?_
  refine va_put (ci := 12) (v := .int 0) (ty := .int) (C := RX12) (T := TX12) (N := 60) hx hb hts hw12 tyX12 tyX12_ok nmX12 hown hK hP hD hS 0 rfl rfl 0 (by decide) (hts (.fieldLink RX12 158 "SmokeTuneModel" "thrown" "I") (List.mem_cons_of_mem _ (List.mem_append_left _ (List.mem_of_getElem? (i := 0) rfl)))) (fun _ h9 => h9) rfl (by decide +kernel) (by first | rfl | decide) (by first | rfl | decide) (Nat.le_of_ble_eq_true rfl) dX12_ask_2 (fun H locs hP hD hS => ?_)
  have hP : va_P D vwCl [(a0, .inr (12, [.int 0, w1, w2, .ref a1, w4, w5, w6, w7, w8, w9, w10, w11, w12, w13, w14, w15, w16, w17, w18, w19, w20, w21, w22, w23, w24, w25, w26, w27, w28, w29, w30, w31, w32, w33, w34, w35, w36, w37, w38, w39, w40, w41, w42, w43, w44, w45, w46, w47, w48, .ref a5, w50, w51, w52, w53, w54, w55, w56, w57, w58, w59])), (a1, .inl (K 0, 5500, .inl row0)), (a5, .inl (K 0, 8, .inl (fun _ => 0)))] H := hP
  have hD : va_D A [(a0, .inr (12, [.int 0, w1, w2, .ref a1, w4, w5, w6, w7, w8, w9, w10, w11, w12, w13, w14, w15, w16, w17, w18, w19, w20, w21, w22, w23, w24, w25, w26, w27, w28, w29, w30, w31, w32, w33, w34, w35, w36, w37, w38, w39, w40, w41, w42, w43, w44, w45, w46, w47, w48, .ref a5, w50, w51, w52, w53, w54, w55, w56, w57, w58, w59])), (a1, .inl (K 0, 5500, .inl row0)), (a5, .inl (K 0, 8, .inl (fun _ => 0)))] := hD
  refine lv_iload_n hx hb dX12_ask_5 rfl (lv_at hl 1 rfl) ?_
  refine lv_i2l hx hb dX12_ask_6 rfl ?_
  refine lv_topl (fun x_1 ex_1 => ?_)
  have hx_1 : x_1.toInt = x.toInt := by rw [ex_1]; exact i_wide rfl
  refine lv_lconst (v := 0) hx hb dX12_ask_7 (by decide) ?_
  refine lv_lconst (v := 1) hx hb dX12_ask_8 (by decide) ?_
  refine pci (va_runS (As := [.long x_1, .long 0, .long 1]) (rest := []) ⟨hx, hb, hml, hown, hts⟩ (c_in l D K x_1 0 1 x.toInt 0 1 H.size hx_1 rfl rfl) (va_cwS 3 hts gX12_ask_X12_in rfl rfl rfl (by decide +kernel) ⟨Nat.le_of_ble_eq_true rfl, Nat.le_of_ble_eq_true rfl⟩) (mkS hK hN (hP.sub [] rfl) (hD.sub [] (by decide) rfl)) rfl rfl hl.1 rfl (lv_room (Nat.le_of_ble_eq_true rfl)) dX12_ask_9 ⟨Nat.le_of_ble_eq_true rfl, Nat.le_of_ble_eq_true rfl⟩) (fun r_2 hw => ?_)
  rcases hw with ⟨rfl, h_3, h_4⟩ | ⟨rfl, h_5⟩
  · refine lv_if_ne (tgt := 17) hx hb dX12_ask_12 (by decide) (fun c_6 => ?_) (fun c_6 => absurd c_6 (by decide))
    refine lv_iconst (v := 0) hx hb dX12_ask_17 (by decide) ?_
    refine lv_istore_n (lv' := [(2, .int 0), (0, .ref a0), (1, .int x)]) hx hb dX12_ask_18 rfl hl (by decide) rfl (fun ls hl => ?_)
    refine lv_iconst (v := 0) hx hb dX12_ask_19 (by decide) ?_
    refine lv_istore_n (lv' := [(3, .int 0), (2, .int 0), (0, .ref a0), (1, .int x)]) hx hb dX12_ask_20 rfl hl (by decide) rfl (fun ls hl => ?_)
    refine lv_iload_n hx hb dX12_ask_21 rfl (lv_at hl 0 rfl) ?_
    refine lv_bipush (v := 8) hx hb dX12_ask_22 (by decide) ?_
    refine lv_icmp_ge (tgt := 40) hx hb dX12_ask_24 (by decide) (fun c_7 => absurd c_7 (by decide)) (fun c_7 => ?_)
    refine lv_aload_n hx hb dX12_ask_27 rfl (lv_at hl 2 rfl) ?_
    refine va_get (ci := 12) (v := .ref a5) (C := RX12) (T := TX12) (N := 60) hx hb hts hw12 hown hK hP 0 rfl rfl 49 (by decide) (hts (.fieldLink RX12 132 "SmokeTuneModel" "burning" "[I") (List.mem_cons_of_mem _ (List.mem_append_left _ (List.mem_of_getElem? (i := 1) rfl)))) (fun _ h9 => h9) rfl dX12_ask_28 ?_
    refine lv_iload_n hx hb dX12_ask_31 rfl (lv_at hl 0 rfl) ?_
    refine lv_iconst (v := 0) hx hb dX12_ask_32 (by decide) ?_
    refine va_iast hx hb hK hP hD hS 2 0 rfl rfl (i_in (x := 0) rfl (by omega)) dX12_ask_33 (fun H locs hP hD hS => ?_)
    generalize hf_8 : (upd (fun _ => 0) (0 : Int32).toNatClampNeg 0) = f_8 at hP hD
    have hP : va_P D vwCl [(a0, .inr (12, [.int 0, w1, w2, .ref a1, w4, w5, w6, w7, w8, w9, w10, w11, w12, w13, w14, w15, w16, w17, w18, w19, w20, w21, w22, w23, w24, w25, w26, w27, w28, w29, w30, w31, w32, w33, w34, w35, w36, w37, w38, w39, w40, w41, w42, w43, w44, w45, w46, w47, w48, .ref a5, w50, w51, w52, w53, w54, w55, w56, w57, w58, w59])), (a1, .inl (K 0, 5500, .inl row0)), (a5, .inl (K 0, 8, .inl f_8))] H := hP
    have hD : va_D A [(a0, .inr (12, [.int 0, w1, w2, .ref a1, w4, w5, w6, w7, w8, w9, w10, w11, w12, w13, w14, w15, w16, w17, w18, w19, w20, w21, w22, w23, w24, w25, w26, w27, w28, w29, w30, w31, w32, w33, w34, w35, w36, w37, w38, w39, w40, w41, w42, w43, w44, w45, w46, w47, w48, .ref a5, w50, w51, w52, w53, w54, w55, w56, w57, w58, w59])), (a1, .inl (K 0, 5500, .inl row0)), (a5, .inl (K 0, 8, .inl f_8))] := hD
    refine lv_iinc (v := 1) (lv' := [(3, .int 1), (2, .int 0), (0, .ref a0), (1, .int x)]) hx hb dX12_ask_34 hl (k := 0) rfl (by decide) (by decide) rfl (fun ls hl => ?_)
    refine lv_goto (tgt := 21) hx hb dX12_ask_37 (by decide) ?_
    refine lv_iload_n hx hb dX12_ask_21 rfl (lv_at hl 0 rfl) ?_
    refine lv_bipush (v := 8) hx hb dX12_ask_22 (by decide) ?_
    refine lv_icmp_ge (tgt := 40) hx hb dX12_ask_24 (by decide) (fun c_9 => absurd c_9 (by decide)) (fun c_9 => ?_)
    refine lv_aload_n hx hb dX12_ask_27 rfl (lv_at hl 2 rfl) ?_
    refine va_get (ci := 12) (v := .ref a5) (C := RX12) (T := TX12) (N := 60) hx hb hts hw12 hown hK hP 0 rfl rfl 49 (by decide) (hts (.fieldLink RX12 132 "SmokeTuneModel" "burning" "[I") (List.mem_cons_of_mem _ (List.mem_append_left _ (List.mem_of_getElem? (i := 1) rfl)))) (fun _ h9 => h9) rfl dX12_ask_28 ?_
    refine lv_iload_n hx hb dX12_ask_31 rfl (lv_at hl 0 rfl) ?_
    refine lv_iconst (v := 0) hx hb dX12_ask_32 (by decide) ?_
    refine va_iast hx hb hK hP hD hS 2 0 rfl rfl (i_in (x := 1) rfl (by omega)) dX12_ask_33 (fun H locs hP hD hS => ?_)
    generalize hf_10 : (upd f_8 (1 : Int32).toNatClampNeg 0) = f_10 at hP hD
    have hP : va_P D vwCl [(a0, .inr (12, [.int 0, w1, w2, .ref a1, w4, w5, w6, w7, w8, w9, w10, w11, w12, w13, w14, w15, w16, w17, w18, w19, w20, w21, w22, w23, w24, w25, w26, w27, w28, w29, w30, w31, w32, w33, w34, w35, w36, w37, w38, w39, w40, w41, w42, w43, w44, w45, w46, w47, w48, .ref a5, w50, w51, w52, w53, w54, w55, w56, w57, w58, w59])), (a1, .inl (K 0, 5500, .inl row0)), (a5, .inl (K 0, 8, .inl f_10))] H := hP
    have hD : va_D A [(a0, .inr (12, [.int 0, w1, w2, .ref a1, w4, w5, w6, w7, w8, w9, w10, w11, w12, w13, w14, w15, w16, w17, w18, w19, w20, w21, w22, w23, w24, w25, w26, w27, w28, w29, w30, w31, w32, w33, w34, w35, w36, w37, w38, w39, w40, w41, w42, w43, w44, w45, w46, w47, w48, .ref a5, w50, w51, w52, w53, w54, w55, w56, w57, w58, w59])), (a1, .inl (K 0, 5500, .inl row0)), (a5, .inl (K 0, 8, .inl f_10))] := hD
    refine lv_iinc (v := 2) (lv' := [(3, .int 2), (2, .int 0), (0, .ref a0), (1, .int x)]) hx hb dX12_ask_34 hl (k := 0) rfl (by decide) (by decide) rfl (fun ls hl => ?_)
    refine lv_goto (tgt := 21) hx hb dX12_ask_37 (by decide) ?_
    refine lv_iload_n hx hb dX12_ask_21 rfl (lv_at hl 0 rfl) ?_
    refine lv_bipush (v := 8) hx hb dX12_ask_22 (by decide) ?_
    refine lv_icmp_ge (tgt := 40) hx hb dX12_ask_24 (by decide) (fun c_11 => absurd c_11 (by decide)) (fun c_11 => ?_)
    refine lv_aload_n hx hb dX12_ask_27 rfl (lv_at hl 2 rfl) ?_
    refine va_get (ci := 12) (v := .ref a5) (C := RX12) (T := TX12) (N := 60) hx hb hts hw12 hown hK hP 0 rfl rfl 49 (by decide) (hts (.fieldLink RX12 132 "SmokeTuneModel" "burning" "[I") (List.mem_cons_of_mem _ (List.mem_append_left _ (List.mem_of_getElem? (i := 1) rfl)))) (fun _ h9 => h9) rfl dX12_ask_28 ?_
    refine lv_iload_n hx hb dX12_ask_31 rfl (lv_at hl 0 rfl) ?_
    refine lv_iconst (v := 0) hx hb dX12_ask_32 (by decide) ?_
    refine va_iast hx hb hK hP hD hS 2 0 rfl rfl (i_in (x := 2) rfl (by omega)) dX12_ask_33 (fun H locs hP hD hS => ?_)
    generalize hf_12 : (upd f_10 (2 : Int32).toNatClampNeg 0) = f_12 at hP hD
    have hP : va_P D vwCl [(a0, .inr (12, [.int 0, w1, w2, .ref a1, w4, w5, w6, w7, w8, w9, w10, w11, w12, w13, w14, w15, w16, w17, w18, w19, w20, w21, w22, w23, w24, w25, w26, w27, w28, w29, w30, w31, w32, w33, w34, w35, w36, w37, w38, w39, w40, w41, w42, w43, w44, w45, w46, w47, w48, .ref a5, w50, w51, w52, w53, w54, w55, w56, w57, w58, w59])), (a1, .inl (K 0, 5500, .inl row0)), (a5, .inl (K 0, 8, .inl f_12))] H := hP
    have hD : va_D A [(a0, .inr (12, [.int 0, w1, w2, .ref a1, w4, w5, w6, w7, w8, w9, w10, w11, w12, w13, w14, w15, w16, w17, w18, w19, w20, w21, w22, w23, w24, w25, w26, w27, w28, w29, w30, w31, w32, w33, w34, w35, w36, w37, w38, w39, w40, w41, w42, w43, w44, w45, w46, w47, w48, .ref a5, w50, w51, w52, w53, w54, w55, w56, w57, w58, w59])), (a1, .inl (K 0, 5500, .inl row0)), (a5, .inl (K 0, 8, .inl f_12))] := hD
    refine lv_iinc (v := 3) (lv' := [(3, .int 3), (2, .int 0), (0, .ref a0), (1, .int x)]) hx hb dX12_ask_34 hl (k := 0) rfl (by decide) (by decide) rfl (fun ls hl => ?_)
    refine lv_goto (tgt := 21) hx hb dX12_ask_37 (by decide) ?_
    refine lv_iload_n hx hb dX12_ask_21 rfl (lv_at hl 0 rfl) ?_
    refine lv_bipush (v := 8) hx hb dX12_ask_22 (by decide) ?_
    refine lv_icmp_ge (tgt := 40) hx hb dX12_ask_24 (by decide) (fun c_13 => absurd c_13 (by decide)) (fun c_13 => ?_)
    refine lv_aload_n hx hb dX12_ask_27 rfl (lv_at hl 2 rfl) ?_
    refine va_get (ci := 12) (v := .ref a5) (C := RX12) (T := TX12) (N := 60) hx hb hts hw12 hown hK hP 0 rfl rfl 49 (by decide) (hts (.fieldLink RX12 132 "SmokeTuneModel" "burning" "[I") (List.mem_cons_of_mem _ (List.mem_append_left _ (List.mem_of_getElem? (i := 1) rfl)))) (fun _ h9 => h9) rfl dX12_ask_28 ?_
    refine lv_iload_n hx hb dX12_ask_31 rfl (lv_at hl 0 rfl) ?_
    refine lv_iconst (v := 0) hx hb dX12_ask_32 (by decide) ?_
    refine va_iast hx hb hK hP hD hS 2 0 rfl rfl (i_in (x := 3) rfl (by omega)) dX12_ask_33 (fun H locs hP hD hS => ?_)
    generalize hf_14 : (upd f_12 (3 : Int32).toNatClampNeg 0) = f_14 at hP hD
    have hP : va_P D vwCl [(a0, .inr (12, [.int 0, w1, w2, .ref a1, w4, w5, w6, w7, w8, w9, w10, w11, w12, w13, w14, w15, w16, w17, w18, w19, w20, w21, w22, w23, w24, w25, w26, w27, w28, w29, w30, w31, w32, w33, w34, w35, w36, w37, w38, w39, w40, w41, w42, w43, w44, w45, w46, w47, w48, .ref a5, w50, w51, w52, w53, w54, w55, w56, w57, w58, w59])), (a1, .inl (K 0, 5500, .inl row0)), (a5, .inl (K 0, 8, .inl f_14))] H := hP
    have hD : va_D A [(a0, .inr (12, [.int 0, w1, w2, .ref a1, w4, w5, w6, w7, w8, w9, w10, w11, w12, w13, w14, w15, w16, w17, w18, w19, w20, w21, w22, w23, w24, w25, w26, w27, w28, w29, w30, w31, w32, w33, w34, w35, w36, w37, w38, w39, w40, w41, w42, w43, w44, w45, w46, w47, w48, .ref a5, w50, w51, w52, w53, w54, w55, w56, w57, w58, w59])), (a1, .inl (K 0, 5500, .inl row0)), (a5, .inl (K 0, 8, .inl f_14))] := hD
    refine lv_iinc (v := 4) (lv' := [(3, .int 4), (2, .int 0), (0, .ref a0), (1, .int x)]) hx hb dX12_ask_34 hl (k := 0) rfl (by decide) (by decide) rfl (fun ls hl => ?_)
    refine lv_goto (tgt := 21) hx hb dX12_ask_37 (by decide) ?_
    refine lv_iload_n hx hb dX12_ask_21 rfl (lv_at hl 0 rfl) ?_
    refine lv_bipush (v := 8) hx hb dX12_ask_22 (by decide) ?_
    refine lv_icmp_ge (tgt := 40) hx hb dX12_ask_24 (by decide) (fun c_15 => absurd c_15 (by decide)) (fun c_15 => ?_)
    refine lv_aload_n hx hb dX12_ask_27 rfl (lv_at hl 2 rfl) ?_
    refine va_get (ci := 12) (v := .ref a5) (C := RX12) (T := TX12) (N := 60) hx hb hts hw12 hown hK hP 0 rfl rfl 49 (by decide) (hts (.fieldLink RX12 132 "SmokeTuneModel" "burning" "[I") (List.mem_cons_of_mem _ (List.mem_append_left _ (List.mem_of_getElem? (i := 1) rfl)))) (fun _ h9 => h9) rfl dX12_ask_28 ?_
    refine lv_iload_n hx hb dX12_ask_31 rfl (lv_at hl 0 rfl) ?_
    refine lv_iconst (v := 0) hx hb dX12_ask_32 (by decide) ?_
    refine va_iast hx hb hK hP hD hS 2 0 rfl rfl (i_in (x := 4) rfl (by omega)) dX12_ask_33 (fun H locs hP hD hS => ?_)
    generalize hf_16 : (upd f_14 (4 : Int32).toNatClampNeg 0) = f_16 at hP hD
    have hP : va_P D vwCl [(a0, .inr (12, [.int 0, w1, w2, .ref a1, w4, w5, w6, w7, w8, w9, w10, w11, w12, w13, w14, w15, w16, w17, w18, w19, w20, w21, w22, w23, w24, w25, w26, w27, w28, w29, w30, w31, w32, w33, w34, w35, w36, w37, w38, w39, w40, w41, w42, w43, w44, w45, w46, w47, w48, .ref a5, w50, w51, w52, w53, w54, w55, w56, w57, w58, w59])), (a1, .inl (K 0, 5500, .inl row0)), (a5, .inl (K 0, 8, .inl f_16))] H := hP
    have hD : va_D A [(a0, .inr (12, [.int 0, w1, w2, .ref a1, w4, w5, w6, w7, w8, w9, w10, w11, w12, w13, w14, w15, w16, w17, w18, w19, w20, w21, w22, w23, w24, w25, w26, w27, w28, w29, w30, w31, w32, w33, w34, w35, w36, w37, w38, w39, w40, w41, w42, w43, w44, w45, w46, w47, w48, .ref a5, w50, w51, w52, w53, w54, w55, w56, w57, w58, w59])), (a1, .inl (K 0, 5500, .inl row0)), (a5, .inl (K 0, 8, .inl f_16))] := hD
    refine lv_iinc (v := 5) (lv' := [(3, .int 5), (2, .int 0), (0, .ref a0), (1, .int x)]) hx hb dX12_ask_34 hl (k := 0) rfl (by decide) (by decide) rfl (fun ls hl => ?_)
    refine lv_goto (tgt := 21) hx hb dX12_ask_37 (by decide) ?_
    refine lv_iload_n hx hb dX12_ask_21 rfl (lv_at hl 0 rfl) ?_
    refine lv_bipush (v := 8) hx hb dX12_ask_22 (by decide) ?_
    refine lv_icmp_ge (tgt := 40) hx hb dX12_ask_24 (by decide) (fun c_17 => absurd c_17 (by decide)) (fun c_17 => ?_)
    refine lv_aload_n hx hb dX12_ask_27 rfl (lv_at hl 2 rfl) ?_
    refine va_get (ci := 12) (v := .ref a5) (C := RX12) (T := TX12) (N := 60) hx hb hts hw12 hown hK hP 0 rfl rfl 49 (by decide) (hts (.fieldLink RX12 132 "SmokeTuneModel" "burning" "[I") (List.mem_cons_of_mem _ (List.mem_append_left _ (List.mem_of_getElem? (i := 1) rfl)))) (fun _ h9 => h9) rfl dX12_ask_28 ?_
    refine lv_iload_n hx hb dX12_ask_31 rfl (lv_at hl 0 rfl) ?_
    refine lv_iconst (v := 0) hx hb dX12_ask_32 (by decide) ?_
    refine va_iast hx hb hK hP hD hS 2 0 rfl rfl (i_in (x := 5) rfl (by omega)) dX12_ask_33 (fun H locs hP hD hS => ?_)
    generalize hf_18 : (upd f_16 (5 : Int32).toNatClampNeg 0) = f_18 at hP hD
    have hP : va_P D vwCl [(a0, .inr (12, [.int 0, w1, w2, .ref a1, w4, w5, w6, w7, w8, w9, w10, w11, w12, w13, w14, w15, w16, w17, w18, w19, w20, w21, w22, w23, w24, w25, w26, w27, w28, w29, w30, w31, w32, w33, w34, w35, w36, w37, w38, w39, w40, w41, w42, w43, w44, w45, w46, w47, w48, .ref a5, w50, w51, w52, w53, w54, w55, w56, w57, w58, w59])), (a1, .inl (K 0, 5500, .inl row0)), (a5, .inl (K 0, 8, .inl f_18))] H := hP
    have hD : va_D A [(a0, .inr (12, [.int 0, w1, w2, .ref a1, w4, w5, w6, w7, w8, w9, w10, w11, w12, w13, w14, w15, w16, w17, w18, w19, w20, w21, w22, w23, w24, w25, w26, w27, w28, w29, w30, w31, w32, w33, w34, w35, w36, w37, w38, w39, w40, w41, w42, w43, w44, w45, w46, w47, w48, .ref a5, w50, w51, w52, w53, w54, w55, w56, w57, w58, w59])), (a1, .inl (K 0, 5500, .inl row0)), (a5, .inl (K 0, 8, .inl f_18))] := hD
    refine lv_iinc (v := 6) (lv' := [(3, .int 6), (2, .int 0), (0, .ref a0), (1, .int x)]) hx hb dX12_ask_34 hl (k := 0) rfl (by decide) (by decide) rfl (fun ls hl => ?_)
    refine lv_goto (tgt := 21) hx hb dX12_ask_37 (by decide) ?_
    refine lv_iload_n hx hb dX12_ask_21 rfl (lv_at hl 0 rfl) ?_
    refine lv_bipush (v := 8) hx hb dX12_ask_22 (by decide) ?_
    refine lv_icmp_ge (tgt := 40) hx hb dX12_ask_24 (by decide) (fun c_19 => absurd c_19 (by decide)) (fun c_19 => ?_)
    refine lv_aload_n hx hb dX12_ask_27 rfl (lv_at hl 2 rfl) ?_
    refine va_get (ci := 12) (v := .ref a5) (C := RX12) (T := TX12) (N := 60) hx hb hts hw12 hown hK hP 0 rfl rfl 49 (by decide) (hts (.fieldLink RX12 132 "SmokeTuneModel" "burning" "[I") (List.mem_cons_of_mem _ (List.mem_append_left _ (List.mem_of_getElem? (i := 1) rfl)))) (fun _ h9 => h9) rfl dX12_ask_28 ?_
    refine lv_iload_n hx hb dX12_ask_31 rfl (lv_at hl 0 rfl) ?_
    refine lv_iconst (v := 0) hx hb dX12_ask_32 (by decide) ?_
    refine va_iast hx hb hK hP hD hS 2 0 rfl rfl (i_in (x := 6) rfl (by omega)) dX12_ask_33 (fun H locs hP hD hS => ?_)
    generalize hf_20 : (upd f_18 (6 : Int32).toNatClampNeg 0) = f_20 at hP hD
    have hP : va_P D vwCl [(a0, .inr (12, [.int 0, w1, w2, .ref a1, w4, w5, w6, w7, w8, w9, w10, w11, w12, w13, w14, w15, w16, w17, w18, w19, w20, w21, w22, w23, w24, w25, w26, w27, w28, w29, w30, w31, w32, w33, w34, w35, w36, w37, w38, w39, w40, w41, w42, w43, w44, w45, w46, w47, w48, .ref a5, w50, w51, w52, w53, w54, w55, w56, w57, w58, w59])), (a1, .inl (K 0, 5500, .inl row0)), (a5, .inl (K 0, 8, .inl f_20))] H := hP
    have hD : va_D A [(a0, .inr (12, [.int 0, w1, w2, .ref a1, w4, w5, w6, w7, w8, w9, w10, w11, w12, w13, w14, w15, w16, w17, w18, w19, w20, w21, w22, w23, w24, w25, w26, w27, w28, w29, w30, w31, w32, w33, w34, w35, w36, w37, w38, w39, w40, w41, w42, w43, w44, w45, w46, w47, w48, .ref a5, w50, w51, w52, w53, w54, w55, w56, w57, w58, w59])), (a1, .inl (K 0, 5500, .inl row0)), (a5, .inl (K 0, 8, .inl f_20))] := hD
    refine lv_iinc (v := 7) (lv' := [(3, .int 7), (2, .int 0), (0, .ref a0), (1, .int x)]) hx hb dX12_ask_34 hl (k := 0) rfl (by decide) (by decide) rfl (fun ls hl => ?_)
    refine lv_goto (tgt := 21) hx hb dX12_ask_37 (by decide) ?_
    refine lv_iload_n hx hb dX12_ask_21 rfl (lv_at hl 0 rfl) ?_
    refine lv_bipush (v := 8) hx hb dX12_ask_22 (by decide) ?_
    refine lv_icmp_ge (tgt := 40) hx hb dX12_ask_24 (by decide) (fun c_21 => absurd c_21 (by decide)) (fun c_21 => ?_)
    refine lv_aload_n hx hb dX12_ask_27 rfl (lv_at hl 2 rfl) ?_
    refine va_get (ci := 12) (v := .ref a5) (C := RX12) (T := TX12) (N := 60) hx hb hts hw12 hown hK hP 0 rfl rfl 49 (by decide) (hts (.fieldLink RX12 132 "SmokeTuneModel" "burning" "[I") (List.mem_cons_of_mem _ (List.mem_append_left _ (List.mem_of_getElem? (i := 1) rfl)))) (fun _ h9 => h9) rfl dX12_ask_28 ?_
    refine lv_iload_n hx hb dX12_ask_31 rfl (lv_at hl 0 rfl) ?_
    refine lv_iconst (v := 0) hx hb dX12_ask_32 (by decide) ?_
    refine va_iast hx hb hK hP hD hS 2 0 rfl rfl (i_in (x := 7) rfl (by omega)) dX12_ask_33 (fun H locs hP hD hS => ?_)
    generalize hf_22 : (upd f_20 (7 : Int32).toNatClampNeg 0) = f_22 at hP hD
    have hP : va_P D vwCl [(a0, .inr (12, [.int 0, w1, w2, .ref a1, w4, w5, w6, w7, w8, w9, w10, w11, w12, w13, w14, w15, w16, w17, w18, w19, w20, w21, w22, w23, w24, w25, w26, w27, w28, w29, w30, w31, w32, w33, w34, w35, w36, w37, w38, w39, w40, w41, w42, w43, w44, w45, w46, w47, w48, .ref a5, w50, w51, w52, w53, w54, w55, w56, w57, w58, w59])), (a1, .inl (K 0, 5500, .inl row0)), (a5, .inl (K 0, 8, .inl f_22))] H := hP
    have hD : va_D A [(a0, .inr (12, [.int 0, w1, w2, .ref a1, w4, w5, w6, w7, w8, w9, w10, w11, w12, w13, w14, w15, w16, w17, w18, w19, w20, w21, w22, w23, w24, w25, w26, w27, w28, w29, w30, w31, w32, w33, w34, w35, w36, w37, w38, w39, w40, w41, w42, w43, w44, w45, w46, w47, w48, .ref a5, w50, w51, w52, w53, w54, w55, w56, w57, w58, w59])), (a1, .inl (K 0, 5500, .inl row0)), (a5, .inl (K 0, 8, .inl f_22))] := hD
    refine lv_iinc (v := 8) (lv' := [(3, .int 8), (2, .int 0), (0, .ref a0), (1, .int x)]) hx hb dX12_ask_34 hl (k := 0) rfl (by decide) (by decide) rfl (fun ls hl => ?_)
    refine lv_goto (tgt := 21) hx hb dX12_ask_37 (by decide) ?_
    refine lv_iload_n hx hb dX12_ask_21 rfl (lv_at hl 0 rfl) ?_
    refine lv_bipush (v := 8) hx hb dX12_ask_22 (by decide) ?_
    refine lv_icmp_ge (tgt := 40) hx hb dX12_ask_24 (by decide) (fun c_23 => ?_) (fun c_23 => absurd (by decide) c_23)
    refine lv_iconst (v := 0) hx hb dX12_ask_40 (by decide) ?_
    refine lv_istore_n (lv' := [(3, .int 0), (2, .int 0), (0, .ref a0), (1, .int x)]) hx hb dX12_ask_41 rfl hl (by decide) rfl (fun ls hl => ?_)
    refine lv_iload_n hx hb dX12_ask_42 rfl (lv_at hl 0 rfl) ?_
    refine lv_iconst (v := 1) hx hb dX12_ask_43 (by decide) ?_
    refine lv_aload_n hx hb dX12_ask_44 rfl (lv_at hl 2 rfl) ?_
    refine va_get (ci := 12) (v := .ref a1) (C := RX12) (T := TX12) (N := 60) hx hb hts hw12 hown hK hP 0 rfl rfl 3 (by decide) (hts (.fieldLink RX12 13 "SmokeTuneModel" "row" "[I") (List.mem_cons_of_mem _ (List.mem_append_left _ (List.mem_of_getElem? (i := 2) rfl)))) (fun _ h9 => h9) rfl dX12_ask_45 ?_
    refine lv_iconst (v := 0) hx hb dX12_ask_48 (by decide) ?_
    refine va_iald hx hb hK hP 1 0 rfl rfl (i_in (x := 0) rfl (by omega)) dX12_ask_49 ?_
    refine lv_topi (fun x_24 ex_24 => ?_)
    obtain rfl : x_24 = 0 := ex_24.trans (by first | rfl | decide | exact rfl)
    refine lv_ishl hx hb dX12_ask_50 ?_
    refine lv_topi (fun x_25 ex_25 => ?_)
    obtain rfl : x_25 = 1 := ex_25.trans (by first | rfl | decide)
    refine lv_icmp_ge (tgt := 103) hx hb dX12_ask_51 (by decide) (fun c_26 => absurd c_26 (by decide)) (fun c_26 => ?_)
    refine lv_aload_n hx hb dX12_ask_54 rfl (lv_at hl 2 rfl) ?_
    refine lv_iload_n hx hb dX12_ask_55 rfl (lv_at hl 0 rfl) ?_
    refine pci (va_runV (As := [.int 0]) (rest := []) ⟨hx, hb, hml, hown, hts⟩ (m_isAsHeard l D K a0 0 (.int 0) w1 w2 a1 w4 w5 w6 w7 w8 w9 w10 w11 w12 w13 w14 w15 w16 w17 w18 w19 w20 w21 w22 w23 w24 w25 w26 w27 w28 w29 w30 w31 w32 w33 w34 w35 w36 w37 w38 w39 w40 w41 w42 w43 w44 w45 w46 w47 w48 (.ref a5) w50 w51 w52 w53 w54 w55 w56 w57 w58 w59 H.size) (cwV 1 hts gX12_ask_X12_isAsHeard rfl rfl rfl (by decide +kernel) ⟨Nat.le_of_ble_eq_true rfl, Nat.le_of_ble_eq_true rfl⟩) (mkV hK hN (hP.sub [0, 1] rfl) (hD.sub [0, 1] (by decide) rfl) (ci := 12) (q0 := 0) rfl rfl) rfl rfl hl.1 rfl (lv_room (Nat.le_of_ble_eq_true rfl)) dX12_ask_56 ⟨Nat.le_of_ble_eq_true rfl, Nat.le_of_ble_eq_true rfl⟩) (fun r_27 hw => ?_)
    obtain rfl : r_27 = 1 := hw
    refine lv_if_eq (tgt := 97) hx hb dX12_ask_59 (by decide) (fun c_28 => absurd c_28 (by decide)) (fun c_28 => ?_)
    refine lv_iinc (v := 1) (lv' := [(2, .int 1), (3, .int 0), (0, .ref a0), (1, .int x)]) hx hb dX12_ask_62 hl (k := 1) rfl (by decide) (by decide) rfl (fun ls hl => ?_)
    refine lv_iconst (v := 0) hx hb dX12_ask_65 (by decide) ?_
    refine lv_istore (lv' := [(4, .int 0), (2, .int 1), (3, .int 0), (0, .ref a0), (1, .int x)]) hx hb dX12_ask_66 hl (by decide) rfl (fun ls hl => ?_)
    refine lv_iload hx hb dX12_ask_68 (lv_at hl 0 rfl) ?_
    refine lv_bipush (v := 8) hx hb dX12_ask_70 (by decide) ?_
    refine lv_icmp_ge (tgt := 97) hx hb dX12_ask_72 (by decide) (fun c_29 => absurd c_29 (by decide)) (fun c_29 => ?_)
    refine lv_aload_n hx hb dX12_ask_75 rfl (lv_at hl 3 rfl) ?_
    refine va_get (ci := 12) (v := .ref a5) (C := RX12) (T := TX12) (N := 60) hx hb hts hw12 hown hK hP 0 rfl rfl 49 (by decide) (hts (.fieldLink RX12 132 "SmokeTuneModel" "burning" "[I") (List.mem_cons_of_mem _ (List.mem_append_left _ (List.mem_of_getElem? (i := 1) rfl)))) (fun _ h9 => h9) rfl dX12_ask_76 ?_
    refine lv_iload hx hb dX12_ask_79 (lv_at hl 0 rfl) ?_
    refine lv_dup2_11 hx hb dX12_ask_81 rfl rfl ?_
    refine va_iald hx hb hK hP 2 0 rfl rfl (i_in (x := 0) rfl (by omega)) dX12_ask_82 ?_
    refine lv_topi (fun x_30 ex_30 => ?_)
    refine lv_iload_n hx hb dX12_ask_83 rfl (lv_at hl 2 rfl) ?_
    refine lv_iload hx hb dX12_ask_84 (lv_at hl 0 rfl) ?_
    refine lv_ishr hx hb dX12_ask_86 ?_
    refine lv_topi (fun x_31 ex_31 => ?_)
    obtain rfl : x_31 = 0 := ex_31.trans (by first | rfl | decide)
    refine lv_iconst (v := 1) hx hb dX12_ask_87 (by decide) ?_
    refine lv_iand hx hb dX12_ask_88 ?_
    refine lv_topi (fun x_32 ex_32 => ?_)
    obtain rfl : x_32 = 0 := ex_32.trans (by first | rfl | decide)
    refine lv_iadd hx hb dX12_ask_89 ?_
    refine lv_topi (fun x_33 ex_33 => ?_)
    refine va_iast hx hb hK hP hD hS 2 0 rfl rfl (i_in (x := 0) rfl (by omega)) dX12_ask_90 (fun H locs hP hD hS => ?_)
    generalize hf_34 : (upd f_22 (0 : Int32).toNatClampNeg x_33) = f_34 at hP hD
    have hP : va_P D vwCl [(a0, .inr (12, [.int 0, w1, w2, .ref a1, w4, w5, w6, w7, w8, w9, w10, w11, w12, w13, w14, w15, w16, w17, w18, w19, w20, w21, w22, w23, w24, w25, w26, w27, w28, w29, w30, w31, w32, w33, w34, w35, w36, w37, w38, w39, w40, w41, w42, w43, w44, w45, w46, w47, w48, .ref a5, w50, w51, w52, w53, w54, w55, w56, w57, w58, w59])), (a1, .inl (K 0, 5500, .inl row0)), (a5, .inl (K 0, 8, .inl f_34))] H := hP
    have hD : va_D A [(a0, .inr (12, [.int 0, w1, w2, .ref a1, w4, w5, w6, w7, w8, w9, w10, w11, w12, w13, w14, w15, w16, w17, w18, w19, w20, w21, w22, w23, w24, w25, w26, w27, w28, w29, w30, w31, w32, w33, w34, w35, w36, w37, w38, w39, w40, w41, w42, w43, w44, w45, w46, w47, w48, .ref a5, w50, w51, w52, w53, w54, w55, w56, w57, w58, w59])), (a1, .inl (K 0, 5500, .inl row0)), (a5, .inl (K 0, 8, .inl f_34))] := hD
    refine lv_iinc (v := 1) (lv' := [(4, .int 1), (2, .int 1), (3, .int 0), (0, .ref a0), (1, .int x)]) hx hb dX12_ask_91 hl (k := 0) rfl (by decide) (by decide) rfl (fun ls hl => ?_)
    refine lv_goto (tgt := 68) hx hb dX12_ask_94 (by decide) ?_
    refine lv_iload hx hb dX12_ask_68 (lv_at hl 0 rfl) ?_
    refine lv_bipush (v := 8) hx hb dX12_ask_70 (by decide) ?_
    refine lv_icmp_ge (tgt := 97) hx hb dX12_ask_72 (by decide) (fun c_35 => absurd c_35 (by decide)) (fun c_35 => ?_)
    refine lv_aload_n hx hb dX12_ask_75 rfl (lv_at hl 3 rfl) ?_
    refine va_get (ci := 12) (v := .ref a5) (C := RX12) (T := TX12) (N := 60) hx hb hts hw12 hown hK hP 0 rfl rfl 49 (by decide) (hts (.fieldLink RX12 132 "SmokeTuneModel" "burning" "[I") (List.mem_cons_of_mem _ (List.mem_append_left _ (List.mem_of_getElem? (i := 1) rfl)))) (fun _ h9 => h9) rfl dX12_ask_76 ?_
    refine lv_iload hx hb dX12_ask_79 (lv_at hl 0 rfl) ?_
    refine lv_dup2_11 hx hb dX12_ask_81 rfl rfl ?_
    refine va_iald hx hb hK hP 2 0 rfl rfl (i_in (x := 1) rfl (by omega)) dX12_ask_82 ?_
    refine lv_topi (fun x_36 ex_36 => ?_)
    refine lv_iload_n hx hb dX12_ask_83 rfl (lv_at hl 2 rfl) ?_
    refine lv_iload hx hb dX12_ask_84 (lv_at hl 0 rfl) ?_
    refine lv_ishr hx hb dX12_ask_86 ?_
    refine lv_topi (fun x_37 ex_37 => ?_)
    obtain rfl : x_37 = 0 := ex_37.trans (by first | rfl | decide)
    refine lv_iconst (v := 1) hx hb dX12_ask_87 (by decide) ?_
    refine lv_iand hx hb dX12_ask_88 ?_
    refine lv_topi (fun x_38 ex_38 => ?_)
    obtain rfl : x_38 = 0 := ex_38.trans (by first | rfl | decide)
    refine lv_iadd hx hb dX12_ask_89 ?_
    refine lv_topi (fun x_39 ex_39 => ?_)
    refine va_iast hx hb hK hP hD hS 2 0 rfl rfl (i_in (x := 1) rfl (by omega)) dX12_ask_90 (fun H locs hP hD hS => ?_)
    generalize hf_40 : (upd f_34 (1 : Int32).toNatClampNeg x_39) = f_40 at hP hD
    have hP : va_P D vwCl [(a0, .inr (12, [.int 0, w1, w2, .ref a1, w4, w5, w6, w7, w8, w9, w10, w11, w12, w13, w14, w15, w16, w17, w18, w19, w20, w21, w22, w23, w24, w25, w26, w27, w28, w29, w30, w31, w32, w33, w34, w35, w36, w37, w38, w39, w40, w41, w42, w43, w44, w45, w46, w47, w48, .ref a5, w50, w51, w52, w53, w54, w55, w56, w57, w58, w59])), (a1, .inl (K 0, 5500, .inl row0)), (a5, .inl (K 0, 8, .inl f_40))] H := hP
    have hD : va_D A [(a0, .inr (12, [.int 0, w1, w2, .ref a1, w4, w5, w6, w7, w8, w9, w10, w11, w12, w13, w14, w15, w16, w17, w18, w19, w20, w21, w22, w23, w24, w25, w26, w27, w28, w29, w30, w31, w32, w33, w34, w35, w36, w37, w38, w39, w40, w41, w42, w43, w44, w45, w46, w47, w48, .ref a5, w50, w51, w52, w53, w54, w55, w56, w57, w58, w59])), (a1, .inl (K 0, 5500, .inl row0)), (a5, .inl (K 0, 8, .inl f_40))] := hD
    refine lv_iinc (v := 2) (lv' := [(4, .int 2), (2, .int 1), (3, .int 0), (0, .ref a0), (1, .int x)]) hx hb dX12_ask_91 hl (k := 0) rfl (by decide) (by decide) rfl (fun ls hl => ?_)
    refine lv_goto (tgt := 68) hx hb dX12_ask_94 (by decide) ?_
    refine lv_iload hx hb dX12_ask_68 (lv_at hl 0 rfl) ?_
    refine lv_bipush (v := 8) hx hb dX12_ask_70 (by decide) ?_
    refine lv_icmp_ge (tgt := 97) hx hb dX12_ask_72 (by decide) (fun c_41 => absurd c_41 (by decide)) (fun c_41 => ?_)
    refine lv_aload_n hx hb dX12_ask_75 rfl (lv_at hl 3 rfl) ?_
    refine va_get (ci := 12) (v := .ref a5) (C := RX12) (T := TX12) (N := 60) hx hb hts hw12 hown hK hP 0 rfl rfl 49 (by decide) (hts (.fieldLink RX12 132 "SmokeTuneModel" "burning" "[I") (List.mem_cons_of_mem _ (List.mem_append_left _ (List.mem_of_getElem? (i := 1) rfl)))) (fun _ h9 => h9) rfl dX12_ask_76 ?_
    refine lv_iload hx hb dX12_ask_79 (lv_at hl 0 rfl) ?_
    refine lv_dup2_11 hx hb dX12_ask_81 rfl rfl ?_
    refine va_iald hx hb hK hP 2 0 rfl rfl (i_in (x := 2) rfl (by omega)) dX12_ask_82 ?_
    refine lv_topi (fun x_42 ex_42 => ?_)
    refine lv_iload_n hx hb dX12_ask_83 rfl (lv_at hl 2 rfl) ?_
    refine lv_iload hx hb dX12_ask_84 (lv_at hl 0 rfl) ?_
    refine lv_ishr hx hb dX12_ask_86 ?_
    refine lv_topi (fun x_43 ex_43 => ?_)
    obtain rfl : x_43 = 0 := ex_43.trans (by first | rfl | decide)
    refine lv_iconst (v := 1) hx hb dX12_ask_87 (by decide) ?_
    refine lv_iand hx hb dX12_ask_88 ?_
    refine lv_topi (fun x_44 ex_44 => ?_)
    obtain rfl : x_44 = 0 := ex_44.trans (by first | rfl | decide)
    refine lv_iadd hx hb dX12_ask_89 ?_
    refine lv_topi (fun x_45 ex_45 => ?_)
    refine va_iast hx hb hK hP hD hS 2 0 rfl rfl (i_in (x := 2) rfl (by omega)) dX12_ask_90 (fun H locs hP hD hS => ?_)
    generalize hf_46 : (upd f_40 (2 : Int32).toNatClampNeg x_45) = f_46 at hP hD
    have hP : va_P D vwCl [(a0, .inr (12, [.int 0, w1, w2, .ref a1, w4, w5, w6, w7, w8, w9, w10, w11, w12, w13, w14, w15, w16, w17, w18, w19, w20, w21, w22, w23, w24, w25, w26, w27, w28, w29, w30, w31, w32, w33, w34, w35, w36, w37, w38, w39, w40, w41, w42, w43, w44, w45, w46, w47, w48, .ref a5, w50, w51, w52, w53, w54, w55, w56, w57, w58, w59])), (a1, .inl (K 0, 5500, .inl row0)), (a5, .inl (K 0, 8, .inl f_46))] H := hP
    have hD : va_D A [(a0, .inr (12, [.int 0, w1, w2, .ref a1, w4, w5, w6, w7, w8, w9, w10, w11, w12, w13, w14, w15, w16, w17, w18, w19, w20, w21, w22, w23, w24, w25, w26, w27, w28, w29, w30, w31, w32, w33, w34, w35, w36, w37, w38, w39, w40, w41, w42, w43, w44, w45, w46, w47, w48, .ref a5, w50, w51, w52, w53, w54, w55, w56, w57, w58, w59])), (a1, .inl (K 0, 5500, .inl row0)), (a5, .inl (K 0, 8, .inl f_46))] := hD
    refine lv_iinc (v := 3) (lv' := [(4, .int 3), (2, .int 1), (3, .int 0), (0, .ref a0), (1, .int x)]) hx hb dX12_ask_91 hl (k := 0) rfl (by decide) (by decide) rfl (fun ls hl => ?_)
    refine lv_goto (tgt := 68) hx hb dX12_ask_94 (by decide) ?_
    refine lv_iload hx hb dX12_ask_68 (lv_at hl 0 rfl) ?_
    refine lv_bipush (v := 8) hx hb dX12_ask_70 (by decide) ?_
    refine lv_icmp_ge (tgt := 97) hx hb dX12_ask_72 (by decide) (fun c_47 => absurd c_47 (by decide)) (fun c_47 => ?_)
    refine lv_aload_n hx hb dX12_ask_75 rfl (lv_at hl 3 rfl) ?_
    refine va_get (ci := 12) (v := .ref a5) (C := RX12) (T := TX12) (N := 60) hx hb hts hw12 hown hK hP 0 rfl rfl 49 (by decide) (hts (.fieldLink RX12 132 "SmokeTuneModel" "burning" "[I") (List.mem_cons_of_mem _ (List.mem_append_left _ (List.mem_of_getElem? (i := 1) rfl)))) (fun _ h9 => h9) rfl dX12_ask_76 ?_
    refine lv_iload hx hb dX12_ask_79 (lv_at hl 0 rfl) ?_
    refine lv_dup2_11 hx hb dX12_ask_81 rfl rfl ?_
    refine va_iald hx hb hK hP 2 0 rfl rfl (i_in (x := 3) rfl (by omega)) dX12_ask_82 ?_
    refine lv_topi (fun x_48 ex_48 => ?_)
    refine lv_iload_n hx hb dX12_ask_83 rfl (lv_at hl 2 rfl) ?_
    refine lv_iload hx hb dX12_ask_84 (lv_at hl 0 rfl) ?_
    refine lv_ishr hx hb dX12_ask_86 ?_
    refine lv_topi (fun x_49 ex_49 => ?_)
    obtain rfl : x_49 = 0 := ex_49.trans (by first | rfl | decide)
    refine lv_iconst (v := 1) hx hb dX12_ask_87 (by decide) ?_
    refine lv_iand hx hb dX12_ask_88 ?_
    refine lv_topi (fun x_50 ex_50 => ?_)
    obtain rfl : x_50 = 0 := ex_50.trans (by first | rfl | decide)
    refine lv_iadd hx hb dX12_ask_89 ?_
    refine lv_topi (fun x_51 ex_51 => ?_)
    refine va_iast hx hb hK hP hD hS 2 0 rfl rfl (i_in (x := 3) rfl (by omega)) dX12_ask_90 (fun H locs hP hD hS => ?_)
    generalize hf_52 : (upd f_46 (3 : Int32).toNatClampNeg x_51) = f_52 at hP hD
    have hP : va_P D vwCl [(a0, .inr (12, [.int 0, w1, w2, .ref a1, w4, w5, w6, w7, w8, w9, w10, w11, w12, w13, w14, w15, w16, w17, w18, w19, w20, w21, w22, w23, w24, w25, w26, w27, w28, w29, w30, w31, w32, w33, w34, w35, w36, w37, w38, w39, w40, w41, w42, w43, w44, w45, w46, w47, w48, .ref a5, w50, w51, w52, w53, w54, w55, w56, w57, w58, w59])), (a1, .inl (K 0, 5500, .inl row0)), (a5, .inl (K 0, 8, .inl f_52))] H := hP
    have hD : va_D A [(a0, .inr (12, [.int 0, w1, w2, .ref a1, w4, w5, w6, w7, w8, w9, w10, w11, w12, w13, w14, w15, w16, w17, w18, w19, w20, w21, w22, w23, w24, w25, w26, w27, w28, w29, w30, w31, w32, w33, w34, w35, w36, w37, w38, w39, w40, w41, w42, w43, w44, w45, w46, w47, w48, .ref a5, w50, w51, w52, w53, w54, w55, w56, w57, w58, w59])), (a1, .inl (K 0, 5500, .inl row0)), (a5, .inl (K 0, 8, .inl f_52))] := hD
    refine lv_iinc (v := 4) (lv' := [(4, .int 4), (2, .int 1), (3, .int 0), (0, .ref a0), (1, .int x)]) hx hb dX12_ask_91 hl (k := 0) rfl (by decide) (by decide) rfl (fun ls hl => ?_)
    refine lv_goto (tgt := 68) hx hb dX12_ask_94 (by decide) ?_
    refine lv_iload hx hb dX12_ask_68 (lv_at hl 0 rfl) ?_
    refine lv_bipush (v := 8) hx hb dX12_ask_70 (by decide) ?_
    refine lv_icmp_ge (tgt := 97) hx hb dX12_ask_72 (by decide) (fun c_53 => absurd c_53 (by decide)) (fun c_53 => ?_)
    refine lv_aload_n hx hb dX12_ask_75 rfl (lv_at hl 3 rfl) ?_
    refine va_get (ci := 12) (v := .ref a5) (C := RX12) (T := TX12) (N := 60) hx hb hts hw12 hown hK hP 0 rfl rfl 49 (by decide) (hts (.fieldLink RX12 132 "SmokeTuneModel" "burning" "[I") (List.mem_cons_of_mem _ (List.mem_append_left _ (List.mem_of_getElem? (i := 1) rfl)))) (fun _ h9 => h9) rfl dX12_ask_76 ?_
    refine lv_iload hx hb dX12_ask_79 (lv_at hl 0 rfl) ?_
    refine lv_dup2_11 hx hb dX12_ask_81 rfl rfl ?_
    refine va_iald hx hb hK hP 2 0 rfl rfl (i_in (x := 4) rfl (by omega)) dX12_ask_82 ?_
    refine lv_topi (fun x_54 ex_54 => ?_)
    refine lv_iload_n hx hb dX12_ask_83 rfl (lv_at hl 2 rfl) ?_
    refine lv_iload hx hb dX12_ask_84 (lv_at hl 0 rfl) ?_
    refine lv_ishr hx hb dX12_ask_86 ?_
    refine lv_topi (fun x_55 ex_55 => ?_)
    obtain rfl : x_55 = 0 := ex_55.trans (by first | rfl | decide)
    refine lv_iconst (v := 1) hx hb dX12_ask_87 (by decide) ?_
    refine lv_iand hx hb dX12_ask_88 ?_
    refine lv_topi (fun x_56 ex_56 => ?_)
    obtain rfl : x_56 = 0 := ex_56.trans (by first | rfl | decide)
    refine lv_iadd hx hb dX12_ask_89 ?_
    refine lv_topi (fun x_57 ex_57 => ?_)
    refine va_iast hx hb hK hP hD hS 2 0 rfl rfl (i_in (x := 4) rfl (by omega)) dX12_ask_90 (fun H locs hP hD hS => ?_)
    generalize hf_58 : (upd f_52 (4 : Int32).toNatClampNeg x_57) = f_58 at hP hD
    have hP : va_P D vwCl [(a0, .inr (12, [.int 0, w1, w2, .ref a1, w4, w5, w6, w7, w8, w9, w10, w11, w12, w13, w14, w15, w16, w17, w18, w19, w20, w21, w22, w23, w24, w25, w26, w27, w28, w29, w30, w31, w32, w33, w34, w35, w36, w37, w38, w39, w40, w41, w42, w43, w44, w45, w46, w47, w48, .ref a5, w50, w51, w52, w53, w54, w55, w56, w57, w58, w59])), (a1, .inl (K 0, 5500, .inl row0)), (a5, .inl (K 0, 8, .inl f_58))] H := hP
    have hD : va_D A [(a0, .inr (12, [.int 0, w1, w2, .ref a1, w4, w5, w6, w7, w8, w9, w10, w11, w12, w13, w14, w15, w16, w17, w18, w19, w20, w21, w22, w23, w24, w25, w26, w27, w28, w29, w30, w31, w32, w33, w34, w35, w36, w37, w38, w39, w40, w41, w42, w43, w44, w45, w46, w47, w48, .ref a5, w50, w51, w52, w53, w54, w55, w56, w57, w58, w59])), (a1, .inl (K 0, 5500, .inl row0)), (a5, .inl (K 0, 8, .inl f_58))] := hD
    refine lv_iinc (v := 5) (lv' := [(4, .int 5), (2, .int 1), (3, .int 0), (0, .ref a0), (1, .int x)]) hx hb dX12_ask_91 hl (k := 0) rfl (by decide) (by decide) rfl (fun ls hl => ?_)
    refine lv_goto (tgt := 68) hx hb dX12_ask_94 (by decide) ?_
    refine lv_iload hx hb dX12_ask_68 (lv_at hl 0 rfl) ?_
    refine lv_bipush (v := 8) hx hb dX12_ask_70 (by decide) ?_
    refine lv_icmp_ge (tgt := 97) hx hb dX12_ask_72 (by decide) (fun c_59 => absurd c_59 (by decide)) (fun c_59 => ?_)
    refine lv_aload_n hx hb dX12_ask_75 rfl (lv_at hl 3 rfl) ?_
    refine va_get (ci := 12) (v := .ref a5) (C := RX12) (T := TX12) (N := 60) hx hb hts hw12 hown hK hP 0 rfl rfl 49 (by decide) (hts (.fieldLink RX12 132 "SmokeTuneModel" "burning" "[I") (List.mem_cons_of_mem _ (List.mem_append_left _ (List.mem_of_getElem? (i := 1) rfl)))) (fun _ h9 => h9) rfl dX12_ask_76 ?_
    refine lv_iload hx hb dX12_ask_79 (lv_at hl 0 rfl) ?_
    refine lv_dup2_11 hx hb dX12_ask_81 rfl rfl ?_
    refine va_iald hx hb hK hP 2 0 rfl rfl (i_in (x := 5) rfl (by omega)) dX12_ask_82 ?_
    refine lv_topi (fun x_60 ex_60 => ?_)
    refine lv_iload_n hx hb dX12_ask_83 rfl (lv_at hl 2 rfl) ?_
    refine lv_iload hx hb dX12_ask_84 (lv_at hl 0 rfl) ?_
    refine lv_ishr hx hb dX12_ask_86 ?_
    refine lv_topi (fun x_61 ex_61 => ?_)
    obtain rfl : x_61 = 0 := ex_61.trans (by first | rfl | decide)
    refine lv_iconst (v := 1) hx hb dX12_ask_87 (by decide) ?_
    refine lv_iand hx hb dX12_ask_88 ?_
    refine lv_topi (fun x_62 ex_62 => ?_)
    obtain rfl : x_62 = 0 := ex_62.trans (by first | rfl | decide)
    refine lv_iadd hx hb dX12_ask_89 ?_
    refine lv_topi (fun x_63 ex_63 => ?_)
    refine va_iast hx hb hK hP hD hS 2 0 rfl rfl (i_in (x := 5) rfl (by omega)) dX12_ask_90 (fun H locs hP hD hS => ?_)
    generalize hf_64 : (upd f_58 (5 : Int32).toNatClampNeg x_63) = f_64 at hP hD
    have hP : va_P D vwCl [(a0, .inr (12, [.int 0, w1, w2, .ref a1, w4, w5, w6, w7, w8, w9, w10, w11, w12, w13, w14, w15, w16, w17, w18, w19, w20, w21, w22, w23, w24, w25, w26, w27, w28, w29, w30, w31, w32, w33, w34, w35, w36, w37, w38, w39, w40, w41, w42, w43, w44, w45, w46, w47, w48, .ref a5, w50, w51, w52, w53, w54, w55, w56, w57, w58, w59])), (a1, .inl (K 0, 5500, .inl row0)), (a5, .inl (K 0, 8, .inl f_64))] H := hP
    have hD : va_D A [(a0, .inr (12, [.int 0, w1, w2, .ref a1, w4, w5, w6, w7, w8, w9, w10, w11, w12, w13, w14, w15, w16, w17, w18, w19, w20, w21, w22, w23, w24, w25, w26, w27, w28, w29, w30, w31, w32, w33, w34, w35, w36, w37, w38, w39, w40, w41, w42, w43, w44, w45, w46, w47, w48, .ref a5, w50, w51, w52, w53, w54, w55, w56, w57, w58, w59])), (a1, .inl (K 0, 5500, .inl row0)), (a5, .inl (K 0, 8, .inl f_64))] := hD
    refine lv_iinc (v := 6) (lv' := [(4, .int 6), (2, .int 1), (3, .int 0), (0, .ref a0), (1, .int x)]) hx hb dX12_ask_91 hl (k := 0) rfl (by decide) (by decide) rfl (fun ls hl => ?_)
    refine lv_goto (tgt := 68) hx hb dX12_ask_94 (by decide) ?_
    refine lv_iload hx hb dX12_ask_68 (lv_at hl 0 rfl) ?_
    refine lv_bipush (v := 8) hx hb dX12_ask_70 (by decide) ?_
    refine lv_icmp_ge (tgt := 97) hx hb dX12_ask_72 (by decide) (fun c_65 => absurd c_65 (by decide)) (fun c_65 => ?_)
    refine lv_aload_n hx hb dX12_ask_75 rfl (lv_at hl 3 rfl) ?_
    refine va_get (ci := 12) (v := .ref a5) (C := RX12) (T := TX12) (N := 60) hx hb hts hw12 hown hK hP 0 rfl rfl 49 (by decide) (hts (.fieldLink RX12 132 "SmokeTuneModel" "burning" "[I") (List.mem_cons_of_mem _ (List.mem_append_left _ (List.mem_of_getElem? (i := 1) rfl)))) (fun _ h9 => h9) rfl dX12_ask_76 ?_
    refine lv_iload hx hb dX12_ask_79 (lv_at hl 0 rfl) ?_
    refine lv_dup2_11 hx hb dX12_ask_81 rfl rfl ?_
    refine va_iald hx hb hK hP 2 0 rfl rfl (i_in (x := 6) rfl (by omega)) dX12_ask_82 ?_
    refine lv_topi (fun x_66 ex_66 => ?_)
    refine lv_iload_n hx hb dX12_ask_83 rfl (lv_at hl 2 rfl) ?_
    refine lv_iload hx hb dX12_ask_84 (lv_at hl 0 rfl) ?_
    refine lv_ishr hx hb dX12_ask_86 ?_
    refine lv_topi (fun x_67 ex_67 => ?_)
    obtain rfl : x_67 = 0 := ex_67.trans (by first | rfl | decide)
    refine lv_iconst (v := 1) hx hb dX12_ask_87 (by decide) ?_
    refine lv_iand hx hb dX12_ask_88 ?_
    refine lv_topi (fun x_68 ex_68 => ?_)
    obtain rfl : x_68 = 0 := ex_68.trans (by first | rfl | decide)
    refine lv_iadd hx hb dX12_ask_89 ?_
    refine lv_topi (fun x_69 ex_69 => ?_)
    refine va_iast hx hb hK hP hD hS 2 0 rfl rfl (i_in (x := 6) rfl (by omega)) dX12_ask_90 (fun H locs hP hD hS => ?_)
    generalize hf_70 : (upd f_64 (6 : Int32).toNatClampNeg x_69) = f_70 at hP hD
    have hP : va_P D vwCl [(a0, .inr (12, [.int 0, w1, w2, .ref a1, w4, w5, w6, w7, w8, w9, w10, w11, w12, w13, w14, w15, w16, w17, w18, w19, w20, w21, w22, w23, w24, w25, w26, w27, w28, w29, w30, w31, w32, w33, w34, w35, w36, w37, w38, w39, w40, w41, w42, w43, w44, w45, w46, w47, w48, .ref a5, w50, w51, w52, w53, w54, w55, w56, w57, w58, w59])), (a1, .inl (K 0, 5500, .inl row0)), (a5, .inl (K 0, 8, .inl f_70))] H := hP
    have hD : va_D A [(a0, .inr (12, [.int 0, w1, w2, .ref a1, w4, w5, w6, w7, w8, w9, w10, w11, w12, w13, w14, w15, w16, w17, w18, w19, w20, w21, w22, w23, w24, w25, w26, w27, w28, w29, w30, w31, w32, w33, w34, w35, w36, w37, w38, w39, w40, w41, w42, w43, w44, w45, w46, w47, w48, .ref a5, w50, w51, w52, w53, w54, w55, w56, w57, w58, w59])), (a1, .inl (K 0, 5500, .inl row0)), (a5, .inl (K 0, 8, .inl f_70))] := hD
    refine lv_iinc (v := 7) (lv' := [(4, .int 7), (2, .int 1), (3, .int 0), (0, .ref a0), (1, .int x)]) hx hb dX12_ask_91 hl (k := 0) rfl (by decide) (by decide) rfl (fun ls hl => ?_)
    refine lv_goto (tgt := 68) hx hb dX12_ask_94 (by decide) ?_
    refine lv_iload hx hb dX12_ask_68 (lv_at hl 0 rfl) ?_
    refine lv_bipush (v := 8) hx hb dX12_ask_70 (by decide) ?_
    refine lv_icmp_ge (tgt := 97) hx hb dX12_ask_72 (by decide) (fun c_71 => absurd c_71 (by decide)) (fun c_71 => ?_)
    refine lv_aload_n hx hb dX12_ask_75 rfl (lv_at hl 3 rfl) ?_
    refine va_get (ci := 12) (v := .ref a5) (C := RX12) (T := TX12) (N := 60) hx hb hts hw12 hown hK hP 0 rfl rfl 49 (by decide) (hts (.fieldLink RX12 132 "SmokeTuneModel" "burning" "[I") (List.mem_cons_of_mem _ (List.mem_append_left _ (List.mem_of_getElem? (i := 1) rfl)))) (fun _ h9 => h9) rfl dX12_ask_76 ?_
    refine lv_iload hx hb dX12_ask_79 (lv_at hl 0 rfl) ?_
    refine lv_dup2_11 hx hb dX12_ask_81 rfl rfl ?_
    refine va_iald hx hb hK hP 2 0 rfl rfl (i_in (x := 7) rfl (by omega)) dX12_ask_82 ?_
    refine lv_topi (fun x_72 ex_72 => ?_)
    refine lv_iload_n hx hb dX12_ask_83 rfl (lv_at hl 2 rfl) ?_
    refine lv_iload hx hb dX12_ask_84 (lv_at hl 0 rfl) ?_
    refine lv_ishr hx hb dX12_ask_86 ?_
    refine lv_topi (fun x_73 ex_73 => ?_)
    obtain rfl : x_73 = 0 := ex_73.trans (by first | rfl | decide)
    refine lv_iconst (v := 1) hx hb dX12_ask_87 (by decide) ?_
    refine lv_iand hx hb dX12_ask_88 ?_
    refine lv_topi (fun x_74 ex_74 => ?_)
    obtain rfl : x_74 = 0 := ex_74.trans (by first | rfl | decide)
    refine lv_iadd hx hb dX12_ask_89 ?_
    refine lv_topi (fun x_75 ex_75 => ?_)
    refine va_iast hx hb hK hP hD hS 2 0 rfl rfl (i_in (x := 7) rfl (by omega)) dX12_ask_90 (fun H locs hP hD hS => ?_)
    generalize hf_76 : (upd f_70 (7 : Int32).toNatClampNeg x_75) = f_76 at hP hD
    have hP : va_P D vwCl [(a0, .inr (12, [.int 0, w1, w2, .ref a1, w4, w5, w6, w7, w8, w9, w10, w11, w12, w13, w14, w15, w16, w17, w18, w19, w20, w21, w22, w23, w24, w25, w26, w27, w28, w29, w30, w31, w32, w33, w34, w35, w36, w37, w38, w39, w40, w41, w42, w43, w44, w45, w46, w47, w48, .ref a5, w50, w51, w52, w53, w54, w55, w56, w57, w58, w59])), (a1, .inl (K 0, 5500, .inl row0)), (a5, .inl (K 0, 8, .inl f_76))] H := hP
    have hD : va_D A [(a0, .inr (12, [.int 0, w1, w2, .ref a1, w4, w5, w6, w7, w8, w9, w10, w11, w12, w13, w14, w15, w16, w17, w18, w19, w20, w21, w22, w23, w24, w25, w26, w27, w28, w29, w30, w31, w32, w33, w34, w35, w36, w37, w38, w39, w40, w41, w42, w43, w44, w45, w46, w47, w48, .ref a5, w50, w51, w52, w53, w54, w55, w56, w57, w58, w59])), (a1, .inl (K 0, 5500, .inl row0)), (a5, .inl (K 0, 8, .inl f_76))] := hD
    refine lv_iinc (v := 8) (lv' := [(4, .int 8), (2, .int 1), (3, .int 0), (0, .ref a0), (1, .int x)]) hx hb dX12_ask_91 hl (k := 0) rfl (by decide) (by decide) rfl (fun ls hl => ?_)
    refine lv_goto (tgt := 68) hx hb dX12_ask_94 (by decide) ?_
    refine lv_iload hx hb dX12_ask_68 (lv_at hl 0 rfl) ?_
    refine lv_bipush (v := 8) hx hb dX12_ask_70 (by decide) ?_
    refine lv_icmp_ge (tgt := 97) hx hb dX12_ask_72 (by decide) (fun c_77 => ?_) (fun c_77 => absurd (by decide) c_77)
    refine lv_iinc (v := 1) (lv' := [(3, .int 1), (4, .int 8), (2, .int 1), (0, .ref a0), (1, .int x)]) hx hb dX12_ask_97 hl (k := 2) rfl (by decide) (by decide) rfl (fun ls hl => ?_)
    refine lv_goto (tgt := 42) hx hb dX12_ask_100 (by decide) ?_
    refine lv_iload_n hx hb dX12_ask_42 rfl (lv_at hl 0 rfl) ?_
    refine lv_iconst (v := 1) hx hb dX12_ask_43 (by decide) ?_
    refine lv_aload_n hx hb dX12_ask_44 rfl (lv_at hl 3 rfl) ?_
    refine va_get (ci := 12) (v := .ref a1) (C := RX12) (T := TX12) (N := 60) hx hb hts hw12 hown hK hP 0 rfl rfl 3 (by decide) (hts (.fieldLink RX12 13 "SmokeTuneModel" "row" "[I") (List.mem_cons_of_mem _ (List.mem_append_left _ (List.mem_of_getElem? (i := 2) rfl)))) (fun _ h9 => h9) rfl dX12_ask_45 ?_
    refine lv_iconst (v := 0) hx hb dX12_ask_48 (by decide) ?_
    refine va_iald hx hb hK hP 1 0 rfl rfl (i_in (x := 0) rfl (by omega)) dX12_ask_49 ?_
    refine lv_topi (fun x_78 ex_78 => ?_)
    obtain rfl : x_78 = 0 := ex_78.trans (by first | rfl | decide | exact rfl)
    refine lv_ishl hx hb dX12_ask_50 ?_
    refine lv_topi (fun x_79 ex_79 => ?_)
    obtain rfl : x_79 = 1 := ex_79.trans (by first | rfl | decide)
    refine lv_icmp_ge (tgt := 103) hx hb dX12_ask_51 (by decide) (fun c_80 => ?_) (fun c_80 => absurd (by decide) c_80)
    refine lv_iconst (v := (-1)) hx hb dX12_ask_103 (by decide) ?_
    refine lv_istore_n (lv' := [(3, .int (-1)), (4, .int 8), (2, .int 1), (0, .ref a0), (1, .int x)]) hx hb dX12_ask_104 rfl hl (by decide) rfl (fun ls hl => ?_)
    refine lv_ldcw (v := 100000000) hx hb hown (hts (.constant RX12 476 (100000000)) (List.mem_cons_of_mem _ (List.mem_append_left _ (List.mem_of_getElem? (i := 3) rfl)))) dX12_ask_105 ?_
    refine lv_istore (lv' := [(4, .int 100000000), (3, .int (-1)), (2, .int 1), (0, .ref a0), (1, .int x)]) hx hb dX12_ask_108 hl (by decide) rfl (fun ls hl => ?_)
    refine lv_iconst (v := 0) hx hb dX12_ask_110 (by decide) ?_
    refine lv_istore (lv' := [(5, .int 0), (4, .int 100000000), (3, .int (-1)), (2, .int 1), (0, .ref a0), (1, .int x)]) hx hb dX12_ask_111 hl (by decide) rfl (fun ls hl => ?_)
    refine lv_iload hx hb dX12_ask_113 (lv_at hl 0 rfl) ?_
    refine lv_aload_n hx hb dX12_ask_115 rfl (lv_at hl 4 rfl) ?_
    refine va_get (ci := 12) (v := .ref a1) (C := RX12) (T := TX12) (N := 60) hx hb hts hw12 hown hK hP 0 rfl rfl 3 (by decide) (hts (.fieldLink RX12 13 "SmokeTuneModel" "row" "[I") (List.mem_cons_of_mem _ (List.mem_append_left _ (List.mem_of_getElem? (i := 2) rfl)))) (fun _ h9 => h9) rfl dX12_ask_116 ?_
    refine lv_iconst (v := 0) hx hb dX12_ask_119 (by decide) ?_
    refine va_iald hx hb hK hP 1 0 rfl rfl (i_in (x := 0) rfl (by omega)) dX12_ask_120 ?_
    refine lv_topi (fun x_81 ex_81 => ?_)
    obtain rfl : x_81 = 0 := ex_81.trans (by first | rfl | decide | exact rfl)
    refine lv_icmp_ge (tgt := 204) hx hb dX12_ask_121 (by decide) (fun c_82 => ?_) (fun c_82 => absurd (by decide) c_82)
    refine lv_iload_n hx hb dX12_ask_204 rfl (lv_at hl 2 rfl) ?_
    refine lv_iconst (v := (-1)) hx hb dX12_ask_205 (by decide) ?_
    refine lv_icmp_eq (tgt := 213) hx hb dX12_ask_206 (by decide) (fun c_83 => ?_) (fun c_83 => absurd (by decide) c_83)
    refine lv_iload_n hx hb dX12_ask_213 rfl (lv_at hl 2 rfl) ?_
    refine lv_goto (tgt := 219) hx hb dX12_ask_214 (by decide) ?_
    exact W.iret (v := (-1)) hx hb hr (fun t ht hW => ⟨⟨(-1), (), rfl, (by first | exact rfl), Wd.nil⟩, hS.F ht⟩) hS.2.2 dX12_ask_219
  · refine lv_if_ne (tgt := 17) hx hb dX12_ask_12 (by decide) (fun c_84 => absurd (by decide) c_84) (fun c_84 => ?_)
    refine lv_iconst (v := (-1)) hx hb dX12_ask_15 (by decide) ?_
    exact W.iret (v := (-1)) hx hb hr (fun t ht hW => ⟨⟨(-1), (), rfl, (by first | exact rfl), Wd.nil⟩, hS.F ht⟩) hS.2.2 dX12_ask_16
set_option maxHeartbeats 4000000 in
set_option maxRecDepth 100000 in
theorem r_chance (l : Launch) (D : va_G) (K : Nat → ClassId) (a0 : Nat) (x : Int32) (w0 : Value) (w1 : Value) (w2 : Value) (a1 : Nat) (w4 : Value) (w5 : Value) (w6 : Value) (w7 : Value) (w8 : Value) (w9 : Value) (w10 : Value) (w11 : Value) (w12 : Value) (w13 : Value) (w14 : Value) (w15 : Value) (w16 : Value) (w17 : Value) (w18 : Value) (w19 : Value) (w20 : Value) (w21 : Value) (w22 : Value) (w23 : Value) (w24 : Value) (w25 : Value) (w26 : Value) (w27 : Value) (w28 : Value) (w29 : Value) (w30 : Value) (w31 : Value) (w32 : Value) (w33 : Value) (w34 : Value) (w35 : Value) (w36 : Value) (w37 : Value) (w38 : Value) (w39 : Value) (w40 : Value) (w41 : Value) (w42 : Value) (w43 : Value) (w44 : Value) (w45 : Value) (w46 : Value) (w47 : Value) (w48 : Value) (w49 : Value) (w50 : Value) (w51 : Value) (w52 : Value) (w53 : Value) (w54 : Value) (w55 : Value) (w56 : Value) (w57 : Value) (w58 : Value) (w59 : Value) (sz : Nat) : Met l yX12_chance wsX12_chance ({ frames := 1, cells := 0, slots := 0, locals := 25 }) (va_Pc [.ref a0, .int x] (Pre D K [(a0, .inr (12, [w0, w1, w2, .ref a1, w4, w5, w6, w7, w8, w9, w10, w11, w12, w13, w14, w15, w16, w17, w18, w19, w20, w21, w22, w23, w24, w25, w26, w27, w28, w29, w30, w31, w32, w33, w34, w35, w36, w37, w38, w39, w40, w41, w42, w43, w44, w45, w46, w47, w48, w49, w50, w51, w52, w53, w54, w55, w56, w57, w58, w59])), (a1, .inl (K 0, 5500, .inl row0))] sz)) (va_Ql (S := Unit) (fun (r : Int64) (_ : Unit) => (r = (chS x 7) ∧ 0 ≤ x.toInt ∧ x.toInt ≤ 127) ∨ (r = (-1) ∧ (x.toInt < 0 ∨ 127 < x.toInt))) (fun u t => Wd D (va_A [(a0, .inr (12, [w0, w1, w2, .ref a1, w4, w5, w6, w7, w8, w9, w10, w11, w12, w13, w14, w15, w16, w17, w18, w19, w20, w21, w22, w23, w24, w25, w26, w27, w28, w29, w30, w31, w32, w33, w34, w35, w36, w37, w38, w39, w40, w41, w42, w43, w44, w45, w46, w47, w48, w49, w50, w51, w52, w53, w54, w55, w56, w57, w58, w59])), (a1, .inl (K 0, 5500, .inl row0))] sz) ((fun _ => []) u) t) (va_A [(a0, .inr (12, [w0, w1, w2, .ref a1, w4, w5, w6, w7, w8, w9, w10, w11, w12, w13, w14, w15, w16, w17, w18, w19, w20, w21, w22, w23, w24, w25, w26, w27, w28, w29, w30, w31, w32, w33, w34, w35, w36, w37, w38, w39, w40, w41, w42, w43, w44, w45, w46, w47, w48, w49, w50, w51, w52, w53, w54, w55, w56, w57, w58, w59])), (a1, .inl (K 0, 5500, .inl row0))] sz)) 0 0 (va_A [(a0, .inr (12, [w0, w1, w2, .ref a1, w4, w5, w6, w7, w8, w9, w10, w11, w12, w13, w14, w15, w16, w17, w18, w19, w20, w21, w22, w23, w24, w25, w26, w27, w28, w29, w30, w31, w32, w33, w34, w35, w36, w37, w38, w39, w40, w41, w42, w43, w44, w45, w46, w47, w48, w49, w50, w51, w52, w53, w54, w55, w56, w57, w58, w59])), (a1, .inl (K 0, 5500, .inl row0))] sz) := by
  refine Met.ofW (cc := cX12_chance) (maxL := 8) (ret := (some .long)) (by decide) rfl ?_
  intro p e s m args below meth c s₁ B hml hv
  obtain ⟨rfl, hsz, hP, hK, hD0, hN⟩ := hv
  have hx := B.exec
  have hb := B.bytes
  have hr := B.returns
  have hts := atoms_spec (ws := wsX12_chance) B.pre
  have hown : s.vm.findClass RX12 = some m.cls := findClass_of_methodNamed B.named
  have hlocks := B.notSynchronized
  subst hsz
  have hD := hD0.self (sz := s.heap.size)
  generalize hAe : va_A [(a0, .inr (12, [w0, w1, w2, .ref a1, w4, w5, w6, w7, w8, w9, w10, w11, w12, w13, w14, w15, w16, w17, w18, w19, w20, w21, w22, w23, w24, w25, w26, w27, w28, w29, w30, w31, w32, w33, w34, w35, w36, w37, w38, w39, w40, w41, w42, w43, w44, w45, w46, w47, w48, w49, w50, w51, w52, w53, w54, w55, w56, w57, w58, w59])), (a1, .inl (K 0, 5500, .inl row0))] s.heap.size = A at hD ⊢
  have hA : ∀ q : Nat, s.heap.size ≤ q → A q := fun q h => by rw [← hAe]; exact Or.inr h
  have hS : va_S A s.heap s.heap [] := va_S.rf
  have hP : va_P D vwCl [(a0, .inr (12, [w0, w1, w2, .ref a1, w4, w5, w6, w7, w8, w9, w10, w11, w12, w13, w14, w15, w16, w17, w18, w19, w20, w21, w22, w23, w24, w25, w26, w27, w28, w29, w30, w31, w32, w33, w34, w35, w36, w37, w38, w39, w40, w41, w42, w43, w44, w45, w46, w47, w48, w49, w50, w51, w52, w53, w54, w55, w56, w57, w58, w59])), (a1, .inl (K 0, 5500, .inl row0))] s.heap := hP
  have hl := lv_entry [.ref a0, .int x] (n := 8) (Nat.le_of_ble_eq_true rfl)
  rw [lg_entry_eq]
  generalize (lg_sl [.ref a0, .int x] ++ List.replicate (8 - (lg_sl [.ref a0, .int x]).length) Slot.unset).toArray = ls at hl ⊢
  have hl : lv_has ls 8 [(0, .ref a0), (1, .int x)] := hl
  have hw12 : ∀ w ∈ wsX120, w ∈ wsX12_chance := fun w h => (List.mem_cons_of_mem _ (List.mem_append_right _ h))
  generalize hQ : MQ below _ _ s _ _ _ = Q
  refine lv_aload_n hx hb dX12_chance_0 rfl (lv_at hl 0 rfl) ?_
  refine lv_iconst (v := 0) hx hb dX12_chance_1 (by decide) ?_
  refine va_put (ci := 12) (v := .int 0) (ty := .int) (C := RX12) (T := TX12) (N := 60) hx hb hts hw12 tyX12 tyX12_ok nmX12 hown hK hP hD hS 0 rfl rfl 0 (by decide) (hts (.fieldLink RX12 158 "SmokeTuneModel" "thrown" "I") (List.mem_cons_of_mem _ (List.mem_append_left _ (List.mem_append_left _ (List.mem_of_getElem? (i := 0) rfl))))) (fun _ h9 => h9) rfl (by decide +kernel) (by first | rfl | decide) (by first | rfl | decide) (Nat.le_of_ble_eq_true rfl) dX12_chance_2 (fun H locs hP hD hS => ?_)
  have hP : va_P D vwCl [(a0, .inr (12, [.int 0, w1, w2, .ref a1, w4, w5, w6, w7, w8, w9, w10, w11, w12, w13, w14, w15, w16, w17, w18, w19, w20, w21, w22, w23, w24, w25, w26, w27, w28, w29, w30, w31, w32, w33, w34, w35, w36, w37, w38, w39, w40, w41, w42, w43, w44, w45, w46, w47, w48, w49, w50, w51, w52, w53, w54, w55, w56, w57, w58, w59])), (a1, .inl (K 0, 5500, .inl row0))] H := hP
  have hD : va_D A [(a0, .inr (12, [.int 0, w1, w2, .ref a1, w4, w5, w6, w7, w8, w9, w10, w11, w12, w13, w14, w15, w16, w17, w18, w19, w20, w21, w22, w23, w24, w25, w26, w27, w28, w29, w30, w31, w32, w33, w34, w35, w36, w37, w38, w39, w40, w41, w42, w43, w44, w45, w46, w47, w48, w49, w50, w51, w52, w53, w54, w55, w56, w57, w58, w59])), (a1, .inl (K 0, 5500, .inl row0))] := hD
  refine lv_iload_n hx hb dX12_chance_5 rfl (lv_at hl 1 rfl) ?_
  refine lv_i2l hx hb dX12_chance_6 rfl ?_
  refine lv_topl (fun x_1 ex_1 => ?_)
  have hx_1 : x_1.toInt = x.toInt := by rw [ex_1]; exact i_wide rfl
  refine lv_lconst (v := 0) hx hb dX12_chance_7 (by decide) ?_
  refine lv_ldc2 (v := 127) hx hb hown (hts (.constantLong RX12 212 (127)) (List.mem_cons_of_mem _ (List.mem_append_left _ (List.mem_append_left _ (List.mem_of_getElem? (i := 1) rfl))))) dX12_chance_8 ?_
  refine pci (va_runS (As := [.long x_1, .long 0, .long 127]) (rest := []) ⟨hx, hb, hml, hown, hts⟩ (c_in l D K x_1 0 127 x.toInt 0 127 H.size hx_1 rfl rfl) (va_cwS 3 hts gX12_chance_X12_in rfl rfl rfl (by decide +kernel) ⟨Nat.le_of_ble_eq_true rfl, Nat.le_of_ble_eq_true rfl⟩) (mkS hK hN (hP.sub [] rfl) (hD.sub [] (by decide) rfl)) rfl rfl hl.1 rfl (lv_room (Nat.le_of_ble_eq_true rfl)) dX12_chance_11 ⟨Nat.le_of_ble_eq_true rfl, Nat.le_of_ble_eq_true rfl⟩) (fun r_2 hw => ?_)
  rcases hw with ⟨rfl, h_3, h_4⟩ | ⟨rfl, h_5⟩
  · refine lv_if_ne (tgt := 21) hx hb dX12_chance_14 (by decide) (fun c_6 => ?_) (fun c_6 => absurd c_6 (by decide))
    refine lv_ldc2 (v := 1000000000000) hx hb hown (hts (.constantLong RX12 518 (1000000000000)) (List.mem_cons_of_mem _ (List.mem_append_left _ (List.mem_append_left _ (List.mem_of_getElem? (i := 3) rfl))))) dX12_chance_21 ?_
    refine lv_lstore_n (lv' := [(2, .long 1000000000000), (0, .ref a0), (1, .int x)]) hx hb dX12_chance_24 rfl hl (by decide) rfl (fun ls hl => ?_)
    refine lv_iconst (v := 0) hx hb dX12_chance_25 (by decide) ?_
    refine lv_istore (lv' := [(4, .int 0), (2, .long 1000000000000), (0, .ref a0), (1, .int x)]) hx hb dX12_chance_26 hl (by decide) rfl (fun ls hl => ?_)
    have lp_7 : ∀ (n : Nat) (i : Nat) (hn : 8 ≤ i + n) (hi7 : i ≤ 7) (H : Heap) (locs : List Loc) (hP : va_P D vwCl [(a0, .inr (12, [.int 0, w1, w2, .ref a1, w4, w5, w6, w7, w8, w9, w10, w11, w12, w13, w14, w15, w16, w17, w18, w19, w20, w21, w22, w23, w24, w25, w26, w27, w28, w29, w30, w31, w32, w33, w34, w35, w36, w37, w38, w39, w40, w41, w42, w43, w44, w45, w46, w47, w48, w49, w50, w51, w52, w53, w54, w55, w56, w57, w58, w59])), (a1, .inl (K 0, 5500, .inl row0))] H) (hD : va_D A [(a0, .inr (12, [.int 0, w1, w2, .ref a1, w4, w5, w6, w7, w8, w9, w10, w11, w12, w13, w14, w15, w16, w17, w18, w19, w20, w21, w22, w23, w24, w25, w26, w27, w28, w29, w30, w31, w32, w33, w34, w35, w36, w37, w38, w39, w40, w41, w42, w43, w44, w45, w46, w47, w48, w49, w50, w51, w52, w53, w54, w55, w56, w57, w58, w59])), (a1, .inl (K 0, 5500, .inl row0))]) (hS : va_S A s.heap H locs) (ls : Array Slot) (hl : lv_has ls 8 [(4, .int (nI i)), (2, .long (chS x i)), (0, .ref a0), (1, .int x)]), W p l e ({ frames := 1, cells := 0, slots := 0, locals := 25 }) s m (([.ref a0, .int x] : List Value).toArray) below meth c H locs 0 0 Q (F0 m 28 ls []) := by
      intro n
      induction n with
      | zero =>
        intro i hn hi7 H locs hP hD hS ls hl
        exfalso; omega
      | succ n ih =>
        intro i hn hi7 H locs hP hD hS ls hl
        refine lv_iload hx hb dX12_chance_28 (lv_at hl 0 rfl) ?_
        refine lv_bipush (v := 7) hx hb dX12_chance_30 (by decide) ?_
        refine lv_icmp_ge (tgt := 92) hx hb dX12_chance_32 (by decide) (fun c_8 => ?_) (fun c_8 => ?_)
        · have c_8i := i_le (x := 7) (y := ((i : Nat) : Int)) rfl (nI_toInt (by omega)) c_8
          refine lv_lload_n hx hb dX12_chance_92 rfl (lv_at hl 1 rfl) ?_
          subst hQ
          exact W.lret (v := (chS x i)) hx hb hr (fun t ht hW => ⟨⟨(chS x i), (), rfl, Or.inl ⟨(by obtain rfl : i = 7 := (by omega); exact rfl), by omega, by omega⟩, Wd.nil⟩, hS.F ht⟩) hS.2.2 dX12_chance_93
        · have c_8i := i_nle (x := 7) (y := ((i : Nat) : Int)) rfl (nI_toInt (by omega)) c_8
          refine lv_iload_n hx hb dX12_chance_35 rfl (lv_at hl 3 rfl) ?_
          refine lv_iload hx hb dX12_chance_36 (lv_at hl 0 rfl) ?_
          refine pci (va_runS (As := [.int x, .int (nI i)]) (rest := []) ⟨hx, hb, hml, hown, hts⟩ (m_is l D K x (nI i) H.size) (va_cwS 2 hts gX12_chance_X12_is rfl rfl rfl (by decide +kernel) ⟨Nat.le_of_ble_eq_true rfl, Nat.le_of_ble_eq_true rfl⟩) (mkS hK hN (hP.sub [] rfl) (hD.sub [] (by decide) rfl)) rfl rfl hl.1 rfl (lv_room (Nat.le_of_ble_eq_true rfl)) dX12_chance_38 ⟨Nat.le_of_ble_eq_true rfl, Nat.le_of_ble_eq_true rfl⟩) (fun r_9 hw => ?_)
          rcases hw with ⟨rfl, h_10⟩ | ⟨rfl, h_11⟩
          · refine lv_if_eq (tgt := 86) hx hb dX12_chance_41 (by decide) (fun c_12 => absurd c_12 (by decide)) (fun c_12 => ?_)
            refine lv_lload_n hx hb dX12_chance_44 rfl (lv_at hl 1 rfl) ?_
            refine lv_lstore (lv' := [(5, .long (chS x i)), (4, .int (nI i)), (2, .long (chS x i)), (0, .ref a0), (1, .int x)]) hx hb dX12_chance_45 hl (by decide) rfl (fun ls hl => ?_)
            refine lv_aload_n hx hb dX12_chance_47 rfl (lv_at hl 3 rfl) ?_
            refine lv_iload hx hb dX12_chance_48 (lv_at hl 1 rfl) ?_
            refine pci (va_runV (As := [.int (nI i)]) (rest := []) ⟨hx, hb, hml, hown, hts⟩ (m_soundWith l D K a0 (nI i) (.int 0) w1 w2 a1 w4 w5 w6 w7 w8 w9 w10 w11 w12 w13 w14 w15 w16 w17 w18 w19 w20 w21 w22 w23 w24 w25 w26 w27 w28 w29 w30 w31 w32 w33 w34 w35 w36 w37 w38 w39 w40 w41 w42 w43 w44 w45 w46 w47 w48 w49 w50 w51 w52 w53 w54 w55 w56 w57 w58 w59 row0 0 0 H.size row0_ok (by omega) (by omega)) (cwV 1 hts gX12_chance_X12_soundWith rfl rfl rfl (by decide +kernel) ⟨Nat.le_of_ble_eq_true rfl, Nat.le_of_ble_eq_true rfl⟩) (mkV hK hN (hP.sub [0, 1] rfl) (hD.sub [0, 1] (by decide) rfl) (ci := 12) (q0 := 0) rfl rfl) rfl rfl hl.1 rfl (lv_room (Nat.le_of_ble_eq_true rfl)) dX12_chance_50 ⟨Nat.le_of_ble_eq_true rfl, Nat.le_of_ble_eq_true rfl⟩) (fun r_13 hw => ?_)
            obtain rfl : r_13 = 0 := hw
            refine lv_istore (lv' := [(7, .int 0), (5, .long (chS x i)), (4, .int (nI i)), (2, .long (chS x i)), (0, .ref a0), (1, .int x)]) hx hb dX12_chance_53 hl (by decide) rfl (fun ls hl => ?_)
            refine lv_iload hx hb dX12_chance_55 (lv_at hl 0 rfl) ?_
            refine lv_if_le (tgt := 81) hx hb dX12_chance_57 (by decide) (fun c_14 => ?_) (fun c_14 => absurd (by decide) c_14)
            refine lv_lload_n hx hb dX12_chance_81 rfl (lv_at hl 3 rfl) ?_
            refine lv_lload hx hb dX12_chance_82 (lv_at hl 1 rfl) ?_
            refine lv_lsub hx hb dX12_chance_84 ?_
            refine lv_topl (fun x_15 ex_15 => ?_)
            refine lv_lstore_n (lv' := [(2, .long x_15), (7, .int 0), (5, .long (chS x i)), (4, .int (nI i)), (0, .ref a0), (1, .int x)]) hx hb dX12_chance_85 rfl hl (by decide) rfl (fun ls hl => ?_)
            refine lv_iinc (v := nI (i + 1)) (lv' := [(4, .int (nI (i + 1))), (2, .long x_15), (7, .int 0), (5, .long (chS x i)), (0, .ref a0), (1, .int x)]) hx hb dX12_chance_86 hl (k := 3) rfl (nI_1 i) (by decide) rfl (fun ls hl => ?_)
            refine lv_goto (tgt := 28) hx hb dX12_chance_89 (by decide) ?_
            obtain rfl : x_15 = chS x (i + 1) := ex_15.trans (if_pos (by first | (subst_vars; assumption) | (subst_vars; symm; assumption) | simp_all)).symm
            exact ih (i + 1) (by omega) (by omega) _ _ hP hD hS ls (lv_sub hl [0, 1, 4, 5] rfl)
          · refine lv_if_eq (tgt := 86) hx hb dX12_chance_41 (by decide) (fun c_16 => ?_) (fun c_16 => absurd (by decide) c_16)
            refine lv_iinc (v := nI (i + 1)) (lv' := [(4, .int (nI (i + 1))), (2, .long (chS x i)), (0, .ref a0), (1, .int x)]) hx hb dX12_chance_86 hl (k := 0) rfl (nI_1 i) (by decide) rfl (fun ls hl => ?_)
            refine lv_goto (tgt := 28) hx hb dX12_chance_89 (by decide) ?_
            have hch : chS x i = chS x (i + 1) := (if_neg (by first | (subst_vars; assumption) | simp_all)).symm
            rw [hch] at hl
            exact ih (i + 1) (by omega) (by omega) _ _ hP hD hS ls (lv_sub hl [0, 1, 2, 3] rfl)
    exact lp_7 8 0 (by omega) (by omega) _ _ hP hD hS ls (lv_sub hl [0, 1, 2, 3] rfl)
  · refine lv_if_ne (tgt := 21) hx hb dX12_chance_14 (by decide) (fun c_17 => absurd (by decide) c_17) (fun c_17 => ?_)
    refine lv_ldc2 (v := (-1)) hx hb hown (hts (.constantLong RX12 266 (-1)) (List.mem_cons_of_mem _ (List.mem_append_left _ (List.mem_append_left _ (List.mem_of_getElem? (i := 2) rfl))))) dX12_chance_17 ?_
    subst hQ
    exact W.lret (v := (-1)) hx hb hr (fun t ht hW => ⟨⟨(-1), (), rfl, Or.inr ⟨rfl, by omega⟩, Wd.nil⟩, hS.F ht⟩) hS.2.2 dX12_chance_20
set_option maxHeartbeats 4000000 in
set_option maxRecDepth 100000 in
theorem r_compare (l : Launch) (D : va_G) (K : Nat → ClassId) (a0 : Nat) (x : Int32) (y : Int32) (w0 : Value) (w1 : Value) (w2 : Value) (a1 : Nat) (w4 : Value) (w5 : Value) (a3 : Nat) (w7 : Value) (w8 : Value) (w9 : Value) (w10 : Value) (w11 : Value) (w12 : Value) (w13 : Value) (w14 : Value) (w15 : Value) (w16 : Value) (w17 : Value) (w18 : Value) (w19 : Value) (w20 : Value) (w21 : Value) (w22 : Value) (w23 : Value) (w24 : Value) (w25 : Value) (w26 : Value) (w27 : Value) (w28 : Value) (w29 : Value) (w30 : Value) (w31 : Value) (w32 : Value) (w33 : Value) (w34 : Value) (w35 : Value) (w36 : Value) (w37 : Value) (w38 : Value) (w39 : Value) (w40 : Value) (w41 : Value) (w42 : Value) (w43 : Value) (w44 : Value) (w45 : Value) (w46 : Value) (w47 : Value) (w48 : Value) (w49 : Value) (w50 : Value) (w51 : Value) (w52 : Value) (w53 : Value) (w54 : Value) (w55 : Value) (w56 : Value) (w57 : Value) (w58 : Value) (w59 : Value) (sz : Nat) : Met l yX12_compare wsX12_compare ({ frames := 2, cells := 0, slots := 0, locals := 46 }) (va_Pc [.ref a0, .int x, .int y] (Pre D K [(a0, .inr (12, [w0, w1, w2, .ref a1, w4, w5, .ref a3, w7, w8, w9, w10, w11, w12, w13, w14, w15, w16, w17, w18, w19, w20, w21, w22, w23, w24, w25, w26, w27, w28, w29, w30, w31, w32, w33, w34, w35, w36, w37, w38, w39, w40, w41, w42, w43, w44, w45, w46, w47, w48, w49, w50, w51, w52, w53, w54, w55, w56, w57, w58, w59])), (a1, .inl (K 0, 5500, .inl row0)), (a3, .inl (K 0, 558, .inl (fun _ => 0)))] sz)) (va_Qi (S := Unit) (fun (r : Int32) (_ : Unit) => (r = 0 ∧ x.toInt = -1 ∧ 1 ≤ y.toInt ∧ y.toInt ≤ 60) ∨ (r = (-1) ∧ (x.toInt ≠ -1 ∨ y.toInt < 1 ∨ 60 < y.toInt))) (fun u t => Wd D (va_A [(a0, .inr (12, [w0, w1, w2, .ref a1, w4, w5, .ref a3, w7, w8, w9, w10, w11, w12, w13, w14, w15, w16, w17, w18, w19, w20, w21, w22, w23, w24, w25, w26, w27, w28, w29, w30, w31, w32, w33, w34, w35, w36, w37, w38, w39, w40, w41, w42, w43, w44, w45, w46, w47, w48, w49, w50, w51, w52, w53, w54, w55, w56, w57, w58, w59])), (a1, .inl (K 0, 5500, .inl row0)), (a3, .inl (K 0, 558, .inl (fun _ => 0)))] sz) ((fun _ => []) u) t) (va_A [(a0, .inr (12, [w0, w1, w2, .ref a1, w4, w5, .ref a3, w7, w8, w9, w10, w11, w12, w13, w14, w15, w16, w17, w18, w19, w20, w21, w22, w23, w24, w25, w26, w27, w28, w29, w30, w31, w32, w33, w34, w35, w36, w37, w38, w39, w40, w41, w42, w43, w44, w45, w46, w47, w48, w49, w50, w51, w52, w53, w54, w55, w56, w57, w58, w59])), (a1, .inl (K 0, 5500, .inl row0)), (a3, .inl (K 0, 558, .inl (fun _ => 0)))] sz)) 0 0 (va_A [(a0, .inr (12, [w0, w1, w2, .ref a1, w4, w5, .ref a3, w7, w8, w9, w10, w11, w12, w13, w14, w15, w16, w17, w18, w19, w20, w21, w22, w23, w24, w25, w26, w27, w28, w29, w30, w31, w32, w33, w34, w35, w36, w37, w38, w39, w40, w41, w42, w43, w44, w45, w46, w47, w48, w49, w50, w51, w52, w53, w54, w55, w56, w57, w58, w59])), (a1, .inl (K 0, 5500, .inl row0)), (a3, .inl (K 0, 558, .inl (fun _ => 0)))] sz) := by
  refine Met.ofW (cc := cX12_compare) (maxL := 6) (ret := (some .int)) (by decide) rfl ?_
  intro p e s m args below meth c s₁ B hml hv
  obtain ⟨rfl, hsz, hP, hK, hD0, hN⟩ := hv
  have hx := B.exec
  have hb := B.bytes
  have hr := B.returns
  have hts := atoms_spec (ws := wsX12_compare) B.pre
  have hown : s.vm.findClass RX12 = some m.cls := findClass_of_methodNamed B.named
  have hlocks := B.notSynchronized
  subst hsz
  have hD := hD0.self (sz := s.heap.size)
  generalize hAe : va_A [(a0, .inr (12, [w0, w1, w2, .ref a1, w4, w5, .ref a3, w7, w8, w9, w10, w11, w12, w13, w14, w15, w16, w17, w18, w19, w20, w21, w22, w23, w24, w25, w26, w27, w28, w29, w30, w31, w32, w33, w34, w35, w36, w37, w38, w39, w40, w41, w42, w43, w44, w45, w46, w47, w48, w49, w50, w51, w52, w53, w54, w55, w56, w57, w58, w59])), (a1, .inl (K 0, 5500, .inl row0)), (a3, .inl (K 0, 558, .inl (fun _ => 0)))] s.heap.size = A at hD ⊢
  have hA : ∀ q : Nat, s.heap.size ≤ q → A q := fun q h => by rw [← hAe]; exact Or.inr h
  have hS : va_S A s.heap s.heap [] := va_S.rf
  have hP : va_P D vwCl [(a0, .inr (12, [w0, w1, w2, .ref a1, w4, w5, .ref a3, w7, w8, w9, w10, w11, w12, w13, w14, w15, w16, w17, w18, w19, w20, w21, w22, w23, w24, w25, w26, w27, w28, w29, w30, w31, w32, w33, w34, w35, w36, w37, w38, w39, w40, w41, w42, w43, w44, w45, w46, w47, w48, w49, w50, w51, w52, w53, w54, w55, w56, w57, w58, w59])), (a1, .inl (K 0, 5500, .inl row0)), (a3, .inl (K 0, 558, .inl (fun _ => 0)))] s.heap := hP
  have hl := lv_entry [.ref a0, .int x, .int y] (n := 6) (Nat.le_of_ble_eq_true rfl)
  rw [lg_entry_eq]
  generalize (lg_sl [.ref a0, .int x, .int y] ++ List.replicate (6 - (lg_sl [.ref a0, .int x, .int y]).length) Slot.unset).toArray = ls at hl ⊢
  have hl : lv_has ls 6 [(0, .ref a0), (1, .int x), (2, .int y)] := hl
  have hw12 : ∀ w ∈ wsX120, w ∈ wsX12_compare := fun w h => (List.mem_cons_of_mem _ (List.mem_append_right _ h))
  generalize hQ : MQ below _ _ s _ _ _ = Q
  refine lv_aload_n hx hb dX12_compare_0 rfl (lv_at hl 0 rfl) ?_
  refine lv_iconst (v := 0) hx hb dX12_compare_1 (by decide) ?_
  refine va_put (ci := 12) (v := .int 0) (ty := .int) (C := RX12) (T := TX12) (N := 60) hx hb hts hw12 tyX12 tyX12_ok nmX12 hown hK hP hD hS 0 rfl rfl 0 (by decide) (hts (.fieldLink RX12 158 "SmokeTuneModel" "thrown" "I") (List.mem_cons_of_mem _ (List.mem_append_left _ (List.mem_append_left _ (List.mem_of_getElem? (i := 0) rfl))))) (fun _ h9 => h9) rfl (by decide +kernel) (by first | rfl | decide) (by first | rfl | decide) (Nat.le_of_ble_eq_true rfl) dX12_compare_2 (fun H locs hP hD hS => ?_)
  have hP : va_P D vwCl [(a0, .inr (12, [.int 0, w1, w2, .ref a1, w4, w5, .ref a3, w7, w8, w9, w10, w11, w12, w13, w14, w15, w16, w17, w18, w19, w20, w21, w22, w23, w24, w25, w26, w27, w28, w29, w30, w31, w32, w33, w34, w35, w36, w37, w38, w39, w40, w41, w42, w43, w44, w45, w46, w47, w48, w49, w50, w51, w52, w53, w54, w55, w56, w57, w58, w59])), (a1, .inl (K 0, 5500, .inl row0)), (a3, .inl (K 0, 558, .inl (fun _ => 0)))] H := hP
  have hD : va_D A [(a0, .inr (12, [.int 0, w1, w2, .ref a1, w4, w5, .ref a3, w7, w8, w9, w10, w11, w12, w13, w14, w15, w16, w17, w18, w19, w20, w21, w22, w23, w24, w25, w26, w27, w28, w29, w30, w31, w32, w33, w34, w35, w36, w37, w38, w39, w40, w41, w42, w43, w44, w45, w46, w47, w48, w49, w50, w51, w52, w53, w54, w55, w56, w57, w58, w59])), (a1, .inl (K 0, 5500, .inl row0)), (a3, .inl (K 0, 558, .inl (fun _ => 0)))] := hD
  refine lv_aload_n hx hb dX12_compare_5 rfl (lv_at hl 0 rfl) ?_
  refine lv_iload_n hx hb dX12_compare_6 rfl (lv_at hl 1 rfl) ?_
  refine pci (va_runV (As := [.int x]) (rest := []) ⟨hx, hb, hml, hown, hts⟩ (m_isLaw l D K a0 x (.int 0) w1 w2 a1 w4 w5 (.ref a3) w7 w8 w9 w10 w11 w12 w13 w14 w15 w16 w17 w18 w19 w20 w21 w22 w23 w24 w25 w26 w27 w28 w29 w30 w31 w32 w33 w34 w35 w36 w37 w38 w39 w40 w41 w42 w43 w44 w45 w46 w47 w48 w49 w50 w51 w52 w53 w54 w55 w56 w57 w58 w59 x.toInt H.size rfl) (cwV 1 hts gX12_compare_X12_isLaw rfl rfl rfl (by decide +kernel) ⟨Nat.le_of_ble_eq_true rfl, Nat.le_of_ble_eq_true rfl⟩) (mkV hK hN (hP.sub [0, 1] rfl) (hD.sub [0, 1] (by decide) rfl) (ci := 12) (q0 := 0) rfl rfl) rfl rfl hl.1 rfl (lv_room (Nat.le_of_ble_eq_true rfl)) dX12_compare_7 ⟨Nat.le_of_ble_eq_true rfl, Nat.le_of_ble_eq_true rfl⟩) (fun r_1 hw => ?_)
  rcases hw with ⟨rfl, h_2⟩ | ⟨rfl, h_3⟩
  · refine lv_if_eq (tgt := 25) hx hb dX12_compare_10 (by decide) (fun c_4 => absurd c_4 (by decide)) (fun c_4 => ?_)
    refine lv_iload_n hx hb dX12_compare_13 rfl (lv_at hl 2 rfl) ?_
    refine lv_i2l hx hb dX12_compare_14 rfl ?_
    refine lv_topl (fun x_5 ex_5 => ?_)
    have hx_5 : x_5.toInt = y.toInt := by rw [ex_5]; exact i_wide rfl
    refine lv_lconst (v := 1) hx hb dX12_compare_15 (by decide) ?_
    refine lv_ldc2 (v := 60) hx hb hown (hts (.constantLong RX12 520 (60)) (List.mem_cons_of_mem _ (List.mem_append_left _ (List.mem_append_left _ (List.mem_of_getElem? (i := 1) rfl))))) dX12_compare_16 ?_
    refine pci (va_runS (As := [.long x_5, .long 1, .long 60]) (rest := []) ⟨hx, hb, hml, hown, hts⟩ (c_in l D K x_5 1 60 y.toInt 1 60 H.size hx_5 rfl rfl) (va_cwS 3 hts gX12_compare_X12_in rfl rfl rfl (by decide +kernel) ⟨Nat.le_of_ble_eq_true rfl, Nat.le_of_ble_eq_true rfl⟩) (mkS hK hN (hP.sub [] rfl) (hD.sub [] (by decide) rfl)) rfl rfl hl.1 rfl (lv_room (Nat.le_of_ble_eq_true rfl)) dX12_compare_19 ⟨Nat.le_of_ble_eq_true rfl, Nat.le_of_ble_eq_true rfl⟩) (fun r_6 hw => ?_)
    rcases hw with ⟨rfl, h_7, h_8⟩ | ⟨rfl, h_9⟩
    · refine lv_if_ne (tgt := 27) hx hb dX12_compare_22 (by decide) (fun c_10 => ?_) (fun c_10 => absurd c_10 (by decide))
      obtain ⟨nn, hnn, rfl⟩ : ∃ nn : Nat, nn ≤ 60 ∧ y = nI nn := nI_of2 (M := 60) (n := 60) rfl (fun q => by have := i_lt (x := y.toInt) (y := 0) rfl rfl q; omega) (Int32.le_iff_toInt_le.mpr (show y.toInt ≤ 60 by omega))
      refine lv_aload_n hx hb dX12_compare_27 rfl (lv_at hl 0 rfl) ?_
      refine lv_bipush (v := 16) hx hb dX12_compare_28 (by decide) ?_
      refine kcv (wr := []) (va_runV (As := [.int 16]) (rest := []) ⟨hx, hb, hml, hown, hts⟩ (m_keepAll_16 l D K a0 (.int 0) w1 w2 a1 w4 w5 a3 w7 w8 w9 w10 w11 w12 w13 w14 w15 w16 w17 w18 w19 w20 w21 w22 w23 w24 w25 w26 w27 w28 w29 w30 w31 w32 w33 w34 w35 w36 w37 w38 w39 w40 w41 w42 w43 w44 w45 w46 w47 w48 w49 w50 w51 w52 w53 w54 w55 w56 w57 w58 w59 row0 (fun _ => 0) H.size) (cwV 1 hts gX12_compare_X12_keepAll rfl rfl rfl (by decide +kernel) ⟨Nat.le_of_ble_eq_true rfl, Nat.le_of_ble_eq_true rfl⟩) (mkV hK hN (hP.sub [0, 1, 2] rfl) (hD.sub [0, 1, 2] (by decide) rfl) (ci := 12) (q0 := 0) rfl rfl) rfl rfl hl.1 rfl (lv_room (Nat.le_of_ble_eq_true rfl)) dX12_compare_30 ⟨Nat.le_of_ble_eq_true rfl, Nat.le_of_ble_eq_true rfl⟩) hP hD hS hA [0, 1, 2] [] rfl rfl (by decide) (by decide) (fun u_12 H locs hw hP hD hS => ?_)
      have hP : va_P D vwCl [(a0, .inr (12, [.int 0, w1, w2, .ref a1, w4, w5, .ref a3, w7, w8, w9, w10, w11, w12, w13, w14, w15, w16, w17, w18, w19, w20, w21, w22, w23, w24, w25, w26, w27, w28, w29, w30, w31, w32, w33, w34, w35, w36, w37, w38, w39, w40, w41, w42, w43, w44, w45, w46, w47, w48, w49, w50, w51, w52, w53, w54, w55, w56, w57, w58, w59])), (a1, .inl (K 0, 5500, .inl row0)), (a3, .inl (K 0, 558, .inl ((u_12.2.1 0))))] H := hP
      have hD : va_D A [(a0, .inr (12, [.int 0, w1, w2, .ref a1, w4, w5, .ref a3, w7, w8, w9, w10, w11, w12, w13, w14, w15, w16, w17, w18, w19, w20, w21, w22, w23, w24, w25, w26, w27, w28, w29, w30, w31, w32, w33, w34, w35, w36, w37, w38, w39, w40, w41, w42, w43, w44, w45, w46, w47, w48, w49, w50, w51, w52, w53, w54, w55, w56, w57, w58, w59])), (a1, .inl (K 0, 5500, .inl row0)), (a3, .inl (K 0, 558, .inl ((u_12.2.1 0))))] := hD
      refine lv_iconst (v := 0) hx hb dX12_compare_33 (by decide) ?_
      refine lv_istore_n (lv' := [(3, .int 0), (0, .ref a0), (1, .int x), (2, .int (nI nn))]) hx hb dX12_compare_34 rfl hl (by decide) rfl (fun ls hl => ?_)
      refine lv_iconst (v := 0) hx hb dX12_compare_35 (by decide) ?_
      refine lv_istore (lv' := [(4, .int 0), (3, .int 0), (0, .ref a0), (1, .int x), (2, .int (nI nn))]) hx hb dX12_compare_36 hl (by decide) rfl (fun ls hl => ?_)
      have lp_13 : ∀ (n : Nat) (i : Nat) (f : Nat → Int32) (hn : nn + 1 ≤ i + n) (hiN : i ≤ nn) (hR : RowOK f (i % 24) (i / 24)) (H : Heap) (locs : List Loc) (hP : va_P D vwCl [(a0, .inr (12, [.int 0, w1, w2, .ref a1, w4, w5, .ref a3, w7, w8, w9, w10, w11, w12, w13, w14, w15, w16, w17, w18, w19, w20, w21, w22, w23, w24, w25, w26, w27, w28, w29, w30, w31, w32, w33, w34, w35, w36, w37, w38, w39, w40, w41, w42, w43, w44, w45, w46, w47, w48, w49, w50, w51, w52, w53, w54, w55, w56, w57, w58, w59])), (a1, .inl (K 0, 5500, .inl f)), (a3, .inl (K 0, 558, .inl ((u_12.2.1 0))))] H) (hD : va_D A [(a0, .inr (12, [.int 0, w1, w2, .ref a1, w4, w5, .ref a3, w7, w8, w9, w10, w11, w12, w13, w14, w15, w16, w17, w18, w19, w20, w21, w22, w23, w24, w25, w26, w27, w28, w29, w30, w31, w32, w33, w34, w35, w36, w37, w38, w39, w40, w41, w42, w43, w44, w45, w46, w47, w48, w49, w50, w51, w52, w53, w54, w55, w56, w57, w58, w59])), (a1, .inl (K 0, 5500, .inl f)), (a3, .inl (K 0, 558, .inl ((u_12.2.1 0))))]) (hS : va_S A s.heap H locs) (ls : Array Slot) (hl : lv_has ls 6 [(4, .int (nI i)), (3, .int 0), (0, .ref a0), (1, .int x), (2, .int (nI nn))]), W p l e ({ frames := 2, cells := 0, slots := 0, locals := 46 }) s m (([.ref a0, .int x, .int (nI nn)] : List Value).toArray) below meth c H locs 0 0 Q (F0 m 38 ls []) := by
        intro n
        induction n with
        | zero =>
          intro i f hn hiN hR H locs hP hD hS ls hl
          exfalso; omega
        | succ n ih =>
          intro i f hn hiN hR H locs hP hD hS ls hl
          refine lv_iload hx hb dX12_compare_38 (lv_at hl 0 rfl) ?_
          refine lv_iload_n hx hb dX12_compare_40 rfl (lv_at hl 4 rfl) ?_
          refine lv_icmp_ge (tgt := 137) hx hb dX12_compare_41 (by decide) (fun c_14 => ?_) (fun c_14 => ?_)
          · have c_14i := i_le (x := ((nn : Nat) : Int)) (y := ((i : Nat) : Int)) (nI_toInt (by omega)) (nI_toInt (by omega)) c_14
            refine lv_aload_n hx hb dX12_compare_137 rfl (lv_at hl 2 rfl) ?_
            refine lv_bipush (v := 16) hx hb dX12_compare_138 (by decide) ?_
            refine kcv (wr := []) (va_runV (As := [.int 16]) (rest := []) ⟨hx, hb, hml, hown, hts⟩ (m_putBack_16 l D K a0 (.int 0) w1 w2 a1 w4 w5 a3 w7 w8 w9 w10 w11 w12 w13 w14 w15 w16 w17 w18 w19 w20 w21 w22 w23 w24 w25 w26 w27 w28 w29 w30 w31 w32 w33 w34 w35 w36 w37 w38 w39 w40 w41 w42 w43 w44 w45 w46 w47 w48 w49 w50 w51 w52 w53 w54 w55 w56 w57 w58 w59 f (u_12.2.1 0) H.size) (cwV 1 hts gX12_compare_X12_putBack rfl rfl rfl (by decide +kernel) ⟨Nat.le_of_ble_eq_true rfl, Nat.le_of_ble_eq_true rfl⟩) (mkV hK hN (hP.sub [0, 1, 2] rfl) (hD.sub [0, 1, 2] (by decide) rfl) (ci := 12) (q0 := 0) rfl rfl) rfl rfl hl.1 rfl (lv_room (Nat.le_of_ble_eq_true rfl)) dX12_compare_140 ⟨Nat.le_of_ble_eq_true rfl, Nat.le_of_ble_eq_true rfl⟩) hP hD hS hA [0, 1, 2] [] rfl rfl (by decide) (by decide) (fun u_16 H locs hw hP hD hS => ?_)
            have hP : va_P D vwCl [(a0, .inr (12, [.int 0, w1, w2, .ref a1, w4, w5, .ref a3, w7, w8, w9, w10, w11, w12, w13, w14, w15, w16, w17, w18, w19, w20, w21, w22, w23, w24, w25, w26, w27, w28, w29, w30, w31, w32, w33, w34, w35, w36, w37, w38, w39, w40, w41, w42, w43, w44, w45, w46, w47, w48, w49, w50, w51, w52, w53, w54, w55, w56, w57, w58, w59])), (a1, .inl (K 0, 5500, .inl ((u_16.2.1 0)))), (a3, .inl (K 0, 558, .inl ((u_12.2.1 0))))] H := hP
            have hD : va_D A [(a0, .inr (12, [.int 0, w1, w2, .ref a1, w4, w5, .ref a3, w7, w8, w9, w10, w11, w12, w13, w14, w15, w16, w17, w18, w19, w20, w21, w22, w23, w24, w25, w26, w27, w28, w29, w30, w31, w32, w33, w34, w35, w36, w37, w38, w39, w40, w41, w42, w43, w44, w45, w46, w47, w48, w49, w50, w51, w52, w53, w54, w55, w56, w57, w58, w59])), (a1, .inl (K 0, 5500, .inl ((u_16.2.1 0)))), (a3, .inl (K 0, 558, .inl ((u_12.2.1 0))))] := hD
            refine lv_iload_n hx hb dX12_compare_143 rfl (lv_at hl 1 rfl) ?_
            subst hQ
            exact W.iret (v := 0) hx hb hr (fun t ht hW => ⟨⟨0, (), rfl, (by first | exact Or.inl (⟨rfl, by first | omega | decide | (subst_vars; assumption) | (subst_vars; symm; assumption), by first | omega | decide | (subst_vars; assumption) | (subst_vars; symm; assumption), by first | omega | decide | (subst_vars; assumption) | (subst_vars; symm; assumption)⟩)), Wd.nil⟩, hS.F ht⟩) hS.2.2 dX12_compare_144
          · have c_14i := i_nle (x := ((nn : Nat) : Int)) (y := ((i : Nat) : Int)) (nI_toInt (by omega)) (nI_toInt (by omega)) c_14
            refine lv_iconst (v := 0) hx hb dX12_compare_44 (by decide) ?_
            refine lv_istore (lv' := [(5, .int 0), (4, .int (nI i)), (3, .int 0), (0, .ref a0), (1, .int x), (2, .int (nI nn))]) hx hb dX12_compare_45 hl (by decide) rfl (fun ls hl => ?_)
            refine lv_iload hx hb dX12_compare_47 (lv_at hl 0 rfl) ?_
            refine lv_aload_n hx hb dX12_compare_49 rfl (lv_at hl 3 rfl) ?_
            refine va_get (ci := 12) (v := .ref a1) (C := RX12) (T := TX12) (N := 60) hx hb hts hw12 hown hK hP 0 rfl rfl 3 (by decide) (hts (.fieldLink RX12 13 "SmokeTuneModel" "row" "[I") (List.mem_cons_of_mem _ (List.mem_append_left _ (List.mem_append_left _ (List.mem_of_getElem? (i := 2) rfl))))) (fun _ h9 => h9) rfl dX12_compare_50 ?_
            refine lv_iconst (v := 0) hx hb dX12_compare_53 (by decide) ?_
            refine va_iald hx hb hK hP 1 0 rfl rfl (i_in (x := 0) rfl (by omega)) dX12_compare_54 ?_
            refine lv_topi (fun x_17 ex_17 => ?_)
            obtain rfl : x_17 = 0 := ex_17.trans hR.1
            refine lv_icmp_ge (tgt := 127) hx hb dX12_compare_55 (by decide) (fun c_18 => ?_) (fun c_18 => absurd (by decide) c_18)
            refine lv_aload_n hx hb dX12_compare_127 rfl (lv_at hl 3 rfl) ?_
            refine kcv (wr := [(a3, .inl (K 0, 558, .inl ((u_12.2.1 0))))]) (va_runV (As := []) (rest := []) ⟨hx, hb, hml, hown, hts⟩ (m_goOn l D K a0 (.int 0) w1 w2 a1 w4 w5 (.ref a3) w7 w8 w9 w10 w11 w12 w13 w14 w15 w16 w17 w18 w19 w20 w21 w22 w23 w24 w25 w26 w27 w28 w29 w30 w31 w32 w33 w34 w35 w36 w37 w38 w39 w40 w41 w42 w43 w44 w45 w46 w47 w48 w49 w50 w51 w52 w53 w54 w55 w56 w57 w58 w59 f (i % 24) (i / 24) H.size hR (by omega) (by omega)) (cwV 0 hts gX12_compare_X12_goOn rfl rfl rfl (by decide +kernel) ⟨Nat.le_of_ble_eq_true rfl, Nat.le_of_ble_eq_true rfl⟩) (mkV hK hN (hP.sub [0, 1] rfl) (hD.sub [0, 1] (by decide) rfl) (ci := 12) (q0 := 0) rfl rfl) rfl rfl hl.1 rfl (lv_room (Nat.le_of_ble_eq_true rfl)) dX12_compare_128 ⟨Nat.le_of_ble_eq_true rfl, Nat.le_of_ble_eq_true rfl⟩) hP hD hS hA [0, 1] [2] rfl rfl (by decide) (by decide) (fun u_20 H locs hw hP hD hS => ?_)
            have hP : va_P D vwCl [(a3, .inl (K 0, 558, .inl ((u_12.2.1 0)))), (a0, .inr (12, [.int 0, w1, w2, .ref a1, w4, w5, .ref a3, w7, w8, w9, w10, w11, w12, w13, w14, w15, w16, w17, w18, w19, w20, w21, w22, w23, w24, w25, w26, w27, w28, w29, w30, w31, w32, w33, w34, w35, w36, w37, w38, w39, w40, w41, w42, w43, w44, w45, w46, w47, w48, w49, w50, w51, w52, w53, w54, w55, w56, w57, w58, w59])), (a1, .inl (K 0, 5500, .inl ((u_20.2.1 0))))] H := hP
            have hD : va_D A [(a3, .inl (K 0, 558, .inl ((u_12.2.1 0)))), (a0, .inr (12, [.int 0, w1, w2, .ref a1, w4, w5, .ref a3, w7, w8, w9, w10, w11, w12, w13, w14, w15, w16, w17, w18, w19, w20, w21, w22, w23, w24, w25, w26, w27, w28, w29, w30, w31, w32, w33, w34, w35, w36, w37, w38, w39, w40, w41, w42, w43, w44, w45, w46, w47, w48, w49, w50, w51, w52, w53, w54, w55, w56, w57, w58, w59])), (a1, .inl (K 0, 5500, .inl ((u_20.2.1 0))))] := hD
            have hR_21 := hw
            refine lv_iinc (v := nI (i + 1)) (lv' := [(4, .int (nI (i + 1))), (5, .int 0), (3, .int 0), (0, .ref a0), (1, .int x), (2, .int (nI nn))]) hx hb dX12_compare_131 hl (k := 1) rfl (nI_1 i) (by decide) rfl (fun ls hl => ?_)
            refine lv_goto (tgt := 38) hx hb dX12_compare_134 (by decide) ?_
            exact ih (i + 1) (u_20.2.1 0) (by omega) (by omega) (by have := hR_21; rw [show (if i % 24 = 23 then 0 else i % 24 + 1) = (i + 1) % 24 by split <;> omega, show (if i % 24 = 23 then i / 24 + 1 else i / 24) = (i + 1) / 24 by split <;> omega] at this; exact this) _ _ (hP.sub [1, 2, 0] rfl) (hD.sub [1, 2, 0] (by decide) rfl) hS ls (lv_sub hl [0, 2, 3, 4, 5] rfl)
      exact lp_13 (nn + 1) 0 row0 (by omega) (by omega) row0_ok _ _ hP hD hS ls (lv_sub hl [0, 1, 2, 3, 4] rfl)
    · refine lv_if_ne (tgt := 27) hx hb dX12_compare_22 (by decide) (fun c_22 => absurd (by decide) c_22) (fun c_22 => ?_)
      refine lv_iconst (v := (-1)) hx hb dX12_compare_25 (by decide) ?_
      subst hQ
      exact W.iret (v := (-1)) hx hb hr (fun t ht hW => ⟨⟨(-1), (), rfl, (by first | exact Or.inr (⟨rfl, by first | omega | decide | (subst_vars; assumption) | (subst_vars; symm; assumption)⟩)), Wd.nil⟩, hS.F ht⟩) hS.2.2 dX12_compare_26
  · refine lv_if_eq (tgt := 25) hx hb dX12_compare_10 (by decide) (fun c_23 => ?_) (fun c_23 => absurd (by decide) c_23)
    refine lv_iconst (v := (-1)) hx hb dX12_compare_25 (by decide) ?_
    subst hQ
    exact W.iret (v := (-1)) hx hb hr (fun t ht hW => ⟨⟨(-1), (), rfl, (by first | exact Or.inr (⟨rfl, by first | omega | decide | (subst_vars; assumption) | (subst_vars; symm; assumption)⟩)), Wd.nil⟩, hS.F ht⟩) hS.2.2 dX12_compare_26
set_option maxHeartbeats 4000000 in
set_option maxRecDepth 100000 in
theorem r_days (l : Launch) (D : va_G) (K : Nat → ClassId) (a0 : Nat) (x : Int32) (y : Int32) (w0 : Value) (w1 : Value) (a2 : Nat) (a1 : Nat) (w4 : Value) (w5 : Value) (a3 : Nat) (w7 : Value) (w8 : Value) (w9 : Value) (w10 : Value) (w11 : Value) (w12 : Value) (w13 : Value) (w14 : Value) (w15 : Value) (w16 : Value) (w17 : Value) (w18 : Value) (w19 : Value) (w20 : Value) (w21 : Value) (w22 : Value) (w23 : Value) (w24 : Value) (w25 : Value) (w26 : Value) (w27 : Value) (w28 : Value) (w29 : Value) (w30 : Value) (w31 : Value) (w32 : Value) (w33 : Value) (w34 : Value) (w35 : Value) (w36 : Value) (w37 : Value) (w38 : Value) (w39 : Value) (w40 : Value) (w41 : Value) (w42 : Value) (w43 : Value) (w44 : Value) (w45 : Value) (w46 : Value) (w47 : Value) (w48 : Value) (w49 : Value) (w50 : Value) (w51 : Value) (w52 : Value) (w53 : Value) (w54 : Value) (w55 : Value) (w56 : Value) (w57 : Value) (w58 : Value) (w59 : Value) (sz : Nat) : Met l yX12_days wsX12_days ({ frames := 3, cells := 0, slots := 0, locals := 64 }) (va_Pc [.ref a0, .int x, .int y] (Pre D K [(a0, .inr (12, [w0, w1, .ref a2, .ref a1, w4, w5, .ref a3, w7, w8, w9, w10, w11, w12, w13, w14, w15, w16, w17, w18, w19, w20, w21, w22, w23, w24, w25, w26, w27, w28, w29, w30, w31, w32, w33, w34, w35, w36, w37, w38, w39, w40, w41, w42, w43, w44, w45, w46, w47, w48, w49, w50, w51, w52, w53, w54, w55, w56, w57, w58, w59])), (a1, .inl (K 0, 5500, .inl row0)), (a2, .inl (K 0, 7, .inl (fun _ => 0))), (a3, .inl (K 0, 558, .inl (fun _ => 0)))] sz)) (va_Qi (S := Unit) (fun (r : Int32) (_ : Unit) => (r = y ∧ 0 ≤ x.toInt ∧ x.toInt ≤ 1000000 ∧ 1 ≤ y.toInt ∧ y.toInt ≤ 100) ∨ (r = (-1) ∧ (x.toInt < 0 ∨ 1000000 < x.toInt ∨ y.toInt < 1 ∨ 100 < y.toInt))) (fun u t => Wd D (va_A [(a0, .inr (12, [w0, w1, .ref a2, .ref a1, w4, w5, .ref a3, w7, w8, w9, w10, w11, w12, w13, w14, w15, w16, w17, w18, w19, w20, w21, w22, w23, w24, w25, w26, w27, w28, w29, w30, w31, w32, w33, w34, w35, w36, w37, w38, w39, w40, w41, w42, w43, w44, w45, w46, w47, w48, w49, w50, w51, w52, w53, w54, w55, w56, w57, w58, w59])), (a1, .inl (K 0, 5500, .inl row0)), (a2, .inl (K 0, 7, .inl (fun _ => 0))), (a3, .inl (K 0, 558, .inl (fun _ => 0)))] sz) ((fun _ => []) u) t) (va_A [(a0, .inr (12, [w0, w1, .ref a2, .ref a1, w4, w5, .ref a3, w7, w8, w9, w10, w11, w12, w13, w14, w15, w16, w17, w18, w19, w20, w21, w22, w23, w24, w25, w26, w27, w28, w29, w30, w31, w32, w33, w34, w35, w36, w37, w38, w39, w40, w41, w42, w43, w44, w45, w46, w47, w48, w49, w50, w51, w52, w53, w54, w55, w56, w57, w58, w59])), (a1, .inl (K 0, 5500, .inl row0)), (a2, .inl (K 0, 7, .inl (fun _ => 0))), (a3, .inl (K 0, 558, .inl (fun _ => 0)))] sz)) 0 0 (va_A [(a0, .inr (12, [w0, w1, .ref a2, .ref a1, w4, w5, .ref a3, w7, w8, w9, w10, w11, w12, w13, w14, w15, w16, w17, w18, w19, w20, w21, w22, w23, w24, w25, w26, w27, w28, w29, w30, w31, w32, w33, w34, w35, w36, w37, w38, w39, w40, w41, w42, w43, w44, w45, w46, w47, w48, w49, w50, w51, w52, w53, w54, w55, w56, w57, w58, w59])), (a1, .inl (K 0, 5500, .inl row0)), (a2, .inl (K 0, 7, .inl (fun _ => 0))), (a3, .inl (K 0, 558, .inl (fun _ => 0)))] sz) := by
  refine Met.ofW (cc := cX12_days) (maxL := 7) (ret := (some .int)) (by decide) rfl ?_
  intro p e s m args below meth c s₁ B hml hv
  obtain ⟨rfl, hsz, hP, hK, hD0, hN⟩ := hv
  have hx := B.exec
  have hb := B.bytes
  have hr := B.returns
  have hts := atoms_spec (ws := wsX12_days) B.pre
  have hown : s.vm.findClass RX12 = some m.cls := findClass_of_methodNamed B.named
  have hlocks := B.notSynchronized
  subst hsz
  have hD := hD0.self (sz := s.heap.size)
  generalize hAe : va_A [(a0, .inr (12, [w0, w1, .ref a2, .ref a1, w4, w5, .ref a3, w7, w8, w9, w10, w11, w12, w13, w14, w15, w16, w17, w18, w19, w20, w21, w22, w23, w24, w25, w26, w27, w28, w29, w30, w31, w32, w33, w34, w35, w36, w37, w38, w39, w40, w41, w42, w43, w44, w45, w46, w47, w48, w49, w50, w51, w52, w53, w54, w55, w56, w57, w58, w59])), (a1, .inl (K 0, 5500, .inl row0)), (a2, .inl (K 0, 7, .inl (fun _ => 0))), (a3, .inl (K 0, 558, .inl (fun _ => 0)))] s.heap.size = A at hD ⊢
  have hA : ∀ q : Nat, s.heap.size ≤ q → A q := fun q h => by rw [← hAe]; exact Or.inr h
  have hS : va_S A s.heap s.heap [] := va_S.rf
  have hP : va_P D vwCl [(a0, .inr (12, [w0, w1, .ref a2, .ref a1, w4, w5, .ref a3, w7, w8, w9, w10, w11, w12, w13, w14, w15, w16, w17, w18, w19, w20, w21, w22, w23, w24, w25, w26, w27, w28, w29, w30, w31, w32, w33, w34, w35, w36, w37, w38, w39, w40, w41, w42, w43, w44, w45, w46, w47, w48, w49, w50, w51, w52, w53, w54, w55, w56, w57, w58, w59])), (a1, .inl (K 0, 5500, .inl row0)), (a2, .inl (K 0, 7, .inl (fun _ => 0))), (a3, .inl (K 0, 558, .inl (fun _ => 0)))] s.heap := hP
  have hl := lv_entry [.ref a0, .int x, .int y] (n := 7) (Nat.le_of_ble_eq_true rfl)
  rw [lg_entry_eq]
  generalize (lg_sl [.ref a0, .int x, .int y] ++ List.replicate (7 - (lg_sl [.ref a0, .int x, .int y]).length) Slot.unset).toArray = ls at hl ⊢
  have hl : lv_has ls 7 [(0, .ref a0), (1, .int x), (2, .int y)] := hl
  have hw12 : ∀ w ∈ wsX120, w ∈ wsX12_days := fun w h => (List.mem_cons_of_mem _ (List.mem_append_right _ h))
  generalize hQ : MQ below _ _ s _ _ _ = Q
  refine lv_aload_n hx hb dX12_days_0 rfl (lv_at hl 0 rfl) ?_
  refine lv_iconst (v := 0) hx hb dX12_days_1 (by decide) ?_
  refine va_put (ci := 12) (v := .int 0) (ty := .int) (C := RX12) (T := TX12) (N := 60) hx hb hts hw12 tyX12 tyX12_ok nmX12 hown hK hP hD hS 0 rfl rfl 0 (by decide) (hts (.fieldLink RX12 158 "SmokeTuneModel" "thrown" "I") (List.mem_cons_of_mem _ (List.mem_append_left _ (List.mem_append_left _ (List.mem_of_getElem? (i := 0) rfl))))) (fun _ h9 => h9) rfl (by decide +kernel) (by first | rfl | decide) (by first | rfl | decide) (Nat.le_of_ble_eq_true rfl) dX12_days_2 (fun H locs hP hD hS => ?_)
  have hP : va_P D vwCl [(a0, .inr (12, [.int 0, w1, .ref a2, .ref a1, w4, w5, .ref a3, w7, w8, w9, w10, w11, w12, w13, w14, w15, w16, w17, w18, w19, w20, w21, w22, w23, w24, w25, w26, w27, w28, w29, w30, w31, w32, w33, w34, w35, w36, w37, w38, w39, w40, w41, w42, w43, w44, w45, w46, w47, w48, w49, w50, w51, w52, w53, w54, w55, w56, w57, w58, w59])), (a1, .inl (K 0, 5500, .inl row0)), (a2, .inl (K 0, 7, .inl (fun _ => 0))), (a3, .inl (K 0, 558, .inl (fun _ => 0)))] H := hP
  have hD : va_D A [(a0, .inr (12, [.int 0, w1, .ref a2, .ref a1, w4, w5, .ref a3, w7, w8, w9, w10, w11, w12, w13, w14, w15, w16, w17, w18, w19, w20, w21, w22, w23, w24, w25, w26, w27, w28, w29, w30, w31, w32, w33, w34, w35, w36, w37, w38, w39, w40, w41, w42, w43, w44, w45, w46, w47, w48, w49, w50, w51, w52, w53, w54, w55, w56, w57, w58, w59])), (a1, .inl (K 0, 5500, .inl row0)), (a2, .inl (K 0, 7, .inl (fun _ => 0))), (a3, .inl (K 0, 558, .inl (fun _ => 0)))] := hD
  refine lv_iload_n hx hb dX12_days_5 rfl (lv_at hl 1 rfl) ?_
  refine lv_i2l hx hb dX12_days_6 rfl ?_
  refine lv_topl (fun x_1 ex_1 => ?_)
  have hx_1 : x_1.toInt = x.toInt := by rw [ex_1]; exact i_wide rfl
  refine lv_lconst (v := 0) hx hb dX12_days_7 (by decide) ?_
  refine lv_ldc2 (v := 1000000) hx hb hown (hts (.constantLong RX12 268 (1000000)) (List.mem_cons_of_mem _ (List.mem_append_left _ (List.mem_append_left _ (List.mem_of_getElem? (i := 1) rfl))))) dX12_days_8 ?_
  refine pci (va_runS (As := [.long x_1, .long 0, .long 1000000]) (rest := []) ⟨hx, hb, hml, hown, hts⟩ (c_in l D K x_1 0 1000000 x.toInt 0 1000000 H.size hx_1 rfl rfl) (va_cwS 3 hts gX12_days_X12_in rfl rfl rfl (by decide +kernel) ⟨Nat.le_of_ble_eq_true rfl, Nat.le_of_ble_eq_true rfl⟩) (mkS hK hN (hP.sub [] rfl) (hD.sub [] (by decide) rfl)) rfl rfl hl.1 rfl (lv_room (Nat.le_of_ble_eq_true rfl)) dX12_days_11 ⟨Nat.le_of_ble_eq_true rfl, Nat.le_of_ble_eq_true rfl⟩) (fun r_2 hw => ?_)
  rcases hw with ⟨rfl, h_3, h_4⟩ | ⟨rfl, h_5⟩
  · refine lv_if_eq (tgt := 29) hx hb dX12_days_14 (by decide) (fun c_6 => absurd c_6 (by decide)) (fun c_6 => ?_)
    refine lv_iload_n hx hb dX12_days_17 rfl (lv_at hl 2 rfl) ?_
    refine lv_i2l hx hb dX12_days_18 rfl ?_
    refine lv_topl (fun x_7 ex_7 => ?_)
    have hx_7 : x_7.toInt = y.toInt := by rw [ex_7]; exact i_wide rfl
    refine lv_lconst (v := 1) hx hb dX12_days_19 (by decide) ?_
    refine lv_ldc2 (v := 100) hx hb hown (hts (.constantLong RX12 562 (100)) (List.mem_cons_of_mem _ (List.mem_append_left _ (List.mem_append_left _ (List.mem_of_getElem? (i := 2) rfl))))) dX12_days_20 ?_
    refine pci (va_runS (As := [.long x_7, .long 1, .long 100]) (rest := []) ⟨hx, hb, hml, hown, hts⟩ (c_in l D K x_7 1 100 y.toInt 1 100 H.size hx_7 rfl rfl) (va_cwS 3 hts gX12_days_X12_in rfl rfl rfl (by decide +kernel) ⟨Nat.le_of_ble_eq_true rfl, Nat.le_of_ble_eq_true rfl⟩) (mkS hK hN (hP.sub [] rfl) (hD.sub [] (by decide) rfl)) rfl rfl hl.1 rfl (lv_room (Nat.le_of_ble_eq_true rfl)) dX12_days_23 ⟨Nat.le_of_ble_eq_true rfl, Nat.le_of_ble_eq_true rfl⟩) (fun r_8 hw => ?_)
    rcases hw with ⟨rfl, h_9, h_10⟩ | ⟨rfl, h_11⟩
    · refine lv_if_ne (tgt := 35) hx hb dX12_days_26 (by decide) (fun c_12 => ?_) (fun c_12 => absurd c_12 (by decide))
      obtain ⟨nn, hnn, rfl⟩ : ∃ nn : Nat, nn ≤ 100 ∧ y = nI nn := nI_of2 (M := 100) (n := 100) rfl (fun q => by have := i_lt (x := y.toInt) (y := 0) rfl rfl q; omega) (Int32.le_iff_toInt_le.mpr (show y.toInt ≤ 100 by omega))
      refine lv_aload_n hx hb dX12_days_35 rfl (lv_at hl 0 rfl) ?_
      refine lv_bipush (v := 16) hx hb dX12_days_36 (by decide) ?_
      refine kcv (wr := [(a2, .inl (K 0, 7, .inl (fun _ => 0)))]) (va_runV (As := [.int 16]) (rest := []) ⟨hx, hb, hml, hown, hts⟩ (m_keepAll_16 l D K a0 (.int 0) w1 (.ref a2) a1 w4 w5 a3 w7 w8 w9 w10 w11 w12 w13 w14 w15 w16 w17 w18 w19 w20 w21 w22 w23 w24 w25 w26 w27 w28 w29 w30 w31 w32 w33 w34 w35 w36 w37 w38 w39 w40 w41 w42 w43 w44 w45 w46 w47 w48 w49 w50 w51 w52 w53 w54 w55 w56 w57 w58 w59 row0 (fun _ => 0) H.size) (cwV 1 hts gX12_days_X12_keepAll rfl rfl rfl (by decide +kernel) ⟨Nat.le_of_ble_eq_true rfl, Nat.le_of_ble_eq_true rfl⟩) (mkV hK hN (hP.sub [0, 1, 3] rfl) (hD.sub [0, 1, 3] (by decide) rfl) (ci := 12) (q0 := 0) rfl rfl) rfl rfl hl.1 rfl (lv_room (Nat.le_of_ble_eq_true rfl)) dX12_days_38 ⟨Nat.le_of_ble_eq_true rfl, Nat.le_of_ble_eq_true rfl⟩) hP hD hS hA [0, 1, 3] [2] rfl rfl (by decide) (by decide) (fun u_14 H locs hw hP hD hS => ?_)
      have hP : va_P D vwCl [(a2, .inl (K 0, 7, .inl (fun _ => 0))), (a0, .inr (12, [.int 0, w1, .ref a2, .ref a1, w4, w5, .ref a3, w7, w8, w9, w10, w11, w12, w13, w14, w15, w16, w17, w18, w19, w20, w21, w22, w23, w24, w25, w26, w27, w28, w29, w30, w31, w32, w33, w34, w35, w36, w37, w38, w39, w40, w41, w42, w43, w44, w45, w46, w47, w48, w49, w50, w51, w52, w53, w54, w55, w56, w57, w58, w59])), (a1, .inl (K 0, 5500, .inl row0)), (a3, .inl (K 0, 558, .inl ((u_14.2.1 0))))] H := hP
      have hD : va_D A [(a2, .inl (K 0, 7, .inl (fun _ => 0))), (a0, .inr (12, [.int 0, w1, .ref a2, .ref a1, w4, w5, .ref a3, w7, w8, w9, w10, w11, w12, w13, w14, w15, w16, w17, w18, w19, w20, w21, w22, w23, w24, w25, w26, w27, w28, w29, w30, w31, w32, w33, w34, w35, w36, w37, w38, w39, w40, w41, w42, w43, w44, w45, w46, w47, w48, w49, w50, w51, w52, w53, w54, w55, w56, w57, w58, w59])), (a1, .inl (K 0, 5500, .inl row0)), (a3, .inl (K 0, 558, .inl ((u_14.2.1 0))))] := hD
      refine lv_aload_n hx hb dX12_days_41 rfl (lv_at hl 0 rfl) ?_
      refine lv_iload_n hx hb dX12_days_42 rfl (lv_at hl 1 rfl) ?_
      refine lv_i2l hx hb dX12_days_43 rfl ?_
      refine lv_topl (fun x_15 ex_15 => ?_)
      have hx_15 : x_15.toInt = x.toInt := by rw [ex_15]; exact i_wide rfl
      refine va_put (ci := 12) (v := .long x_15) (ty := .long) (C := RX12) (T := TX12) (N := 60) hx hb hts hw12 tyX12 tyX12_ok nmX12 hown hK hP hD hS 1 rfl rfl 56 (by decide) (hts (.fieldLink RX12 553 "SmokeTuneModel" "state" "J") (List.mem_cons_of_mem _ (List.mem_append_left _ (List.mem_append_left _ (List.mem_of_getElem? (i := 3) rfl))))) (fun _ h9 => h9) rfl (by decide +kernel) (by first | rfl | decide) (by first | rfl | decide) (Nat.le_of_ble_eq_true rfl) dX12_days_44 (fun H locs hP hD hS => ?_)
      have hP : va_P D vwCl [(a2, .inl (K 0, 7, .inl (fun _ => 0))), (a0, .inr (12, [.int 0, w1, .ref a2, .ref a1, w4, w5, .ref a3, w7, w8, w9, w10, w11, w12, w13, w14, w15, w16, w17, w18, w19, w20, w21, w22, w23, w24, w25, w26, w27, w28, w29, w30, w31, w32, w33, w34, w35, w36, w37, w38, w39, w40, w41, w42, w43, w44, w45, w46, w47, w48, w49, w50, w51, w52, w53, w54, w55, .long x_15, w57, w58, w59])), (a1, .inl (K 0, 5500, .inl row0)), (a3, .inl (K 0, 558, .inl ((u_14.2.1 0))))] H := hP
      have hD : va_D A [(a2, .inl (K 0, 7, .inl (fun _ => 0))), (a0, .inr (12, [.int 0, w1, .ref a2, .ref a1, w4, w5, .ref a3, w7, w8, w9, w10, w11, w12, w13, w14, w15, w16, w17, w18, w19, w20, w21, w22, w23, w24, w25, w26, w27, w28, w29, w30, w31, w32, w33, w34, w35, w36, w37, w38, w39, w40, w41, w42, w43, w44, w45, w46, w47, w48, w49, w50, w51, w52, w53, w54, w55, .long x_15, w57, w58, w59])), (a1, .inl (K 0, 5500, .inl row0)), (a3, .inl (K 0, 558, .inl ((u_14.2.1 0))))] := hD
      refine lv_aload_n hx hb dX12_days_47 rfl (lv_at hl 0 rfl) ?_
      refine va_get (ci := 12) (v := .ref a1) (C := RX12) (T := TX12) (N := 60) hx hb hts hw12 hown hK hP 1 rfl rfl 3 (by decide) (hts (.fieldLink RX12 13 "SmokeTuneModel" "row" "[I") (List.mem_cons_of_mem _ (List.mem_append_left _ (List.mem_append_left _ (List.mem_of_getElem? (i := 4) rfl))))) (fun _ h9 => h9) rfl dX12_days_48 ?_
      refine lv_bipush (v := 10) hx hb dX12_days_51 (by decide) ?_
      refine va_iald hx hb hK hP 2 0 rfl rfl (i_in (x := 10) rfl (by omega)) dX12_days_53 ?_
      refine lv_topi (fun x_16 ex_16 => ?_)
      obtain rfl : x_16 = 0 := ex_16.trans (by first | rfl | decide | exact rfl)
      refine lv_istore_n (lv' := [(3, .int 0), (0, .ref a0), (1, .int x), (2, .int (nI nn))]) hx hb dX12_days_54 rfl hl (by decide) rfl (fun ls hl => ?_)
      refine lv_iconst (v := 0) hx hb dX12_days_55 (by decide) ?_
      refine lv_istore (lv' := [(4, .int 0), (3, .int 0), (0, .ref a0), (1, .int x), (2, .int (nI nn))]) hx hb dX12_days_56 hl (by decide) rfl (fun ls hl => ?_)
      refine lv_iconst (v := 0) hx hb dX12_days_58 (by decide) ?_
      refine lv_istore (lv' := [(5, .int 0), (4, .int 0), (3, .int 0), (0, .ref a0), (1, .int x), (2, .int (nI nn))]) hx hb dX12_days_59 hl (by decide) rfl (fun ls hl => ?_)
      have lp_17 : ∀ (n : Nat) (i : Nat) (f : Nat → Int32) (hn : nn + 1 ≤ i + n) (hiN : i ≤ nn) (hR : RowOK f (i % 24) (i / 24)) (H : Heap) (locs : List Loc) (hP : va_P D vwCl [(a2, .inl (K 0, 7, .inl (fun _ => 0))), (a0, .inr (12, [.int 0, w1, .ref a2, .ref a1, w4, w5, .ref a3, w7, w8, w9, w10, w11, w12, w13, w14, w15, w16, w17, w18, w19, w20, w21, w22, w23, w24, w25, w26, w27, w28, w29, w30, w31, w32, w33, w34, w35, w36, w37, w38, w39, w40, w41, w42, w43, w44, w45, w46, w47, w48, w49, w50, w51, w52, w53, w54, w55, .long x_15, w57, w58, w59])), (a1, .inl (K 0, 5500, .inl f)), (a3, .inl (K 0, 558, .inl ((u_14.2.1 0))))] H) (hD : va_D A [(a2, .inl (K 0, 7, .inl (fun _ => 0))), (a0, .inr (12, [.int 0, w1, .ref a2, .ref a1, w4, w5, .ref a3, w7, w8, w9, w10, w11, w12, w13, w14, w15, w16, w17, w18, w19, w20, w21, w22, w23, w24, w25, w26, w27, w28, w29, w30, w31, w32, w33, w34, w35, w36, w37, w38, w39, w40, w41, w42, w43, w44, w45, w46, w47, w48, w49, w50, w51, w52, w53, w54, w55, .long x_15, w57, w58, w59])), (a1, .inl (K 0, 5500, .inl f)), (a3, .inl (K 0, 558, .inl ((u_14.2.1 0))))]) (hS : va_S A s.heap H locs) (ls : Array Slot) (hl : lv_has ls 7 [(5, .int (nI i)), (4, .int (nI i)), (3, .int 0), (0, .ref a0), (1, .int x), (2, .int (nI nn))]), W p l e ({ frames := 3, cells := 0, slots := 0, locals := 64 }) s m (([.ref a0, .int x, .int (nI nn)] : List Value).toArray) below meth c H locs 0 0 Q (F0 m 61 ls []) := by
        intro n
        induction n with
        | zero =>
          intro i f hn hiN hR H locs hP hD hS ls hl
          exfalso; omega
        | succ n ih =>
          intro i f hn hiN hR H locs hP hD hS ls hl
          refine lv_iload hx hb dX12_days_61 (lv_at hl 0 rfl) ?_
          refine lv_iload_n hx hb dX12_days_63 rfl (lv_at hl 5 rfl) ?_
          refine lv_icmp_ge (tgt := 133) hx hb dX12_days_64 (by decide) (fun c_18 => ?_) (fun c_18 => ?_)
          · have c_18i := i_le (x := ((nn : Nat) : Int)) (y := ((i : Nat) : Int)) (nI_toInt (by omega)) (nI_toInt (by omega)) c_18
            refine lv_aload_n hx hb dX12_days_133 rfl (lv_at hl 3 rfl) ?_
            refine lv_aload_n hx hb dX12_days_134 rfl (lv_at hl 3 rfl) ?_
            refine va_get (ci := 12) (v := .ref a1) (C := RX12) (T := TX12) (N := 60) hx hb hts hw12 hown hK hP 1 rfl rfl 3 (by decide) (hts (.fieldLink RX12 13 "SmokeTuneModel" "row" "[I") (List.mem_cons_of_mem _ (List.mem_append_left _ (List.mem_append_left _ (List.mem_of_getElem? (i := 4) rfl))))) (fun _ h9 => h9) rfl dX12_days_135 ?_
            refine lv_iconst (v := 0) hx hb dX12_days_138 (by decide) ?_
            refine va_iald hx hb hK hP 2 0 rfl rfl (i_in (x := 0) rfl (by omega)) dX12_days_139 ?_
            refine lv_topi (fun x_19 ex_19 => ?_)
            obtain rfl : x_19 = 0 := ex_19.trans hR.1
            refine va_put (ci := 12) (v := .int 0) (ty := .int) (C := RX12) (T := TX12) (N := 60) hx hb hts hw12 tyX12 tyX12_ok nmX12 hown hK hP hD hS 1 rfl rfl 59 (by decide) (hts (.fieldLink RX12 155 "SmokeTuneModel" "nDrawn" "I") (List.mem_cons_of_mem _ (List.mem_append_left _ (List.mem_append_left _ (List.mem_of_getElem? (i := 5) rfl))))) (fun _ h9 => h9) rfl (by decide +kernel) (by first | rfl | decide) (by first | rfl | decide) (Nat.le_of_ble_eq_true rfl) dX12_days_140 (fun H locs hP hD hS => ?_)
            have hP : va_P D vwCl [(a2, .inl (K 0, 7, .inl (fun _ => 0))), (a0, .inr (12, [.int 0, w1, .ref a2, .ref a1, w4, w5, .ref a3, w7, w8, w9, w10, w11, w12, w13, w14, w15, w16, w17, w18, w19, w20, w21, w22, w23, w24, w25, w26, w27, w28, w29, w30, w31, w32, w33, w34, w35, w36, w37, w38, w39, w40, w41, w42, w43, w44, w45, w46, w47, w48, w49, w50, w51, w52, w53, w54, w55, .long x_15, w57, w58, .int 0])), (a1, .inl (K 0, 5500, .inl f)), (a3, .inl (K 0, 558, .inl ((u_14.2.1 0))))] H := hP
            have hD : va_D A [(a2, .inl (K 0, 7, .inl (fun _ => 0))), (a0, .inr (12, [.int 0, w1, .ref a2, .ref a1, w4, w5, .ref a3, w7, w8, w9, w10, w11, w12, w13, w14, w15, w16, w17, w18, w19, w20, w21, w22, w23, w24, w25, w26, w27, w28, w29, w30, w31, w32, w33, w34, w35, w36, w37, w38, w39, w40, w41, w42, w43, w44, w45, w46, w47, w48, w49, w50, w51, w52, w53, w54, w55, .long x_15, w57, w58, .int 0])), (a1, .inl (K 0, 5500, .inl f)), (a3, .inl (K 0, 558, .inl ((u_14.2.1 0))))] := hD
            refine lv_iconst (v := 0) hx hb dX12_days_143 (by decide) ?_
            refine lv_istore (lv' := [(5, .int 0), (4, .int (nI i)), (3, .int 0), (0, .ref a0), (1, .int x), (2, .int (nI nn))]) hx hb dX12_days_144 hl (by decide) rfl (fun ls hl => ?_)
            refine lv_iload hx hb dX12_days_146 (lv_at hl 0 rfl) ?_
            refine lv_aload_n hx hb dX12_days_148 rfl (lv_at hl 3 rfl) ?_
            refine va_get (ci := 12) (v := .int 0) (C := RX12) (T := TX12) (N := 60) hx hb hts hw12 hown hK hP 1 rfl rfl 59 (by decide) (hts (.fieldLink RX12 155 "SmokeTuneModel" "nDrawn" "I") (List.mem_cons_of_mem _ (List.mem_append_left _ (List.mem_append_left _ (List.mem_of_getElem? (i := 5) rfl))))) (fun _ h9 => h9) rfl dX12_days_149 ?_
            refine lv_icmp_ge (tgt := 201) hx hb dX12_days_152 (by decide) (fun c_20 => ?_) (fun c_20 => absurd (by decide) c_20)
            refine lv_aload_n hx hb dX12_days_201 rfl (lv_at hl 3 rfl) ?_
            refine lv_aload_n hx hb dX12_days_202 rfl (lv_at hl 3 rfl) ?_
            refine va_get (ci := 12) (v := .ref a1) (C := RX12) (T := TX12) (N := 60) hx hb hts hw12 hown hK hP 1 rfl rfl 3 (by decide) (hts (.fieldLink RX12 13 "SmokeTuneModel" "row" "[I") (List.mem_cons_of_mem _ (List.mem_append_left _ (List.mem_append_left _ (List.mem_of_getElem? (i := 4) rfl))))) (fun _ h9 => h9) rfl dX12_days_203 ?_
            refine lv_bipush (v := 10) hx hb dX12_days_206 (by decide) ?_
            refine va_iald hx hb hK hP 2 0 rfl rfl (i_in (x := 10) rfl (by omega)) dX12_days_208 ?_
            refine lv_topi (fun x_21 ex_21 => ?_)
            obtain rfl : x_21 = 0 := ex_21.trans hR.2.2.2.1
            refine lv_iload_n hx hb dX12_days_209 rfl (lv_at hl 2 rfl) ?_
            refine lv_isub hx hb dX12_days_210 ?_
            refine lv_topi (fun x_22 ex_22 => ?_)
            obtain rfl : x_22 = 0 := ex_22.trans (by first | rfl | decide)
            refine va_put (ci := 12) (v := .int 0) (ty := .int) (C := RX12) (T := TX12) (N := 60) hx hb hts hw12 tyX12 tyX12_ok nmX12 hown hK hP hD hS 1 rfl rfl 58 (by decide) (hts (.fieldLink RX12 567 "SmokeTuneModel" "drawnFines" "I") (List.mem_cons_of_mem _ (List.mem_append_left _ (List.mem_append_left _ (List.mem_of_getElem? (i := 7) rfl))))) (fun _ h9 => h9) rfl (by decide +kernel) (by first | rfl | decide) (by first | rfl | decide) (Nat.le_of_ble_eq_true rfl) dX12_days_211 (fun H locs hP hD hS => ?_)
            have hP : va_P D vwCl [(a2, .inl (K 0, 7, .inl (fun _ => 0))), (a0, .inr (12, [.int 0, w1, .ref a2, .ref a1, w4, w5, .ref a3, w7, w8, w9, w10, w11, w12, w13, w14, w15, w16, w17, w18, w19, w20, w21, w22, w23, w24, w25, w26, w27, w28, w29, w30, w31, w32, w33, w34, w35, w36, w37, w38, w39, w40, w41, w42, w43, w44, w45, w46, w47, w48, w49, w50, w51, w52, w53, w54, w55, .long x_15, w57, .int 0, .int 0])), (a1, .inl (K 0, 5500, .inl f)), (a3, .inl (K 0, 558, .inl ((u_14.2.1 0))))] H := hP
            have hD : va_D A [(a2, .inl (K 0, 7, .inl (fun _ => 0))), (a0, .inr (12, [.int 0, w1, .ref a2, .ref a1, w4, w5, .ref a3, w7, w8, w9, w10, w11, w12, w13, w14, w15, w16, w17, w18, w19, w20, w21, w22, w23, w24, w25, w26, w27, w28, w29, w30, w31, w32, w33, w34, w35, w36, w37, w38, w39, w40, w41, w42, w43, w44, w45, w46, w47, w48, w49, w50, w51, w52, w53, w54, w55, .long x_15, w57, .int 0, .int 0])), (a1, .inl (K 0, 5500, .inl f)), (a3, .inl (K 0, 558, .inl ((u_14.2.1 0))))] := hD
            refine lv_aload_n hx hb dX12_days_214 rfl (lv_at hl 3 rfl) ?_
            refine lv_bipush (v := 16) hx hb dX12_days_215 (by decide) ?_
            refine kcv (wr := [(a2, .inl (K 0, 7, .inl (fun _ => 0)))]) (va_runV (As := [.int 16]) (rest := []) ⟨hx, hb, hml, hown, hts⟩ (m_putBack_16 l D K a0 (.int 0) w1 (.ref a2) a1 w4 w5 a3 w7 w8 w9 w10 w11 w12 w13 w14 w15 w16 w17 w18 w19 w20 w21 w22 w23 w24 w25 w26 w27 w28 w29 w30 w31 w32 w33 w34 w35 w36 w37 w38 w39 w40 w41 w42 w43 w44 w45 w46 w47 w48 w49 w50 w51 w52 w53 w54 w55 (.long x_15) w57 (.int 0) (.int 0) f (u_14.2.1 0) H.size) (cwV 1 hts gX12_days_X12_putBack rfl rfl rfl (by decide +kernel) ⟨Nat.le_of_ble_eq_true rfl, Nat.le_of_ble_eq_true rfl⟩) (mkV hK hN (hP.sub [1, 2, 3] rfl) (hD.sub [1, 2, 3] (by decide) rfl) (ci := 12) (q0 := 0) rfl rfl) rfl rfl hl.1 rfl (lv_room (Nat.le_of_ble_eq_true rfl)) dX12_days_217 ⟨Nat.le_of_ble_eq_true rfl, Nat.le_of_ble_eq_true rfl⟩) hP hD hS hA [1, 2, 3] [0] rfl rfl (by decide) (by decide) (fun u_24 H locs hw hP hD hS => ?_)
            have hP : va_P D vwCl [(a2, .inl (K 0, 7, .inl (fun _ => 0))), (a0, .inr (12, [.int 0, w1, .ref a2, .ref a1, w4, w5, .ref a3, w7, w8, w9, w10, w11, w12, w13, w14, w15, w16, w17, w18, w19, w20, w21, w22, w23, w24, w25, w26, w27, w28, w29, w30, w31, w32, w33, w34, w35, w36, w37, w38, w39, w40, w41, w42, w43, w44, w45, w46, w47, w48, w49, w50, w51, w52, w53, w54, w55, .long x_15, w57, .int 0, .int 0])), (a1, .inl (K 0, 5500, .inl ((u_24.2.1 0)))), (a3, .inl (K 0, 558, .inl ((u_14.2.1 0))))] H := hP
            have hD : va_D A [(a2, .inl (K 0, 7, .inl (fun _ => 0))), (a0, .inr (12, [.int 0, w1, .ref a2, .ref a1, w4, w5, .ref a3, w7, w8, w9, w10, w11, w12, w13, w14, w15, w16, w17, w18, w19, w20, w21, w22, w23, w24, w25, w26, w27, w28, w29, w30, w31, w32, w33, w34, w35, w36, w37, w38, w39, w40, w41, w42, w43, w44, w45, w46, w47, w48, w49, w50, w51, w52, w53, w54, w55, .long x_15, w57, .int 0, .int 0])), (a1, .inl (K 0, 5500, .inl ((u_24.2.1 0)))), (a3, .inl (K 0, 558, .inl ((u_14.2.1 0))))] := hD
            refine lv_aload_n hx hb dX12_days_220 rfl (lv_at hl 3 rfl) ?_
            refine lv_iload hx hb dX12_days_221 (lv_at hl 1 rfl) ?_
            refine kci (wr := [(a2, .inl (K 0, 7, .inl (fun _ => 0))), (a1, .inl (K 0, 5500, .inl ((u_24.2.1 0)))), (a3, .inl (K 0, 558, .inl ((u_14.2.1 0))))]) (va_runV (As := [.int (nI i)]) (rest := []) ⟨hx, hb, hml, hown, hts⟩ (m_tell_pos l D K a0 (nI i) (.int 0) w1 (.ref a2) (.ref a1) w4 w5 (.ref a3) w7 w8 w9 w10 w11 w12 w13 w14 w15 w16 w17 w18 w19 w20 w21 w22 w23 w24 w25 w26 w27 w28 w29 w30 w31 w32 w33 w34 w35 w36 w37 w38 w39 w40 w41 w42 w43 w44 w45 w46 w47 w48 w49 w50 w51 w52 w53 w54 w55 (.long x_15) w57 (.int 0) (.int 0) ((i : Nat) : Int) H.size (nI_toInt (by omega)) (by omega)) (cwV 1 hts gX12_days_X12_tell rfl rfl rfl (by decide +kernel) ⟨Nat.le_of_ble_eq_true rfl, Nat.le_of_ble_eq_true rfl⟩) (mkV hK hN (hP.sub [1] rfl) (hD.sub [1] (by decide) rfl) (ci := 12) (q0 := 0) rfl rfl) rfl rfl hl.1 rfl (lv_room (Nat.le_of_ble_eq_true rfl)) dX12_days_223 ⟨Nat.le_of_ble_eq_true rfl, Nat.le_of_ble_eq_true rfl⟩) hP hD hS hA [1] [0, 2, 3] rfl rfl (by decide) (by decide) (fun r_25 u_26 H locs hw hP hD hS => ?_)
            have hP : va_P D vwCl [(a2, .inl (K 0, 7, .inl (fun _ => 0))), (a1, .inl (K 0, 5500, .inl ((u_24.2.1 0)))), (a3, .inl (K 0, 558, .inl ((u_14.2.1 0))))] H := hP
            have hD : va_D A [(a2, .inl (K 0, 7, .inl (fun _ => 0))), (a1, .inl (K 0, 5500, .inl ((u_24.2.1 0)))), (a3, .inl (K 0, 558, .inl ((u_14.2.1 0))))] := hD
            obtain rfl : r_25 = (nI i) := hw
            subst hQ
            exact W.iret (v := (nI i)) hx hb hr (fun t ht hW => ⟨⟨(nI i), (), rfl, Or.inl ⟨congrArg nI (by omega), by omega, by omega, by omega, by omega⟩, Wd.nil⟩, hS.F ht⟩) hS.2.2 dX12_days_226
          · have c_18i := i_nle (x := ((nn : Nat) : Int)) (y := ((i : Nat) : Int)) (nI_toInt (by omega)) (nI_toInt (by omega)) c_18
            refine lv_aload_n hx hb dX12_days_67 rfl (lv_at hl 3 rfl) ?_
            refine pci (va_runV (As := []) (rest := []) ⟨hx, hb, hml, hown, hts⟩ (m_canPass l D K a0 (.int 0) w1 (.ref a2) a1 w4 w5 (.ref a3) w7 w8 w9 w10 w11 w12 w13 w14 w15 w16 w17 w18 w19 w20 w21 w22 w23 w24 w25 w26 w27 w28 w29 w30 w31 w32 w33 w34 w35 w36 w37 w38 w39 w40 w41 w42 w43 w44 w45 w46 w47 w48 w49 w50 w51 w52 w53 w54 w55 (.long x_15) w57 w58 w59 f (i % 24) (i / 24) H.size hR (by omega) (by omega)) (cwV 0 hts gX12_days_X12_canPass rfl rfl rfl (by decide +kernel) ⟨Nat.le_of_ble_eq_true rfl, Nat.le_of_ble_eq_true rfl⟩) (mkV hK hN (hP.sub [1, 2] rfl) (hD.sub [1, 2] (by decide) rfl) (ci := 12) (q0 := 0) rfl rfl) rfl rfl hl.1 rfl (lv_room (Nat.le_of_ble_eq_true rfl)) dX12_days_68 ⟨Nat.le_of_ble_eq_true rfl, Nat.le_of_ble_eq_true rfl⟩) (fun r_27 hw => ?_)
            obtain rfl : r_27 = 1 := hw
            refine lv_if_eq (tgt := 133) hx hb dX12_days_71 (by decide) (fun c_28 => absurd c_28 (by decide)) (fun c_28 => ?_)
            refine lv_aload_n hx hb dX12_days_74 rfl (lv_at hl 3 rfl) ?_
            refine va_get (ci := 12) (v := .ref a1) (C := RX12) (T := TX12) (N := 60) hx hb hts hw12 hown hK hP 1 rfl rfl 3 (by decide) (hts (.fieldLink RX12 13 "SmokeTuneModel" "row" "[I") (List.mem_cons_of_mem _ (List.mem_append_left _ (List.mem_append_left _ (List.mem_of_getElem? (i := 4) rfl))))) (fun _ h9 => h9) rfl dX12_days_75 ?_
            refine lv_iconst (v := 0) hx hb dX12_days_78 (by decide) ?_
            refine va_iald hx hb hK hP 2 0 rfl rfl (i_in (x := 0) rfl (by omega)) dX12_days_79 ?_
            refine lv_topi (fun x_29 ex_29 => ?_)
            obtain rfl : x_29 = 0 := ex_29.trans hR.1
            refine lv_if_le (tgt := 110) hx hb dX12_days_80 (by decide) (fun c_30 => ?_) (fun c_30 => absurd (by decide) c_30)
            refine lv_iload hx hb dX12_days_110 (lv_at hl 1 rfl) ?_
            refine lv_aload_n hx hb dX12_days_112 rfl (lv_at hl 3 rfl) ?_
            refine kci (wr := [(a2, .inl (K 0, 7, .inl (fun _ => 0))), (a3, .inl (K 0, 558, .inl ((u_14.2.1 0))))]) (va_runV (As := []) (rest := [.int (nI i)]) ⟨hx, hb, hml, hown, hts⟩ (m_passIt l D K a0 (.int 0) w1 (.ref a2) a1 w4 w5 (.ref a3) w7 w8 w9 w10 w11 w12 w13 w14 w15 w16 w17 w18 w19 w20 w21 w22 w23 w24 w25 w26 w27 w28 w29 w30 w31 w32 w33 w34 w35 w36 w37 w38 w39 w40 w41 w42 w43 w44 w45 w46 w47 w48 w49 w50 w51 w52 w53 w54 w55 (.long x_15) w57 w58 w59 f (i % 24) (i / 24) H.size hR (by omega) (by omega)) (cwV 0 hts gX12_days_X12_passIt rfl rfl rfl (by decide +kernel) ⟨Nat.le_of_ble_eq_true rfl, Nat.le_of_ble_eq_true rfl⟩) (mkV hK hN (hP.sub [1, 2] rfl) (hD.sub [1, 2] (by decide) rfl) (ci := 12) (q0 := 0) rfl rfl) rfl rfl hl.1 rfl (lv_room (Nat.le_of_ble_eq_true rfl)) dX12_days_113 ⟨Nat.le_of_ble_eq_true rfl, Nat.le_of_ble_eq_true rfl⟩) hP hD hS hA [1, 2] [0, 3] rfl rfl (by decide) (by decide) (fun r_31 u_32 H locs hw hP hD hS => ?_)
            have hP : va_P D vwCl [(a2, .inl (K 0, 7, .inl (fun _ => 0))), (a3, .inl (K 0, 558, .inl ((u_14.2.1 0)))), (a0, .inr (12, [.int 0, w1, .ref a2, .ref a1, w4, w5, .ref a3, w7, w8, w9, w10, w11, w12, w13, w14, w15, w16, w17, w18, w19, w20, w21, w22, w23, w24, w25, w26, w27, w28, w29, w30, w31, w32, w33, w34, w35, w36, w37, w38, w39, w40, w41, w42, w43, w44, w45, w46, w47, w48, w49, w50, w51, w52, w53, w54, w55, .long x_15, w57, w58, w59])), (a1, .inl (K 0, 5500, .inl ((u_32.2.1 0))))] H := hP
            have hD : va_D A [(a2, .inl (K 0, 7, .inl (fun _ => 0))), (a3, .inl (K 0, 558, .inl ((u_14.2.1 0)))), (a0, .inr (12, [.int 0, w1, .ref a2, .ref a1, w4, w5, .ref a3, w7, w8, w9, w10, w11, w12, w13, w14, w15, w16, w17, w18, w19, w20, w21, w22, w23, w24, w25, w26, w27, w28, w29, w30, w31, w32, w33, w34, w35, w36, w37, w38, w39, w40, w41, w42, w43, w44, w45, w46, w47, w48, w49, w50, w51, w52, w53, w54, w55, .long x_15, w57, w58, w59])), (a1, .inl (K 0, 5500, .inl ((u_32.2.1 0))))] := hD
            obtain ⟨rfl, hR_33⟩ := hw
            refine lv_if_eq (tgt := 123) hx hb dX12_days_116 (by decide) (fun c_34 => absurd c_34 (by decide)) (fun c_34 => ?_)
            refine lv_iconst (v := 1) hx hb dX12_days_119 (by decide) ?_
            refine lv_goto (tgt := 124) hx hb dX12_days_120 (by decide) ?_
            refine lv_iadd hx hb dX12_days_124 ?_
            refine lv_topi (fun x_35 ex_35 => ?_)
            obtain rfl : x_35 = (nI (i + 1)) := ex_35.trans (nI_1 i)
            refine lv_istore (lv' := [(4, .int (nI (i + 1))), (5, .int (nI i)), (3, .int 0), (0, .ref a0), (1, .int x), (2, .int (nI nn))]) hx hb dX12_days_125 hl (by decide) rfl (fun ls hl => ?_)
            refine lv_iinc (v := nI (i + 1)) (lv' := [(5, .int (nI (i + 1))), (4, .int (nI (i + 1))), (3, .int 0), (0, .ref a0), (1, .int x), (2, .int (nI nn))]) hx hb dX12_days_127 hl (k := 1) rfl (nI_1 i) (by decide) rfl (fun ls hl => ?_)
            refine lv_goto (tgt := 61) hx hb dX12_days_130 (by decide) ?_
            exact ih (i + 1) (u_32.2.1 0) (by omega) (by omega) (by have := hR_33; rw [show (if i % 24 = 23 then 0 else i % 24 + 1) = (i + 1) % 24 by split <;> omega, show (if i % 24 = 23 then i / 24 + 1 else i / 24) = (i + 1) / 24 by split <;> omega] at this; exact this) _ _ (hP.sub [0, 2, 3, 1] rfl) (hD.sub [0, 2, 3, 1] (by decide) rfl) hS ls (lv_sub hl [0, 1, 2, 3, 4, 5] rfl)
      exact lp_17 (nn + 1) 0 row0 (by omega) (by omega) row0_ok _ _ hP hD hS ls (lv_sub hl [0, 1, 2, 3, 4, 5] rfl)
    · refine lv_if_ne (tgt := 35) hx hb dX12_days_26 (by decide) (fun c_36 => absurd (by decide) c_36) (fun c_36 => ?_)
      refine lv_aload_n hx hb dX12_days_29 rfl (lv_at hl 0 rfl) ?_
      refine lv_iconst (v := (-1)) hx hb dX12_days_30 (by decide) ?_
      refine kci (wr := [(a1, .inl (K 0, 5500, .inl row0)), (a3, .inl (K 0, 558, .inl (fun _ => 0)))]) (va_runV (As := [.int (-1)]) (rest := []) ⟨hx, hb, hml, hown, hts⟩ (m_tell_1 l D K a0 (.int 0) w1 a2 (.ref a1) w4 w5 (.ref a3) w7 w8 w9 w10 w11 w12 w13 w14 w15 w16 w17 w18 w19 w20 w21 w22 w23 w24 w25 w26 w27 w28 w29 w30 w31 w32 w33 w34 w35 w36 w37 w38 w39 w40 w41 w42 w43 w44 w45 w46 w47 w48 w49 w50 w51 w52 w53 w54 w55 w56 w57 w58 w59 (fun _ => 0) H.size) (cwV 1 hts gX12_days_X12_tell rfl rfl rfl (by decide +kernel) ⟨Nat.le_of_ble_eq_true rfl, Nat.le_of_ble_eq_true rfl⟩) (mkV hK hN (hP.sub [0, 2] rfl) (hD.sub [0, 2] (by decide) rfl) (ci := 12) (q0 := 0) rfl rfl) rfl rfl hl.1 rfl (lv_room (Nat.le_of_ble_eq_true rfl)) dX12_days_31 ⟨Nat.le_of_ble_eq_true rfl, Nat.le_of_ble_eq_true rfl⟩) hP hD hS hA [0, 2] [1, 3] rfl rfl (by decide) (by decide) (fun r_37 u_38 H locs hw hP hD hS => ?_)
      have hP : va_P D vwCl [(a1, .inl (K 0, 5500, .inl row0)), (a3, .inl (K 0, 558, .inl (fun _ => 0)))] H := hP
      have hD : va_D A [(a1, .inl (K 0, 5500, .inl row0)), (a3, .inl (K 0, 558, .inl (fun _ => 0)))] := hD
      obtain rfl : r_37 = (-1) := hw
      subst hQ
      exact W.iret (v := (-1)) hx hb hr (fun t ht hW => ⟨⟨(-1), (), rfl, Or.inr ⟨rfl, by omega⟩, Wd.nil⟩, hS.F ht⟩) hS.2.2 dX12_days_34
  · refine lv_if_eq (tgt := 29) hx hb dX12_days_14 (by decide) (fun c_39 => ?_) (fun c_39 => absurd (by decide) c_39)
    refine lv_aload_n hx hb dX12_days_29 rfl (lv_at hl 0 rfl) ?_
    refine lv_iconst (v := (-1)) hx hb dX12_days_30 (by decide) ?_
    refine kci (wr := [(a1, .inl (K 0, 5500, .inl row0)), (a3, .inl (K 0, 558, .inl (fun _ => 0)))]) (va_runV (As := [.int (-1)]) (rest := []) ⟨hx, hb, hml, hown, hts⟩ (m_tell_1 l D K a0 (.int 0) w1 a2 (.ref a1) w4 w5 (.ref a3) w7 w8 w9 w10 w11 w12 w13 w14 w15 w16 w17 w18 w19 w20 w21 w22 w23 w24 w25 w26 w27 w28 w29 w30 w31 w32 w33 w34 w35 w36 w37 w38 w39 w40 w41 w42 w43 w44 w45 w46 w47 w48 w49 w50 w51 w52 w53 w54 w55 w56 w57 w58 w59 (fun _ => 0) H.size) (cwV 1 hts gX12_days_X12_tell rfl rfl rfl (by decide +kernel) ⟨Nat.le_of_ble_eq_true rfl, Nat.le_of_ble_eq_true rfl⟩) (mkV hK hN (hP.sub [0, 2] rfl) (hD.sub [0, 2] (by decide) rfl) (ci := 12) (q0 := 0) rfl rfl) rfl rfl hl.1 rfl (lv_room (Nat.le_of_ble_eq_true rfl)) dX12_days_31 ⟨Nat.le_of_ble_eq_true rfl, Nat.le_of_ble_eq_true rfl⟩) hP hD hS hA [0, 2] [1, 3] rfl rfl (by decide) (by decide) (fun r_40 u_41 H locs hw hP hD hS => ?_)
    have hP : va_P D vwCl [(a1, .inl (K 0, 5500, .inl row0)), (a3, .inl (K 0, 558, .inl (fun _ => 0)))] H := hP
    have hD : va_D A [(a1, .inl (K 0, 5500, .inl row0)), (a3, .inl (K 0, 558, .inl (fun _ => 0)))] := hD
    obtain rfl : r_40 = (-1) := hw
    subst hQ
    exact W.iret (v := (-1)) hx hb hr (fun t ht hW => ⟨⟨(-1), (), rfl, Or.inr ⟨rfl, by omega⟩, Wd.nil⟩, hS.F ht⟩) hS.2.2 dX12_days_34
set_option maxHeartbeats 4000000 in
set_option maxRecDepth 100000 in
theorem r_image (l : Launch) (D : va_G) (K : Nat → ClassId) (a0 : Nat) (x : Int32) (w0 : Value) (w1 : Value) (a2 : Nat) (a1 : Nat) (a3 : Nat) (a4 : Nat) (w6 : Value) (w7 : Value) (w8 : Value) (w9 : Value) (w10 : Value) (w11 : Value) (w12 : Value) (w13 : Value) (w14 : Value) (w15 : Value) (w16 : Value) (w17 : Value) (w18 : Value) (w19 : Value) (w20 : Value) (w21 : Value) (w22 : Value) (w23 : Value) (w24 : Value) (w25 : Value) (w26 : Value) (w27 : Value) (w28 : Value) (w29 : Value) (w30 : Value) (w31 : Value) (w32 : Value) (w33 : Value) (w34 : Value) (w35 : Value) (w36 : Value) (w37 : Value) (w38 : Value) (w39 : Value) (w40 : Value) (w41 : Value) (w42 : Value) (w43 : Value) (w44 : Value) (w45 : Value) (w46 : Value) (w47 : Value) (w48 : Value) (w49 : Value) (w50 : Value) (w51 : Value) (w52 : Value) (w53 : Value) (w54 : Value) (w55 : Value) (w56 : Value) (w57 : Value) (w58 : Value) (w59 : Value) (sz : Nat) : Met l yX12_image wsX12_image ({ frames := 1, cells := 0, slots := 0, locals := 25 }) (va_Pc [.ref a0, .int x] (Pre D K [(a0, .inr (12, [w0, w1, .ref a2, .ref a1, .ref a3, .ref a4, w6, w7, w8, w9, w10, w11, w12, w13, w14, w15, w16, w17, w18, w19, w20, w21, w22, w23, w24, w25, w26, w27, w28, w29, w30, w31, w32, w33, w34, w35, w36, w37, w38, w39, w40, w41, w42, w43, w44, w45, w46, w47, w48, w49, w50, w51, w52, w53, w54, w55, w56, w57, w58, w59])), (a1, .inl (K 0, 5500, .inl row0)), (a2, .inl (K 0, 7, .inl (fun _ => 0))), (a3, .inl (K 0, 11000, .inl (fun _ => 0))), (a4, .inl (K 1, 2, .inl (fun _ => 0)))] sz)) (va_Qi (S := Unit) (fun (r : Int32) (_ : Unit) => (r = 0 ∧ 0 ≤ x.toInt ∧ x.toInt ≤ 1) ∨ (r = (-1) ∧ (x.toInt < 0 ∨ 1 < x.toInt))) (fun u t => Wd D (va_A [(a0, .inr (12, [w0, w1, .ref a2, .ref a1, .ref a3, .ref a4, w6, w7, w8, w9, w10, w11, w12, w13, w14, w15, w16, w17, w18, w19, w20, w21, w22, w23, w24, w25, w26, w27, w28, w29, w30, w31, w32, w33, w34, w35, w36, w37, w38, w39, w40, w41, w42, w43, w44, w45, w46, w47, w48, w49, w50, w51, w52, w53, w54, w55, w56, w57, w58, w59])), (a1, .inl (K 0, 5500, .inl row0)), (a2, .inl (K 0, 7, .inl (fun _ => 0))), (a3, .inl (K 0, 11000, .inl (fun _ => 0))), (a4, .inl (K 1, 2, .inl (fun _ => 0)))] sz) ((fun _ => []) u) t) (va_A [(a0, .inr (12, [w0, w1, .ref a2, .ref a1, .ref a3, .ref a4, w6, w7, w8, w9, w10, w11, w12, w13, w14, w15, w16, w17, w18, w19, w20, w21, w22, w23, w24, w25, w26, w27, w28, w29, w30, w31, w32, w33, w34, w35, w36, w37, w38, w39, w40, w41, w42, w43, w44, w45, w46, w47, w48, w49, w50, w51, w52, w53, w54, w55, w56, w57, w58, w59])), (a1, .inl (K 0, 5500, .inl row0)), (a2, .inl (K 0, 7, .inl (fun _ => 0))), (a3, .inl (K 0, 11000, .inl (fun _ => 0))), (a4, .inl (K 1, 2, .inl (fun _ => 0)))] sz)) 0 0 (va_A [(a0, .inr (12, [w0, w1, .ref a2, .ref a1, .ref a3, .ref a4, w6, w7, w8, w9, w10, w11, w12, w13, w14, w15, w16, w17, w18, w19, w20, w21, w22, w23, w24, w25, w26, w27, w28, w29, w30, w31, w32, w33, w34, w35, w36, w37, w38, w39, w40, w41, w42, w43, w44, w45, w46, w47, w48, w49, w50, w51, w52, w53, w54, w55, w56, w57, w58, w59])), (a1, .inl (K 0, 5500, .inl row0)), (a2, .inl (K 0, 7, .inl (fun _ => 0))), (a3, .inl (K 0, 11000, .inl (fun _ => 0))), (a4, .inl (K 1, 2, .inl (fun _ => 0)))] sz) := by
  refine Met.ofW (cc := cX12_image) (maxL := 3) (ret := (some .int)) (by decide) rfl ?_
  intro p e s m args below meth c s₁ B hml hv
  obtain ⟨rfl, hsz, hP, hK, hD0, hN⟩ := hv
  have hx := B.exec
  have hb := B.bytes
  have hr := B.returns
  have hts := atoms_spec (ws := wsX12_image) B.pre
  have hown : s.vm.findClass RX12 = some m.cls := findClass_of_methodNamed B.named
  have hlocks := B.notSynchronized
  subst hsz
  have hD := hD0.self (sz := s.heap.size)
  generalize hAe : va_A [(a0, .inr (12, [w0, w1, .ref a2, .ref a1, .ref a3, .ref a4, w6, w7, w8, w9, w10, w11, w12, w13, w14, w15, w16, w17, w18, w19, w20, w21, w22, w23, w24, w25, w26, w27, w28, w29, w30, w31, w32, w33, w34, w35, w36, w37, w38, w39, w40, w41, w42, w43, w44, w45, w46, w47, w48, w49, w50, w51, w52, w53, w54, w55, w56, w57, w58, w59])), (a1, .inl (K 0, 5500, .inl row0)), (a2, .inl (K 0, 7, .inl (fun _ => 0))), (a3, .inl (K 0, 11000, .inl (fun _ => 0))), (a4, .inl (K 1, 2, .inl (fun _ => 0)))] s.heap.size = A at hD ⊢
  have hA : ∀ q : Nat, s.heap.size ≤ q → A q := fun q h => by rw [← hAe]; exact Or.inr h
  have hS : va_S A s.heap s.heap [] := va_S.rf
  have hP : va_P D vwCl [(a0, .inr (12, [w0, w1, .ref a2, .ref a1, .ref a3, .ref a4, w6, w7, w8, w9, w10, w11, w12, w13, w14, w15, w16, w17, w18, w19, w20, w21, w22, w23, w24, w25, w26, w27, w28, w29, w30, w31, w32, w33, w34, w35, w36, w37, w38, w39, w40, w41, w42, w43, w44, w45, w46, w47, w48, w49, w50, w51, w52, w53, w54, w55, w56, w57, w58, w59])), (a1, .inl (K 0, 5500, .inl row0)), (a2, .inl (K 0, 7, .inl (fun _ => 0))), (a3, .inl (K 0, 11000, .inl (fun _ => 0))), (a4, .inl (K 1, 2, .inl (fun _ => 0)))] s.heap := hP
  have hl := lv_entry [.ref a0, .int x] (n := 3) (Nat.le_of_ble_eq_true rfl)
  rw [lg_entry_eq]
  generalize (lg_sl [.ref a0, .int x] ++ List.replicate (3 - (lg_sl [.ref a0, .int x]).length) Slot.unset).toArray = ls at hl ⊢
  have hl : lv_has ls 3 [(0, .ref a0), (1, .int x)] := hl
  have hw12 : ∀ w ∈ wsX120, w ∈ wsX12_image := fun w h => (List.mem_cons_of_mem _ (List.mem_append_right _ h))
  generalize hQ : MQ below _ _ s _ _ _ = Q
  have hsp : (x = 0 ∨ x = 1) ∨ (x.toInt < 0 ∨ 1 < x.toInt) := by
    by_cases q1 : x.toInt < 0
    · exact Or.inr (Or.inl q1)
    · by_cases q2 : 1 < x.toInt
      · exact Or.inr (Or.inr q2)
      · refine Or.inl ?_
        have q3 : x.toInt = 0 ∨ x.toInt = 1 := by omega
        rcases q3 with q3 | q3
        · exact Or.inl (i_lit q3 rfl)
        · exact Or.inr (i_lit q3 rfl)
  rcases hsp with (rfl | rfl) | hsp
  · refine lv_aload_n hx hb dX12_image_0 rfl (lv_at hl 0 rfl) ?_
    refine lv_iconst (v := 0) hx hb dX12_image_1 (by decide) ?_
    refine va_put (ci := 12) (v := .int 0) (ty := .int) (C := RX12) (T := TX12) (N := 60) hx hb hts hw12 tyX12 tyX12_ok nmX12 hown hK hP hD hS 0 rfl rfl 0 (by decide) (hts (.fieldLink RX12 158 "SmokeTuneModel" "thrown" "I") (List.mem_cons_of_mem _ (List.mem_append_left _ (List.mem_of_getElem? (i := 0) rfl)))) (fun _ h9 => h9) rfl (by decide +kernel) (by first | rfl | decide) (by first | rfl | decide) (Nat.le_of_ble_eq_true rfl) dX12_image_2 (fun H locs hP hD hS => ?_)
    have hP : va_P D vwCl [(a0, .inr (12, [.int 0, w1, .ref a2, .ref a1, .ref a3, .ref a4, w6, w7, w8, w9, w10, w11, w12, w13, w14, w15, w16, w17, w18, w19, w20, w21, w22, w23, w24, w25, w26, w27, w28, w29, w30, w31, w32, w33, w34, w35, w36, w37, w38, w39, w40, w41, w42, w43, w44, w45, w46, w47, w48, w49, w50, w51, w52, w53, w54, w55, w56, w57, w58, w59])), (a1, .inl (K 0, 5500, .inl row0)), (a2, .inl (K 0, 7, .inl (fun _ => 0))), (a3, .inl (K 0, 11000, .inl (fun _ => 0))), (a4, .inl (K 1, 2, .inl (fun _ => 0)))] H := hP
    have hD : va_D A [(a0, .inr (12, [.int 0, w1, .ref a2, .ref a1, .ref a3, .ref a4, w6, w7, w8, w9, w10, w11, w12, w13, w14, w15, w16, w17, w18, w19, w20, w21, w22, w23, w24, w25, w26, w27, w28, w29, w30, w31, w32, w33, w34, w35, w36, w37, w38, w39, w40, w41, w42, w43, w44, w45, w46, w47, w48, w49, w50, w51, w52, w53, w54, w55, w56, w57, w58, w59])), (a1, .inl (K 0, 5500, .inl row0)), (a2, .inl (K 0, 7, .inl (fun _ => 0))), (a3, .inl (K 0, 11000, .inl (fun _ => 0))), (a4, .inl (K 1, 2, .inl (fun _ => 0)))] := hD
    refine lv_iload_n hx hb dX12_image_5 rfl (lv_at hl 1 rfl) ?_
    refine lv_i2l (v := 0) hx hb dX12_image_6 (by decide) ?_
    refine lv_lconst (v := 0) hx hb dX12_image_7 (by decide) ?_
    refine lv_lconst (v := 1) hx hb dX12_image_8 (by decide) ?_
    refine pci (va_runS (As := [.long 0, .long 0, .long 1]) (rest := []) ⟨hx, hb, hml, hown, hts⟩ (c_in l D K 0 0 1 0 0 1 H.size rfl rfl rfl) (va_cwS 3 hts gX12_image_X12_in rfl rfl rfl (by decide +kernel) ⟨Nat.le_of_ble_eq_true rfl, Nat.le_of_ble_eq_true rfl⟩) (mkS hK hN (hP.sub [] rfl) (hD.sub [] (by decide) rfl)) rfl rfl hl.1 rfl (lv_room (Nat.le_of_ble_eq_true rfl)) dX12_image_9 ⟨Nat.le_of_ble_eq_true rfl, Nat.le_of_ble_eq_true rfl⟩) (fun r_1 hw => ?_)
    rcases hw with ⟨rfl, h_2, h_3⟩ | ⟨rfl, h_4⟩
    · refine lv_if_ne (tgt := 21) hx hb dX12_image_12 (by decide) (fun c_5 => ?_) (fun c_5 => absurd c_5 (by decide))
      refine lv_iconst (v := 0) hx hb dX12_image_21 (by decide) ?_
      refine lv_istore_n (lv' := [(2, .int 0), (0, .ref a0), (1, .int 0)]) hx hb dX12_image_22 rfl hl (by decide) rfl (fun ls hl => ?_)
      have lp_6 : ∀ (n : Nat) (i : Nat) (g : Nat → Int32) (hn : 5501 ≤ i + n) (hi5 : i ≤ 5500) (H : Heap) (locs : List Loc) (hP : va_P D vwCl [(a0, .inr (12, [.int 0, w1, .ref a2, .ref a1, .ref a3, .ref a4, w6, w7, w8, w9, w10, w11, w12, w13, w14, w15, w16, w17, w18, w19, w20, w21, w22, w23, w24, w25, w26, w27, w28, w29, w30, w31, w32, w33, w34, w35, w36, w37, w38, w39, w40, w41, w42, w43, w44, w45, w46, w47, w48, w49, w50, w51, w52, w53, w54, w55, w56, w57, w58, w59])), (a1, .inl (K 0, 5500, .inl row0)), (a2, .inl (K 0, 7, .inl (fun _ => 0))), (a3, .inl (K 0, 11000, .inl g)), (a4, .inl (K 1, 2, .inl (fun _ => 0)))] H) (hD : va_D A [(a0, .inr (12, [.int 0, w1, .ref a2, .ref a1, .ref a3, .ref a4, w6, w7, w8, w9, w10, w11, w12, w13, w14, w15, w16, w17, w18, w19, w20, w21, w22, w23, w24, w25, w26, w27, w28, w29, w30, w31, w32, w33, w34, w35, w36, w37, w38, w39, w40, w41, w42, w43, w44, w45, w46, w47, w48, w49, w50, w51, w52, w53, w54, w55, w56, w57, w58, w59])), (a1, .inl (K 0, 5500, .inl row0)), (a2, .inl (K 0, 7, .inl (fun _ => 0))), (a3, .inl (K 0, 11000, .inl g)), (a4, .inl (K 1, 2, .inl (fun _ => 0)))]) (hS : va_S A s.heap H locs) (ls : Array Slot) (hl : lv_has ls 3 [(2, .int (nI i)), (0, .ref a0), (1, .int 0)]), W p l e ({ frames := 1, cells := 0, slots := 0, locals := 25 }) s m (([.ref a0, .int 0] : List Value).toArray) below meth c H locs 0 0 Q (F0 m 23 ls []) := by
        intro n
        induction n with
        | zero =>
          intro i g hn hi5 H locs hP hD hS ls hl
          exfalso; omega
        | succ n ih =>
          intro i g hn hi5 H locs hP hD hS ls hl
          refine lv_iload_n hx hb dX12_image_23 rfl (lv_at hl 0 rfl) ?_
          refine lv_sipush (v := 5500) hx hb dX12_image_24 (by decide) ?_
          refine lv_icmp_ge (tgt := 54) hx hb dX12_image_27 (by decide) (fun c_7 => ?_) (fun c_7 => ?_)
          · have c_7i := i_le (x := 5500) (y := ((i : Nat) : Int)) rfl (nI_toInt (by omega)) c_7
            refine lv_aload_n hx hb dX12_image_54 rfl (lv_at hl 1 rfl) ?_
            refine va_get (ci := 12) (v := .ref a4) (C := RX12) (T := TX12) (N := 60) hx hb hts hw12 hown hK hP 0 rfl rfl 5 (by decide) (hts (.fieldLink RX12 19 "SmokeTuneModel" "isKept" "[Z") (List.mem_cons_of_mem _ (List.mem_append_left _ (List.mem_of_getElem? (i := 3) rfl)))) (fun _ h9 => h9) rfl dX12_image_55 ?_
            refine lv_iload_n hx hb dX12_image_58 rfl (lv_at hl 2 rfl) ?_
            refine lv_iconst (v := 1) hx hb dX12_image_59 (by decide) ?_
            refine va_zast hx hb hK hP hD hS 4 1 rfl rfl (i_in (x := 0) rfl (by omega)) dX12_image_60 (fun H locs hP hD hS => ?_)
            generalize hf_8 : (upd (fun _ => 0) (0 : Int32).toNatClampNeg (vp_nar .boolean 1)) = f_8 at hP hD
            have hP : va_P D vwCl [(a0, .inr (12, [.int 0, w1, .ref a2, .ref a1, .ref a3, .ref a4, w6, w7, w8, w9, w10, w11, w12, w13, w14, w15, w16, w17, w18, w19, w20, w21, w22, w23, w24, w25, w26, w27, w28, w29, w30, w31, w32, w33, w34, w35, w36, w37, w38, w39, w40, w41, w42, w43, w44, w45, w46, w47, w48, w49, w50, w51, w52, w53, w54, w55, w56, w57, w58, w59])), (a1, .inl (K 0, 5500, .inl row0)), (a2, .inl (K 0, 7, .inl (fun _ => 0))), (a3, .inl (K 0, 11000, .inl g)), (a4, .inl (K 1, 2, .inl f_8))] H := hP
            have hD : va_D A [(a0, .inr (12, [.int 0, w1, .ref a2, .ref a1, .ref a3, .ref a4, w6, w7, w8, w9, w10, w11, w12, w13, w14, w15, w16, w17, w18, w19, w20, w21, w22, w23, w24, w25, w26, w27, w28, w29, w30, w31, w32, w33, w34, w35, w36, w37, w38, w39, w40, w41, w42, w43, w44, w45, w46, w47, w48, w49, w50, w51, w52, w53, w54, w55, w56, w57, w58, w59])), (a1, .inl (K 0, 5500, .inl row0)), (a2, .inl (K 0, 7, .inl (fun _ => 0))), (a3, .inl (K 0, 11000, .inl g)), (a4, .inl (K 1, 2, .inl f_8))] := hD
            refine lv_aload_n hx hb dX12_image_61 rfl (lv_at hl 1 rfl) ?_
            refine lv_iconst (v := 0) hx hb dX12_image_62 (by decide) ?_
            refine kci (wr := [(a1, .inl (K 0, 5500, .inl row0)), (a2, .inl (K 0, 7, .inl (fun _ => 0))), (a3, .inl (K 0, 11000, .inl g)), (a4, .inl (K 1, 2, .inl f_8))]) (va_runV (As := [.int 0]) (rest := []) ⟨hx, hb, hml, hown, hts⟩ (m_tell_pos l D K a0 0 (.int 0) w1 (.ref a2) (.ref a1) (.ref a3) (.ref a4) w6 w7 w8 w9 w10 w11 w12 w13 w14 w15 w16 w17 w18 w19 w20 w21 w22 w23 w24 w25 w26 w27 w28 w29 w30 w31 w32 w33 w34 w35 w36 w37 w38 w39 w40 w41 w42 w43 w44 w45 w46 w47 w48 w49 w50 w51 w52 w53 w54 w55 w56 w57 w58 w59 0 H.size rfl (by omega)) (cwV 1 hts gX12_image_X12_tell rfl rfl rfl (by decide +kernel) ⟨Nat.le_of_ble_eq_true rfl, Nat.le_of_ble_eq_true rfl⟩) (mkV hK hN (hP.sub [0] rfl) (hD.sub [0] (by decide) rfl) (ci := 12) (q0 := 0) rfl rfl) rfl rfl hl.1 rfl (lv_room (Nat.le_of_ble_eq_true rfl)) dX12_image_63 ⟨Nat.le_of_ble_eq_true rfl, Nat.le_of_ble_eq_true rfl⟩) hP hD hS hA [0] [1, 2, 3, 4] rfl rfl (by decide) (by decide) (fun r_9 u_10 H locs hw hP hD hS => ?_)
            have hP : va_P D vwCl [(a1, .inl (K 0, 5500, .inl row0)), (a2, .inl (K 0, 7, .inl (fun _ => 0))), (a3, .inl (K 0, 11000, .inl g)), (a4, .inl (K 1, 2, .inl f_8))] H := hP
            have hD : va_D A [(a1, .inl (K 0, 5500, .inl row0)), (a2, .inl (K 0, 7, .inl (fun _ => 0))), (a3, .inl (K 0, 11000, .inl g)), (a4, .inl (K 1, 2, .inl f_8))] := hD
            obtain rfl : r_9 = 0 := hw
            subst hQ
            exact W.iret (v := 0) hx hb hr (fun t ht hW => ⟨⟨0, (), rfl, (by first | exact Or.inl (⟨rfl, by first | omega | decide | (subst_vars; assumption) | (subst_vars; symm; assumption), by first | omega | decide | (subst_vars; assumption) | (subst_vars; symm; assumption)⟩)), Wd.nil⟩, hS.F ht⟩) hS.2.2 dX12_image_66
          · have c_7i := i_nle (x := 5500) (y := ((i : Nat) : Int)) rfl (nI_toInt (by omega)) c_7
            refine lv_aload_n hx hb dX12_image_30 rfl (lv_at hl 1 rfl) ?_
            refine va_get (ci := 12) (v := .ref a3) (C := RX12) (T := TX12) (N := 60) hx hb hts hw12 hown hK hP 0 rfl rfl 4 (by decide) (hts (.fieldLink RX12 16 "SmokeTuneModel" "images" "[I") (List.mem_cons_of_mem _ (List.mem_append_left _ (List.mem_of_getElem? (i := 1) rfl)))) (fun _ h9 => h9) rfl dX12_image_31 ?_
            refine lv_sipush (v := 5500) hx hb dX12_image_34 (by decide) ?_
            refine lv_iload_n hx hb dX12_image_37 rfl (lv_at hl 2 rfl) ?_
            refine lv_imul hx hb dX12_image_38 ?_
            refine lv_topi (fun x_11 ex_11 => ?_)
            obtain rfl : x_11 = 0 := ex_11.trans (by first | rfl | decide)
            refine lv_iload_n hx hb dX12_image_39 rfl (lv_at hl 0 rfl) ?_
            refine lv_iadd hx hb dX12_image_40 ?_
            refine lv_topi (fun x_12 ex_12 => ?_)
            have hx_12 : x_12.toInt = (0 + ((i : Nat) : Int)) := by rw [ex_12]; exact i_add rfl (nI_toInt (by omega)) (by omega)
            refine lv_aload_n hx hb dX12_image_41 rfl (lv_at hl 1 rfl) ?_
            refine va_get (ci := 12) (v := .ref a1) (C := RX12) (T := TX12) (N := 60) hx hb hts hw12 hown hK hP 0 rfl rfl 3 (by decide) (hts (.fieldLink RX12 13 "SmokeTuneModel" "row" "[I") (List.mem_cons_of_mem _ (List.mem_append_left _ (List.mem_of_getElem? (i := 2) rfl)))) (fun _ h9 => h9) rfl dX12_image_42 ?_
            refine lv_iload_n hx hb dX12_image_45 rfl (lv_at hl 0 rfl) ?_
            refine va_iald hx hb hK hP 1 0 rfl rfl (i_in (nI_toInt (by omega)) (by omega)) dX12_image_46 ?_
            refine lv_topi (fun x_13 ex_13 => ?_)
            refine va_iast hx hb hK hP hD hS 3 0 rfl rfl (i_in hx_12 (by omega)) dX12_image_47 (fun H locs hP hD hS => ?_)
            generalize hf_14 : (upd g (x_12 : Int32).toNatClampNeg x_13) = f_14 at hP hD
            have hP : va_P D vwCl [(a0, .inr (12, [.int 0, w1, .ref a2, .ref a1, .ref a3, .ref a4, w6, w7, w8, w9, w10, w11, w12, w13, w14, w15, w16, w17, w18, w19, w20, w21, w22, w23, w24, w25, w26, w27, w28, w29, w30, w31, w32, w33, w34, w35, w36, w37, w38, w39, w40, w41, w42, w43, w44, w45, w46, w47, w48, w49, w50, w51, w52, w53, w54, w55, w56, w57, w58, w59])), (a1, .inl (K 0, 5500, .inl row0)), (a2, .inl (K 0, 7, .inl (fun _ => 0))), (a3, .inl (K 0, 11000, .inl f_14)), (a4, .inl (K 1, 2, .inl (fun _ => 0)))] H := hP
            have hD : va_D A [(a0, .inr (12, [.int 0, w1, .ref a2, .ref a1, .ref a3, .ref a4, w6, w7, w8, w9, w10, w11, w12, w13, w14, w15, w16, w17, w18, w19, w20, w21, w22, w23, w24, w25, w26, w27, w28, w29, w30, w31, w32, w33, w34, w35, w36, w37, w38, w39, w40, w41, w42, w43, w44, w45, w46, w47, w48, w49, w50, w51, w52, w53, w54, w55, w56, w57, w58, w59])), (a1, .inl (K 0, 5500, .inl row0)), (a2, .inl (K 0, 7, .inl (fun _ => 0))), (a3, .inl (K 0, 11000, .inl f_14)), (a4, .inl (K 1, 2, .inl (fun _ => 0)))] := hD
            refine lv_iinc (v := nI (i + 1)) (lv' := [(2, .int (nI (i + 1))), (0, .ref a0), (1, .int 0)]) hx hb dX12_image_48 hl (k := 0) rfl (nI_1 i) (by decide) rfl (fun ls hl => ?_)
            refine lv_goto (tgt := 23) hx hb dX12_image_51 (by decide) ?_
            exact ih (i + 1) f_14 (by omega) (by omega) _ _ hP hD hS ls (lv_sub hl [0, 1, 2] rfl)
      exact lp_6 5501 0 (fun _ => 0) (by omega) (by omega) _ _ hP hD hS ls (lv_sub hl [0, 1, 2] rfl)
    · exfalso; omega
  · refine lv_aload_n hx hb dX12_image_0 rfl (lv_at hl 0 rfl) ?_
    refine lv_iconst (v := 0) hx hb dX12_image_1 (by decide) ?_
    refine va_put (ci := 12) (v := .int 0) (ty := .int) (C := RX12) (T := TX12) (N := 60) hx hb hts hw12 tyX12 tyX12_ok nmX12 hown hK hP hD hS 0 rfl rfl 0 (by decide) (hts (.fieldLink RX12 158 "SmokeTuneModel" "thrown" "I") (List.mem_cons_of_mem _ (List.mem_append_left _ (List.mem_of_getElem? (i := 0) rfl)))) (fun _ h9 => h9) rfl (by decide +kernel) (by first | rfl | decide) (by first | rfl | decide) (Nat.le_of_ble_eq_true rfl) dX12_image_2 (fun H locs hP hD hS => ?_)
    have hP : va_P D vwCl [(a0, .inr (12, [.int 0, w1, .ref a2, .ref a1, .ref a3, .ref a4, w6, w7, w8, w9, w10, w11, w12, w13, w14, w15, w16, w17, w18, w19, w20, w21, w22, w23, w24, w25, w26, w27, w28, w29, w30, w31, w32, w33, w34, w35, w36, w37, w38, w39, w40, w41, w42, w43, w44, w45, w46, w47, w48, w49, w50, w51, w52, w53, w54, w55, w56, w57, w58, w59])), (a1, .inl (K 0, 5500, .inl row0)), (a2, .inl (K 0, 7, .inl (fun _ => 0))), (a3, .inl (K 0, 11000, .inl (fun _ => 0))), (a4, .inl (K 1, 2, .inl (fun _ => 0)))] H := hP
    have hD : va_D A [(a0, .inr (12, [.int 0, w1, .ref a2, .ref a1, .ref a3, .ref a4, w6, w7, w8, w9, w10, w11, w12, w13, w14, w15, w16, w17, w18, w19, w20, w21, w22, w23, w24, w25, w26, w27, w28, w29, w30, w31, w32, w33, w34, w35, w36, w37, w38, w39, w40, w41, w42, w43, w44, w45, w46, w47, w48, w49, w50, w51, w52, w53, w54, w55, w56, w57, w58, w59])), (a1, .inl (K 0, 5500, .inl row0)), (a2, .inl (K 0, 7, .inl (fun _ => 0))), (a3, .inl (K 0, 11000, .inl (fun _ => 0))), (a4, .inl (K 1, 2, .inl (fun _ => 0)))] := hD
    refine lv_iload_n hx hb dX12_image_5 rfl (lv_at hl 1 rfl) ?_
    refine lv_i2l (v := 1) hx hb dX12_image_6 (by decide) ?_
    refine lv_lconst (v := 0) hx hb dX12_image_7 (by decide) ?_
    refine lv_lconst (v := 1) hx hb dX12_image_8 (by decide) ?_
    refine pci (va_runS (As := [.long 1, .long 0, .long 1]) (rest := []) ⟨hx, hb, hml, hown, hts⟩ (c_in l D K 1 0 1 1 0 1 H.size rfl rfl rfl) (va_cwS 3 hts gX12_image_X12_in rfl rfl rfl (by decide +kernel) ⟨Nat.le_of_ble_eq_true rfl, Nat.le_of_ble_eq_true rfl⟩) (mkS hK hN (hP.sub [] rfl) (hD.sub [] (by decide) rfl)) rfl rfl hl.1 rfl (lv_room (Nat.le_of_ble_eq_true rfl)) dX12_image_9 ⟨Nat.le_of_ble_eq_true rfl, Nat.le_of_ble_eq_true rfl⟩) (fun r_15 hw => ?_)
    rcases hw with ⟨rfl, h_16, h_17⟩ | ⟨rfl, h_18⟩
    · refine lv_if_ne (tgt := 21) hx hb dX12_image_12 (by decide) (fun c_19 => ?_) (fun c_19 => absurd c_19 (by decide))
      refine lv_iconst (v := 0) hx hb dX12_image_21 (by decide) ?_
      refine lv_istore_n (lv' := [(2, .int 0), (0, .ref a0), (1, .int 1)]) hx hb dX12_image_22 rfl hl (by decide) rfl (fun ls hl => ?_)
      have lp_20 : ∀ (n : Nat) (i : Nat) (g : Nat → Int32) (hn : 5501 ≤ i + n) (hi5 : i ≤ 5500) (H : Heap) (locs : List Loc) (hP : va_P D vwCl [(a0, .inr (12, [.int 0, w1, .ref a2, .ref a1, .ref a3, .ref a4, w6, w7, w8, w9, w10, w11, w12, w13, w14, w15, w16, w17, w18, w19, w20, w21, w22, w23, w24, w25, w26, w27, w28, w29, w30, w31, w32, w33, w34, w35, w36, w37, w38, w39, w40, w41, w42, w43, w44, w45, w46, w47, w48, w49, w50, w51, w52, w53, w54, w55, w56, w57, w58, w59])), (a1, .inl (K 0, 5500, .inl row0)), (a2, .inl (K 0, 7, .inl (fun _ => 0))), (a3, .inl (K 0, 11000, .inl g)), (a4, .inl (K 1, 2, .inl (fun _ => 0)))] H) (hD : va_D A [(a0, .inr (12, [.int 0, w1, .ref a2, .ref a1, .ref a3, .ref a4, w6, w7, w8, w9, w10, w11, w12, w13, w14, w15, w16, w17, w18, w19, w20, w21, w22, w23, w24, w25, w26, w27, w28, w29, w30, w31, w32, w33, w34, w35, w36, w37, w38, w39, w40, w41, w42, w43, w44, w45, w46, w47, w48, w49, w50, w51, w52, w53, w54, w55, w56, w57, w58, w59])), (a1, .inl (K 0, 5500, .inl row0)), (a2, .inl (K 0, 7, .inl (fun _ => 0))), (a3, .inl (K 0, 11000, .inl g)), (a4, .inl (K 1, 2, .inl (fun _ => 0)))]) (hS : va_S A s.heap H locs) (ls : Array Slot) (hl : lv_has ls 3 [(2, .int (nI i)), (0, .ref a0), (1, .int 1)]), W p l e ({ frames := 1, cells := 0, slots := 0, locals := 25 }) s m (([.ref a0, .int 1] : List Value).toArray) below meth c H locs 0 0 Q (F0 m 23 ls []) := by
        intro n
        induction n with
        | zero =>
          intro i g hn hi5 H locs hP hD hS ls hl
          exfalso; omega
        | succ n ih =>
          intro i g hn hi5 H locs hP hD hS ls hl
          refine lv_iload_n hx hb dX12_image_23 rfl (lv_at hl 0 rfl) ?_
          refine lv_sipush (v := 5500) hx hb dX12_image_24 (by decide) ?_
          refine lv_icmp_ge (tgt := 54) hx hb dX12_image_27 (by decide) (fun c_21 => ?_) (fun c_21 => ?_)
          · have c_21i := i_le (x := 5500) (y := ((i : Nat) : Int)) rfl (nI_toInt (by omega)) c_21
            refine lv_aload_n hx hb dX12_image_54 rfl (lv_at hl 1 rfl) ?_
            refine va_get (ci := 12) (v := .ref a4) (C := RX12) (T := TX12) (N := 60) hx hb hts hw12 hown hK hP 0 rfl rfl 5 (by decide) (hts (.fieldLink RX12 19 "SmokeTuneModel" "isKept" "[Z") (List.mem_cons_of_mem _ (List.mem_append_left _ (List.mem_of_getElem? (i := 3) rfl)))) (fun _ h9 => h9) rfl dX12_image_55 ?_
            refine lv_iload_n hx hb dX12_image_58 rfl (lv_at hl 2 rfl) ?_
            refine lv_iconst (v := 1) hx hb dX12_image_59 (by decide) ?_
            refine va_zast hx hb hK hP hD hS 4 1 rfl rfl (i_in (x := 1) rfl (by omega)) dX12_image_60 (fun H locs hP hD hS => ?_)
            generalize hf_22 : (upd (fun _ => 0) (1 : Int32).toNatClampNeg (vp_nar .boolean 1)) = f_22 at hP hD
            have hP : va_P D vwCl [(a0, .inr (12, [.int 0, w1, .ref a2, .ref a1, .ref a3, .ref a4, w6, w7, w8, w9, w10, w11, w12, w13, w14, w15, w16, w17, w18, w19, w20, w21, w22, w23, w24, w25, w26, w27, w28, w29, w30, w31, w32, w33, w34, w35, w36, w37, w38, w39, w40, w41, w42, w43, w44, w45, w46, w47, w48, w49, w50, w51, w52, w53, w54, w55, w56, w57, w58, w59])), (a1, .inl (K 0, 5500, .inl row0)), (a2, .inl (K 0, 7, .inl (fun _ => 0))), (a3, .inl (K 0, 11000, .inl g)), (a4, .inl (K 1, 2, .inl f_22))] H := hP
            have hD : va_D A [(a0, .inr (12, [.int 0, w1, .ref a2, .ref a1, .ref a3, .ref a4, w6, w7, w8, w9, w10, w11, w12, w13, w14, w15, w16, w17, w18, w19, w20, w21, w22, w23, w24, w25, w26, w27, w28, w29, w30, w31, w32, w33, w34, w35, w36, w37, w38, w39, w40, w41, w42, w43, w44, w45, w46, w47, w48, w49, w50, w51, w52, w53, w54, w55, w56, w57, w58, w59])), (a1, .inl (K 0, 5500, .inl row0)), (a2, .inl (K 0, 7, .inl (fun _ => 0))), (a3, .inl (K 0, 11000, .inl g)), (a4, .inl (K 1, 2, .inl f_22))] := hD
            refine lv_aload_n hx hb dX12_image_61 rfl (lv_at hl 1 rfl) ?_
            refine lv_iconst (v := 0) hx hb dX12_image_62 (by decide) ?_
            refine kci (wr := [(a1, .inl (K 0, 5500, .inl row0)), (a2, .inl (K 0, 7, .inl (fun _ => 0))), (a3, .inl (K 0, 11000, .inl g)), (a4, .inl (K 1, 2, .inl f_22))]) (va_runV (As := [.int 0]) (rest := []) ⟨hx, hb, hml, hown, hts⟩ (m_tell_pos l D K a0 0 (.int 0) w1 (.ref a2) (.ref a1) (.ref a3) (.ref a4) w6 w7 w8 w9 w10 w11 w12 w13 w14 w15 w16 w17 w18 w19 w20 w21 w22 w23 w24 w25 w26 w27 w28 w29 w30 w31 w32 w33 w34 w35 w36 w37 w38 w39 w40 w41 w42 w43 w44 w45 w46 w47 w48 w49 w50 w51 w52 w53 w54 w55 w56 w57 w58 w59 0 H.size rfl (by omega)) (cwV 1 hts gX12_image_X12_tell rfl rfl rfl (by decide +kernel) ⟨Nat.le_of_ble_eq_true rfl, Nat.le_of_ble_eq_true rfl⟩) (mkV hK hN (hP.sub [0] rfl) (hD.sub [0] (by decide) rfl) (ci := 12) (q0 := 0) rfl rfl) rfl rfl hl.1 rfl (lv_room (Nat.le_of_ble_eq_true rfl)) dX12_image_63 ⟨Nat.le_of_ble_eq_true rfl, Nat.le_of_ble_eq_true rfl⟩) hP hD hS hA [0] [1, 2, 3, 4] rfl rfl (by decide) (by decide) (fun r_23 u_24 H locs hw hP hD hS => ?_)
            have hP : va_P D vwCl [(a1, .inl (K 0, 5500, .inl row0)), (a2, .inl (K 0, 7, .inl (fun _ => 0))), (a3, .inl (K 0, 11000, .inl g)), (a4, .inl (K 1, 2, .inl f_22))] H := hP
            have hD : va_D A [(a1, .inl (K 0, 5500, .inl row0)), (a2, .inl (K 0, 7, .inl (fun _ => 0))), (a3, .inl (K 0, 11000, .inl g)), (a4, .inl (K 1, 2, .inl f_22))] := hD
            obtain rfl : r_23 = 0 := hw
            subst hQ
            exact W.iret (v := 0) hx hb hr (fun t ht hW => ⟨⟨0, (), rfl, (by first | exact Or.inl (⟨rfl, by first | omega | decide | (subst_vars; assumption) | (subst_vars; symm; assumption), by first | omega | decide | (subst_vars; assumption) | (subst_vars; symm; assumption)⟩)), Wd.nil⟩, hS.F ht⟩) hS.2.2 dX12_image_66
          · have c_21i := i_nle (x := 5500) (y := ((i : Nat) : Int)) rfl (nI_toInt (by omega)) c_21
            refine lv_aload_n hx hb dX12_image_30 rfl (lv_at hl 1 rfl) ?_
            refine va_get (ci := 12) (v := .ref a3) (C := RX12) (T := TX12) (N := 60) hx hb hts hw12 hown hK hP 0 rfl rfl 4 (by decide) (hts (.fieldLink RX12 16 "SmokeTuneModel" "images" "[I") (List.mem_cons_of_mem _ (List.mem_append_left _ (List.mem_of_getElem? (i := 1) rfl)))) (fun _ h9 => h9) rfl dX12_image_31 ?_
            refine lv_sipush (v := 5500) hx hb dX12_image_34 (by decide) ?_
            refine lv_iload_n hx hb dX12_image_37 rfl (lv_at hl 2 rfl) ?_
            refine lv_imul hx hb dX12_image_38 ?_
            refine lv_topi (fun x_25 ex_25 => ?_)
            obtain rfl : x_25 = 5500 := ex_25.trans (by first | rfl | decide)
            refine lv_iload_n hx hb dX12_image_39 rfl (lv_at hl 0 rfl) ?_
            refine lv_iadd hx hb dX12_image_40 ?_
            refine lv_topi (fun x_26 ex_26 => ?_)
            have hx_26 : x_26.toInt = (5500 + ((i : Nat) : Int)) := by rw [ex_26]; exact i_add rfl (nI_toInt (by omega)) (by omega)
            refine lv_aload_n hx hb dX12_image_41 rfl (lv_at hl 1 rfl) ?_
            refine va_get (ci := 12) (v := .ref a1) (C := RX12) (T := TX12) (N := 60) hx hb hts hw12 hown hK hP 0 rfl rfl 3 (by decide) (hts (.fieldLink RX12 13 "SmokeTuneModel" "row" "[I") (List.mem_cons_of_mem _ (List.mem_append_left _ (List.mem_of_getElem? (i := 2) rfl)))) (fun _ h9 => h9) rfl dX12_image_42 ?_
            refine lv_iload_n hx hb dX12_image_45 rfl (lv_at hl 0 rfl) ?_
            refine va_iald hx hb hK hP 1 0 rfl rfl (i_in (nI_toInt (by omega)) (by omega)) dX12_image_46 ?_
            refine lv_topi (fun x_27 ex_27 => ?_)
            refine va_iast hx hb hK hP hD hS 3 0 rfl rfl (i_in hx_26 (by omega)) dX12_image_47 (fun H locs hP hD hS => ?_)
            generalize hf_28 : (upd g (x_26 : Int32).toNatClampNeg x_27) = f_28 at hP hD
            have hP : va_P D vwCl [(a0, .inr (12, [.int 0, w1, .ref a2, .ref a1, .ref a3, .ref a4, w6, w7, w8, w9, w10, w11, w12, w13, w14, w15, w16, w17, w18, w19, w20, w21, w22, w23, w24, w25, w26, w27, w28, w29, w30, w31, w32, w33, w34, w35, w36, w37, w38, w39, w40, w41, w42, w43, w44, w45, w46, w47, w48, w49, w50, w51, w52, w53, w54, w55, w56, w57, w58, w59])), (a1, .inl (K 0, 5500, .inl row0)), (a2, .inl (K 0, 7, .inl (fun _ => 0))), (a3, .inl (K 0, 11000, .inl f_28)), (a4, .inl (K 1, 2, .inl (fun _ => 0)))] H := hP
            have hD : va_D A [(a0, .inr (12, [.int 0, w1, .ref a2, .ref a1, .ref a3, .ref a4, w6, w7, w8, w9, w10, w11, w12, w13, w14, w15, w16, w17, w18, w19, w20, w21, w22, w23, w24, w25, w26, w27, w28, w29, w30, w31, w32, w33, w34, w35, w36, w37, w38, w39, w40, w41, w42, w43, w44, w45, w46, w47, w48, w49, w50, w51, w52, w53, w54, w55, w56, w57, w58, w59])), (a1, .inl (K 0, 5500, .inl row0)), (a2, .inl (K 0, 7, .inl (fun _ => 0))), (a3, .inl (K 0, 11000, .inl f_28)), (a4, .inl (K 1, 2, .inl (fun _ => 0)))] := hD
            refine lv_iinc (v := nI (i + 1)) (lv' := [(2, .int (nI (i + 1))), (0, .ref a0), (1, .int 1)]) hx hb dX12_image_48 hl (k := 0) rfl (nI_1 i) (by decide) rfl (fun ls hl => ?_)
            refine lv_goto (tgt := 23) hx hb dX12_image_51 (by decide) ?_
            exact ih (i + 1) f_28 (by omega) (by omega) _ _ hP hD hS ls (lv_sub hl [0, 1, 2] rfl)
      exact lp_20 5501 0 (fun _ => 0) (by omega) (by omega) _ _ hP hD hS ls (lv_sub hl [0, 1, 2] rfl)
    · exfalso; omega
  · refine lv_aload_n hx hb dX12_image_0 rfl (lv_at hl 0 rfl) ?_
    refine lv_iconst (v := 0) hx hb dX12_image_1 (by decide) ?_
    refine va_put (ci := 12) (v := .int 0) (ty := .int) (C := RX12) (T := TX12) (N := 60) hx hb hts hw12 tyX12 tyX12_ok nmX12 hown hK hP hD hS 0 rfl rfl 0 (by decide) (hts (.fieldLink RX12 158 "SmokeTuneModel" "thrown" "I") (List.mem_cons_of_mem _ (List.mem_append_left _ (List.mem_of_getElem? (i := 0) rfl)))) (fun _ h9 => h9) rfl (by decide +kernel) (by first | rfl | decide) (by first | rfl | decide) (Nat.le_of_ble_eq_true rfl) dX12_image_2 (fun H locs hP hD hS => ?_)
    have hP : va_P D vwCl [(a0, .inr (12, [.int 0, w1, .ref a2, .ref a1, .ref a3, .ref a4, w6, w7, w8, w9, w10, w11, w12, w13, w14, w15, w16, w17, w18, w19, w20, w21, w22, w23, w24, w25, w26, w27, w28, w29, w30, w31, w32, w33, w34, w35, w36, w37, w38, w39, w40, w41, w42, w43, w44, w45, w46, w47, w48, w49, w50, w51, w52, w53, w54, w55, w56, w57, w58, w59])), (a1, .inl (K 0, 5500, .inl row0)), (a2, .inl (K 0, 7, .inl (fun _ => 0))), (a3, .inl (K 0, 11000, .inl (fun _ => 0))), (a4, .inl (K 1, 2, .inl (fun _ => 0)))] H := hP
    have hD : va_D A [(a0, .inr (12, [.int 0, w1, .ref a2, .ref a1, .ref a3, .ref a4, w6, w7, w8, w9, w10, w11, w12, w13, w14, w15, w16, w17, w18, w19, w20, w21, w22, w23, w24, w25, w26, w27, w28, w29, w30, w31, w32, w33, w34, w35, w36, w37, w38, w39, w40, w41, w42, w43, w44, w45, w46, w47, w48, w49, w50, w51, w52, w53, w54, w55, w56, w57, w58, w59])), (a1, .inl (K 0, 5500, .inl row0)), (a2, .inl (K 0, 7, .inl (fun _ => 0))), (a3, .inl (K 0, 11000, .inl (fun _ => 0))), (a4, .inl (K 1, 2, .inl (fun _ => 0)))] := hD
    refine lv_iload_n hx hb dX12_image_5 rfl (lv_at hl 1 rfl) ?_
    refine lv_i2l hx hb dX12_image_6 rfl ?_
    refine lv_topl (fun x_29 ex_29 => ?_)
    have hx_29 : x_29.toInt = x.toInt := by rw [ex_29]; exact i_wide rfl
    refine lv_lconst (v := 0) hx hb dX12_image_7 (by decide) ?_
    refine lv_lconst (v := 1) hx hb dX12_image_8 (by decide) ?_
    refine pci (va_runS (As := [.long x_29, .long 0, .long 1]) (rest := []) ⟨hx, hb, hml, hown, hts⟩ (c_in l D K x_29 0 1 x.toInt 0 1 H.size hx_29 rfl rfl) (va_cwS 3 hts gX12_image_X12_in rfl rfl rfl (by decide +kernel) ⟨Nat.le_of_ble_eq_true rfl, Nat.le_of_ble_eq_true rfl⟩) (mkS hK hN (hP.sub [] rfl) (hD.sub [] (by decide) rfl)) rfl rfl hl.1 rfl (lv_room (Nat.le_of_ble_eq_true rfl)) dX12_image_9 ⟨Nat.le_of_ble_eq_true rfl, Nat.le_of_ble_eq_true rfl⟩) (fun r_30 hw => ?_)
    rcases hw with ⟨rfl, h_31, h_32⟩ | ⟨rfl, h_33⟩
    · exfalso; omega
    · refine lv_if_ne (tgt := 21) hx hb dX12_image_12 (by decide) (fun c_34 => absurd (by decide) c_34) (fun c_34 => ?_)
      refine lv_aload_n hx hb dX12_image_15 rfl (lv_at hl 0 rfl) ?_
      refine lv_iconst (v := (-1)) hx hb dX12_image_16 (by decide) ?_
      refine kci (wr := [(a1, .inl (K 0, 5500, .inl row0)), (a3, .inl (K 0, 11000, .inl (fun _ => 0))), (a4, .inl (K 1, 2, .inl (fun _ => 0)))]) (va_runV (As := [.int (-1)]) (rest := []) ⟨hx, hb, hml, hown, hts⟩ (m_tell_1 l D K a0 (.int 0) w1 a2 (.ref a1) (.ref a3) (.ref a4) w6 w7 w8 w9 w10 w11 w12 w13 w14 w15 w16 w17 w18 w19 w20 w21 w22 w23 w24 w25 w26 w27 w28 w29 w30 w31 w32 w33 w34 w35 w36 w37 w38 w39 w40 w41 w42 w43 w44 w45 w46 w47 w48 w49 w50 w51 w52 w53 w54 w55 w56 w57 w58 w59 (fun _ => 0) H.size) (cwV 1 hts gX12_image_X12_tell rfl rfl rfl (by decide +kernel) ⟨Nat.le_of_ble_eq_true rfl, Nat.le_of_ble_eq_true rfl⟩) (mkV hK hN (hP.sub [0, 2] rfl) (hD.sub [0, 2] (by decide) rfl) (ci := 12) (q0 := 0) rfl rfl) rfl rfl hl.1 rfl (lv_room (Nat.le_of_ble_eq_true rfl)) dX12_image_17 ⟨Nat.le_of_ble_eq_true rfl, Nat.le_of_ble_eq_true rfl⟩) hP hD hS hA [0, 2] [1, 3, 4] rfl rfl (by decide) (by decide) (fun r_35 u_36 H locs hw hP hD hS => ?_)
      have hP : va_P D vwCl [(a1, .inl (K 0, 5500, .inl row0)), (a3, .inl (K 0, 11000, .inl (fun _ => 0))), (a4, .inl (K 1, 2, .inl (fun _ => 0)))] H := hP
      have hD : va_D A [(a1, .inl (K 0, 5500, .inl row0)), (a3, .inl (K 0, 11000, .inl (fun _ => 0))), (a4, .inl (K 1, 2, .inl (fun _ => 0)))] := hD
      obtain rfl : r_35 = (-1) := hw
      subst hQ
      exact W.iret (v := (-1)) hx hb hr (fun t ht hW => ⟨⟨(-1), (), rfl, (by first | exact Or.inr (⟨rfl, by first | omega | decide | (subst_vars; assumption) | (subst_vars; symm; assumption)⟩)), Wd.nil⟩, hS.F ht⟩) hS.2.2 dX12_image_20
set_option maxHeartbeats 4000000 in
set_option maxRecDepth 100000 in
theorem m_remember (l : Launch) (D : va_G) (K : Nat → ClassId) (a0 : Nat) (w0 : Value) (w1 : Value) (w2 : Value) (a1 : Nat) (w4 : Value) (w5 : Value) (a3 : Nat) (a4 : Nat) (w9 : Value) (w10 : Value) (w11 : Value) (w12 : Value) (w13 : Value) (w14 : Value) (w15 : Value) (w16 : Value) (w17 : Value) (w18 : Value) (w19 : Value) (w20 : Value) (w21 : Value) (w22 : Value) (w23 : Value) (w24 : Value) (w25 : Value) (w26 : Value) (w27 : Value) (w28 : Value) (w29 : Value) (w30 : Value) (w31 : Value) (w32 : Value) (w33 : Value) (w34 : Value) (w35 : Value) (w36 : Value) (w37 : Value) (w38 : Value) (w39 : Value) (w40 : Value) (w41 : Value) (w42 : Value) (w43 : Value) (w44 : Value) (w45 : Value) (w46 : Value) (w47 : Value) (w48 : Value) (w49 : Value) (w50 : Value) (w51 : Value) (w52 : Value) (w53 : Value) (w54 : Value) (w55 : Value) (w56 : Value) (w57 : Value) (w58 : Value) (w59 : Value) (f3 : Nat → Int32) (f4 : Nat → Int32) (sz : Nat) : Met l yX12_remember wsX12_remember ({ frames := 1, cells := 0, slots := 0, locals := 22 }) (va_Pc [.ref a0, .int 3] (Pre D K [(a0, .inr (12, [w0, w1, w2, .ref a1, w4, w5, .ref a3, .ref a4, .int 0, w9, w10, w11, w12, w13, w14, w15, w16, w17, w18, w19, w20, w21, w22, w23, w24, w25, w26, w27, w28, w29, w30, w31, w32, w33, w34, w35, w36, w37, w38, w39, w40, w41, w42, w43, w44, w45, w46, w47, w48, w49, w50, w51, w52, w53, w54, w55, w56, w57, w58, w59])), (a1, .inl (K 0, 5500, .inl row0)), (a3, .inl (K 0, 558, .inl f3)), (a4, .inl (K 0, 16, .inl f4))] sz)) (va_Qv (S := (Nat → Nat) × (Nat → Nat → Int32) × (Nat → Nat → Int64) × (Nat → Int32)) (fun _ => True) (fun u t => Wd D (va_A [(a0, .inr (12, [w0, w1, w2, .ref a1, w4, w5, .ref a3, .ref a4, .int 0, w9, w10, w11, w12, w13, w14, w15, w16, w17, w18, w19, w20, w21, w22, w23, w24, w25, w26, w27, w28, w29, w30, w31, w32, w33, w34, w35, w36, w37, w38, w39, w40, w41, w42, w43, w44, w45, w46, w47, w48, w49, w50, w51, w52, w53, w54, w55, w56, w57, w58, w59])), (a1, .inl (K 0, 5500, .inl row0)), (a3, .inl (K 0, 558, .inl f3)), (a4, .inl (K 0, 16, .inl f4))] sz) ((fun u => [(a4, .inl (K 0, 16, .inl ((u.2.1 0)))), (a0, .inr (12, [w0, w1, w2, .ref a1, w4, w5, .ref a3, .ref a4, .int 1, w9, w10, w11, w12, w13, w14, w15, w16, w17, w18, w19, w20, w21, w22, w23, w24, w25, w26, w27, w28, w29, w30, w31, w32, w33, w34, w35, w36, w37, w38, w39, w40, w41, w42, w43, w44, w45, w46, w47, w48, w49, w50, w51, w52, w53, w54, w55, w56, w57, w58, w59])), (a1, .inl (K 0, 5500, .inl row0)), (a3, .inl (K 0, 558, .inl ((u.2.1 1))))]) u) t) (va_A [(a0, .inr (12, [w0, w1, w2, .ref a1, w4, w5, .ref a3, .ref a4, .int 0, w9, w10, w11, w12, w13, w14, w15, w16, w17, w18, w19, w20, w21, w22, w23, w24, w25, w26, w27, w28, w29, w30, w31, w32, w33, w34, w35, w36, w37, w38, w39, w40, w41, w42, w43, w44, w45, w46, w47, w48, w49, w50, w51, w52, w53, w54, w55, w56, w57, w58, w59])), (a1, .inl (K 0, 5500, .inl row0)), (a3, .inl (K 0, 558, .inl f3)), (a4, .inl (K 0, 16, .inl f4))] sz)) 0 0 (va_A [(a0, .inr (12, [w0, w1, w2, .ref a1, w4, w5, .ref a3, .ref a4, .int 0, w9, w10, w11, w12, w13, w14, w15, w16, w17, w18, w19, w20, w21, w22, w23, w24, w25, w26, w27, w28, w29, w30, w31, w32, w33, w34, w35, w36, w37, w38, w39, w40, w41, w42, w43, w44, w45, w46, w47, w48, w49, w50, w51, w52, w53, w54, w55, w56, w57, w58, w59])), (a1, .inl (K 0, 5500, .inl row0)), (a3, .inl (K 0, 558, .inl f3)), (a4, .inl (K 0, 16, .inl f4))] sz) := by
  refine Met.ofW (cc := cX12_remember) (maxL := 3) (ret := none) (by decide) rfl ?_
  intro p e s m args below meth c s₁ B hml hv
  obtain ⟨rfl, hsz, hP, hK, hD0, hN⟩ := hv
  have hx := B.exec
  have hb := B.bytes
  have hr := B.returns
  have hts := atoms_spec (ws := wsX12_remember) B.pre
  have hown : s.vm.findClass RX12 = some m.cls := findClass_of_methodNamed B.named
  have hlocks := B.notSynchronized
  subst hsz
  have hD := hD0.self (sz := s.heap.size)
  generalize hAe : va_A [(a0, .inr (12, [w0, w1, w2, .ref a1, w4, w5, .ref a3, .ref a4, .int 0, w9, w10, w11, w12, w13, w14, w15, w16, w17, w18, w19, w20, w21, w22, w23, w24, w25, w26, w27, w28, w29, w30, w31, w32, w33, w34, w35, w36, w37, w38, w39, w40, w41, w42, w43, w44, w45, w46, w47, w48, w49, w50, w51, w52, w53, w54, w55, w56, w57, w58, w59])), (a1, .inl (K 0, 5500, .inl row0)), (a3, .inl (K 0, 558, .inl f3)), (a4, .inl (K 0, 16, .inl f4))] s.heap.size = A at hD ⊢
  have hA : ∀ q : Nat, s.heap.size ≤ q → A q := fun q h => by rw [← hAe]; exact Or.inr h
  have hS : va_S A s.heap s.heap [] := va_S.rf
  have hP : va_P D vwCl [(a0, .inr (12, [w0, w1, w2, .ref a1, w4, w5, .ref a3, .ref a4, .int 0, w9, w10, w11, w12, w13, w14, w15, w16, w17, w18, w19, w20, w21, w22, w23, w24, w25, w26, w27, w28, w29, w30, w31, w32, w33, w34, w35, w36, w37, w38, w39, w40, w41, w42, w43, w44, w45, w46, w47, w48, w49, w50, w51, w52, w53, w54, w55, w56, w57, w58, w59])), (a1, .inl (K 0, 5500, .inl row0)), (a3, .inl (K 0, 558, .inl f3)), (a4, .inl (K 0, 16, .inl f4))] s.heap := hP
  have hl := lv_entry [.ref a0, .int 3] (n := 3) (Nat.le_of_ble_eq_true rfl)
  rw [lg_entry_eq]
  generalize (lg_sl [.ref a0, .int 3] ++ List.replicate (3 - (lg_sl [.ref a0, .int 3]).length) Slot.unset).toArray = ls at hl ⊢
  have hl : lv_has ls 3 [(0, .ref a0), (1, .int 3)] := hl
  have hw12 : ∀ w ∈ wsX120, w ∈ wsX12_remember := fun w h => (List.mem_cons_of_mem _ (List.mem_append_right _ h))
  refine lv_aload_n hx hb dX12_remember_0 rfl (lv_at hl 0 rfl) ?_
  refine va_get (ci := 12) (v := .int 0) (C := RX12) (T := TX12) (N := 60) hx hb hts hw12 hown hK hP 0 rfl rfl 8 (by decide) (hts (.fieldLink RX12 164 "SmokeTuneModel" "nUndo" "I") (List.mem_cons_of_mem _ (List.mem_append_left _ (List.mem_of_getElem? (i := 0) rfl)))) (fun _ h9 => h9) rfl dX12_remember_1 ?_
  refine lv_bipush (v := 16) hx hb dX12_remember_4 (by decide) ?_
  refine lv_icmp_ne (tgt := 77) hx hb dX12_remember_6 (by decide) (fun c_1 => ?_) (fun c_1 => absurd c_1 (by decide))
  refine lv_aload_n hx hb dX12_remember_77 rfl (lv_at hl 0 rfl) ?_
  refine lv_aload_n hx hb dX12_remember_78 rfl (lv_at hl 0 rfl) ?_
  refine va_get (ci := 12) (v := .int 0) (C := RX12) (T := TX12) (N := 60) hx hb hts hw12 hown hK hP 0 rfl rfl 8 (by decide) (hts (.fieldLink RX12 164 "SmokeTuneModel" "nUndo" "I") (List.mem_cons_of_mem _ (List.mem_append_left _ (List.mem_of_getElem? (i := 0) rfl)))) (fun _ h9 => h9) rfl dX12_remember_79 ?_
  refine kcv (wr := [(a4, .inl (K 0, 16, .inl f4))]) (va_runV (As := [.int 0]) (rest := []) ⟨hx, hb, hml, hown, hts⟩ (m_keepAll_0 l D K a0 w0 w1 w2 a1 w4 w5 a3 (.ref a4) (.int 0) w9 w10 w11 w12 w13 w14 w15 w16 w17 w18 w19 w20 w21 w22 w23 w24 w25 w26 w27 w28 w29 w30 w31 w32 w33 w34 w35 w36 w37 w38 w39 w40 w41 w42 w43 w44 w45 w46 w47 w48 w49 w50 w51 w52 w53 w54 w55 w56 w57 w58 w59 row0 f3 s.heap.size) (cwV 1 hts gX12_remember_X12_keepAll rfl rfl rfl (by decide +kernel) ⟨Nat.le_of_ble_eq_true rfl, Nat.le_of_ble_eq_true rfl⟩) (mkV hK hN (hP.sub [0, 1, 2] rfl) (hD.sub [0, 1, 2] (by decide) rfl) (ci := 12) (q0 := 0) rfl rfl) rfl rfl hl.1 rfl (lv_room (Nat.le_of_ble_eq_true rfl)) dX12_remember_82 ⟨Nat.le_of_ble_eq_true rfl, Nat.le_of_ble_eq_true rfl⟩) hP hD hS hA [0, 1, 2] [3] rfl rfl (by decide) (by decide) (fun u_3 H locs hw hP hD hS => ?_)
  have hP : va_P D vwCl [(a4, .inl (K 0, 16, .inl f4)), (a0, .inr (12, [w0, w1, w2, .ref a1, w4, w5, .ref a3, .ref a4, .int 0, w9, w10, w11, w12, w13, w14, w15, w16, w17, w18, w19, w20, w21, w22, w23, w24, w25, w26, w27, w28, w29, w30, w31, w32, w33, w34, w35, w36, w37, w38, w39, w40, w41, w42, w43, w44, w45, w46, w47, w48, w49, w50, w51, w52, w53, w54, w55, w56, w57, w58, w59])), (a1, .inl (K 0, 5500, .inl row0)), (a3, .inl (K 0, 558, .inl ((u_3.2.1 0))))] H := hP
  have hD : va_D A [(a4, .inl (K 0, 16, .inl f4)), (a0, .inr (12, [w0, w1, w2, .ref a1, w4, w5, .ref a3, .ref a4, .int 0, w9, w10, w11, w12, w13, w14, w15, w16, w17, w18, w19, w20, w21, w22, w23, w24, w25, w26, w27, w28, w29, w30, w31, w32, w33, w34, w35, w36, w37, w38, w39, w40, w41, w42, w43, w44, w45, w46, w47, w48, w49, w50, w51, w52, w53, w54, w55, w56, w57, w58, w59])), (a1, .inl (K 0, 5500, .inl row0)), (a3, .inl (K 0, 558, .inl ((u_3.2.1 0))))] := hD
  refine lv_aload_n hx hb dX12_remember_85 rfl (lv_at hl 0 rfl) ?_
  refine va_get (ci := 12) (v := .ref a4) (C := RX12) (T := TX12) (N := 60) hx hb hts hw12 hown hK hP 1 rfl rfl 7 (by decide) (hts (.fieldLink RX12 26 "SmokeTuneModel" "sorts" "[I") (List.mem_cons_of_mem _ (List.mem_append_left _ (List.mem_of_getElem? (i := 2) rfl)))) (fun _ h9 => h9) rfl dX12_remember_86 ?_
  refine lv_aload_n hx hb dX12_remember_89 rfl (lv_at hl 0 rfl) ?_
  refine va_get (ci := 12) (v := .int 0) (C := RX12) (T := TX12) (N := 60) hx hb hts hw12 hown hK hP 1 rfl rfl 8 (by decide) (hts (.fieldLink RX12 164 "SmokeTuneModel" "nUndo" "I") (List.mem_cons_of_mem _ (List.mem_append_left _ (List.mem_of_getElem? (i := 0) rfl)))) (fun _ h9 => h9) rfl dX12_remember_90 ?_
  refine lv_iload_n hx hb dX12_remember_93 rfl (lv_at hl 1 rfl) ?_
  refine va_iast hx hb hK hP hD hS 0 0 rfl rfl (i_in (x := 0) rfl (by omega)) dX12_remember_94 (fun H locs hP hD hS => ?_)
  generalize hf_4 : (upd f4 (0 : Int32).toNatClampNeg 3) = f_4 at hP hD
  have hP : va_P D vwCl [(a4, .inl (K 0, 16, .inl f_4)), (a0, .inr (12, [w0, w1, w2, .ref a1, w4, w5, .ref a3, .ref a4, .int 0, w9, w10, w11, w12, w13, w14, w15, w16, w17, w18, w19, w20, w21, w22, w23, w24, w25, w26, w27, w28, w29, w30, w31, w32, w33, w34, w35, w36, w37, w38, w39, w40, w41, w42, w43, w44, w45, w46, w47, w48, w49, w50, w51, w52, w53, w54, w55, w56, w57, w58, w59])), (a1, .inl (K 0, 5500, .inl row0)), (a3, .inl (K 0, 558, .inl ((u_3.2.1 0))))] H := hP
  have hD : va_D A [(a4, .inl (K 0, 16, .inl f_4)), (a0, .inr (12, [w0, w1, w2, .ref a1, w4, w5, .ref a3, .ref a4, .int 0, w9, w10, w11, w12, w13, w14, w15, w16, w17, w18, w19, w20, w21, w22, w23, w24, w25, w26, w27, w28, w29, w30, w31, w32, w33, w34, w35, w36, w37, w38, w39, w40, w41, w42, w43, w44, w45, w46, w47, w48, w49, w50, w51, w52, w53, w54, w55, w56, w57, w58, w59])), (a1, .inl (K 0, 5500, .inl row0)), (a3, .inl (K 0, 558, .inl ((u_3.2.1 0))))] := hD
  refine lv_aload_n hx hb dX12_remember_95 rfl (lv_at hl 0 rfl) ?_
  refine lv_dup hx hb dX12_remember_96 rfl ?_
  refine va_get (ci := 12) (v := .int 0) (C := RX12) (T := TX12) (N := 60) hx hb hts hw12 hown hK hP 1 rfl rfl 8 (by decide) (hts (.fieldLink RX12 164 "SmokeTuneModel" "nUndo" "I") (List.mem_cons_of_mem _ (List.mem_append_left _ (List.mem_of_getElem? (i := 0) rfl)))) (fun _ h9 => h9) rfl dX12_remember_97 ?_
  refine lv_iconst (v := 1) hx hb dX12_remember_100 (by decide) ?_
  refine lv_iadd hx hb dX12_remember_101 ?_
  refine lv_topi (fun x_5 ex_5 => ?_)
  obtain rfl : x_5 = 1 := ex_5.trans (by first | rfl | decide)
  refine va_put (ci := 12) (v := .int 1) (ty := .int) (C := RX12) (T := TX12) (N := 60) hx hb hts hw12 tyX12 tyX12_ok nmX12 hown hK hP hD hS 1 rfl rfl 8 (by decide) (hts (.fieldLink RX12 164 "SmokeTuneModel" "nUndo" "I") (List.mem_cons_of_mem _ (List.mem_append_left _ (List.mem_of_getElem? (i := 0) rfl)))) (fun _ h9 => h9) rfl (by decide +kernel) (by first | rfl | decide) (by first | rfl | decide) (Nat.le_of_ble_eq_true rfl) dX12_remember_102 (fun H locs hP hD hS => ?_)
  have hP : va_P D vwCl [(a4, .inl (K 0, 16, .inl f_4)), (a0, .inr (12, [w0, w1, w2, .ref a1, w4, w5, .ref a3, .ref a4, .int 1, w9, w10, w11, w12, w13, w14, w15, w16, w17, w18, w19, w20, w21, w22, w23, w24, w25, w26, w27, w28, w29, w30, w31, w32, w33, w34, w35, w36, w37, w38, w39, w40, w41, w42, w43, w44, w45, w46, w47, w48, w49, w50, w51, w52, w53, w54, w55, w56, w57, w58, w59])), (a1, .inl (K 0, 5500, .inl row0)), (a3, .inl (K 0, 558, .inl ((u_3.2.1 0))))] H := hP
  have hD : va_D A [(a4, .inl (K 0, 16, .inl f_4)), (a0, .inr (12, [w0, w1, w2, .ref a1, w4, w5, .ref a3, .ref a4, .int 1, w9, w10, w11, w12, w13, w14, w15, w16, w17, w18, w19, w20, w21, w22, w23, w24, w25, w26, w27, w28, w29, w30, w31, w32, w33, w34, w35, w36, w37, w38, w39, w40, w41, w42, w43, w44, w45, w46, w47, w48, w49, w50, w51, w52, w53, w54, w55, w56, w57, w58, w59])), (a1, .inl (K 0, 5500, .inl row0)), (a3, .inl (K 0, 558, .inl ((u_3.2.1 0))))] := hD
  have hP9 := hP.sub (ws' := [(a4, .inl (K 0, 16, .inl f_4)), (a0, .inr (12, [w0, w1, w2, .ref a1, w4, w5, .ref a3, .ref a4, .int 1, w9, w10, w11, w12, w13, w14, w15, w16, w17, w18, w19, w20, w21, w22, w23, w24, w25, w26, w27, w28, w29, w30, w31, w32, w33, w34, w35, w36, w37, w38, w39, w40, w41, w42, w43, w44, w45, w46, w47, w48, w49, w50, w51, w52, w53, w54, w55, w56, w57, w58, w59])), (a1, .inl (K 0, 5500, .inl row0)), (a3, .inl (K 0, 558, .inl ((u_3.2.1 0))))]) [0, 1, 2, 3] rfl
  have hD9 := hD.sub (ws' := [(a4, .inl (K 0, 16, .inl f_4)), (a0, .inr (12, [w0, w1, w2, .ref a1, w4, w5, .ref a3, .ref a4, .int 1, w9, w10, w11, w12, w13, w14, w15, w16, w17, w18, w19, w20, w21, w22, w23, w24, w25, w26, w27, w28, w29, w30, w31, w32, w33, w34, w35, w36, w37, w38, w39, w40, w41, w42, w43, w44, w45, w46, w47, w48, w49, w50, w51, w52, w53, w54, w55, w56, w57, w58, w59])), (a1, .inl (K 0, 5500, .inl row0)), (a3, .inl (K 0, 558, .inl ((u_3.2.1 0))))]) [0, 1, 2, 3] (by decide) rfl
  exact W.vret hx hb hr (fun t ht hW => ⟨⟨(fun _ => 0, fun i => match i with | 0 => f_4 | _ => (u_3.2.1 0), fun _ => fun _ => 0, fun _ => 0), rfl, trivial, (⟨by rw [ht]; exact hP9, hD9⟩ : Wd D A _ t)⟩, hS.F ht⟩) hS.2.2 dX12_remember_105
set_option maxHeartbeats 4000000 in
set_option maxRecDepth 100000 in
theorem m_passNow (l : Launch) (D : va_G) (K : Nat → ClassId) (a0 : Nat) (w0 : Value) (w1 : Value) (w2 : Value) (a1 : Nat) (w4 : Value) (w5 : Value) (a3 : Nat) (a4 : Nat) (w9 : Value) (w10 : Value) (w11 : Value) (w12 : Value) (w13 : Value) (w14 : Value) (w15 : Value) (w16 : Value) (w17 : Value) (w18 : Value) (w19 : Value) (w20 : Value) (w21 : Value) (w22 : Value) (w23 : Value) (w24 : Value) (w25 : Value) (w26 : Value) (w27 : Value) (w28 : Value) (w29 : Value) (w30 : Value) (w31 : Value) (w32 : Value) (w33 : Value) (w34 : Value) (w35 : Value) (w36 : Value) (w37 : Value) (w38 : Value) (w39 : Value) (w40 : Value) (w41 : Value) (w42 : Value) (w43 : Value) (w44 : Value) (w45 : Value) (w46 : Value) (w47 : Value) (w48 : Value) (w49 : Value) (w50 : Value) (w51 : Value) (w52 : Value) (w53 : Value) (w54 : Value) (w55 : Value) (w56 : Value) (w57 : Value) (w58 : Value) (w59 : Value) (f3 : Nat → Int32) (f4 : Nat → Int32) (sz : Nat) : Met l yX12_passNow wsX12_passNow ({ frames := 3, cells := 0, slots := 0, locals := 64 }) (va_Pc [.ref a0] (Pre D K [(a0, .inr (12, [w0, w1, w2, .ref a1, w4, w5, .ref a3, .ref a4, .int 0, w9, w10, w11, w12, w13, w14, w15, w16, w17, w18, w19, w20, w21, w22, w23, w24, w25, w26, w27, w28, w29, w30, w31, w32, w33, w34, w35, w36, w37, w38, w39, w40, w41, w42, w43, w44, w45, w46, w47, w48, w49, w50, w51, w52, w53, w54, w55, w56, w57, w58, w59])), (a1, .inl (K 0, 5500, .inl row0)), (a3, .inl (K 0, 558, .inl f3)), (a4, .inl (K 0, 16, .inl f4))] sz)) (va_Qi (S := (Nat → Nat) × (Nat → Nat → Int32) × (Nat → Nat → Int64) × (Nat → Int32)) (fun (r : Int32) (_ : (Nat → Nat) × (Nat → Nat → Int32) × (Nat → Nat → Int64) × (Nat → Int32)) => (r = 1)) (fun u t => Wd D (va_A [(a0, .inr (12, [w0, w1, w2, .ref a1, w4, w5, .ref a3, .ref a4, .int 0, w9, w10, w11, w12, w13, w14, w15, w16, w17, w18, w19, w20, w21, w22, w23, w24, w25, w26, w27, w28, w29, w30, w31, w32, w33, w34, w35, w36, w37, w38, w39, w40, w41, w42, w43, w44, w45, w46, w47, w48, w49, w50, w51, w52, w53, w54, w55, w56, w57, w58, w59])), (a1, .inl (K 0, 5500, .inl row0)), (a3, .inl (K 0, 558, .inl f3)), (a4, .inl (K 0, 16, .inl f4))] sz) ((fun u => [(a4, .inl (K 0, 16, .inl ((u.2.1 0)))), (a3, .inl (K 0, 558, .inl ((u.2.1 1)))), (a0, .inr (12, [w0, w1, w2, .ref a1, w4, w5, .ref a3, .ref a4, .int 1, w9, w10, w11, w12, w13, w14, w15, w16, w17, w18, w19, w20, w21, w22, w23, w24, w25, w26, w27, w28, w29, w30, w31, w32, w33, w34, w35, w36, w37, w38, w39, w40, w41, w42, w43, w44, w45, w46, w47, w48, w49, w50, w51, w52, w53, w54, w55, w56, w57, w58, w59])), (a1, .inl (K 0, 5500, .inl ((u.2.1 2))))]) u) t) (va_A [(a0, .inr (12, [w0, w1, w2, .ref a1, w4, w5, .ref a3, .ref a4, .int 0, w9, w10, w11, w12, w13, w14, w15, w16, w17, w18, w19, w20, w21, w22, w23, w24, w25, w26, w27, w28, w29, w30, w31, w32, w33, w34, w35, w36, w37, w38, w39, w40, w41, w42, w43, w44, w45, w46, w47, w48, w49, w50, w51, w52, w53, w54, w55, w56, w57, w58, w59])), (a1, .inl (K 0, 5500, .inl row0)), (a3, .inl (K 0, 558, .inl f3)), (a4, .inl (K 0, 16, .inl f4))] sz)) 0 0 (va_A [(a0, .inr (12, [w0, w1, w2, .ref a1, w4, w5, .ref a3, .ref a4, .int 0, w9, w10, w11, w12, w13, w14, w15, w16, w17, w18, w19, w20, w21, w22, w23, w24, w25, w26, w27, w28, w29, w30, w31, w32, w33, w34, w35, w36, w37, w38, w39, w40, w41, w42, w43, w44, w45, w46, w47, w48, w49, w50, w51, w52, w53, w54, w55, w56, w57, w58, w59])), (a1, .inl (K 0, 5500, .inl row0)), (a3, .inl (K 0, 558, .inl f3)), (a4, .inl (K 0, 16, .inl f4))] sz) := by
  refine Met.ofW (cc := cX12_passNow) (maxL := 1) (ret := (some .int)) (by decide) rfl ?_
  intro p e s m args below meth c s₁ B hml hv
  obtain ⟨rfl, hsz, hP, hK, hD0, hN⟩ := hv
  have hx := B.exec
  have hb := B.bytes
  have hr := B.returns
  have hts := atoms_spec (ws := wsX12_passNow) B.pre
  have hown : s.vm.findClass RX12 = some m.cls := findClass_of_methodNamed B.named
  have hlocks := B.notSynchronized
  subst hsz
  have hD := hD0.self (sz := s.heap.size)
  generalize hAe : va_A [(a0, .inr (12, [w0, w1, w2, .ref a1, w4, w5, .ref a3, .ref a4, .int 0, w9, w10, w11, w12, w13, w14, w15, w16, w17, w18, w19, w20, w21, w22, w23, w24, w25, w26, w27, w28, w29, w30, w31, w32, w33, w34, w35, w36, w37, w38, w39, w40, w41, w42, w43, w44, w45, w46, w47, w48, w49, w50, w51, w52, w53, w54, w55, w56, w57, w58, w59])), (a1, .inl (K 0, 5500, .inl row0)), (a3, .inl (K 0, 558, .inl f3)), (a4, .inl (K 0, 16, .inl f4))] s.heap.size = A at hD ⊢
  have hA : ∀ q : Nat, s.heap.size ≤ q → A q := fun q h => by rw [← hAe]; exact Or.inr h
  have hS : va_S A s.heap s.heap [] := va_S.rf
  have hP : va_P D vwCl [(a0, .inr (12, [w0, w1, w2, .ref a1, w4, w5, .ref a3, .ref a4, .int 0, w9, w10, w11, w12, w13, w14, w15, w16, w17, w18, w19, w20, w21, w22, w23, w24, w25, w26, w27, w28, w29, w30, w31, w32, w33, w34, w35, w36, w37, w38, w39, w40, w41, w42, w43, w44, w45, w46, w47, w48, w49, w50, w51, w52, w53, w54, w55, w56, w57, w58, w59])), (a1, .inl (K 0, 5500, .inl row0)), (a3, .inl (K 0, 558, .inl f3)), (a4, .inl (K 0, 16, .inl f4))] s.heap := hP
  have hl := lv_entry [.ref a0] (n := 1) (Nat.le_of_ble_eq_true rfl)
  rw [lg_entry_eq]
  generalize (lg_sl [.ref a0] ++ List.replicate (1 - (lg_sl [.ref a0]).length) Slot.unset).toArray = ls at hl ⊢
  have hl : lv_has ls 1 [(0, .ref a0)] := hl
  have hw12 : ∀ w ∈ wsX120, w ∈ wsX12_passNow := fun w h => (List.mem_cons_of_mem _ (List.mem_append_right _ h))
  refine lv_aload_n hx hb dX12_passNow_0 rfl (lv_at hl 0 rfl) ?_
  refine pci (va_runV (As := []) (rest := []) ⟨hx, hb, hml, hown, hts⟩ (m_canPass l D K a0 w0 w1 w2 a1 w4 w5 (.ref a3) (.ref a4) (.int 0) w9 w10 w11 w12 w13 w14 w15 w16 w17 w18 w19 w20 w21 w22 w23 w24 w25 w26 w27 w28 w29 w30 w31 w32 w33 w34 w35 w36 w37 w38 w39 w40 w41 w42 w43 w44 w45 w46 w47 w48 w49 w50 w51 w52 w53 w54 w55 w56 w57 w58 w59 row0 0 0 s.heap.size row0_ok (by omega) (by omega)) (cwV 0 hts gX12_passNow_X12_canPass rfl rfl rfl (by decide +kernel) ⟨Nat.le_of_ble_eq_true rfl, Nat.le_of_ble_eq_true rfl⟩) (mkV hK hN (hP.sub [0, 1] rfl) (hD.sub [0, 1] (by decide) rfl) (ci := 12) (q0 := 0) rfl rfl) rfl rfl hl.1 rfl (lv_room (Nat.le_of_ble_eq_true rfl)) dX12_passNow_1 ⟨Nat.le_of_ble_eq_true rfl, Nat.le_of_ble_eq_true rfl⟩) (fun r_1 hw => ?_)
  obtain rfl : r_1 = 1 := hw
  refine lv_if_ne (tgt := 10) hx hb dX12_passNow_4 (by decide) (fun c_2 => ?_) (fun c_2 => absurd c_2 (by decide))
  refine lv_aload_n hx hb dX12_passNow_10 rfl (lv_at hl 0 rfl) ?_
  refine lv_iconst (v := 3) hx hb dX12_passNow_11 (by decide) ?_
  refine kcv (wr := []) (va_runV (As := [.int 3]) (rest := []) ⟨hx, hb, hml, hown, hts⟩ (m_remember l D K a0 w0 w1 w2 a1 w4 w5 a3 a4 w9 w10 w11 w12 w13 w14 w15 w16 w17 w18 w19 w20 w21 w22 w23 w24 w25 w26 w27 w28 w29 w30 w31 w32 w33 w34 w35 w36 w37 w38 w39 w40 w41 w42 w43 w44 w45 w46 w47 w48 w49 w50 w51 w52 w53 w54 w55 w56 w57 w58 w59 f3 f4 s.heap.size) (cwV 1 hts gX12_passNow_X12_remember rfl rfl rfl (by decide +kernel) ⟨Nat.le_of_ble_eq_true rfl, Nat.le_of_ble_eq_true rfl⟩) (mkV hK hN (hP.sub [0, 1, 2, 3] rfl) (hD.sub [0, 1, 2, 3] (by decide) rfl) (ci := 12) (q0 := 0) rfl rfl) rfl rfl hl.1 rfl (lv_room (Nat.le_of_ble_eq_true rfl)) dX12_passNow_12 ⟨Nat.le_of_ble_eq_true rfl, Nat.le_of_ble_eq_true rfl⟩) hP hD hS hA [0, 1, 2, 3] [] rfl rfl (by decide) (by decide) (fun u_4 H locs hw hP hD hS => ?_)
  have hP : va_P D vwCl [(a4, .inl (K 0, 16, .inl ((u_4.2.1 0)))), (a0, .inr (12, [w0, w1, w2, .ref a1, w4, w5, .ref a3, .ref a4, .int 1, w9, w10, w11, w12, w13, w14, w15, w16, w17, w18, w19, w20, w21, w22, w23, w24, w25, w26, w27, w28, w29, w30, w31, w32, w33, w34, w35, w36, w37, w38, w39, w40, w41, w42, w43, w44, w45, w46, w47, w48, w49, w50, w51, w52, w53, w54, w55, w56, w57, w58, w59])), (a1, .inl (K 0, 5500, .inl row0)), (a3, .inl (K 0, 558, .inl ((u_4.2.1 1))))] H := hP
  have hD : va_D A [(a4, .inl (K 0, 16, .inl ((u_4.2.1 0)))), (a0, .inr (12, [w0, w1, w2, .ref a1, w4, w5, .ref a3, .ref a4, .int 1, w9, w10, w11, w12, w13, w14, w15, w16, w17, w18, w19, w20, w21, w22, w23, w24, w25, w26, w27, w28, w29, w30, w31, w32, w33, w34, w35, w36, w37, w38, w39, w40, w41, w42, w43, w44, w45, w46, w47, w48, w49, w50, w51, w52, w53, w54, w55, w56, w57, w58, w59])), (a1, .inl (K 0, 5500, .inl row0)), (a3, .inl (K 0, 558, .inl ((u_4.2.1 1))))] := hD
  refine lv_aload_n hx hb dX12_passNow_15 rfl (lv_at hl 0 rfl) ?_
  refine kci (wr := [(a4, .inl (K 0, 16, .inl ((u_4.2.1 0)))), (a3, .inl (K 0, 558, .inl ((u_4.2.1 1))))]) (va_runV (As := []) (rest := []) ⟨hx, hb, hml, hown, hts⟩ (m_passIt l D K a0 w0 w1 w2 a1 w4 w5 (.ref a3) (.ref a4) (.int 1) w9 w10 w11 w12 w13 w14 w15 w16 w17 w18 w19 w20 w21 w22 w23 w24 w25 w26 w27 w28 w29 w30 w31 w32 w33 w34 w35 w36 w37 w38 w39 w40 w41 w42 w43 w44 w45 w46 w47 w48 w49 w50 w51 w52 w53 w54 w55 w56 w57 w58 w59 row0 0 0 H.size row0_ok (by omega) (by omega)) (cwV 0 hts gX12_passNow_X12_passIt rfl rfl rfl (by decide +kernel) ⟨Nat.le_of_ble_eq_true rfl, Nat.le_of_ble_eq_true rfl⟩) (mkV hK hN (hP.sub [1, 2] rfl) (hD.sub [1, 2] (by decide) rfl) (ci := 12) (q0 := 0) rfl rfl) rfl rfl hl.1 rfl (lv_room (Nat.le_of_ble_eq_true rfl)) dX12_passNow_16 ⟨Nat.le_of_ble_eq_true rfl, Nat.le_of_ble_eq_true rfl⟩) hP hD hS hA [1, 2] [0, 3] rfl rfl (by decide) (by decide) (fun r_5 u_6 H locs hw hP hD hS => ?_)
  have hP : va_P D vwCl [(a4, .inl (K 0, 16, .inl ((u_4.2.1 0)))), (a3, .inl (K 0, 558, .inl ((u_4.2.1 1)))), (a0, .inr (12, [w0, w1, w2, .ref a1, w4, w5, .ref a3, .ref a4, .int 1, w9, w10, w11, w12, w13, w14, w15, w16, w17, w18, w19, w20, w21, w22, w23, w24, w25, w26, w27, w28, w29, w30, w31, w32, w33, w34, w35, w36, w37, w38, w39, w40, w41, w42, w43, w44, w45, w46, w47, w48, w49, w50, w51, w52, w53, w54, w55, w56, w57, w58, w59])), (a1, .inl (K 0, 5500, .inl ((u_6.2.1 0))))] H := hP
  have hD : va_D A [(a4, .inl (K 0, 16, .inl ((u_4.2.1 0)))), (a3, .inl (K 0, 558, .inl ((u_4.2.1 1)))), (a0, .inr (12, [w0, w1, w2, .ref a1, w4, w5, .ref a3, .ref a4, .int 1, w9, w10, w11, w12, w13, w14, w15, w16, w17, w18, w19, w20, w21, w22, w23, w24, w25, w26, w27, w28, w29, w30, w31, w32, w33, w34, w35, w36, w37, w38, w39, w40, w41, w42, w43, w44, w45, w46, w47, w48, w49, w50, w51, w52, w53, w54, w55, w56, w57, w58, w59])), (a1, .inl (K 0, 5500, .inl ((u_6.2.1 0))))] := hD
  obtain ⟨rfl, hR_7⟩ := hw
  refine lv_if_eq (tgt := 26) hx hb dX12_passNow_19 (by decide) (fun c_8 => absurd c_8 (by decide)) (fun c_8 => ?_)
  refine lv_iconst (v := 1) hx hb dX12_passNow_22 (by decide) ?_
  refine lv_goto (tgt := 27) hx hb dX12_passNow_23 (by decide) ?_
  have hP9 := hP.sub (ws' := [(a4, .inl (K 0, 16, .inl ((u_4.2.1 0)))), (a3, .inl (K 0, 558, .inl ((u_4.2.1 1)))), (a0, .inr (12, [w0, w1, w2, .ref a1, w4, w5, .ref a3, .ref a4, .int 1, w9, w10, w11, w12, w13, w14, w15, w16, w17, w18, w19, w20, w21, w22, w23, w24, w25, w26, w27, w28, w29, w30, w31, w32, w33, w34, w35, w36, w37, w38, w39, w40, w41, w42, w43, w44, w45, w46, w47, w48, w49, w50, w51, w52, w53, w54, w55, w56, w57, w58, w59])), (a1, .inl (K 0, 5500, .inl ((u_6.2.1 0))))]) [0, 1, 2, 3] rfl
  have hD9 := hD.sub (ws' := [(a4, .inl (K 0, 16, .inl ((u_4.2.1 0)))), (a3, .inl (K 0, 558, .inl ((u_4.2.1 1)))), (a0, .inr (12, [w0, w1, w2, .ref a1, w4, w5, .ref a3, .ref a4, .int 1, w9, w10, w11, w12, w13, w14, w15, w16, w17, w18, w19, w20, w21, w22, w23, w24, w25, w26, w27, w28, w29, w30, w31, w32, w33, w34, w35, w36, w37, w38, w39, w40, w41, w42, w43, w44, w45, w46, w47, w48, w49, w50, w51, w52, w53, w54, w55, w56, w57, w58, w59])), (a1, .inl (K 0, 5500, .inl ((u_6.2.1 0))))]) [0, 1, 2, 3] (by decide) rfl
  exact W.iret (v := 1) hx hb hr (fun t ht hW => ⟨⟨1, (fun _ => 0, fun i => match i with | 0 => (u_4.2.1 0) | 1 => (u_4.2.1 1) | _ => (u_6.2.1 0), fun _ => fun _ => 0, fun _ => 0), rfl, (by first | exact rfl), (⟨by rw [ht]; exact hP9, hD9⟩ : Wd D A _ t)⟩, hS.F ht⟩) hS.2.2 dX12_passNow_27
set_option maxHeartbeats 4000000 in
set_option maxRecDepth 100000 in
theorem r_pass (l : Launch) (D : va_G) (K : Nat → ClassId) (a0 : Nat) (w0 : Value) (w1 : Value) (w2 : Value) (a1 : Nat) (w4 : Value) (w5 : Value) (a3 : Nat) (a4 : Nat) (w9 : Value) (w10 : Value) (w11 : Value) (w12 : Value) (w13 : Value) (w14 : Value) (w15 : Value) (w16 : Value) (w17 : Value) (w18 : Value) (w19 : Value) (w20 : Value) (w21 : Value) (w22 : Value) (w23 : Value) (w24 : Value) (w25 : Value) (w26 : Value) (w27 : Value) (w28 : Value) (w29 : Value) (w30 : Value) (w31 : Value) (w32 : Value) (w33 : Value) (w34 : Value) (w35 : Value) (w36 : Value) (w37 : Value) (w38 : Value) (w39 : Value) (w40 : Value) (w41 : Value) (w42 : Value) (w43 : Value) (w44 : Value) (w45 : Value) (w46 : Value) (w47 : Value) (w48 : Value) (w49 : Value) (w50 : Value) (w51 : Value) (w52 : Value) (w53 : Value) (w54 : Value) (w55 : Value) (w56 : Value) (w57 : Value) (w58 : Value) (w59 : Value) (sz : Nat) : Met l yX12_pass wsX12_pass ({ frames := 4, cells := 0, slots := 0, locals := 84 }) (va_Pc [.ref a0] (Pre D K [(a0, .inr (12, [w0, w1, w2, .ref a1, w4, w5, .ref a3, .ref a4, .int 0, w9, w10, w11, w12, w13, w14, w15, w16, w17, w18, w19, w20, w21, w22, w23, w24, w25, w26, w27, w28, w29, w30, w31, w32, w33, w34, w35, w36, w37, w38, w39, w40, w41, w42, w43, w44, w45, w46, w47, w48, w49, w50, w51, w52, w53, w54, w55, w56, w57, w58, w59])), (a1, .inl (K 0, 5500, .inl row0)), (a3, .inl (K 0, 558, .inl (fun _ => 0))), (a4, .inl (K 0, 16, .inl (fun _ => 0)))] sz)) (va_Qi (S := Unit) (fun (r : Int32) (_ : Unit) => (r = 1)) (fun u t => Wd D (va_A [(a0, .inr (12, [w0, w1, w2, .ref a1, w4, w5, .ref a3, .ref a4, .int 0, w9, w10, w11, w12, w13, w14, w15, w16, w17, w18, w19, w20, w21, w22, w23, w24, w25, w26, w27, w28, w29, w30, w31, w32, w33, w34, w35, w36, w37, w38, w39, w40, w41, w42, w43, w44, w45, w46, w47, w48, w49, w50, w51, w52, w53, w54, w55, w56, w57, w58, w59])), (a1, .inl (K 0, 5500, .inl row0)), (a3, .inl (K 0, 558, .inl (fun _ => 0))), (a4, .inl (K 0, 16, .inl (fun _ => 0)))] sz) ((fun _ => []) u) t) (va_A [(a0, .inr (12, [w0, w1, w2, .ref a1, w4, w5, .ref a3, .ref a4, .int 0, w9, w10, w11, w12, w13, w14, w15, w16, w17, w18, w19, w20, w21, w22, w23, w24, w25, w26, w27, w28, w29, w30, w31, w32, w33, w34, w35, w36, w37, w38, w39, w40, w41, w42, w43, w44, w45, w46, w47, w48, w49, w50, w51, w52, w53, w54, w55, w56, w57, w58, w59])), (a1, .inl (K 0, 5500, .inl row0)), (a3, .inl (K 0, 558, .inl (fun _ => 0))), (a4, .inl (K 0, 16, .inl (fun _ => 0)))] sz)) 0 0 (va_A [(a0, .inr (12, [w0, w1, w2, .ref a1, w4, w5, .ref a3, .ref a4, .int 0, w9, w10, w11, w12, w13, w14, w15, w16, w17, w18, w19, w20, w21, w22, w23, w24, w25, w26, w27, w28, w29, w30, w31, w32, w33, w34, w35, w36, w37, w38, w39, w40, w41, w42, w43, w44, w45, w46, w47, w48, w49, w50, w51, w52, w53, w54, w55, w56, w57, w58, w59])), (a1, .inl (K 0, 5500, .inl row0)), (a3, .inl (K 0, 558, .inl (fun _ => 0))), (a4, .inl (K 0, 16, .inl (fun _ => 0)))] sz) := by
  refine Met.ofW (cc := cX12_pass) (maxL := 1) (ret := (some .int)) (by decide) rfl ?_
  intro p e s m args below meth c s₁ B hml hv
  obtain ⟨rfl, hsz, hP, hK, hD0, hN⟩ := hv
  have hx := B.exec
  have hb := B.bytes
  have hr := B.returns
  have hts := atoms_spec (ws := wsX12_pass) B.pre
  have hown : s.vm.findClass RX12 = some m.cls := findClass_of_methodNamed B.named
  have hlocks := B.notSynchronized
  subst hsz
  have hD := hD0.self (sz := s.heap.size)
  generalize hAe : va_A [(a0, .inr (12, [w0, w1, w2, .ref a1, w4, w5, .ref a3, .ref a4, .int 0, w9, w10, w11, w12, w13, w14, w15, w16, w17, w18, w19, w20, w21, w22, w23, w24, w25, w26, w27, w28, w29, w30, w31, w32, w33, w34, w35, w36, w37, w38, w39, w40, w41, w42, w43, w44, w45, w46, w47, w48, w49, w50, w51, w52, w53, w54, w55, w56, w57, w58, w59])), (a1, .inl (K 0, 5500, .inl row0)), (a3, .inl (K 0, 558, .inl (fun _ => 0))), (a4, .inl (K 0, 16, .inl (fun _ => 0)))] s.heap.size = A at hD ⊢
  have hA : ∀ q : Nat, s.heap.size ≤ q → A q := fun q h => by rw [← hAe]; exact Or.inr h
  have hS : va_S A s.heap s.heap [] := va_S.rf
  have hP : va_P D vwCl [(a0, .inr (12, [w0, w1, w2, .ref a1, w4, w5, .ref a3, .ref a4, .int 0, w9, w10, w11, w12, w13, w14, w15, w16, w17, w18, w19, w20, w21, w22, w23, w24, w25, w26, w27, w28, w29, w30, w31, w32, w33, w34, w35, w36, w37, w38, w39, w40, w41, w42, w43, w44, w45, w46, w47, w48, w49, w50, w51, w52, w53, w54, w55, w56, w57, w58, w59])), (a1, .inl (K 0, 5500, .inl row0)), (a3, .inl (K 0, 558, .inl (fun _ => 0))), (a4, .inl (K 0, 16, .inl (fun _ => 0)))] s.heap := hP
  have hl := lv_entry [.ref a0] (n := 1) (Nat.le_of_ble_eq_true rfl)
  rw [lg_entry_eq]
  generalize (lg_sl [.ref a0] ++ List.replicate (1 - (lg_sl [.ref a0]).length) Slot.unset).toArray = ls at hl ⊢
  have hl : lv_has ls 1 [(0, .ref a0)] := hl
  have hw12 : ∀ w ∈ wsX120, w ∈ wsX12_pass := fun w h => (List.mem_cons_of_mem _ (List.mem_append_right _ h))
  refine lv_aload_n hx hb dX12_pass_0 rfl (lv_at hl 0 rfl) ?_
  refine lv_iconst (v := 0) hx hb dX12_pass_1 (by decide) ?_
  refine va_put (ci := 12) (v := .int 0) (ty := .int) (C := RX12) (T := TX12) (N := 60) hx hb hts hw12 tyX12 tyX12_ok nmX12 hown hK hP hD hS 0 rfl rfl 0 (by decide) (hts (.fieldLink RX12 158 "SmokeTuneModel" "thrown" "I") (List.mem_cons_of_mem _ (List.mem_append_left _ (List.mem_append_left _ (List.mem_of_getElem? (i := 0) rfl))))) (fun _ h9 => h9) rfl (by decide +kernel) (by first | rfl | decide) (by first | rfl | decide) (Nat.le_of_ble_eq_true rfl) dX12_pass_2 (fun H locs hP hD hS => ?_)
  have hP : va_P D vwCl [(a0, .inr (12, [.int 0, w1, w2, .ref a1, w4, w5, .ref a3, .ref a4, .int 0, w9, w10, w11, w12, w13, w14, w15, w16, w17, w18, w19, w20, w21, w22, w23, w24, w25, w26, w27, w28, w29, w30, w31, w32, w33, w34, w35, w36, w37, w38, w39, w40, w41, w42, w43, w44, w45, w46, w47, w48, w49, w50, w51, w52, w53, w54, w55, w56, w57, w58, w59])), (a1, .inl (K 0, 5500, .inl row0)), (a3, .inl (K 0, 558, .inl (fun _ => 0))), (a4, .inl (K 0, 16, .inl (fun _ => 0)))] H := hP
  have hD : va_D A [(a0, .inr (12, [.int 0, w1, w2, .ref a1, w4, w5, .ref a3, .ref a4, .int 0, w9, w10, w11, w12, w13, w14, w15, w16, w17, w18, w19, w20, w21, w22, w23, w24, w25, w26, w27, w28, w29, w30, w31, w32, w33, w34, w35, w36, w37, w38, w39, w40, w41, w42, w43, w44, w45, w46, w47, w48, w49, w50, w51, w52, w53, w54, w55, w56, w57, w58, w59])), (a1, .inl (K 0, 5500, .inl row0)), (a3, .inl (K 0, 558, .inl (fun _ => 0))), (a4, .inl (K 0, 16, .inl (fun _ => 0)))] := hD
  refine lv_aload_n hx hb dX12_pass_5 rfl (lv_at hl 0 rfl) ?_
  refine lv_aload_n hx hb dX12_pass_6 rfl (lv_at hl 0 rfl) ?_
  refine kci (wr := []) (va_runV (As := []) (rest := [.ref a0]) ⟨hx, hb, hml, hown, hts⟩ (m_passNow l D K a0 (.int 0) w1 w2 a1 w4 w5 a3 a4 w9 w10 w11 w12 w13 w14 w15 w16 w17 w18 w19 w20 w21 w22 w23 w24 w25 w26 w27 w28 w29 w30 w31 w32 w33 w34 w35 w36 w37 w38 w39 w40 w41 w42 w43 w44 w45 w46 w47 w48 w49 w50 w51 w52 w53 w54 w55 w56 w57 w58 w59 (fun _ => 0) (fun _ => 0) H.size) (cwV 0 hts gX12_pass_X12_passNow rfl rfl rfl (by decide +kernel) ⟨Nat.le_of_ble_eq_true rfl, Nat.le_of_ble_eq_true rfl⟩) (mkV hK hN (hP.sub [0, 1, 2, 3] rfl) (hD.sub [0, 1, 2, 3] (by decide) rfl) (ci := 12) (q0 := 0) rfl rfl) rfl rfl hl.1 rfl (lv_room (Nat.le_of_ble_eq_true rfl)) dX12_pass_7 ⟨Nat.le_of_ble_eq_true rfl, Nat.le_of_ble_eq_true rfl⟩) hP hD hS hA [0, 1, 2, 3] [] rfl rfl (by decide) (by decide) (fun r_1 u_2 H locs hw hP hD hS => ?_)
  have hP : va_P D vwCl [(a4, .inl (K 0, 16, .inl ((u_2.2.1 0)))), (a3, .inl (K 0, 558, .inl ((u_2.2.1 1)))), (a0, .inr (12, [.int 0, w1, w2, .ref a1, w4, w5, .ref a3, .ref a4, .int 1, w9, w10, w11, w12, w13, w14, w15, w16, w17, w18, w19, w20, w21, w22, w23, w24, w25, w26, w27, w28, w29, w30, w31, w32, w33, w34, w35, w36, w37, w38, w39, w40, w41, w42, w43, w44, w45, w46, w47, w48, w49, w50, w51, w52, w53, w54, w55, w56, w57, w58, w59])), (a1, .inl (K 0, 5500, .inl ((u_2.2.1 2))))] H := hP
  have hD : va_D A [(a4, .inl (K 0, 16, .inl ((u_2.2.1 0)))), (a3, .inl (K 0, 558, .inl ((u_2.2.1 1)))), (a0, .inr (12, [.int 0, w1, w2, .ref a1, w4, w5, .ref a3, .ref a4, .int 1, w9, w10, w11, w12, w13, w14, w15, w16, w17, w18, w19, w20, w21, w22, w23, w24, w25, w26, w27, w28, w29, w30, w31, w32, w33, w34, w35, w36, w37, w38, w39, w40, w41, w42, w43, w44, w45, w46, w47, w48, w49, w50, w51, w52, w53, w54, w55, w56, w57, w58, w59])), (a1, .inl (K 0, 5500, .inl ((u_2.2.1 2))))] := hD
  obtain rfl : r_1 = 1 := hw
  refine kci (wr := [(a4, .inl (K 0, 16, .inl ((u_2.2.1 0)))), (a3, .inl (K 0, 558, .inl ((u_2.2.1 1)))), (a1, .inl (K 0, 5500, .inl ((u_2.2.1 2))))]) (va_runV (As := [.int 1]) (rest := []) ⟨hx, hb, hml, hown, hts⟩ (m_tell_pos l D K a0 1 (.int 0) w1 w2 (.ref a1) w4 w5 (.ref a3) (.ref a4) (.int 1) w9 w10 w11 w12 w13 w14 w15 w16 w17 w18 w19 w20 w21 w22 w23 w24 w25 w26 w27 w28 w29 w30 w31 w32 w33 w34 w35 w36 w37 w38 w39 w40 w41 w42 w43 w44 w45 w46 w47 w48 w49 w50 w51 w52 w53 w54 w55 w56 w57 w58 w59 1 H.size rfl (by omega)) (cwV 1 hts gX12_pass_X12_tell rfl rfl rfl (by decide +kernel) ⟨Nat.le_of_ble_eq_true rfl, Nat.le_of_ble_eq_true rfl⟩) (mkV hK hN (hP.sub [2] rfl) (hD.sub [2] (by decide) rfl) (ci := 12) (q0 := 0) rfl rfl) rfl rfl hl.1 rfl (lv_room (Nat.le_of_ble_eq_true rfl)) dX12_pass_10 ⟨Nat.le_of_ble_eq_true rfl, Nat.le_of_ble_eq_true rfl⟩) hP hD hS hA [2] [0, 1, 3] rfl rfl (by decide) (by decide) (fun r_3 u_4 H locs hw hP hD hS => ?_)
  have hP : va_P D vwCl [(a4, .inl (K 0, 16, .inl ((u_2.2.1 0)))), (a3, .inl (K 0, 558, .inl ((u_2.2.1 1)))), (a1, .inl (K 0, 5500, .inl ((u_2.2.1 2))))] H := hP
  have hD : va_D A [(a4, .inl (K 0, 16, .inl ((u_2.2.1 0)))), (a3, .inl (K 0, 558, .inl ((u_2.2.1 1)))), (a1, .inl (K 0, 5500, .inl ((u_2.2.1 2))))] := hD
  obtain rfl : r_3 = 1 := hw
  exact W.iret (v := 1) hx hb hr (fun t ht hW => ⟨⟨1, (), rfl, (by first | exact rfl), Wd.nil⟩, hS.F ht⟩) hS.2.2 dX12_pass_13
set_option maxHeartbeats 4000000 in
set_option maxRecDepth 100000 in
theorem m_next (l : Launch) (D : va_G) (K : Nat → ClassId) (a0 : Nat) (w0 : Value) (w1 : Value) (w2 : Value) (w3 : Value) (w4 : Value) (w5 : Value) (w6 : Value) (w7 : Value) (w8 : Value) (w9 : Value) (w10 : Value) (w11 : Value) (w12 : Value) (w14 : Value) (w16 : Value) (w17 : Value) (w18 : Value) (w19 : Value) (w20 : Value) (w21 : Value) (w22 : Value) (w23 : Value) (w24 : Value) (w25 : Value) (w26 : Value) (w27 : Value) (w28 : Value) (w29 : Value) (w30 : Value) (w31 : Value) (w32 : Value) (w33 : Value) (w34 : Value) (w35 : Value) (w36 : Value) (w37 : Value) (w38 : Value) (w39 : Value) (w40 : Value) (w41 : Value) (w42 : Value) (w43 : Value) (w44 : Value) (w45 : Value) (w46 : Value) (w47 : Value) (w48 : Value) (w49 : Value) (w50 : Value) (w51 : Value) (w52 : Value) (w53 : Value) (w54 : Value) (w55 : Value) (w56 : Value) (w57 : Value) (w58 : Value) (w59 : Value) (sz : Nat) : Met l yX12_next wsX12_next ({ frames := 0, cells := 0, slots := 0, locals := 0 }) (va_Pc [.ref a0] (Pre D K [(a0, .inr (12, [w0, w1, w2, w3, w4, w5, w6, w7, w8, w9, w10, w11, w12, .int 0, w14, .int 0, w16, w17, w18, w19, w20, w21, w22, w23, w24, w25, w26, w27, w28, w29, w30, w31, w32, w33, w34, w35, w36, w37, w38, w39, w40, w41, w42, w43, w44, w45, w46, w47, w48, w49, w50, w51, w52, w53, w54, w55, w56, w57, w58, w59]))] sz)) (va_Qv (S := (Nat → Nat) × (Nat → Nat → Int32) × (Nat → Nat → Int64) × (Nat → Int32)) (fun _ => True) (fun u t => Wd D (va_A [(a0, .inr (12, [w0, w1, w2, w3, w4, w5, w6, w7, w8, w9, w10, w11, w12, .int 0, w14, .int 0, w16, w17, w18, w19, w20, w21, w22, w23, w24, w25, w26, w27, w28, w29, w30, w31, w32, w33, w34, w35, w36, w37, w38, w39, w40, w41, w42, w43, w44, w45, w46, w47, w48, w49, w50, w51, w52, w53, w54, w55, w56, w57, w58, w59]))] sz) ((fun u => [(a0, .inr (12, [w0, w1, w2, w3, w4, w5, w6, w7, w8, w9, w10, w11, w12, .int 0, .int 0, .int 0, .int 0, .long 0, w18, w19, w20, w21, w22, w23, w24, w25, w26, w27, w28, w29, w30, w31, w32, w33, w34, w35, w36, w37, w38, w39, w40, w41, w42, w43, w44, w45, w46, w47, w48, w49, w50, w51, w52, w53, w54, w55, w56, w57, w58, w59]))]) u) t) (va_A [(a0, .inr (12, [w0, w1, w2, w3, w4, w5, w6, w7, w8, w9, w10, w11, w12, .int 0, w14, .int 0, w16, w17, w18, w19, w20, w21, w22, w23, w24, w25, w26, w27, w28, w29, w30, w31, w32, w33, w34, w35, w36, w37, w38, w39, w40, w41, w42, w43, w44, w45, w46, w47, w48, w49, w50, w51, w52, w53, w54, w55, w56, w57, w58, w59]))] sz)) 0 0 (va_A [(a0, .inr (12, [w0, w1, w2, w3, w4, w5, w6, w7, w8, w9, w10, w11, w12, .int 0, w14, .int 0, w16, w17, w18, w19, w20, w21, w22, w23, w24, w25, w26, w27, w28, w29, w30, w31, w32, w33, w34, w35, w36, w37, w38, w39, w40, w41, w42, w43, w44, w45, w46, w47, w48, w49, w50, w51, w52, w53, w54, w55, w56, w57, w58, w59]))] sz) := by
  refine Met.ofW (cc := cX12_next) (maxL := 1) (ret := none) (by decide) rfl ?_
  intro p e s m args below meth c s₁ B hml hv
  obtain ⟨rfl, hsz, hP, hK, hD0, hN⟩ := hv
  have hx := B.exec
  have hb := B.bytes
  have hr := B.returns
  have hts := atoms_spec (ws := wsX12_next) B.pre
  have hown : s.vm.findClass RX12 = some m.cls := findClass_of_methodNamed B.named
  have hlocks := B.notSynchronized
  subst hsz
  have hD := hD0.self (sz := s.heap.size)
  generalize hAe : va_A [(a0, .inr (12, [w0, w1, w2, w3, w4, w5, w6, w7, w8, w9, w10, w11, w12, .int 0, w14, .int 0, w16, w17, w18, w19, w20, w21, w22, w23, w24, w25, w26, w27, w28, w29, w30, w31, w32, w33, w34, w35, w36, w37, w38, w39, w40, w41, w42, w43, w44, w45, w46, w47, w48, w49, w50, w51, w52, w53, w54, w55, w56, w57, w58, w59]))] s.heap.size = A at hD ⊢
  have hA : ∀ q : Nat, s.heap.size ≤ q → A q := fun q h => by rw [← hAe]; exact Or.inr h
  have hS : va_S A s.heap s.heap [] := va_S.rf
  have hP : va_P D vwCl [(a0, .inr (12, [w0, w1, w2, w3, w4, w5, w6, w7, w8, w9, w10, w11, w12, .int 0, w14, .int 0, w16, w17, w18, w19, w20, w21, w22, w23, w24, w25, w26, w27, w28, w29, w30, w31, w32, w33, w34, w35, w36, w37, w38, w39, w40, w41, w42, w43, w44, w45, w46, w47, w48, w49, w50, w51, w52, w53, w54, w55, w56, w57, w58, w59]))] s.heap := hP
  have hl := lv_entry [.ref a0] (n := 1) (Nat.le_of_ble_eq_true rfl)
  rw [lg_entry_eq]
  generalize (lg_sl [.ref a0] ++ List.replicate (1 - (lg_sl [.ref a0]).length) Slot.unset).toArray = ls at hl ⊢
  have hl : lv_has ls 1 [(0, .ref a0)] := hl
  have hw12 : ∀ w ∈ wsX120, w ∈ wsX12_next := fun w h => (List.mem_cons_of_mem _ (List.mem_append_right _ h))
  refine lv_aload_n hx hb dX12_next_0 rfl (lv_at hl 0 rfl) ?_
  refine lv_aload_n hx hb dX12_next_1 rfl (lv_at hl 0 rfl) ?_
  refine va_get (ci := 12) (v := .int 0) (C := RX12) (T := TX12) (N := 60) hx hb hts hw12 hown hK hP 0 rfl rfl 15 (by decide) (hts (.fieldLink RX12 236 "SmokeTuneModel" "to" "I") (List.mem_cons_of_mem _ (List.mem_append_left _ (List.mem_of_getElem? (i := 0) rfl)))) (fun _ h9 => h9) rfl dX12_next_2 ?_
  refine va_put (ci := 12) (v := .int 0) (ty := .int) (C := RX12) (T := TX12) (N := 60) hx hb hts hw12 tyX12 tyX12_ok nmX12 hown hK hP hD hS 0 rfl rfl 14 (by decide) (hts (.fieldLink RX12 246 "SmokeTuneModel" "from" "I") (List.mem_cons_of_mem _ (List.mem_append_left _ (List.mem_of_getElem? (i := 1) rfl)))) (fun _ h9 => h9) rfl (by decide +kernel) (by first | rfl | decide) (by first | rfl | decide) (Nat.le_of_ble_eq_true rfl) dX12_next_5 (fun H locs hP hD hS => ?_)
  have hP : va_P D vwCl [(a0, .inr (12, [w0, w1, w2, w3, w4, w5, w6, w7, w8, w9, w10, w11, w12, .int 0, .int 0, .int 0, w16, w17, w18, w19, w20, w21, w22, w23, w24, w25, w26, w27, w28, w29, w30, w31, w32, w33, w34, w35, w36, w37, w38, w39, w40, w41, w42, w43, w44, w45, w46, w47, w48, w49, w50, w51, w52, w53, w54, w55, w56, w57, w58, w59]))] H := hP
  have hD : va_D A [(a0, .inr (12, [w0, w1, w2, w3, w4, w5, w6, w7, w8, w9, w10, w11, w12, .int 0, .int 0, .int 0, w16, w17, w18, w19, w20, w21, w22, w23, w24, w25, w26, w27, w28, w29, w30, w31, w32, w33, w34, w35, w36, w37, w38, w39, w40, w41, w42, w43, w44, w45, w46, w47, w48, w49, w50, w51, w52, w53, w54, w55, w56, w57, w58, w59]))] := hD
  refine lv_aload_n hx hb dX12_next_8 rfl (lv_at hl 0 rfl) ?_
  refine va_get (ci := 12) (v := .int 0) (C := RX12) (T := TX12) (N := 60) hx hb hts hw12 hown hK hP 0 rfl rfl 14 (by decide) (hts (.fieldLink RX12 246 "SmokeTuneModel" "from" "I") (List.mem_cons_of_mem _ (List.mem_append_left _ (List.mem_of_getElem? (i := 1) rfl)))) (fun _ h9 => h9) rfl dX12_next_9 ?_
  refine lv_aload_n hx hb dX12_next_12 rfl (lv_at hl 0 rfl) ?_
  refine va_get (ci := 12) (v := .int 0) (C := RX12) (T := TX12) (N := 60) hx hb hts hw12 hown hK hP 0 rfl rfl 13 (by decide) (hts (.fieldLink RX12 227 "SmokeTuneModel" "taped" "I") (List.mem_cons_of_mem _ (List.mem_append_left _ (List.mem_of_getElem? (i := 2) rfl)))) (fun _ h9 => h9) rfl dX12_next_13 ?_
  refine lv_icmp_ge (tgt := 46) hx hb dX12_next_16 (by decide) (fun c_1 => ?_) (fun c_1 => absurd (by decide) c_1)
  refine lv_aload_n hx hb dX12_next_46 rfl (lv_at hl 0 rfl) ?_
  refine lv_aload_n hx hb dX12_next_47 rfl (lv_at hl 0 rfl) ?_
  refine va_get (ci := 12) (v := .int 0) (C := RX12) (T := TX12) (N := 60) hx hb hts hw12 hown hK hP 0 rfl rfl 14 (by decide) (hts (.fieldLink RX12 246 "SmokeTuneModel" "from" "I") (List.mem_cons_of_mem _ (List.mem_append_left _ (List.mem_of_getElem? (i := 1) rfl)))) (fun _ h9 => h9) rfl dX12_next_48 ?_
  refine va_put (ci := 12) (v := .int 0) (ty := .int) (C := RX12) (T := TX12) (N := 60) hx hb hts hw12 tyX12 tyX12_ok nmX12 hown hK hP hD hS 0 rfl rfl 15 (by decide) (hts (.fieldLink RX12 236 "SmokeTuneModel" "to" "I") (List.mem_cons_of_mem _ (List.mem_append_left _ (List.mem_of_getElem? (i := 0) rfl)))) (fun _ h9 => h9) rfl (by decide +kernel) (by first | rfl | decide) (by first | rfl | decide) (Nat.le_of_ble_eq_true rfl) dX12_next_51 (fun H locs hP hD hS => ?_)
  have hP : va_P D vwCl [(a0, .inr (12, [w0, w1, w2, w3, w4, w5, w6, w7, w8, w9, w10, w11, w12, .int 0, .int 0, .int 0, w16, w17, w18, w19, w20, w21, w22, w23, w24, w25, w26, w27, w28, w29, w30, w31, w32, w33, w34, w35, w36, w37, w38, w39, w40, w41, w42, w43, w44, w45, w46, w47, w48, w49, w50, w51, w52, w53, w54, w55, w56, w57, w58, w59]))] H := hP
  have hD : va_D A [(a0, .inr (12, [w0, w1, w2, w3, w4, w5, w6, w7, w8, w9, w10, w11, w12, .int 0, .int 0, .int 0, w16, w17, w18, w19, w20, w21, w22, w23, w24, w25, w26, w27, w28, w29, w30, w31, w32, w33, w34, w35, w36, w37, w38, w39, w40, w41, w42, w43, w44, w45, w46, w47, w48, w49, w50, w51, w52, w53, w54, w55, w56, w57, w58, w59]))] := hD
  refine lv_aload_n hx hb dX12_next_54 rfl (lv_at hl 0 rfl) ?_
  refine lv_lconst (v := 0) hx hb dX12_next_55 (by decide) ?_
  refine va_put (ci := 12) (v := .long 0) (ty := .long) (C := RX12) (T := TX12) (N := 60) hx hb hts hw12 tyX12 tyX12_ok nmX12 hown hK hP hD hS 0 rfl rfl 17 (by decide) (hts (.fieldLink RX12 249 "SmokeTuneModel" "worth" "J") (List.mem_cons_of_mem _ (List.mem_append_left _ (List.mem_of_getElem? (i := 4) rfl)))) (fun _ h9 => h9) rfl (by decide +kernel) (by first | rfl | decide) (by first | rfl | decide) (Nat.le_of_ble_eq_true rfl) dX12_next_56 (fun H locs hP hD hS => ?_)
  have hP : va_P D vwCl [(a0, .inr (12, [w0, w1, w2, w3, w4, w5, w6, w7, w8, w9, w10, w11, w12, .int 0, .int 0, .int 0, w16, .long 0, w18, w19, w20, w21, w22, w23, w24, w25, w26, w27, w28, w29, w30, w31, w32, w33, w34, w35, w36, w37, w38, w39, w40, w41, w42, w43, w44, w45, w46, w47, w48, w49, w50, w51, w52, w53, w54, w55, w56, w57, w58, w59]))] H := hP
  have hD : va_D A [(a0, .inr (12, [w0, w1, w2, w3, w4, w5, w6, w7, w8, w9, w10, w11, w12, .int 0, .int 0, .int 0, w16, .long 0, w18, w19, w20, w21, w22, w23, w24, w25, w26, w27, w28, w29, w30, w31, w32, w33, w34, w35, w36, w37, w38, w39, w40, w41, w42, w43, w44, w45, w46, w47, w48, w49, w50, w51, w52, w53, w54, w55, w56, w57, w58, w59]))] := hD
  refine lv_aload_n hx hb dX12_next_59 rfl (lv_at hl 0 rfl) ?_
  refine lv_aload_n hx hb dX12_next_60 rfl (lv_at hl 0 rfl) ?_
  refine va_get (ci := 12) (v := .int 0) (C := RX12) (T := TX12) (N := 60) hx hb hts hw12 hown hK hP 0 rfl rfl 14 (by decide) (hts (.fieldLink RX12 246 "SmokeTuneModel" "from" "I") (List.mem_cons_of_mem _ (List.mem_append_left _ (List.mem_of_getElem? (i := 1) rfl)))) (fun _ h9 => h9) rfl dX12_next_61 ?_
  refine lv_aload_n hx hb dX12_next_64 rfl (lv_at hl 0 rfl) ?_
  refine va_get (ci := 12) (v := .int 0) (C := RX12) (T := TX12) (N := 60) hx hb hts hw12 hown hK hP 0 rfl rfl 13 (by decide) (hts (.fieldLink RX12 227 "SmokeTuneModel" "taped" "I") (List.mem_cons_of_mem _ (List.mem_append_left _ (List.mem_of_getElem? (i := 2) rfl)))) (fun _ h9 => h9) rfl dX12_next_65 ?_
  refine lv_icmp_ne (tgt := 75) hx hb dX12_next_68 (by decide) (fun c_2 => absurd (by decide) c_2) (fun c_2 => ?_)
  refine lv_iconst (v := 0) hx hb dX12_next_71 (by decide) ?_
  refine lv_goto (tgt := 114) hx hb dX12_next_72 (by decide) ?_
  refine va_put (ci := 12) (v := .int 0) (ty := .int) (C := RX12) (T := TX12) (N := 60) hx hb hts hw12 tyX12 tyX12_ok nmX12 hown hK hP hD hS 0 rfl rfl 16 (by decide) (hts (.fieldLink RX12 259 "SmokeTuneModel" "sort" "I") (List.mem_cons_of_mem _ (List.mem_append_left _ (List.mem_of_getElem? (i := 5) rfl)))) (fun _ h9 => h9) rfl (by decide +kernel) (by first | rfl | decide) (by first | rfl | decide) (Nat.le_of_ble_eq_true rfl) dX12_next_114 (fun H locs hP hD hS => ?_)
  have hP : va_P D vwCl [(a0, .inr (12, [w0, w1, w2, w3, w4, w5, w6, w7, w8, w9, w10, w11, w12, .int 0, .int 0, .int 0, .int 0, .long 0, w18, w19, w20, w21, w22, w23, w24, w25, w26, w27, w28, w29, w30, w31, w32, w33, w34, w35, w36, w37, w38, w39, w40, w41, w42, w43, w44, w45, w46, w47, w48, w49, w50, w51, w52, w53, w54, w55, w56, w57, w58, w59]))] H := hP
  have hD : va_D A [(a0, .inr (12, [w0, w1, w2, w3, w4, w5, w6, w7, w8, w9, w10, w11, w12, .int 0, .int 0, .int 0, .int 0, .long 0, w18, w19, w20, w21, w22, w23, w24, w25, w26, w27, w28, w29, w30, w31, w32, w33, w34, w35, w36, w37, w38, w39, w40, w41, w42, w43, w44, w45, w46, w47, w48, w49, w50, w51, w52, w53, w54, w55, w56, w57, w58, w59]))] := hD
  refine lv_aload_n hx hb dX12_next_117 rfl (lv_at hl 0 rfl) ?_
  refine va_get (ci := 12) (v := .int 0) (C := RX12) (T := TX12) (N := 60) hx hb hts hw12 hown hK hP 0 rfl rfl 16 (by decide) (hts (.fieldLink RX12 259 "SmokeTuneModel" "sort" "I") (List.mem_cons_of_mem _ (List.mem_append_left _ (List.mem_of_getElem? (i := 5) rfl)))) (fun _ h9 => h9) rfl dX12_next_118 ?_
  refine lv_iconst (v := 3) hx hb dX12_next_121 (by decide) ?_
  refine lv_icmp_ne (tgt := 149) hx hb dX12_next_122 (by decide) (fun c_3 => ?_) (fun c_3 => absurd c_3 (by decide))
  refine lv_aload_n hx hb dX12_next_149 rfl (lv_at hl 0 rfl) ?_
  refine va_get (ci := 12) (v := .int 0) (C := RX12) (T := TX12) (N := 60) hx hb hts hw12 hown hK hP 0 rfl rfl 16 (by decide) (hts (.fieldLink RX12 259 "SmokeTuneModel" "sort" "I") (List.mem_cons_of_mem _ (List.mem_append_left _ (List.mem_of_getElem? (i := 5) rfl)))) (fun _ h9 => h9) rfl dX12_next_150 ?_
  refine lv_iconst (v := 1) hx hb dX12_next_153 (by decide) ?_
  refine lv_icmp_ne (tgt := 243) hx hb dX12_next_154 (by decide) (fun c_4 => ?_) (fun c_4 => absurd c_4 (by decide))
  refine lv_aload_n hx hb dX12_next_243 rfl (lv_at hl 0 rfl) ?_
  refine va_get (ci := 12) (v := .int 0) (C := RX12) (T := TX12) (N := 60) hx hb hts hw12 hown hK hP 0 rfl rfl 16 (by decide) (hts (.fieldLink RX12 259 "SmokeTuneModel" "sort" "I") (List.mem_cons_of_mem _ (List.mem_append_left _ (List.mem_of_getElem? (i := 5) rfl)))) (fun _ h9 => h9) rfl dX12_next_244 ?_
  refine lv_iconst (v := 2) hx hb dX12_next_247 (by decide) ?_
  refine lv_icmp_ne (tgt := 335) hx hb dX12_next_248 (by decide) (fun c_5 => ?_) (fun c_5 => absurd c_5 (by decide))
  have hP9 := hP.sub (ws' := [(a0, .inr (12, [w0, w1, w2, w3, w4, w5, w6, w7, w8, w9, w10, w11, w12, .int 0, .int 0, .int 0, .int 0, .long 0, w18, w19, w20, w21, w22, w23, w24, w25, w26, w27, w28, w29, w30, w31, w32, w33, w34, w35, w36, w37, w38, w39, w40, w41, w42, w43, w44, w45, w46, w47, w48, w49, w50, w51, w52, w53, w54, w55, w56, w57, w58, w59]))]) [0] rfl
  have hD9 := hD.sub (ws' := [(a0, .inr (12, [w0, w1, w2, w3, w4, w5, w6, w7, w8, w9, w10, w11, w12, .int 0, .int 0, .int 0, .int 0, .long 0, w18, w19, w20, w21, w22, w23, w24, w25, w26, w27, w28, w29, w30, w31, w32, w33, w34, w35, w36, w37, w38, w39, w40, w41, w42, w43, w44, w45, w46, w47, w48, w49, w50, w51, w52, w53, w54, w55, w56, w57, w58, w59]))]) [0] (by decide) rfl
  exact W.vret hx hb hr (fun t ht hW => ⟨⟨(fun _ => 0, fun _ => fun _ => 0, fun _ => fun _ => 0, fun _ => 0), rfl, trivial, (⟨by rw [ht]; exact hP9, hD9⟩ : Wd D A _ t)⟩, hS.F ht⟩) hS.2.2 dX12_next_335
set_option maxHeartbeats 4000000 in
set_option maxRecDepth 100000 in
theorem m_begin (l : Launch) (D : va_G) (K : Nat → ClassId) (a0 : Nat) (w0 : Value) (w1 : Value) (w2 : Value) (w3 : Value) (w4 : Value) (w5 : Value) (w6 : Value) (w7 : Value) (w8 : Value) (w9 : Value) (w10 : Value) (w11 : Value) (w12 : Value) (w14 : Value) (w15 : Value) (w16 : Value) (w17 : Value) (w18 : Value) (w19 : Value) (w20 : Value) (w21 : Value) (w22 : Value) (w23 : Value) (w24 : Value) (w25 : Value) (w26 : Value) (w27 : Value) (w28 : Value) (w29 : Value) (w30 : Value) (w31 : Value) (w32 : Value) (w33 : Value) (w34 : Value) (w35 : Value) (w36 : Value) (w37 : Value) (w38 : Value) (w39 : Value) (w40 : Value) (w41 : Value) (w42 : Value) (w43 : Value) (w44 : Value) (w45 : Value) (w46 : Value) (w47 : Value) (w48 : Value) (w49 : Value) (w50 : Value) (w51 : Value) (w52 : Value) (w53 : Value) (w54 : Value) (w55 : Value) (w56 : Value) (w57 : Value) (w58 : Value) (w59 : Value) (sz : Nat) : Met l yX12_begin wsX12_begin ({ frames := 1, cells := 0, slots := 0, locals := 20 }) (va_Pc [.ref a0] (Pre D K [(a0, .inr (12, [w0, w1, w2, w3, w4, w5, w6, w7, w8, w9, w10, w11, w12, .int 0, w14, w15, w16, w17, w18, w19, w20, w21, w22, w23, w24, w25, w26, w27, w28, w29, w30, w31, w32, w33, w34, w35, w36, w37, w38, w39, w40, w41, w42, w43, w44, w45, w46, w47, w48, w49, w50, w51, w52, w53, w54, w55, w56, w57, w58, w59]))] sz)) (va_Qv (S := (Nat → Nat) × (Nat → Nat → Int32) × (Nat → Nat → Int64) × (Nat → Int32)) (fun _ => True) (fun u t => Wd D (va_A [(a0, .inr (12, [w0, w1, w2, w3, w4, w5, w6, w7, w8, w9, w10, w11, w12, .int 0, w14, w15, w16, w17, w18, w19, w20, w21, w22, w23, w24, w25, w26, w27, w28, w29, w30, w31, w32, w33, w34, w35, w36, w37, w38, w39, w40, w41, w42, w43, w44, w45, w46, w47, w48, w49, w50, w51, w52, w53, w54, w55, w56, w57, w58, w59]))] sz) ((fun u => [(a0, .inr (12, [w0, w1, w2, w3, w4, w5, w6, w7, w8, w9, w10, w11, w12, .int 0, .int 0, .int 0, .int 0, .long 0, .int (-1), .int 0, w20, w21, w22, w23, w24, w25, w26, w27, w28, w29, w30, w31, w32, w33, w34, w35, w36, w37, w38, w39, w40, w41, w42, w43, w44, w45, w46, w47, w48, w49, w50, w51, w52, w53, w54, w55, w56, w57, w58, w59]))]) u) t) (va_A [(a0, .inr (12, [w0, w1, w2, w3, w4, w5, w6, w7, w8, w9, w10, w11, w12, .int 0, w14, w15, w16, w17, w18, w19, w20, w21, w22, w23, w24, w25, w26, w27, w28, w29, w30, w31, w32, w33, w34, w35, w36, w37, w38, w39, w40, w41, w42, w43, w44, w45, w46, w47, w48, w49, w50, w51, w52, w53, w54, w55, w56, w57, w58, w59]))] sz)) 0 0 (va_A [(a0, .inr (12, [w0, w1, w2, w3, w4, w5, w6, w7, w8, w9, w10, w11, w12, .int 0, w14, w15, w16, w17, w18, w19, w20, w21, w22, w23, w24, w25, w26, w27, w28, w29, w30, w31, w32, w33, w34, w35, w36, w37, w38, w39, w40, w41, w42, w43, w44, w45, w46, w47, w48, w49, w50, w51, w52, w53, w54, w55, w56, w57, w58, w59]))] sz) := by
  refine Met.ofW (cc := cX12_begin) (maxL := 1) (ret := none) (by decide) rfl ?_
  intro p e s m args below meth c s₁ B hml hv
  obtain ⟨rfl, hsz, hP, hK, hD0, hN⟩ := hv
  have hx := B.exec
  have hb := B.bytes
  have hr := B.returns
  have hts := atoms_spec (ws := wsX12_begin) B.pre
  have hown : s.vm.findClass RX12 = some m.cls := findClass_of_methodNamed B.named
  have hlocks := B.notSynchronized
  subst hsz
  have hD := hD0.self (sz := s.heap.size)
  generalize hAe : va_A [(a0, .inr (12, [w0, w1, w2, w3, w4, w5, w6, w7, w8, w9, w10, w11, w12, .int 0, w14, w15, w16, w17, w18, w19, w20, w21, w22, w23, w24, w25, w26, w27, w28, w29, w30, w31, w32, w33, w34, w35, w36, w37, w38, w39, w40, w41, w42, w43, w44, w45, w46, w47, w48, w49, w50, w51, w52, w53, w54, w55, w56, w57, w58, w59]))] s.heap.size = A at hD ⊢
  have hA : ∀ q : Nat, s.heap.size ≤ q → A q := fun q h => by rw [← hAe]; exact Or.inr h
  have hS : va_S A s.heap s.heap [] := va_S.rf
  have hP : va_P D vwCl [(a0, .inr (12, [w0, w1, w2, w3, w4, w5, w6, w7, w8, w9, w10, w11, w12, .int 0, w14, w15, w16, w17, w18, w19, w20, w21, w22, w23, w24, w25, w26, w27, w28, w29, w30, w31, w32, w33, w34, w35, w36, w37, w38, w39, w40, w41, w42, w43, w44, w45, w46, w47, w48, w49, w50, w51, w52, w53, w54, w55, w56, w57, w58, w59]))] s.heap := hP
  have hl := lv_entry [.ref a0] (n := 1) (Nat.le_of_ble_eq_true rfl)
  rw [lg_entry_eq]
  generalize (lg_sl [.ref a0] ++ List.replicate (1 - (lg_sl [.ref a0]).length) Slot.unset).toArray = ls at hl ⊢
  have hl : lv_has ls 1 [(0, .ref a0)] := hl
  have hw12 : ∀ w ∈ wsX120, w ∈ wsX12_begin := fun w h => (List.mem_cons_of_mem _ (List.mem_append_right _ h))
  refine lv_aload_n hx hb dX12_begin_0 rfl (lv_at hl 0 rfl) ?_
  refine lv_iconst (v := 0) hx hb dX12_begin_1 (by decide) ?_
  refine va_put (ci := 12) (v := .int 0) (ty := .int) (C := RX12) (T := TX12) (N := 60) hx hb hts hw12 tyX12 tyX12_ok nmX12 hown hK hP hD hS 0 rfl rfl 15 (by decide) (hts (.fieldLink RX12 236 "SmokeTuneModel" "to" "I") (List.mem_cons_of_mem _ (List.mem_append_left _ (List.mem_append_left _ (List.mem_of_getElem? (i := 0) rfl))))) (fun _ h9 => h9) rfl (by decide +kernel) (by first | rfl | decide) (by first | rfl | decide) (Nat.le_of_ble_eq_true rfl) dX12_begin_2 (fun H locs hP hD hS => ?_)
  have hP : va_P D vwCl [(a0, .inr (12, [w0, w1, w2, w3, w4, w5, w6, w7, w8, w9, w10, w11, w12, .int 0, w14, .int 0, w16, w17, w18, w19, w20, w21, w22, w23, w24, w25, w26, w27, w28, w29, w30, w31, w32, w33, w34, w35, w36, w37, w38, w39, w40, w41, w42, w43, w44, w45, w46, w47, w48, w49, w50, w51, w52, w53, w54, w55, w56, w57, w58, w59]))] H := hP
  have hD : va_D A [(a0, .inr (12, [w0, w1, w2, w3, w4, w5, w6, w7, w8, w9, w10, w11, w12, .int 0, w14, .int 0, w16, w17, w18, w19, w20, w21, w22, w23, w24, w25, w26, w27, w28, w29, w30, w31, w32, w33, w34, w35, w36, w37, w38, w39, w40, w41, w42, w43, w44, w45, w46, w47, w48, w49, w50, w51, w52, w53, w54, w55, w56, w57, w58, w59]))] := hD
  refine lv_aload_n hx hb dX12_begin_5 rfl (lv_at hl 0 rfl) ?_
  refine lv_iconst (v := 0) hx hb dX12_begin_6 (by decide) ?_
  refine va_put (ci := 12) (v := .int 0) (ty := .boolean) (C := RX12) (T := TX12) (N := 60) hx hb hts hw12 tyX12 tyX12_ok nmX12 hown hK hP hD hS 0 rfl rfl 19 (by decide) (hts (.fieldLink RX12 239 "SmokeTuneModel" "bad" "Z") (List.mem_cons_of_mem _ (List.mem_append_left _ (List.mem_append_left _ (List.mem_of_getElem? (i := 1) rfl))))) (fun _ h9 => h9) rfl (by decide +kernel) (by first | rfl | decide) (by first | rfl | decide) (Nat.le_of_ble_eq_true rfl) dX12_begin_7 (fun H locs hP hD hS => ?_)
  have hP : va_P D vwCl [(a0, .inr (12, [w0, w1, w2, w3, w4, w5, w6, w7, w8, w9, w10, w11, w12, .int 0, w14, .int 0, w16, w17, w18, .int 0, w20, w21, w22, w23, w24, w25, w26, w27, w28, w29, w30, w31, w32, w33, w34, w35, w36, w37, w38, w39, w40, w41, w42, w43, w44, w45, w46, w47, w48, w49, w50, w51, w52, w53, w54, w55, w56, w57, w58, w59]))] H := hP
  have hD : va_D A [(a0, .inr (12, [w0, w1, w2, w3, w4, w5, w6, w7, w8, w9, w10, w11, w12, .int 0, w14, .int 0, w16, w17, w18, .int 0, w20, w21, w22, w23, w24, w25, w26, w27, w28, w29, w30, w31, w32, w33, w34, w35, w36, w37, w38, w39, w40, w41, w42, w43, w44, w45, w46, w47, w48, w49, w50, w51, w52, w53, w54, w55, w56, w57, w58, w59]))] := hD
  refine lv_aload_n hx hb dX12_begin_10 rfl (lv_at hl 0 rfl) ?_
  refine lv_iconst (v := (-1)) hx hb dX12_begin_11 (by decide) ?_
  refine va_put (ci := 12) (v := .int (-1)) (ty := .int) (C := RX12) (T := TX12) (N := 60) hx hb hts hw12 tyX12 tyX12_ok nmX12 hown hK hP hD hS 0 rfl rfl 18 (by decide) (hts (.fieldLink RX12 38 "SmokeTuneModel" "fault" "I") (List.mem_cons_of_mem _ (List.mem_append_left _ (List.mem_append_left _ (List.mem_of_getElem? (i := 2) rfl))))) (fun _ h9 => h9) rfl (by decide +kernel) (by first | rfl | decide) (by first | rfl | decide) (Nat.le_of_ble_eq_true rfl) dX12_begin_12 (fun H locs hP hD hS => ?_)
  have hP : va_P D vwCl [(a0, .inr (12, [w0, w1, w2, w3, w4, w5, w6, w7, w8, w9, w10, w11, w12, .int 0, w14, .int 0, w16, w17, .int (-1), .int 0, w20, w21, w22, w23, w24, w25, w26, w27, w28, w29, w30, w31, w32, w33, w34, w35, w36, w37, w38, w39, w40, w41, w42, w43, w44, w45, w46, w47, w48, w49, w50, w51, w52, w53, w54, w55, w56, w57, w58, w59]))] H := hP
  have hD : va_D A [(a0, .inr (12, [w0, w1, w2, w3, w4, w5, w6, w7, w8, w9, w10, w11, w12, .int 0, w14, .int 0, w16, w17, .int (-1), .int 0, w20, w21, w22, w23, w24, w25, w26, w27, w28, w29, w30, w31, w32, w33, w34, w35, w36, w37, w38, w39, w40, w41, w42, w43, w44, w45, w46, w47, w48, w49, w50, w51, w52, w53, w54, w55, w56, w57, w58, w59]))] := hD
  refine lv_aload_n hx hb dX12_begin_15 rfl (lv_at hl 0 rfl) ?_
  refine kcv (wr := []) (va_runV (As := []) (rest := []) ⟨hx, hb, hml, hown, hts⟩ (m_next l D K a0 w0 w1 w2 w3 w4 w5 w6 w7 w8 w9 w10 w11 w12 w14 w16 w17 (.int (-1)) (.int 0) w20 w21 w22 w23 w24 w25 w26 w27 w28 w29 w30 w31 w32 w33 w34 w35 w36 w37 w38 w39 w40 w41 w42 w43 w44 w45 w46 w47 w48 w49 w50 w51 w52 w53 w54 w55 w56 w57 w58 w59 H.size) (cwV 0 hts gX12_begin_X12_next rfl rfl rfl (by decide +kernel) ⟨Nat.le_of_ble_eq_true rfl, Nat.le_of_ble_eq_true rfl⟩) (mkV hK hN (hP.sub [0] rfl) (hD.sub [0] (by decide) rfl) (ci := 12) (q0 := 0) rfl rfl) rfl rfl hl.1 rfl (lv_room (Nat.le_of_ble_eq_true rfl)) dX12_begin_16 ⟨Nat.le_of_ble_eq_true rfl, Nat.le_of_ble_eq_true rfl⟩) hP hD hS hA [0] [] rfl rfl (by decide) (by decide) (fun u_2 H locs hw hP hD hS => ?_)
  have hP : va_P D vwCl [(a0, .inr (12, [w0, w1, w2, w3, w4, w5, w6, w7, w8, w9, w10, w11, w12, .int 0, .int 0, .int 0, .int 0, .long 0, .int (-1), .int 0, w20, w21, w22, w23, w24, w25, w26, w27, w28, w29, w30, w31, w32, w33, w34, w35, w36, w37, w38, w39, w40, w41, w42, w43, w44, w45, w46, w47, w48, w49, w50, w51, w52, w53, w54, w55, w56, w57, w58, w59]))] H := hP
  have hD : va_D A [(a0, .inr (12, [w0, w1, w2, w3, w4, w5, w6, w7, w8, w9, w10, w11, w12, .int 0, .int 0, .int 0, .int 0, .long 0, .int (-1), .int 0, w20, w21, w22, w23, w24, w25, w26, w27, w28, w29, w30, w31, w32, w33, w34, w35, w36, w37, w38, w39, w40, w41, w42, w43, w44, w45, w46, w47, w48, w49, w50, w51, w52, w53, w54, w55, w56, w57, w58, w59]))] := hD
  have hP9 := hP.sub (ws' := [(a0, .inr (12, [w0, w1, w2, w3, w4, w5, w6, w7, w8, w9, w10, w11, w12, .int 0, .int 0, .int 0, .int 0, .long 0, .int (-1), .int 0, w20, w21, w22, w23, w24, w25, w26, w27, w28, w29, w30, w31, w32, w33, w34, w35, w36, w37, w38, w39, w40, w41, w42, w43, w44, w45, w46, w47, w48, w49, w50, w51, w52, w53, w54, w55, w56, w57, w58, w59]))]) [0] rfl
  have hD9 := hD.sub (ws' := [(a0, .inr (12, [w0, w1, w2, w3, w4, w5, w6, w7, w8, w9, w10, w11, w12, .int 0, .int 0, .int 0, .int 0, .long 0, .int (-1), .int 0, w20, w21, w22, w23, w24, w25, w26, w27, w28, w29, w30, w31, w32, w33, w34, w35, w36, w37, w38, w39, w40, w41, w42, w43, w44, w45, w46, w47, w48, w49, w50, w51, w52, w53, w54, w55, w56, w57, w58, w59]))]) [0] (by decide) rfl
  exact W.vret hx hb hr (fun t ht hW => ⟨⟨(fun _ => 0, fun _ => fun _ => 0, fun _ => fun _ => 0, fun _ => 0), rfl, trivial, (⟨by rw [ht]; exact hP9, hD9⟩ : Wd D A _ t)⟩, hS.F ht⟩) hS.2.2 dX12_begin_19
