theorem dX4_fill_0 : decode cX4_fill 0 = .ok (.iconst 0, 1) := by decide +kernel
theorem dX4_fill_1 : decode cX4_fill 1 = .ok (.istore 4, 2) := by decide +kernel
theorem dX4_fill_3 : decode cX4_fill 3 = .ok (.iconst 0, 1) := by decide +kernel
theorem dX4_fill_4 : decode cX4_fill 4 = .ok (.istore 5, 2) := by decide +kernel
theorem dX4_fill_6 : decode cX4_fill 6 = .ok (.iload 5, 2) := by decide +kernel
theorem dX4_fill_8 : decode cX4_fill 8 = .ok (.aload_n 1, 1) := by decide +kernel
theorem dX4_fill_9 : decode cX4_fill 9 = .ok (.getfield 27, 3) := by decide +kernel
theorem dX4_fill_12 : decode cX4_fill 12 = .ok (.if_icmp .ge 74, 3) := by decide +kernel
theorem dX4_fill_86 : decode cX4_fill 86 = .ok (.iload 4, 2) := by decide +kernel
theorem dX4_fill_88 : decode cX4_fill 88 = .ok (.ireturn, 1) := by decide +kernel
theorem dX4_ahead_0 : decode cX4_ahead 0 = .ok (.iconst 0, 1) := by decide +kernel
theorem dX4_ahead_1 : decode cX4_ahead 1 = .ok (.istore_n 2, 1) := by decide +kernel
theorem dX4_ahead_2 : decode cX4_ahead 2 = .ok (.iload_n 2, 1) := by decide +kernel
theorem dX4_ahead_3 : decode cX4_ahead 3 = .ok (.iload_n 1, 1) := by decide +kernel
theorem dX4_ahead_4 : decode cX4_ahead 4 = .ok (.if_icmp .ge 45, 3) := by decide +kernel
theorem dX4_ahead_49 : decode cX4_ahead 49 = .ok (.iconst 0, 1) := by decide +kernel
theorem dX4_ahead_50 : decode cX4_ahead 50 = .ok (.ireturn, 1) := by decide +kernel
theorem dX4_retune_0 : decode cX4_retune 0 = .ok (.bipush 56, 2) := by decide +kernel
theorem dX4_retune_2 : decode cX4_retune 2 = .ok (.istore_n 3, 1) := by decide +kernel
theorem dX4_retune_3 : decode cX4_retune 3 = .ok (.iconst 1, 1) := by decide +kernel
theorem dX4_retune_4 : decode cX4_retune 4 = .ok (.istore 4, 2) := by decide +kernel
theorem dX4_retune_6 : decode cX4_retune 6 = .ok (.iload 4, 2) := by decide +kernel
theorem dX4_retune_8 : decode cX4_retune 8 = .ok (.bipush 127, 2) := by decide +kernel
theorem dX4_retune_10 : decode cX4_retune 10 = .ok (.if_icmp .gt 83, 3) := by decide +kernel
theorem dX4_retune_13 : decode cX4_retune 13 = .ok (.iload 4, 2) := by decide +kernel
theorem dX4_retune_15 : decode cX4_retune 15 = .ok (.iconst 1, 1) := by decide +kernel
theorem dX4_retune_16 : decode cX4_retune 16 = .ok (.ishl, 1) := by decide +kernel
theorem dX4_retune_17 : decode cX4_retune 17 = .ok (.iload 4, 2) := by decide +kernel
theorem dX4_retune_19 : decode cX4_retune 19 = .ok (.bipush 6, 2) := by decide +kernel
theorem dX4_retune_21 : decode cX4_retune 21 = .ok (.ishr, 1) := by decide +kernel
theorem dX4_retune_22 : decode cX4_retune 22 = .ok (.ior, 1) := by decide +kernel
theorem dX4_retune_23 : decode cX4_retune 23 = .ok (.bipush 127, 2) := by decide +kernel
theorem dX4_retune_25 : decode cX4_retune 25 = .ok (.iand, 1) := by decide +kernel
theorem dX4_retune_26 : decode cX4_retune 26 = .ok (.istore 5, 2) := by decide +kernel
theorem dX4_retune_28 : decode cX4_retune 28 = .ok (.iload 4, 2) := by decide +kernel
theorem dX4_retune_30 : decode cX4_retune 30 = .ok (.iload 5, 2) := by decide +kernel
theorem dX4_retune_32 : decode cX4_retune 32 = .ok (.iand, 1) := by decide +kernel
theorem dX4_retune_33 : decode cX4_retune 33 = .ok (.ifCond .ne 54, 3) := by decide +kernel
theorem dX4_retune_36 : decode cX4_retune 36 = .ok (.aload_n 0, 1) := by decide +kernel
theorem dX4_retune_37 : decode cX4_retune 37 = .ok (.aload_n 1, 1) := by decide +kernel
theorem dX4_retune_38 : decode cX4_retune 38 = .ok (.iload_n 2, 1) := by decide +kernel
theorem dX4_retune_39 : decode cX4_retune 39 = .ok (.iload 4, 2) := by decide +kernel
theorem dX4_retune_41 : decode cX4_retune 41 = .ok (.invokevirtual 55, 3) := by decide +kernel
theorem dX4_retune_44 : decode cX4_retune 44 = .ok (.istore 6, 2) := by decide +kernel
theorem dX4_retune_46 : decode cX4_retune 46 = .ok (.iload 6, 2) := by decide +kernel
theorem dX4_retune_48 : decode cX4_retune 48 = .ok (.iload_n 3, 1) := by decide +kernel
theorem dX4_retune_49 : decode cX4_retune 49 = .ok (.if_icmp .lt 20, 3) := by decide +kernel
theorem dX4_retune_69 : decode cX4_retune 69 = .ok (.iload 6, 2) := by decide +kernel
theorem dX4_retune_71 : decode cX4_retune 71 = .ok (.istore_n 3, 1) := by decide +kernel
theorem dX4_retune_72 : decode cX4_retune 72 = .ok (.aload_n 0, 1) := by decide +kernel
theorem dX4_retune_73 : decode cX4_retune 73 = .ok (.getfield 21, 3) := by decide +kernel
theorem dX4_retune_76 : decode cX4_retune 76 = .ok (.iconst 0, 1) := by decide +kernel
theorem dX4_retune_77 : decode cX4_retune 77 = .ok (.aload_n 0, 1) := by decide +kernel
theorem dX4_retune_78 : decode cX4_retune 78 = .ok (.getfield 18, 3) := by decide +kernel
theorem dX4_retune_81 : decode cX4_retune 81 = .ok (.iconst 0, 1) := by decide +kernel
theorem dX4_retune_82 : decode cX4_retune 82 = .ok (.bipush 8, 2) := by decide +kernel
theorem dX4_retune_84 : decode cX4_retune 84 = .ok (.invokestatic 62, 3) := by decide +kernel
theorem dX4_retune_87 : decode cX4_retune 87 = .ok (.iinc 4 1, 3) := by decide +kernel
theorem dX4_retune_90 : decode cX4_retune 90 = .ok (.goto (-84), 3) := by decide +kernel
theorem dX4_retune_93 : decode cX4_retune 93 = .ok (.iload_n 3, 1) := by decide +kernel
theorem dX4_retune_94 : decode cX4_retune 94 = .ok (.ireturn, 1) := by decide +kernel
theorem dX4_retune_52 : decode cX4_retune 52 = .ok (.iload 6, 2) := by decide +kernel
theorem dX4_retune_54 : decode cX4_retune 54 = .ok (.iload_n 3, 1) := by decide +kernel
theorem dX4_retune_55 : decode cX4_retune 55 = .ok (.if_icmp .ne 32, 3) := by decide +kernel
theorem dX4_retune_58 : decode cX4_retune 58 = .ok (.aload_n 0, 1) := by decide +kernel
theorem dX4_retune_59 : decode cX4_retune 59 = .ok (.aload_n 1, 1) := by decide +kernel
theorem dX4_retune_60 : decode cX4_retune 60 = .ok (.getfield 27, 3) := by decide +kernel
theorem dX4_retune_63 : decode cX4_retune 63 = .ok (.invokevirtual 58, 3) := by decide +kernel
theorem dX4_retune_66 : decode cX4_retune 66 = .ok (.ifCond .eq 21, 3) := by decide +kernel
theorem dX11_tune_0 : decode cX11_tune 0 = .ok (.iload_n 1, 1) := by decide +kernel
theorem dX11_tune_1 : decode cX11_tune 1 = .ok (.iconst 0, 1) := by decide +kernel
theorem dX11_tune_2 : decode cX11_tune 2 = .ok (.iconst 3, 1) := by decide +kernel
theorem dX11_tune_3 : decode cX11_tune 3 = .ok (.invokestatic 97, 3) := by decide +kernel
theorem dX11_tune_6 : decode cX11_tune 6 = .ok (.ifCond .ne 5, 3) := by decide +kernel
theorem dX11_tune_11 : decode cX11_tune 11 = .ok (.iload_n 2, 1) := by decide +kernel
theorem dX11_tune_12 : decode cX11_tune 12 = .ok (.ifCond .ne 16, 3) := by decide +kernel
theorem dX11_tune_28 : decode cX11_tune 28 = .ok (.iload_n 2, 1) := by decide +kernel
theorem dX11_tune_29 : decode cX11_tune 29 = .ok (.iconst 1, 1) := by decide +kernel
theorem dX11_tune_30 : decode cX11_tune 30 = .ok (.bipush 8, 2) := by decide +kernel
theorem dX11_tune_32 : decode cX11_tune 32 = .ok (.invokestatic 97, 3) := by decide +kernel
theorem dX11_tune_35 : decode cX11_tune 35 = .ok (.ifCond .eq 9, 3) := by decide +kernel
theorem dX11_tune_38 : decode cX11_tune 38 = .ok (.iload_n 2, 1) := by decide +kernel
theorem dX11_tune_39 : decode cX11_tune 39 = .ok (.iconst 1, 1) := by decide +kernel
theorem dX11_tune_40 : decode cX11_tune 40 = .ok (.isub, 1) := by decide +kernel
theorem dX11_tune_41 : decode cX11_tune 41 = .ok (.goto 4, 3) := by decide +kernel
theorem dX11_tune_45 : decode cX11_tune 45 = .ok (.istore_n 3, 1) := by decide +kernel
theorem dX11_tune_46 : decode cX11_tune 46 = .ok (.aload_n 0, 1) := by decide +kernel
theorem dX11_tune_47 : decode cX11_tune 47 = .ok (.getfield 10, 3) := by decide +kernel
theorem dX11_tune_50 : decode cX11_tune 50 = .ok (.iload_n 3, 1) := by decide +kernel
theorem dX11_tune_51 : decode cX11_tune 51 = .ok (.invokevirtual 121, 3) := by decide +kernel
theorem dX11_tune_54 : decode cX11_tune 54 = .ok (.ifCond .eq 16, 3) := by decide +kernel
theorem dX11_tune_70 : decode cX11_tune 70 = .ok (.iconst (-1), 1) := by decide +kernel
theorem dX11_tune_71 : decode cX11_tune 71 = .ok (.ireturn, 1) := by decide +kernel
theorem dX11_tune_44 : decode cX11_tune 44 = .ok (.iconst (-1), 1) := by decide +kernel
theorem dX11_tune_15 : decode cX11_tune 15 = .ok (.aload_n 0, 1) := by decide +kernel
theorem dX11_tune_16 : decode cX11_tune 16 = .ok (.getfield 75, 3) := by decide +kernel
theorem dX11_tune_19 : decode cX11_tune 19 = .ok (.aload_n 0, 1) := by decide +kernel
theorem dX11_tune_20 : decode cX11_tune 20 = .ok (.getfield 10, 3) := by decide +kernel
theorem dX11_tune_23 : decode cX11_tune 23 = .ok (.iload_n 1, 1) := by decide +kernel
theorem dX11_tune_24 : decode cX11_tune 24 = .ok (.invokevirtual 252, 3) := by decide +kernel
theorem dX11_tune_27 : decode cX11_tune 27 = .ok (.ireturn, 1) := by decide +kernel
theorem dX11_tune_9 : decode cX11_tune 9 = .ok (.iconst (-1), 1) := by decide +kernel
theorem dX11_tune_10 : decode cX11_tune 10 = .ok (.ireturn, 1) := by decide +kernel
theorem dX4_muted_0 : decode cX4_muted 0 = .ok (.lload_n 2, 1) := by decide +kernel
theorem dX4_muted_1 : decode cX4_muted 1 = .ok (.lstore 4, 2) := by decide +kernel
theorem dX4_muted_3 : decode cX4_muted 3 = .ok (.iconst 0, 1) := by decide +kernel
theorem dX4_muted_4 : decode cX4_muted 4 = .ok (.istore 6, 2) := by decide +kernel
theorem dX4_muted_6 : decode cX4_muted 6 = .ok (.iload 6, 2) := by decide +kernel
theorem dX4_muted_8 : decode cX4_muted 8 = .ok (.aload_n 0, 1) := by decide +kernel
theorem dX4_muted_9 : decode cX4_muted 9 = .ok (.getfield 27, 3) := by decide +kernel
theorem dX4_muted_12 : decode cX4_muted 12 = .ok (.if_icmp .ge 45, 3) := by decide +kernel
theorem dX4_muted_57 : decode cX4_muted 57 = .ok (.lload 4, 2) := by decide +kernel
theorem dX4_muted_59 : decode cX4_muted 59 = .ok (.lreturn, 1) := by decide +kernel
theorem dX4_odds_0 : decode cX4_odds 0 = .ok (.ldc2_w 93, 3) := by decide +kernel
theorem dX4_odds_3 : decode cX4_odds 3 = .ok (.lstore_n 3, 1) := by decide +kernel
theorem dX4_odds_4 : decode cX4_odds 4 = .ok (.iconst 0, 1) := by decide +kernel
theorem dX4_odds_5 : decode cX4_odds 5 = .ok (.istore 5, 2) := by decide +kernel
theorem dX4_odds_7 : decode cX4_odds 7 = .ok (.iload 5, 2) := by decide +kernel
theorem dX4_odds_9 : decode cX4_odds 9 = .ok (.bipush 7, 2) := by decide +kernel
theorem dX4_odds_11 : decode cX4_odds 11 = .ok (.if_icmp .ge 29, 3) := by decide +kernel
theorem dX4_odds_40 : decode cX4_odds 40 = .ok (.lload_n 3, 1) := by decide +kernel
theorem dX4_odds_41 : decode cX4_odds 41 = .ok (.lreturn, 1) := by decide +kernel
theorem dX4_odds_14 : decode cX4_odds 14 = .ok (.iload_n 2, 1) := by decide +kernel
theorem dX4_odds_15 : decode cX4_odds 15 = .ok (.iload 5, 2) := by decide +kernel
theorem dX4_odds_17 : decode cX4_odds 17 = .ok (.ishr, 1) := by decide +kernel
theorem dX4_odds_18 : decode cX4_odds 18 = .ok (.iconst 1, 1) := by decide +kernel
theorem dX4_odds_19 : decode cX4_odds 19 = .ok (.iand, 1) := by decide +kernel
theorem dX4_odds_20 : decode cX4_odds 20 = .ok (.iconst 1, 1) := by decide +kernel
theorem dX4_odds_21 : decode cX4_odds 21 = .ok (.if_icmp .ne 13, 3) := by decide +kernel
theorem dX4_odds_34 : decode cX4_odds 34 = .ok (.iinc 5 1, 3) := by decide +kernel
theorem dX4_odds_37 : decode cX4_odds 37 = .ok (.goto (-30), 3) := by decide +kernel
theorem dX4_odds_24 : decode cX4_odds 24 = .ok (.lload_n 3, 1) := by decide +kernel
theorem dX4_odds_25 : decode cX4_odds 25 = .ok (.aload_n 1, 1) := by decide +kernel
theorem dX4_odds_26 : decode cX4_odds 26 = .ok (.iload 5, 2) := by decide +kernel
theorem dX4_odds_28 : decode cX4_odds 28 = .ok (.lload_n 3, 1) := by decide +kernel
theorem dX4_odds_29 : decode cX4_odds 29 = .ok (.invokestatic 95, 3) := by decide +kernel
theorem dX4_odds_32 : decode cX4_odds 32 = .ok (.lsub, 1) := by decide +kernel
theorem dX4_odds_33 : decode cX4_odds 33 = .ok (.lstore_n 3, 1) := by decide +kernel
theorem dX11_chance_0 : decode cX11_chance 0 = .ok (.iload_n 1, 1) := by decide +kernel
theorem dX11_chance_1 : decode cX11_chance 1 = .ok (.iconst 0, 1) := by decide +kernel
theorem dX11_chance_2 : decode cX11_chance 2 = .ok (.bipush 127, 2) := by decide +kernel
theorem dX11_chance_4 : decode cX11_chance 4 = .ok (.invokestatic 97, 3) := by decide +kernel
theorem dX11_chance_7 : decode cX11_chance 7 = .ok (.ifCond .eq 18, 3) := by decide +kernel
theorem dX11_chance_10 : decode cX11_chance 10 = .ok (.aload_n 0, 1) := by decide +kernel
theorem dX11_chance_11 : decode cX11_chance 11 = .ok (.getfield 75, 3) := by decide +kernel
theorem dX11_chance_14 : decode cX11_chance 14 = .ok (.aload_n 0, 1) := by decide +kernel
theorem dX11_chance_15 : decode cX11_chance 15 = .ok (.getfield 10, 3) := by decide +kernel
theorem dX11_chance_18 : decode cX11_chance 18 = .ok (.iload_n 1, 1) := by decide +kernel
theorem dX11_chance_19 : decode cX11_chance 19 = .ok (.invokevirtual 270, 3) := by decide +kernel
theorem dX11_chance_22 : decode cX11_chance 22 = .ok (.goto 6, 3) := by decide +kernel
theorem dX11_chance_28 : decode cX11_chance 28 = .ok (.lreturn, 1) := by decide +kernel
theorem dX11_chance_25 : decode cX11_chance 25 = .ok (.ldc2_w 274, 3) := by decide +kernel
theorem dX9_become_0 : decode cX9_become 0 = .ok (.aload_n 1, 1) := by decide +kernel
theorem dX9_become_1 : decode cX9_become 1 = .ok (.getfield 9, 3) := by decide +kernel
theorem dX9_become_4 : decode cX9_become 4 = .ok (.iconst 0, 1) := by decide +kernel
theorem dX9_become_5 : decode cX9_become 5 = .ok (.aload_n 0, 1) := by decide +kernel
theorem dX9_become_6 : decode cX9_become 6 = .ok (.getfield 9, 3) := by decide +kernel
theorem dX9_become_9 : decode cX9_become 9 = .ok (.iconst 0, 1) := by decide +kernel
theorem dX9_become_10 : decode cX9_become 10 = .ok (.aload_n 0, 1) := by decide +kernel
theorem dX9_become_11 : decode cX9_become 11 = .ok (.getfield 9, 3) := by decide +kernel
theorem dX9_become_14 : decode cX9_become 14 = .ok (.arraylength, 1) := by decide +kernel
theorem dX9_become_15 : decode cX9_become 15 = .ok (.invokestatic 46, 3) := by decide +kernel
theorem dX9_become_18 : decode cX9_become 18 = .ok (.aload_n 1, 1) := by decide +kernel
theorem dX9_become_19 : decode cX9_become 19 = .ok (.getfield 15, 3) := by decide +kernel
theorem dX9_become_22 : decode cX9_become 22 = .ok (.iconst 0, 1) := by decide +kernel
theorem dX9_become_23 : decode cX9_become 23 = .ok (.aload_n 0, 1) := by decide +kernel
theorem dX9_become_24 : decode cX9_become 24 = .ok (.getfield 15, 3) := by decide +kernel
theorem dX9_become_27 : decode cX9_become 27 = .ok (.iconst 0, 1) := by decide +kernel
theorem dX9_become_28 : decode cX9_become 28 = .ok (.aload_n 0, 1) := by decide +kernel
theorem dX9_become_29 : decode cX9_become 29 = .ok (.getfield 15, 3) := by decide +kernel
theorem dX9_become_32 : decode cX9_become 32 = .ok (.arraylength, 1) := by decide +kernel
theorem dX9_become_33 : decode cX9_become 33 = .ok (.invokestatic 46, 3) := by decide +kernel
theorem dX9_become_36 : decode cX9_become 36 = .ok (.aload_n 1, 1) := by decide +kernel
theorem dX9_become_37 : decode cX9_become 37 = .ok (.getfield 18, 3) := by decide +kernel
theorem dX9_become_40 : decode cX9_become 40 = .ok (.iconst 0, 1) := by decide +kernel
theorem dX9_become_41 : decode cX9_become 41 = .ok (.aload_n 0, 1) := by decide +kernel
theorem dX9_become_42 : decode cX9_become 42 = .ok (.getfield 18, 3) := by decide +kernel
theorem dX9_become_45 : decode cX9_become 45 = .ok (.iconst 0, 1) := by decide +kernel
theorem dX9_become_46 : decode cX9_become 46 = .ok (.aload_n 0, 1) := by decide +kernel
theorem dX9_become_47 : decode cX9_become 47 = .ok (.getfield 18, 3) := by decide +kernel
theorem dX9_become_50 : decode cX9_become 50 = .ok (.arraylength, 1) := by decide +kernel
theorem dX9_become_51 : decode cX9_become 51 = .ok (.invokestatic 46, 3) := by decide +kernel
theorem dX9_become_54 : decode cX9_become 54 = .ok (.iconst 0, 1) := by decide +kernel
theorem dX9_become_55 : decode cX9_become 55 = .ok (.istore_n 2, 1) := by decide +kernel
theorem dX9_become_56 : decode cX9_become 56 = .ok (.iload_n 2, 1) := by decide +kernel
theorem dX9_become_57 : decode cX9_become 57 = .ok (.bipush 6, 2) := by decide +kernel
theorem dX9_become_59 : decode cX9_become 59 = .ok (.if_icmp .ge 21, 3) := by decide +kernel
theorem dX9_become_62 : decode cX9_become 62 = .ok (.aload_n 0, 1) := by decide +kernel
theorem dX9_become_63 : decode cX9_become 63 = .ok (.getfield 23, 3) := by decide +kernel
theorem dX9_become_66 : decode cX9_become 66 = .ok (.iload_n 2, 1) := by decide +kernel
theorem dX9_become_67 : decode cX9_become 67 = .ok (.aload_n 1, 1) := by decide +kernel
theorem dX9_become_68 : decode cX9_become 68 = .ok (.getfield 23, 3) := by decide +kernel
theorem dX9_become_71 : decode cX9_become 71 = .ok (.iload_n 2, 1) := by decide +kernel
theorem dX9_become_72 : decode cX9_become 72 = .ok (.aaload, 1) := by decide +kernel
theorem dX9_become_73 : decode cX9_become 73 = .ok (.aastore, 1) := by decide +kernel
theorem dX9_become_74 : decode cX9_become 74 = .ok (.iinc 2 1, 3) := by decide +kernel
theorem dX9_become_77 : decode cX9_become 77 = .ok (.goto (-21), 3) := by decide +kernel
theorem dX9_become_80 : decode cX9_become 80 = .ok (.aload_n 0, 1) := by decide +kernel
theorem dX9_become_81 : decode cX9_become 81 = .ok (.aload_n 1, 1) := by decide +kernel
theorem dX9_become_82 : decode cX9_become 82 = .ok (.getfield 27, 3) := by decide +kernel
theorem dX9_become_85 : decode cX9_become 85 = .ok (.putfield 27, 3) := by decide +kernel
theorem dX9_become_88 : decode cX9_become 88 = .ok (.aload_n 0, 1) := by decide +kernel
theorem dX9_become_89 : decode cX9_become 89 = .ok (.aload_n 1, 1) := by decide +kernel
theorem dX9_become_90 : decode cX9_become 90 = .ok (.getfield 31, 3) := by decide +kernel
theorem dX9_become_93 : decode cX9_become 93 = .ok (.putfield 31, 3) := by decide +kernel
theorem dX9_become_96 : decode cX9_become 96 = .ok (.aload_n 0, 1) := by decide +kernel
theorem dX9_become_97 : decode cX9_become 97 = .ok (.aload_n 1, 1) := by decide +kernel
theorem dX9_become_98 : decode cX9_become 98 = .ok (.getfield 34, 3) := by decide +kernel
theorem dX9_become_101 : decode cX9_become 101 = .ok (.putfield 34, 3) := by decide +kernel
theorem dX9_become_104 : decode cX9_become 104 = .ok (.aload_n 0, 1) := by decide +kernel
theorem dX9_become_105 : decode cX9_become 105 = .ok (.aload_n 1, 1) := by decide +kernel
theorem dX9_become_106 : decode cX9_become 106 = .ok (.getfield 37, 3) := by decide +kernel
theorem dX9_become_109 : decode cX9_become 109 = .ok (.putfield 37, 3) := by decide +kernel
theorem dX9_become_112 : decode cX9_become 112 = .ok (.aload_n 0, 1) := by decide +kernel
theorem dX9_become_113 : decode cX9_become 113 = .ok (.aload_n 1, 1) := by decide +kernel
theorem dX9_become_114 : decode cX9_become 114 = .ok (.getfield 40, 3) := by decide +kernel
theorem dX9_become_117 : decode cX9_become 117 = .ok (.putfield 40, 3) := by decide +kernel
theorem dX9_become_120 : decode cX9_become 120 = .ok (.aload_n 0, 1) := by decide +kernel
theorem dX9_become_121 : decode cX9_become 121 = .ok (.aload_n 1, 1) := by decide +kernel
theorem dX9_become_122 : decode cX9_become 122 = .ok (.getfield 43, 3) := by decide +kernel
theorem dX9_become_125 : decode cX9_become 125 = .ok (.putfield 43, 3) := by decide +kernel
theorem dX9_become_128 : decode cX9_become 128 = .ok (.return_, 1) := by decide +kernel
theorem dX10_byDraws_0 : decode cX10_byDraws 0 = .ok (.iload_n 2, 1) := by decide +kernel
theorem dX10_byDraws_1 : decode cX10_byDraws 1 = .ok (.istore 4, 2) := by decide +kernel
theorem dX10_byDraws_3 : decode cX10_byDraws 3 = .ok (.iconst 0, 1) := by decide +kernel
theorem dX10_byDraws_4 : decode cX10_byDraws 4 = .ok (.istore 5, 2) := by decide +kernel
theorem dX10_byDraws_6 : decode cX10_byDraws 6 = .ok (.iconst 0, 1) := by decide +kernel
theorem dX10_byDraws_7 : decode cX10_byDraws 7 = .ok (.istore 6, 2) := by decide +kernel
theorem dX10_byDraws_9 : decode cX10_byDraws 9 = .ok (.iload 6, 2) := by decide +kernel
theorem dX10_byDraws_11 : decode cX10_byDraws 11 = .ok (.iload_n 3, 1) := by decide +kernel
theorem dX10_byDraws_12 : decode cX10_byDraws 12 = .ok (.if_icmp .ge 69, 3) := by decide +kernel
theorem dX10_byDraws_81 : decode cX10_byDraws 81 = .ok (.iload 5, 2) := by decide +kernel
theorem dX10_byDraws_83 : decode cX10_byDraws 83 = .ok (.ireturn, 1) := by decide +kernel
theorem dX10_byDraws_15 : decode cX10_byDraws 15 = .ok (.aload_n 1, 1) := by decide +kernel
theorem dX10_byDraws_16 : decode cX10_byDraws 16 = .ok (.getfield 77, 3) := by decide +kernel
theorem dX10_byDraws_19 : decode cX10_byDraws 19 = .ok (.ifCond .le 34, 3) := by decide +kernel
theorem dX10_byDraws_53 : decode cX10_byDraws 53 = .ok (.aload_n 0, 1) := by decide +kernel
theorem dX10_byDraws_54 : decode cX10_byDraws 54 = .ok (.aload_n 1, 1) := by decide +kernel
theorem dX10_byDraws_55 : decode cX10_byDraws 55 = .ok (.invokevirtual 101, 3) := by decide +kernel
theorem dX10_byDraws_58 : decode cX10_byDraws 58 = .ok (.istore 7, 2) := by decide +kernel
theorem dX10_byDraws_60 : decode cX10_byDraws 60 = .ok (.iload 7, 2) := by decide +kernel
theorem dX10_byDraws_62 : decode cX10_byDraws 62 = .ok (.ifCond .ge 6, 3) := by decide +kernel
theorem dX10_byDraws_68 : decode cX10_byDraws 68 = .ok (.iload 5, 2) := by decide +kernel
theorem dX10_byDraws_70 : decode cX10_byDraws 70 = .ok (.iload 7, 2) := by decide +kernel
theorem dX10_byDraws_72 : decode cX10_byDraws 72 = .ok (.iadd, 1) := by decide +kernel
theorem dX10_byDraws_73 : decode cX10_byDraws 73 = .ok (.istore 5, 2) := by decide +kernel
theorem dX10_byDraws_75 : decode cX10_byDraws 75 = .ok (.iinc 6 1, 3) := by decide +kernel
theorem dX10_byDraws_78 : decode cX10_byDraws 78 = .ok (.goto (-69), 3) := by decide +kernel
theorem dX11_days_0 : decode cX11_days 0 = .ok (.iload_n 1, 1) := by decide +kernel
theorem dX11_days_1 : decode cX11_days 1 = .ok (.iconst 0, 1) := by decide +kernel
theorem dX11_days_2 : decode cX11_days 2 = .ok (.ldc_w 284, 3) := by decide +kernel
theorem dX11_days_5 : decode cX11_days 5 = .ok (.invokestatic 97, 3) := by decide +kernel
theorem dX11_days_8 : decode cX11_days 8 = .ok (.ifCond .eq 13, 3) := by decide +kernel
theorem dX11_days_11 : decode cX11_days 11 = .ok (.iload_n 2, 1) := by decide +kernel
theorem dX11_days_12 : decode cX11_days 12 = .ok (.iconst 1, 1) := by decide +kernel
theorem dX11_days_13 : decode cX11_days 13 = .ok (.bipush 100, 2) := by decide +kernel
theorem dX11_days_15 : decode cX11_days 15 = .ok (.invokestatic 97, 3) := by decide +kernel
theorem dX11_days_18 : decode cX11_days 18 = .ok (.ifCond .ne 9, 3) := by decide +kernel
theorem dX11_days_27 : decode cX11_days 27 = .ok (.aload_n 0, 1) := by decide +kernel
theorem dX11_days_28 : decode cX11_days 28 = .ok (.getfield 24, 3) := by decide +kernel
theorem dX11_days_31 : decode cX11_days 31 = .ok (.aload_n 0, 1) := by decide +kernel
theorem dX11_days_32 : decode cX11_days 32 = .ok (.getfield 10, 3) := by decide +kernel
theorem dX11_days_35 : decode cX11_days 35 = .ok (.invokevirtual 285, 3) := by decide +kernel
theorem dX11_days_38 : decode cX11_days 38 = .ok (.aload_n 0, 1) := by decide +kernel
theorem dX11_days_39 : decode cX11_days 39 = .ok (.getfield 50, 3) := by decide +kernel
theorem dX11_days_42 : decode cX11_days 42 = .ok (.aload_n 0, 1) := by decide +kernel
theorem dX11_days_43 : decode cX11_days 43 = .ok (.getfield 24, 3) := by decide +kernel
theorem dX11_days_46 : decode cX11_days 46 = .ok (.iload_n 1, 1) := by decide +kernel
theorem dX11_days_47 : decode cX11_days 47 = .ok (.iload_n 2, 1) := by decide +kernel
theorem dX11_days_48 : decode cX11_days 48 = .ok (.invokevirtual 288, 3) := by decide +kernel
theorem dX11_days_51 : decode cX11_days 51 = .ok (.istore_n 3, 1) := by decide +kernel
theorem dX11_days_52 : decode cX11_days 52 = .ok (.aload_n 0, 1) := by decide +kernel
theorem dX11_days_53 : decode cX11_days 53 = .ok (.aload_n 0, 1) := by decide +kernel
theorem dX11_days_54 : decode cX11_days 54 = .ok (.getfield 24, 3) := by decide +kernel
theorem dX11_days_57 : decode cX11_days 57 = .ok (.getfield 291, 3) := by decide +kernel
theorem dX11_days_60 : decode cX11_days 60 = .ok (.aload_n 0, 1) := by decide +kernel
theorem dX11_days_61 : decode cX11_days 61 = .ok (.getfield 10, 3) := by decide +kernel
theorem dX11_days_64 : decode cX11_days 64 = .ok (.getfield 291, 3) := by decide +kernel
theorem dX11_days_67 : decode cX11_days 67 = .ok (.isub, 1) := by decide +kernel
theorem dX11_days_68 : decode cX11_days 68 = .ok (.putfield 94, 3) := by decide +kernel
theorem dX11_days_71 : decode cX11_days 71 = .ok (.aload_n 0, 1) := by decide +kernel
theorem dX11_days_72 : decode cX11_days 72 = .ok (.iconst 1, 1) := by decide +kernel
theorem dX11_days_73 : decode cX11_days 73 = .ok (.putfield 90, 3) := by decide +kernel
theorem dX11_days_76 : decode cX11_days 76 = .ok (.aload_n 0, 1) := by decide +kernel
theorem dX11_days_77 : decode cX11_days 77 = .ok (.iload_n 3, 1) := by decide +kernel
theorem dX11_days_78 : decode cX11_days 78 = .ok (.invokevirtual 118, 3) := by decide +kernel
theorem dX11_days_81 : decode cX11_days 81 = .ok (.ireturn, 1) := by decide +kernel
theorem dX11_days_21 : decode cX11_days 21 = .ok (.aload_n 0, 1) := by decide +kernel
theorem dX11_days_22 : decode cX11_days 22 = .ok (.iconst (-1), 1) := by decide +kernel
theorem dX11_days_23 : decode cX11_days 23 = .ok (.invokevirtual 101, 3) := by decide +kernel
theorem dX11_days_26 : decode cX11_days 26 = .ok (.ireturn, 1) := by decide +kernel
theorem dX11_image_0 : decode cX11_image 0 = .ok (.iload_n 1, 1) := by decide +kernel
theorem dX11_image_1 : decode cX11_image 1 = .ok (.iconst 0, 1) := by decide +kernel
theorem dX11_image_2 : decode cX11_image 2 = .ok (.iconst 1, 1) := by decide +kernel
theorem dX11_image_3 : decode cX11_image 3 = .ok (.invokestatic 97, 3) := by decide +kernel
theorem dX11_image_6 : decode cX11_image 6 = .ok (.ifCond .ne 9, 3) := by decide +kernel
theorem dX11_image_15 : decode cX11_image 15 = .ok (.aload_n 0, 1) := by decide +kernel
theorem dX11_image_16 : decode cX11_image 16 = .ok (.getfield 16, 3) := by decide +kernel
theorem dX11_image_19 : decode cX11_image 19 = .ok (.iload_n 1, 1) := by decide +kernel
theorem dX11_image_20 : decode cX11_image 20 = .ok (.aaload, 1) := by decide +kernel
theorem dX11_image_21 : decode cX11_image 21 = .ok (.aload_n 0, 1) := by decide +kernel
theorem dX11_image_22 : decode cX11_image 22 = .ok (.getfield 10, 3) := by decide +kernel
theorem dX11_image_25 : decode cX11_image 25 = .ok (.invokevirtual 285, 3) := by decide +kernel
theorem dX11_image_28 : decode cX11_image 28 = .ok (.aload_n 0, 1) := by decide +kernel
theorem dX11_image_29 : decode cX11_image 29 = .ok (.getfield 20, 3) := by decide +kernel
theorem dX11_image_32 : decode cX11_image 32 = .ok (.iload_n 1, 1) := by decide +kernel
theorem dX11_image_33 : decode cX11_image 33 = .ok (.iconst 1, 1) := by decide +kernel
theorem dX11_image_34 : decode cX11_image 34 = .ok (.bastore, 1) := by decide +kernel
theorem dX11_image_35 : decode cX11_image 35 = .ok (.aload_n 0, 1) := by decide +kernel
theorem dX11_image_36 : decode cX11_image 36 = .ok (.iconst 0, 1) := by decide +kernel
theorem dX11_image_37 : decode cX11_image 37 = .ok (.invokevirtual 118, 3) := by decide +kernel
theorem dX11_image_40 : decode cX11_image 40 = .ok (.ireturn, 1) := by decide +kernel
theorem dX11_image_9 : decode cX11_image 9 = .ok (.aload_n 0, 1) := by decide +kernel
theorem dX11_image_10 : decode cX11_image 10 = .ok (.iconst (-1), 1) := by decide +kernel
theorem dX11_image_11 : decode cX11_image 11 = .ok (.invokevirtual 101, 3) := by decide +kernel
theorem dX11_image_14 : decode cX11_image 14 = .ok (.ireturn, 1) := by decide +kernel
set_option maxRecDepth 20000 in
theorem ggX4_retune_X4_fill : GoodIn wsX4_retune wsX4_fill := goodIn_r _ [11, 1, 12, 13, 14, 15, 16, 17, 18, 10, 19, 20, 21, 22, 23, 24, 25, 26, 27, 28, 29, 34, 35, 36, 37, 38, 39, 40, 41, 42, 43, 44, 45, 46, 47, 48] (by decide +kernel) (by decide +kernel)
set_option maxRecDepth 20000 in
theorem gX4_retune_X4_fill : GoodIn wsX4_retune (wsV RX4 55 RX4 yX4_fill wsX4_fill) := goodIn_app (goodIn_of _ (by decide +kernel)) ggX4_retune_X4_fill
set_option maxRecDepth 20000 in
theorem ggX4_retune_X4_ahead : GoodIn wsX4_retune wsX4_ahead := goodIn_r _ [33, 1, 2, 44, 45, 46, 47, 48] (by decide +kernel) (by decide +kernel)
set_option maxRecDepth 20000 in
theorem gX4_retune_X4_ahead : GoodIn wsX4_retune (wsV RX4 58 RX4 yX4_ahead wsX4_ahead) := goodIn_app (goodIn_of _ (by decide +kernel)) ggX4_retune_X4_ahead
set_option maxRecDepth 20000 in
theorem ggX11_tune_X11_within : GoodIn wsX11_tune wsX11_within := goodIn_r _ [6] (by decide +kernel) (by decide +kernel)
set_option maxRecDepth 20000 in
theorem gX11_tune_X11_within : GoodIn wsX11_tune (va_wsS RX11 97 yX11_within wsX11_within) := goodIn_app (goodIn_of _ (by decide +kernel)) ggX11_tune_X11_within
set_option maxRecDepth 20000 in
theorem ggX11_tune_X9_has : GoodIn wsX11_tune wsX9_has := goodIn_r _ [45, 46, 67, 68, 69, 70, 71, 72, 73, 74, 75, 76] (by decide +kernel) (by decide +kernel)
set_option maxRecDepth 20000 in
theorem gX11_tune_X9_has_n121 : GoodIn wsX11_tune (wsX9_has) := ggX11_tune_X9_has
set_option maxRecDepth 20000 in
theorem ggX11_tune_X4_retune : GoodIn wsX11_tune wsX4_retune := goodIn_r _ [10, 11, 12, 13, 14, 15, 16, 17, 18, 19, 8, 20, 21, 22, 23, 24, 25, 26, 27, 28, 29, 30, 31, 32, 33, 34, 35, 36, 37, 38, 39, 40, 41, 42, 67, 68, 69, 70, 71, 72, 73, 74, 75, 76, 77, 78, 79, 80, 81] (by decide +kernel) (by decide +kernel)
set_option maxRecDepth 20000 in
theorem gX11_tune_X4_retune_n252 : GoodIn wsX11_tune (wsX4_retune) := ggX11_tune_X4_retune
set_option maxRecDepth 20000 in
theorem ggX4_odds_X4_muted : GoodIn wsX4_odds wsX4_muted := goodIn_r _ [5, 6, 7, 8, 9, 10, 11, 12, 13, 14, 15, 16, 17, 18, 19, 20, 21, 22, 23, 24, 25, 26, 27, 28, 29, 30] (by decide +kernel) (by decide +kernel)
set_option maxRecDepth 20000 in
theorem gX4_odds_X4_muted : GoodIn wsX4_odds (va_wsS RX4 95 yX4_muted wsX4_muted) := goodIn_app (goodIn_of _ (by decide +kernel)) ggX4_odds_X4_muted
set_option maxRecDepth 20000 in
theorem ggX11_chance_X11_within : GoodIn wsX11_chance wsX11_within := goodIn_r _ [7] (by decide +kernel) (by decide +kernel)
set_option maxRecDepth 20000 in
theorem gX11_chance_X11_within : GoodIn wsX11_chance (va_wsS RX11 97 yX11_within wsX11_within) := goodIn_app (goodIn_of _ (by decide +kernel)) ggX11_chance_X11_within
set_option maxRecDepth 20000 in
theorem ggX11_chance_X4_odds : GoodIn wsX11_chance wsX4_odds := goodIn_r _ [11, 12, 13, 14, 9, 15, 16, 17, 18, 19, 20, 21, 22, 23, 24, 25, 26, 27, 28, 29, 30, 48, 49, 50, 51, 52, 53, 54, 55, 56, 57] (by decide +kernel) (by decide +kernel)
set_option maxRecDepth 20000 in
theorem gX11_chance_X4_odds_n270 : GoodIn wsX11_chance (wsX4_odds) := ggX11_chance_X4_odds
set_option maxRecDepth 20000 in
theorem ggX10_byDraws_X10_nextHour : GoodIn wsX10_byDraws wsX10_nextHour := goodIn_r _ [73, 74, 10, 11, 12, 13, 75, 15, 76, 77, 78, 79, 80, 81, 82, 83, 84, 85, 86, 87, 18, 88, 89, 90, 91, 92, 19, 20, 21, 22, 93, 94, 95, 96, 97, 98, 99, 7, 100, 9, 101, 102, 103, 104, 105, 106, 23, 24, 25, 26, 27, 107, 108, 109, 28, 29, 30, 31, 32, 33, 34, 35, 36, 37, 38, 39, 40, 41, 42, 43, 44, 45, 46, 47, 48, 49, 50, 51, 52, 53, 54, 55, 56, 57, 58, 59, 60, 61, 62, 63, 64, 65, 66, 110, 111, 112, 113, 114, 67, 68, 69, 115, 116, 117, 118, 119, 120, 121, 122, 123, 124, 125, 126, 127, 128, 129, 130, 131, 132, 133] (by decide +kernel) (by decide +kernel)
set_option maxRecDepth 20000 in
theorem gX10_byDraws_X10_nextHour : GoodIn wsX10_byDraws (wsV RX10 101 RX10 yX10_nextHour wsX10_nextHour) := goodIn_app (goodIn_of _ (by decide +kernel)) ggX10_byDraws_X10_nextHour
set_option maxRecDepth 20000 in
theorem ggX11_days_X11_within : GoodIn wsX11_days wsX11_within := goodIn_r _ [10] (by decide +kernel) (by decide +kernel)
set_option maxRecDepth 20000 in
theorem gX11_days_X11_within : GoodIn wsX11_days (va_wsS RX11 97 yX11_within wsX11_within) := goodIn_app (goodIn_of _ (by decide +kernel)) ggX11_days_X11_within
set_option maxRecDepth 20000 in
theorem ggX11_days_X9_become : GoodIn wsX11_days wsX9_become := goodIn_r _ [20, 21, 22, 23, 24, 25, 26, 27, 28, 29, 30, 31, 32, 33, 34, 162, 163, 164, 165, 166, 167, 168, 169, 170, 171] (by decide +kernel) (by decide +kernel)
set_option maxRecDepth 20000 in
theorem gX11_days_X9_become_n285 : GoodIn wsX11_days (wsX9_become) := ggX11_days_X9_become
set_option maxRecDepth 20000 in
theorem ggX11_days_X10_byDraws : GoodIn wsX11_days wsX10_byDraws := goodIn_r _ [38, 39, 40, 41, 42, 43, 44, 36, 45, 46, 47, 48, 49, 50, 51, 18, 52, 53, 29, 54, 55, 56, 21, 57, 58, 59, 60, 61, 62, 63, 64, 31, 65, 66, 67, 68, 30, 28, 8, 9, 10, 69, 70, 71, 72, 73, 74, 75, 76, 77, 78, 79, 80, 81, 82, 83, 84, 85, 86, 87, 88, 89, 90, 91, 92, 93, 94, 95, 96, 97, 98, 99, 100, 101, 102, 103, 104, 105, 27, 106, 107, 108, 109, 26, 110, 111, 112, 113, 114, 115, 116, 117, 118, 119, 120, 121, 122, 123, 124, 125, 126, 127, 128, 129, 130, 131, 132, 133, 134, 135, 136, 137, 138, 139, 140, 162, 163, 164, 165, 166, 167, 168, 169, 170, 171, 172, 173, 174, 175, 176, 177, 178, 179, 180] (by decide +kernel) (by decide +kernel)
set_option maxRecDepth 20000 in
theorem gX11_days_X10_byDraws_n288 : GoodIn wsX11_days (wsX10_byDraws) := ggX11_days_X10_byDraws
set_option maxRecDepth 20000 in
theorem ggX11_days_X11_accept : GoodIn wsX11_days wsX11_accept := goodIn_r _ [144, 16, 145, 146, 147, 148, 149, 150, 151, 152, 153, 154, 155, 156, 157, 158, 159, 160, 161] (by decide +kernel) (by decide +kernel)
set_option maxRecDepth 20000 in
theorem gX11_days_X11_accept : GoodIn wsX11_days (wsV RX11 118 RX11 yX11_accept wsX11_accept) := goodIn_app (goodIn_of _ (by decide +kernel)) ggX11_days_X11_accept
set_option maxRecDepth 20000 in
theorem ggX11_days_X11_refuse : GoodIn wsX11_days wsX11_refuse := goodIn_r _ [14, 15, 16, 7, 8, 9, 10, 145, 146, 147, 148, 149, 150, 151, 152, 153, 154, 155, 156, 157, 158, 159, 160, 161] (by decide +kernel) (by decide +kernel)
set_option maxRecDepth 20000 in
theorem gX11_days_X11_refuse : GoodIn wsX11_days (wsV RX11 101 RX11 yX11_refuse wsX11_refuse) := goodIn_app (goodIn_of _ (by decide +kernel)) ggX11_days_X11_refuse
set_option maxRecDepth 20000 in
theorem ggX11_image_X11_within : GoodIn wsX11_image wsX11_within := goodIn_r _ [7] (by decide +kernel) (by decide +kernel)
set_option maxRecDepth 20000 in
theorem gX11_image_X11_within : GoodIn wsX11_image (va_wsS RX11 97 yX11_within wsX11_within) := goodIn_app (goodIn_of _ (by decide +kernel)) ggX11_image_X11_within
set_option maxRecDepth 20000 in
theorem ggX11_image_X9_become : GoodIn wsX11_image wsX9_become := goodIn_r _ [17, 18, 19, 20, 21, 22, 23, 24, 25, 26, 27, 28, 29, 30, 31, 53, 54, 55, 56, 57, 58, 59, 60, 61, 62] (by decide +kernel) (by decide +kernel)
set_option maxRecDepth 20000 in
theorem gX11_image_X9_become_n285 : GoodIn wsX11_image (wsX9_become) := ggX11_image_X9_become
set_option maxRecDepth 20000 in
theorem ggX11_image_X11_accept : GoodIn wsX11_image wsX11_accept := goodIn_r _ [35, 13, 36, 37, 38, 39, 40, 41, 42, 43, 44, 45, 46, 47, 48, 49, 50, 51, 52] (by decide +kernel) (by decide +kernel)
set_option maxRecDepth 20000 in
theorem gX11_image_X11_accept : GoodIn wsX11_image (wsV RX11 118 RX11 yX11_accept wsX11_accept) := goodIn_app (goodIn_of _ (by decide +kernel)) ggX11_image_X11_accept
set_option maxRecDepth 20000 in
theorem ggX11_image_X11_refuse : GoodIn wsX11_image wsX11_refuse := goodIn_r _ [11, 12, 13, 4, 5, 6, 7, 36, 37, 38, 39, 40, 41, 42, 43, 44, 45, 46, 47, 48, 49, 50, 51, 52] (by decide +kernel) (by decide +kernel)
set_option maxRecDepth 20000 in
theorem gX11_image_X11_refuse : GoodIn wsX11_image (wsV RX11 101 RX11 yX11_refuse wsX11_refuse) := goodIn_app (goodIn_of _ (by decide +kernel)) ggX11_image_X11_refuse
set_option maxHeartbeats 4000000 in
set_option maxRecDepth 100000 in
theorem c_fill (l : Launch) (D : va_G) (K : Nat → ClassId) (a0 : Nat) (a1 : Nat) (x : Int32) (y : Int32) (g0 : Value) (g1 : Value) (g2 : Value) (g3 : Value) (g4 : Value) (k0 : Value) (k1 : Value) (k2 : Value) (k3 : Value) (k5 : Value) (k6 : Value) (k7 : Value) (k8 : Value) (k9 : Value) (sz : Nat) : Met l yX4_fill wsX4_fill ({ frames := 0, cells := 0, slots := 0, locals := 0 }) (va_Pc [.ref a0, .ref a1, .int x, .int y] (Pre D K [(a0, .inr (4, [g0, g1, g2, g3, g4])), (a1, .inr (9, [k0, k1, k2, k3, .int 0, k5, k6, k7, k8, k9]))] sz)) (vp_Si (fun r : Int32 => (r = 0))) 0 0 (fun _ => False) := by
  refine Met.ofW (cc := cX4_fill) (maxL := 6) (ret := (some .int)) (by decide) rfl ?_
  intro p e s m args below meth c s₁ B hml hv
  obtain ⟨rfl, hsz, hP, hK, hD0, hN⟩ := hv
  have hx := B.exec
  have hb := B.bytes
  have hr := B.returns
  have hts := atoms_spec (ws := wsX4_fill) B.pre
  have hown : s.vm.findClass RX4 = some m.cls := findClass_of_methodNamed B.named
  have hlocks := B.notSynchronized
  subst hsz
  have hD := hD0
  have hP : va_P D vwCl [(a0, .inr (4, [g0, g1, g2, g3, g4])), (a1, .inr (9, [k0, k1, k2, k3, .int 0, k5, k6, k7, k8, k9]))] s.heap := hP
  have hl := lv_entry [.ref a0, .ref a1, .int x, .int y] (n := 6) (Nat.le_of_ble_eq_true rfl)
  rw [lg_entry_eq]
  generalize (lg_sl [.ref a0, .ref a1, .int x, .int y] ++ List.replicate (6 - (lg_sl [.ref a0, .ref a1, .int x, .int y]).length) Slot.unset).toArray = ls at hl ⊢
  have hl : lv_has ls 6 [(0, .ref a0), (1, .ref a1), (2, .int x), (3, .int y)] := hl
  have hw4 : ∀ w ∈ wsX40, w ∈ wsX4_fill := fun w h => (List.mem_cons_of_mem _ (List.mem_append_right _ h))
  have hw9 : ∀ w ∈ wsX90, w ∈ wsX4_fill := fun w h => (List.mem_cons_of_mem _ (List.mem_append_left _ (List.mem_append_right _ h)))
  refine lv_iconst (v := 0) hx hb dX4_fill_0 (by decide) ?_
  refine lv_istore (lv' := [(4, .int 0), (0, .ref a0), (1, .ref a1), (2, .int x), (3, .int y)]) hx hb dX4_fill_1 hl (by decide) rfl (fun ls hl => ?_)
  refine lv_iconst (v := 0) hx hb dX4_fill_3 (by decide) ?_
  refine lv_istore (lv' := [(5, .int 0), (4, .int 0), (0, .ref a0), (1, .ref a1), (2, .int x), (3, .int y)]) hx hb dX4_fill_4 hl (by decide) rfl (fun ls hl => ?_)
  refine lv_iload hx hb dX4_fill_6 (lv_at hl 0 rfl) ?_
  refine lv_aload_n hx hb dX4_fill_8 rfl (lv_at hl 3 rfl) ?_
  refine va_getN (ci := 9) (v := .int 0) (C := RX9) (T := TX9) (N := 10) hx hb hts hw9 hown hK hP 1 rfl rfl 4 (by decide) (nst_use hN 106 rfl) (fun _ h9 => h9) rfl dX4_fill_9 ?_
  refine lv_icmp_ge (tgt := 86) hx hb dX4_fill_12 (by decide) (fun c_1 => ?_) (fun c_1 => absurd (by decide) c_1)
  refine lv_iload hx hb dX4_fill_86 (lv_at hl 1 rfl) ?_
  exact W.iret (v := 0) hx hb hr (fun t ht hW => ⟨_, rfl, (by first | exact rfl), ht⟩) (fun q hq => by cases hq) dX4_fill_88
set_option maxHeartbeats 4000000 in
set_option maxRecDepth 100000 in
theorem c_ahead (l : Launch) (D : va_G) (K : Nat → ClassId) (a0 : Nat) (g0 : Value) (g1 : Value) (g2 : Value) (g3 : Value) (g4 : Value) (sz : Nat) : Met l yX4_ahead wsX4_ahead ({ frames := 0, cells := 0, slots := 0, locals := 0 }) (va_Pc [.ref a0, .int 0] (Pre D K [(a0, .inr (4, [g0, g1, g2, g3, g4]))] sz)) (vp_Si (fun r : Int32 => (r = 0))) 0 0 (fun _ => False) := by
  refine Met.ofW (cc := cX4_ahead) (maxL := 3) (ret := (some .boolean)) (by decide) rfl ?_
  intro p e s m args below meth c s₁ B hml hv
  obtain ⟨rfl, hsz, hP, hK, hD0, hN⟩ := hv
  have hx := B.exec
  have hb := B.bytes
  have hr := B.returns
  have hts := atoms_spec (ws := wsX4_ahead) B.pre
  have hown : s.vm.findClass RX4 = some m.cls := findClass_of_methodNamed B.named
  have hlocks := B.notSynchronized
  subst hsz
  have hD := hD0
  have hP : va_P D vwCl [(a0, .inr (4, [g0, g1, g2, g3, g4]))] s.heap := hP
  have hl := lv_entry [.ref a0, .int 0] (n := 3) (Nat.le_of_ble_eq_true rfl)
  rw [lg_entry_eq]
  generalize (lg_sl [.ref a0, .int 0] ++ List.replicate (3 - (lg_sl [.ref a0, .int 0]).length) Slot.unset).toArray = ls at hl ⊢
  have hl : lv_has ls 3 [(0, .ref a0), (1, .int 0)] := hl
  have hw4 : ∀ w ∈ wsX40, w ∈ wsX4_ahead := fun w h => (List.mem_cons_of_mem _ (List.mem_append_right _ h))
  refine lv_iconst (v := 0) hx hb dX4_ahead_0 (by decide) ?_
  refine lv_istore_n (lv' := [(2, .int 0), (0, .ref a0), (1, .int 0)]) hx hb dX4_ahead_1 rfl hl (by decide) rfl (fun ls hl => ?_)
  refine lv_iload_n hx hb dX4_ahead_2 rfl (lv_at hl 0 rfl) ?_
  refine lv_iload_n hx hb dX4_ahead_3 rfl (lv_at hl 2 rfl) ?_
  refine lv_icmp_ge (tgt := 49) hx hb dX4_ahead_4 (by decide) (fun c_1 => ?_) (fun c_1 => absurd (by decide) c_1)
  refine lv_iconst (v := 0) hx hb dX4_ahead_49 (by decide) ?_
  exact W.zret (v := 0) hx hb hr (by first | rfl | decide) (fun t ht hW => ⟨_, rfl, (by first | exact rfl), ht⟩) (fun q hq => by cases hq) dX4_ahead_50
set_option maxHeartbeats 4000000 in
set_option maxRecDepth 100000 in
theorem c_retune (l : Launch) (D : va_G) (K : Nat → ClassId) (a0 : Nat) (a1 : Nat) (x : Int32) (g0 : Value) (g1 : Value) (a3 : Nat) (a4 : Nat) (g4 : Value) (k0 : Value) (k1 : Value) (k2 : Value) (k3 : Value) (k5 : Value) (k6 : Value) (k7 : Value) (k8 : Value) (k9 : Value) (f : Nat → Int32) (f4 : Nat → Int32) (sz : Nat) : Met l yX4_retune wsX4_retune ({ frames := 1, cells := 0, slots := 0, locals := 40 }) (va_Pc [.ref a0, .ref a1, .int x] (Pre D K [(a0, .inr (4, [g0, g1, .ref a3, .ref a4, g4])), (a1, .inr (9, [k0, k1, k2, k3, .int 0, k5, k6, k7, k8, k9])), (a3, .inl (K 0, 8, .inl f)), (a4, .inl (K 0, 8, .inl f4))] sz)) (va_Qi (S := Unit) (fun (r : Int32) (_ : Unit) => (r = 0)) (fun u t => Wd D (va_A [(a0, .inr (4, [g0, g1, .ref a3, .ref a4, g4])), (a1, .inr (9, [k0, k1, k2, k3, .int 0, k5, k6, k7, k8, k9])), (a3, .inl (K 0, 8, .inl f)), (a4, .inl (K 0, 8, .inl f4))] sz) ((fun _ => []) u) t) (va_A [(a0, .inr (4, [g0, g1, .ref a3, .ref a4, g4])), (a1, .inr (9, [k0, k1, k2, k3, .int 0, k5, k6, k7, k8, k9])), (a3, .inl (K 0, 8, .inl f)), (a4, .inl (K 0, 8, .inl f4))] sz)) 0 0 (va_A [(a0, .inr (4, [g0, g1, .ref a3, .ref a4, g4])), (a1, .inr (9, [k0, k1, k2, k3, .int 0, k5, k6, k7, k8, k9])), (a3, .inl (K 0, 8, .inl f)), (a4, .inl (K 0, 8, .inl f4))] sz) := by
  refine Met.ofW (cc := cX4_retune) (maxL := 7) (ret := (some .int)) (by decide) rfl ?_
  intro p e s m args below meth c s₁ B hml hv
  obtain ⟨rfl, hsz, hP, hK, hD0, hN⟩ := hv
  have hx := B.exec
  have hb := B.bytes
  have hr := B.returns
  have hts := atoms_spec (ws := wsX4_retune) B.pre
  have hown : s.vm.findClass RX4 = some m.cls := findClass_of_methodNamed B.named
  have hlocks := B.notSynchronized
  subst hsz
  have hD := hD0.self (sz := s.heap.size)
  generalize hAe : va_A [(a0, .inr (4, [g0, g1, .ref a3, .ref a4, g4])), (a1, .inr (9, [k0, k1, k2, k3, .int 0, k5, k6, k7, k8, k9])), (a3, .inl (K 0, 8, .inl f)), (a4, .inl (K 0, 8, .inl f4))] s.heap.size = A at hD ⊢
  have hA : ∀ q : Nat, s.heap.size ≤ q → A q := fun q h => by rw [← hAe]; exact Or.inr h
  have hS : va_S A s.heap s.heap [] := va_S.rf
  have hP : va_P D vwCl [(a0, .inr (4, [g0, g1, .ref a3, .ref a4, g4])), (a1, .inr (9, [k0, k1, k2, k3, .int 0, k5, k6, k7, k8, k9])), (a3, .inl (K 0, 8, .inl f)), (a4, .inl (K 0, 8, .inl f4))] s.heap := hP
  have hl := lv_entry [.ref a0, .ref a1, .int x] (n := 7) (Nat.le_of_ble_eq_true rfl)
  rw [lg_entry_eq]
  generalize (lg_sl [.ref a0, .ref a1, .int x] ++ List.replicate (7 - (lg_sl [.ref a0, .ref a1, .int x]).length) Slot.unset).toArray = ls at hl ⊢
  have hl : lv_has ls 7 [(0, .ref a0), (1, .ref a1), (2, .int x)] := hl
  have hw4 : ∀ w ∈ wsX40, w ∈ wsX4_retune := fun w h => (List.mem_cons_of_mem _ (List.mem_append_right _ h))
  have hw9 : ∀ w ∈ wsX90, w ∈ wsX4_retune := fun w h => (List.mem_cons_of_mem _ (List.mem_append_left _ (List.mem_append_right _ h)))
  generalize hQ : MQ below _ _ s _ _ _ = Q
  refine lv_bipush (v := 56) hx hb dX4_retune_0 (by decide) ?_
  refine lv_istore_n (lv' := [(3, .int 56), (0, .ref a0), (1, .ref a1), (2, .int x)]) hx hb dX4_retune_2 rfl hl (by decide) rfl (fun ls hl => ?_)
  refine lv_iconst (v := 1) hx hb dX4_retune_3 (by decide) ?_
  refine lv_istore (lv' := [(4, .int 1), (3, .int 56), (0, .ref a0), (1, .ref a1), (2, .int x)]) hx hb dX4_retune_4 hl (by decide) rfl (fun ls hl => ?_)
  refine lv_iload hx hb dX4_retune_6 (lv_at hl 0 rfl) ?_
  refine lv_bipush (v := 127) hx hb dX4_retune_8 (by decide) ?_
  refine lv_icmp_gt (tgt := 93) hx hb dX4_retune_10 (by decide) (fun c_1 => absurd c_1 (by decide)) (fun c_1 => ?_)
  refine lv_iload hx hb dX4_retune_13 (lv_at hl 0 rfl) ?_
  refine lv_iconst (v := 1) hx hb dX4_retune_15 (by decide) ?_
  refine lv_ishl hx hb dX4_retune_16 ?_
  refine lv_topi (fun x_2 ex_2 => ?_)
  obtain rfl : x_2 = 2 := ex_2.trans (by first | rfl | decide)
  refine lv_iload hx hb dX4_retune_17 (lv_at hl 0 rfl) ?_
  refine lv_bipush (v := 6) hx hb dX4_retune_19 (by decide) ?_
  refine lv_ishr hx hb dX4_retune_21 ?_
  refine lv_topi (fun x_3 ex_3 => ?_)
  obtain rfl : x_3 = 0 := ex_3.trans (by first | rfl | decide)
  refine lv_ior hx hb dX4_retune_22 ?_
  refine lv_topi (fun x_4 ex_4 => ?_)
  obtain rfl : x_4 = 2 := ex_4.trans (by first | rfl | decide)
  refine lv_bipush (v := 127) hx hb dX4_retune_23 (by decide) ?_
  refine lv_iand hx hb dX4_retune_25 ?_
  refine lv_topi (fun x_5 ex_5 => ?_)
  obtain rfl : x_5 = 2 := ex_5.trans (by first | rfl | decide)
  refine lv_istore (lv' := [(5, .int 2), (4, .int 1), (3, .int 56), (0, .ref a0), (1, .ref a1), (2, .int x)]) hx hb dX4_retune_26 hl (by decide) rfl (fun ls hl => ?_)
  refine lv_iload hx hb dX4_retune_28 (lv_at hl 1 rfl) ?_
  refine lv_iload hx hb dX4_retune_30 (lv_at hl 0 rfl) ?_
  refine lv_iand hx hb dX4_retune_32 ?_
  refine lv_topi (fun x_6 ex_6 => ?_)
  obtain rfl : x_6 = 0 := ex_6.trans (by first | rfl | decide)
  refine lv_if_ne (tgt := 87) hx hb dX4_retune_33 (by decide) (fun c_7 => absurd (by decide) c_7) (fun c_7 => ?_)
  refine lv_aload_n hx hb dX4_retune_36 rfl (lv_at hl 3 rfl) ?_
  refine lv_aload_n hx hb dX4_retune_37 rfl (lv_at hl 4 rfl) ?_
  refine lv_iload_n hx hb dX4_retune_38 rfl (lv_at hl 5 rfl) ?_
  refine lv_iload hx hb dX4_retune_39 (lv_at hl 1 rfl) ?_
  refine pci (va_runV (As := [.ref a1, .int x, .int 1]) (rest := []) ⟨hx, hb, hml, hown, hts⟩ (c_fill l D K a0 a1 x 1 g0 g1 (.ref a3) (.ref a4) g4 k0 k1 k2 k3 k5 k6 k7 k8 k9 s.heap.size) (cwV 3 hts gX4_retune_X4_fill rfl rfl rfl (by decide +kernel) ⟨Nat.le_of_ble_eq_true rfl, Nat.le_of_ble_eq_true rfl⟩) (mkV hK hN (hP.sub [0, 1] rfl) (hD.sub [0, 1] (by decide) rfl) (ci := 4) (q0 := 0) rfl rfl) rfl rfl hl.1 rfl (lv_room (Nat.le_of_ble_eq_true rfl)) dX4_retune_41 ⟨Nat.le_of_ble_eq_true rfl, Nat.le_of_ble_eq_true rfl⟩) (fun r_8 hw => ?_)
  obtain rfl : r_8 = 0 := hw
  refine lv_istore (lv' := [(6, .int 0), (5, .int 2), (4, .int 1), (3, .int 56), (0, .ref a0), (1, .ref a1), (2, .int x)]) hx hb dX4_retune_44 hl (by decide) rfl (fun ls hl => ?_)
  refine lv_iload hx hb dX4_retune_46 (lv_at hl 0 rfl) ?_
  refine lv_iload_n hx hb dX4_retune_48 rfl (lv_at hl 3 rfl) ?_
  refine lv_icmp_lt (tgt := 69) hx hb dX4_retune_49 (by decide) (fun c_9 => ?_) (fun c_9 => absurd (by decide) c_9)
  refine lv_iload hx hb dX4_retune_69 (lv_at hl 0 rfl) ?_
  refine lv_istore_n (lv' := [(3, .int 0), (6, .int 0), (5, .int 2), (4, .int 1), (0, .ref a0), (1, .ref a1), (2, .int x)]) hx hb dX4_retune_71 rfl hl (by decide) rfl (fun ls hl => ?_)
  refine lv_aload_n hx hb dX4_retune_72 rfl (lv_at hl 4 rfl) ?_
  refine va_get (ci := 4) (v := .ref a4) (C := RX4) (T := TX4) (N := 5) hx hb hts hw4 hown hK hP 0 rfl rfl 3 (by decide) (hts (.fieldLink RX4 21 "SmokeTune$Paper" "row" "[I") (List.mem_cons_of_mem _ (List.mem_append_left _ (List.mem_append_left _ (List.mem_append_left _ (List.mem_of_getElem? (i := 0) rfl)))))) (fun _ h9 => h9) rfl dX4_retune_73 ?_
  refine lv_iconst (v := 0) hx hb dX4_retune_76 (by decide) ?_
  refine lv_aload_n hx hb dX4_retune_77 rfl (lv_at hl 4 rfl) ?_
  refine va_get (ci := 4) (v := .ref a3) (C := RX4) (T := TX4) (N := 5) hx hb hts hw4 hown hK hP 0 rfl rfl 2 (by decide) (hts (.fieldLink RX4 18 "SmokeTune$Paper" "best" "[I") (List.mem_cons_of_mem _ (List.mem_append_left _ (List.mem_append_left _ (List.mem_append_left _ (List.mem_of_getElem? (i := 1) rfl)))))) (fun _ h9 => h9) rfl dX4_retune_78 ?_
  refine lv_iconst (v := 0) hx hb dX4_retune_81 (by decide) ?_
  refine lv_bipush (v := 8) hx hb dX4_retune_82 (by decide) ?_
  refine va_copyi hx hb (hml.trans hl.1.symm) hown (hts (.methodLink RX4 62 arraycopyName) (List.mem_cons_of_mem _ (List.mem_append_left _ (List.mem_append_left _ (List.mem_append_left _ (List.mem_of_getElem? (i := 2) rfl)))))) (hts (.native arraycopyName) (List.mem_cons_of_mem _ (List.mem_append_left _ (List.mem_append_left _ (List.mem_append_left _ (List.mem_of_getElem? (i := 3) rfl)))))) (hts (.static arraycopyName) (List.mem_cons_of_mem _ (List.mem_append_left _ (List.mem_append_left _ (List.mem_append_left _ (List.mem_of_getElem? (i := 4) rfl)))))) (hts (.initialized "java/lang/System") (List.mem_cons_of_mem _ (List.mem_append_left _ (List.mem_append_left _ (List.mem_append_left _ (List.mem_of_getElem? (i := 5) rfl)))))) hK hP hD hS 3 2 0 0 rfl rfl rfl rfl rfl (by decide) (by decide) (by decide) (by decide) (by decide) (fun _ _ => rfl) (Nat.le_of_ble_eq_true rfl) (by decide +kernel) dX4_retune_84 (fun H locs hP hD hS => ?_)
  generalize hf_10 : (va_cpy (α := Int32) f4 f (0 : Int32).toNatClampNeg (0 : Int32).toNatClampNeg (8 : Int32).toNatClampNeg) = f_10 at hP hD
  have hP : va_P D vwCl [(a0, .inr (4, [g0, g1, .ref a3, .ref a4, g4])), (a1, .inr (9, [k0, k1, k2, k3, .int 0, k5, k6, k7, k8, k9])), (a3, .inl (K 0, 8, .inl f_10)), (a4, .inl (K 0, 8, .inl f4))] H := hP
  have hD : va_D A [(a0, .inr (4, [g0, g1, .ref a3, .ref a4, g4])), (a1, .inr (9, [k0, k1, k2, k3, .int 0, k5, k6, k7, k8, k9])), (a3, .inl (K 0, 8, .inl f_10)), (a4, .inl (K 0, 8, .inl f4))] := hD
  refine lv_iinc (v := 2) (lv' := [(4, .int 2), (3, .int 0), (6, .int 0), (5, .int 2), (0, .ref a0), (1, .ref a1), (2, .int x)]) hx hb dX4_retune_87 hl (k := 3) rfl (by decide) (by decide) rfl (fun ls hl => ?_)
  refine lv_goto (tgt := 6) hx hb dX4_retune_90 (by decide) ?_
  have lp_11 : ∀ (n : Nat) (i : Nat) (fb : Nat → Int32) (hn : 129 ≤ i + n) (hi2 : 2 ≤ i) (hi8 : i ≤ 128) (H : Heap) (locs : List Loc) (hP : va_P D vwCl [(a0, .inr (4, [g0, g1, .ref a3, .ref a4, g4])), (a1, .inr (9, [k0, k1, k2, k3, .int 0, k5, k6, k7, k8, k9])), (a3, .inl (K 0, 8, .inl fb)), (a4, .inl (K 0, 8, .inl f4))] H) (hD : va_D A [(a0, .inr (4, [g0, g1, .ref a3, .ref a4, g4])), (a1, .inr (9, [k0, k1, k2, k3, .int 0, k5, k6, k7, k8, k9])), (a3, .inl (K 0, 8, .inl fb)), (a4, .inl (K 0, 8, .inl f4))]) (hS : va_S A s.heap H locs) (ls : Array Slot) (hl : lv_has ls 7 [(4, .int (nI i)), (3, .int 0), (0, .ref a0), (1, .ref a1), (2, .int x)]), W p l e ({ frames := 1, cells := 0, slots := 0, locals := 40 }) s m (([.ref a0, .ref a1, .int x] : List Value).toArray) below meth c H locs 0 0 Q (F0 m 6 ls []) := by
    intro n
    induction n with
    | zero =>
      intro i fb hn hi2 hi8 H locs hP hD hS ls hl
      exfalso; omega
    | succ n ih =>
      intro i fb hn hi2 hi8 H locs hP hD hS ls hl
      refine lv_iload hx hb dX4_retune_6 (lv_at hl 0 rfl) ?_
      refine lv_bipush (v := 127) hx hb dX4_retune_8 (by decide) ?_
      refine lv_icmp_gt (tgt := 93) hx hb dX4_retune_10 (by decide) (fun c_12 => ?_) (fun c_12 => ?_)
      · have c_12i := i_lt (x := 127) (y := ((i : Nat) : Int)) rfl (nI_toInt (by omega)) c_12
        refine lv_iload_n hx hb dX4_retune_93 rfl (lv_at hl 1 rfl) ?_
        subst hQ
        exact W.iret (v := 0) hx hb hr (fun t ht hW => ⟨⟨0, (), rfl, (by first | exact rfl), Wd.nil⟩, hS.F ht⟩) hS.2.2 dX4_retune_94
      · have c_12i := i_nlt (x := 127) (y := ((i : Nat) : Int)) rfl (nI_toInt (by omega)) c_12
        refine lv_iload hx hb dX4_retune_13 (lv_at hl 0 rfl) ?_
        refine lv_iconst (v := 1) hx hb dX4_retune_15 (by decide) ?_
        refine lv_ishl hx hb dX4_retune_16 ?_
        refine lv_topi (fun x_13 ex_13 => ?_)
        refine lv_iload hx hb dX4_retune_17 (lv_at hl 0 rfl) ?_
        refine lv_bipush (v := 6) hx hb dX4_retune_19 (by decide) ?_
        refine lv_ishr hx hb dX4_retune_21 ?_
        refine lv_topi (fun x_14 ex_14 => ?_)
        refine lv_ior hx hb dX4_retune_22 ?_
        refine lv_topi (fun x_15 ex_15 => ?_)
        refine lv_bipush (v := 127) hx hb dX4_retune_23 (by decide) ?_
        refine lv_iand hx hb dX4_retune_25 ?_
        refine lv_topi (fun x_16 ex_16 => ?_)
        refine lv_istore (lv' := [(5, .int x_16), (4, .int (nI i)), (3, .int 0), (0, .ref a0), (1, .ref a1), (2, .int x)]) hx hb dX4_retune_26 hl (by decide) rfl (fun ls hl => ?_)
        refine lv_iload hx hb dX4_retune_28 (lv_at hl 1 rfl) ?_
        refine lv_iload hx hb dX4_retune_30 (lv_at hl 0 rfl) ?_
        refine lv_iand hx hb dX4_retune_32 ?_
        refine lv_topi (fun x_17 ex_17 => ?_)
        refine lv_if_ne (tgt := 87) hx hb dX4_retune_33 (by decide) (fun c_18 => ?_) (fun c_18 => ?_)
        · have c_18i := i_ne (x := x_17.toInt) (y := 0) rfl rfl c_18
          refine lv_iinc (v := nI (i + 1)) (lv' := [(4, .int (nI (i + 1))), (5, .int x_16), (3, .int 0), (0, .ref a0), (1, .ref a1), (2, .int x)]) hx hb dX4_retune_87 hl (k := 1) rfl (nI_1 i) (by decide) rfl (fun ls hl => ?_)
          refine lv_goto (tgt := 6) hx hb dX4_retune_90 (by decide) ?_
          exact ih (i + 1) fb (by omega) (by omega) (by omega) _ _ hP hD hS ls (lv_sub hl [0, 2, 3, 4, 5] rfl)
        · have c_18i := i_eq (x := x_17.toInt) (y := 0) rfl rfl c_18
          refine lv_aload_n hx hb dX4_retune_36 rfl (lv_at hl 3 rfl) ?_
          refine lv_aload_n hx hb dX4_retune_37 rfl (lv_at hl 4 rfl) ?_
          refine lv_iload_n hx hb dX4_retune_38 rfl (lv_at hl 5 rfl) ?_
          refine lv_iload hx hb dX4_retune_39 (lv_at hl 1 rfl) ?_
          refine pci (va_runV (As := [.ref a1, .int x, .int (nI i)]) (rest := []) ⟨hx, hb, hml, hown, hts⟩ (c_fill l D K a0 a1 x (nI i) g0 g1 (.ref a3) (.ref a4) g4 k0 k1 k2 k3 k5 k6 k7 k8 k9 H.size) (cwV 3 hts gX4_retune_X4_fill rfl rfl rfl (by decide +kernel) ⟨Nat.le_of_ble_eq_true rfl, Nat.le_of_ble_eq_true rfl⟩) (mkV hK hN (hP.sub [0, 1] rfl) (hD.sub [0, 1] (by decide) rfl) (ci := 4) (q0 := 0) rfl rfl) rfl rfl hl.1 rfl (lv_room (Nat.le_of_ble_eq_true rfl)) dX4_retune_41 ⟨Nat.le_of_ble_eq_true rfl, Nat.le_of_ble_eq_true rfl⟩) (fun r_19 hw => ?_)
          obtain rfl : r_19 = 0 := hw
          refine lv_istore (lv' := [(6, .int 0), (5, .int x_16), (4, .int (nI i)), (3, .int 0), (0, .ref a0), (1, .ref a1), (2, .int x)]) hx hb dX4_retune_44 hl (by decide) rfl (fun ls hl => ?_)
          refine lv_iload hx hb dX4_retune_46 (lv_at hl 0 rfl) ?_
          refine lv_iload_n hx hb dX4_retune_48 rfl (lv_at hl 3 rfl) ?_
          refine lv_icmp_lt (tgt := 69) hx hb dX4_retune_49 (by decide) (fun c_20 => absurd c_20 (by decide)) (fun c_20 => ?_)
          refine lv_iload hx hb dX4_retune_52 (lv_at hl 0 rfl) ?_
          refine lv_iload_n hx hb dX4_retune_54 rfl (lv_at hl 3 rfl) ?_
          refine lv_icmp_ne (tgt := 87) hx hb dX4_retune_55 (by decide) (fun c_21 => absurd (by decide) c_21) (fun c_21 => ?_)
          refine lv_aload_n hx hb dX4_retune_58 rfl (lv_at hl 4 rfl) ?_
          refine lv_aload_n hx hb dX4_retune_59 rfl (lv_at hl 5 rfl) ?_
          refine va_getN (ci := 9) (v := .int 0) (C := RX9) (T := TX9) (N := 10) hx hb hts hw9 hown hK hP 1 rfl rfl 4 (by decide) (nst_use hN 106 rfl) (fun _ h9 => h9) rfl dX4_retune_60 ?_
          refine pci (va_runV (As := [.int 0]) (rest := []) ⟨hx, hb, hml, hown, hts⟩ (c_ahead l D K a0 g0 g1 (.ref a3) (.ref a4) g4 H.size) (cwV 1 hts gX4_retune_X4_ahead rfl rfl rfl (by decide +kernel) ⟨Nat.le_of_ble_eq_true rfl, Nat.le_of_ble_eq_true rfl⟩) (mkV hK hN (hP.sub [0] rfl) (hD.sub [0] (by decide) rfl) (ci := 4) (q0 := 0) rfl rfl) rfl rfl hl.1 rfl (lv_room (Nat.le_of_ble_eq_true rfl)) dX4_retune_63 ⟨Nat.le_of_ble_eq_true rfl, Nat.le_of_ble_eq_true rfl⟩) (fun r_22 hw => ?_)
          obtain rfl : r_22 = 0 := hw
          refine lv_if_eq (tgt := 87) hx hb dX4_retune_66 (by decide) (fun c_23 => ?_) (fun c_23 => absurd (by decide) c_23)
          refine lv_iinc (v := nI (i + 1)) (lv' := [(4, .int (nI (i + 1))), (6, .int 0), (5, .int x_16), (3, .int 0), (0, .ref a0), (1, .ref a1), (2, .int x)]) hx hb dX4_retune_87 hl (k := 2) rfl (nI_1 i) (by decide) rfl (fun ls hl => ?_)
          refine lv_goto (tgt := 6) hx hb dX4_retune_90 (by decide) ?_
          exact ih (i + 1) fb (by omega) (by omega) (by omega) _ _ hP hD hS ls (lv_sub hl [0, 3, 4, 5, 6] rfl)
  exact lp_11 127 2 f_10 (by omega) (by omega) (by omega) _ _ hP hD hS ls (lv_sub hl [0, 1, 4, 5, 6] rfl)
set_option maxHeartbeats 4000000 in
set_option maxRecDepth 100000 in
theorem t_tune (l : Launch) (D : va_G) (K : Nat → ClassId) (a0 : Nat) (x : Int32) (y : Int32) (a1 : Nat) (g1 : Value) (g2 : Value) (g3 : Value) (g4 : Value) (g5 : Value) (g6 : Value) (g7 : Value) (g8 : Value) (g9 : Value) (g10 : Value) (a2 : Nat) (g12 : Value) (g13 : Value) (g14 : Value) (g15 : Value) (g16 : Value) (k0 : Value) (k1 : Value) (k2 : Value) (k3 : Value) (k5 : Value) (k6 : Value) (k7 : Value) (k8 : Value) (k9 : Value) (p0 : Value) (p1 : Value) (a3 : Nat) (a4 : Nat) (p4 : Value) (sz : Nat) : Met l yX11_tune wsX11_tune ({ frames := 2, cells := 0, slots := 0, locals := 66 }) (va_Pc [.ref a0, .int x, .int y] (Pre D K [(a0, .inr (11, [.ref a1, g1, g2, g3, g4, g5, g6, g7, g8, g9, g10, .ref a2, g12, g13, g14, g15, g16])), (a1, .inr (9, [k0, k1, k2, k3, .int 0, k5, k6, k7, k8, k9])), (a2, .inr (4, [p0, p1, .ref a3, .ref a4, p4])), (a3, .inl (K 0, 8, .inl (fun _ => 0))), (a4, .inl (K 0, 8, .inl (fun _ => 0)))] sz)) (va_Qi (S := Unit) (fun (r : Int32) (_ : Unit) => (r = 0 ∧ 0 ≤ x.toInt ∧ x.toInt ≤ 3 ∧ y.toInt = 0) ∨ (r = (-1) ∧ (x.toInt < 0 ∨ 3 < x.toInt ∨ y.toInt ≠ 0))) (fun u t => Wd D (va_A [(a0, .inr (11, [.ref a1, g1, g2, g3, g4, g5, g6, g7, g8, g9, g10, .ref a2, g12, g13, g14, g15, g16])), (a1, .inr (9, [k0, k1, k2, k3, .int 0, k5, k6, k7, k8, k9])), (a2, .inr (4, [p0, p1, .ref a3, .ref a4, p4])), (a3, .inl (K 0, 8, .inl (fun _ => 0))), (a4, .inl (K 0, 8, .inl (fun _ => 0)))] sz) ((fun _ => []) u) t) (va_A [(a0, .inr (11, [.ref a1, g1, g2, g3, g4, g5, g6, g7, g8, g9, g10, .ref a2, g12, g13, g14, g15, g16])), (a1, .inr (9, [k0, k1, k2, k3, .int 0, k5, k6, k7, k8, k9])), (a2, .inr (4, [p0, p1, .ref a3, .ref a4, p4])), (a3, .inl (K 0, 8, .inl (fun _ => 0))), (a4, .inl (K 0, 8, .inl (fun _ => 0)))] sz)) 0 0 (va_A [(a0, .inr (11, [.ref a1, g1, g2, g3, g4, g5, g6, g7, g8, g9, g10, .ref a2, g12, g13, g14, g15, g16])), (a1, .inr (9, [k0, k1, k2, k3, .int 0, k5, k6, k7, k8, k9])), (a2, .inr (4, [p0, p1, .ref a3, .ref a4, p4])), (a3, .inl (K 0, 8, .inl (fun _ => 0))), (a4, .inl (K 0, 8, .inl (fun _ => 0)))] sz) := by
  refine Met.ofW (cc := cX11_tune) (maxL := 4) (ret := (some .int)) (by decide) rfl ?_
  intro p e s m args below meth c s₁ B hml hv
  obtain ⟨rfl, hsz, hP, hK, hD0, hN⟩ := hv
  have hx := B.exec
  have hb := B.bytes
  have hr := B.returns
  have hts := atoms_spec (ws := wsX11_tune) B.pre
  have hown : s.vm.findClass RX11 = some m.cls := findClass_of_methodNamed B.named
  have hlocks := B.notSynchronized
  subst hsz
  have hD := hD0.self (sz := s.heap.size)
  generalize hAe : va_A [(a0, .inr (11, [.ref a1, g1, g2, g3, g4, g5, g6, g7, g8, g9, g10, .ref a2, g12, g13, g14, g15, g16])), (a1, .inr (9, [k0, k1, k2, k3, .int 0, k5, k6, k7, k8, k9])), (a2, .inr (4, [p0, p1, .ref a3, .ref a4, p4])), (a3, .inl (K 0, 8, .inl (fun _ => 0))), (a4, .inl (K 0, 8, .inl (fun _ => 0)))] s.heap.size = A at hD ⊢
  have hA : ∀ q : Nat, s.heap.size ≤ q → A q := fun q h => by rw [← hAe]; exact Or.inr h
  have hS : va_S A s.heap s.heap [] := va_S.rf
  have hP : va_P D vwCl [(a0, .inr (11, [.ref a1, g1, g2, g3, g4, g5, g6, g7, g8, g9, g10, .ref a2, g12, g13, g14, g15, g16])), (a1, .inr (9, [k0, k1, k2, k3, .int 0, k5, k6, k7, k8, k9])), (a2, .inr (4, [p0, p1, .ref a3, .ref a4, p4])), (a3, .inl (K 0, 8, .inl (fun _ => 0))), (a4, .inl (K 0, 8, .inl (fun _ => 0)))] s.heap := hP
  have hl := lv_entry [.ref a0, .int x, .int y] (n := 4) (Nat.le_of_ble_eq_true rfl)
  rw [lg_entry_eq]
  generalize (lg_sl [.ref a0, .int x, .int y] ++ List.replicate (4 - (lg_sl [.ref a0, .int x, .int y]).length) Slot.unset).toArray = ls at hl ⊢
  have hl : lv_has ls 4 [(0, .ref a0), (1, .int x), (2, .int y)] := hl
  have hw4 : ∀ w ∈ wsX40, w ∈ wsX11_tune := fun w h => (List.mem_cons_of_mem _ (List.mem_append_right _ h))
  have hw9 : ∀ w ∈ wsX90, w ∈ wsX11_tune := fun w h => (List.mem_cons_of_mem _ (List.mem_append_left _ (List.mem_append_right _ h)))
  have hw11 : ∀ w ∈ wsX110, w ∈ wsX11_tune := fun w h => (List.mem_cons_of_mem _ (List.mem_append_left _ (List.mem_append_left _ (List.mem_append_right _ h))))
  refine lv_iload_n hx hb dX11_tune_0 rfl (lv_at hl 1 rfl) ?_
  refine lv_iconst (v := 0) hx hb dX11_tune_1 (by decide) ?_
  refine lv_iconst (v := 3) hx hb dX11_tune_2 (by decide) ?_
  refine pci (va_runS (As := [.int x, .int 0, .int 3]) (rest := []) ⟨hx, hb, hml, hown, hts⟩ (c_within l D K x 0 3 x.toInt 0 3 s.heap.size rfl rfl rfl) (va_cwS 3 hts gX11_tune_X11_within rfl rfl rfl (by decide +kernel) ⟨Nat.le_of_ble_eq_true rfl, Nat.le_of_ble_eq_true rfl⟩) (mkS hK hN (hP.sub [] rfl) (hD.sub [] (by decide) rfl)) rfl rfl hl.1 rfl (lv_room (Nat.le_of_ble_eq_true rfl)) dX11_tune_3 ⟨Nat.le_of_ble_eq_true rfl, Nat.le_of_ble_eq_true rfl⟩) (fun r_1 hw => ?_)
  rcases hw with ⟨rfl, h_2, h_3⟩ | ⟨rfl, h_4⟩
  · refine lv_if_ne (tgt := 11) hx hb dX11_tune_6 (by decide) (fun c_5 => ?_) (fun c_5 => absurd c_5 (by decide))
    refine lv_iload_n hx hb dX11_tune_11 rfl (lv_at hl 2 rfl) ?_
    refine lv_if_ne (tgt := 28) hx hb dX11_tune_12 (by decide) (fun c_6 => ?_) (fun c_6 => ?_)
    · have c_6i := i_ne (x := y.toInt) (y := 0) rfl rfl c_6
      refine lv_iload_n hx hb dX11_tune_28 rfl (lv_at hl 2 rfl) ?_
      refine lv_iconst (v := 1) hx hb dX11_tune_29 (by decide) ?_
      refine lv_bipush (v := 8) hx hb dX11_tune_30 (by decide) ?_
      refine pci (va_runS (As := [.int y, .int 1, .int 8]) (rest := []) ⟨hx, hb, hml, hown, hts⟩ (c_within l D K y 1 8 y.toInt 1 8 s.heap.size rfl rfl rfl) (va_cwS 3 hts gX11_tune_X11_within rfl rfl rfl (by decide +kernel) ⟨Nat.le_of_ble_eq_true rfl, Nat.le_of_ble_eq_true rfl⟩) (mkS hK hN (hP.sub [] rfl) (hD.sub [] (by decide) rfl)) rfl rfl hl.1 rfl (lv_room (Nat.le_of_ble_eq_true rfl)) dX11_tune_32 ⟨Nat.le_of_ble_eq_true rfl, Nat.le_of_ble_eq_true rfl⟩) (fun r_7 hw => ?_)
      rcases hw with ⟨rfl, h_8, h_9⟩ | ⟨rfl, h_10⟩
      · refine lv_if_eq (tgt := 44) hx hb dX11_tune_35 (by decide) (fun c_11 => absurd c_11 (by decide)) (fun c_11 => ?_)
        refine lv_iload_n hx hb dX11_tune_38 rfl (lv_at hl 2 rfl) ?_
        refine lv_iconst (v := 1) hx hb dX11_tune_39 (by decide) ?_
        refine lv_isub hx hb dX11_tune_40 ?_
        refine lv_topi (fun x_12 ex_12 => ?_)
        have hx_12 : x_12.toInt = (y.toInt - 1) := by rw [ex_12]; exact i_sub rfl rfl (by omega)
        refine lv_goto (tgt := 45) hx hb dX11_tune_41 (by decide) ?_
        refine lv_istore_n (lv' := [(3, .int x_12), (0, .ref a0), (1, .int x), (2, .int y)]) hx hb dX11_tune_45 rfl hl (by decide) rfl (fun ls hl => ?_)
        refine lv_aload_n hx hb dX11_tune_46 rfl (lv_at hl 1 rfl) ?_
        refine va_get (ci := 11) (v := .ref a1) (C := RX11) (T := TX11) (N := 17) hx hb hts hw11 hown hK hP 0 rfl rfl 0 (by decide) (hts (.fieldLink RX11 10 "SmokeTune" "town" "LSmokeTune$Town;") (List.mem_cons_of_mem _ (List.mem_append_left _ (List.mem_append_left _ (List.mem_append_left _ (List.mem_append_left _ (List.mem_of_getElem? (i := 1) rfl))))))) (fun _ h9 => h9) rfl dX11_tune_47 ?_
        refine lv_iload_n hx hb dX11_tune_50 rfl (lv_at hl 0 rfl) ?_
        refine pci (va_runVN (As := [.int x_12]) (rest := []) ⟨hx, hb, hml, hown, hts⟩ (c_has l D K a1 x_12 k0 k1 k2 k3 k5 k6 k7 k8 k9 s.heap.size) ⟨va_cnB 1 hts gX11_tune_X9_has_n121 rfl rfl rfl (nst_at hN 19 rfl) (hts (.initialized RX9) (List.mem_cons_of_mem _ (List.mem_append_left _ (List.mem_append_left _ (List.mem_append_left _ (List.mem_append_left _ (List.mem_of_getElem? (i := 21) rfl))))))) (by decide +kernel) ⟨Nat.le_of_ble_eq_true rfl, Nat.le_of_ble_eq_true rfl⟩, (hts (.instanceMethod yX9_has) (List.mem_cons_of_mem _ (List.mem_append_left _ (List.mem_append_left _ (List.mem_append_left _ (List.mem_append_right _ (List.mem_append_left _ (List.mem_of_getElem? (i := 18) rfl)))))))), (hts (.selects RX9 yX9_has yX9_has) (List.mem_cons_of_mem _ (List.mem_append_left _ (List.mem_append_left _ (List.mem_append_left _ (List.mem_append_right _ (List.mem_append_left _ (List.mem_of_getElem? (i := 19) rfl))))))))⟩ (mkV hK hN (hP.sub [1] rfl) (hD.sub [1] (by decide) rfl) (ci := 9) (q0 := 0) rfl rfl) rfl rfl hl.1 rfl (lv_room (Nat.le_of_ble_eq_true rfl)) dX11_tune_51 ⟨Nat.le_of_ble_eq_true rfl, Nat.le_of_ble_eq_true rfl⟩) (fun r_13 hw => ?_)
        obtain rfl : r_13 = 0 := hw
        refine lv_if_eq (tgt := 70) hx hb dX11_tune_54 (by decide) (fun c_14 => ?_) (fun c_14 => absurd (by decide) c_14)
        refine lv_iconst (v := (-1)) hx hb dX11_tune_70 (by decide) ?_
        exact W.iret (v := (-1)) hx hb hr (fun t ht hW => ⟨⟨(-1), (), rfl, (by first | exact Or.inr (⟨rfl, by first | omega | decide | (subst_vars; assumption) | (subst_vars; symm; assumption)⟩)), Wd.nil⟩, hS.F ht⟩) hS.2.2 dX11_tune_71
      · refine lv_if_eq (tgt := 44) hx hb dX11_tune_35 (by decide) (fun c_15 => ?_) (fun c_15 => absurd (by decide) c_15)
        refine lv_iconst (v := (-1)) hx hb dX11_tune_44 (by decide) ?_
        refine lv_istore_n (lv' := [(3, .int (-1)), (0, .ref a0), (1, .int x), (2, .int y)]) hx hb dX11_tune_45 rfl hl (by decide) rfl (fun ls hl => ?_)
        refine lv_aload_n hx hb dX11_tune_46 rfl (lv_at hl 1 rfl) ?_
        refine va_get (ci := 11) (v := .ref a1) (C := RX11) (T := TX11) (N := 17) hx hb hts hw11 hown hK hP 0 rfl rfl 0 (by decide) (hts (.fieldLink RX11 10 "SmokeTune" "town" "LSmokeTune$Town;") (List.mem_cons_of_mem _ (List.mem_append_left _ (List.mem_append_left _ (List.mem_append_left _ (List.mem_append_left _ (List.mem_of_getElem? (i := 1) rfl))))))) (fun _ h9 => h9) rfl dX11_tune_47 ?_
        refine lv_iload_n hx hb dX11_tune_50 rfl (lv_at hl 0 rfl) ?_
        refine pci (va_runVN (As := [.int (-1)]) (rest := []) ⟨hx, hb, hml, hown, hts⟩ (c_has l D K a1 (-1) k0 k1 k2 k3 k5 k6 k7 k8 k9 s.heap.size) ⟨va_cnB 1 hts gX11_tune_X9_has_n121 rfl rfl rfl (nst_at hN 19 rfl) (hts (.initialized RX9) (List.mem_cons_of_mem _ (List.mem_append_left _ (List.mem_append_left _ (List.mem_append_left _ (List.mem_append_left _ (List.mem_of_getElem? (i := 21) rfl))))))) (by decide +kernel) ⟨Nat.le_of_ble_eq_true rfl, Nat.le_of_ble_eq_true rfl⟩, (hts (.instanceMethod yX9_has) (List.mem_cons_of_mem _ (List.mem_append_left _ (List.mem_append_left _ (List.mem_append_left _ (List.mem_append_right _ (List.mem_append_left _ (List.mem_of_getElem? (i := 18) rfl)))))))), (hts (.selects RX9 yX9_has yX9_has) (List.mem_cons_of_mem _ (List.mem_append_left _ (List.mem_append_left _ (List.mem_append_left _ (List.mem_append_right _ (List.mem_append_left _ (List.mem_of_getElem? (i := 19) rfl))))))))⟩ (mkV hK hN (hP.sub [1] rfl) (hD.sub [1] (by decide) rfl) (ci := 9) (q0 := 0) rfl rfl) rfl rfl hl.1 rfl (lv_room (Nat.le_of_ble_eq_true rfl)) dX11_tune_51 ⟨Nat.le_of_ble_eq_true rfl, Nat.le_of_ble_eq_true rfl⟩) (fun r_16 hw => ?_)
        obtain rfl : r_16 = 0 := hw
        refine lv_if_eq (tgt := 70) hx hb dX11_tune_54 (by decide) (fun c_17 => ?_) (fun c_17 => absurd (by decide) c_17)
        refine lv_iconst (v := (-1)) hx hb dX11_tune_70 (by decide) ?_
        exact W.iret (v := (-1)) hx hb hr (fun t ht hW => ⟨⟨(-1), (), rfl, (by first | exact Or.inr (⟨rfl, by first | omega | decide | (subst_vars; assumption) | (subst_vars; symm; assumption)⟩)), Wd.nil⟩, hS.F ht⟩) hS.2.2 dX11_tune_71
    · have c_6i := i_eq (x := y.toInt) (y := 0) rfl rfl c_6
      refine lv_aload_n hx hb dX11_tune_15 rfl (lv_at hl 0 rfl) ?_
      refine va_get (ci := 11) (v := .ref a2) (C := RX11) (T := TX11) (N := 17) hx hb hts hw11 hown hK hP 0 rfl rfl 11 (by decide) (hts (.fieldLink RX11 75 "SmokeTune" "paper" "LSmokeTune$Paper;") (List.mem_cons_of_mem _ (List.mem_append_left _ (List.mem_append_left _ (List.mem_append_left _ (List.mem_append_left _ (List.mem_of_getElem? (i := 0) rfl))))))) (fun _ h9 => h9) rfl dX11_tune_16 ?_
      refine lv_aload_n hx hb dX11_tune_19 rfl (lv_at hl 0 rfl) ?_
      refine va_get (ci := 11) (v := .ref a1) (C := RX11) (T := TX11) (N := 17) hx hb hts hw11 hown hK hP 0 rfl rfl 0 (by decide) (hts (.fieldLink RX11 10 "SmokeTune" "town" "LSmokeTune$Town;") (List.mem_cons_of_mem _ (List.mem_append_left _ (List.mem_append_left _ (List.mem_append_left _ (List.mem_append_left _ (List.mem_of_getElem? (i := 1) rfl))))))) (fun _ h9 => h9) rfl dX11_tune_20 ?_
      refine lv_iload_n hx hb dX11_tune_23 rfl (lv_at hl 1 rfl) ?_
      refine kci (wr := [(a0, .inr (11, [.ref a1, g1, g2, g3, g4, g5, g6, g7, g8, g9, g10, .ref a2, g12, g13, g14, g15, g16]))]) (va_runVN (As := [.ref a1, .int x]) (rest := []) ⟨hx, hb, hml, hown, hts⟩ (c_retune l D K a2 a1 x p0 p1 a3 a4 p4 k0 k1 k2 k3 k5 k6 k7 k8 k9 (fun _ => 0) (fun _ => 0) s.heap.size) ⟨va_cnB 2 hts gX11_tune_X4_retune_n252 rfl rfl rfl (nst_at hN 86 rfl) (hts (.initialized RX4) (List.mem_cons_of_mem _ (List.mem_append_left _ (List.mem_append_left _ (List.mem_append_left _ (List.mem_append_left _ (List.mem_of_getElem? (i := 7) rfl))))))) (by decide +kernel) ⟨Nat.le_of_ble_eq_true rfl, Nat.le_of_ble_eq_true rfl⟩, (hts (.instanceMethod yX4_retune) (List.mem_cons_of_mem _ (List.mem_append_left _ (List.mem_append_left _ (List.mem_append_left _ (List.mem_append_left _ (List.mem_of_getElem? (i := 6) rfl))))))), (hts (.selects RX4 yX4_retune yX4_retune) (List.mem_cons_of_mem _ (List.mem_append_left _ (List.mem_append_left _ (List.mem_append_left _ (List.mem_append_left _ (List.mem_of_getElem? (i := 8) rfl)))))))⟩ (mkV hK hN (hP.sub [2, 1, 3, 4] rfl) (hD.sub [2, 1, 3, 4] (by decide) rfl) (ci := 4) (q0 := 0) rfl rfl) rfl rfl hl.1 rfl (lv_room (Nat.le_of_ble_eq_true rfl)) dX11_tune_24 ⟨Nat.le_of_ble_eq_true rfl, Nat.le_of_ble_eq_true rfl⟩) hP hD hS hA [2, 1, 3, 4] [0] rfl rfl (by decide) (by decide) (fun r_18 u_19 H locs hw hP hD hS => ?_)
      have hP : va_P D vwCl [(a0, .inr (11, [.ref a1, g1, g2, g3, g4, g5, g6, g7, g8, g9, g10, .ref a2, g12, g13, g14, g15, g16]))] H := hP
      have hD : va_D A [(a0, .inr (11, [.ref a1, g1, g2, g3, g4, g5, g6, g7, g8, g9, g10, .ref a2, g12, g13, g14, g15, g16]))] := hD
      obtain rfl : r_18 = 0 := hw
      exact W.iret (v := 0) hx hb hr (fun t ht hW => ⟨⟨0, (), rfl, (by first | exact Or.inl (⟨rfl, by first | omega | decide | (subst_vars; assumption) | (subst_vars; symm; assumption), by first | omega | decide | (subst_vars; assumption) | (subst_vars; symm; assumption), by first | omega | decide | (subst_vars; assumption) | (subst_vars; symm; assumption)⟩)), Wd.nil⟩, hS.F ht⟩) hS.2.2 dX11_tune_27
  · refine lv_if_ne (tgt := 11) hx hb dX11_tune_6 (by decide) (fun c_20 => absurd (by decide) c_20) (fun c_20 => ?_)
    refine lv_iconst (v := (-1)) hx hb dX11_tune_9 (by decide) ?_
    exact W.iret (v := (-1)) hx hb hr (fun t ht hW => ⟨⟨(-1), (), rfl, (by first | exact Or.inr (⟨rfl, by first | omega | decide | (subst_vars; assumption) | (subst_vars; symm; assumption)⟩)), Wd.nil⟩, hS.F ht⟩) hS.2.2 dX11_tune_10
set_option maxHeartbeats 4000000 in
set_option maxRecDepth 100000 in
theorem c_muted (l : Launch) (D : va_G) (K : Nat → ClassId) (a1 : Nat) (x : Int32) (w : Int64) (k0 : Value) (k1 : Value) (k2 : Value) (k3 : Value) (k5 : Value) (k6 : Value) (k7 : Value) (k8 : Value) (k9 : Value) (sz : Nat) : Met l yX4_muted wsX4_muted ({ frames := 0, cells := 0, slots := 0, locals := 0 }) (va_Pc [.ref a1, .int x, .long w] (Pre D K [(a1, .inr (9, [k0, k1, k2, k3, .int 0, k5, k6, k7, k8, k9]))] sz)) (vp_Sl (fun r : Int64 => (r = w))) 0 0 (fun _ => False) := by
  refine Met.ofW (cc := cX4_muted) (maxL := 7) (ret := (some .long)) (by decide) rfl ?_
  intro p e s m args below meth c s₁ B hml hv
  obtain ⟨rfl, hsz, hP, hK, hD0, hN⟩ := hv
  have hx := B.exec
  have hb := B.bytes
  have hr := B.returns
  have hts := atoms_spec (ws := wsX4_muted) B.pre
  have hown : s.vm.findClass RX4 = some m.cls := findClass_of_methodNamed B.named
  have hlocks := B.notSynchronized
  subst hsz
  have hD := hD0
  have hP : va_P D vwCl [(a1, .inr (9, [k0, k1, k2, k3, .int 0, k5, k6, k7, k8, k9]))] s.heap := hP
  have hl := lv_entry [.ref a1, .int x, .long w] (n := 7) (Nat.le_of_ble_eq_true rfl)
  rw [lg_entry_eq]
  generalize (lg_sl [.ref a1, .int x, .long w] ++ List.replicate (7 - (lg_sl [.ref a1, .int x, .long w]).length) Slot.unset).toArray = ls at hl ⊢
  have hl : lv_has ls 7 [(0, .ref a1), (1, .int x), (2, .long w)] := hl
  have hw9 : ∀ w ∈ wsX90, w ∈ wsX4_muted := fun w h => (List.mem_cons_of_mem _ (List.mem_append_right _ h))
  refine lv_lload_n hx hb dX4_muted_0 rfl (lv_at hl 2 rfl) ?_
  refine lv_lstore (lv' := [(4, .long w), (0, .ref a1), (1, .int x), (2, .long w)]) hx hb dX4_muted_1 hl (by decide) rfl (fun ls hl => ?_)
  refine lv_iconst (v := 0) hx hb dX4_muted_3 (by decide) ?_
  refine lv_istore (lv' := [(6, .int 0), (4, .long w), (0, .ref a1), (1, .int x), (2, .long w)]) hx hb dX4_muted_4 hl (by decide) rfl (fun ls hl => ?_)
  refine lv_iload hx hb dX4_muted_6 (lv_at hl 0 rfl) ?_
  refine lv_aload_n hx hb dX4_muted_8 rfl (lv_at hl 2 rfl) ?_
  refine va_getN (ci := 9) (v := .int 0) (C := RX9) (T := TX9) (N := 10) hx hb hts hw9 hown hK hP 0 rfl rfl 4 (by decide) (nst_use hN 106 rfl) (fun _ h9 => h9) rfl dX4_muted_9 ?_
  refine lv_icmp_ge (tgt := 57) hx hb dX4_muted_12 (by decide) (fun c_1 => ?_) (fun c_1 => absurd (by decide) c_1)
  refine lv_lload hx hb dX4_muted_57 (lv_at hl 1 rfl) ?_
  exact W.lret (v := w) hx hb hr (fun t ht hW => ⟨_, rfl, (by first | exact rfl), ht⟩) (fun q hq => by cases hq) dX4_muted_59
set_option maxHeartbeats 4000000 in
set_option maxRecDepth 100000 in
theorem c_odds (l : Launch) (D : va_G) (K : Nat → ClassId) (a0 : Nat) (a1 : Nat) (x : Int32) (g0 : Value) (g1 : Value) (g2 : Value) (g3 : Value) (g4 : Value) (k0 : Value) (k1 : Value) (k2 : Value) (k3 : Value) (k5 : Value) (k6 : Value) (k7 : Value) (k8 : Value) (k9 : Value) (sz : Nat) : Met l yX4_odds wsX4_odds ({ frames := 1, cells := 0, slots := 0, locals := 26 }) (va_Pc [.ref a0, .ref a1, .int x] (Pre D K [(a0, .inr (4, [g0, g1, g2, g3, g4])), (a1, .inr (9, [k0, k1, k2, k3, .int 0, k5, k6, k7, k8, k9]))] sz)) (vp_Sl (fun r : Int64 => (r = (chS x 7)))) 0 0 (fun _ => False) := by
  refine Met.ofW (cc := cX4_odds) (maxL := 6) (ret := (some .long)) (by decide) rfl ?_
  intro p e s m args below meth c s₁ B hml hv
  obtain ⟨rfl, hsz, hP, hK, hD0, hN⟩ := hv
  have hx := B.exec
  have hb := B.bytes
  have hr := B.returns
  have hts := atoms_spec (ws := wsX4_odds) B.pre
  have hown : s.vm.findClass RX4 = some m.cls := findClass_of_methodNamed B.named
  have hlocks := B.notSynchronized
  subst hsz
  have hD := hD0
  have hP : va_P D vwCl [(a0, .inr (4, [g0, g1, g2, g3, g4])), (a1, .inr (9, [k0, k1, k2, k3, .int 0, k5, k6, k7, k8, k9]))] s.heap := hP
  have hl := lv_entry [.ref a0, .ref a1, .int x] (n := 6) (Nat.le_of_ble_eq_true rfl)
  rw [lg_entry_eq]
  generalize (lg_sl [.ref a0, .ref a1, .int x] ++ List.replicate (6 - (lg_sl [.ref a0, .ref a1, .int x]).length) Slot.unset).toArray = ls at hl ⊢
  have hl : lv_has ls 6 [(0, .ref a0), (1, .ref a1), (2, .int x)] := hl
  have hw9 : ∀ w ∈ wsX90, w ∈ wsX4_odds := fun w h => (List.mem_cons_of_mem _ (List.mem_append_right _ h))
  generalize hQ : MQ below _ _ s _ _ _ = Q
  refine lv_ldc2 (v := 1000000000000) hx hb hown (hts (.constantLong RX4 93 (1000000000000)) (List.mem_cons_of_mem _ (List.mem_append_left _ (List.mem_of_getElem? (i := 0) rfl)))) dX4_odds_0 ?_
  refine lv_lstore_n (lv' := [(3, .long 1000000000000), (0, .ref a0), (1, .ref a1), (2, .int x)]) hx hb dX4_odds_3 rfl hl (by decide) rfl (fun ls hl => ?_)
  refine lv_iconst (v := 0) hx hb dX4_odds_4 (by decide) ?_
  refine lv_istore (lv' := [(5, .int 0), (3, .long 1000000000000), (0, .ref a0), (1, .ref a1), (2, .int x)]) hx hb dX4_odds_5 hl (by decide) rfl (fun ls hl => ?_)
  have lp_1 : ∀ (n : Nat) (i : Nat) (hn : 8 ≤ i + n) (hi7 : i ≤ 7) (ls : Array Slot) (hl : lv_has ls 6 [(5, .int (nI i)), (3, .long (chS x i)), (0, .ref a0), (1, .ref a1), (2, .int x)]), W p l e ({ frames := 1, cells := 0, slots := 0, locals := 26 }) s m (([.ref a0, .ref a1, .int x] : List Value).toArray) below meth c s.heap [] 0 0 Q (F0 m 7 ls []) := by
    intro n
    induction n with
    | zero =>
      intro i hn hi7 ls hl
      exfalso; omega
    | succ n ih =>
      intro i hn hi7 ls hl
      refine lv_iload hx hb dX4_odds_7 (lv_at hl 0 rfl) ?_
      refine lv_bipush (v := 7) hx hb dX4_odds_9 (by decide) ?_
      refine lv_icmp_ge (tgt := 40) hx hb dX4_odds_11 (by decide) (fun c_2 => ?_) (fun c_2 => ?_)
      · have c_2i := i_le (x := 7) (y := ((i : Nat) : Int)) rfl (nI_toInt (by omega)) c_2
        refine lv_lload_n hx hb dX4_odds_40 rfl (lv_at hl 1 rfl) ?_
        subst hQ
        exact W.lret (v := (chS x i)) hx hb hr (fun t ht hW => ⟨_, rfl, (by obtain rfl : i = 7 := (by omega); exact rfl), ht⟩) (fun q hq => by cases hq) dX4_odds_41
      · have c_2i := i_nle (x := 7) (y := ((i : Nat) : Int)) rfl (nI_toInt (by omega)) c_2
        refine lv_iload_n hx hb dX4_odds_14 rfl (lv_at hl 4 rfl) ?_
        refine lv_iload hx hb dX4_odds_15 (lv_at hl 0 rfl) ?_
        refine lv_ishr hx hb dX4_odds_17 ?_
        refine lv_topi (fun x_3 ex_3 => ?_)
        refine lv_iconst (v := 1) hx hb dX4_odds_18 (by decide) ?_
        refine lv_iand hx hb dX4_odds_19 ?_
        refine lv_topi (fun x_4 ex_4 => ?_)
        refine lv_iconst (v := 1) hx hb dX4_odds_20 (by decide) ?_
        refine lv_icmp_ne (tgt := 34) hx hb dX4_odds_21 (by decide) (fun c_5 => ?_) (fun c_5 => ?_)
        · have c_5i := i_ne (x := x_4.toInt) (y := 1) rfl rfl c_5
          refine lv_iinc (v := nI (i + 1)) (lv' := [(5, .int (nI (i + 1))), (3, .long (chS x i)), (0, .ref a0), (1, .ref a1), (2, .int x)]) hx hb dX4_odds_34 hl (k := 0) rfl (nI_1 i) (by decide) rfl (fun ls hl => ?_)
          refine lv_goto (tgt := 7) hx hb dX4_odds_37 (by decide) ?_
          have hch : chS x i = chS x (i + 1) := (if_neg (by first | (subst_vars; assumption) | simp_all)).symm
          rw [hch] at hl
          exact ih (i + 1) (by omega) (by omega) ls (lv_sub hl [0, 1, 2, 3, 4] rfl)
        · have c_5i := i_eq (x := x_4.toInt) (y := 1) rfl rfl c_5
          refine lv_lload_n hx hb dX4_odds_24 rfl (lv_at hl 1 rfl) ?_
          refine lv_aload_n hx hb dX4_odds_25 rfl (lv_at hl 3 rfl) ?_
          refine lv_iload hx hb dX4_odds_26 (lv_at hl 0 rfl) ?_
          refine lv_lload_n hx hb dX4_odds_28 rfl (lv_at hl 1 rfl) ?_
          refine pcl (va_runS (As := [.ref a1, .int (nI i), .long (chS x i)]) (rest := [.long (chS x i)]) ⟨hx, hb, hml, hown, hts⟩ (c_muted l D K a1 (nI i) (chS x i) k0 k1 k2 k3 k5 k6 k7 k8 k9 s.heap.size) (va_cwS 3 hts gX4_odds_X4_muted rfl rfl rfl (by decide +kernel) ⟨Nat.le_of_ble_eq_true rfl, Nat.le_of_ble_eq_true rfl⟩) (mkS hK hN (hP.sub [1] rfl) (hD.sub [1] (by decide) rfl)) rfl rfl hl.1 rfl (lv_room (Nat.le_of_ble_eq_true rfl)) dX4_odds_29 ⟨Nat.le_of_ble_eq_true rfl, Nat.le_of_ble_eq_true rfl⟩) (fun r_6 hw => ?_)
          obtain rfl : r_6 = (chS x i) := hw
          refine lv_lsub hx hb dX4_odds_32 ?_
          refine lv_topl (fun x_7 ex_7 => ?_)
          refine lv_lstore_n (lv' := [(3, .long x_7), (5, .int (nI i)), (0, .ref a0), (1, .ref a1), (2, .int x)]) hx hb dX4_odds_33 rfl hl (by decide) rfl (fun ls hl => ?_)
          refine lv_iinc (v := nI (i + 1)) (lv' := [(5, .int (nI (i + 1))), (3, .long x_7), (0, .ref a0), (1, .ref a1), (2, .int x)]) hx hb dX4_odds_34 hl (k := 1) rfl (nI_1 i) (by decide) rfl (fun ls hl => ?_)
          refine lv_goto (tgt := 7) hx hb dX4_odds_37 (by decide) ?_
          obtain rfl : x_7 = chS x (i + 1) := ex_7.trans (if_pos (by first | (subst_vars; assumption) | (subst_vars; symm; assumption) | simp_all)).symm
          exact ih (i + 1) (by omega) (by omega) ls (lv_sub hl [0, 1, 2, 3, 4] rfl)
  exact lp_1 8 0 (by omega) (by omega) ls (lv_sub hl [0, 1, 2, 3, 4] rfl)
set_option maxHeartbeats 4000000 in
set_option maxRecDepth 100000 in
theorem t_chance (l : Launch) (D : va_G) (K : Nat → ClassId) (a0 : Nat) (x : Int32) (a1 : Nat) (g1 : Value) (g2 : Value) (g3 : Value) (g4 : Value) (g5 : Value) (g6 : Value) (g7 : Value) (g8 : Value) (g9 : Value) (g10 : Value) (a2 : Nat) (g12 : Value) (g13 : Value) (g14 : Value) (g15 : Value) (g16 : Value) (k0 : Value) (k1 : Value) (k2 : Value) (k3 : Value) (k5 : Value) (k6 : Value) (k7 : Value) (k8 : Value) (k9 : Value) (p0 : Value) (p1 : Value) (p2 : Value) (p3 : Value) (p4 : Value) (sz : Nat) : Met l yX11_chance wsX11_chance ({ frames := 2, cells := 0, slots := 0, locals := 51 }) (va_Pc [.ref a0, .int x] (Pre D K [(a0, .inr (11, [.ref a1, g1, g2, g3, g4, g5, g6, g7, g8, g9, g10, .ref a2, g12, g13, g14, g15, g16])), (a1, .inr (9, [k0, k1, k2, k3, .int 0, k5, k6, k7, k8, k9])), (a2, .inr (4, [p0, p1, p2, p3, p4]))] sz)) (vp_Sl (fun r : Int64 => (r = (chS x 7) ∧ 0 ≤ x.toInt ∧ x.toInt ≤ 127) ∨ (r = (-1) ∧ (x.toInt < 0 ∨ 127 < x.toInt)))) 0 0 (fun _ => False) := by
  refine Met.ofW (cc := cX11_chance) (maxL := 2) (ret := (some .long)) (by decide) rfl ?_
  intro p e s m args below meth c s₁ B hml hv
  obtain ⟨rfl, hsz, hP, hK, hD0, hN⟩ := hv
  have hx := B.exec
  have hb := B.bytes
  have hr := B.returns
  have hts := atoms_spec (ws := wsX11_chance) B.pre
  have hown : s.vm.findClass RX11 = some m.cls := findClass_of_methodNamed B.named
  have hlocks := B.notSynchronized
  subst hsz
  have hD := hD0
  have hP : va_P D vwCl [(a0, .inr (11, [.ref a1, g1, g2, g3, g4, g5, g6, g7, g8, g9, g10, .ref a2, g12, g13, g14, g15, g16])), (a1, .inr (9, [k0, k1, k2, k3, .int 0, k5, k6, k7, k8, k9])), (a2, .inr (4, [p0, p1, p2, p3, p4]))] s.heap := hP
  have hl := lv_entry [.ref a0, .int x] (n := 2) (Nat.le_of_ble_eq_true rfl)
  rw [lg_entry_eq]
  generalize (lg_sl [.ref a0, .int x] ++ List.replicate (2 - (lg_sl [.ref a0, .int x]).length) Slot.unset).toArray = ls at hl ⊢
  have hl : lv_has ls 2 [(0, .ref a0), (1, .int x)] := hl
  have hw9 : ∀ w ∈ wsX90, w ∈ wsX11_chance := fun w h => (List.mem_cons_of_mem _ (List.mem_append_right _ h))
  have hw11 : ∀ w ∈ wsX110, w ∈ wsX11_chance := fun w h => (List.mem_cons_of_mem _ (List.mem_append_left _ (List.mem_append_right _ h)))
  refine lv_iload_n hx hb dX11_chance_0 rfl (lv_at hl 1 rfl) ?_
  refine lv_iconst (v := 0) hx hb dX11_chance_1 (by decide) ?_
  refine lv_bipush (v := 127) hx hb dX11_chance_2 (by decide) ?_
  refine pci (va_runS (As := [.int x, .int 0, .int 127]) (rest := []) ⟨hx, hb, hml, hown, hts⟩ (c_within l D K x 0 127 x.toInt 0 127 s.heap.size rfl rfl rfl) (va_cwS 3 hts gX11_chance_X11_within rfl rfl rfl (by decide +kernel) ⟨Nat.le_of_ble_eq_true rfl, Nat.le_of_ble_eq_true rfl⟩) (mkS hK hN (hP.sub [] rfl) (hD.sub [] (by decide) rfl)) rfl rfl hl.1 rfl (lv_room (Nat.le_of_ble_eq_true rfl)) dX11_chance_4 ⟨Nat.le_of_ble_eq_true rfl, Nat.le_of_ble_eq_true rfl⟩) (fun r_1 hw => ?_)
  rcases hw with ⟨rfl, h_2, h_3⟩ | ⟨rfl, h_4⟩
  · refine lv_if_eq (tgt := 25) hx hb dX11_chance_7 (by decide) (fun c_5 => absurd c_5 (by decide)) (fun c_5 => ?_)
    refine lv_aload_n hx hb dX11_chance_10 rfl (lv_at hl 0 rfl) ?_
    refine va_get (ci := 11) (v := .ref a2) (C := RX11) (T := TX11) (N := 17) hx hb hts hw11 hown hK hP 0 rfl rfl 11 (by decide) (hts (.fieldLink RX11 75 "SmokeTune" "paper" "LSmokeTune$Paper;") (List.mem_cons_of_mem _ (List.mem_append_left _ (List.mem_append_left _ (List.mem_append_left _ (List.mem_of_getElem? (i := 0) rfl)))))) (fun _ h9 => h9) rfl dX11_chance_11 ?_
    refine lv_aload_n hx hb dX11_chance_14 rfl (lv_at hl 0 rfl) ?_
    refine va_get (ci := 11) (v := .ref a1) (C := RX11) (T := TX11) (N := 17) hx hb hts hw11 hown hK hP 0 rfl rfl 0 (by decide) (hts (.fieldLink RX11 10 "SmokeTune" "town" "LSmokeTune$Town;") (List.mem_cons_of_mem _ (List.mem_append_left _ (List.mem_append_left _ (List.mem_append_left _ (List.mem_of_getElem? (i := 1) rfl)))))) (fun _ h9 => h9) rfl dX11_chance_15 ?_
    refine lv_iload_n hx hb dX11_chance_18 rfl (lv_at hl 1 rfl) ?_
    refine pcl (va_runVN (As := [.ref a1, .int x]) (rest := []) ⟨hx, hb, hml, hown, hts⟩ (c_odds l D K a2 a1 x p0 p1 p2 p3 p4 k0 k1 k2 k3 k5 k6 k7 k8 k9 s.heap.size) ⟨va_cnB 2 hts gX11_chance_X4_odds_n270 rfl rfl rfl (nst_at hN 90 rfl) (hts (.initialized RX4) (List.mem_cons_of_mem _ (List.mem_append_left _ (List.mem_append_left _ (List.mem_append_left _ (List.mem_of_getElem? (i := 8) rfl)))))) (by decide +kernel) ⟨Nat.le_of_ble_eq_true rfl, Nat.le_of_ble_eq_true rfl⟩, (hts (.instanceMethod yX4_odds) (List.mem_cons_of_mem _ (List.mem_append_left _ (List.mem_append_left _ (List.mem_append_left _ (List.mem_of_getElem? (i := 7) rfl)))))), (hts (.selects RX4 yX4_odds yX4_odds) (List.mem_cons_of_mem _ (List.mem_append_left _ (List.mem_append_left _ (List.mem_append_left _ (List.mem_of_getElem? (i := 9) rfl))))))⟩ (mkV hK hN (hP.sub [2, 1] rfl) (hD.sub [2, 1] (by decide) rfl) (ci := 4) (q0 := 0) rfl rfl) rfl rfl hl.1 rfl (lv_room (Nat.le_of_ble_eq_true rfl)) dX11_chance_19 ⟨Nat.le_of_ble_eq_true rfl, Nat.le_of_ble_eq_true rfl⟩) (fun r_6 hw => ?_)
    obtain rfl : r_6 = (chS x 7) := hw
    refine lv_goto (tgt := 28) hx hb dX11_chance_22 (by decide) ?_
    exact W.lret (v := (chS x 7)) hx hb hr (fun t ht hW => ⟨_, rfl, (by first | exact Or.inl (⟨rfl, by first | omega | decide | (subst_vars; assumption) | (subst_vars; symm; assumption), by first | omega | decide | (subst_vars; assumption) | (subst_vars; symm; assumption)⟩) | exact Or.inr (⟨rfl, by first | omega | decide | (subst_vars; assumption) | (subst_vars; symm; assumption)⟩)), ht⟩) (fun q hq => by cases hq) dX11_chance_28
  · refine lv_if_eq (tgt := 25) hx hb dX11_chance_7 (by decide) (fun c_7 => ?_) (fun c_7 => absurd (by decide) c_7)
    refine lv_ldc2 (v := (-1)) hx hb hown (hts (.constantLong RX11 274 (-1)) (List.mem_cons_of_mem _ (List.mem_append_left _ (List.mem_append_left _ (List.mem_append_left _ (List.mem_of_getElem? (i := 2) rfl)))))) dX11_chance_25 ?_
    exact W.lret (v := (-1)) hx hb hr (fun t ht hW => ⟨_, rfl, (by first | exact Or.inl (⟨rfl, by first | omega | decide | (subst_vars; assumption) | (subst_vars; symm; assumption), by first | omega | decide | (subst_vars; assumption) | (subst_vars; symm; assumption)⟩) | exact Or.inr (⟨rfl, by first | omega | decide | (subst_vars; assumption) | (subst_vars; symm; assumption)⟩)), ht⟩) (fun q hq => by cases hq) dX11_chance_28
set_option maxHeartbeats 4000000 in
set_option maxRecDepth 100000 in
theorem c_become (l : Launch) (D : va_G) (K : Nat → ClassId) (a0 : Nat) (a1 : Nat) (f0 : Nat) (c0 : Nat) (m0 : Nat) (l0 : Nat) (f1 : Nat) (c1 : Nat) (m1 : Nat) (l1 : Nat) (sz : Nat) : Met l yX9_become wsX9_become ({ frames := 1, cells := 0, slots := 0, locals := 40 }) (va_Pc [.ref a0, .ref a1] (Pre D K [(a0, .inr (9, [.ref f0, .ref c0, .ref m0, .ref l0, .int 0, .int 0, .int (-1), .int 0, .int 0, .int 0])), (a1, .inr (9, [.ref f1, .ref c1, .ref m1, .ref l1, .int 0, .int 0, .int (-1), .int 0, .int 0, .int 0])), (f0, .inl (K 0, 56, .inl (fun _ => 0))), (f1, .inl (K 0, 56, .inl (fun _ => 0))), (c0, .inl (K 0, 24, .inl (fun _ => 0))), (c1, .inl (K 0, 24, .inl (fun _ => 0))), (m0, .inl (K 0, 6, .inl tm0)), (m1, .inl (K 0, 6, .inl tm0)), (l0, .inl (K 4, 6, .inr (.inr (.inr (.inr (fun _ => none)))))), (l1, .inl (K 4, 6, .inr (.inr (.inr (.inr (fun _ => none))))))] sz)) (va_Qv (S := (Nat → Nat) × (Nat → Nat → Int32) × (Nat → Nat → Int64) × (Nat → Int32)) (fun u : (Nat → Nat) × (Nat → Nat → Int32) × (Nat → Nat → Int64) × (Nat → Int32) => (∀ j, j < 24 → u.2.1 1 j = 0) ∧ u.2.1 2 0 = 0 ∧ u.2.1 2 1 = 0) (fun u t => Wd D (va_A [(a0, .inr (9, [.ref f0, .ref c0, .ref m0, .ref l0, .int 0, .int 0, .int (-1), .int 0, .int 0, .int 0])), (a1, .inr (9, [.ref f1, .ref c1, .ref m1, .ref l1, .int 0, .int 0, .int (-1), .int 0, .int 0, .int 0])), (f0, .inl (K 0, 56, .inl (fun _ => 0))), (f1, .inl (K 0, 56, .inl (fun _ => 0))), (c0, .inl (K 0, 24, .inl (fun _ => 0))), (c1, .inl (K 0, 24, .inl (fun _ => 0))), (m0, .inl (K 0, 6, .inl tm0)), (m1, .inl (K 0, 6, .inl tm0)), (l0, .inl (K 4, 6, .inr (.inr (.inr (.inr (fun _ => none)))))), (l1, .inl (K 4, 6, .inr (.inr (.inr (.inr (fun _ => none))))))] sz) ((fun u => [(a0, .inr (9, [.ref f0, .ref c0, .ref m0, .ref l0, .int 0, .int 0, .int (-1), .int 0, .int 0, .int 0])), (a1, .inr (9, [.ref f1, .ref c1, .ref m1, .ref l1, .int 0, .int 0, .int (-1), .int 0, .int 0, .int 0])), (f0, .inl (K 0, 56, .inl ((u.2.1 0)))), (f1, .inl (K 0, 56, .inl (fun _ => 0))), (c0, .inl (K 0, 24, .inl ((u.2.1 1)))), (c1, .inl (K 0, 24, .inl (fun _ => 0))), (m0, .inl (K 0, 6, .inl ((u.2.1 2)))), (m1, .inl (K 0, 6, .inl tm0)), (l0, .inl (K 4, 6, .inr (.inr (.inr (.inr (va_up (va_up (va_up (va_up (va_up (va_up (fun _ => none) 0 none) 1 none) 2 none) 3 none) 4 none) 5 none)))))), (l1, .inl (K 4, 6, .inr (.inr (.inr (.inr (fun _ => none))))))]) u) t) (va_A [(a0, .inr (9, [.ref f0, .ref c0, .ref m0, .ref l0, .int 0, .int 0, .int (-1), .int 0, .int 0, .int 0])), (a1, .inr (9, [.ref f1, .ref c1, .ref m1, .ref l1, .int 0, .int 0, .int (-1), .int 0, .int 0, .int 0])), (f0, .inl (K 0, 56, .inl (fun _ => 0))), (f1, .inl (K 0, 56, .inl (fun _ => 0))), (c0, .inl (K 0, 24, .inl (fun _ => 0))), (c1, .inl (K 0, 24, .inl (fun _ => 0))), (m0, .inl (K 0, 6, .inl tm0)), (m1, .inl (K 0, 6, .inl tm0)), (l0, .inl (K 4, 6, .inr (.inr (.inr (.inr (fun _ => none)))))), (l1, .inl (K 4, 6, .inr (.inr (.inr (.inr (fun _ => none))))))] sz)) 0 0 (va_A [(a0, .inr (9, [.ref f0, .ref c0, .ref m0, .ref l0, .int 0, .int 0, .int (-1), .int 0, .int 0, .int 0])), (a1, .inr (9, [.ref f1, .ref c1, .ref m1, .ref l1, .int 0, .int 0, .int (-1), .int 0, .int 0, .int 0])), (f0, .inl (K 0, 56, .inl (fun _ => 0))), (f1, .inl (K 0, 56, .inl (fun _ => 0))), (c0, .inl (K 0, 24, .inl (fun _ => 0))), (c1, .inl (K 0, 24, .inl (fun _ => 0))), (m0, .inl (K 0, 6, .inl tm0)), (m1, .inl (K 0, 6, .inl tm0)), (l0, .inl (K 4, 6, .inr (.inr (.inr (.inr (fun _ => none)))))), (l1, .inl (K 4, 6, .inr (.inr (.inr (.inr (fun _ => none))))))] sz) := by
  refine Met.ofW (cc := cX9_become) (maxL := 3) (ret := none) (by decide) rfl ?_
  intro p e s m args below meth c s₁ B hml hv
  obtain ⟨rfl, hsz, hP, hK, hD0, hN⟩ := hv
  have hx := B.exec
  have hb := B.bytes
  have hr := B.returns
  have hts := atoms_spec (ws := wsX9_become) B.pre
  have hown : s.vm.findClass RX9 = some m.cls := findClass_of_methodNamed B.named
  have hlocks := B.notSynchronized
  subst hsz
  have hD := hD0.self (sz := s.heap.size)
  generalize hAe : va_A [(a0, .inr (9, [.ref f0, .ref c0, .ref m0, .ref l0, .int 0, .int 0, .int (-1), .int 0, .int 0, .int 0])), (a1, .inr (9, [.ref f1, .ref c1, .ref m1, .ref l1, .int 0, .int 0, .int (-1), .int 0, .int 0, .int 0])), (f0, .inl (K 0, 56, .inl (fun _ => 0))), (f1, .inl (K 0, 56, .inl (fun _ => 0))), (c0, .inl (K 0, 24, .inl (fun _ => 0))), (c1, .inl (K 0, 24, .inl (fun _ => 0))), (m0, .inl (K 0, 6, .inl tm0)), (m1, .inl (K 0, 6, .inl tm0)), (l0, .inl (K 4, 6, .inr (.inr (.inr (.inr (fun _ => none)))))), (l1, .inl (K 4, 6, .inr (.inr (.inr (.inr (fun _ => none))))))] s.heap.size = A at hD ⊢
  have hA : ∀ q : Nat, s.heap.size ≤ q → A q := fun q h => by rw [← hAe]; exact Or.inr h
  have hS : va_S A s.heap s.heap [] := va_S.rf
  have hP : va_P D vwCl [(a0, .inr (9, [.ref f0, .ref c0, .ref m0, .ref l0, .int 0, .int 0, .int (-1), .int 0, .int 0, .int 0])), (a1, .inr (9, [.ref f1, .ref c1, .ref m1, .ref l1, .int 0, .int 0, .int (-1), .int 0, .int 0, .int 0])), (f0, .inl (K 0, 56, .inl (fun _ => 0))), (f1, .inl (K 0, 56, .inl (fun _ => 0))), (c0, .inl (K 0, 24, .inl (fun _ => 0))), (c1, .inl (K 0, 24, .inl (fun _ => 0))), (m0, .inl (K 0, 6, .inl tm0)), (m1, .inl (K 0, 6, .inl tm0)), (l0, .inl (K 4, 6, .inr (.inr (.inr (.inr (fun _ => none)))))), (l1, .inl (K 4, 6, .inr (.inr (.inr (.inr (fun _ => none))))))] s.heap := hP
  have hl := lv_entry [.ref a0, .ref a1] (n := 3) (Nat.le_of_ble_eq_true rfl)
  rw [lg_entry_eq]
  generalize (lg_sl [.ref a0, .ref a1] ++ List.replicate (3 - (lg_sl [.ref a0, .ref a1]).length) Slot.unset).toArray = ls at hl ⊢
  have hl : lv_has ls 3 [(0, .ref a0), (1, .ref a1)] := hl
  have hw9 : ∀ w ∈ wsX90, w ∈ wsX9_become := fun w h => (List.mem_cons_of_mem _ (List.mem_append_right _ h))
  refine lv_aload_n hx hb dX9_become_0 rfl (lv_at hl 1 rfl) ?_
  refine va_get (ci := 9) (v := .ref f1) (C := RX9) (T := TX9) (N := 10) hx hb hts hw9 hown hK hP 1 rfl rfl 0 (by decide) (hts (.fieldLink RX9 9 "SmokeTune$Town" "facts" "[I") (List.mem_cons_of_mem _ (List.mem_append_left _ (List.mem_of_getElem? (i := 0) rfl)))) (fun _ h9 => h9) rfl dX9_become_1 ?_
  refine lv_iconst (v := 0) hx hb dX9_become_4 (by decide) ?_
  refine lv_aload_n hx hb dX9_become_5 rfl (lv_at hl 0 rfl) ?_
  refine va_get (ci := 9) (v := .ref f0) (C := RX9) (T := TX9) (N := 10) hx hb hts hw9 hown hK hP 0 rfl rfl 0 (by decide) (hts (.fieldLink RX9 9 "SmokeTune$Town" "facts" "[I") (List.mem_cons_of_mem _ (List.mem_append_left _ (List.mem_of_getElem? (i := 0) rfl)))) (fun _ h9 => h9) rfl dX9_become_6 ?_
  refine lv_iconst (v := 0) hx hb dX9_become_9 (by decide) ?_
  refine lv_aload_n hx hb dX9_become_10 rfl (lv_at hl 0 rfl) ?_
  refine va_get (ci := 9) (v := .ref f0) (C := RX9) (T := TX9) (N := 10) hx hb hts hw9 hown hK hP 0 rfl rfl 0 (by decide) (hts (.fieldLink RX9 9 "SmokeTune$Town" "facts" "[I") (List.mem_cons_of_mem _ (List.mem_append_left _ (List.mem_of_getElem? (i := 0) rfl)))) (fun _ h9 => h9) rfl dX9_become_11 ?_
  refine va_alen (v := 56) hx hb hK hP 2 0 rfl rfl rfl dX9_become_14 ?_
  refine va_copyi hx hb (hml.trans hl.1.symm) hown (hts (.methodLink RX9 46 arraycopyName) (List.mem_cons_of_mem _ (List.mem_append_left _ (List.mem_of_getElem? (i := 1) rfl)))) (hts (.native arraycopyName) (List.mem_cons_of_mem _ (List.mem_append_left _ (List.mem_of_getElem? (i := 2) rfl)))) (hts (.static arraycopyName) (List.mem_cons_of_mem _ (List.mem_append_left _ (List.mem_of_getElem? (i := 3) rfl)))) (hts (.initialized "java/lang/System") (List.mem_cons_of_mem _ (List.mem_append_left _ (List.mem_of_getElem? (i := 4) rfl)))) hK hP hD hS 3 2 0 0 rfl rfl rfl rfl rfl (by decide) (by decide) (by decide) (by decide) (by decide) (fun _ _ => rfl) (Nat.le_of_ble_eq_true rfl) (by decide +kernel) dX9_become_15 (fun H locs hP hD hS => ?_)
  generalize hf_1 : (va_cpy (α := Int32) (fun _ => 0) (fun _ => 0) (0 : Int32).toNatClampNeg (0 : Int32).toNatClampNeg (56 : Int32).toNatClampNeg) = f_1 at hP hD
  have hP : va_P D vwCl [(a0, .inr (9, [.ref f0, .ref c0, .ref m0, .ref l0, .int 0, .int 0, .int (-1), .int 0, .int 0, .int 0])), (a1, .inr (9, [.ref f1, .ref c1, .ref m1, .ref l1, .int 0, .int 0, .int (-1), .int 0, .int 0, .int 0])), (f0, .inl (K 0, 56, .inl f_1)), (f1, .inl (K 0, 56, .inl (fun _ => 0))), (c0, .inl (K 0, 24, .inl (fun _ => 0))), (c1, .inl (K 0, 24, .inl (fun _ => 0))), (m0, .inl (K 0, 6, .inl tm0)), (m1, .inl (K 0, 6, .inl tm0)), (l0, .inl (K 4, 6, .inr (.inr (.inr (.inr (fun _ => none)))))), (l1, .inl (K 4, 6, .inr (.inr (.inr (.inr (fun _ => none))))))] H := hP
  have hD : va_D A [(a0, .inr (9, [.ref f0, .ref c0, .ref m0, .ref l0, .int 0, .int 0, .int (-1), .int 0, .int 0, .int 0])), (a1, .inr (9, [.ref f1, .ref c1, .ref m1, .ref l1, .int 0, .int 0, .int (-1), .int 0, .int 0, .int 0])), (f0, .inl (K 0, 56, .inl f_1)), (f1, .inl (K 0, 56, .inl (fun _ => 0))), (c0, .inl (K 0, 24, .inl (fun _ => 0))), (c1, .inl (K 0, 24, .inl (fun _ => 0))), (m0, .inl (K 0, 6, .inl tm0)), (m1, .inl (K 0, 6, .inl tm0)), (l0, .inl (K 4, 6, .inr (.inr (.inr (.inr (fun _ => none)))))), (l1, .inl (K 4, 6, .inr (.inr (.inr (.inr (fun _ => none))))))] := hD
  refine lv_aload_n hx hb dX9_become_18 rfl (lv_at hl 1 rfl) ?_
  refine va_get (ci := 9) (v := .ref c1) (C := RX9) (T := TX9) (N := 10) hx hb hts hw9 hown hK hP 1 rfl rfl 1 (by decide) (hts (.fieldLink RX9 15 "SmokeTune$Town" "chords" "[I") (List.mem_cons_of_mem _ (List.mem_append_left _ (List.mem_of_getElem? (i := 5) rfl)))) (fun _ h9 => h9) rfl dX9_become_19 ?_
  refine lv_iconst (v := 0) hx hb dX9_become_22 (by decide) ?_
  refine lv_aload_n hx hb dX9_become_23 rfl (lv_at hl 0 rfl) ?_
  refine va_get (ci := 9) (v := .ref c0) (C := RX9) (T := TX9) (N := 10) hx hb hts hw9 hown hK hP 0 rfl rfl 1 (by decide) (hts (.fieldLink RX9 15 "SmokeTune$Town" "chords" "[I") (List.mem_cons_of_mem _ (List.mem_append_left _ (List.mem_of_getElem? (i := 5) rfl)))) (fun _ h9 => h9) rfl dX9_become_24 ?_
  refine lv_iconst (v := 0) hx hb dX9_become_27 (by decide) ?_
  refine lv_aload_n hx hb dX9_become_28 rfl (lv_at hl 0 rfl) ?_
  refine va_get (ci := 9) (v := .ref c0) (C := RX9) (T := TX9) (N := 10) hx hb hts hw9 hown hK hP 0 rfl rfl 1 (by decide) (hts (.fieldLink RX9 15 "SmokeTune$Town" "chords" "[I") (List.mem_cons_of_mem _ (List.mem_append_left _ (List.mem_of_getElem? (i := 5) rfl)))) (fun _ h9 => h9) rfl dX9_become_29 ?_
  refine va_alen (v := 24) hx hb hK hP 4 0 rfl rfl rfl dX9_become_32 ?_
  refine va_copyi hx hb (hml.trans hl.1.symm) hown (hts (.methodLink RX9 46 arraycopyName) (List.mem_cons_of_mem _ (List.mem_append_left _ (List.mem_of_getElem? (i := 1) rfl)))) (hts (.native arraycopyName) (List.mem_cons_of_mem _ (List.mem_append_left _ (List.mem_of_getElem? (i := 2) rfl)))) (hts (.static arraycopyName) (List.mem_cons_of_mem _ (List.mem_append_left _ (List.mem_of_getElem? (i := 3) rfl)))) (hts (.initialized "java/lang/System") (List.mem_cons_of_mem _ (List.mem_append_left _ (List.mem_of_getElem? (i := 4) rfl)))) hK hP hD hS 5 4 0 0 rfl rfl rfl rfl rfl (by decide) (by decide) (by decide) (by decide) (by decide) (fun _ _ => rfl) (Nat.le_of_ble_eq_true rfl) (by decide +kernel) dX9_become_33 (fun H locs hP hD hS => ?_)
  generalize hf_2 : (va_cpy (α := Int32) (fun _ => 0) (fun _ => 0) (0 : Int32).toNatClampNeg (0 : Int32).toNatClampNeg (24 : Int32).toNatClampNeg) = f_2 at hP hD
  have hP : va_P D vwCl [(a0, .inr (9, [.ref f0, .ref c0, .ref m0, .ref l0, .int 0, .int 0, .int (-1), .int 0, .int 0, .int 0])), (a1, .inr (9, [.ref f1, .ref c1, .ref m1, .ref l1, .int 0, .int 0, .int (-1), .int 0, .int 0, .int 0])), (f0, .inl (K 0, 56, .inl f_1)), (f1, .inl (K 0, 56, .inl (fun _ => 0))), (c0, .inl (K 0, 24, .inl f_2)), (c1, .inl (K 0, 24, .inl (fun _ => 0))), (m0, .inl (K 0, 6, .inl tm0)), (m1, .inl (K 0, 6, .inl tm0)), (l0, .inl (K 4, 6, .inr (.inr (.inr (.inr (fun _ => none)))))), (l1, .inl (K 4, 6, .inr (.inr (.inr (.inr (fun _ => none))))))] H := hP
  have hD : va_D A [(a0, .inr (9, [.ref f0, .ref c0, .ref m0, .ref l0, .int 0, .int 0, .int (-1), .int 0, .int 0, .int 0])), (a1, .inr (9, [.ref f1, .ref c1, .ref m1, .ref l1, .int 0, .int 0, .int (-1), .int 0, .int 0, .int 0])), (f0, .inl (K 0, 56, .inl f_1)), (f1, .inl (K 0, 56, .inl (fun _ => 0))), (c0, .inl (K 0, 24, .inl f_2)), (c1, .inl (K 0, 24, .inl (fun _ => 0))), (m0, .inl (K 0, 6, .inl tm0)), (m1, .inl (K 0, 6, .inl tm0)), (l0, .inl (K 4, 6, .inr (.inr (.inr (.inr (fun _ => none)))))), (l1, .inl (K 4, 6, .inr (.inr (.inr (.inr (fun _ => none))))))] := hD
  refine lv_aload_n hx hb dX9_become_36 rfl (lv_at hl 1 rfl) ?_
  refine va_get (ci := 9) (v := .ref m1) (C := RX9) (T := TX9) (N := 10) hx hb hts hw9 hown hK hP 1 rfl rfl 2 (by decide) (hts (.fieldLink RX9 18 "SmokeTune$Town" "terms" "[I") (List.mem_cons_of_mem _ (List.mem_append_left _ (List.mem_of_getElem? (i := 6) rfl)))) (fun _ h9 => h9) rfl dX9_become_37 ?_
  refine lv_iconst (v := 0) hx hb dX9_become_40 (by decide) ?_
  refine lv_aload_n hx hb dX9_become_41 rfl (lv_at hl 0 rfl) ?_
  refine va_get (ci := 9) (v := .ref m0) (C := RX9) (T := TX9) (N := 10) hx hb hts hw9 hown hK hP 0 rfl rfl 2 (by decide) (hts (.fieldLink RX9 18 "SmokeTune$Town" "terms" "[I") (List.mem_cons_of_mem _ (List.mem_append_left _ (List.mem_of_getElem? (i := 6) rfl)))) (fun _ h9 => h9) rfl dX9_become_42 ?_
  refine lv_iconst (v := 0) hx hb dX9_become_45 (by decide) ?_
  refine lv_aload_n hx hb dX9_become_46 rfl (lv_at hl 0 rfl) ?_
  refine va_get (ci := 9) (v := .ref m0) (C := RX9) (T := TX9) (N := 10) hx hb hts hw9 hown hK hP 0 rfl rfl 2 (by decide) (hts (.fieldLink RX9 18 "SmokeTune$Town" "terms" "[I") (List.mem_cons_of_mem _ (List.mem_append_left _ (List.mem_of_getElem? (i := 6) rfl)))) (fun _ h9 => h9) rfl dX9_become_47 ?_
  refine va_alen (v := 6) hx hb hK hP 6 0 rfl rfl rfl dX9_become_50 ?_
  refine va_copyi hx hb (hml.trans hl.1.symm) hown (hts (.methodLink RX9 46 arraycopyName) (List.mem_cons_of_mem _ (List.mem_append_left _ (List.mem_of_getElem? (i := 1) rfl)))) (hts (.native arraycopyName) (List.mem_cons_of_mem _ (List.mem_append_left _ (List.mem_of_getElem? (i := 2) rfl)))) (hts (.static arraycopyName) (List.mem_cons_of_mem _ (List.mem_append_left _ (List.mem_of_getElem? (i := 3) rfl)))) (hts (.initialized "java/lang/System") (List.mem_cons_of_mem _ (List.mem_append_left _ (List.mem_of_getElem? (i := 4) rfl)))) hK hP hD hS 7 6 0 0 rfl rfl rfl rfl rfl (by decide) (by decide) (by decide) (by decide) (by decide) (fun _ _ => rfl) (Nat.le_of_ble_eq_true rfl) (by decide +kernel) dX9_become_51 (fun H locs hP hD hS => ?_)
  generalize hf_3 : (va_cpy (α := Int32) tm0 tm0 (0 : Int32).toNatClampNeg (0 : Int32).toNatClampNeg (6 : Int32).toNatClampNeg) = f_3 at hP hD
  have hP : va_P D vwCl [(a0, .inr (9, [.ref f0, .ref c0, .ref m0, .ref l0, .int 0, .int 0, .int (-1), .int 0, .int 0, .int 0])), (a1, .inr (9, [.ref f1, .ref c1, .ref m1, .ref l1, .int 0, .int 0, .int (-1), .int 0, .int 0, .int 0])), (f0, .inl (K 0, 56, .inl f_1)), (f1, .inl (K 0, 56, .inl (fun _ => 0))), (c0, .inl (K 0, 24, .inl f_2)), (c1, .inl (K 0, 24, .inl (fun _ => 0))), (m0, .inl (K 0, 6, .inl f_3)), (m1, .inl (K 0, 6, .inl tm0)), (l0, .inl (K 4, 6, .inr (.inr (.inr (.inr (fun _ => none)))))), (l1, .inl (K 4, 6, .inr (.inr (.inr (.inr (fun _ => none))))))] H := hP
  have hD : va_D A [(a0, .inr (9, [.ref f0, .ref c0, .ref m0, .ref l0, .int 0, .int 0, .int (-1), .int 0, .int 0, .int 0])), (a1, .inr (9, [.ref f1, .ref c1, .ref m1, .ref l1, .int 0, .int 0, .int (-1), .int 0, .int 0, .int 0])), (f0, .inl (K 0, 56, .inl f_1)), (f1, .inl (K 0, 56, .inl (fun _ => 0))), (c0, .inl (K 0, 24, .inl f_2)), (c1, .inl (K 0, 24, .inl (fun _ => 0))), (m0, .inl (K 0, 6, .inl f_3)), (m1, .inl (K 0, 6, .inl tm0)), (l0, .inl (K 4, 6, .inr (.inr (.inr (.inr (fun _ => none)))))), (l1, .inl (K 4, 6, .inr (.inr (.inr (.inr (fun _ => none))))))] := hD
  refine lv_iconst (v := 0) hx hb dX9_become_54 (by decide) ?_
  refine lv_istore_n (lv' := [(2, .int 0), (0, .ref a0), (1, .ref a1)]) hx hb dX9_become_55 rfl hl (by decide) rfl (fun ls hl => ?_)
  refine lv_iload_n hx hb dX9_become_56 rfl (lv_at hl 0 rfl) ?_
  refine lv_bipush (v := 6) hx hb dX9_become_57 (by decide) ?_
  refine lv_icmp_ge (tgt := 80) hx hb dX9_become_59 (by decide) (fun c_4 => absurd c_4 (by decide)) (fun c_4 => ?_)
  refine lv_aload_n hx hb dX9_become_62 rfl (lv_at hl 1 rfl) ?_
  refine va_get (ci := 9) (v := .ref l0) (C := RX9) (T := TX9) (N := 10) hx hb hts hw9 hown hK hP 0 rfl rfl 3 (by decide) (hts (.fieldLink RX9 23 "SmokeTune$Town" "laws" "[LSmokeTune$Script;") (List.mem_cons_of_mem _ (List.mem_append_left _ (List.mem_of_getElem? (i := 7) rfl)))) (fun _ h9 => h9) rfl dX9_become_63 ?_
  refine lv_iload_n hx hb dX9_become_66 rfl (lv_at hl 0 rfl) ?_
  refine lv_aload_n hx hb dX9_become_67 rfl (lv_at hl 2 rfl) ?_
  refine va_get (ci := 9) (v := .ref l1) (C := RX9) (T := TX9) (N := 10) hx hb hts hw9 hown hK hP 1 rfl rfl 3 (by decide) (hts (.fieldLink RX9 23 "SmokeTune$Town" "laws" "[LSmokeTune$Script;") (List.mem_cons_of_mem _ (List.mem_append_left _ (List.mem_of_getElem? (i := 7) rfl)))) (fun _ h9 => h9) rfl dX9_become_68 ?_
  refine lv_iload_n hx hb dX9_become_71 rfl (lv_at hl 0 rfl) ?_
  refine va_aldq (C := "SmokeTune$Script") hx hb hK hP 9 4 rfl rfl (i_in (x := 0) rfl (by omega)) dX9_become_72 ?_
  refine W.eq (g2 := F0 m 73 ls [.null, .int 0, .ref l0]) rfl ?_
  refine va_astqN (C := "SmokeTune$Script") hx hb hK hP hD hS 8 4 rfl rfl (i_in (x := 0) rfl (by omega)) dX9_become_73 (fun H locs hP hD hS => ?_)
  have hP : va_P D vwCl [(a0, .inr (9, [.ref f0, .ref c0, .ref m0, .ref l0, .int 0, .int 0, .int (-1), .int 0, .int 0, .int 0])), (a1, .inr (9, [.ref f1, .ref c1, .ref m1, .ref l1, .int 0, .int 0, .int (-1), .int 0, .int 0, .int 0])), (f0, .inl (K 0, 56, .inl f_1)), (f1, .inl (K 0, 56, .inl (fun _ => 0))), (c0, .inl (K 0, 24, .inl f_2)), (c1, .inl (K 0, 24, .inl (fun _ => 0))), (m0, .inl (K 0, 6, .inl f_3)), (m1, .inl (K 0, 6, .inl tm0)), (l0, .inl (K 4, 6, .inr (.inr (.inr (.inr (va_up (fun _ => none) 0 none)))))), (l1, .inl (K 4, 6, .inr (.inr (.inr (.inr (fun _ => none))))))] H := hP
  have hD : va_D A [(a0, .inr (9, [.ref f0, .ref c0, .ref m0, .ref l0, .int 0, .int 0, .int (-1), .int 0, .int 0, .int 0])), (a1, .inr (9, [.ref f1, .ref c1, .ref m1, .ref l1, .int 0, .int 0, .int (-1), .int 0, .int 0, .int 0])), (f0, .inl (K 0, 56, .inl f_1)), (f1, .inl (K 0, 56, .inl (fun _ => 0))), (c0, .inl (K 0, 24, .inl f_2)), (c1, .inl (K 0, 24, .inl (fun _ => 0))), (m0, .inl (K 0, 6, .inl f_3)), (m1, .inl (K 0, 6, .inl tm0)), (l0, .inl (K 4, 6, .inr (.inr (.inr (.inr (va_up (fun _ => none) 0 none)))))), (l1, .inl (K 4, 6, .inr (.inr (.inr (.inr (fun _ => none))))))] := hD
  refine lv_iinc (v := 1) (lv' := [(2, .int 1), (0, .ref a0), (1, .ref a1)]) hx hb dX9_become_74 hl (k := 0) rfl (by decide) (by decide) rfl (fun ls hl => ?_)
  refine lv_goto (tgt := 56) hx hb dX9_become_77 (by decide) ?_
  refine lv_iload_n hx hb dX9_become_56 rfl (lv_at hl 0 rfl) ?_
  refine lv_bipush (v := 6) hx hb dX9_become_57 (by decide) ?_
  refine lv_icmp_ge (tgt := 80) hx hb dX9_become_59 (by decide) (fun c_5 => absurd c_5 (by decide)) (fun c_5 => ?_)
  refine lv_aload_n hx hb dX9_become_62 rfl (lv_at hl 1 rfl) ?_
  refine va_get (ci := 9) (v := .ref l0) (C := RX9) (T := TX9) (N := 10) hx hb hts hw9 hown hK hP 0 rfl rfl 3 (by decide) (hts (.fieldLink RX9 23 "SmokeTune$Town" "laws" "[LSmokeTune$Script;") (List.mem_cons_of_mem _ (List.mem_append_left _ (List.mem_of_getElem? (i := 7) rfl)))) (fun _ h9 => h9) rfl dX9_become_63 ?_
  refine lv_iload_n hx hb dX9_become_66 rfl (lv_at hl 0 rfl) ?_
  refine lv_aload_n hx hb dX9_become_67 rfl (lv_at hl 2 rfl) ?_
  refine va_get (ci := 9) (v := .ref l1) (C := RX9) (T := TX9) (N := 10) hx hb hts hw9 hown hK hP 1 rfl rfl 3 (by decide) (hts (.fieldLink RX9 23 "SmokeTune$Town" "laws" "[LSmokeTune$Script;") (List.mem_cons_of_mem _ (List.mem_append_left _ (List.mem_of_getElem? (i := 7) rfl)))) (fun _ h9 => h9) rfl dX9_become_68 ?_
  refine lv_iload_n hx hb dX9_become_71 rfl (lv_at hl 0 rfl) ?_
  refine va_aldq (C := "SmokeTune$Script") hx hb hK hP 9 4 rfl rfl (i_in (x := 1) rfl (by omega)) dX9_become_72 ?_
  refine W.eq (g2 := F0 m 73 ls [.null, .int 1, .ref l0]) rfl ?_
  refine va_astqN (C := "SmokeTune$Script") hx hb hK hP hD hS 8 4 rfl rfl (i_in (x := 1) rfl (by omega)) dX9_become_73 (fun H locs hP hD hS => ?_)
  have hP : va_P D vwCl [(a0, .inr (9, [.ref f0, .ref c0, .ref m0, .ref l0, .int 0, .int 0, .int (-1), .int 0, .int 0, .int 0])), (a1, .inr (9, [.ref f1, .ref c1, .ref m1, .ref l1, .int 0, .int 0, .int (-1), .int 0, .int 0, .int 0])), (f0, .inl (K 0, 56, .inl f_1)), (f1, .inl (K 0, 56, .inl (fun _ => 0))), (c0, .inl (K 0, 24, .inl f_2)), (c1, .inl (K 0, 24, .inl (fun _ => 0))), (m0, .inl (K 0, 6, .inl f_3)), (m1, .inl (K 0, 6, .inl tm0)), (l0, .inl (K 4, 6, .inr (.inr (.inr (.inr (va_up (va_up (fun _ => none) 0 none) 1 none)))))), (l1, .inl (K 4, 6, .inr (.inr (.inr (.inr (fun _ => none))))))] H := hP
  have hD : va_D A [(a0, .inr (9, [.ref f0, .ref c0, .ref m0, .ref l0, .int 0, .int 0, .int (-1), .int 0, .int 0, .int 0])), (a1, .inr (9, [.ref f1, .ref c1, .ref m1, .ref l1, .int 0, .int 0, .int (-1), .int 0, .int 0, .int 0])), (f0, .inl (K 0, 56, .inl f_1)), (f1, .inl (K 0, 56, .inl (fun _ => 0))), (c0, .inl (K 0, 24, .inl f_2)), (c1, .inl (K 0, 24, .inl (fun _ => 0))), (m0, .inl (K 0, 6, .inl f_3)), (m1, .inl (K 0, 6, .inl tm0)), (l0, .inl (K 4, 6, .inr (.inr (.inr (.inr (va_up (va_up (fun _ => none) 0 none) 1 none)))))), (l1, .inl (K 4, 6, .inr (.inr (.inr (.inr (fun _ => none))))))] := hD
  refine lv_iinc (v := 2) (lv' := [(2, .int 2), (0, .ref a0), (1, .ref a1)]) hx hb dX9_become_74 hl (k := 0) rfl (by decide) (by decide) rfl (fun ls hl => ?_)
  refine lv_goto (tgt := 56) hx hb dX9_become_77 (by decide) ?_
  refine lv_iload_n hx hb dX9_become_56 rfl (lv_at hl 0 rfl) ?_
  refine lv_bipush (v := 6) hx hb dX9_become_57 (by decide) ?_
  refine lv_icmp_ge (tgt := 80) hx hb dX9_become_59 (by decide) (fun c_6 => absurd c_6 (by decide)) (fun c_6 => ?_)
  refine lv_aload_n hx hb dX9_become_62 rfl (lv_at hl 1 rfl) ?_
  refine va_get (ci := 9) (v := .ref l0) (C := RX9) (T := TX9) (N := 10) hx hb hts hw9 hown hK hP 0 rfl rfl 3 (by decide) (hts (.fieldLink RX9 23 "SmokeTune$Town" "laws" "[LSmokeTune$Script;") (List.mem_cons_of_mem _ (List.mem_append_left _ (List.mem_of_getElem? (i := 7) rfl)))) (fun _ h9 => h9) rfl dX9_become_63 ?_
  refine lv_iload_n hx hb dX9_become_66 rfl (lv_at hl 0 rfl) ?_
  refine lv_aload_n hx hb dX9_become_67 rfl (lv_at hl 2 rfl) ?_
  refine va_get (ci := 9) (v := .ref l1) (C := RX9) (T := TX9) (N := 10) hx hb hts hw9 hown hK hP 1 rfl rfl 3 (by decide) (hts (.fieldLink RX9 23 "SmokeTune$Town" "laws" "[LSmokeTune$Script;") (List.mem_cons_of_mem _ (List.mem_append_left _ (List.mem_of_getElem? (i := 7) rfl)))) (fun _ h9 => h9) rfl dX9_become_68 ?_
  refine lv_iload_n hx hb dX9_become_71 rfl (lv_at hl 0 rfl) ?_
  refine va_aldq (C := "SmokeTune$Script") hx hb hK hP 9 4 rfl rfl (i_in (x := 2) rfl (by omega)) dX9_become_72 ?_
  refine W.eq (g2 := F0 m 73 ls [.null, .int 2, .ref l0]) rfl ?_
  refine va_astqN (C := "SmokeTune$Script") hx hb hK hP hD hS 8 4 rfl rfl (i_in (x := 2) rfl (by omega)) dX9_become_73 (fun H locs hP hD hS => ?_)
  have hP : va_P D vwCl [(a0, .inr (9, [.ref f0, .ref c0, .ref m0, .ref l0, .int 0, .int 0, .int (-1), .int 0, .int 0, .int 0])), (a1, .inr (9, [.ref f1, .ref c1, .ref m1, .ref l1, .int 0, .int 0, .int (-1), .int 0, .int 0, .int 0])), (f0, .inl (K 0, 56, .inl f_1)), (f1, .inl (K 0, 56, .inl (fun _ => 0))), (c0, .inl (K 0, 24, .inl f_2)), (c1, .inl (K 0, 24, .inl (fun _ => 0))), (m0, .inl (K 0, 6, .inl f_3)), (m1, .inl (K 0, 6, .inl tm0)), (l0, .inl (K 4, 6, .inr (.inr (.inr (.inr (va_up (va_up (va_up (fun _ => none) 0 none) 1 none) 2 none)))))), (l1, .inl (K 4, 6, .inr (.inr (.inr (.inr (fun _ => none))))))] H := hP
  have hD : va_D A [(a0, .inr (9, [.ref f0, .ref c0, .ref m0, .ref l0, .int 0, .int 0, .int (-1), .int 0, .int 0, .int 0])), (a1, .inr (9, [.ref f1, .ref c1, .ref m1, .ref l1, .int 0, .int 0, .int (-1), .int 0, .int 0, .int 0])), (f0, .inl (K 0, 56, .inl f_1)), (f1, .inl (K 0, 56, .inl (fun _ => 0))), (c0, .inl (K 0, 24, .inl f_2)), (c1, .inl (K 0, 24, .inl (fun _ => 0))), (m0, .inl (K 0, 6, .inl f_3)), (m1, .inl (K 0, 6, .inl tm0)), (l0, .inl (K 4, 6, .inr (.inr (.inr (.inr (va_up (va_up (va_up (fun _ => none) 0 none) 1 none) 2 none)))))), (l1, .inl (K 4, 6, .inr (.inr (.inr (.inr (fun _ => none))))))] := hD
  refine lv_iinc (v := 3) (lv' := [(2, .int 3), (0, .ref a0), (1, .ref a1)]) hx hb dX9_become_74 hl (k := 0) rfl (by decide) (by decide) rfl (fun ls hl => ?_)
  refine lv_goto (tgt := 56) hx hb dX9_become_77 (by decide) ?_
  refine lv_iload_n hx hb dX9_become_56 rfl (lv_at hl 0 rfl) ?_
  refine lv_bipush (v := 6) hx hb dX9_become_57 (by decide) ?_
  refine lv_icmp_ge (tgt := 80) hx hb dX9_become_59 (by decide) (fun c_7 => absurd c_7 (by decide)) (fun c_7 => ?_)
  refine lv_aload_n hx hb dX9_become_62 rfl (lv_at hl 1 rfl) ?_
  refine va_get (ci := 9) (v := .ref l0) (C := RX9) (T := TX9) (N := 10) hx hb hts hw9 hown hK hP 0 rfl rfl 3 (by decide) (hts (.fieldLink RX9 23 "SmokeTune$Town" "laws" "[LSmokeTune$Script;") (List.mem_cons_of_mem _ (List.mem_append_left _ (List.mem_of_getElem? (i := 7) rfl)))) (fun _ h9 => h9) rfl dX9_become_63 ?_
  refine lv_iload_n hx hb dX9_become_66 rfl (lv_at hl 0 rfl) ?_
  refine lv_aload_n hx hb dX9_become_67 rfl (lv_at hl 2 rfl) ?_
  refine va_get (ci := 9) (v := .ref l1) (C := RX9) (T := TX9) (N := 10) hx hb hts hw9 hown hK hP 1 rfl rfl 3 (by decide) (hts (.fieldLink RX9 23 "SmokeTune$Town" "laws" "[LSmokeTune$Script;") (List.mem_cons_of_mem _ (List.mem_append_left _ (List.mem_of_getElem? (i := 7) rfl)))) (fun _ h9 => h9) rfl dX9_become_68 ?_
  refine lv_iload_n hx hb dX9_become_71 rfl (lv_at hl 0 rfl) ?_
  refine va_aldq (C := "SmokeTune$Script") hx hb hK hP 9 4 rfl rfl (i_in (x := 3) rfl (by omega)) dX9_become_72 ?_
  refine W.eq (g2 := F0 m 73 ls [.null, .int 3, .ref l0]) rfl ?_
  refine va_astqN (C := "SmokeTune$Script") hx hb hK hP hD hS 8 4 rfl rfl (i_in (x := 3) rfl (by omega)) dX9_become_73 (fun H locs hP hD hS => ?_)
  have hP : va_P D vwCl [(a0, .inr (9, [.ref f0, .ref c0, .ref m0, .ref l0, .int 0, .int 0, .int (-1), .int 0, .int 0, .int 0])), (a1, .inr (9, [.ref f1, .ref c1, .ref m1, .ref l1, .int 0, .int 0, .int (-1), .int 0, .int 0, .int 0])), (f0, .inl (K 0, 56, .inl f_1)), (f1, .inl (K 0, 56, .inl (fun _ => 0))), (c0, .inl (K 0, 24, .inl f_2)), (c1, .inl (K 0, 24, .inl (fun _ => 0))), (m0, .inl (K 0, 6, .inl f_3)), (m1, .inl (K 0, 6, .inl tm0)), (l0, .inl (K 4, 6, .inr (.inr (.inr (.inr (va_up (va_up (va_up (va_up (fun _ => none) 0 none) 1 none) 2 none) 3 none)))))), (l1, .inl (K 4, 6, .inr (.inr (.inr (.inr (fun _ => none))))))] H := hP
  have hD : va_D A [(a0, .inr (9, [.ref f0, .ref c0, .ref m0, .ref l0, .int 0, .int 0, .int (-1), .int 0, .int 0, .int 0])), (a1, .inr (9, [.ref f1, .ref c1, .ref m1, .ref l1, .int 0, .int 0, .int (-1), .int 0, .int 0, .int 0])), (f0, .inl (K 0, 56, .inl f_1)), (f1, .inl (K 0, 56, .inl (fun _ => 0))), (c0, .inl (K 0, 24, .inl f_2)), (c1, .inl (K 0, 24, .inl (fun _ => 0))), (m0, .inl (K 0, 6, .inl f_3)), (m1, .inl (K 0, 6, .inl tm0)), (l0, .inl (K 4, 6, .inr (.inr (.inr (.inr (va_up (va_up (va_up (va_up (fun _ => none) 0 none) 1 none) 2 none) 3 none)))))), (l1, .inl (K 4, 6, .inr (.inr (.inr (.inr (fun _ => none))))))] := hD
  refine lv_iinc (v := 4) (lv' := [(2, .int 4), (0, .ref a0), (1, .ref a1)]) hx hb dX9_become_74 hl (k := 0) rfl (by decide) (by decide) rfl (fun ls hl => ?_)
  refine lv_goto (tgt := 56) hx hb dX9_become_77 (by decide) ?_
  refine lv_iload_n hx hb dX9_become_56 rfl (lv_at hl 0 rfl) ?_
  refine lv_bipush (v := 6) hx hb dX9_become_57 (by decide) ?_
  refine lv_icmp_ge (tgt := 80) hx hb dX9_become_59 (by decide) (fun c_8 => absurd c_8 (by decide)) (fun c_8 => ?_)
  refine lv_aload_n hx hb dX9_become_62 rfl (lv_at hl 1 rfl) ?_
  refine va_get (ci := 9) (v := .ref l0) (C := RX9) (T := TX9) (N := 10) hx hb hts hw9 hown hK hP 0 rfl rfl 3 (by decide) (hts (.fieldLink RX9 23 "SmokeTune$Town" "laws" "[LSmokeTune$Script;") (List.mem_cons_of_mem _ (List.mem_append_left _ (List.mem_of_getElem? (i := 7) rfl)))) (fun _ h9 => h9) rfl dX9_become_63 ?_
  refine lv_iload_n hx hb dX9_become_66 rfl (lv_at hl 0 rfl) ?_
  refine lv_aload_n hx hb dX9_become_67 rfl (lv_at hl 2 rfl) ?_
  refine va_get (ci := 9) (v := .ref l1) (C := RX9) (T := TX9) (N := 10) hx hb hts hw9 hown hK hP 1 rfl rfl 3 (by decide) (hts (.fieldLink RX9 23 "SmokeTune$Town" "laws" "[LSmokeTune$Script;") (List.mem_cons_of_mem _ (List.mem_append_left _ (List.mem_of_getElem? (i := 7) rfl)))) (fun _ h9 => h9) rfl dX9_become_68 ?_
  refine lv_iload_n hx hb dX9_become_71 rfl (lv_at hl 0 rfl) ?_
  refine va_aldq (C := "SmokeTune$Script") hx hb hK hP 9 4 rfl rfl (i_in (x := 4) rfl (by omega)) dX9_become_72 ?_
  refine W.eq (g2 := F0 m 73 ls [.null, .int 4, .ref l0]) rfl ?_
  refine va_astqN (C := "SmokeTune$Script") hx hb hK hP hD hS 8 4 rfl rfl (i_in (x := 4) rfl (by omega)) dX9_become_73 (fun H locs hP hD hS => ?_)
  have hP : va_P D vwCl [(a0, .inr (9, [.ref f0, .ref c0, .ref m0, .ref l0, .int 0, .int 0, .int (-1), .int 0, .int 0, .int 0])), (a1, .inr (9, [.ref f1, .ref c1, .ref m1, .ref l1, .int 0, .int 0, .int (-1), .int 0, .int 0, .int 0])), (f0, .inl (K 0, 56, .inl f_1)), (f1, .inl (K 0, 56, .inl (fun _ => 0))), (c0, .inl (K 0, 24, .inl f_2)), (c1, .inl (K 0, 24, .inl (fun _ => 0))), (m0, .inl (K 0, 6, .inl f_3)), (m1, .inl (K 0, 6, .inl tm0)), (l0, .inl (K 4, 6, .inr (.inr (.inr (.inr (va_up (va_up (va_up (va_up (va_up (fun _ => none) 0 none) 1 none) 2 none) 3 none) 4 none)))))), (l1, .inl (K 4, 6, .inr (.inr (.inr (.inr (fun _ => none))))))] H := hP
  have hD : va_D A [(a0, .inr (9, [.ref f0, .ref c0, .ref m0, .ref l0, .int 0, .int 0, .int (-1), .int 0, .int 0, .int 0])), (a1, .inr (9, [.ref f1, .ref c1, .ref m1, .ref l1, .int 0, .int 0, .int (-1), .int 0, .int 0, .int 0])), (f0, .inl (K 0, 56, .inl f_1)), (f1, .inl (K 0, 56, .inl (fun _ => 0))), (c0, .inl (K 0, 24, .inl f_2)), (c1, .inl (K 0, 24, .inl (fun _ => 0))), (m0, .inl (K 0, 6, .inl f_3)), (m1, .inl (K 0, 6, .inl tm0)), (l0, .inl (K 4, 6, .inr (.inr (.inr (.inr (va_up (va_up (va_up (va_up (va_up (fun _ => none) 0 none) 1 none) 2 none) 3 none) 4 none)))))), (l1, .inl (K 4, 6, .inr (.inr (.inr (.inr (fun _ => none))))))] := hD
  refine lv_iinc (v := 5) (lv' := [(2, .int 5), (0, .ref a0), (1, .ref a1)]) hx hb dX9_become_74 hl (k := 0) rfl (by decide) (by decide) rfl (fun ls hl => ?_)
  refine lv_goto (tgt := 56) hx hb dX9_become_77 (by decide) ?_
  refine lv_iload_n hx hb dX9_become_56 rfl (lv_at hl 0 rfl) ?_
  refine lv_bipush (v := 6) hx hb dX9_become_57 (by decide) ?_
  refine lv_icmp_ge (tgt := 80) hx hb dX9_become_59 (by decide) (fun c_9 => absurd c_9 (by decide)) (fun c_9 => ?_)
  refine lv_aload_n hx hb dX9_become_62 rfl (lv_at hl 1 rfl) ?_
  refine va_get (ci := 9) (v := .ref l0) (C := RX9) (T := TX9) (N := 10) hx hb hts hw9 hown hK hP 0 rfl rfl 3 (by decide) (hts (.fieldLink RX9 23 "SmokeTune$Town" "laws" "[LSmokeTune$Script;") (List.mem_cons_of_mem _ (List.mem_append_left _ (List.mem_of_getElem? (i := 7) rfl)))) (fun _ h9 => h9) rfl dX9_become_63 ?_
  refine lv_iload_n hx hb dX9_become_66 rfl (lv_at hl 0 rfl) ?_
  refine lv_aload_n hx hb dX9_become_67 rfl (lv_at hl 2 rfl) ?_
  refine va_get (ci := 9) (v := .ref l1) (C := RX9) (T := TX9) (N := 10) hx hb hts hw9 hown hK hP 1 rfl rfl 3 (by decide) (hts (.fieldLink RX9 23 "SmokeTune$Town" "laws" "[LSmokeTune$Script;") (List.mem_cons_of_mem _ (List.mem_append_left _ (List.mem_of_getElem? (i := 7) rfl)))) (fun _ h9 => h9) rfl dX9_become_68 ?_
  refine lv_iload_n hx hb dX9_become_71 rfl (lv_at hl 0 rfl) ?_
  refine va_aldq (C := "SmokeTune$Script") hx hb hK hP 9 4 rfl rfl (i_in (x := 5) rfl (by omega)) dX9_become_72 ?_
  refine W.eq (g2 := F0 m 73 ls [.null, .int 5, .ref l0]) rfl ?_
  refine va_astqN (C := "SmokeTune$Script") hx hb hK hP hD hS 8 4 rfl rfl (i_in (x := 5) rfl (by omega)) dX9_become_73 (fun H locs hP hD hS => ?_)
  have hP : va_P D vwCl [(a0, .inr (9, [.ref f0, .ref c0, .ref m0, .ref l0, .int 0, .int 0, .int (-1), .int 0, .int 0, .int 0])), (a1, .inr (9, [.ref f1, .ref c1, .ref m1, .ref l1, .int 0, .int 0, .int (-1), .int 0, .int 0, .int 0])), (f0, .inl (K 0, 56, .inl f_1)), (f1, .inl (K 0, 56, .inl (fun _ => 0))), (c0, .inl (K 0, 24, .inl f_2)), (c1, .inl (K 0, 24, .inl (fun _ => 0))), (m0, .inl (K 0, 6, .inl f_3)), (m1, .inl (K 0, 6, .inl tm0)), (l0, .inl (K 4, 6, .inr (.inr (.inr (.inr (va_up (va_up (va_up (va_up (va_up (va_up (fun _ => none) 0 none) 1 none) 2 none) 3 none) 4 none) 5 none)))))), (l1, .inl (K 4, 6, .inr (.inr (.inr (.inr (fun _ => none))))))] H := hP
  have hD : va_D A [(a0, .inr (9, [.ref f0, .ref c0, .ref m0, .ref l0, .int 0, .int 0, .int (-1), .int 0, .int 0, .int 0])), (a1, .inr (9, [.ref f1, .ref c1, .ref m1, .ref l1, .int 0, .int 0, .int (-1), .int 0, .int 0, .int 0])), (f0, .inl (K 0, 56, .inl f_1)), (f1, .inl (K 0, 56, .inl (fun _ => 0))), (c0, .inl (K 0, 24, .inl f_2)), (c1, .inl (K 0, 24, .inl (fun _ => 0))), (m0, .inl (K 0, 6, .inl f_3)), (m1, .inl (K 0, 6, .inl tm0)), (l0, .inl (K 4, 6, .inr (.inr (.inr (.inr (va_up (va_up (va_up (va_up (va_up (va_up (fun _ => none) 0 none) 1 none) 2 none) 3 none) 4 none) 5 none)))))), (l1, .inl (K 4, 6, .inr (.inr (.inr (.inr (fun _ => none))))))] := hD
  refine lv_iinc (v := 6) (lv' := [(2, .int 6), (0, .ref a0), (1, .ref a1)]) hx hb dX9_become_74 hl (k := 0) rfl (by decide) (by decide) rfl (fun ls hl => ?_)
  refine lv_goto (tgt := 56) hx hb dX9_become_77 (by decide) ?_
  refine lv_iload_n hx hb dX9_become_56 rfl (lv_at hl 0 rfl) ?_
  refine lv_bipush (v := 6) hx hb dX9_become_57 (by decide) ?_
  refine lv_icmp_ge (tgt := 80) hx hb dX9_become_59 (by decide) (fun c_10 => ?_) (fun c_10 => absurd (by decide) c_10)
  refine lv_aload_n hx hb dX9_become_80 rfl (lv_at hl 1 rfl) ?_
  refine lv_aload_n hx hb dX9_become_81 rfl (lv_at hl 2 rfl) ?_
  refine va_get (ci := 9) (v := .int 0) (C := RX9) (T := TX9) (N := 10) hx hb hts hw9 hown hK hP 1 rfl rfl 4 (by decide) (hts (.fieldLink RX9 27 "SmokeTune$Town" "houses" "I") (List.mem_cons_of_mem _ (List.mem_append_left _ (List.mem_of_getElem? (i := 8) rfl)))) (fun _ h9 => h9) rfl dX9_become_82 ?_
  refine va_put (ci := 9) (v := .int 0) (ty := .int) (C := RX9) (T := TX9) (N := 10) hx hb hts hw9 tyX9 tyX9_ok nmX9 hown hK hP hD hS 0 rfl rfl 4 (by decide) (hts (.fieldLink RX9 27 "SmokeTune$Town" "houses" "I") (List.mem_cons_of_mem _ (List.mem_append_left _ (List.mem_of_getElem? (i := 8) rfl)))) (fun _ h9 => h9) rfl (by decide +kernel) (by first | rfl | decide) (by first | rfl | decide) (Nat.le_of_ble_eq_true rfl) dX9_become_85 (fun H locs hP hD hS => ?_)
  have hP : va_P D vwCl [(a0, .inr (9, [.ref f0, .ref c0, .ref m0, .ref l0, .int 0, .int 0, .int (-1), .int 0, .int 0, .int 0])), (a1, .inr (9, [.ref f1, .ref c1, .ref m1, .ref l1, .int 0, .int 0, .int (-1), .int 0, .int 0, .int 0])), (f0, .inl (K 0, 56, .inl f_1)), (f1, .inl (K 0, 56, .inl (fun _ => 0))), (c0, .inl (K 0, 24, .inl f_2)), (c1, .inl (K 0, 24, .inl (fun _ => 0))), (m0, .inl (K 0, 6, .inl f_3)), (m1, .inl (K 0, 6, .inl tm0)), (l0, .inl (K 4, 6, .inr (.inr (.inr (.inr (va_up (va_up (va_up (va_up (va_up (va_up (fun _ => none) 0 none) 1 none) 2 none) 3 none) 4 none) 5 none)))))), (l1, .inl (K 4, 6, .inr (.inr (.inr (.inr (fun _ => none))))))] H := hP
  have hD : va_D A [(a0, .inr (9, [.ref f0, .ref c0, .ref m0, .ref l0, .int 0, .int 0, .int (-1), .int 0, .int 0, .int 0])), (a1, .inr (9, [.ref f1, .ref c1, .ref m1, .ref l1, .int 0, .int 0, .int (-1), .int 0, .int 0, .int 0])), (f0, .inl (K 0, 56, .inl f_1)), (f1, .inl (K 0, 56, .inl (fun _ => 0))), (c0, .inl (K 0, 24, .inl f_2)), (c1, .inl (K 0, 24, .inl (fun _ => 0))), (m0, .inl (K 0, 6, .inl f_3)), (m1, .inl (K 0, 6, .inl tm0)), (l0, .inl (K 4, 6, .inr (.inr (.inr (.inr (va_up (va_up (va_up (va_up (va_up (va_up (fun _ => none) 0 none) 1 none) 2 none) 3 none) 4 none) 5 none)))))), (l1, .inl (K 4, 6, .inr (.inr (.inr (.inr (fun _ => none))))))] := hD
  refine lv_aload_n hx hb dX9_become_88 rfl (lv_at hl 1 rfl) ?_
  refine lv_aload_n hx hb dX9_become_89 rfl (lv_at hl 2 rfl) ?_
  refine va_get (ci := 9) (v := .int 0) (C := RX9) (T := TX9) (N := 10) hx hb hts hw9 hown hK hP 1 rfl rfl 5 (by decide) (hts (.fieldLink RX9 31 "SmokeTune$Town" "lawTotal" "I") (List.mem_cons_of_mem _ (List.mem_append_left _ (List.mem_of_getElem? (i := 9) rfl)))) (fun _ h9 => h9) rfl dX9_become_90 ?_
  refine va_put (ci := 9) (v := .int 0) (ty := .int) (C := RX9) (T := TX9) (N := 10) hx hb hts hw9 tyX9 tyX9_ok nmX9 hown hK hP hD hS 0 rfl rfl 5 (by decide) (hts (.fieldLink RX9 31 "SmokeTune$Town" "lawTotal" "I") (List.mem_cons_of_mem _ (List.mem_append_left _ (List.mem_of_getElem? (i := 9) rfl)))) (fun _ h9 => h9) rfl (by decide +kernel) (by first | rfl | decide) (by first | rfl | decide) (Nat.le_of_ble_eq_true rfl) dX9_become_93 (fun H locs hP hD hS => ?_)
  have hP : va_P D vwCl [(a0, .inr (9, [.ref f0, .ref c0, .ref m0, .ref l0, .int 0, .int 0, .int (-1), .int 0, .int 0, .int 0])), (a1, .inr (9, [.ref f1, .ref c1, .ref m1, .ref l1, .int 0, .int 0, .int (-1), .int 0, .int 0, .int 0])), (f0, .inl (K 0, 56, .inl f_1)), (f1, .inl (K 0, 56, .inl (fun _ => 0))), (c0, .inl (K 0, 24, .inl f_2)), (c1, .inl (K 0, 24, .inl (fun _ => 0))), (m0, .inl (K 0, 6, .inl f_3)), (m1, .inl (K 0, 6, .inl tm0)), (l0, .inl (K 4, 6, .inr (.inr (.inr (.inr (va_up (va_up (va_up (va_up (va_up (va_up (fun _ => none) 0 none) 1 none) 2 none) 3 none) 4 none) 5 none)))))), (l1, .inl (K 4, 6, .inr (.inr (.inr (.inr (fun _ => none))))))] H := hP
  have hD : va_D A [(a0, .inr (9, [.ref f0, .ref c0, .ref m0, .ref l0, .int 0, .int 0, .int (-1), .int 0, .int 0, .int 0])), (a1, .inr (9, [.ref f1, .ref c1, .ref m1, .ref l1, .int 0, .int 0, .int (-1), .int 0, .int 0, .int 0])), (f0, .inl (K 0, 56, .inl f_1)), (f1, .inl (K 0, 56, .inl (fun _ => 0))), (c0, .inl (K 0, 24, .inl f_2)), (c1, .inl (K 0, 24, .inl (fun _ => 0))), (m0, .inl (K 0, 6, .inl f_3)), (m1, .inl (K 0, 6, .inl tm0)), (l0, .inl (K 4, 6, .inr (.inr (.inr (.inr (va_up (va_up (va_up (va_up (va_up (va_up (fun _ => none) 0 none) 1 none) 2 none) 3 none) 4 none) 5 none)))))), (l1, .inl (K 4, 6, .inr (.inr (.inr (.inr (fun _ => none))))))] := hD
  refine lv_aload_n hx hb dX9_become_96 rfl (lv_at hl 1 rfl) ?_
  refine lv_aload_n hx hb dX9_become_97 rfl (lv_at hl 2 rfl) ?_
  refine va_get (ci := 9) (v := .int (-1)) (C := RX9) (T := TX9) (N := 10) hx hb hts hw9 hown hK hP 1 rfl rfl 6 (by decide) (hts (.fieldLink RX9 34 "SmokeTune$Town" "inForce" "I") (List.mem_cons_of_mem _ (List.mem_append_left _ (List.mem_of_getElem? (i := 10) rfl)))) (fun _ h9 => h9) rfl dX9_become_98 ?_
  refine va_put (ci := 9) (v := .int (-1)) (ty := .int) (C := RX9) (T := TX9) (N := 10) hx hb hts hw9 tyX9 tyX9_ok nmX9 hown hK hP hD hS 0 rfl rfl 6 (by decide) (hts (.fieldLink RX9 34 "SmokeTune$Town" "inForce" "I") (List.mem_cons_of_mem _ (List.mem_append_left _ (List.mem_of_getElem? (i := 10) rfl)))) (fun _ h9 => h9) rfl (by decide +kernel) (by first | rfl | decide) (by first | rfl | decide) (Nat.le_of_ble_eq_true rfl) dX9_become_101 (fun H locs hP hD hS => ?_)
  have hP : va_P D vwCl [(a0, .inr (9, [.ref f0, .ref c0, .ref m0, .ref l0, .int 0, .int 0, .int (-1), .int 0, .int 0, .int 0])), (a1, .inr (9, [.ref f1, .ref c1, .ref m1, .ref l1, .int 0, .int 0, .int (-1), .int 0, .int 0, .int 0])), (f0, .inl (K 0, 56, .inl f_1)), (f1, .inl (K 0, 56, .inl (fun _ => 0))), (c0, .inl (K 0, 24, .inl f_2)), (c1, .inl (K 0, 24, .inl (fun _ => 0))), (m0, .inl (K 0, 6, .inl f_3)), (m1, .inl (K 0, 6, .inl tm0)), (l0, .inl (K 4, 6, .inr (.inr (.inr (.inr (va_up (va_up (va_up (va_up (va_up (va_up (fun _ => none) 0 none) 1 none) 2 none) 3 none) 4 none) 5 none)))))), (l1, .inl (K 4, 6, .inr (.inr (.inr (.inr (fun _ => none))))))] H := hP
  have hD : va_D A [(a0, .inr (9, [.ref f0, .ref c0, .ref m0, .ref l0, .int 0, .int 0, .int (-1), .int 0, .int 0, .int 0])), (a1, .inr (9, [.ref f1, .ref c1, .ref m1, .ref l1, .int 0, .int 0, .int (-1), .int 0, .int 0, .int 0])), (f0, .inl (K 0, 56, .inl f_1)), (f1, .inl (K 0, 56, .inl (fun _ => 0))), (c0, .inl (K 0, 24, .inl f_2)), (c1, .inl (K 0, 24, .inl (fun _ => 0))), (m0, .inl (K 0, 6, .inl f_3)), (m1, .inl (K 0, 6, .inl tm0)), (l0, .inl (K 4, 6, .inr (.inr (.inr (.inr (va_up (va_up (va_up (va_up (va_up (va_up (fun _ => none) 0 none) 1 none) 2 none) 3 none) 4 none) 5 none)))))), (l1, .inl (K 4, 6, .inr (.inr (.inr (.inr (fun _ => none))))))] := hD
  refine lv_aload_n hx hb dX9_become_104 rfl (lv_at hl 1 rfl) ?_
  refine lv_aload_n hx hb dX9_become_105 rfl (lv_at hl 2 rfl) ?_
  refine va_get (ci := 9) (v := .int 0) (C := RX9) (T := TX9) (N := 10) hx hb hts hw9 hown hK hP 1 rfl rfl 7 (by decide) (hts (.fieldLink RX9 37 "SmokeTune$Town" "fines" "I") (List.mem_cons_of_mem _ (List.mem_append_left _ (List.mem_of_getElem? (i := 11) rfl)))) (fun _ h9 => h9) rfl dX9_become_106 ?_
  refine va_put (ci := 9) (v := .int 0) (ty := .int) (C := RX9) (T := TX9) (N := 10) hx hb hts hw9 tyX9 tyX9_ok nmX9 hown hK hP hD hS 0 rfl rfl 7 (by decide) (hts (.fieldLink RX9 37 "SmokeTune$Town" "fines" "I") (List.mem_cons_of_mem _ (List.mem_append_left _ (List.mem_of_getElem? (i := 11) rfl)))) (fun _ h9 => h9) rfl (by decide +kernel) (by first | rfl | decide) (by first | rfl | decide) (Nat.le_of_ble_eq_true rfl) dX9_become_109 (fun H locs hP hD hS => ?_)
  have hP : va_P D vwCl [(a0, .inr (9, [.ref f0, .ref c0, .ref m0, .ref l0, .int 0, .int 0, .int (-1), .int 0, .int 0, .int 0])), (a1, .inr (9, [.ref f1, .ref c1, .ref m1, .ref l1, .int 0, .int 0, .int (-1), .int 0, .int 0, .int 0])), (f0, .inl (K 0, 56, .inl f_1)), (f1, .inl (K 0, 56, .inl (fun _ => 0))), (c0, .inl (K 0, 24, .inl f_2)), (c1, .inl (K 0, 24, .inl (fun _ => 0))), (m0, .inl (K 0, 6, .inl f_3)), (m1, .inl (K 0, 6, .inl tm0)), (l0, .inl (K 4, 6, .inr (.inr (.inr (.inr (va_up (va_up (va_up (va_up (va_up (va_up (fun _ => none) 0 none) 1 none) 2 none) 3 none) 4 none) 5 none)))))), (l1, .inl (K 4, 6, .inr (.inr (.inr (.inr (fun _ => none))))))] H := hP
  have hD : va_D A [(a0, .inr (9, [.ref f0, .ref c0, .ref m0, .ref l0, .int 0, .int 0, .int (-1), .int 0, .int 0, .int 0])), (a1, .inr (9, [.ref f1, .ref c1, .ref m1, .ref l1, .int 0, .int 0, .int (-1), .int 0, .int 0, .int 0])), (f0, .inl (K 0, 56, .inl f_1)), (f1, .inl (K 0, 56, .inl (fun _ => 0))), (c0, .inl (K 0, 24, .inl f_2)), (c1, .inl (K 0, 24, .inl (fun _ => 0))), (m0, .inl (K 0, 6, .inl f_3)), (m1, .inl (K 0, 6, .inl tm0)), (l0, .inl (K 4, 6, .inr (.inr (.inr (.inr (va_up (va_up (va_up (va_up (va_up (va_up (fun _ => none) 0 none) 1 none) 2 none) 3 none) 4 none) 5 none)))))), (l1, .inl (K 4, 6, .inr (.inr (.inr (.inr (fun _ => none))))))] := hD
  refine lv_aload_n hx hb dX9_become_112 rfl (lv_at hl 1 rfl) ?_
  refine lv_aload_n hx hb dX9_become_113 rfl (lv_at hl 2 rfl) ?_
  refine va_get (ci := 9) (v := .int 0) (C := RX9) (T := TX9) (N := 10) hx hb hts hw9 hown hK hP 1 rfl rfl 8 (by decide) (hts (.fieldLink RX9 40 "SmokeTune$Town" "heardTimes" "I") (List.mem_cons_of_mem _ (List.mem_append_left _ (List.mem_of_getElem? (i := 12) rfl)))) (fun _ h9 => h9) rfl dX9_become_114 ?_
  refine va_put (ci := 9) (v := .int 0) (ty := .int) (C := RX9) (T := TX9) (N := 10) hx hb hts hw9 tyX9 tyX9_ok nmX9 hown hK hP hD hS 0 rfl rfl 8 (by decide) (hts (.fieldLink RX9 40 "SmokeTune$Town" "heardTimes" "I") (List.mem_cons_of_mem _ (List.mem_append_left _ (List.mem_of_getElem? (i := 12) rfl)))) (fun _ h9 => h9) rfl (by decide +kernel) (by first | rfl | decide) (by first | rfl | decide) (Nat.le_of_ble_eq_true rfl) dX9_become_117 (fun H locs hP hD hS => ?_)
  have hP : va_P D vwCl [(a0, .inr (9, [.ref f0, .ref c0, .ref m0, .ref l0, .int 0, .int 0, .int (-1), .int 0, .int 0, .int 0])), (a1, .inr (9, [.ref f1, .ref c1, .ref m1, .ref l1, .int 0, .int 0, .int (-1), .int 0, .int 0, .int 0])), (f0, .inl (K 0, 56, .inl f_1)), (f1, .inl (K 0, 56, .inl (fun _ => 0))), (c0, .inl (K 0, 24, .inl f_2)), (c1, .inl (K 0, 24, .inl (fun _ => 0))), (m0, .inl (K 0, 6, .inl f_3)), (m1, .inl (K 0, 6, .inl tm0)), (l0, .inl (K 4, 6, .inr (.inr (.inr (.inr (va_up (va_up (va_up (va_up (va_up (va_up (fun _ => none) 0 none) 1 none) 2 none) 3 none) 4 none) 5 none)))))), (l1, .inl (K 4, 6, .inr (.inr (.inr (.inr (fun _ => none))))))] H := hP
  have hD : va_D A [(a0, .inr (9, [.ref f0, .ref c0, .ref m0, .ref l0, .int 0, .int 0, .int (-1), .int 0, .int 0, .int 0])), (a1, .inr (9, [.ref f1, .ref c1, .ref m1, .ref l1, .int 0, .int 0, .int (-1), .int 0, .int 0, .int 0])), (f0, .inl (K 0, 56, .inl f_1)), (f1, .inl (K 0, 56, .inl (fun _ => 0))), (c0, .inl (K 0, 24, .inl f_2)), (c1, .inl (K 0, 24, .inl (fun _ => 0))), (m0, .inl (K 0, 6, .inl f_3)), (m1, .inl (K 0, 6, .inl tm0)), (l0, .inl (K 4, 6, .inr (.inr (.inr (.inr (va_up (va_up (va_up (va_up (va_up (va_up (fun _ => none) 0 none) 1 none) 2 none) 3 none) 4 none) 5 none)))))), (l1, .inl (K 4, 6, .inr (.inr (.inr (.inr (fun _ => none))))))] := hD
  refine lv_aload_n hx hb dX9_become_120 rfl (lv_at hl 1 rfl) ?_
  refine lv_aload_n hx hb dX9_become_121 rfl (lv_at hl 2 rfl) ?_
  refine va_get (ci := 9) (v := .int 0) (C := RX9) (T := TX9) (N := 10) hx hb hts hw9 hown hK hP 1 rfl rfl 9 (by decide) (hts (.fieldLink RX9 43 "SmokeTune$Town" "heardNotes" "I") (List.mem_cons_of_mem _ (List.mem_append_left _ (List.mem_of_getElem? (i := 13) rfl)))) (fun _ h9 => h9) rfl dX9_become_122 ?_
  refine va_put (ci := 9) (v := .int 0) (ty := .int) (C := RX9) (T := TX9) (N := 10) hx hb hts hw9 tyX9 tyX9_ok nmX9 hown hK hP hD hS 0 rfl rfl 9 (by decide) (hts (.fieldLink RX9 43 "SmokeTune$Town" "heardNotes" "I") (List.mem_cons_of_mem _ (List.mem_append_left _ (List.mem_of_getElem? (i := 13) rfl)))) (fun _ h9 => h9) rfl (by decide +kernel) (by first | rfl | decide) (by first | rfl | decide) (Nat.le_of_ble_eq_true rfl) dX9_become_125 (fun H locs hP hD hS => ?_)
  have hP : va_P D vwCl [(a0, .inr (9, [.ref f0, .ref c0, .ref m0, .ref l0, .int 0, .int 0, .int (-1), .int 0, .int 0, .int 0])), (a1, .inr (9, [.ref f1, .ref c1, .ref m1, .ref l1, .int 0, .int 0, .int (-1), .int 0, .int 0, .int 0])), (f0, .inl (K 0, 56, .inl f_1)), (f1, .inl (K 0, 56, .inl (fun _ => 0))), (c0, .inl (K 0, 24, .inl f_2)), (c1, .inl (K 0, 24, .inl (fun _ => 0))), (m0, .inl (K 0, 6, .inl f_3)), (m1, .inl (K 0, 6, .inl tm0)), (l0, .inl (K 4, 6, .inr (.inr (.inr (.inr (va_up (va_up (va_up (va_up (va_up (va_up (fun _ => none) 0 none) 1 none) 2 none) 3 none) 4 none) 5 none)))))), (l1, .inl (K 4, 6, .inr (.inr (.inr (.inr (fun _ => none))))))] H := hP
  have hD : va_D A [(a0, .inr (9, [.ref f0, .ref c0, .ref m0, .ref l0, .int 0, .int 0, .int (-1), .int 0, .int 0, .int 0])), (a1, .inr (9, [.ref f1, .ref c1, .ref m1, .ref l1, .int 0, .int 0, .int (-1), .int 0, .int 0, .int 0])), (f0, .inl (K 0, 56, .inl f_1)), (f1, .inl (K 0, 56, .inl (fun _ => 0))), (c0, .inl (K 0, 24, .inl f_2)), (c1, .inl (K 0, 24, .inl (fun _ => 0))), (m0, .inl (K 0, 6, .inl f_3)), (m1, .inl (K 0, 6, .inl tm0)), (l0, .inl (K 4, 6, .inr (.inr (.inr (.inr (va_up (va_up (va_up (va_up (va_up (va_up (fun _ => none) 0 none) 1 none) 2 none) 3 none) 4 none) 5 none)))))), (l1, .inl (K 4, 6, .inr (.inr (.inr (.inr (fun _ => none))))))] := hD
  have hP9 := hP.sub (ws' := [(a0, .inr (9, [.ref f0, .ref c0, .ref m0, .ref l0, .int 0, .int 0, .int (-1), .int 0, .int 0, .int 0])), (a1, .inr (9, [.ref f1, .ref c1, .ref m1, .ref l1, .int 0, .int 0, .int (-1), .int 0, .int 0, .int 0])), (f0, .inl (K 0, 56, .inl f_1)), (f1, .inl (K 0, 56, .inl (fun _ => 0))), (c0, .inl (K 0, 24, .inl f_2)), (c1, .inl (K 0, 24, .inl (fun _ => 0))), (m0, .inl (K 0, 6, .inl f_3)), (m1, .inl (K 0, 6, .inl tm0)), (l0, .inl (K 4, 6, .inr (.inr (.inr (.inr (va_up (va_up (va_up (va_up (va_up (va_up (fun _ => none) 0 none) 1 none) 2 none) 3 none) 4 none) 5 none)))))), (l1, .inl (K 4, 6, .inr (.inr (.inr (.inr (fun _ => none))))))]) [0, 1, 2, 3, 4, 5, 6, 7, 8, 9] rfl
  have hD9 := hD.sub (ws' := [(a0, .inr (9, [.ref f0, .ref c0, .ref m0, .ref l0, .int 0, .int 0, .int (-1), .int 0, .int 0, .int 0])), (a1, .inr (9, [.ref f1, .ref c1, .ref m1, .ref l1, .int 0, .int 0, .int (-1), .int 0, .int 0, .int 0])), (f0, .inl (K 0, 56, .inl f_1)), (f1, .inl (K 0, 56, .inl (fun _ => 0))), (c0, .inl (K 0, 24, .inl f_2)), (c1, .inl (K 0, 24, .inl (fun _ => 0))), (m0, .inl (K 0, 6, .inl f_3)), (m1, .inl (K 0, 6, .inl tm0)), (l0, .inl (K 4, 6, .inr (.inr (.inr (.inr (va_up (va_up (va_up (va_up (va_up (va_up (fun _ => none) 0 none) 1 none) 2 none) 3 none) 4 none) 5 none)))))), (l1, .inl (K 4, 6, .inr (.inr (.inr (.inr (fun _ => none))))))]) [0, 1, 2, 3, 4, 5, 6, 7, 8, 9] (by decide) rfl
  exact W.vret hx hb hr (fun t ht hW => ⟨⟨(fun _ => 0, fun i => match i with | 0 => f_1 | 1 => f_2 | _ => f_3, fun _ => fun _ => 0, fun _ => 0), rfl, ⟨fun j _ => by show f_2 j = 0; rw [← hf_2]; simp [va_cpy], by show f_3 0 = 0; rw [← hf_3]; rfl, by show f_3 1 = 0; rw [← hf_3]; rfl⟩, (⟨by rw [ht]; exact hP9, hD9⟩ : Wd D A _ t)⟩, hS.F ht⟩) hS.2.2 dX9_become_128
set_option maxHeartbeats 4000000 in
set_option maxRecDepth 100000 in
theorem c_byDraws (l : Launch) (D : va_G) (K : Nat → ClassId) (a0 : Nat) (a1 : Nat) (x : Int32) (g0 : Value) (k0 : Value) (a2 : Nat) (a3 : Nat) (k3 : Value) (k5 : Value) (k6 : Value) (k8 : Value) (k9 : Value) (fc : Nat → Int32) (ft : Nat → Int32) (nn : Nat) (sz : Nat) (h0 : ft 0 = nI 0) (h1 : ft 1 = nI 0) (hnn : nn ≤ 100) (hc : ∀ j, j < 24 → fc j = 0) : Met l yX10_byDraws wsX10_byDraws ({ frames := 3, cells := 0, slots := 0, locals := 66 }) (va_Pc [.ref a0, .ref a1, .int x, .int (nI nn)] (Pre D K [(a0, .inr (10, [g0])), (a1, .inr (9, [k0, .ref a2, .ref a3, k3, .int 0, k5, k6, .int 0, k8, k9])), (a2, .inl (K 0, 24, .inl fc)), (a3, .inl (K 0, 6, .inl ft))] sz)) (va_Qi (S := (Nat → Nat) × (Nat → Nat → Int32) × (Nat → Nat → Int64) × (Nat → Int32)) (fun (r : Int32) (_ : (Nat → Nat) × (Nat → Nat → Int32) × (Nat → Nat → Int64) × (Nat → Int32)) => (r = (nI nn))) (fun u t => Wd D (va_A [(a0, .inr (10, [g0])), (a1, .inr (9, [k0, .ref a2, .ref a3, k3, .int 0, k5, k6, .int 0, k8, k9])), (a2, .inl (K 0, 24, .inl fc)), (a3, .inl (K 0, 6, .inl ft))] sz) ((fun u => [(a0, .inr (10, [g0])), (a1, .inr (9, [k0, .ref a2, .ref a3, k3, .int 0, k5, k6, .int 0, k8, k9])), (a2, .inl (K 0, 24, .inl fc)), (a3, .inl (K 0, 6, .inl ((u.2.1 0))))]) u) t) (va_A [(a0, .inr (10, [g0])), (a1, .inr (9, [k0, .ref a2, .ref a3, k3, .int 0, k5, k6, .int 0, k8, k9])), (a2, .inl (K 0, 24, .inl fc)), (a3, .inl (K 0, 6, .inl ft))] sz)) 0 0 (va_A [(a0, .inr (10, [g0])), (a1, .inr (9, [k0, .ref a2, .ref a3, k3, .int 0, k5, k6, .int 0, k8, k9])), (a2, .inl (K 0, 24, .inl fc)), (a3, .inl (K 0, 6, .inl ft))] sz) := by
  refine Met.ofW (cc := cX10_byDraws) (maxL := 8) (ret := (some .int)) (by decide) rfl ?_
  intro p e s m args below meth c s₁ B hml hv
  obtain ⟨rfl, hsz, hP, hK, hD0, hN⟩ := hv
  have hx := B.exec
  have hb := B.bytes
  have hr := B.returns
  have hts := atoms_spec (ws := wsX10_byDraws) B.pre
  have hown : s.vm.findClass RX10 = some m.cls := findClass_of_methodNamed B.named
  have hlocks := B.notSynchronized
  subst hsz
  have hD := hD0.self (sz := s.heap.size)
  generalize hAe : va_A [(a0, .inr (10, [g0])), (a1, .inr (9, [k0, .ref a2, .ref a3, k3, .int 0, k5, k6, .int 0, k8, k9])), (a2, .inl (K 0, 24, .inl fc)), (a3, .inl (K 0, 6, .inl ft))] s.heap.size = A at hD ⊢
  have hA : ∀ q : Nat, s.heap.size ≤ q → A q := fun q h => by rw [← hAe]; exact Or.inr h
  have hS : va_S A s.heap s.heap [] := va_S.rf
  have hP : va_P D vwCl [(a0, .inr (10, [g0])), (a1, .inr (9, [k0, .ref a2, .ref a3, k3, .int 0, k5, k6, .int 0, k8, k9])), (a2, .inl (K 0, 24, .inl fc)), (a3, .inl (K 0, 6, .inl ft))] s.heap := hP
  have hl := lv_entry [.ref a0, .ref a1, .int x, .int (nI nn)] (n := 8) (Nat.le_of_ble_eq_true rfl)
  rw [lg_entry_eq]
  generalize (lg_sl [.ref a0, .ref a1, .int x, .int (nI nn)] ++ List.replicate (8 - (lg_sl [.ref a0, .ref a1, .int x, .int (nI nn)]).length) Slot.unset).toArray = ls at hl ⊢
  have hl : lv_has ls 8 [(0, .ref a0), (1, .ref a1), (2, .int x), (3, .int (nI nn))] := hl
  have hw0 : ∀ w ∈ wsX00, w ∈ wsX10_byDraws := fun w h => (List.mem_cons_of_mem _ (List.mem_append_left _ (List.mem_append_left _ (List.mem_append_right _ h))))
  have hw3 : ∀ w ∈ wsX30, w ∈ wsX10_byDraws := fun w h => (List.mem_cons_of_mem _ (List.mem_append_right _ h))
  have hw7 : ∀ w ∈ wsX70, w ∈ wsX10_byDraws := fun w h => (List.mem_cons_of_mem _ (List.mem_append_left _ (List.mem_append_right _ h)))
  have hw9 : ∀ w ∈ wsX90, w ∈ wsX10_byDraws := fun w h => (List.mem_cons_of_mem _ (List.mem_append_left _ (List.mem_append_left _ (List.mem_append_left _ (List.mem_append_left _ (List.mem_append_right _ h))))))
  have hw10 : ∀ w ∈ wsX100, w ∈ wsX10_byDraws := fun w h => (List.mem_cons_of_mem _ (List.mem_append_left _ (List.mem_append_left _ (List.mem_append_left _ (List.mem_append_right _ h)))))
  generalize hQ : MQ below _ _ s _ _ _ = Q
  refine lv_iload_n hx hb dX10_byDraws_0 rfl (lv_at hl 2 rfl) ?_
  refine lv_istore (lv' := [(4, .int x), (0, .ref a0), (1, .ref a1), (2, .int x), (3, .int (nI nn))]) hx hb dX10_byDraws_1 hl (by decide) rfl (fun ls hl => ?_)
  refine lv_iconst (v := 0) hx hb dX10_byDraws_3 (by decide) ?_
  refine lv_istore (lv' := [(5, .int 0), (4, .int x), (0, .ref a0), (1, .ref a1), (2, .int x), (3, .int (nI nn))]) hx hb dX10_byDraws_4 hl (by decide) rfl (fun ls hl => ?_)
  refine lv_iconst (v := 0) hx hb dX10_byDraws_6 (by decide) ?_
  refine lv_istore (lv' := [(6, .int 0), (5, .int 0), (4, .int x), (0, .ref a0), (1, .ref a1), (2, .int x), (3, .int (nI nn))]) hx hb dX10_byDraws_7 hl (by decide) rfl (fun ls hl => ?_)
  have lp_1 : ∀ (n : Nat) (i : Nat) (f_900 : Nat → Int32) (hn : nn + 1 ≤ i + n) (hiN : i ≤ nn) (hk0 : f_900 0 = nI (i % 24)) (hk1 : f_900 1 = nI (i / 24)) (H : Heap) (locs : List Loc) (hP : va_P D vwCl [(a0, .inr (10, [g0])), (a1, .inr (9, [k0, .ref a2, .ref a3, k3, .int 0, k5, k6, .int 0, k8, k9])), (a2, .inl (K 0, 24, .inl fc)), (a3, .inl (K 0, 6, .inl f_900))] H) (hD : va_D A [(a0, .inr (10, [g0])), (a1, .inr (9, [k0, .ref a2, .ref a3, k3, .int 0, k5, k6, .int 0, k8, k9])), (a2, .inl (K 0, 24, .inl fc)), (a3, .inl (K 0, 6, .inl f_900))]) (hS : va_S A s.heap H locs) (ls : Array Slot) (hl : lv_has ls 8 [(6, .int (nI i)), (5, .int (nI i)), (4, .int x), (0, .ref a0), (1, .ref a1), (2, .int x), (3, .int (nI nn))]), W p l e ({ frames := 3, cells := 0, slots := 0, locals := 66 }) s m (([.ref a0, .ref a1, .int x, .int (nI nn)] : List Value).toArray) below meth c H locs 0 0 Q (F0 m 9 ls []) := by
    intro n
    induction n with
    | zero =>
      intro i f_900 hn hiN hk0 hk1 H locs hP hD hS ls hl
      exfalso; omega
    | succ n ih =>
      intro i f_900 hn hiN hk0 hk1 H locs hP hD hS ls hl
      refine lv_iload hx hb dX10_byDraws_9 (lv_at hl 0 rfl) ?_
      refine lv_iload_n hx hb dX10_byDraws_11 rfl (lv_at hl 6 rfl) ?_
      refine lv_icmp_ge (tgt := 81) hx hb dX10_byDraws_12 (by decide) (fun c_2 => ?_) (fun c_2 => ?_)
      · have c_2i := i_le (x := ((nn : Nat) : Int)) (y := ((i : Nat) : Int)) (nI_toInt (by omega)) (nI_toInt (by omega)) c_2
        refine lv_iload hx hb dX10_byDraws_81 (lv_at hl 1 rfl) ?_
        subst hQ
        have hP9 := hP.sub (ws' := [(a0, .inr (10, [g0])), (a1, .inr (9, [k0, .ref a2, .ref a3, k3, .int 0, k5, k6, .int 0, k8, k9])), (a2, .inl (K 0, 24, .inl fc)), (a3, .inl (K 0, 6, .inl f_900))]) [0, 1, 2, 3] rfl
        have hD9 := hD.sub (ws' := [(a0, .inr (10, [g0])), (a1, .inr (9, [k0, .ref a2, .ref a3, k3, .int 0, k5, k6, .int 0, k8, k9])), (a2, .inl (K 0, 24, .inl fc)), (a3, .inl (K 0, 6, .inl f_900))]) [0, 1, 2, 3] (by decide) rfl
        exact W.iret (v := (nI i)) hx hb hr (fun t ht hW => ⟨⟨(nI i), (fun _ => 0, fun i => match i with | _ => f_900, fun _ => fun _ => 0, fun _ => 0), rfl, (by obtain rfl : i = nn := (by omega); exact rfl), (⟨by rw [ht]; exact hP9, hD9⟩ : Wd D A _ t)⟩, hS.F ht⟩) hS.2.2 dX10_byDraws_83
      · have c_2i := i_nle (x := ((nn : Nat) : Int)) (y := ((i : Nat) : Int)) (nI_toInt (by omega)) (nI_toInt (by omega)) c_2
        refine lv_aload_n hx hb dX10_byDraws_15 rfl (lv_at hl 4 rfl) ?_
        refine va_getN (ci := 9) (v := .int 0) (C := RX9) (T := TX9) (N := 10) hx hb hts hw9 hown hK hP 1 rfl rfl 4 (by decide) (nst_use hN 109 rfl) (fun _ h9 => h9) rfl dX10_byDraws_16 ?_
        refine lv_if_le (tgt := 53) hx hb dX10_byDraws_19 (by decide) (fun c_3 => ?_) (fun c_3 => absurd (by decide) c_3)
        refine lv_aload_n hx hb dX10_byDraws_53 rfl (lv_at hl 3 rfl) ?_
        refine lv_aload_n hx hb dX10_byDraws_54 rfl (lv_at hl 4 rfl) ?_
        refine kci (wr := []) (va_runV (As := [.ref a1]) (rest := []) ⟨hx, hb, hml, hown, hts⟩ (c_nextHour l D K a0 a1 g0 k0 a2 a3 k3 k5 k6 k8 k9 fc f_900 (i % 24) (i / 24) H.size hk0 hk1 (by omega) (by omega) hc) (cwV 1 hts gX10_byDraws_X10_nextHour rfl rfl rfl (by decide +kernel) ⟨Nat.le_of_ble_eq_true rfl, Nat.le_of_ble_eq_true rfl⟩) (mkV hK hN (hP.sub [0, 1, 2, 3] rfl) (hD.sub [0, 1, 2, 3] (by decide) rfl) (ci := 10) (q0 := 0) rfl rfl) rfl rfl hl.1 rfl (lv_room (Nat.le_of_ble_eq_true rfl)) dX10_byDraws_55 ⟨Nat.le_of_ble_eq_true rfl, Nat.le_of_ble_eq_true rfl⟩) hP hD hS hA [0, 1, 2, 3] [] rfl rfl (by decide) (by decide) (fun r_4 u_5 H locs hw hP hD hS => ?_)
        have hP : va_P D vwCl [(a0, .inr (10, [g0])), (a1, .inr (9, [k0, .ref a2, .ref a3, k3, .int 0, k5, k6, .int 0, k8, k9])), (a2, .inl (K 0, 24, .inl fc)), (a3, .inl (K 0, 6, .inl ((u_5.2.1 0))))] H := hP
        have hD : va_D A [(a0, .inr (10, [g0])), (a1, .inr (9, [k0, .ref a2, .ref a3, k3, .int 0, k5, k6, .int 0, k8, k9])), (a2, .inl (K 0, 24, .inl fc)), (a3, .inl (K 0, 6, .inl ((u_5.2.1 0))))] := hD
        obtain ⟨rfl, hu0, hu1⟩ := hw
        refine lv_istore (lv' := [(7, .int 1), (6, .int (nI i)), (5, .int (nI i)), (4, .int x), (0, .ref a0), (1, .ref a1), (2, .int x), (3, .int (nI nn))]) hx hb dX10_byDraws_58 hl (by decide) rfl (fun ls hl => ?_)
        refine lv_iload hx hb dX10_byDraws_60 (lv_at hl 0 rfl) ?_
        refine lv_if_ge (tgt := 68) hx hb dX10_byDraws_62 (by decide) (fun c_6 => ?_) (fun c_6 => absurd (by decide) c_6)
        refine lv_iload hx hb dX10_byDraws_68 (lv_at hl 2 rfl) ?_
        refine lv_iload hx hb dX10_byDraws_70 (lv_at hl 0 rfl) ?_
        refine lv_iadd hx hb dX10_byDraws_72 ?_
        refine lv_topi (fun x_7 ex_7 => ?_)
        obtain rfl : x_7 = (nI (i + 1)) := ex_7.trans (nI_1 i)
        refine lv_istore (lv' := [(5, .int (nI (i + 1))), (7, .int 1), (6, .int (nI i)), (4, .int x), (0, .ref a0), (1, .ref a1), (2, .int x), (3, .int (nI nn))]) hx hb dX10_byDraws_73 hl (by decide) rfl (fun ls hl => ?_)
        refine lv_iinc (v := nI (i + 1)) (lv' := [(6, .int (nI (i + 1))), (5, .int (nI (i + 1))), (7, .int 1), (4, .int x), (0, .ref a0), (1, .ref a1), (2, .int x), (3, .int (nI nn))]) hx hb dX10_byDraws_75 hl (k := 2) rfl (nI_1 i) (by decide) rfl (fun ls hl => ?_)
        refine lv_goto (tgt := 9) hx hb dX10_byDraws_78 (by decide) ?_
        exact ih (i + 1) (u_5.2.1 0) (by omega) (by omega) (hu0.trans (congrArg nI (by split <;> omega))) (hu1.trans (congrArg nI (by split <;> omega))) _ _ hP hD hS ls (lv_sub hl [0, 1, 3, 4, 5, 6, 7] rfl)
  exact lp_1 (nn + 1) 0 ft (by omega) (by omega) h0 h1 _ _ hP hD hS ls (lv_sub hl [0, 1, 2, 3, 4, 5, 6] rfl)
set_option maxHeartbeats 4000000 in
set_option maxRecDepth 100000 in
theorem t_days (l : Launch) (D : va_G) (K : Nat → ClassId) (a0 : Nat) (x : Int32) (y : Int32) (b1 : Nat) (g1 : Value) (g2 : Value) (b0 : Nat) (g4 : Value) (g5 : Value) (g6 : Value) (b2 : Nat) (g8 : Value) (g9 : Value) (g10 : Value) (g11 : Value) (a1 : Nat) (g13 : Value) (g14 : Value) (g15 : Value) (g16 : Value) (f : Nat → Int32) (r0 : Value) (f0 : Nat) (c0 : Nat) (m0 : Nat) (l0 : Nat) (f1 : Nat) (c1 : Nat) (m1 : Nat) (l1 : Nat) (sz : Nat) : Met l yX11_days wsX11_days ({ frames := 4, cells := 0, slots := 0, locals := 93 }) (va_Pc [.ref a0, .int x, .int y] (Pre D K [(a0, .inr (11, [.ref b1, g1, g2, .ref b0, g4, g5, g6, .ref b2, g8, g9, g10, g11, .ref a1, g13, g14, g15, g16])), (a1, .inl (K 0, 5, .inl f)), (b2, .inr (10, [r0])), (b0, .inr (9, [.ref f0, .ref c0, .ref m0, .ref l0, .int 0, .int 0, .int (-1), .int 0, .int 0, .int 0])), (b1, .inr (9, [.ref f1, .ref c1, .ref m1, .ref l1, .int 0, .int 0, .int (-1), .int 0, .int 0, .int 0])), (f0, .inl (K 0, 56, .inl (fun _ => 0))), (f1, .inl (K 0, 56, .inl (fun _ => 0))), (c0, .inl (K 0, 24, .inl (fun _ => 0))), (c1, .inl (K 0, 24, .inl (fun _ => 0))), (m0, .inl (K 0, 6, .inl tm0)), (m1, .inl (K 0, 6, .inl tm0)), (l0, .inl (K 4, 6, .inr (.inr (.inr (.inr (fun _ => none)))))), (l1, .inl (K 4, 6, .inr (.inr (.inr (.inr (fun _ => none))))))] sz)) (va_Qi (S := Unit) (fun (r : Int32) (_ : Unit) => (r = y ∧ 0 ≤ x.toInt ∧ x.toInt ≤ 1000000 ∧ 1 ≤ y.toInt ∧ y.toInt ≤ 100) ∨ (r = (-1) ∧ (x.toInt < 0 ∨ 1000000 < x.toInt ∨ y.toInt < 1 ∨ 100 < y.toInt))) (fun u t => Wd D (va_A [(a0, .inr (11, [.ref b1, g1, g2, .ref b0, g4, g5, g6, .ref b2, g8, g9, g10, g11, .ref a1, g13, g14, g15, g16])), (a1, .inl (K 0, 5, .inl f)), (b2, .inr (10, [r0])), (b0, .inr (9, [.ref f0, .ref c0, .ref m0, .ref l0, .int 0, .int 0, .int (-1), .int 0, .int 0, .int 0])), (b1, .inr (9, [.ref f1, .ref c1, .ref m1, .ref l1, .int 0, .int 0, .int (-1), .int 0, .int 0, .int 0])), (f0, .inl (K 0, 56, .inl (fun _ => 0))), (f1, .inl (K 0, 56, .inl (fun _ => 0))), (c0, .inl (K 0, 24, .inl (fun _ => 0))), (c1, .inl (K 0, 24, .inl (fun _ => 0))), (m0, .inl (K 0, 6, .inl tm0)), (m1, .inl (K 0, 6, .inl tm0)), (l0, .inl (K 4, 6, .inr (.inr (.inr (.inr (fun _ => none)))))), (l1, .inl (K 4, 6, .inr (.inr (.inr (.inr (fun _ => none))))))] sz) ((fun _ => []) u) t) (va_A [(a0, .inr (11, [.ref b1, g1, g2, .ref b0, g4, g5, g6, .ref b2, g8, g9, g10, g11, .ref a1, g13, g14, g15, g16])), (a1, .inl (K 0, 5, .inl f)), (b2, .inr (10, [r0])), (b0, .inr (9, [.ref f0, .ref c0, .ref m0, .ref l0, .int 0, .int 0, .int (-1), .int 0, .int 0, .int 0])), (b1, .inr (9, [.ref f1, .ref c1, .ref m1, .ref l1, .int 0, .int 0, .int (-1), .int 0, .int 0, .int 0])), (f0, .inl (K 0, 56, .inl (fun _ => 0))), (f1, .inl (K 0, 56, .inl (fun _ => 0))), (c0, .inl (K 0, 24, .inl (fun _ => 0))), (c1, .inl (K 0, 24, .inl (fun _ => 0))), (m0, .inl (K 0, 6, .inl tm0)), (m1, .inl (K 0, 6, .inl tm0)), (l0, .inl (K 4, 6, .inr (.inr (.inr (.inr (fun _ => none)))))), (l1, .inl (K 4, 6, .inr (.inr (.inr (.inr (fun _ => none))))))] sz)) 0 0 (va_A [(a0, .inr (11, [.ref b1, g1, g2, .ref b0, g4, g5, g6, .ref b2, g8, g9, g10, g11, .ref a1, g13, g14, g15, g16])), (a1, .inl (K 0, 5, .inl f)), (b2, .inr (10, [r0])), (b0, .inr (9, [.ref f0, .ref c0, .ref m0, .ref l0, .int 0, .int 0, .int (-1), .int 0, .int 0, .int 0])), (b1, .inr (9, [.ref f1, .ref c1, .ref m1, .ref l1, .int 0, .int 0, .int (-1), .int 0, .int 0, .int 0])), (f0, .inl (K 0, 56, .inl (fun _ => 0))), (f1, .inl (K 0, 56, .inl (fun _ => 0))), (c0, .inl (K 0, 24, .inl (fun _ => 0))), (c1, .inl (K 0, 24, .inl (fun _ => 0))), (m0, .inl (K 0, 6, .inl tm0)), (m1, .inl (K 0, 6, .inl tm0)), (l0, .inl (K 4, 6, .inr (.inr (.inr (.inr (fun _ => none)))))), (l1, .inl (K 4, 6, .inr (.inr (.inr (.inr (fun _ => none))))))] sz) := by
  refine Met.ofW (cc := cX11_days) (maxL := 4) (ret := (some .int)) (by decide) rfl ?_
  intro p e s m args below meth c s₁ B hml hv
  obtain ⟨rfl, hsz, hP, hK, hD0, hN⟩ := hv
  have hx := B.exec
  have hb := B.bytes
  have hr := B.returns
  have hts := atoms_spec (ws := wsX11_days) B.pre
  have hown : s.vm.findClass RX11 = some m.cls := findClass_of_methodNamed B.named
  have hlocks := B.notSynchronized
  subst hsz
  have hD := hD0.self (sz := s.heap.size)
  generalize hAe : va_A [(a0, .inr (11, [.ref b1, g1, g2, .ref b0, g4, g5, g6, .ref b2, g8, g9, g10, g11, .ref a1, g13, g14, g15, g16])), (a1, .inl (K 0, 5, .inl f)), (b2, .inr (10, [r0])), (b0, .inr (9, [.ref f0, .ref c0, .ref m0, .ref l0, .int 0, .int 0, .int (-1), .int 0, .int 0, .int 0])), (b1, .inr (9, [.ref f1, .ref c1, .ref m1, .ref l1, .int 0, .int 0, .int (-1), .int 0, .int 0, .int 0])), (f0, .inl (K 0, 56, .inl (fun _ => 0))), (f1, .inl (K 0, 56, .inl (fun _ => 0))), (c0, .inl (K 0, 24, .inl (fun _ => 0))), (c1, .inl (K 0, 24, .inl (fun _ => 0))), (m0, .inl (K 0, 6, .inl tm0)), (m1, .inl (K 0, 6, .inl tm0)), (l0, .inl (K 4, 6, .inr (.inr (.inr (.inr (fun _ => none)))))), (l1, .inl (K 4, 6, .inr (.inr (.inr (.inr (fun _ => none))))))] s.heap.size = A at hD ⊢
  have hA : ∀ q : Nat, s.heap.size ≤ q → A q := fun q h => by rw [← hAe]; exact Or.inr h
  have hS : va_S A s.heap s.heap [] := va_S.rf
  have hP : va_P D vwCl [(a0, .inr (11, [.ref b1, g1, g2, .ref b0, g4, g5, g6, .ref b2, g8, g9, g10, g11, .ref a1, g13, g14, g15, g16])), (a1, .inl (K 0, 5, .inl f)), (b2, .inr (10, [r0])), (b0, .inr (9, [.ref f0, .ref c0, .ref m0, .ref l0, .int 0, .int 0, .int (-1), .int 0, .int 0, .int 0])), (b1, .inr (9, [.ref f1, .ref c1, .ref m1, .ref l1, .int 0, .int 0, .int (-1), .int 0, .int 0, .int 0])), (f0, .inl (K 0, 56, .inl (fun _ => 0))), (f1, .inl (K 0, 56, .inl (fun _ => 0))), (c0, .inl (K 0, 24, .inl (fun _ => 0))), (c1, .inl (K 0, 24, .inl (fun _ => 0))), (m0, .inl (K 0, 6, .inl tm0)), (m1, .inl (K 0, 6, .inl tm0)), (l0, .inl (K 4, 6, .inr (.inr (.inr (.inr (fun _ => none)))))), (l1, .inl (K 4, 6, .inr (.inr (.inr (.inr (fun _ => none))))))] s.heap := hP
  have hl := lv_entry [.ref a0, .int x, .int y] (n := 4) (Nat.le_of_ble_eq_true rfl)
  rw [lg_entry_eq]
  generalize (lg_sl [.ref a0, .int x, .int y] ++ List.replicate (4 - (lg_sl [.ref a0, .int x, .int y]).length) Slot.unset).toArray = ls at hl ⊢
  have hl : lv_has ls 4 [(0, .ref a0), (1, .int x), (2, .int y)] := hl
  have hw0 : ∀ w ∈ wsX00, w ∈ wsX11_days := fun w h => (List.mem_cons_of_mem _ (List.mem_append_left _ (List.mem_append_left _ (List.mem_append_right _ h))))
  have hw3 : ∀ w ∈ wsX30, w ∈ wsX11_days := fun w h => (List.mem_cons_of_mem _ (List.mem_append_right _ h))
  have hw7 : ∀ w ∈ wsX70, w ∈ wsX11_days := fun w h => (List.mem_cons_of_mem _ (List.mem_append_left _ (List.mem_append_right _ h)))
  have hw9 : ∀ w ∈ wsX90, w ∈ wsX11_days := fun w h => (List.mem_cons_of_mem _ (List.mem_append_left _ (List.mem_append_left _ (List.mem_append_left _ (List.mem_append_left _ (List.mem_append_right _ h))))))
  have hw10 : ∀ w ∈ wsX100, w ∈ wsX11_days := fun w h => (List.mem_cons_of_mem _ (List.mem_append_left _ (List.mem_append_left _ (List.mem_append_left _ (List.mem_append_right _ h)))))
  have hw11 : ∀ w ∈ wsX110, w ∈ wsX11_days := fun w h => (List.mem_cons_of_mem _ (List.mem_append_left _ (List.mem_append_left _ (List.mem_append_left _ (List.mem_append_left _ (List.mem_append_left _ (List.mem_append_right _ h)))))))
  refine lv_iload_n hx hb dX11_days_0 rfl (lv_at hl 1 rfl) ?_
  refine lv_iconst (v := 0) hx hb dX11_days_1 (by decide) ?_
  refine lv_ldcw (v := 1000000) hx hb hown (hts (.constant RX11 284 (1000000)) (List.mem_cons_of_mem _ (List.mem_append_left _ (List.mem_append_left _ (List.mem_append_left _ (List.mem_append_left _ (List.mem_append_left _ (List.mem_append_left _ (List.mem_append_left _ (List.mem_of_getElem? (i := 0) rfl)))))))))) dX11_days_2 ?_
  refine pci (va_runS (As := [.int x, .int 0, .int 1000000]) (rest := []) ⟨hx, hb, hml, hown, hts⟩ (c_within l D K x 0 1000000 x.toInt 0 1000000 s.heap.size rfl rfl rfl) (va_cwS 3 hts gX11_days_X11_within rfl rfl rfl (by decide +kernel) ⟨Nat.le_of_ble_eq_true rfl, Nat.le_of_ble_eq_true rfl⟩) (mkS hK hN (hP.sub [] rfl) (hD.sub [] (by decide) rfl)) rfl rfl hl.1 rfl (lv_room (Nat.le_of_ble_eq_true rfl)) dX11_days_5 ⟨Nat.le_of_ble_eq_true rfl, Nat.le_of_ble_eq_true rfl⟩) (fun r_1 hw => ?_)
  rcases hw with ⟨rfl, h_2, h_3⟩ | ⟨rfl, h_4⟩
  · refine lv_if_eq (tgt := 21) hx hb dX11_days_8 (by decide) (fun c_5 => absurd c_5 (by decide)) (fun c_5 => ?_)
    refine lv_iload_n hx hb dX11_days_11 rfl (lv_at hl 2 rfl) ?_
    refine lv_iconst (v := 1) hx hb dX11_days_12 (by decide) ?_
    refine lv_bipush (v := 100) hx hb dX11_days_13 (by decide) ?_
    refine pci (va_runS (As := [.int y, .int 1, .int 100]) (rest := []) ⟨hx, hb, hml, hown, hts⟩ (c_within l D K y 1 100 y.toInt 1 100 s.heap.size rfl rfl rfl) (va_cwS 3 hts gX11_days_X11_within rfl rfl rfl (by decide +kernel) ⟨Nat.le_of_ble_eq_true rfl, Nat.le_of_ble_eq_true rfl⟩) (mkS hK hN (hP.sub [] rfl) (hD.sub [] (by decide) rfl)) rfl rfl hl.1 rfl (lv_room (Nat.le_of_ble_eq_true rfl)) dX11_days_15 ⟨Nat.le_of_ble_eq_true rfl, Nat.le_of_ble_eq_true rfl⟩) (fun r_6 hw => ?_)
    rcases hw with ⟨rfl, h_7, h_8⟩ | ⟨rfl, h_9⟩
    · refine lv_if_ne (tgt := 27) hx hb dX11_days_18 (by decide) (fun c_10 => ?_) (fun c_10 => absurd c_10 (by decide))
      obtain ⟨nn, hnn, rfl⟩ : ∃ nn : Nat, nn ≤ 100 ∧ y = nI nn := nI_of2 (M := 100) (n := 100) rfl (fun q => by have := i_lt (x := y.toInt) (y := 0) rfl rfl q; omega) (Int32.le_iff_toInt_le.mpr (show y.toInt ≤ 100 by omega))
      refine lv_aload_n hx hb dX11_days_27 rfl (lv_at hl 0 rfl) ?_
      refine va_get (ci := 11) (v := .ref b0) (C := RX11) (T := TX11) (N := 17) hx hb hts hw11 hown hK hP 0 rfl rfl 3 (by decide) (hts (.fieldLink RX11 24 "SmokeTune" "paperTown" "LSmokeTune$Town;") (List.mem_cons_of_mem _ (List.mem_append_left _ (List.mem_append_left _ (List.mem_append_left _ (List.mem_append_left _ (List.mem_append_left _ (List.mem_append_left _ (List.mem_append_left _ (List.mem_of_getElem? (i := 1) rfl)))))))))) (fun _ h9 => h9) rfl dX11_days_28 ?_
      refine lv_aload_n hx hb dX11_days_31 rfl (lv_at hl 0 rfl) ?_
      refine va_get (ci := 11) (v := .ref b1) (C := RX11) (T := TX11) (N := 17) hx hb hts hw11 hown hK hP 0 rfl rfl 0 (by decide) (hts (.fieldLink RX11 10 "SmokeTune" "town" "LSmokeTune$Town;") (List.mem_cons_of_mem _ (List.mem_append_left _ (List.mem_append_left _ (List.mem_append_left _ (List.mem_append_left _ (List.mem_append_left _ (List.mem_append_left _ (List.mem_append_left _ (List.mem_of_getElem? (i := 2) rfl)))))))))) (fun _ h9 => h9) rfl dX11_days_32 ?_
      refine kcv (wr := [(a0, .inr (11, [.ref b1, g1, g2, .ref b0, g4, g5, g6, .ref b2, g8, g9, g10, g11, .ref a1, g13, g14, g15, g16])), (a1, .inl (K 0, 5, .inl f)), (b2, .inr (10, [r0]))]) (va_runVN (As := [.ref b1]) (rest := []) ⟨hx, hb, hml, hown, hts⟩ (c_become l D K b0 b1 f0 c0 m0 l0 f1 c1 m1 l1 s.heap.size) ⟨va_cnB 1 hts gX11_days_X9_become_n285 rfl rfl rfl (nst_at hN 94 rfl) (hts (.initialized RX9) (List.mem_cons_of_mem _ (List.mem_append_left _ (List.mem_append_left _ (List.mem_append_left _ (List.mem_append_left _ (List.mem_append_left _ (List.mem_append_left _ (List.mem_append_left _ (List.mem_of_getElem? (i := 17) rfl)))))))))) (by decide +kernel) ⟨Nat.le_of_ble_eq_true rfl, Nat.le_of_ble_eq_true rfl⟩, (hts (.instanceMethod yX9_become) (List.mem_cons_of_mem _ (List.mem_append_left _ (List.mem_append_left _ (List.mem_append_left _ (List.mem_append_left _ (List.mem_append_left _ (List.mem_append_left _ (List.mem_append_left _ (List.mem_of_getElem? (i := 16) rfl)))))))))), (hts (.selects RX9 yX9_become yX9_become) (List.mem_cons_of_mem _ (List.mem_append_left _ (List.mem_append_left _ (List.mem_append_left _ (List.mem_append_left _ (List.mem_append_left _ (List.mem_append_left _ (List.mem_append_left _ (List.mem_of_getElem? (i := 18) rfl))))))))))⟩ (mkV hK hN (hP.sub [3, 4, 5, 6, 7, 8, 9, 10, 11, 12] rfl) (hD.sub [3, 4, 5, 6, 7, 8, 9, 10, 11, 12] (by decide) rfl) (ci := 9) (q0 := 0) rfl rfl) rfl rfl hl.1 rfl (lv_room (Nat.le_of_ble_eq_true rfl)) dX11_days_35 ⟨Nat.le_of_ble_eq_true rfl, Nat.le_of_ble_eq_true rfl⟩) hP hD hS hA [3, 4, 5, 6, 7, 8, 9, 10, 11, 12] [0, 1, 2] rfl rfl (by decide) (by decide) (fun u_12 H locs hw hP hD hS => ?_)
      have hP : va_P D vwCl [(a0, .inr (11, [.ref b1, g1, g2, .ref b0, g4, g5, g6, .ref b2, g8, g9, g10, g11, .ref a1, g13, g14, g15, g16])), (a1, .inl (K 0, 5, .inl f)), (b2, .inr (10, [r0])), (b0, .inr (9, [.ref f0, .ref c0, .ref m0, .ref l0, .int 0, .int 0, .int (-1), .int 0, .int 0, .int 0])), (b1, .inr (9, [.ref f1, .ref c1, .ref m1, .ref l1, .int 0, .int 0, .int (-1), .int 0, .int 0, .int 0])), (f0, .inl (K 0, 56, .inl ((u_12.2.1 0)))), (f1, .inl (K 0, 56, .inl (fun _ => 0))), (c0, .inl (K 0, 24, .inl ((u_12.2.1 1)))), (c1, .inl (K 0, 24, .inl (fun _ => 0))), (m0, .inl (K 0, 6, .inl ((u_12.2.1 2)))), (m1, .inl (K 0, 6, .inl tm0)), (l0, .inl (K 4, 6, .inr (.inr (.inr (.inr (va_up (va_up (va_up (va_up (va_up (va_up (fun _ => none) 0 none) 1 none) 2 none) 3 none) 4 none) 5 none)))))), (l1, .inl (K 4, 6, .inr (.inr (.inr (.inr (fun _ => none))))))] H := hP
      have hD : va_D A [(a0, .inr (11, [.ref b1, g1, g2, .ref b0, g4, g5, g6, .ref b2, g8, g9, g10, g11, .ref a1, g13, g14, g15, g16])), (a1, .inl (K 0, 5, .inl f)), (b2, .inr (10, [r0])), (b0, .inr (9, [.ref f0, .ref c0, .ref m0, .ref l0, .int 0, .int 0, .int (-1), .int 0, .int 0, .int 0])), (b1, .inr (9, [.ref f1, .ref c1, .ref m1, .ref l1, .int 0, .int 0, .int (-1), .int 0, .int 0, .int 0])), (f0, .inl (K 0, 56, .inl ((u_12.2.1 0)))), (f1, .inl (K 0, 56, .inl (fun _ => 0))), (c0, .inl (K 0, 24, .inl ((u_12.2.1 1)))), (c1, .inl (K 0, 24, .inl (fun _ => 0))), (m0, .inl (K 0, 6, .inl ((u_12.2.1 2)))), (m1, .inl (K 0, 6, .inl tm0)), (l0, .inl (K 4, 6, .inr (.inr (.inr (.inr (va_up (va_up (va_up (va_up (va_up (va_up (fun _ => none) 0 none) 1 none) 2 none) 3 none) 4 none) 5 none)))))), (l1, .inl (K 4, 6, .inr (.inr (.inr (.inr (fun _ => none))))))] := hD
      obtain ⟨hbz, hb0, hb1⟩ := hw
      refine lv_aload_n hx hb dX11_days_38 rfl (lv_at hl 0 rfl) ?_
      refine va_get (ci := 11) (v := .ref b2) (C := RX11) (T := TX11) (N := 17) hx hb hts hw11 hown hK hP 0 rfl rfl 7 (by decide) (hts (.fieldLink RX11 50 "SmokeTune" "works" "LSmokeTune$Works;") (List.mem_cons_of_mem _ (List.mem_append_left _ (List.mem_append_left _ (List.mem_append_left _ (List.mem_append_left _ (List.mem_append_left _ (List.mem_append_left _ (List.mem_append_left _ (List.mem_of_getElem? (i := 3) rfl)))))))))) (fun _ h9 => h9) rfl dX11_days_39 ?_
      refine lv_aload_n hx hb dX11_days_42 rfl (lv_at hl 0 rfl) ?_
      refine va_get (ci := 11) (v := .ref b0) (C := RX11) (T := TX11) (N := 17) hx hb hts hw11 hown hK hP 0 rfl rfl 3 (by decide) (hts (.fieldLink RX11 24 "SmokeTune" "paperTown" "LSmokeTune$Town;") (List.mem_cons_of_mem _ (List.mem_append_left _ (List.mem_append_left _ (List.mem_append_left _ (List.mem_append_left _ (List.mem_append_left _ (List.mem_append_left _ (List.mem_append_left _ (List.mem_of_getElem? (i := 1) rfl)))))))))) (fun _ h9 => h9) rfl dX11_days_43 ?_
      refine lv_iload_n hx hb dX11_days_46 rfl (lv_at hl 1 rfl) ?_
      refine lv_iload_n hx hb dX11_days_47 rfl (lv_at hl 2 rfl) ?_
      refine kci (wr := [(a0, .inr (11, [.ref b1, g1, g2, .ref b0, g4, g5, g6, .ref b2, g8, g9, g10, g11, .ref a1, g13, g14, g15, g16])), (a1, .inl (K 0, 5, .inl f)), (b1, .inr (9, [.ref f1, .ref c1, .ref m1, .ref l1, .int 0, .int 0, .int (-1), .int 0, .int 0, .int 0])), (f0, .inl (K 0, 56, .inl ((u_12.2.1 0)))), (f1, .inl (K 0, 56, .inl (fun _ => 0))), (c1, .inl (K 0, 24, .inl (fun _ => 0))), (m1, .inl (K 0, 6, .inl tm0)), (l0, .inl (K 4, 6, .inr (.inr (.inr (.inr (va_up (va_up (va_up (va_up (va_up (va_up (fun _ => none) 0 none) 1 none) 2 none) 3 none) 4 none) 5 none)))))), (l1, .inl (K 4, 6, .inr (.inr (.inr (.inr (fun _ => none))))))]) (va_runVN (As := [.ref b0, .int x, .int (nI nn)]) (rest := []) ⟨hx, hb, hml, hown, hts⟩ (c_byDraws l D K b2 b0 x r0 (.ref f0) c0 m0 (.ref l0) (.int 0) (.int (-1)) (.int 0) (.int 0) (u_12.2.1 1) (u_12.2.1 2) nn H.size hb0 hb1 (by omega) hbz) ⟨va_cnB 3 hts gX11_days_X10_byDraws_n288 rfl rfl rfl (nst_at hN 95 rfl) (hts (.initialized RX10) (List.mem_cons_of_mem _ (List.mem_append_left _ (List.mem_append_left _ (List.mem_append_left _ (List.mem_append_left _ (List.mem_append_left _ (List.mem_append_left _ (List.mem_append_right _ (List.mem_append_left _ (List.mem_of_getElem? (i := 11) rfl))))))))))) (by decide +kernel) ⟨Nat.le_of_ble_eq_true rfl, Nat.le_of_ble_eq_true rfl⟩, (hts (.instanceMethod yX10_byDraws) (List.mem_cons_of_mem _ (List.mem_append_left _ (List.mem_append_left _ (List.mem_append_left _ (List.mem_append_left _ (List.mem_append_left _ (List.mem_append_left _ (List.mem_append_right _ (List.mem_append_left _ (List.mem_of_getElem? (i := 10) rfl))))))))))), (hts (.selects RX10 yX10_byDraws yX10_byDraws) (List.mem_cons_of_mem _ (List.mem_append_left _ (List.mem_append_left _ (List.mem_append_left _ (List.mem_append_left _ (List.mem_append_left _ (List.mem_append_left _ (List.mem_append_right _ (List.mem_append_left _ (List.mem_of_getElem? (i := 12) rfl)))))))))))⟩ (mkV hK hN (hP.sub [2, 3, 7, 9] rfl) (hD.sub [2, 3, 7, 9] (by decide) rfl) (ci := 10) (q0 := 0) rfl rfl) rfl rfl hl.1 rfl (lv_room (Nat.le_of_ble_eq_true rfl)) dX11_days_48 ⟨Nat.le_of_ble_eq_true rfl, Nat.le_of_ble_eq_true rfl⟩) hP hD hS hA [2, 3, 7, 9] [0, 1, 4, 5, 6, 8, 10, 11, 12] rfl rfl (by decide) (by decide) (fun r_13 u_14 H locs hw hP hD hS => ?_)
      have hP : va_P D vwCl [(a0, .inr (11, [.ref b1, g1, g2, .ref b0, g4, g5, g6, .ref b2, g8, g9, g10, g11, .ref a1, g13, g14, g15, g16])), (a1, .inl (K 0, 5, .inl f)), (b1, .inr (9, [.ref f1, .ref c1, .ref m1, .ref l1, .int 0, .int 0, .int (-1), .int 0, .int 0, .int 0])), (f0, .inl (K 0, 56, .inl ((u_12.2.1 0)))), (f1, .inl (K 0, 56, .inl (fun _ => 0))), (c1, .inl (K 0, 24, .inl (fun _ => 0))), (m1, .inl (K 0, 6, .inl tm0)), (l0, .inl (K 4, 6, .inr (.inr (.inr (.inr (va_up (va_up (va_up (va_up (va_up (va_up (fun _ => none) 0 none) 1 none) 2 none) 3 none) 4 none) 5 none)))))), (l1, .inl (K 4, 6, .inr (.inr (.inr (.inr (fun _ => none)))))), (b2, .inr (10, [r0])), (b0, .inr (9, [.ref f0, .ref c0, .ref m0, .ref l0, .int 0, .int 0, .int (-1), .int 0, .int 0, .int 0])), (c0, .inl (K 0, 24, .inl ((u_12.2.1 1)))), (m0, .inl (K 0, 6, .inl ((u_14.2.1 0))))] H := hP
      have hD : va_D A [(a0, .inr (11, [.ref b1, g1, g2, .ref b0, g4, g5, g6, .ref b2, g8, g9, g10, g11, .ref a1, g13, g14, g15, g16])), (a1, .inl (K 0, 5, .inl f)), (b1, .inr (9, [.ref f1, .ref c1, .ref m1, .ref l1, .int 0, .int 0, .int (-1), .int 0, .int 0, .int 0])), (f0, .inl (K 0, 56, .inl ((u_12.2.1 0)))), (f1, .inl (K 0, 56, .inl (fun _ => 0))), (c1, .inl (K 0, 24, .inl (fun _ => 0))), (m1, .inl (K 0, 6, .inl tm0)), (l0, .inl (K 4, 6, .inr (.inr (.inr (.inr (va_up (va_up (va_up (va_up (va_up (va_up (fun _ => none) 0 none) 1 none) 2 none) 3 none) 4 none) 5 none)))))), (l1, .inl (K 4, 6, .inr (.inr (.inr (.inr (fun _ => none)))))), (b2, .inr (10, [r0])), (b0, .inr (9, [.ref f0, .ref c0, .ref m0, .ref l0, .int 0, .int 0, .int (-1), .int 0, .int 0, .int 0])), (c0, .inl (K 0, 24, .inl ((u_12.2.1 1)))), (m0, .inl (K 0, 6, .inl ((u_14.2.1 0))))] := hD
      obtain rfl : r_13 = (nI nn) := hw
      refine lv_istore_n (lv' := [(3, .int (nI nn)), (0, .ref a0), (1, .int x), (2, .int (nI nn))]) hx hb dX11_days_51 rfl hl (by decide) rfl (fun ls hl => ?_)
      refine lv_aload_n hx hb dX11_days_52 rfl (lv_at hl 1 rfl) ?_
      refine lv_aload_n hx hb dX11_days_53 rfl (lv_at hl 1 rfl) ?_
      refine va_get (ci := 11) (v := .ref b0) (C := RX11) (T := TX11) (N := 17) hx hb hts hw11 hown hK hP 0 rfl rfl 3 (by decide) (hts (.fieldLink RX11 24 "SmokeTune" "paperTown" "LSmokeTune$Town;") (List.mem_cons_of_mem _ (List.mem_append_left _ (List.mem_append_left _ (List.mem_append_left _ (List.mem_append_left _ (List.mem_append_left _ (List.mem_append_left _ (List.mem_append_left _ (List.mem_of_getElem? (i := 1) rfl)))))))))) (fun _ h9 => h9) rfl dX11_days_54 ?_
      refine va_getN (ci := 9) (v := .int 0) (C := RX9) (T := TX9) (N := 10) hx hb hts hw9 hown hK hP 10 rfl rfl 7 (by decide) (nst_use hN 115 rfl) (fun _ h9 => h9) rfl dX11_days_57 ?_
      refine lv_aload_n hx hb dX11_days_60 rfl (lv_at hl 1 rfl) ?_
      refine va_get (ci := 11) (v := .ref b1) (C := RX11) (T := TX11) (N := 17) hx hb hts hw11 hown hK hP 0 rfl rfl 0 (by decide) (hts (.fieldLink RX11 10 "SmokeTune" "town" "LSmokeTune$Town;") (List.mem_cons_of_mem _ (List.mem_append_left _ (List.mem_append_left _ (List.mem_append_left _ (List.mem_append_left _ (List.mem_append_left _ (List.mem_append_left _ (List.mem_append_left _ (List.mem_of_getElem? (i := 2) rfl)))))))))) (fun _ h9 => h9) rfl dX11_days_61 ?_
      refine va_getN (ci := 9) (v := .int 0) (C := RX9) (T := TX9) (N := 10) hx hb hts hw9 hown hK hP 2 rfl rfl 7 (by decide) (nst_use hN 115 rfl) (fun _ h9 => h9) rfl dX11_days_64 ?_
      refine lv_isub hx hb dX11_days_67 ?_
      refine lv_topi (fun x_15 ex_15 => ?_)
      obtain rfl : x_15 = 0 := ex_15.trans (by first | rfl | decide)
      refine va_put (ci := 11) (v := .int 0) (ty := .int) (C := RX11) (T := TX11) (N := 17) hx hb hts hw11 tyX11 tyX11_ok nmX11 hown hK hP hD hS 0 rfl rfl 16 (by decide) (hts (.fieldLink RX11 94 "SmokeTune" "daysFines" "I") (List.mem_cons_of_mem _ (List.mem_append_left _ (List.mem_append_left _ (List.mem_append_left _ (List.mem_append_left _ (List.mem_append_left _ (List.mem_append_left _ (List.mem_append_left _ (List.mem_of_getElem? (i := 4) rfl)))))))))) (fun _ h9 => h9) rfl (by decide +kernel) (by first | rfl | decide) (by first | rfl | decide) (Nat.le_of_ble_eq_true rfl) dX11_days_68 (fun H locs hP hD hS => ?_)
      have hP : va_P D vwCl [(a0, .inr (11, [.ref b1, g1, g2, .ref b0, g4, g5, g6, .ref b2, g8, g9, g10, g11, .ref a1, g13, g14, g15, .int 0])), (a1, .inl (K 0, 5, .inl f)), (b1, .inr (9, [.ref f1, .ref c1, .ref m1, .ref l1, .int 0, .int 0, .int (-1), .int 0, .int 0, .int 0])), (f0, .inl (K 0, 56, .inl ((u_12.2.1 0)))), (f1, .inl (K 0, 56, .inl (fun _ => 0))), (c1, .inl (K 0, 24, .inl (fun _ => 0))), (m1, .inl (K 0, 6, .inl tm0)), (l0, .inl (K 4, 6, .inr (.inr (.inr (.inr (va_up (va_up (va_up (va_up (va_up (va_up (fun _ => none) 0 none) 1 none) 2 none) 3 none) 4 none) 5 none)))))), (l1, .inl (K 4, 6, .inr (.inr (.inr (.inr (fun _ => none)))))), (b2, .inr (10, [r0])), (b0, .inr (9, [.ref f0, .ref c0, .ref m0, .ref l0, .int 0, .int 0, .int (-1), .int 0, .int 0, .int 0])), (c0, .inl (K 0, 24, .inl ((u_12.2.1 1)))), (m0, .inl (K 0, 6, .inl ((u_14.2.1 0))))] H := hP
      have hD : va_D A [(a0, .inr (11, [.ref b1, g1, g2, .ref b0, g4, g5, g6, .ref b2, g8, g9, g10, g11, .ref a1, g13, g14, g15, .int 0])), (a1, .inl (K 0, 5, .inl f)), (b1, .inr (9, [.ref f1, .ref c1, .ref m1, .ref l1, .int 0, .int 0, .int (-1), .int 0, .int 0, .int 0])), (f0, .inl (K 0, 56, .inl ((u_12.2.1 0)))), (f1, .inl (K 0, 56, .inl (fun _ => 0))), (c1, .inl (K 0, 24, .inl (fun _ => 0))), (m1, .inl (K 0, 6, .inl tm0)), (l0, .inl (K 4, 6, .inr (.inr (.inr (.inr (va_up (va_up (va_up (va_up (va_up (va_up (fun _ => none) 0 none) 1 none) 2 none) 3 none) 4 none) 5 none)))))), (l1, .inl (K 4, 6, .inr (.inr (.inr (.inr (fun _ => none)))))), (b2, .inr (10, [r0])), (b0, .inr (9, [.ref f0, .ref c0, .ref m0, .ref l0, .int 0, .int 0, .int (-1), .int 0, .int 0, .int 0])), (c0, .inl (K 0, 24, .inl ((u_12.2.1 1)))), (m0, .inl (K 0, 6, .inl ((u_14.2.1 0))))] := hD
      refine lv_aload_n hx hb dX11_days_71 rfl (lv_at hl 1 rfl) ?_
      refine lv_iconst (v := 1) hx hb dX11_days_72 (by decide) ?_
      refine va_put (ci := 11) (v := .int 1) (ty := .boolean) (C := RX11) (T := TX11) (N := 17) hx hb hts hw11 tyX11 tyX11_ok nmX11 hown hK hP hD hS 0 rfl rfl 15 (by decide) (hts (.fieldLink RX11 90 "SmokeTune" "daysKept" "Z") (List.mem_cons_of_mem _ (List.mem_append_left _ (List.mem_append_left _ (List.mem_append_left _ (List.mem_append_left _ (List.mem_append_left _ (List.mem_append_left _ (List.mem_append_left _ (List.mem_of_getElem? (i := 5) rfl)))))))))) (fun _ h9 => h9) rfl (by decide +kernel) (by first | rfl | decide) (by first | rfl | decide) (Nat.le_of_ble_eq_true rfl) dX11_days_73 (fun H locs hP hD hS => ?_)
      have hP : va_P D vwCl [(a0, .inr (11, [.ref b1, g1, g2, .ref b0, g4, g5, g6, .ref b2, g8, g9, g10, g11, .ref a1, g13, g14, .int 1, .int 0])), (a1, .inl (K 0, 5, .inl f)), (b1, .inr (9, [.ref f1, .ref c1, .ref m1, .ref l1, .int 0, .int 0, .int (-1), .int 0, .int 0, .int 0])), (f0, .inl (K 0, 56, .inl ((u_12.2.1 0)))), (f1, .inl (K 0, 56, .inl (fun _ => 0))), (c1, .inl (K 0, 24, .inl (fun _ => 0))), (m1, .inl (K 0, 6, .inl tm0)), (l0, .inl (K 4, 6, .inr (.inr (.inr (.inr (va_up (va_up (va_up (va_up (va_up (va_up (fun _ => none) 0 none) 1 none) 2 none) 3 none) 4 none) 5 none)))))), (l1, .inl (K 4, 6, .inr (.inr (.inr (.inr (fun _ => none)))))), (b2, .inr (10, [r0])), (b0, .inr (9, [.ref f0, .ref c0, .ref m0, .ref l0, .int 0, .int 0, .int (-1), .int 0, .int 0, .int 0])), (c0, .inl (K 0, 24, .inl ((u_12.2.1 1)))), (m0, .inl (K 0, 6, .inl ((u_14.2.1 0))))] H := hP
      have hD : va_D A [(a0, .inr (11, [.ref b1, g1, g2, .ref b0, g4, g5, g6, .ref b2, g8, g9, g10, g11, .ref a1, g13, g14, .int 1, .int 0])), (a1, .inl (K 0, 5, .inl f)), (b1, .inr (9, [.ref f1, .ref c1, .ref m1, .ref l1, .int 0, .int 0, .int (-1), .int 0, .int 0, .int 0])), (f0, .inl (K 0, 56, .inl ((u_12.2.1 0)))), (f1, .inl (K 0, 56, .inl (fun _ => 0))), (c1, .inl (K 0, 24, .inl (fun _ => 0))), (m1, .inl (K 0, 6, .inl tm0)), (l0, .inl (K 4, 6, .inr (.inr (.inr (.inr (va_up (va_up (va_up (va_up (va_up (va_up (fun _ => none) 0 none) 1 none) 2 none) 3 none) 4 none) 5 none)))))), (l1, .inl (K 4, 6, .inr (.inr (.inr (.inr (fun _ => none)))))), (b2, .inr (10, [r0])), (b0, .inr (9, [.ref f0, .ref c0, .ref m0, .ref l0, .int 0, .int 0, .int (-1), .int 0, .int 0, .int 0])), (c0, .inl (K 0, 24, .inl ((u_12.2.1 1)))), (m0, .inl (K 0, 6, .inl ((u_14.2.1 0))))] := hD
      refine lv_aload_n hx hb dX11_days_76 rfl (lv_at hl 1 rfl) ?_
      refine lv_iload_n hx hb dX11_days_77 rfl (lv_at hl 0 rfl) ?_
      refine kci (wr := [(a1, .inl (K 0, 5, .inl f)), (b1, .inr (9, [.ref f1, .ref c1, .ref m1, .ref l1, .int 0, .int 0, .int (-1), .int 0, .int 0, .int 0])), (f0, .inl (K 0, 56, .inl ((u_12.2.1 0)))), (f1, .inl (K 0, 56, .inl (fun _ => 0))), (c1, .inl (K 0, 24, .inl (fun _ => 0))), (m1, .inl (K 0, 6, .inl tm0)), (l0, .inl (K 4, 6, .inr (.inr (.inr (.inr (va_up (va_up (va_up (va_up (va_up (va_up (fun _ => none) 0 none) 1 none) 2 none) 3 none) 4 none) 5 none)))))), (l1, .inl (K 4, 6, .inr (.inr (.inr (.inr (fun _ => none)))))), (b2, .inr (10, [r0])), (b0, .inr (9, [.ref f0, .ref c0, .ref m0, .ref l0, .int 0, .int 0, .int (-1), .int 0, .int 0, .int 0])), (c0, .inl (K 0, 24, .inl ((u_12.2.1 1)))), (m0, .inl (K 0, 6, .inl ((u_14.2.1 0))))]) (va_runV (As := [.int (nI nn)]) (rest := []) ⟨hx, hb, hml, hown, hts⟩ (c_accept l D K a0 (nI nn) (.ref b1) g1 g2 (.ref b0) g4 g5 g6 (.ref b2) g8 g9 g10 g11 (.ref a1) g13 g14 (.int 1) (.int 0) H.size) (cwV 1 hts gX11_days_X11_accept rfl rfl rfl (by decide +kernel) ⟨Nat.le_of_ble_eq_true rfl, Nat.le_of_ble_eq_true rfl⟩) (mkV hK hN (hP.sub [0] rfl) (hD.sub [0] (by decide) rfl) (ci := 11) (q0 := 0) rfl rfl) rfl rfl hl.1 rfl (lv_room (Nat.le_of_ble_eq_true rfl)) dX11_days_78 ⟨Nat.le_of_ble_eq_true rfl, Nat.le_of_ble_eq_true rfl⟩) hP hD hS hA [0] [1, 2, 3, 4, 5, 6, 7, 8, 9, 10, 11, 12] rfl rfl (by decide) (by decide) (fun r_16 u_17 H locs hw hP hD hS => ?_)
      have hP : va_P D vwCl [(a1, .inl (K 0, 5, .inl f)), (b1, .inr (9, [.ref f1, .ref c1, .ref m1, .ref l1, .int 0, .int 0, .int (-1), .int 0, .int 0, .int 0])), (f0, .inl (K 0, 56, .inl ((u_12.2.1 0)))), (f1, .inl (K 0, 56, .inl (fun _ => 0))), (c1, .inl (K 0, 24, .inl (fun _ => 0))), (m1, .inl (K 0, 6, .inl tm0)), (l0, .inl (K 4, 6, .inr (.inr (.inr (.inr (va_up (va_up (va_up (va_up (va_up (va_up (fun _ => none) 0 none) 1 none) 2 none) 3 none) 4 none) 5 none)))))), (l1, .inl (K 4, 6, .inr (.inr (.inr (.inr (fun _ => none)))))), (b2, .inr (10, [r0])), (b0, .inr (9, [.ref f0, .ref c0, .ref m0, .ref l0, .int 0, .int 0, .int (-1), .int 0, .int 0, .int 0])), (c0, .inl (K 0, 24, .inl ((u_12.2.1 1)))), (m0, .inl (K 0, 6, .inl ((u_14.2.1 0))))] H := hP
      have hD : va_D A [(a1, .inl (K 0, 5, .inl f)), (b1, .inr (9, [.ref f1, .ref c1, .ref m1, .ref l1, .int 0, .int 0, .int (-1), .int 0, .int 0, .int 0])), (f0, .inl (K 0, 56, .inl ((u_12.2.1 0)))), (f1, .inl (K 0, 56, .inl (fun _ => 0))), (c1, .inl (K 0, 24, .inl (fun _ => 0))), (m1, .inl (K 0, 6, .inl tm0)), (l0, .inl (K 4, 6, .inr (.inr (.inr (.inr (va_up (va_up (va_up (va_up (va_up (va_up (fun _ => none) 0 none) 1 none) 2 none) 3 none) 4 none) 5 none)))))), (l1, .inl (K 4, 6, .inr (.inr (.inr (.inr (fun _ => none)))))), (b2, .inr (10, [r0])), (b0, .inr (9, [.ref f0, .ref c0, .ref m0, .ref l0, .int 0, .int 0, .int (-1), .int 0, .int 0, .int 0])), (c0, .inl (K 0, 24, .inl ((u_12.2.1 1)))), (m0, .inl (K 0, 6, .inl ((u_14.2.1 0))))] := hD
      obtain rfl : r_16 = (nI nn) := hw
      exact W.iret (v := (nI nn)) hx hb hr (fun t ht hW => ⟨⟨(nI nn), (), rfl, (by first | exact Or.inl (⟨rfl, by first | omega | decide | (subst_vars; assumption) | (subst_vars; symm; assumption), by first | omega | decide | (subst_vars; assumption) | (subst_vars; symm; assumption), by first | omega | decide | (subst_vars; assumption) | (subst_vars; symm; assumption), by first | omega | decide | (subst_vars; assumption) | (subst_vars; symm; assumption)⟩) | exact Or.inr (⟨rfl, by first | omega | decide | (subst_vars; assumption) | (subst_vars; symm; assumption)⟩)), Wd.nil⟩, hS.F ht⟩) hS.2.2 dX11_days_81
    · refine lv_if_ne (tgt := 27) hx hb dX11_days_18 (by decide) (fun c_18 => absurd (by decide) c_18) (fun c_18 => ?_)
      refine lv_aload_n hx hb dX11_days_21 rfl (lv_at hl 0 rfl) ?_
      refine lv_iconst (v := (-1)) hx hb dX11_days_22 (by decide) ?_
      refine kci (wr := [(b2, .inr (10, [r0])), (b0, .inr (9, [.ref f0, .ref c0, .ref m0, .ref l0, .int 0, .int 0, .int (-1), .int 0, .int 0, .int 0])), (b1, .inr (9, [.ref f1, .ref c1, .ref m1, .ref l1, .int 0, .int 0, .int (-1), .int 0, .int 0, .int 0])), (f0, .inl (K 0, 56, .inl (fun _ => 0))), (f1, .inl (K 0, 56, .inl (fun _ => 0))), (c0, .inl (K 0, 24, .inl (fun _ => 0))), (c1, .inl (K 0, 24, .inl (fun _ => 0))), (m0, .inl (K 0, 6, .inl tm0)), (m1, .inl (K 0, 6, .inl tm0)), (l0, .inl (K 4, 6, .inr (.inr (.inr (.inr (fun _ => none)))))), (l1, .inl (K 4, 6, .inr (.inr (.inr (.inr (fun _ => none))))))]) (va_runV (As := [.int (-1)]) (rest := []) ⟨hx, hb, hml, hown, hts⟩ (c_refuse_1 l D K a0 (.ref b1) g1 g2 (.ref b0) g4 g5 g6 (.ref b2) g8 g9 g10 g11 a1 g13 g14 g15 g16 f s.heap.size) (cwV 1 hts gX11_days_X11_refuse rfl rfl rfl (by decide +kernel) ⟨Nat.le_of_ble_eq_true rfl, Nat.le_of_ble_eq_true rfl⟩) (mkV hK hN (hP.sub [0, 1] rfl) (hD.sub [0, 1] (by decide) rfl) (ci := 11) (q0 := 0) rfl rfl) rfl rfl hl.1 rfl (lv_room (Nat.le_of_ble_eq_true rfl)) dX11_days_23 ⟨Nat.le_of_ble_eq_true rfl, Nat.le_of_ble_eq_true rfl⟩) hP hD hS hA [0, 1] [2, 3, 4, 5, 6, 7, 8, 9, 10, 11, 12] rfl rfl (by decide) (by decide) (fun r_19 u_20 H locs hw hP hD hS => ?_)
      have hP : va_P D vwCl [(b2, .inr (10, [r0])), (b0, .inr (9, [.ref f0, .ref c0, .ref m0, .ref l0, .int 0, .int 0, .int (-1), .int 0, .int 0, .int 0])), (b1, .inr (9, [.ref f1, .ref c1, .ref m1, .ref l1, .int 0, .int 0, .int (-1), .int 0, .int 0, .int 0])), (f0, .inl (K 0, 56, .inl (fun _ => 0))), (f1, .inl (K 0, 56, .inl (fun _ => 0))), (c0, .inl (K 0, 24, .inl (fun _ => 0))), (c1, .inl (K 0, 24, .inl (fun _ => 0))), (m0, .inl (K 0, 6, .inl tm0)), (m1, .inl (K 0, 6, .inl tm0)), (l0, .inl (K 4, 6, .inr (.inr (.inr (.inr (fun _ => none)))))), (l1, .inl (K 4, 6, .inr (.inr (.inr (.inr (fun _ => none))))))] H := hP
      have hD : va_D A [(b2, .inr (10, [r0])), (b0, .inr (9, [.ref f0, .ref c0, .ref m0, .ref l0, .int 0, .int 0, .int (-1), .int 0, .int 0, .int 0])), (b1, .inr (9, [.ref f1, .ref c1, .ref m1, .ref l1, .int 0, .int 0, .int (-1), .int 0, .int 0, .int 0])), (f0, .inl (K 0, 56, .inl (fun _ => 0))), (f1, .inl (K 0, 56, .inl (fun _ => 0))), (c0, .inl (K 0, 24, .inl (fun _ => 0))), (c1, .inl (K 0, 24, .inl (fun _ => 0))), (m0, .inl (K 0, 6, .inl tm0)), (m1, .inl (K 0, 6, .inl tm0)), (l0, .inl (K 4, 6, .inr (.inr (.inr (.inr (fun _ => none)))))), (l1, .inl (K 4, 6, .inr (.inr (.inr (.inr (fun _ => none))))))] := hD
      obtain rfl : r_19 = (-1) := hw
      exact W.iret (v := (-1)) hx hb hr (fun t ht hW => ⟨⟨(-1), (), rfl, (by first | exact Or.inl (⟨rfl, by first | omega | decide | (subst_vars; assumption) | (subst_vars; symm; assumption), by first | omega | decide | (subst_vars; assumption) | (subst_vars; symm; assumption), by first | omega | decide | (subst_vars; assumption) | (subst_vars; symm; assumption), by first | omega | decide | (subst_vars; assumption) | (subst_vars; symm; assumption)⟩) | exact Or.inr (⟨rfl, by first | omega | decide | (subst_vars; assumption) | (subst_vars; symm; assumption)⟩)), Wd.nil⟩, hS.F ht⟩) hS.2.2 dX11_days_26
  · refine lv_if_eq (tgt := 21) hx hb dX11_days_8 (by decide) (fun c_21 => ?_) (fun c_21 => absurd (by decide) c_21)
    refine lv_aload_n hx hb dX11_days_21 rfl (lv_at hl 0 rfl) ?_
    refine lv_iconst (v := (-1)) hx hb dX11_days_22 (by decide) ?_
    refine kci (wr := [(b2, .inr (10, [r0])), (b0, .inr (9, [.ref f0, .ref c0, .ref m0, .ref l0, .int 0, .int 0, .int (-1), .int 0, .int 0, .int 0])), (b1, .inr (9, [.ref f1, .ref c1, .ref m1, .ref l1, .int 0, .int 0, .int (-1), .int 0, .int 0, .int 0])), (f0, .inl (K 0, 56, .inl (fun _ => 0))), (f1, .inl (K 0, 56, .inl (fun _ => 0))), (c0, .inl (K 0, 24, .inl (fun _ => 0))), (c1, .inl (K 0, 24, .inl (fun _ => 0))), (m0, .inl (K 0, 6, .inl tm0)), (m1, .inl (K 0, 6, .inl tm0)), (l0, .inl (K 4, 6, .inr (.inr (.inr (.inr (fun _ => none)))))), (l1, .inl (K 4, 6, .inr (.inr (.inr (.inr (fun _ => none))))))]) (va_runV (As := [.int (-1)]) (rest := []) ⟨hx, hb, hml, hown, hts⟩ (c_refuse_1 l D K a0 (.ref b1) g1 g2 (.ref b0) g4 g5 g6 (.ref b2) g8 g9 g10 g11 a1 g13 g14 g15 g16 f s.heap.size) (cwV 1 hts gX11_days_X11_refuse rfl rfl rfl (by decide +kernel) ⟨Nat.le_of_ble_eq_true rfl, Nat.le_of_ble_eq_true rfl⟩) (mkV hK hN (hP.sub [0, 1] rfl) (hD.sub [0, 1] (by decide) rfl) (ci := 11) (q0 := 0) rfl rfl) rfl rfl hl.1 rfl (lv_room (Nat.le_of_ble_eq_true rfl)) dX11_days_23 ⟨Nat.le_of_ble_eq_true rfl, Nat.le_of_ble_eq_true rfl⟩) hP hD hS hA [0, 1] [2, 3, 4, 5, 6, 7, 8, 9, 10, 11, 12] rfl rfl (by decide) (by decide) (fun r_22 u_23 H locs hw hP hD hS => ?_)
    have hP : va_P D vwCl [(b2, .inr (10, [r0])), (b0, .inr (9, [.ref f0, .ref c0, .ref m0, .ref l0, .int 0, .int 0, .int (-1), .int 0, .int 0, .int 0])), (b1, .inr (9, [.ref f1, .ref c1, .ref m1, .ref l1, .int 0, .int 0, .int (-1), .int 0, .int 0, .int 0])), (f0, .inl (K 0, 56, .inl (fun _ => 0))), (f1, .inl (K 0, 56, .inl (fun _ => 0))), (c0, .inl (K 0, 24, .inl (fun _ => 0))), (c1, .inl (K 0, 24, .inl (fun _ => 0))), (m0, .inl (K 0, 6, .inl tm0)), (m1, .inl (K 0, 6, .inl tm0)), (l0, .inl (K 4, 6, .inr (.inr (.inr (.inr (fun _ => none)))))), (l1, .inl (K 4, 6, .inr (.inr (.inr (.inr (fun _ => none))))))] H := hP
    have hD : va_D A [(b2, .inr (10, [r0])), (b0, .inr (9, [.ref f0, .ref c0, .ref m0, .ref l0, .int 0, .int 0, .int (-1), .int 0, .int 0, .int 0])), (b1, .inr (9, [.ref f1, .ref c1, .ref m1, .ref l1, .int 0, .int 0, .int (-1), .int 0, .int 0, .int 0])), (f0, .inl (K 0, 56, .inl (fun _ => 0))), (f1, .inl (K 0, 56, .inl (fun _ => 0))), (c0, .inl (K 0, 24, .inl (fun _ => 0))), (c1, .inl (K 0, 24, .inl (fun _ => 0))), (m0, .inl (K 0, 6, .inl tm0)), (m1, .inl (K 0, 6, .inl tm0)), (l0, .inl (K 4, 6, .inr (.inr (.inr (.inr (fun _ => none)))))), (l1, .inl (K 4, 6, .inr (.inr (.inr (.inr (fun _ => none))))))] := hD
    obtain rfl : r_22 = (-1) := hw
    exact W.iret (v := (-1)) hx hb hr (fun t ht hW => ⟨⟨(-1), (), rfl, (by first | exact Or.inl (⟨rfl, by first | omega | decide | (subst_vars; assumption) | (subst_vars; symm; assumption), by first | omega | decide | (subst_vars; assumption) | (subst_vars; symm; assumption), by first | omega | decide | (subst_vars; assumption) | (subst_vars; symm; assumption), by first | omega | decide | (subst_vars; assumption) | (subst_vars; symm; assumption)⟩) | exact Or.inr (⟨rfl, by first | omega | decide | (subst_vars; assumption) | (subst_vars; symm; assumption)⟩)), Wd.nil⟩, hS.F ht⟩) hS.2.2 dX11_days_26
set_option maxHeartbeats 4000000 in
set_option maxRecDepth 100000 in
theorem t_image (l : Launch) (D : va_G) (K : Nat → ClassId) (a0 : Nat) (x : Int32) (b1 : Nat) (b3 : Nat) (b4 : Nat) (g3 : Value) (g4 : Value) (g5 : Value) (g6 : Value) (g7 : Value) (g8 : Value) (g9 : Value) (g10 : Value) (g11 : Value) (a1 : Nat) (g13 : Value) (g14 : Value) (g15 : Value) (g16 : Value) (f : Nat → Int32) (f1 : Nat) (c1 : Nat) (m1 : Nat) (l1 : Nat) (i0 : Nat) (f2 : Nat) (c2 : Nat) (m2 : Nat) (l2 : Nat) (i1 : Nat) (f3 : Nat) (c3 : Nat) (m3 : Nat) (l3 : Nat) (sz : Nat) : Met l yX11_image wsX11_image ({ frames := 2, cells := 0, slots := 0, locals := 62 }) (va_Pc [.ref a0, .int x] (Pre D K [(a0, .inr (11, [.ref b1, .ref b3, .ref b4, g3, g4, g5, g6, g7, g8, g9, g10, g11, .ref a1, g13, g14, g15, g16])), (a1, .inl (K 0, 5, .inl f)), (b3, .inl (K 3, 2, .inr (.inr (.inr (.inr (va_up (va_up (fun _ => none) 0 (some i0)) 1 (some i1))))))), (b4, .inl (K 1, 2, .inl (fun _ => 0))), (b1, .inr (9, [.ref f1, .ref c1, .ref m1, .ref l1, .int 0, .int 0, .int (-1), .int 0, .int 0, .int 0])), (f1, .inl (K 0, 56, .inl (fun _ => 0))), (c1, .inl (K 0, 24, .inl (fun _ => 0))), (m1, .inl (K 0, 6, .inl tm0)), (l1, .inl (K 4, 6, .inr (.inr (.inr (.inr (fun _ => none)))))), (i0, .inr (9, [.ref f2, .ref c2, .ref m2, .ref l2, .int 0, .int 0, .int (-1), .int 0, .int 0, .int 0])), (i1, .inr (9, [.ref f3, .ref c3, .ref m3, .ref l3, .int 0, .int 0, .int (-1), .int 0, .int 0, .int 0])), (f2, .inl (K 0, 56, .inl (fun _ => 0))), (f3, .inl (K 0, 56, .inl (fun _ => 0))), (c2, .inl (K 0, 24, .inl (fun _ => 0))), (c3, .inl (K 0, 24, .inl (fun _ => 0))), (m2, .inl (K 0, 6, .inl tm0)), (m3, .inl (K 0, 6, .inl tm0)), (l2, .inl (K 4, 6, .inr (.inr (.inr (.inr (fun _ => none)))))), (l3, .inl (K 4, 6, .inr (.inr (.inr (.inr (fun _ => none))))))] sz)) (va_Qi (S := Unit) (fun (r : Int32) (_ : Unit) => (r = 0 ∧ 0 ≤ x.toInt ∧ x.toInt ≤ 1) ∨ (r = (-1) ∧ (x.toInt < 0 ∨ 1 < x.toInt))) (fun u t => Wd D (va_A [(a0, .inr (11, [.ref b1, .ref b3, .ref b4, g3, g4, g5, g6, g7, g8, g9, g10, g11, .ref a1, g13, g14, g15, g16])), (a1, .inl (K 0, 5, .inl f)), (b3, .inl (K 3, 2, .inr (.inr (.inr (.inr (va_up (va_up (fun _ => none) 0 (some i0)) 1 (some i1))))))), (b4, .inl (K 1, 2, .inl (fun _ => 0))), (b1, .inr (9, [.ref f1, .ref c1, .ref m1, .ref l1, .int 0, .int 0, .int (-1), .int 0, .int 0, .int 0])), (f1, .inl (K 0, 56, .inl (fun _ => 0))), (c1, .inl (K 0, 24, .inl (fun _ => 0))), (m1, .inl (K 0, 6, .inl tm0)), (l1, .inl (K 4, 6, .inr (.inr (.inr (.inr (fun _ => none)))))), (i0, .inr (9, [.ref f2, .ref c2, .ref m2, .ref l2, .int 0, .int 0, .int (-1), .int 0, .int 0, .int 0])), (i1, .inr (9, [.ref f3, .ref c3, .ref m3, .ref l3, .int 0, .int 0, .int (-1), .int 0, .int 0, .int 0])), (f2, .inl (K 0, 56, .inl (fun _ => 0))), (f3, .inl (K 0, 56, .inl (fun _ => 0))), (c2, .inl (K 0, 24, .inl (fun _ => 0))), (c3, .inl (K 0, 24, .inl (fun _ => 0))), (m2, .inl (K 0, 6, .inl tm0)), (m3, .inl (K 0, 6, .inl tm0)), (l2, .inl (K 4, 6, .inr (.inr (.inr (.inr (fun _ => none)))))), (l3, .inl (K 4, 6, .inr (.inr (.inr (.inr (fun _ => none))))))] sz) ((fun _ => []) u) t) (va_A [(a0, .inr (11, [.ref b1, .ref b3, .ref b4, g3, g4, g5, g6, g7, g8, g9, g10, g11, .ref a1, g13, g14, g15, g16])), (a1, .inl (K 0, 5, .inl f)), (b3, .inl (K 3, 2, .inr (.inr (.inr (.inr (va_up (va_up (fun _ => none) 0 (some i0)) 1 (some i1))))))), (b4, .inl (K 1, 2, .inl (fun _ => 0))), (b1, .inr (9, [.ref f1, .ref c1, .ref m1, .ref l1, .int 0, .int 0, .int (-1), .int 0, .int 0, .int 0])), (f1, .inl (K 0, 56, .inl (fun _ => 0))), (c1, .inl (K 0, 24, .inl (fun _ => 0))), (m1, .inl (K 0, 6, .inl tm0)), (l1, .inl (K 4, 6, .inr (.inr (.inr (.inr (fun _ => none)))))), (i0, .inr (9, [.ref f2, .ref c2, .ref m2, .ref l2, .int 0, .int 0, .int (-1), .int 0, .int 0, .int 0])), (i1, .inr (9, [.ref f3, .ref c3, .ref m3, .ref l3, .int 0, .int 0, .int (-1), .int 0, .int 0, .int 0])), (f2, .inl (K 0, 56, .inl (fun _ => 0))), (f3, .inl (K 0, 56, .inl (fun _ => 0))), (c2, .inl (K 0, 24, .inl (fun _ => 0))), (c3, .inl (K 0, 24, .inl (fun _ => 0))), (m2, .inl (K 0, 6, .inl tm0)), (m3, .inl (K 0, 6, .inl tm0)), (l2, .inl (K 4, 6, .inr (.inr (.inr (.inr (fun _ => none)))))), (l3, .inl (K 4, 6, .inr (.inr (.inr (.inr (fun _ => none))))))] sz)) 0 0 (va_A [(a0, .inr (11, [.ref b1, .ref b3, .ref b4, g3, g4, g5, g6, g7, g8, g9, g10, g11, .ref a1, g13, g14, g15, g16])), (a1, .inl (K 0, 5, .inl f)), (b3, .inl (K 3, 2, .inr (.inr (.inr (.inr (va_up (va_up (fun _ => none) 0 (some i0)) 1 (some i1))))))), (b4, .inl (K 1, 2, .inl (fun _ => 0))), (b1, .inr (9, [.ref f1, .ref c1, .ref m1, .ref l1, .int 0, .int 0, .int (-1), .int 0, .int 0, .int 0])), (f1, .inl (K 0, 56, .inl (fun _ => 0))), (c1, .inl (K 0, 24, .inl (fun _ => 0))), (m1, .inl (K 0, 6, .inl tm0)), (l1, .inl (K 4, 6, .inr (.inr (.inr (.inr (fun _ => none)))))), (i0, .inr (9, [.ref f2, .ref c2, .ref m2, .ref l2, .int 0, .int 0, .int (-1), .int 0, .int 0, .int 0])), (i1, .inr (9, [.ref f3, .ref c3, .ref m3, .ref l3, .int 0, .int 0, .int (-1), .int 0, .int 0, .int 0])), (f2, .inl (K 0, 56, .inl (fun _ => 0))), (f3, .inl (K 0, 56, .inl (fun _ => 0))), (c2, .inl (K 0, 24, .inl (fun _ => 0))), (c3, .inl (K 0, 24, .inl (fun _ => 0))), (m2, .inl (K 0, 6, .inl tm0)), (m3, .inl (K 0, 6, .inl tm0)), (l2, .inl (K 4, 6, .inr (.inr (.inr (.inr (fun _ => none)))))), (l3, .inl (K 4, 6, .inr (.inr (.inr (.inr (fun _ => none))))))] sz) := by
  refine Met.ofW (cc := cX11_image) (maxL := 2) (ret := (some .int)) (by decide) rfl ?_
  intro p e s m args below meth c s₁ B hml hv
  obtain ⟨rfl, hsz, hP, hK, hD0, hN⟩ := hv
  have hx := B.exec
  have hb := B.bytes
  have hr := B.returns
  have hts := atoms_spec (ws := wsX11_image) B.pre
  have hown : s.vm.findClass RX11 = some m.cls := findClass_of_methodNamed B.named
  have hlocks := B.notSynchronized
  subst hsz
  have hD := hD0.self (sz := s.heap.size)
  generalize hAe : va_A [(a0, .inr (11, [.ref b1, .ref b3, .ref b4, g3, g4, g5, g6, g7, g8, g9, g10, g11, .ref a1, g13, g14, g15, g16])), (a1, .inl (K 0, 5, .inl f)), (b3, .inl (K 3, 2, .inr (.inr (.inr (.inr (va_up (va_up (fun _ => none) 0 (some i0)) 1 (some i1))))))), (b4, .inl (K 1, 2, .inl (fun _ => 0))), (b1, .inr (9, [.ref f1, .ref c1, .ref m1, .ref l1, .int 0, .int 0, .int (-1), .int 0, .int 0, .int 0])), (f1, .inl (K 0, 56, .inl (fun _ => 0))), (c1, .inl (K 0, 24, .inl (fun _ => 0))), (m1, .inl (K 0, 6, .inl tm0)), (l1, .inl (K 4, 6, .inr (.inr (.inr (.inr (fun _ => none)))))), (i0, .inr (9, [.ref f2, .ref c2, .ref m2, .ref l2, .int 0, .int 0, .int (-1), .int 0, .int 0, .int 0])), (i1, .inr (9, [.ref f3, .ref c3, .ref m3, .ref l3, .int 0, .int 0, .int (-1), .int 0, .int 0, .int 0])), (f2, .inl (K 0, 56, .inl (fun _ => 0))), (f3, .inl (K 0, 56, .inl (fun _ => 0))), (c2, .inl (K 0, 24, .inl (fun _ => 0))), (c3, .inl (K 0, 24, .inl (fun _ => 0))), (m2, .inl (K 0, 6, .inl tm0)), (m3, .inl (K 0, 6, .inl tm0)), (l2, .inl (K 4, 6, .inr (.inr (.inr (.inr (fun _ => none)))))), (l3, .inl (K 4, 6, .inr (.inr (.inr (.inr (fun _ => none))))))] s.heap.size = A at hD ⊢
  have hA : ∀ q : Nat, s.heap.size ≤ q → A q := fun q h => by rw [← hAe]; exact Or.inr h
  have hS : va_S A s.heap s.heap [] := va_S.rf
  have hP : va_P D vwCl [(a0, .inr (11, [.ref b1, .ref b3, .ref b4, g3, g4, g5, g6, g7, g8, g9, g10, g11, .ref a1, g13, g14, g15, g16])), (a1, .inl (K 0, 5, .inl f)), (b3, .inl (K 3, 2, .inr (.inr (.inr (.inr (va_up (va_up (fun _ => none) 0 (some i0)) 1 (some i1))))))), (b4, .inl (K 1, 2, .inl (fun _ => 0))), (b1, .inr (9, [.ref f1, .ref c1, .ref m1, .ref l1, .int 0, .int 0, .int (-1), .int 0, .int 0, .int 0])), (f1, .inl (K 0, 56, .inl (fun _ => 0))), (c1, .inl (K 0, 24, .inl (fun _ => 0))), (m1, .inl (K 0, 6, .inl tm0)), (l1, .inl (K 4, 6, .inr (.inr (.inr (.inr (fun _ => none)))))), (i0, .inr (9, [.ref f2, .ref c2, .ref m2, .ref l2, .int 0, .int 0, .int (-1), .int 0, .int 0, .int 0])), (i1, .inr (9, [.ref f3, .ref c3, .ref m3, .ref l3, .int 0, .int 0, .int (-1), .int 0, .int 0, .int 0])), (f2, .inl (K 0, 56, .inl (fun _ => 0))), (f3, .inl (K 0, 56, .inl (fun _ => 0))), (c2, .inl (K 0, 24, .inl (fun _ => 0))), (c3, .inl (K 0, 24, .inl (fun _ => 0))), (m2, .inl (K 0, 6, .inl tm0)), (m3, .inl (K 0, 6, .inl tm0)), (l2, .inl (K 4, 6, .inr (.inr (.inr (.inr (fun _ => none)))))), (l3, .inl (K 4, 6, .inr (.inr (.inr (.inr (fun _ => none))))))] s.heap := hP
  have hl := lv_entry [.ref a0, .int x] (n := 2) (Nat.le_of_ble_eq_true rfl)
  rw [lg_entry_eq]
  generalize (lg_sl [.ref a0, .int x] ++ List.replicate (2 - (lg_sl [.ref a0, .int x]).length) Slot.unset).toArray = ls at hl ⊢
  have hl : lv_has ls 2 [(0, .ref a0), (1, .int x)] := hl
  have hw9 : ∀ w ∈ wsX90, w ∈ wsX11_image := fun w h => (List.mem_cons_of_mem _ (List.mem_append_right _ h))
  have hw11 : ∀ w ∈ wsX110, w ∈ wsX11_image := fun w h => (List.mem_cons_of_mem _ (List.mem_append_left _ (List.mem_append_right _ h)))
  have hsp : (x = 0 ∨ x = 1) ∨ (x.toInt < 0 ∨ 1 < x.toInt) := by
    by_cases q1 : x.toInt < 0
    · exact Or.inr (Or.inl q1)
    · by_cases q2 : 1 < x.toInt
      · exact Or.inr (Or.inr q2)
      · refine Or.inl ?_
        have q3 : x.toInt = 0 ∨ x.toInt = 1 := by omega
        rcases q3 with q3 | q3
        · exact Or.inl (i_lit q3 rfl)
        · exact Or.inr (i_lit q3 rfl)
  rcases hsp with (rfl | rfl) | hsp
  · refine lv_iload_n hx hb dX11_image_0 rfl (lv_at hl 1 rfl) ?_
    refine lv_iconst (v := 0) hx hb dX11_image_1 (by decide) ?_
    refine lv_iconst (v := 1) hx hb dX11_image_2 (by decide) ?_
    refine pci (va_runS (As := [.int 0, .int 0, .int 1]) (rest := []) ⟨hx, hb, hml, hown, hts⟩ (c_within l D K 0 0 1 0 0 1 s.heap.size rfl rfl rfl) (va_cwS 3 hts gX11_image_X11_within rfl rfl rfl (by decide +kernel) ⟨Nat.le_of_ble_eq_true rfl, Nat.le_of_ble_eq_true rfl⟩) (mkS hK hN (hP.sub [] rfl) (hD.sub [] (by decide) rfl)) rfl rfl hl.1 rfl (lv_room (Nat.le_of_ble_eq_true rfl)) dX11_image_3 ⟨Nat.le_of_ble_eq_true rfl, Nat.le_of_ble_eq_true rfl⟩) (fun r_1 hw => ?_)
    rcases hw with ⟨rfl, h_2, h_3⟩ | ⟨rfl, h_4⟩
    · refine lv_if_ne (tgt := 15) hx hb dX11_image_6 (by decide) (fun c_5 => ?_) (fun c_5 => absurd c_5 (by decide))
      refine lv_aload_n hx hb dX11_image_15 rfl (lv_at hl 0 rfl) ?_
      refine va_get (ci := 11) (v := .ref b3) (C := RX11) (T := TX11) (N := 17) hx hb hts hw11 hown hK hP 0 rfl rfl 1 (by decide) (hts (.fieldLink RX11 16 "SmokeTune" "images" "[LSmokeTune$Town;") (List.mem_cons_of_mem _ (List.mem_append_left _ (List.mem_append_left _ (List.mem_append_left _ (List.mem_of_getElem? (i := 0) rfl)))))) (fun _ h9 => h9) rfl dX11_image_16 ?_
      refine lv_iload_n hx hb dX11_image_19 rfl (lv_at hl 1 rfl) ?_
      refine va_aldq (C := "SmokeTune$Town") hx hb hK hP 2 3 rfl rfl (i_in (x := 0) rfl (by omega)) dX11_image_20 ?_
      refine W.eq (g2 := F0 m 21 ls [.ref i0]) rfl ?_
      refine lv_aload_n hx hb dX11_image_21 rfl (lv_at hl 0 rfl) ?_
      refine va_get (ci := 11) (v := .ref b1) (C := RX11) (T := TX11) (N := 17) hx hb hts hw11 hown hK hP 0 rfl rfl 0 (by decide) (hts (.fieldLink RX11 10 "SmokeTune" "town" "LSmokeTune$Town;") (List.mem_cons_of_mem _ (List.mem_append_left _ (List.mem_append_left _ (List.mem_append_left _ (List.mem_of_getElem? (i := 1) rfl)))))) (fun _ h9 => h9) rfl dX11_image_22 ?_
      refine kcv (wr := [(a0, .inr (11, [.ref b1, .ref b3, .ref b4, g3, g4, g5, g6, g7, g8, g9, g10, g11, .ref a1, g13, g14, g15, g16])), (a1, .inl (K 0, 5, .inl f)), (b3, .inl (K 3, 2, .inr (.inr (.inr (.inr (va_up (va_up (fun _ => none) 0 (some i0)) 1 (some i1))))))), (b4, .inl (K 1, 2, .inl (fun _ => 0))), (i1, .inr (9, [.ref f3, .ref c3, .ref m3, .ref l3, .int 0, .int 0, .int (-1), .int 0, .int 0, .int 0])), (f3, .inl (K 0, 56, .inl (fun _ => 0))), (c3, .inl (K 0, 24, .inl (fun _ => 0))), (m3, .inl (K 0, 6, .inl tm0)), (l3, .inl (K 4, 6, .inr (.inr (.inr (.inr (fun _ => none))))))]) (va_runVN (As := [.ref b1]) (rest := []) ⟨hx, hb, hml, hown, hts⟩ (c_become l D K i0 b1 f2 c2 m2 l2 f1 c1 m1 l1 s.heap.size) ⟨va_cnB 1 hts gX11_image_X9_become_n285 rfl rfl rfl (nst_at hN 94 rfl) (hts (.initialized RX9) (List.mem_cons_of_mem _ (List.mem_append_left _ (List.mem_append_left _ (List.mem_append_left _ (List.mem_of_getElem? (i := 14) rfl)))))) (by decide +kernel) ⟨Nat.le_of_ble_eq_true rfl, Nat.le_of_ble_eq_true rfl⟩, (hts (.instanceMethod yX9_become) (List.mem_cons_of_mem _ (List.mem_append_left _ (List.mem_append_left _ (List.mem_append_left _ (List.mem_of_getElem? (i := 13) rfl)))))), (hts (.selects RX9 yX9_become yX9_become) (List.mem_cons_of_mem _ (List.mem_append_left _ (List.mem_append_left _ (List.mem_append_left _ (List.mem_of_getElem? (i := 15) rfl))))))⟩ (mkV hK hN (hP.sub [9, 4, 11, 5, 13, 6, 15, 7, 17, 8] rfl) (hD.sub [9, 4, 11, 5, 13, 6, 15, 7, 17, 8] (by decide) rfl) (ci := 9) (q0 := 0) rfl rfl) rfl rfl hl.1 rfl (lv_room (Nat.le_of_ble_eq_true rfl)) dX11_image_25 ⟨Nat.le_of_ble_eq_true rfl, Nat.le_of_ble_eq_true rfl⟩) hP hD hS hA [9, 4, 11, 5, 13, 6, 15, 7, 17, 8] [0, 1, 2, 3, 10, 12, 14, 16, 18] rfl rfl (by decide) (by decide) (fun u_7 H locs hw hP hD hS => ?_)
      have hP : va_P D vwCl [(a0, .inr (11, [.ref b1, .ref b3, .ref b4, g3, g4, g5, g6, g7, g8, g9, g10, g11, .ref a1, g13, g14, g15, g16])), (a1, .inl (K 0, 5, .inl f)), (b3, .inl (K 3, 2, .inr (.inr (.inr (.inr (va_up (va_up (fun _ => none) 0 (some i0)) 1 (some i1))))))), (b4, .inl (K 1, 2, .inl (fun _ => 0))), (i1, .inr (9, [.ref f3, .ref c3, .ref m3, .ref l3, .int 0, .int 0, .int (-1), .int 0, .int 0, .int 0])), (f3, .inl (K 0, 56, .inl (fun _ => 0))), (c3, .inl (K 0, 24, .inl (fun _ => 0))), (m3, .inl (K 0, 6, .inl tm0)), (l3, .inl (K 4, 6, .inr (.inr (.inr (.inr (fun _ => none)))))), (i0, .inr (9, [.ref f2, .ref c2, .ref m2, .ref l2, .int 0, .int 0, .int (-1), .int 0, .int 0, .int 0])), (b1, .inr (9, [.ref f1, .ref c1, .ref m1, .ref l1, .int 0, .int 0, .int (-1), .int 0, .int 0, .int 0])), (f2, .inl (K 0, 56, .inl ((u_7.2.1 0)))), (f1, .inl (K 0, 56, .inl (fun _ => 0))), (c2, .inl (K 0, 24, .inl ((u_7.2.1 1)))), (c1, .inl (K 0, 24, .inl (fun _ => 0))), (m2, .inl (K 0, 6, .inl ((u_7.2.1 2)))), (m1, .inl (K 0, 6, .inl tm0)), (l2, .inl (K 4, 6, .inr (.inr (.inr (.inr (va_up (va_up (va_up (va_up (va_up (va_up (fun _ => none) 0 none) 1 none) 2 none) 3 none) 4 none) 5 none)))))), (l1, .inl (K 4, 6, .inr (.inr (.inr (.inr (fun _ => none))))))] H := hP
      have hD : va_D A [(a0, .inr (11, [.ref b1, .ref b3, .ref b4, g3, g4, g5, g6, g7, g8, g9, g10, g11, .ref a1, g13, g14, g15, g16])), (a1, .inl (K 0, 5, .inl f)), (b3, .inl (K 3, 2, .inr (.inr (.inr (.inr (va_up (va_up (fun _ => none) 0 (some i0)) 1 (some i1))))))), (b4, .inl (K 1, 2, .inl (fun _ => 0))), (i1, .inr (9, [.ref f3, .ref c3, .ref m3, .ref l3, .int 0, .int 0, .int (-1), .int 0, .int 0, .int 0])), (f3, .inl (K 0, 56, .inl (fun _ => 0))), (c3, .inl (K 0, 24, .inl (fun _ => 0))), (m3, .inl (K 0, 6, .inl tm0)), (l3, .inl (K 4, 6, .inr (.inr (.inr (.inr (fun _ => none)))))), (i0, .inr (9, [.ref f2, .ref c2, .ref m2, .ref l2, .int 0, .int 0, .int (-1), .int 0, .int 0, .int 0])), (b1, .inr (9, [.ref f1, .ref c1, .ref m1, .ref l1, .int 0, .int 0, .int (-1), .int 0, .int 0, .int 0])), (f2, .inl (K 0, 56, .inl ((u_7.2.1 0)))), (f1, .inl (K 0, 56, .inl (fun _ => 0))), (c2, .inl (K 0, 24, .inl ((u_7.2.1 1)))), (c1, .inl (K 0, 24, .inl (fun _ => 0))), (m2, .inl (K 0, 6, .inl ((u_7.2.1 2)))), (m1, .inl (K 0, 6, .inl tm0)), (l2, .inl (K 4, 6, .inr (.inr (.inr (.inr (va_up (va_up (va_up (va_up (va_up (va_up (fun _ => none) 0 none) 1 none) 2 none) 3 none) 4 none) 5 none)))))), (l1, .inl (K 4, 6, .inr (.inr (.inr (.inr (fun _ => none))))))] := hD
      obtain ⟨hbz, hb0, hb1⟩ := hw
      refine lv_aload_n hx hb dX11_image_28 rfl (lv_at hl 0 rfl) ?_
      refine va_get (ci := 11) (v := .ref b4) (C := RX11) (T := TX11) (N := 17) hx hb hts hw11 hown hK hP 0 rfl rfl 2 (by decide) (hts (.fieldLink RX11 20 "SmokeTune" "imageKept" "[Z") (List.mem_cons_of_mem _ (List.mem_append_left _ (List.mem_append_left _ (List.mem_append_left _ (List.mem_of_getElem? (i := 2) rfl)))))) (fun _ h9 => h9) rfl dX11_image_29 ?_
      refine lv_iload_n hx hb dX11_image_32 rfl (lv_at hl 1 rfl) ?_
      refine lv_iconst (v := 1) hx hb dX11_image_33 (by decide) ?_
      refine va_zast hx hb hK hP hD hS 3 1 rfl rfl (i_in (x := 0) rfl (by omega)) dX11_image_34 (fun H locs hP hD hS => ?_)
      generalize hf_8 : (upd (fun _ => 0) (0 : Int32).toNatClampNeg (vp_nar .boolean 1)) = f_8 at hP hD
      have hP : va_P D vwCl [(a0, .inr (11, [.ref b1, .ref b3, .ref b4, g3, g4, g5, g6, g7, g8, g9, g10, g11, .ref a1, g13, g14, g15, g16])), (a1, .inl (K 0, 5, .inl f)), (b3, .inl (K 3, 2, .inr (.inr (.inr (.inr (va_up (va_up (fun _ => none) 0 (some i0)) 1 (some i1))))))), (b4, .inl (K 1, 2, .inl f_8)), (i1, .inr (9, [.ref f3, .ref c3, .ref m3, .ref l3, .int 0, .int 0, .int (-1), .int 0, .int 0, .int 0])), (f3, .inl (K 0, 56, .inl (fun _ => 0))), (c3, .inl (K 0, 24, .inl (fun _ => 0))), (m3, .inl (K 0, 6, .inl tm0)), (l3, .inl (K 4, 6, .inr (.inr (.inr (.inr (fun _ => none)))))), (i0, .inr (9, [.ref f2, .ref c2, .ref m2, .ref l2, .int 0, .int 0, .int (-1), .int 0, .int 0, .int 0])), (b1, .inr (9, [.ref f1, .ref c1, .ref m1, .ref l1, .int 0, .int 0, .int (-1), .int 0, .int 0, .int 0])), (f2, .inl (K 0, 56, .inl ((u_7.2.1 0)))), (f1, .inl (K 0, 56, .inl (fun _ => 0))), (c2, .inl (K 0, 24, .inl ((u_7.2.1 1)))), (c1, .inl (K 0, 24, .inl (fun _ => 0))), (m2, .inl (K 0, 6, .inl ((u_7.2.1 2)))), (m1, .inl (K 0, 6, .inl tm0)), (l2, .inl (K 4, 6, .inr (.inr (.inr (.inr (va_up (va_up (va_up (va_up (va_up (va_up (fun _ => none) 0 none) 1 none) 2 none) 3 none) 4 none) 5 none)))))), (l1, .inl (K 4, 6, .inr (.inr (.inr (.inr (fun _ => none))))))] H := hP
      have hD : va_D A [(a0, .inr (11, [.ref b1, .ref b3, .ref b4, g3, g4, g5, g6, g7, g8, g9, g10, g11, .ref a1, g13, g14, g15, g16])), (a1, .inl (K 0, 5, .inl f)), (b3, .inl (K 3, 2, .inr (.inr (.inr (.inr (va_up (va_up (fun _ => none) 0 (some i0)) 1 (some i1))))))), (b4, .inl (K 1, 2, .inl f_8)), (i1, .inr (9, [.ref f3, .ref c3, .ref m3, .ref l3, .int 0, .int 0, .int (-1), .int 0, .int 0, .int 0])), (f3, .inl (K 0, 56, .inl (fun _ => 0))), (c3, .inl (K 0, 24, .inl (fun _ => 0))), (m3, .inl (K 0, 6, .inl tm0)), (l3, .inl (K 4, 6, .inr (.inr (.inr (.inr (fun _ => none)))))), (i0, .inr (9, [.ref f2, .ref c2, .ref m2, .ref l2, .int 0, .int 0, .int (-1), .int 0, .int 0, .int 0])), (b1, .inr (9, [.ref f1, .ref c1, .ref m1, .ref l1, .int 0, .int 0, .int (-1), .int 0, .int 0, .int 0])), (f2, .inl (K 0, 56, .inl ((u_7.2.1 0)))), (f1, .inl (K 0, 56, .inl (fun _ => 0))), (c2, .inl (K 0, 24, .inl ((u_7.2.1 1)))), (c1, .inl (K 0, 24, .inl (fun _ => 0))), (m2, .inl (K 0, 6, .inl ((u_7.2.1 2)))), (m1, .inl (K 0, 6, .inl tm0)), (l2, .inl (K 4, 6, .inr (.inr (.inr (.inr (va_up (va_up (va_up (va_up (va_up (va_up (fun _ => none) 0 none) 1 none) 2 none) 3 none) 4 none) 5 none)))))), (l1, .inl (K 4, 6, .inr (.inr (.inr (.inr (fun _ => none))))))] := hD
      refine lv_aload_n hx hb dX11_image_35 rfl (lv_at hl 0 rfl) ?_
      refine lv_iconst (v := 0) hx hb dX11_image_36 (by decide) ?_
      refine kci (wr := [(a1, .inl (K 0, 5, .inl f)), (b3, .inl (K 3, 2, .inr (.inr (.inr (.inr (va_up (va_up (fun _ => none) 0 (some i0)) 1 (some i1))))))), (b4, .inl (K 1, 2, .inl f_8)), (i1, .inr (9, [.ref f3, .ref c3, .ref m3, .ref l3, .int 0, .int 0, .int (-1), .int 0, .int 0, .int 0])), (f3, .inl (K 0, 56, .inl (fun _ => 0))), (c3, .inl (K 0, 24, .inl (fun _ => 0))), (m3, .inl (K 0, 6, .inl tm0)), (l3, .inl (K 4, 6, .inr (.inr (.inr (.inr (fun _ => none)))))), (i0, .inr (9, [.ref f2, .ref c2, .ref m2, .ref l2, .int 0, .int 0, .int (-1), .int 0, .int 0, .int 0])), (b1, .inr (9, [.ref f1, .ref c1, .ref m1, .ref l1, .int 0, .int 0, .int (-1), .int 0, .int 0, .int 0])), (f2, .inl (K 0, 56, .inl ((u_7.2.1 0)))), (f1, .inl (K 0, 56, .inl (fun _ => 0))), (c2, .inl (K 0, 24, .inl ((u_7.2.1 1)))), (c1, .inl (K 0, 24, .inl (fun _ => 0))), (m2, .inl (K 0, 6, .inl ((u_7.2.1 2)))), (m1, .inl (K 0, 6, .inl tm0)), (l2, .inl (K 4, 6, .inr (.inr (.inr (.inr (va_up (va_up (va_up (va_up (va_up (va_up (fun _ => none) 0 none) 1 none) 2 none) 3 none) 4 none) 5 none)))))), (l1, .inl (K 4, 6, .inr (.inr (.inr (.inr (fun _ => none))))))]) (va_runV (As := [.int 0]) (rest := []) ⟨hx, hb, hml, hown, hts⟩ (c_accept l D K a0 0 (.ref b1) (.ref b3) (.ref b4) g3 g4 g5 g6 g7 g8 g9 g10 g11 (.ref a1) g13 g14 g15 g16 H.size) (cwV 1 hts gX11_image_X11_accept rfl rfl rfl (by decide +kernel) ⟨Nat.le_of_ble_eq_true rfl, Nat.le_of_ble_eq_true rfl⟩) (mkV hK hN (hP.sub [0] rfl) (hD.sub [0] (by decide) rfl) (ci := 11) (q0 := 0) rfl rfl) rfl rfl hl.1 rfl (lv_room (Nat.le_of_ble_eq_true rfl)) dX11_image_37 ⟨Nat.le_of_ble_eq_true rfl, Nat.le_of_ble_eq_true rfl⟩) hP hD hS hA [0] [1, 2, 3, 4, 5, 6, 7, 8, 9, 10, 11, 12, 13, 14, 15, 16, 17, 18] rfl rfl (by decide) (by decide) (fun r_9 u_10 H locs hw hP hD hS => ?_)
      have hP : va_P D vwCl [(a1, .inl (K 0, 5, .inl f)), (b3, .inl (K 3, 2, .inr (.inr (.inr (.inr (va_up (va_up (fun _ => none) 0 (some i0)) 1 (some i1))))))), (b4, .inl (K 1, 2, .inl f_8)), (i1, .inr (9, [.ref f3, .ref c3, .ref m3, .ref l3, .int 0, .int 0, .int (-1), .int 0, .int 0, .int 0])), (f3, .inl (K 0, 56, .inl (fun _ => 0))), (c3, .inl (K 0, 24, .inl (fun _ => 0))), (m3, .inl (K 0, 6, .inl tm0)), (l3, .inl (K 4, 6, .inr (.inr (.inr (.inr (fun _ => none)))))), (i0, .inr (9, [.ref f2, .ref c2, .ref m2, .ref l2, .int 0, .int 0, .int (-1), .int 0, .int 0, .int 0])), (b1, .inr (9, [.ref f1, .ref c1, .ref m1, .ref l1, .int 0, .int 0, .int (-1), .int 0, .int 0, .int 0])), (f2, .inl (K 0, 56, .inl ((u_7.2.1 0)))), (f1, .inl (K 0, 56, .inl (fun _ => 0))), (c2, .inl (K 0, 24, .inl ((u_7.2.1 1)))), (c1, .inl (K 0, 24, .inl (fun _ => 0))), (m2, .inl (K 0, 6, .inl ((u_7.2.1 2)))), (m1, .inl (K 0, 6, .inl tm0)), (l2, .inl (K 4, 6, .inr (.inr (.inr (.inr (va_up (va_up (va_up (va_up (va_up (va_up (fun _ => none) 0 none) 1 none) 2 none) 3 none) 4 none) 5 none)))))), (l1, .inl (K 4, 6, .inr (.inr (.inr (.inr (fun _ => none))))))] H := hP
      have hD : va_D A [(a1, .inl (K 0, 5, .inl f)), (b3, .inl (K 3, 2, .inr (.inr (.inr (.inr (va_up (va_up (fun _ => none) 0 (some i0)) 1 (some i1))))))), (b4, .inl (K 1, 2, .inl f_8)), (i1, .inr (9, [.ref f3, .ref c3, .ref m3, .ref l3, .int 0, .int 0, .int (-1), .int 0, .int 0, .int 0])), (f3, .inl (K 0, 56, .inl (fun _ => 0))), (c3, .inl (K 0, 24, .inl (fun _ => 0))), (m3, .inl (K 0, 6, .inl tm0)), (l3, .inl (K 4, 6, .inr (.inr (.inr (.inr (fun _ => none)))))), (i0, .inr (9, [.ref f2, .ref c2, .ref m2, .ref l2, .int 0, .int 0, .int (-1), .int 0, .int 0, .int 0])), (b1, .inr (9, [.ref f1, .ref c1, .ref m1, .ref l1, .int 0, .int 0, .int (-1), .int 0, .int 0, .int 0])), (f2, .inl (K 0, 56, .inl ((u_7.2.1 0)))), (f1, .inl (K 0, 56, .inl (fun _ => 0))), (c2, .inl (K 0, 24, .inl ((u_7.2.1 1)))), (c1, .inl (K 0, 24, .inl (fun _ => 0))), (m2, .inl (K 0, 6, .inl ((u_7.2.1 2)))), (m1, .inl (K 0, 6, .inl tm0)), (l2, .inl (K 4, 6, .inr (.inr (.inr (.inr (va_up (va_up (va_up (va_up (va_up (va_up (fun _ => none) 0 none) 1 none) 2 none) 3 none) 4 none) 5 none)))))), (l1, .inl (K 4, 6, .inr (.inr (.inr (.inr (fun _ => none))))))] := hD
      obtain rfl : r_9 = 0 := hw
      exact W.iret (v := 0) hx hb hr (fun t ht hW => ⟨⟨0, (), rfl, (by first | exact Or.inl (⟨rfl, by first | omega | decide | (subst_vars; assumption) | (subst_vars; symm; assumption), by first | omega | decide | (subst_vars; assumption) | (subst_vars; symm; assumption)⟩)), Wd.nil⟩, hS.F ht⟩) hS.2.2 dX11_image_40
    · exfalso; omega
  · refine lv_iload_n hx hb dX11_image_0 rfl (lv_at hl 1 rfl) ?_
    refine lv_iconst (v := 0) hx hb dX11_image_1 (by decide) ?_
    refine lv_iconst (v := 1) hx hb dX11_image_2 (by decide) ?_
    refine pci (va_runS (As := [.int 1, .int 0, .int 1]) (rest := []) ⟨hx, hb, hml, hown, hts⟩ (c_within l D K 1 0 1 1 0 1 s.heap.size rfl rfl rfl) (va_cwS 3 hts gX11_image_X11_within rfl rfl rfl (by decide +kernel) ⟨Nat.le_of_ble_eq_true rfl, Nat.le_of_ble_eq_true rfl⟩) (mkS hK hN (hP.sub [] rfl) (hD.sub [] (by decide) rfl)) rfl rfl hl.1 rfl (lv_room (Nat.le_of_ble_eq_true rfl)) dX11_image_3 ⟨Nat.le_of_ble_eq_true rfl, Nat.le_of_ble_eq_true rfl⟩) (fun r_11 hw => ?_)
    rcases hw with ⟨rfl, h_12, h_13⟩ | ⟨rfl, h_14⟩
    · refine lv_if_ne (tgt := 15) hx hb dX11_image_6 (by decide) (fun c_15 => ?_) (fun c_15 => absurd c_15 (by decide))
      refine lv_aload_n hx hb dX11_image_15 rfl (lv_at hl 0 rfl) ?_
      refine va_get (ci := 11) (v := .ref b3) (C := RX11) (T := TX11) (N := 17) hx hb hts hw11 hown hK hP 0 rfl rfl 1 (by decide) (hts (.fieldLink RX11 16 "SmokeTune" "images" "[LSmokeTune$Town;") (List.mem_cons_of_mem _ (List.mem_append_left _ (List.mem_append_left _ (List.mem_append_left _ (List.mem_of_getElem? (i := 0) rfl)))))) (fun _ h9 => h9) rfl dX11_image_16 ?_
      refine lv_iload_n hx hb dX11_image_19 rfl (lv_at hl 1 rfl) ?_
      refine va_aldq (C := "SmokeTune$Town") hx hb hK hP 2 3 rfl rfl (i_in (x := 1) rfl (by omega)) dX11_image_20 ?_
      refine W.eq (g2 := F0 m 21 ls [.ref i1]) rfl ?_
      refine lv_aload_n hx hb dX11_image_21 rfl (lv_at hl 0 rfl) ?_
      refine va_get (ci := 11) (v := .ref b1) (C := RX11) (T := TX11) (N := 17) hx hb hts hw11 hown hK hP 0 rfl rfl 0 (by decide) (hts (.fieldLink RX11 10 "SmokeTune" "town" "LSmokeTune$Town;") (List.mem_cons_of_mem _ (List.mem_append_left _ (List.mem_append_left _ (List.mem_append_left _ (List.mem_of_getElem? (i := 1) rfl)))))) (fun _ h9 => h9) rfl dX11_image_22 ?_
      refine kcv (wr := [(a0, .inr (11, [.ref b1, .ref b3, .ref b4, g3, g4, g5, g6, g7, g8, g9, g10, g11, .ref a1, g13, g14, g15, g16])), (a1, .inl (K 0, 5, .inl f)), (b3, .inl (K 3, 2, .inr (.inr (.inr (.inr (va_up (va_up (fun _ => none) 0 (some i0)) 1 (some i1))))))), (b4, .inl (K 1, 2, .inl (fun _ => 0))), (i0, .inr (9, [.ref f2, .ref c2, .ref m2, .ref l2, .int 0, .int 0, .int (-1), .int 0, .int 0, .int 0])), (f2, .inl (K 0, 56, .inl (fun _ => 0))), (c2, .inl (K 0, 24, .inl (fun _ => 0))), (m2, .inl (K 0, 6, .inl tm0)), (l2, .inl (K 4, 6, .inr (.inr (.inr (.inr (fun _ => none))))))]) (va_runVN (As := [.ref b1]) (rest := []) ⟨hx, hb, hml, hown, hts⟩ (c_become l D K i1 b1 f3 c3 m3 l3 f1 c1 m1 l1 s.heap.size) ⟨va_cnB 1 hts gX11_image_X9_become_n285 rfl rfl rfl (nst_at hN 94 rfl) (hts (.initialized RX9) (List.mem_cons_of_mem _ (List.mem_append_left _ (List.mem_append_left _ (List.mem_append_left _ (List.mem_of_getElem? (i := 14) rfl)))))) (by decide +kernel) ⟨Nat.le_of_ble_eq_true rfl, Nat.le_of_ble_eq_true rfl⟩, (hts (.instanceMethod yX9_become) (List.mem_cons_of_mem _ (List.mem_append_left _ (List.mem_append_left _ (List.mem_append_left _ (List.mem_of_getElem? (i := 13) rfl)))))), (hts (.selects RX9 yX9_become yX9_become) (List.mem_cons_of_mem _ (List.mem_append_left _ (List.mem_append_left _ (List.mem_append_left _ (List.mem_of_getElem? (i := 15) rfl))))))⟩ (mkV hK hN (hP.sub [10, 4, 12, 5, 14, 6, 16, 7, 18, 8] rfl) (hD.sub [10, 4, 12, 5, 14, 6, 16, 7, 18, 8] (by decide) rfl) (ci := 9) (q0 := 0) rfl rfl) rfl rfl hl.1 rfl (lv_room (Nat.le_of_ble_eq_true rfl)) dX11_image_25 ⟨Nat.le_of_ble_eq_true rfl, Nat.le_of_ble_eq_true rfl⟩) hP hD hS hA [10, 4, 12, 5, 14, 6, 16, 7, 18, 8] [0, 1, 2, 3, 9, 11, 13, 15, 17] rfl rfl (by decide) (by decide) (fun u_17 H locs hw hP hD hS => ?_)
      have hP : va_P D vwCl [(a0, .inr (11, [.ref b1, .ref b3, .ref b4, g3, g4, g5, g6, g7, g8, g9, g10, g11, .ref a1, g13, g14, g15, g16])), (a1, .inl (K 0, 5, .inl f)), (b3, .inl (K 3, 2, .inr (.inr (.inr (.inr (va_up (va_up (fun _ => none) 0 (some i0)) 1 (some i1))))))), (b4, .inl (K 1, 2, .inl (fun _ => 0))), (i0, .inr (9, [.ref f2, .ref c2, .ref m2, .ref l2, .int 0, .int 0, .int (-1), .int 0, .int 0, .int 0])), (f2, .inl (K 0, 56, .inl (fun _ => 0))), (c2, .inl (K 0, 24, .inl (fun _ => 0))), (m2, .inl (K 0, 6, .inl tm0)), (l2, .inl (K 4, 6, .inr (.inr (.inr (.inr (fun _ => none)))))), (i1, .inr (9, [.ref f3, .ref c3, .ref m3, .ref l3, .int 0, .int 0, .int (-1), .int 0, .int 0, .int 0])), (b1, .inr (9, [.ref f1, .ref c1, .ref m1, .ref l1, .int 0, .int 0, .int (-1), .int 0, .int 0, .int 0])), (f3, .inl (K 0, 56, .inl ((u_17.2.1 0)))), (f1, .inl (K 0, 56, .inl (fun _ => 0))), (c3, .inl (K 0, 24, .inl ((u_17.2.1 1)))), (c1, .inl (K 0, 24, .inl (fun _ => 0))), (m3, .inl (K 0, 6, .inl ((u_17.2.1 2)))), (m1, .inl (K 0, 6, .inl tm0)), (l3, .inl (K 4, 6, .inr (.inr (.inr (.inr (va_up (va_up (va_up (va_up (va_up (va_up (fun _ => none) 0 none) 1 none) 2 none) 3 none) 4 none) 5 none)))))), (l1, .inl (K 4, 6, .inr (.inr (.inr (.inr (fun _ => none))))))] H := hP
      have hD : va_D A [(a0, .inr (11, [.ref b1, .ref b3, .ref b4, g3, g4, g5, g6, g7, g8, g9, g10, g11, .ref a1, g13, g14, g15, g16])), (a1, .inl (K 0, 5, .inl f)), (b3, .inl (K 3, 2, .inr (.inr (.inr (.inr (va_up (va_up (fun _ => none) 0 (some i0)) 1 (some i1))))))), (b4, .inl (K 1, 2, .inl (fun _ => 0))), (i0, .inr (9, [.ref f2, .ref c2, .ref m2, .ref l2, .int 0, .int 0, .int (-1), .int 0, .int 0, .int 0])), (f2, .inl (K 0, 56, .inl (fun _ => 0))), (c2, .inl (K 0, 24, .inl (fun _ => 0))), (m2, .inl (K 0, 6, .inl tm0)), (l2, .inl (K 4, 6, .inr (.inr (.inr (.inr (fun _ => none)))))), (i1, .inr (9, [.ref f3, .ref c3, .ref m3, .ref l3, .int 0, .int 0, .int (-1), .int 0, .int 0, .int 0])), (b1, .inr (9, [.ref f1, .ref c1, .ref m1, .ref l1, .int 0, .int 0, .int (-1), .int 0, .int 0, .int 0])), (f3, .inl (K 0, 56, .inl ((u_17.2.1 0)))), (f1, .inl (K 0, 56, .inl (fun _ => 0))), (c3, .inl (K 0, 24, .inl ((u_17.2.1 1)))), (c1, .inl (K 0, 24, .inl (fun _ => 0))), (m3, .inl (K 0, 6, .inl ((u_17.2.1 2)))), (m1, .inl (K 0, 6, .inl tm0)), (l3, .inl (K 4, 6, .inr (.inr (.inr (.inr (va_up (va_up (va_up (va_up (va_up (va_up (fun _ => none) 0 none) 1 none) 2 none) 3 none) 4 none) 5 none)))))), (l1, .inl (K 4, 6, .inr (.inr (.inr (.inr (fun _ => none))))))] := hD
      obtain ⟨hbz, hb0, hb1⟩ := hw
      refine lv_aload_n hx hb dX11_image_28 rfl (lv_at hl 0 rfl) ?_
      refine va_get (ci := 11) (v := .ref b4) (C := RX11) (T := TX11) (N := 17) hx hb hts hw11 hown hK hP 0 rfl rfl 2 (by decide) (hts (.fieldLink RX11 20 "SmokeTune" "imageKept" "[Z") (List.mem_cons_of_mem _ (List.mem_append_left _ (List.mem_append_left _ (List.mem_append_left _ (List.mem_of_getElem? (i := 2) rfl)))))) (fun _ h9 => h9) rfl dX11_image_29 ?_
      refine lv_iload_n hx hb dX11_image_32 rfl (lv_at hl 1 rfl) ?_
      refine lv_iconst (v := 1) hx hb dX11_image_33 (by decide) ?_
      refine va_zast hx hb hK hP hD hS 3 1 rfl rfl (i_in (x := 1) rfl (by omega)) dX11_image_34 (fun H locs hP hD hS => ?_)
      generalize hf_18 : (upd (fun _ => 0) (1 : Int32).toNatClampNeg (vp_nar .boolean 1)) = f_18 at hP hD
      have hP : va_P D vwCl [(a0, .inr (11, [.ref b1, .ref b3, .ref b4, g3, g4, g5, g6, g7, g8, g9, g10, g11, .ref a1, g13, g14, g15, g16])), (a1, .inl (K 0, 5, .inl f)), (b3, .inl (K 3, 2, .inr (.inr (.inr (.inr (va_up (va_up (fun _ => none) 0 (some i0)) 1 (some i1))))))), (b4, .inl (K 1, 2, .inl f_18)), (i0, .inr (9, [.ref f2, .ref c2, .ref m2, .ref l2, .int 0, .int 0, .int (-1), .int 0, .int 0, .int 0])), (f2, .inl (K 0, 56, .inl (fun _ => 0))), (c2, .inl (K 0, 24, .inl (fun _ => 0))), (m2, .inl (K 0, 6, .inl tm0)), (l2, .inl (K 4, 6, .inr (.inr (.inr (.inr (fun _ => none)))))), (i1, .inr (9, [.ref f3, .ref c3, .ref m3, .ref l3, .int 0, .int 0, .int (-1), .int 0, .int 0, .int 0])), (b1, .inr (9, [.ref f1, .ref c1, .ref m1, .ref l1, .int 0, .int 0, .int (-1), .int 0, .int 0, .int 0])), (f3, .inl (K 0, 56, .inl ((u_17.2.1 0)))), (f1, .inl (K 0, 56, .inl (fun _ => 0))), (c3, .inl (K 0, 24, .inl ((u_17.2.1 1)))), (c1, .inl (K 0, 24, .inl (fun _ => 0))), (m3, .inl (K 0, 6, .inl ((u_17.2.1 2)))), (m1, .inl (K 0, 6, .inl tm0)), (l3, .inl (K 4, 6, .inr (.inr (.inr (.inr (va_up (va_up (va_up (va_up (va_up (va_up (fun _ => none) 0 none) 1 none) 2 none) 3 none) 4 none) 5 none)))))), (l1, .inl (K 4, 6, .inr (.inr (.inr (.inr (fun _ => none))))))] H := hP
      have hD : va_D A [(a0, .inr (11, [.ref b1, .ref b3, .ref b4, g3, g4, g5, g6, g7, g8, g9, g10, g11, .ref a1, g13, g14, g15, g16])), (a1, .inl (K 0, 5, .inl f)), (b3, .inl (K 3, 2, .inr (.inr (.inr (.inr (va_up (va_up (fun _ => none) 0 (some i0)) 1 (some i1))))))), (b4, .inl (K 1, 2, .inl f_18)), (i0, .inr (9, [.ref f2, .ref c2, .ref m2, .ref l2, .int 0, .int 0, .int (-1), .int 0, .int 0, .int 0])), (f2, .inl (K 0, 56, .inl (fun _ => 0))), (c2, .inl (K 0, 24, .inl (fun _ => 0))), (m2, .inl (K 0, 6, .inl tm0)), (l2, .inl (K 4, 6, .inr (.inr (.inr (.inr (fun _ => none)))))), (i1, .inr (9, [.ref f3, .ref c3, .ref m3, .ref l3, .int 0, .int 0, .int (-1), .int 0, .int 0, .int 0])), (b1, .inr (9, [.ref f1, .ref c1, .ref m1, .ref l1, .int 0, .int 0, .int (-1), .int 0, .int 0, .int 0])), (f3, .inl (K 0, 56, .inl ((u_17.2.1 0)))), (f1, .inl (K 0, 56, .inl (fun _ => 0))), (c3, .inl (K 0, 24, .inl ((u_17.2.1 1)))), (c1, .inl (K 0, 24, .inl (fun _ => 0))), (m3, .inl (K 0, 6, .inl ((u_17.2.1 2)))), (m1, .inl (K 0, 6, .inl tm0)), (l3, .inl (K 4, 6, .inr (.inr (.inr (.inr (va_up (va_up (va_up (va_up (va_up (va_up (fun _ => none) 0 none) 1 none) 2 none) 3 none) 4 none) 5 none)))))), (l1, .inl (K 4, 6, .inr (.inr (.inr (.inr (fun _ => none))))))] := hD
      refine lv_aload_n hx hb dX11_image_35 rfl (lv_at hl 0 rfl) ?_
      refine lv_iconst (v := 0) hx hb dX11_image_36 (by decide) ?_
      refine kci (wr := [(a1, .inl (K 0, 5, .inl f)), (b3, .inl (K 3, 2, .inr (.inr (.inr (.inr (va_up (va_up (fun _ => none) 0 (some i0)) 1 (some i1))))))), (b4, .inl (K 1, 2, .inl f_18)), (i0, .inr (9, [.ref f2, .ref c2, .ref m2, .ref l2, .int 0, .int 0, .int (-1), .int 0, .int 0, .int 0])), (f2, .inl (K 0, 56, .inl (fun _ => 0))), (c2, .inl (K 0, 24, .inl (fun _ => 0))), (m2, .inl (K 0, 6, .inl tm0)), (l2, .inl (K 4, 6, .inr (.inr (.inr (.inr (fun _ => none)))))), (i1, .inr (9, [.ref f3, .ref c3, .ref m3, .ref l3, .int 0, .int 0, .int (-1), .int 0, .int 0, .int 0])), (b1, .inr (9, [.ref f1, .ref c1, .ref m1, .ref l1, .int 0, .int 0, .int (-1), .int 0, .int 0, .int 0])), (f3, .inl (K 0, 56, .inl ((u_17.2.1 0)))), (f1, .inl (K 0, 56, .inl (fun _ => 0))), (c3, .inl (K 0, 24, .inl ((u_17.2.1 1)))), (c1, .inl (K 0, 24, .inl (fun _ => 0))), (m3, .inl (K 0, 6, .inl ((u_17.2.1 2)))), (m1, .inl (K 0, 6, .inl tm0)), (l3, .inl (K 4, 6, .inr (.inr (.inr (.inr (va_up (va_up (va_up (va_up (va_up (va_up (fun _ => none) 0 none) 1 none) 2 none) 3 none) 4 none) 5 none)))))), (l1, .inl (K 4, 6, .inr (.inr (.inr (.inr (fun _ => none))))))]) (va_runV (As := [.int 0]) (rest := []) ⟨hx, hb, hml, hown, hts⟩ (c_accept l D K a0 0 (.ref b1) (.ref b3) (.ref b4) g3 g4 g5 g6 g7 g8 g9 g10 g11 (.ref a1) g13 g14 g15 g16 H.size) (cwV 1 hts gX11_image_X11_accept rfl rfl rfl (by decide +kernel) ⟨Nat.le_of_ble_eq_true rfl, Nat.le_of_ble_eq_true rfl⟩) (mkV hK hN (hP.sub [0] rfl) (hD.sub [0] (by decide) rfl) (ci := 11) (q0 := 0) rfl rfl) rfl rfl hl.1 rfl (lv_room (Nat.le_of_ble_eq_true rfl)) dX11_image_37 ⟨Nat.le_of_ble_eq_true rfl, Nat.le_of_ble_eq_true rfl⟩) hP hD hS hA [0] [1, 2, 3, 4, 5, 6, 7, 8, 9, 10, 11, 12, 13, 14, 15, 16, 17, 18] rfl rfl (by decide) (by decide) (fun r_19 u_20 H locs hw hP hD hS => ?_)
      have hP : va_P D vwCl [(a1, .inl (K 0, 5, .inl f)), (b3, .inl (K 3, 2, .inr (.inr (.inr (.inr (va_up (va_up (fun _ => none) 0 (some i0)) 1 (some i1))))))), (b4, .inl (K 1, 2, .inl f_18)), (i0, .inr (9, [.ref f2, .ref c2, .ref m2, .ref l2, .int 0, .int 0, .int (-1), .int 0, .int 0, .int 0])), (f2, .inl (K 0, 56, .inl (fun _ => 0))), (c2, .inl (K 0, 24, .inl (fun _ => 0))), (m2, .inl (K 0, 6, .inl tm0)), (l2, .inl (K 4, 6, .inr (.inr (.inr (.inr (fun _ => none)))))), (i1, .inr (9, [.ref f3, .ref c3, .ref m3, .ref l3, .int 0, .int 0, .int (-1), .int 0, .int 0, .int 0])), (b1, .inr (9, [.ref f1, .ref c1, .ref m1, .ref l1, .int 0, .int 0, .int (-1), .int 0, .int 0, .int 0])), (f3, .inl (K 0, 56, .inl ((u_17.2.1 0)))), (f1, .inl (K 0, 56, .inl (fun _ => 0))), (c3, .inl (K 0, 24, .inl ((u_17.2.1 1)))), (c1, .inl (K 0, 24, .inl (fun _ => 0))), (m3, .inl (K 0, 6, .inl ((u_17.2.1 2)))), (m1, .inl (K 0, 6, .inl tm0)), (l3, .inl (K 4, 6, .inr (.inr (.inr (.inr (va_up (va_up (va_up (va_up (va_up (va_up (fun _ => none) 0 none) 1 none) 2 none) 3 none) 4 none) 5 none)))))), (l1, .inl (K 4, 6, .inr (.inr (.inr (.inr (fun _ => none))))))] H := hP
      have hD : va_D A [(a1, .inl (K 0, 5, .inl f)), (b3, .inl (K 3, 2, .inr (.inr (.inr (.inr (va_up (va_up (fun _ => none) 0 (some i0)) 1 (some i1))))))), (b4, .inl (K 1, 2, .inl f_18)), (i0, .inr (9, [.ref f2, .ref c2, .ref m2, .ref l2, .int 0, .int 0, .int (-1), .int 0, .int 0, .int 0])), (f2, .inl (K 0, 56, .inl (fun _ => 0))), (c2, .inl (K 0, 24, .inl (fun _ => 0))), (m2, .inl (K 0, 6, .inl tm0)), (l2, .inl (K 4, 6, .inr (.inr (.inr (.inr (fun _ => none)))))), (i1, .inr (9, [.ref f3, .ref c3, .ref m3, .ref l3, .int 0, .int 0, .int (-1), .int 0, .int 0, .int 0])), (b1, .inr (9, [.ref f1, .ref c1, .ref m1, .ref l1, .int 0, .int 0, .int (-1), .int 0, .int 0, .int 0])), (f3, .inl (K 0, 56, .inl ((u_17.2.1 0)))), (f1, .inl (K 0, 56, .inl (fun _ => 0))), (c3, .inl (K 0, 24, .inl ((u_17.2.1 1)))), (c1, .inl (K 0, 24, .inl (fun _ => 0))), (m3, .inl (K 0, 6, .inl ((u_17.2.1 2)))), (m1, .inl (K 0, 6, .inl tm0)), (l3, .inl (K 4, 6, .inr (.inr (.inr (.inr (va_up (va_up (va_up (va_up (va_up (va_up (fun _ => none) 0 none) 1 none) 2 none) 3 none) 4 none) 5 none)))))), (l1, .inl (K 4, 6, .inr (.inr (.inr (.inr (fun _ => none))))))] := hD
      obtain rfl : r_19 = 0 := hw
      exact W.iret (v := 0) hx hb hr (fun t ht hW => ⟨⟨0, (), rfl, (by first | exact Or.inl (⟨rfl, by first | omega | decide | (subst_vars; assumption) | (subst_vars; symm; assumption), by first | omega | decide | (subst_vars; assumption) | (subst_vars; symm; assumption)⟩)), Wd.nil⟩, hS.F ht⟩) hS.2.2 dX11_image_40
    · exfalso; omega
  · refine lv_iload_n hx hb dX11_image_0 rfl (lv_at hl 1 rfl) ?_
    refine lv_iconst (v := 0) hx hb dX11_image_1 (by decide) ?_
    refine lv_iconst (v := 1) hx hb dX11_image_2 (by decide) ?_
    refine pci (va_runS (As := [.int x, .int 0, .int 1]) (rest := []) ⟨hx, hb, hml, hown, hts⟩ (c_within l D K x 0 1 x.toInt 0 1 s.heap.size rfl rfl rfl) (va_cwS 3 hts gX11_image_X11_within rfl rfl rfl (by decide +kernel) ⟨Nat.le_of_ble_eq_true rfl, Nat.le_of_ble_eq_true rfl⟩) (mkS hK hN (hP.sub [] rfl) (hD.sub [] (by decide) rfl)) rfl rfl hl.1 rfl (lv_room (Nat.le_of_ble_eq_true rfl)) dX11_image_3 ⟨Nat.le_of_ble_eq_true rfl, Nat.le_of_ble_eq_true rfl⟩) (fun r_21 hw => ?_)
    rcases hw with ⟨rfl, h_22, h_23⟩ | ⟨rfl, h_24⟩
    · exfalso; omega
    · refine lv_if_ne (tgt := 15) hx hb dX11_image_6 (by decide) (fun c_25 => absurd (by decide) c_25) (fun c_25 => ?_)
      refine lv_aload_n hx hb dX11_image_9 rfl (lv_at hl 0 rfl) ?_
      refine lv_iconst (v := (-1)) hx hb dX11_image_10 (by decide) ?_
      refine kci (wr := [(b3, .inl (K 3, 2, .inr (.inr (.inr (.inr (va_up (va_up (fun _ => none) 0 (some i0)) 1 (some i1))))))), (b4, .inl (K 1, 2, .inl (fun _ => 0))), (b1, .inr (9, [.ref f1, .ref c1, .ref m1, .ref l1, .int 0, .int 0, .int (-1), .int 0, .int 0, .int 0])), (f1, .inl (K 0, 56, .inl (fun _ => 0))), (c1, .inl (K 0, 24, .inl (fun _ => 0))), (m1, .inl (K 0, 6, .inl tm0)), (l1, .inl (K 4, 6, .inr (.inr (.inr (.inr (fun _ => none)))))), (i0, .inr (9, [.ref f2, .ref c2, .ref m2, .ref l2, .int 0, .int 0, .int (-1), .int 0, .int 0, .int 0])), (i1, .inr (9, [.ref f3, .ref c3, .ref m3, .ref l3, .int 0, .int 0, .int (-1), .int 0, .int 0, .int 0])), (f2, .inl (K 0, 56, .inl (fun _ => 0))), (f3, .inl (K 0, 56, .inl (fun _ => 0))), (c2, .inl (K 0, 24, .inl (fun _ => 0))), (c3, .inl (K 0, 24, .inl (fun _ => 0))), (m2, .inl (K 0, 6, .inl tm0)), (m3, .inl (K 0, 6, .inl tm0)), (l2, .inl (K 4, 6, .inr (.inr (.inr (.inr (fun _ => none)))))), (l3, .inl (K 4, 6, .inr (.inr (.inr (.inr (fun _ => none))))))]) (va_runV (As := [.int (-1)]) (rest := []) ⟨hx, hb, hml, hown, hts⟩ (c_refuse_1 l D K a0 (.ref b1) (.ref b3) (.ref b4) g3 g4 g5 g6 g7 g8 g9 g10 g11 a1 g13 g14 g15 g16 f s.heap.size) (cwV 1 hts gX11_image_X11_refuse rfl rfl rfl (by decide +kernel) ⟨Nat.le_of_ble_eq_true rfl, Nat.le_of_ble_eq_true rfl⟩) (mkV hK hN (hP.sub [0, 1] rfl) (hD.sub [0, 1] (by decide) rfl) (ci := 11) (q0 := 0) rfl rfl) rfl rfl hl.1 rfl (lv_room (Nat.le_of_ble_eq_true rfl)) dX11_image_11 ⟨Nat.le_of_ble_eq_true rfl, Nat.le_of_ble_eq_true rfl⟩) hP hD hS hA [0, 1] [2, 3, 4, 5, 6, 7, 8, 9, 10, 11, 12, 13, 14, 15, 16, 17, 18] rfl rfl (by decide) (by decide) (fun r_26 u_27 H locs hw hP hD hS => ?_)
      have hP : va_P D vwCl [(b3, .inl (K 3, 2, .inr (.inr (.inr (.inr (va_up (va_up (fun _ => none) 0 (some i0)) 1 (some i1))))))), (b4, .inl (K 1, 2, .inl (fun _ => 0))), (b1, .inr (9, [.ref f1, .ref c1, .ref m1, .ref l1, .int 0, .int 0, .int (-1), .int 0, .int 0, .int 0])), (f1, .inl (K 0, 56, .inl (fun _ => 0))), (c1, .inl (K 0, 24, .inl (fun _ => 0))), (m1, .inl (K 0, 6, .inl tm0)), (l1, .inl (K 4, 6, .inr (.inr (.inr (.inr (fun _ => none)))))), (i0, .inr (9, [.ref f2, .ref c2, .ref m2, .ref l2, .int 0, .int 0, .int (-1), .int 0, .int 0, .int 0])), (i1, .inr (9, [.ref f3, .ref c3, .ref m3, .ref l3, .int 0, .int 0, .int (-1), .int 0, .int 0, .int 0])), (f2, .inl (K 0, 56, .inl (fun _ => 0))), (f3, .inl (K 0, 56, .inl (fun _ => 0))), (c2, .inl (K 0, 24, .inl (fun _ => 0))), (c3, .inl (K 0, 24, .inl (fun _ => 0))), (m2, .inl (K 0, 6, .inl tm0)), (m3, .inl (K 0, 6, .inl tm0)), (l2, .inl (K 4, 6, .inr (.inr (.inr (.inr (fun _ => none)))))), (l3, .inl (K 4, 6, .inr (.inr (.inr (.inr (fun _ => none))))))] H := hP
      have hD : va_D A [(b3, .inl (K 3, 2, .inr (.inr (.inr (.inr (va_up (va_up (fun _ => none) 0 (some i0)) 1 (some i1))))))), (b4, .inl (K 1, 2, .inl (fun _ => 0))), (b1, .inr (9, [.ref f1, .ref c1, .ref m1, .ref l1, .int 0, .int 0, .int (-1), .int 0, .int 0, .int 0])), (f1, .inl (K 0, 56, .inl (fun _ => 0))), (c1, .inl (K 0, 24, .inl (fun _ => 0))), (m1, .inl (K 0, 6, .inl tm0)), (l1, .inl (K 4, 6, .inr (.inr (.inr (.inr (fun _ => none)))))), (i0, .inr (9, [.ref f2, .ref c2, .ref m2, .ref l2, .int 0, .int 0, .int (-1), .int 0, .int 0, .int 0])), (i1, .inr (9, [.ref f3, .ref c3, .ref m3, .ref l3, .int 0, .int 0, .int (-1), .int 0, .int 0, .int 0])), (f2, .inl (K 0, 56, .inl (fun _ => 0))), (f3, .inl (K 0, 56, .inl (fun _ => 0))), (c2, .inl (K 0, 24, .inl (fun _ => 0))), (c3, .inl (K 0, 24, .inl (fun _ => 0))), (m2, .inl (K 0, 6, .inl tm0)), (m3, .inl (K 0, 6, .inl tm0)), (l2, .inl (K 4, 6, .inr (.inr (.inr (.inr (fun _ => none)))))), (l3, .inl (K 4, 6, .inr (.inr (.inr (.inr (fun _ => none))))))] := hD
      obtain rfl : r_26 = (-1) := hw
      exact W.iret (v := (-1)) hx hb hr (fun t ht hW => ⟨⟨(-1), (), rfl, (by first | exact Or.inr (⟨rfl, by first | omega | decide | (subst_vars; assumption) | (subst_vars; symm; assumption)⟩)), Wd.nil⟩, hS.F ht⟩) hS.2.2 dX11_image_14
