theorem dX4_mapSets_0 : decode cX4_mapSets 0 = .ok (.iconst 1, 1) := by decide +kernel
theorem dX4_mapSets_1 : decode cX4_mapSets 1 = .ok (.istore_n 2, 1) := by decide +kernel
theorem dX4_mapSets_2 : decode cX4_mapSets 2 = .ok (.iconst 0, 1) := by decide +kernel
theorem dX4_mapSets_3 : decode cX4_mapSets 3 = .ok (.istore_n 3, 1) := by decide +kernel
theorem dX4_mapSets_4 : decode cX4_mapSets 4 = .ok (.iload_n 3, 1) := by decide +kernel
theorem dX4_mapSets_5 : decode cX4_mapSets 5 = .ok (.aload_n 1, 1) := by decide +kernel
theorem dX4_mapSets_6 : decode cX4_mapSets 6 = .ok (.getfield 27, 3) := by decide +kernel
theorem dX4_mapSets_9 : decode cX4_mapSets 9 = .ok (.if_icmp .ge 59, 3) := by decide +kernel
theorem dX4_mapSets_12 : decode cX4_mapSets 12 = .ok (.iload_n 3, 1) := by decide +kernel
theorem dX4_mapSets_13 : decode cX4_mapSets 13 = .ok (.bipush 8, 2) := by decide +kernel
theorem dX4_mapSets_15 : decode cX4_mapSets 15 = .ok (.if_icmp .ge 53, 3) := by decide +kernel
theorem dX4_mapSets_18 : decode cX4_mapSets 18 = .ok (.iconst 0, 1) := by decide +kernel
theorem dX4_mapSets_19 : decode cX4_mapSets 19 = .ok (.istore 4, 2) := by decide +kernel
theorem dX4_mapSets_21 : decode cX4_mapSets 21 = .ok (.iload 4, 2) := by decide +kernel
theorem dX4_mapSets_23 : decode cX4_mapSets 23 = .ok (.iload_n 2, 1) := by decide +kernel
theorem dX4_mapSets_24 : decode cX4_mapSets 24 = .ok (.if_icmp .ge 34, 3) := by decide +kernel
theorem dX4_mapSets_27 : decode cX4_mapSets 27 = .ok (.aload_n 0, 1) := by decide +kernel
theorem dX4_mapSets_28 : decode cX4_mapSets 28 = .ok (.getfield 24, 3) := by decide +kernel
theorem dX4_mapSets_31 : decode cX4_mapSets 31 = .ok (.iload_n 2, 1) := by decide +kernel
theorem dX4_mapSets_32 : decode cX4_mapSets 32 = .ok (.iload 4, 2) := by decide +kernel
theorem dX4_mapSets_34 : decode cX4_mapSets 34 = .ok (.iadd, 1) := by decide +kernel
theorem dX4_mapSets_35 : decode cX4_mapSets 35 = .ok (.aload_n 0, 1) := by decide +kernel
theorem dX4_mapSets_36 : decode cX4_mapSets 36 = .ok (.getfield 24, 3) := by decide +kernel
theorem dX4_mapSets_39 : decode cX4_mapSets 39 = .ok (.iload 4, 2) := by decide +kernel
theorem dX4_mapSets_41 : decode cX4_mapSets 41 = .ok (.iaload, 1) := by decide +kernel
theorem dX4_mapSets_42 : decode cX4_mapSets 42 = .ok (.iconst 1, 1) := by decide +kernel
theorem dX4_mapSets_43 : decode cX4_mapSets 43 = .ok (.aload_n 1, 1) := by decide +kernel
theorem dX4_mapSets_44 : decode cX4_mapSets 44 = .ok (.iload_n 3, 1) := by decide +kernel
theorem dX4_mapSets_45 : decode cX4_mapSets 45 = .ok (.iconst 0, 1) := by decide +kernel
theorem dX4_mapSets_46 : decode cX4_mapSets 46 = .ok (.invokevirtual 45, 3) := by decide +kernel
theorem dX4_mapSets_49 : decode cX4_mapSets 49 = .ok (.ishl, 1) := by decide +kernel
theorem dX4_mapSets_50 : decode cX4_mapSets 50 = .ok (.ior, 1) := by decide +kernel
theorem dX4_mapSets_51 : decode cX4_mapSets 51 = .ok (.iastore, 1) := by decide +kernel
theorem dX4_mapSets_52 : decode cX4_mapSets 52 = .ok (.iinc 4 1, 3) := by decide +kernel
theorem dX4_mapSets_55 : decode cX4_mapSets 55 = .ok (.goto (-34), 3) := by decide +kernel
theorem dX4_mapSets_58 : decode cX4_mapSets 58 = .ok (.iload_n 2, 1) := by decide +kernel
theorem dX4_mapSets_59 : decode cX4_mapSets 59 = .ok (.iconst 2, 1) := by decide +kernel
theorem dX4_mapSets_60 : decode cX4_mapSets 60 = .ok (.imul, 1) := by decide +kernel
theorem dX4_mapSets_61 : decode cX4_mapSets 61 = .ok (.istore_n 2, 1) := by decide +kernel
theorem dX4_mapSets_62 : decode cX4_mapSets 62 = .ok (.iinc 3 1, 3) := by decide +kernel
theorem dX4_mapSets_65 : decode cX4_mapSets 65 = .ok (.goto (-61), 3) := by decide +kernel
theorem dX4_mapSets_68 : decode cX4_mapSets 68 = .ok (.iload_n 2, 1) := by decide +kernel
theorem dX4_mapSets_69 : decode cX4_mapSets 69 = .ok (.ireturn, 1) := by decide +kernel
theorem dX4_hillSet_0 : decode cX4_hillSet 0 = .ok (.aload_n 0, 1) := by decide +kernel
theorem dX4_hillSet_1 : decode cX4_hillSet 1 = .ok (.aload_n 1, 1) := by decide +kernel
theorem dX4_hillSet_2 : decode cX4_hillSet 2 = .ok (.invokevirtual 77, 3) := by decide +kernel
theorem dX4_hillSet_5 : decode cX4_hillSet 5 = .ok (.istore_n 3, 1) := by decide +kernel
theorem dX4_hillSet_6 : decode cX4_hillSet 6 = .ok (.iconst 0, 1) := by decide +kernel
theorem dX4_hillSet_7 : decode cX4_hillSet 7 = .ok (.istore 4, 2) := by decide +kernel
theorem dX4_hillSet_9 : decode cX4_hillSet 9 = .ok (.iconst 0, 1) := by decide +kernel
theorem dX4_hillSet_10 : decode cX4_hillSet 10 = .ok (.istore 5, 2) := by decide +kernel
theorem dX4_hillSet_12 : decode cX4_hillSet 12 = .ok (.iload 5, 2) := by decide +kernel
theorem dX4_hillSet_14 : decode cX4_hillSet 14 = .ok (.iload_n 3, 1) := by decide +kernel
theorem dX4_hillSet_15 : decode cX4_hillSet 15 = .ok (.if_icmp .ge 35, 3) := by decide +kernel
theorem dX4_hillSet_18 : decode cX4_hillSet 18 = .ok (.aload_n 0, 1) := by decide +kernel
theorem dX4_hillSet_19 : decode cX4_hillSet 19 = .ok (.getfield 24, 3) := by decide +kernel
theorem dX4_hillSet_22 : decode cX4_hillSet 22 = .ok (.iload 5, 2) := by decide +kernel
theorem dX4_hillSet_24 : decode cX4_hillSet 24 = .ok (.iaload, 1) := by decide +kernel
theorem dX4_hillSet_25 : decode cX4_hillSet 25 = .ok (.aload_n 1, 1) := by decide +kernel
theorem dX4_hillSet_26 : decode cX4_hillSet 26 = .ok (.getfield 81, 3) := by decide +kernel
theorem dX4_hillSet_29 : decode cX4_hillSet 29 = .ok (.if_icmp .ne 15, 3) := by decide +kernel
theorem dX4_hillSet_32 : decode cX4_hillSet 32 = .ok (.iload 4, 2) := by decide +kernel
theorem dX4_hillSet_34 : decode cX4_hillSet 34 = .ok (.iload_n 2, 1) := by decide +kernel
theorem dX4_hillSet_35 : decode cX4_hillSet 35 = .ok (.if_icmp .ne 6, 3) := by decide +kernel
theorem dX4_hillSet_41 : decode cX4_hillSet 41 = .ok (.iinc 4 1, 3) := by decide +kernel
theorem dX4_hillSet_44 : decode cX4_hillSet 44 = .ok (.iinc 5 1, 3) := by decide +kernel
theorem dX4_hillSet_47 : decode cX4_hillSet 47 = .ok (.goto (-35), 3) := by decide +kernel
theorem dX4_hillSet_50 : decode cX4_hillSet 50 = .ok (.iload_n 2, 1) := by decide +kernel
theorem dX4_hillSet_51 : decode cX4_hillSet 51 = .ok (.iconst (-1), 1) := by decide +kernel
theorem dX4_hillSet_52 : decode cX4_hillSet 52 = .ok (.if_icmp .ne 8, 3) := by decide +kernel
theorem dX4_hillSet_60 : decode cX4_hillSet 60 = .ok (.iconst (-1), 1) := by decide +kernel
theorem dX4_hillSet_61 : decode cX4_hillSet 61 = .ok (.ireturn, 1) := by decide +kernel
theorem dX4_hillSet_55 : decode cX4_hillSet 55 = .ok (.iload 4, 2) := by decide +kernel
theorem dX4_hillSet_57 : decode cX4_hillSet 57 = .ok (.goto 4, 3) := by decide +kernel
theorem dX4_hillSet_38 : decode cX4_hillSet 38 = .ok (.iload 5, 2) := by decide +kernel
theorem dX4_hillSet_40 : decode cX4_hillSet 40 = .ok (.ireturn, 1) := by decide +kernel
theorem dX4_burningSets_0 : decode cX4_burningSets 0 = .ok (.iconst 0, 1) := by decide +kernel
theorem dX4_burningSets_1 : decode cX4_burningSets 1 = .ok (.istore_n 3, 1) := by decide +kernel
theorem dX4_burningSets_2 : decode cX4_burningSets 2 = .ok (.iconst 0, 1) := by decide +kernel
theorem dX4_burningSets_3 : decode cX4_burningSets 3 = .ok (.istore 4, 2) := by decide +kernel
theorem dX4_burningSets_5 : decode cX4_burningSets 5 = .ok (.iload 4, 2) := by decide +kernel
theorem dX4_burningSets_7 : decode cX4_burningSets 7 = .ok (.iconst 1, 1) := by decide +kernel
theorem dX4_burningSets_8 : decode cX4_burningSets 8 = .ok (.aload_n 1, 1) := by decide +kernel
theorem dX4_burningSets_9 : decode cX4_burningSets 9 = .ok (.getfield 27, 3) := by decide +kernel
theorem dX4_burningSets_12 : decode cX4_burningSets 12 = .ok (.ishl, 1) := by decide +kernel
theorem dX4_burningSets_13 : decode cX4_burningSets 13 = .ok (.if_icmp .ge 46, 3) := by decide +kernel
theorem dX4_burningSets_16 : decode cX4_burningSets 16 = .ok (.iload 4, 2) := by decide +kernel
theorem dX4_burningSets_18 : decode cX4_burningSets 18 = .ok (.aload_n 0, 1) := by decide +kernel
theorem dX4_burningSets_19 : decode cX4_burningSets 19 = .ok (.getfield 24, 3) := by decide +kernel
theorem dX4_burningSets_22 : decode cX4_burningSets 22 = .ok (.arraylength, 1) := by decide +kernel
theorem dX4_burningSets_23 : decode cX4_burningSets 23 = .ok (.if_icmp .ge 36, 3) := by decide +kernel
theorem dX4_burningSets_26 : decode cX4_burningSets 26 = .ok (.iload 4, 2) := by decide +kernel
theorem dX4_burningSets_28 : decode cX4_burningSets 28 = .ok (.iload_n 2, 1) := by decide +kernel
theorem dX4_burningSets_29 : decode cX4_burningSets 29 = .ok (.ishr, 1) := by decide +kernel
theorem dX4_burningSets_30 : decode cX4_burningSets 30 = .ok (.iconst 1, 1) := by decide +kernel
theorem dX4_burningSets_31 : decode cX4_burningSets 31 = .ok (.iand, 1) := by decide +kernel
theorem dX4_burningSets_32 : decode cX4_burningSets 32 = .ok (.iconst 1, 1) := by decide +kernel
theorem dX4_burningSets_33 : decode cX4_burningSets 33 = .ok (.if_icmp .ne 20, 3) := by decide +kernel
theorem dX4_burningSets_36 : decode cX4_burningSets 36 = .ok (.aload_n 0, 1) := by decide +kernel
theorem dX4_burningSets_37 : decode cX4_burningSets 37 = .ok (.getfield 24, 3) := by decide +kernel
theorem dX4_burningSets_40 : decode cX4_burningSets 40 = .ok (.iload 4, 2) := by decide +kernel
theorem dX4_burningSets_42 : decode cX4_burningSets 42 = .ok (.iaload, 1) := by decide +kernel
theorem dX4_burningSets_43 : decode cX4_burningSets 43 = .ok (.aload_n 1, 1) := by decide +kernel
theorem dX4_burningSets_44 : decode cX4_burningSets 44 = .ok (.getfield 81, 3) := by decide +kernel
theorem dX4_burningSets_47 : decode cX4_burningSets 47 = .ok (.if_icmp .ne 6, 3) := by decide +kernel
theorem dX4_burningSets_50 : decode cX4_burningSets 50 = .ok (.iinc 3 1, 3) := by decide +kernel
theorem dX4_burningSets_53 : decode cX4_burningSets 53 = .ok (.iinc 4 1, 3) := by decide +kernel
theorem dX4_burningSets_56 : decode cX4_burningSets 56 = .ok (.goto (-51), 3) := by decide +kernel
theorem dX4_burningSets_59 : decode cX4_burningSets 59 = .ok (.iload_n 3, 1) := by decide +kernel
theorem dX4_burningSets_60 : decode cX4_burningSets 60 = .ok (.ireturn, 1) := by decide +kernel
theorem dX4_question_0 : decode cX4_question 0 = .ok (.aload_n 0, 1) := by decide +kernel
theorem dX4_question_1 : decode cX4_question 1 = .ok (.aload_n 1, 1) := by decide +kernel
theorem dX4_question_2 : decode cX4_question 2 = .ok (.iconst (-1), 1) := by decide +kernel
theorem dX4_question_3 : decode cX4_question 3 = .ok (.invokevirtual 84, 3) := by decide +kernel
theorem dX4_question_6 : decode cX4_question 6 = .ok (.istore_n 3, 1) := by decide +kernel
theorem dX4_question_7 : decode cX4_question 7 = .ok (.iconst (-1), 1) := by decide +kernel
theorem dX4_question_8 : decode cX4_question 8 = .ok (.istore 4, 2) := by decide +kernel
theorem dX4_question_10 : decode cX4_question 10 = .ok (.iload_n 3, 1) := by decide +kernel
theorem dX4_question_11 : decode cX4_question 11 = .ok (.iconst 1, 1) := by decide +kernel
theorem dX4_question_12 : decode cX4_question 12 = .ok (.iadd, 1) := by decide +kernel
theorem dX4_question_13 : decode cX4_question 13 = .ok (.istore 5, 2) := by decide +kernel
theorem dX4_question_15 : decode cX4_question 15 = .ok (.iconst 0, 1) := by decide +kernel
theorem dX4_question_16 : decode cX4_question 16 = .ok (.istore 6, 2) := by decide +kernel
theorem dX4_question_18 : decode cX4_question 18 = .ok (.iload 6, 2) := by decide +kernel
theorem dX4_question_20 : decode cX4_question 20 = .ok (.aload_n 1, 1) := by decide +kernel
theorem dX4_question_21 : decode cX4_question 21 = .ok (.getfield 27, 3) := by decide +kernel
theorem dX4_question_24 : decode cX4_question 24 = .ok (.if_icmp .ge 48, 3) := by decide +kernel
theorem dX4_question_27 : decode cX4_question 27 = .ok (.iload_n 3, 1) := by decide +kernel
theorem dX4_question_28 : decode cX4_question 28 = .ok (.ifCond .le 44, 3) := by decide +kernel
theorem dX4_question_31 : decode cX4_question 31 = .ok (.aload_n 0, 1) := by decide +kernel
theorem dX4_question_32 : decode cX4_question 32 = .ok (.aload_n 1, 1) := by decide +kernel
theorem dX4_question_33 : decode cX4_question 33 = .ok (.iload 6, 2) := by decide +kernel
theorem dX4_question_35 : decode cX4_question 35 = .ok (.invokevirtual 87, 3) := by decide +kernel
theorem dX4_question_38 : decode cX4_question 38 = .ok (.istore 7, 2) := by decide +kernel
theorem dX4_question_40 : decode cX4_question 40 = .ok (.iload 7, 2) := by decide +kernel
theorem dX4_question_42 : decode cX4_question 42 = .ok (.iload_n 3, 1) := by decide +kernel
theorem dX4_question_43 : decode cX4_question 43 = .ok (.iload 7, 2) := by decide +kernel
theorem dX4_question_45 : decode cX4_question 45 = .ok (.isub, 1) := by decide +kernel
theorem dX4_question_46 : decode cX4_question 46 = .ok (.invokestatic 90, 3) := by decide +kernel
theorem dX4_question_49 : decode cX4_question 49 = .ok (.istore 8, 2) := by decide +kernel
theorem dX4_question_51 : decode cX4_question 51 = .ok (.iload 8, 2) := by decide +kernel
theorem dX4_question_53 : decode cX4_question 53 = .ok (.iload 5, 2) := by decide +kernel
theorem dX4_question_55 : decode cX4_question 55 = .ok (.if_icmp .ge 11, 3) := by decide +kernel
theorem dX4_question_58 : decode cX4_question 58 = .ok (.iload 8, 2) := by decide +kernel
theorem dX4_question_60 : decode cX4_question 60 = .ok (.istore 5, 2) := by decide +kernel
theorem dX4_question_62 : decode cX4_question 62 = .ok (.iload 6, 2) := by decide +kernel
theorem dX4_question_64 : decode cX4_question 64 = .ok (.istore 4, 2) := by decide +kernel
theorem dX4_question_66 : decode cX4_question 66 = .ok (.iinc 6 1, 3) := by decide +kernel
theorem dX4_question_69 : decode cX4_question 69 = .ok (.goto (-51), 3) := by decide +kernel
theorem dX4_question_72 : decode cX4_question 72 = .ok (.iload 4, 2) := by decide +kernel
theorem dX4_question_74 : decode cX4_question 74 = .ok (.iconst (-1), 1) := by decide +kernel
theorem dX4_question_75 : decode cX4_question 75 = .ok (.if_icmp .eq 7, 3) := by decide +kernel
theorem dX4_question_78 : decode cX4_question 78 = .ok (.iload_n 2, 1) := by decide +kernel
theorem dX4_question_79 : decode cX4_question 79 = .ok (.ifCond .ne 8, 3) := by decide +kernel
theorem dX4_question_87 : decode cX4_question 87 = .ok (.iload 5, 2) := by decide +kernel
theorem dX4_question_89 : decode cX4_question 89 = .ok (.ireturn, 1) := by decide +kernel
theorem dX4_question_82 : decode cX4_question 82 = .ok (.iload 4, 2) := by decide +kernel
theorem dX4_question_84 : decode cX4_question 84 = .ok (.goto 5, 3) := by decide +kernel
theorem dX4_muted_0 : decode cX4_muted 0 = .ok (.lload_n 2, 1) := by decide +kernel
theorem dX4_muted_1 : decode cX4_muted 1 = .ok (.lstore 4, 2) := by decide +kernel
theorem dX4_muted_3 : decode cX4_muted 3 = .ok (.iconst 0, 1) := by decide +kernel
theorem dX4_muted_4 : decode cX4_muted 4 = .ok (.istore 6, 2) := by decide +kernel
theorem dX4_muted_6 : decode cX4_muted 6 = .ok (.iload 6, 2) := by decide +kernel
theorem dX4_muted_8 : decode cX4_muted 8 = .ok (.aload_n 0, 1) := by decide +kernel
theorem dX4_muted_9 : decode cX4_muted 9 = .ok (.getfield 27, 3) := by decide +kernel
theorem dX4_muted_12 : decode cX4_muted 12 = .ok (.if_icmp .ge 45, 3) := by decide +kernel
theorem dX4_muted_15 : decode cX4_muted 15 = .ok (.aload_n 0, 1) := by decide +kernel
theorem dX4_muted_16 : decode cX4_muted 16 = .ok (.iload 6, 2) := by decide +kernel
theorem dX4_muted_18 : decode cX4_muted 18 = .ok (.iconst 0, 1) := by decide +kernel
theorem dX4_muted_19 : decode cX4_muted 19 = .ok (.invokevirtual 45, 3) := by decide +kernel
theorem dX4_muted_22 : decode cX4_muted 22 = .ok (.iload_n 1, 1) := by decide +kernel
theorem dX4_muted_23 : decode cX4_muted 23 = .ok (.if_icmp .ne 28, 3) := by decide +kernel
theorem dX4_muted_26 : decode cX4_muted 26 = .ok (.aload_n 0, 1) := by decide +kernel
theorem dX4_muted_27 : decode cX4_muted 27 = .ok (.iload 6, 2) := by decide +kernel
theorem dX4_muted_29 : decode cX4_muted 29 = .ok (.invokevirtual 99, 3) := by decide +kernel
theorem dX4_muted_32 : decode cX4_muted 32 = .ok (.ifCond .eq 19, 3) := by decide +kernel
theorem dX4_muted_35 : decode cX4_muted 35 = .ok (.lload 4, 2) := by decide +kernel
theorem dX4_muted_37 : decode cX4_muted 37 = .ok (.aload_n 0, 1) := by decide +kernel
theorem dX4_muted_38 : decode cX4_muted 38 = .ok (.getfield 102, 3) := by decide +kernel
theorem dX4_muted_41 : decode cX4_muted 41 = .ok (.iconst 4, 1) := by decide +kernel
theorem dX4_muted_42 : decode cX4_muted 42 = .ok (.iaload, 1) := by decide +kernel
theorem dX4_muted_43 : decode cX4_muted 43 = .ok (.i2l, 1) := by decide +kernel
theorem dX4_muted_44 : decode cX4_muted 44 = .ok (.lmul, 1) := by decide +kernel
theorem dX4_muted_45 : decode cX4_muted 45 = .ok (.ldc2_w 105, 3) := by decide +kernel
theorem dX4_muted_48 : decode cX4_muted 48 = .ok (.ldiv, 1) := by decide +kernel
theorem dX4_muted_49 : decode cX4_muted 49 = .ok (.lstore 4, 2) := by decide +kernel
theorem dX4_muted_51 : decode cX4_muted 51 = .ok (.iinc 6 1, 3) := by decide +kernel
theorem dX4_muted_54 : decode cX4_muted 54 = .ok (.goto (-48), 3) := by decide +kernel
theorem dX4_muted_57 : decode cX4_muted 57 = .ok (.lload 4, 2) := by decide +kernel
theorem dX4_muted_59 : decode cX4_muted 59 = .ok (.lreturn, 1) := by decide +kernel
theorem dX4_odds_0 : decode cX4_odds 0 = .ok (.ldc2_w 93, 3) := by decide +kernel
theorem dX4_odds_3 : decode cX4_odds 3 = .ok (.lstore_n 3, 1) := by decide +kernel
theorem dX4_odds_4 : decode cX4_odds 4 = .ok (.iconst 0, 1) := by decide +kernel
theorem dX4_odds_5 : decode cX4_odds 5 = .ok (.istore 5, 2) := by decide +kernel
theorem dX4_odds_7 : decode cX4_odds 7 = .ok (.iload 5, 2) := by decide +kernel
theorem dX4_odds_9 : decode cX4_odds 9 = .ok (.bipush 7, 2) := by decide +kernel
theorem dX4_odds_11 : decode cX4_odds 11 = .ok (.if_icmp .ge 29, 3) := by decide +kernel
theorem dX4_odds_14 : decode cX4_odds 14 = .ok (.iload_n 2, 1) := by decide +kernel
theorem dX4_odds_15 : decode cX4_odds 15 = .ok (.iload 5, 2) := by decide +kernel
theorem dX4_odds_17 : decode cX4_odds 17 = .ok (.ishr, 1) := by decide +kernel
theorem dX4_odds_18 : decode cX4_odds 18 = .ok (.iconst 1, 1) := by decide +kernel
theorem dX4_odds_19 : decode cX4_odds 19 = .ok (.iand, 1) := by decide +kernel
theorem dX4_odds_20 : decode cX4_odds 20 = .ok (.iconst 1, 1) := by decide +kernel
theorem dX4_odds_21 : decode cX4_odds 21 = .ok (.if_icmp .ne 13, 3) := by decide +kernel
theorem dX4_odds_24 : decode cX4_odds 24 = .ok (.lload_n 3, 1) := by decide +kernel
theorem dX4_odds_25 : decode cX4_odds 25 = .ok (.aload_n 1, 1) := by decide +kernel
theorem dX4_odds_26 : decode cX4_odds 26 = .ok (.iload 5, 2) := by decide +kernel
theorem dX4_odds_28 : decode cX4_odds 28 = .ok (.lload_n 3, 1) := by decide +kernel
theorem dX4_odds_29 : decode cX4_odds 29 = .ok (.invokestatic 95, 3) := by decide +kernel
theorem dX4_odds_32 : decode cX4_odds 32 = .ok (.lsub, 1) := by decide +kernel
theorem dX4_odds_33 : decode cX4_odds 33 = .ok (.lstore_n 3, 1) := by decide +kernel
theorem dX4_odds_34 : decode cX4_odds 34 = .ok (.iinc 5 1, 3) := by decide +kernel
theorem dX4_odds_37 : decode cX4_odds 37 = .ok (.goto (-30), 3) := by decide +kernel
theorem dX4_odds_40 : decode cX4_odds 40 = .ok (.lload_n 3, 1) := by decide +kernel
theorem dX4_odds_41 : decode cX4_odds 41 = .ok (.lreturn, 1) := by decide +kernel
set_option maxRecDepth 20000 in
theorem ggX4_mapSets_X9_fact : GoodIn wsX4_mapSets wsX9_fact := goodIn_r _ [5, 6, 7, 8, 9, 10, 11, 12, 13, 14, 15, 16] (by decide +kernel) (by decide +kernel)
set_option maxRecDepth 20000 in
theorem gX4_mapSets_X9_fact_n45 : GoodIn wsX4_mapSets (wsX9_fact) := ggX4_mapSets_X9_fact
set_option maxRecDepth 20000 in
theorem ggX4_hillSet_X4_mapSets : GoodIn wsX4_hillSet wsX4_mapSets := goodIn_r _ [6, 1, 7, 8, 9, 10, 11, 17, 18, 19, 20, 21, 22, 23, 24, 25, 26, 12, 13, 14, 15, 16] (by decide +kernel) (by decide +kernel)
set_option maxRecDepth 20000 in
theorem gX4_hillSet_X4_mapSets : GoodIn wsX4_hillSet (wsV RX4 77 RX4 yX4_mapSets wsX4_mapSets) := goodIn_app (goodIn_of _ (by decide +kernel)) ggX4_hillSet_X4_mapSets
set_option maxRecDepth 20000 in
theorem ggX4_question_X4_hillSet : GoodIn wsX4_question wsX4_hillSet := goodIn_r _ [9, 10, 11, 12, 13, 8, 14, 15, 16, 17, 18, 19, 34, 35, 36, 37, 38, 24, 25, 26, 27, 28, 29, 30, 31, 32, 33] (by decide +kernel) (by decide +kernel)
set_option maxRecDepth 20000 in
theorem gX4_question_X4_hillSet : GoodIn wsX4_question (wsV RX4 84 RX4 yX4_hillSet wsX4_hillSet) := goodIn_app (goodIn_of _ (by decide +kernel)) ggX4_question_X4_hillSet
set_option maxRecDepth 20000 in
theorem ggX4_question_X4_burningSets : GoodIn wsX4_question wsX4_burningSets := goodIn_r _ [23, 10, 24, 25, 26, 27, 28, 29, 30, 31, 32, 33, 34, 35, 36, 37, 38] (by decide +kernel) (by decide +kernel)
set_option maxRecDepth 20000 in
theorem gX4_question_X4_burningSets : GoodIn wsX4_question (wsV RX4 87 RX4 yX4_burningSets wsX4_burningSets) := goodIn_app (goodIn_of _ (by decide +kernel)) ggX4_question_X4_burningSets
set_option maxRecDepth 20000 in
theorem ggX4_muted_X9_fact : GoodIn wsX4_muted wsX9_fact := goodIn_r _ [5, 6, 16, 17, 18, 19, 20, 21, 22, 23, 24, 25] (by decide +kernel) (by decide +kernel)
set_option maxRecDepth 20000 in
theorem gX4_muted_X9_fact_n45 : GoodIn wsX4_muted (wsX9_fact) := ggX4_muted_X9_fact
set_option maxRecDepth 20000 in
theorem ggX4_muted_X9_sings : GoodIn wsX4_muted wsX9_sings := goodIn_r _ [9, 10, 2, 4, 3, 5, 6, 11, 12, 13, 14, 15, 16, 17, 18, 19, 20, 21, 22, 23, 24, 25] (by decide +kernel) (by decide +kernel)
set_option maxRecDepth 20000 in
theorem gX4_muted_X9_sings_n99 : GoodIn wsX4_muted (wsX9_sings) := ggX4_muted_X9_sings
set_option maxRecDepth 20000 in
theorem ggX4_odds_X4_muted : GoodIn wsX4_odds wsX4_muted := goodIn_r _ [5, 6, 7, 8, 9, 10, 11, 12, 13, 14, 15, 16, 17, 18, 19, 20, 21, 22, 23, 24, 25, 26, 27, 28, 29, 30] (by decide +kernel) (by decide +kernel)
set_option maxRecDepth 20000 in
theorem gX4_odds_X4_muted : GoodIn wsX4_odds (va_wsS RX4 95 yX4_muted wsX4_muted) := goodIn_app (goodIn_of _ (by decide +kernel)) ggX4_odds_X4_muted
def Pw (h s : Int) : Prop := 0 ≤ h ∧ h ≤ 8 ∧ s = ((2 ^ h.toNat : Nat) : Int)
theorem Pw.base : Pw 0 1 := ⟨by decide, by decide, rfl⟩
theorem Pw.lt {h s : Int} (q : Pw h s) (h8 : h < 8) : 1 ≤ s ∧ s ≤ 128 := by
  obtain ⟨h0, h1, rfl⟩ := q
  have a := Nat.pow_le_pow_right (show 0 < 2 by decide) (show h.toNat ≤ 7 by omega)
  have b := Nat.one_le_two_pow (n := h.toNat)
  omega
theorem Pw.step {h s : Int} (q : Pw h s) (h8 : h < 8) : Pw (h + 1) (s * 2) := by
  obtain ⟨h0, h1, rfl⟩ := q
  refine ⟨by omega, by omega, ?_⟩
  rw [show (h + 1).toNat = h.toNat + 1 by omega, Nat.pow_succ]
  omega
set_option maxHeartbeats 4000000 in
set_option maxRecDepth 100000 in
theorem w_mapSets (l : Launch) (D : va_G) (K : Nat → ClassId) (p0 : Nat) (t0 : Nat) (p1 : Nat) (p2 : Nat) (p3 : Nat) (p4 : Nat) (p5 : Nat) (fs : Nat → Int32) (t1 : Nat) (k_1 : Value) (t2 : Nat) (k_3 : Value) (n : Int32) (k_5 : Value) (k_6 : Value) (k_7 : Value) (k_8 : Value) (ho : Int32) (f1 : Nat → Int32) (f2 : Nat → Int32) (sz : Nat) (zn : 0 ≤ n.toInt ∧ n.toInt ≤ 8) : Met l yX4_mapSets wsX4_mapSets ({ frames := 1, cells := 0, slots := 0, locals := 23 }) (va_Pc [.ref p0, .ref t0] (Pre D K [(p0, .inr (4, [.ref p1, .ref p2, .ref p3, .ref p4, .ref p5])), (p5, .inl (K 0, 256, .inl fs)), (t0, .inr (9, [.ref t1, k_1, .ref t2, k_3, .int n, k_5, k_6, k_7, k_8, .int ho])), (t1, .inl (K 0, 56, .inl f1)), (t2, .inl (K 0, 6, .inl f2))] sz)) (va_Qi (S := Su) (fun (r : Int32) (u : Su) => (1 ≤ r.toInt ∧ r.toInt ≤ 256) ∧ True) (fun u t => Wd D (va_A [(p0, .inr (4, [.ref p1, .ref p2, .ref p3, .ref p4, .ref p5])), (p5, .inl (K 0, 256, .inl fs)), (t0, .inr (9, [.ref t1, k_1, .ref t2, k_3, .int n, k_5, k_6, k_7, k_8, .int ho])), (t1, .inl (K 0, 56, .inl f1)), (t2, .inl (K 0, 6, .inl f2))] sz) ((fun u => [(p0, .inr (4, [.ref p1, .ref p2, .ref p3, .ref p4, .ref p5])), (p5, .inl (K 0, 256, .inl (u.2.1 0))), (t0, .inr (9, [.ref t1, k_1, .ref t2, k_3, .int n, k_5, k_6, k_7, k_8, .int ho])), (t1, .inl (K 0, 56, .inl f1)), (t2, .inl (K 0, 6, .inl f2))]) u) t) (va_A [(p0, .inr (4, [.ref p1, .ref p2, .ref p3, .ref p4, .ref p5])), (p5, .inl (K 0, 256, .inl fs)), (t0, .inr (9, [.ref t1, k_1, .ref t2, k_3, .int n, k_5, k_6, k_7, k_8, .int ho])), (t1, .inl (K 0, 56, .inl f1)), (t2, .inl (K 0, 6, .inl f2))] sz)) 0 0 (va_A [(p0, .inr (4, [.ref p1, .ref p2, .ref p3, .ref p4, .ref p5])), (p5, .inl (K 0, 256, .inl fs)), (t0, .inr (9, [.ref t1, k_1, .ref t2, k_3, .int n, k_5, k_6, k_7, k_8, .int ho])), (t1, .inl (K 0, 56, .inl f1)), (t2, .inl (K 0, 6, .inl f2))] sz) := by
  refine Met.ofW (cc := cX4_mapSets) (maxL := 5) (ret := (some .int)) (by decide) rfl ?_
  intro p e s m args below meth c s₁ B hml hv
  obtain ⟨rfl, hsz, hP, hK, hD0, hN⟩ := hv
  have hx := B.exec
  have hb := B.bytes
  have hr := B.returns
  have hts := atoms_spec (ws := wsX4_mapSets) B.pre
  have hown : s.vm.findClass RX4 = some m.cls := findClass_of_methodNamed B.named
  have hlocks := B.notSynchronized
  subst hsz
  have hD := hD0.self (sz := s.heap.size)
  generalize hAe : va_A [(p0, .inr (4, [.ref p1, .ref p2, .ref p3, .ref p4, .ref p5])), (p5, .inl (K 0, 256, .inl fs)), (t0, .inr (9, [.ref t1, k_1, .ref t2, k_3, .int n, k_5, k_6, k_7, k_8, .int ho])), (t1, .inl (K 0, 56, .inl f1)), (t2, .inl (K 0, 6, .inl f2))] s.heap.size = A at hD ⊢
  have hA : ∀ q : Nat, s.heap.size ≤ q → A q := fun q h => by rw [← hAe]; exact Or.inr h
  have hS : va_S A s.heap s.heap [] := va_S.rf
  have hP : va_P D vwCl [(p0, .inr (4, [.ref p1, .ref p2, .ref p3, .ref p4, .ref p5])), (p5, .inl (K 0, 256, .inl fs)), (t0, .inr (9, [.ref t1, k_1, .ref t2, k_3, .int n, k_5, k_6, k_7, k_8, .int ho])), (t1, .inl (K 0, 56, .inl f1)), (t2, .inl (K 0, 6, .inl f2))] s.heap := hP
  have hl := lv_entry [.ref p0, .ref t0] (n := 5) (Nat.le_of_ble_eq_true rfl)
  rw [lg_entry_eq]
  generalize (lg_sl [.ref p0, .ref t0] ++ List.replicate (5 - (lg_sl [.ref p0, .ref t0]).length) Slot.unset).toArray = ls at hl ⊢
  have hl : lv_has ls 5 [(0, .ref p0), (1, .ref t0)] := hl
  have hw4 : ∀ w ∈ wsX40, w ∈ wsX4_mapSets := fun w h => (List.mem_cons_of_mem _ (List.mem_append_right _ h))
  have hw9 : ∀ w ∈ wsX90, w ∈ wsX4_mapSets := fun w h => (List.mem_cons_of_mem _ (List.mem_append_left _ (List.mem_append_right _ h)))
  generalize hQ : MQ below _ _ s _ _ _ = Q
  refine lv_iconst (v := 1) hx hb dX4_mapSets_0 (by decide) ?_
  refine lv_istore_n (lv' := [(2, .int 1), (0, .ref p0), (1, .ref t0)]) hx hb dX4_mapSets_1 rfl hl (by decide) rfl (fun ls hl => ?_)
  refine lv_iconst (v := 0) hx hb dX4_mapSets_2 (by decide) ?_
  refine lv_istore_n (lv' := [(3, .int 0), (2, .int 1), (0, .ref p0), (1, .ref t0)]) hx hb dX4_mapSets_3 rfl hl (by decide) rfl (fun ls hl => ?_)
  have lp_2333 : ∀ (nn_ : Nat) (v_2043 : Int32) (v_2044 : Int32) (f_2045 : Nat → Int32) (hv_2043 : 0 ≤ v_2043.toInt ∧ v_2043.toInt ≤ 8) (hv_2044 : 1 ≤ v_2044.toInt ∧ v_2044.toInt ≤ 256) (hr0_lp_2333 : Pw v_2043.toInt v_2044.toInt) (hn : (9 - v_2043.toInt : Int).toNat < nn_) (H : Heap) (locs : List Loc) (hP : va_P D vwCl [(p0, .inr (4, [.ref p1, .ref p2, .ref p3, .ref p4, .ref p5])), (p5, .inl (K 0, 256, .inl f_2045)), (t0, .inr (9, [.ref t1, k_1, .ref t2, k_3, .int n, k_5, k_6, k_7, k_8, .int ho])), (t1, .inl (K 0, 56, .inl f1)), (t2, .inl (K 0, 6, .inl f2))] H) (hD : va_D A [(p0, .inr (4, [.ref p1, .ref p2, .ref p3, .ref p4, .ref p5])), (p5, .inl (K 0, 256, .inl f_2045)), (t0, .inr (9, [.ref t1, k_1, .ref t2, k_3, .int n, k_5, k_6, k_7, k_8, .int ho])), (t1, .inl (K 0, 56, .inl f1)), (t2, .inl (K 0, 6, .inl f2))]) (hS : va_S A s.heap H locs) (ls : Array Slot) (hl : lv_has ls 5 [(3, .int v_2043), (2, .int v_2044), (0, .ref p0), (1, .ref t0)]), W p l e ({ frames := 1, cells := 0, slots := 0, locals := 23 }) s m (([.ref p0, .ref t0] : List Value).toArray) below meth c H locs 0 0 Q (F0 m 4 ls []) := by
    intro nn_
    induction nn_ with
    | zero =>
      intro v_2043 v_2044 f_2045 hv_2043 hv_2044 hr0_lp_2333 hn H locs hP hD hS ls hl
      exact absurd hn (Nat.not_lt_zero _)
    | succ nn_ ih_2334 =>
      intro v_2043 v_2044 f_2045 hv_2043 hv_2044 hr0_lp_2333 hn H locs hP hD hS ls hl
      refine lv_iload_n hx hb dX4_mapSets_4 rfl (lv_at hl 0 rfl) ?_
      refine lv_aload_n hx hb dX4_mapSets_5 rfl (lv_at hl 3 rfl) ?_
      refine va_getN (ci := 9) (v := .int n) (C := RX9) (T := TX9) (N := 10) hx hb hts hw9 hown hK hP 2 rfl rfl 4 (by decide) (nst_use hN 106 rfl) (fun _ h9 => h9) rfl dX4_mapSets_6 ?_
      refine lv_icmp_ge (tgt := 68) hx hb dX4_mapSets_9 (by decide) (fun c_2406 => ?_) (fun c_2406 => ?_)
      · have c_2406i := i_le (x := n.toInt) (y := v_2043.toInt) rfl rfl c_2406
        refine lv_iload_n hx hb dX4_mapSets_68 rfl (lv_at hl 1 rfl) ?_
        rw [← hQ]
        have hP9 := hP.sub (ws' := [(p0, .inr (4, [.ref p1, .ref p2, .ref p3, .ref p4, .ref p5])), (p5, .inl (K 0, 256, .inl f_2045)), (t0, .inr (9, [.ref t1, k_1, .ref t2, k_3, .int n, k_5, k_6, k_7, k_8, .int ho])), (t1, .inl (K 0, 56, .inl f1)), (t2, .inl (K 0, 6, .inl f2))]) [0, 1, 2, 3, 4] rfl
        have hD9 := hD.sub (ws' := [(p0, .inr (4, [.ref p1, .ref p2, .ref p3, .ref p4, .ref p5])), (p5, .inl (K 0, 256, .inl f_2045)), (t0, .inr (9, [.ref t1, k_1, .ref t2, k_3, .int n, k_5, k_6, k_7, k_8, .int ho])), (t1, .inl (K 0, 56, .inl f1)), (t2, .inl (K 0, 6, .inl f2))]) [0, 1, 2, 3, 4] (by decide) rfl
        exact W.iret (v := v_2044) hx hb hr (fun t ht hW => ⟨⟨v_2044, ((fun _ => 0, fun i => match i with | _ => f_2045, fun _ => fun _ => 0, fun _ => 0, fun _ => 0, fun _ => fun _ => none) : Su), rfl, ⟨(show 1 ≤ v_2044.toInt ∧ v_2044.toInt ≤ 256 by omega), trivial⟩, (⟨by rw [ht]; exact hP9, hD9⟩ : Wd D A _ t)⟩, hS.F ht⟩) hS.2.2 dX4_mapSets_69
      · have c_2406i := i_nle (x := n.toInt) (y := v_2043.toInt) rfl rfl c_2406
        refine lv_iload_n hx hb dX4_mapSets_12 rfl (lv_at hl 0 rfl) ?_
        refine lv_bipush (v := 8) hx hb dX4_mapSets_13 (by decide) ?_
        refine lv_icmp_ge (tgt := 68) hx hb dX4_mapSets_15 (by decide) (fun c_2407 => ?_) (fun c_2407 => ?_)
        · have c_2407i := i_le (x := 8) (y := v_2043.toInt) rfl rfl c_2407
          exfalso; omega
        · have c_2407i := i_nle (x := 8) (y := v_2043.toInt) rfl rfl c_2407
          have hpw := Pw.lt hr0_lp_2333 (by omega)
          refine lv_iconst (v := 0) hx hb dX4_mapSets_18 (by decide) ?_
          refine lv_istore (lv' := [(4, .int 0), (3, .int v_2043), (2, .int v_2044), (0, .ref p0), (1, .ref t0)]) hx hb dX4_mapSets_19 hl (by decide) rfl (fun ls hl => ?_)
          have lp_2465 : ∀ (nn_ : Nat) (v_2445 : Int32) (f_2446 : Nat → Int32) (hv_2445 : 0 ≤ v_2445.toInt ∧ v_2445.toInt ≤ 128) (hn : (v_2044.toInt - v_2445.toInt : Int).toNat < nn_) (H : Heap) (locs : List Loc) (hP : va_P D vwCl [(p0, .inr (4, [.ref p1, .ref p2, .ref p3, .ref p4, .ref p5])), (p5, .inl (K 0, 256, .inl f_2446)), (t0, .inr (9, [.ref t1, k_1, .ref t2, k_3, .int n, k_5, k_6, k_7, k_8, .int ho])), (t1, .inl (K 0, 56, .inl f1)), (t2, .inl (K 0, 6, .inl f2))] H) (hD : va_D A [(p0, .inr (4, [.ref p1, .ref p2, .ref p3, .ref p4, .ref p5])), (p5, .inl (K 0, 256, .inl f_2446)), (t0, .inr (9, [.ref t1, k_1, .ref t2, k_3, .int n, k_5, k_6, k_7, k_8, .int ho])), (t1, .inl (K 0, 56, .inl f1)), (t2, .inl (K 0, 6, .inl f2))]) (hS : va_S A s.heap H locs) (ls : Array Slot) (hl : lv_has ls 5 [(4, .int v_2445), (3, .int v_2043), (2, .int v_2044), (0, .ref p0), (1, .ref t0)]), W p l e ({ frames := 1, cells := 0, slots := 0, locals := 23 }) s m (([.ref p0, .ref t0] : List Value).toArray) below meth c H locs 0 0 Q (F0 m 21 ls []) := by
            intro nn_
            induction nn_ with
            | zero =>
              intro v_2445 f_2446 hv_2445 hn H locs hP hD hS ls hl
              exact absurd hn (Nat.not_lt_zero _)
            | succ nn_ ih_2466 =>
              intro v_2445 f_2446 hv_2445 hn H locs hP hD hS ls hl
              refine lv_iload hx hb dX4_mapSets_21 (lv_at hl 0 rfl) ?_
              refine lv_iload_n hx hb dX4_mapSets_23 rfl (lv_at hl 2 rfl) ?_
              refine lv_icmp_ge (tgt := 58) hx hb dX4_mapSets_24 (by decide) (fun c_2467 => ?_) (fun c_2467 => ?_)
              · have c_2467i := i_le (x := v_2044.toInt) (y := v_2445.toInt) rfl rfl c_2467
                refine lv_iload_n hx hb dX4_mapSets_58 rfl (lv_at hl 2 rfl) ?_
                refine lv_iconst (v := 2) hx hb dX4_mapSets_59 (by decide) ?_
                refine lv_imul hx hb dX4_mapSets_60 ?_
                refine lv_topi (fun x_2468 ex_2468 => ?_)
                have hx_2468 : x_2468.toInt = (v_2044.toInt * 2) := by rw [ex_2468]; exact i_mul rfl (show (2 : Int32).toInt = 2 from rfl) (by omega)
                refine lv_istore_n (lv' := [(2, .int x_2468), (4, .int v_2445), (3, .int v_2043), (0, .ref p0), (1, .ref t0)]) hx hb dX4_mapSets_61 rfl hl (by decide) rfl (fun ls hl => ?_)
                obtain ⟨x_2469, ex_2469⟩ : ∃ y : Int32, y = v_2043 + Int32.ofInt 1 := ⟨_, rfl⟩
                have hx_2469 : x_2469.toInt = (v_2043.toInt + 1) := by rw [ex_2469]; exact i_add rfl (show (Int32.ofInt 1).toInt = 1 from rfl) (by omega)
                refine lv_iinc (v := x_2469) (lv' := [(3, .int x_2469), (2, .int x_2468), (4, .int v_2445), (0, .ref p0), (1, .ref t0)]) hx hb dX4_mapSets_62 hl (k := 2) rfl (by rw [ex_2469]) (by decide) rfl (fun ls hl => ?_)
                refine lv_goto (tgt := 4) hx hb dX4_mapSets_65 (by decide) ?_
                exact ih_2334 x_2469 x_2468 f_2446 (by rw [hx_2469]; omega) (by rw [hx_2468]; omega) (show Pw (x_2469 : Int32).toInt (x_2468 : Int32).toInt by rw [hx_2469, hx_2468]; exact Pw.step hr0_lp_2333 (by omega)) (by omega) _ _ hP hD hS ls (lv_sub hl [0, 1, 3, 4] rfl)
              · have c_2467i := i_nle (x := v_2044.toInt) (y := v_2445.toInt) rfl rfl c_2467
                refine lv_aload_n hx hb dX4_mapSets_27 rfl (lv_at hl 3 rfl) ?_
                refine va_get (ci := 4) (v := .ref p5) (C := RX4) (T := TX4) (N := 5) hx hb hts hw4 hown hK hP 0 rfl rfl 4 (by decide) (hts (.fieldLink RX4 24 "SmokeTune$Paper" "setNotes" "[I") (List.mem_cons_of_mem _ (List.mem_append_left _ (List.mem_append_left _ (List.mem_of_getElem? (i := 0) rfl))))) (fun _ h9 => h9) rfl dX4_mapSets_28 ?_
                refine lv_iload_n hx hb dX4_mapSets_31 rfl (lv_at hl 2 rfl) ?_
                refine lv_iload hx hb dX4_mapSets_32 (lv_at hl 0 rfl) ?_
                refine lv_iadd hx hb dX4_mapSets_34 ?_
                refine lv_topi (fun x_2470 ex_2470 => ?_)
                have hx_2470 : x_2470.toInt = (v_2044.toInt + v_2445.toInt) := by rw [ex_2470]; exact i_add rfl rfl (by omega)
                refine lv_aload_n hx hb dX4_mapSets_35 rfl (lv_at hl 3 rfl) ?_
                refine va_get (ci := 4) (v := .ref p5) (C := RX4) (T := TX4) (N := 5) hx hb hts hw4 hown hK hP 0 rfl rfl 4 (by decide) (hts (.fieldLink RX4 24 "SmokeTune$Paper" "setNotes" "[I") (List.mem_cons_of_mem _ (List.mem_append_left _ (List.mem_append_left _ (List.mem_of_getElem? (i := 0) rfl))))) (fun _ h9 => h9) rfl dX4_mapSets_36 ?_
                refine lv_iload hx hb dX4_mapSets_39 (lv_at hl 0 rfl) ?_
                refine va_iald hx hb hK hP 1 0 rfl rfl (i_in rfl (by omega)) dX4_mapSets_41 ?_
                refine lv_topi (fun x_2471 ex_2471 => ?_)
                refine lv_iconst (v := 1) hx hb dX4_mapSets_42 (by decide) ?_
                refine lv_aload_n hx hb dX4_mapSets_43 rfl (lv_at hl 4 rfl) ?_
                refine lv_iload_n hx hb dX4_mapSets_44 rfl (lv_at hl 1 rfl) ?_
                refine lv_iconst (v := 0) hx hb dX4_mapSets_45 (by decide) ?_
                refine pci (va_runVN (As := [.int v_2043, .int 0]) (rest := [.int 1, .int x_2471, .int x_2470, .ref p5]) ⟨hx, hb, hml, hown, hts⟩ (w_fact l D K t0 v_2043 0 t1 k_1 (.ref t2) k_3 (.int n) k_5 k_6 k_7 k_8 (.int ho) f1 H.size) ⟨va_cnB 2 hts gX4_mapSets_X9_fact_n45 rfl rfl rfl (nst_at hN 84 rfl) (hts (.initialized RX9) (List.mem_cons_of_mem _ (List.mem_append_left _ (List.mem_append_left _ (List.mem_of_getElem? (i := 2) rfl))))) (by decide +kernel) ⟨Nat.le_of_ble_eq_true rfl, Nat.le_of_ble_eq_true rfl⟩, (hts (.instanceMethod yX9_fact) (List.mem_cons_of_mem _ (List.mem_append_left _ (List.mem_append_left _ (List.mem_of_getElem? (i := 1) rfl))))), (hts (.selects RX9 yX9_fact yX9_fact) (List.mem_cons_of_mem _ (List.mem_append_left _ (List.mem_append_left _ (List.mem_of_getElem? (i := 3) rfl)))))⟩ (mkV hK hN (hP.sub [2, 3] rfl) (hD.sub [2, 3] (by decide) rfl) (ci := 9) (q0 := 0) rfl rfl) rfl rfl hl.1 rfl (lv_room (Nat.le_of_ble_eq_true rfl)) dX4_mapSets_46 ⟨Nat.le_of_ble_eq_true rfl, Nat.le_of_ble_eq_true rfl⟩) (fun r_2472 hw => ?_)
                refine lv_ishl hx hb dX4_mapSets_49 ?_
                refine lv_topi (fun x_2473 ex_2473 => ?_)
                refine lv_ior hx hb dX4_mapSets_50 ?_
                refine lv_topi (fun x_2474 ex_2474 => ?_)
                refine va_iast hx hb hK hP hD hS 1 0 rfl rfl (i_in hx_2470 (by omega)) dX4_mapSets_51 (fun H locs hP hD hS => ?_)
                generalize hf_2475 : (upd f_2446 (x_2470 : Int32).toNatClampNeg x_2474) = f_2475 at hP hD
                have hP : va_P D vwCl [(p0, .inr (4, [.ref p1, .ref p2, .ref p3, .ref p4, .ref p5])), (p5, .inl (K 0, 256, .inl f_2475)), (t0, .inr (9, [.ref t1, k_1, .ref t2, k_3, .int n, k_5, k_6, k_7, k_8, .int ho])), (t1, .inl (K 0, 56, .inl f1)), (t2, .inl (K 0, 6, .inl f2))] H := hP
                have hD : va_D A [(p0, .inr (4, [.ref p1, .ref p2, .ref p3, .ref p4, .ref p5])), (p5, .inl (K 0, 256, .inl f_2475)), (t0, .inr (9, [.ref t1, k_1, .ref t2, k_3, .int n, k_5, k_6, k_7, k_8, .int ho])), (t1, .inl (K 0, 56, .inl f1)), (t2, .inl (K 0, 6, .inl f2))] := hD
                obtain ⟨x_2476, ex_2476⟩ : ∃ y : Int32, y = v_2445 + Int32.ofInt 1 := ⟨_, rfl⟩
                have hx_2476 : x_2476.toInt = (v_2445.toInt + 1) := by rw [ex_2476]; exact i_add rfl (show (Int32.ofInt 1).toInt = 1 from rfl) (by omega)
                refine lv_iinc (v := x_2476) (lv' := [(4, .int x_2476), (3, .int v_2043), (2, .int v_2044), (0, .ref p0), (1, .ref t0)]) hx hb dX4_mapSets_52 hl (k := 0) rfl (by rw [ex_2476]) (by decide) rfl (fun ls hl => ?_)
                refine lv_goto (tgt := 21) hx hb dX4_mapSets_55 (by decide) ?_
                exact ih_2466 x_2476 f_2475 (by rw [hx_2476]; omega) (by omega) _ _ hP hD hS ls (lv_sub hl [0, 1, 2, 3, 4] rfl)
          exact lp_2465 ((v_2044.toInt - (0 : Int32).toInt : Int).toNat + 1) 0 f_2045 (by decide) (Nat.lt_succ_self _) _ _ hP hD hS ls (lv_sub hl [0, 1, 2, 3, 4] rfl)
  have hz_2477 : (0 : Int32).toInt = 0 := rfl
  have hz_2478 : (1 : Int32).toInt = 1 := rfl
  exact lp_2333 ((9 - (0 : Int32).toInt : Int).toNat + 1) 0 1 fs (by decide) (by decide) (show Pw (0 : Int32).toInt (1 : Int32).toInt by exact Pw.base) (Nat.lt_succ_self _) _ _ hP hD hS ls (lv_sub hl [0, 1, 2, 3] rfl)
set_option maxHeartbeats 4000000 in
set_option maxRecDepth 100000 in
theorem w_hillSet (l : Launch) (D : va_G) (K : Nat → ClassId) (p0 : Nat) (t0 : Nat) (x : Int32) (p1 : Nat) (p2 : Nat) (p3 : Nat) (p4 : Nat) (p5 : Nat) (fs : Nat → Int32) (t1 : Nat) (k_1 : Value) (t2 : Nat) (k_3 : Value) (n : Int32) (k_5 : Value) (k_6 : Value) (k_7 : Value) (k_8 : Value) (ho : Int32) (f1 : Nat → Int32) (f2 : Nat → Int32) (sz : Nat) (zn : 0 ≤ n.toInt ∧ n.toInt ≤ 8) : Met l yX4_hillSet wsX4_hillSet ({ frames := 2, cells := 0, slots := 0, locals := 47 }) (va_Pc [.ref p0, .ref t0, .int x] (Pre D K [(p0, .inr (4, [.ref p1, .ref p2, .ref p3, .ref p4, .ref p5])), (p5, .inl (K 0, 256, .inl fs)), (t0, .inr (9, [.ref t1, k_1, .ref t2, k_3, .int n, k_5, k_6, k_7, k_8, .int ho])), (t1, .inl (K 0, 56, .inl f1)), (t2, .inl (K 0, 6, .inl f2))] sz)) (va_Qi (S := Su) (fun (r : Int32) (u : Su) => True) (fun u t => Wd D (va_A [(p0, .inr (4, [.ref p1, .ref p2, .ref p3, .ref p4, .ref p5])), (p5, .inl (K 0, 256, .inl fs)), (t0, .inr (9, [.ref t1, k_1, .ref t2, k_3, .int n, k_5, k_6, k_7, k_8, .int ho])), (t1, .inl (K 0, 56, .inl f1)), (t2, .inl (K 0, 6, .inl f2))] sz) ((fun u => [(p0, .inr (4, [.ref p1, .ref p2, .ref p3, .ref p4, .ref p5])), (p5, .inl (K 0, 256, .inl (u.2.1 0))), (t0, .inr (9, [.ref t1, k_1, .ref t2, k_3, .int n, k_5, k_6, k_7, k_8, .int ho])), (t1, .inl (K 0, 56, .inl f1)), (t2, .inl (K 0, 6, .inl f2))]) u) t) (va_A [(p0, .inr (4, [.ref p1, .ref p2, .ref p3, .ref p4, .ref p5])), (p5, .inl (K 0, 256, .inl fs)), (t0, .inr (9, [.ref t1, k_1, .ref t2, k_3, .int n, k_5, k_6, k_7, k_8, .int ho])), (t1, .inl (K 0, 56, .inl f1)), (t2, .inl (K 0, 6, .inl f2))] sz)) 0 0 (va_A [(p0, .inr (4, [.ref p1, .ref p2, .ref p3, .ref p4, .ref p5])), (p5, .inl (K 0, 256, .inl fs)), (t0, .inr (9, [.ref t1, k_1, .ref t2, k_3, .int n, k_5, k_6, k_7, k_8, .int ho])), (t1, .inl (K 0, 56, .inl f1)), (t2, .inl (K 0, 6, .inl f2))] sz) := by
  refine Met.ofW (cc := cX4_hillSet) (maxL := 6) (ret := (some .int)) (by decide) rfl ?_
  intro p e s m args below meth c s₁ B hml hv
  obtain ⟨rfl, hsz, hP, hK, hD0, hN⟩ := hv
  have hx := B.exec
  have hb := B.bytes
  have hr := B.returns
  have hts := atoms_spec (ws := wsX4_hillSet) B.pre
  have hown : s.vm.findClass RX4 = some m.cls := findClass_of_methodNamed B.named
  have hlocks := B.notSynchronized
  subst hsz
  have hD := hD0.self (sz := s.heap.size)
  generalize hAe : va_A [(p0, .inr (4, [.ref p1, .ref p2, .ref p3, .ref p4, .ref p5])), (p5, .inl (K 0, 256, .inl fs)), (t0, .inr (9, [.ref t1, k_1, .ref t2, k_3, .int n, k_5, k_6, k_7, k_8, .int ho])), (t1, .inl (K 0, 56, .inl f1)), (t2, .inl (K 0, 6, .inl f2))] s.heap.size = A at hD ⊢
  have hA : ∀ q : Nat, s.heap.size ≤ q → A q := fun q h => by rw [← hAe]; exact Or.inr h
  have hS : va_S A s.heap s.heap [] := va_S.rf
  have hP : va_P D vwCl [(p0, .inr (4, [.ref p1, .ref p2, .ref p3, .ref p4, .ref p5])), (p5, .inl (K 0, 256, .inl fs)), (t0, .inr (9, [.ref t1, k_1, .ref t2, k_3, .int n, k_5, k_6, k_7, k_8, .int ho])), (t1, .inl (K 0, 56, .inl f1)), (t2, .inl (K 0, 6, .inl f2))] s.heap := hP
  have hl := lv_entry [.ref p0, .ref t0, .int x] (n := 6) (Nat.le_of_ble_eq_true rfl)
  rw [lg_entry_eq]
  generalize (lg_sl [.ref p0, .ref t0, .int x] ++ List.replicate (6 - (lg_sl [.ref p0, .ref t0, .int x]).length) Slot.unset).toArray = ls at hl ⊢
  have hl : lv_has ls 6 [(0, .ref p0), (1, .ref t0), (2, .int x)] := hl
  have hw4 : ∀ w ∈ wsX40, w ∈ wsX4_hillSet := fun w h => (List.mem_cons_of_mem _ (List.mem_append_left _ (List.mem_append_right _ h)))
  have hw9 : ∀ w ∈ wsX90, w ∈ wsX4_hillSet := fun w h => (List.mem_cons_of_mem _ (List.mem_append_right _ h))
  generalize hQ : MQ below _ _ s _ _ _ = Q
  refine lv_aload_n hx hb dX4_hillSet_0 rfl (lv_at hl 0 rfl) ?_
  refine lv_aload_n hx hb dX4_hillSet_1 rfl (lv_at hl 1 rfl) ?_
  refine kci (S := Su) (wr := []) (va_runV (As := [.ref t0]) (rest := []) ⟨hx, hb, hml, hown, hts⟩ (w_mapSets l D K p0 t0 p1 p2 p3 p4 p5 fs t1 k_1 t2 k_3 n k_5 k_6 k_7 k_8 ho f1 f2 s.heap.size (by first | omega | decide)) (cwV 1 hts gX4_hillSet_X4_mapSets rfl rfl rfl (by decide +kernel) ⟨Nat.le_of_ble_eq_true rfl, Nat.le_of_ble_eq_true rfl⟩) (mkV hK hN (hP.sub [0, 1, 2, 3, 4] rfl) (hD.sub [0, 1, 2, 3, 4] (by decide) rfl) (ci := 4) (q0 := 0) rfl rfl) rfl rfl hl.1 rfl (lv_room (Nat.le_of_ble_eq_true rfl)) dX4_hillSet_2 ⟨Nat.le_of_ble_eq_true rfl, Nat.le_of_ble_eq_true rfl⟩) hP hD hS hA [0, 1, 2, 3, 4] [] rfl rfl (by decide) (by decide) (fun r_221 u_222 H locs hw hP hD hS => ?_)
  have hP : va_P D vwCl [(p0, .inr (4, [.ref p1, .ref p2, .ref p3, .ref p4, .ref p5])), (p5, .inl (K 0, 256, .inl (u_222.2.1 0))), (t0, .inr (9, [.ref t1, k_1, .ref t2, k_3, .int n, k_5, k_6, k_7, k_8, .int ho])), (t1, .inl (K 0, 56, .inl f1)), (t2, .inl (K 0, 6, .inl f2))] H := hP
  have hD : va_D A [(p0, .inr (4, [.ref p1, .ref p2, .ref p3, .ref p4, .ref p5])), (p5, .inl (K 0, 256, .inl (u_222.2.1 0))), (t0, .inr (9, [.ref t1, k_1, .ref t2, k_3, .int n, k_5, k_6, k_7, k_8, .int ho])), (t1, .inl (K 0, 56, .inl f1)), (t2, .inl (K 0, 6, .inl f2))] := hD
  obtain ⟨h_223, -⟩ := hw
  refine lv_istore_n (lv' := [(3, .int r_221), (0, .ref p0), (1, .ref t0), (2, .int x)]) hx hb dX4_hillSet_5 rfl hl (by decide) rfl (fun ls hl => ?_)
  refine lv_iconst (v := 0) hx hb dX4_hillSet_6 (by decide) ?_
  refine lv_istore (lv' := [(4, .int 0), (3, .int r_221), (0, .ref p0), (1, .ref t0), (2, .int x)]) hx hb dX4_hillSet_7 hl (by decide) rfl (fun ls hl => ?_)
  refine lv_iconst (v := 0) hx hb dX4_hillSet_9 (by decide) ?_
  refine lv_istore (lv' := [(5, .int 0), (4, .int 0), (3, .int r_221), (0, .ref p0), (1, .ref t0), (2, .int x)]) hx hb dX4_hillSet_10 hl (by decide) rfl (fun ls hl => ?_)
  have lp_316 : ∀ (nn_ : Nat) (v_288 : Int32) (v_289 : Int32) (hv_288 : 0 ≤ v_288.toInt ∧ v_288.toInt ≤ 256) (hn : (257 - v_288.toInt : Int).toNat < nn_) (H : Heap) (locs : List Loc) (hP : va_P D vwCl [(p0, .inr (4, [.ref p1, .ref p2, .ref p3, .ref p4, .ref p5])), (p5, .inl (K 0, 256, .inl (u_222.2.1 0))), (t0, .inr (9, [.ref t1, k_1, .ref t2, k_3, .int n, k_5, k_6, k_7, k_8, .int ho])), (t1, .inl (K 0, 56, .inl f1)), (t2, .inl (K 0, 6, .inl f2))] H) (hD : va_D A [(p0, .inr (4, [.ref p1, .ref p2, .ref p3, .ref p4, .ref p5])), (p5, .inl (K 0, 256, .inl (u_222.2.1 0))), (t0, .inr (9, [.ref t1, k_1, .ref t2, k_3, .int n, k_5, k_6, k_7, k_8, .int ho])), (t1, .inl (K 0, 56, .inl f1)), (t2, .inl (K 0, 6, .inl f2))]) (hS : va_S A s.heap H locs) (ls : Array Slot) (hl : lv_has ls 6 [(5, .int v_288), (4, .int v_289), (3, .int r_221), (0, .ref p0), (1, .ref t0), (2, .int x)]), W p l e ({ frames := 2, cells := 0, slots := 0, locals := 47 }) s m (([.ref p0, .ref t0, .int x] : List Value).toArray) below meth c H locs 0 0 Q (F0 m 12 ls []) := by
    intro nn_
    induction nn_ with
    | zero =>
      intro v_288 v_289 hv_288 hn H locs hP hD hS ls hl
      exact absurd hn (Nat.not_lt_zero _)
    | succ nn_ ih_317 =>
      intro v_288 v_289 hv_288 hn H locs hP hD hS ls hl
      refine lv_iload hx hb dX4_hillSet_12 (lv_at hl 0 rfl) ?_
      refine lv_iload_n hx hb dX4_hillSet_14 rfl (lv_at hl 2 rfl) ?_
      refine lv_icmp_ge (tgt := 50) hx hb dX4_hillSet_15 (by decide) (fun c_318 => ?_) (fun c_318 => ?_)
      · have c_318i := i_le (x := r_221.toInt) (y := v_288.toInt) rfl rfl c_318
        refine lv_iload_n hx hb dX4_hillSet_50 rfl (lv_at hl 5 rfl) ?_
        refine lv_iconst (v := (-1)) hx hb dX4_hillSet_51 (by decide) ?_
        refine lv_icmp_ne (tgt := 60) hx hb dX4_hillSet_52 (by decide) (fun c_319 => ?_) (fun c_319 => ?_)
        · have c_319i := i_ne (x := x.toInt) (y := (-1)) rfl rfl c_319
          refine lv_iconst (v := (-1)) hx hb dX4_hillSet_60 (by decide) ?_
          rw [← hQ]
          have hP9 := hP.sub (ws' := [(p0, .inr (4, [.ref p1, .ref p2, .ref p3, .ref p4, .ref p5])), (p5, .inl (K 0, 256, .inl (u_222.2.1 0))), (t0, .inr (9, [.ref t1, k_1, .ref t2, k_3, .int n, k_5, k_6, k_7, k_8, .int ho])), (t1, .inl (K 0, 56, .inl f1)), (t2, .inl (K 0, 6, .inl f2))]) [0, 1, 2, 3, 4] rfl
          have hD9 := hD.sub (ws' := [(p0, .inr (4, [.ref p1, .ref p2, .ref p3, .ref p4, .ref p5])), (p5, .inl (K 0, 256, .inl (u_222.2.1 0))), (t0, .inr (9, [.ref t1, k_1, .ref t2, k_3, .int n, k_5, k_6, k_7, k_8, .int ho])), (t1, .inl (K 0, 56, .inl f1)), (t2, .inl (K 0, 6, .inl f2))]) [0, 1, 2, 3, 4] (by decide) rfl
          exact W.iret (v := (-1)) hx hb hr (fun t ht hW => ⟨⟨(-1), ((fun _ => 0, fun i => match i with | _ => (u_222.2.1 0), fun _ => fun _ => 0, fun _ => 0, fun _ => 0, fun _ => fun _ => none) : Su), rfl, trivial, (⟨by rw [ht]; exact hP9, hD9⟩ : Wd D A _ t)⟩, hS.F ht⟩) hS.2.2 dX4_hillSet_61
        · have c_319i := i_eq (x := x.toInt) (y := (-1)) rfl rfl c_319
          refine lv_iload hx hb dX4_hillSet_55 (lv_at hl 1 rfl) ?_
          refine lv_goto (tgt := 61) hx hb dX4_hillSet_57 (by decide) ?_
          rw [← hQ]
          have hP9 := hP.sub (ws' := [(p0, .inr (4, [.ref p1, .ref p2, .ref p3, .ref p4, .ref p5])), (p5, .inl (K 0, 256, .inl (u_222.2.1 0))), (t0, .inr (9, [.ref t1, k_1, .ref t2, k_3, .int n, k_5, k_6, k_7, k_8, .int ho])), (t1, .inl (K 0, 56, .inl f1)), (t2, .inl (K 0, 6, .inl f2))]) [0, 1, 2, 3, 4] rfl
          have hD9 := hD.sub (ws' := [(p0, .inr (4, [.ref p1, .ref p2, .ref p3, .ref p4, .ref p5])), (p5, .inl (K 0, 256, .inl (u_222.2.1 0))), (t0, .inr (9, [.ref t1, k_1, .ref t2, k_3, .int n, k_5, k_6, k_7, k_8, .int ho])), (t1, .inl (K 0, 56, .inl f1)), (t2, .inl (K 0, 6, .inl f2))]) [0, 1, 2, 3, 4] (by decide) rfl
          exact W.iret (v := v_289) hx hb hr (fun t ht hW => ⟨⟨v_289, ((fun _ => 0, fun i => match i with | _ => (u_222.2.1 0), fun _ => fun _ => 0, fun _ => 0, fun _ => 0, fun _ => fun _ => none) : Su), rfl, trivial, (⟨by rw [ht]; exact hP9, hD9⟩ : Wd D A _ t)⟩, hS.F ht⟩) hS.2.2 dX4_hillSet_61
      · have c_318i := i_nle (x := r_221.toInt) (y := v_288.toInt) rfl rfl c_318
        refine lv_aload_n hx hb dX4_hillSet_18 rfl (lv_at hl 3 rfl) ?_
        refine va_get (ci := 4) (v := .ref p5) (C := RX4) (T := TX4) (N := 5) hx hb hts hw4 hown hK hP 0 rfl rfl 4 (by decide) (hts (.fieldLink RX4 24 "SmokeTune$Paper" "setNotes" "[I") (List.mem_cons_of_mem _ (List.mem_append_left _ (List.mem_append_left _ (List.mem_of_getElem? (i := 0) rfl))))) (fun _ h9 => h9) rfl dX4_hillSet_19 ?_
        refine lv_iload hx hb dX4_hillSet_22 (lv_at hl 0 rfl) ?_
        refine va_iald hx hb hK hP 1 0 rfl rfl (i_in rfl (by omega)) dX4_hillSet_24 ?_
        refine lv_topi (fun x_320 ex_320 => ?_)
        refine lv_aload_n hx hb dX4_hillSet_25 rfl (lv_at hl 4 rfl) ?_
        refine va_getN (ci := 9) (v := .int ho) (C := RX9) (T := TX9) (N := 10) hx hb hts hw9 hown hK hP 2 rfl rfl 9 (by decide) (nst_use hN 117 rfl) (fun _ h9 => h9) rfl dX4_hillSet_26 ?_
        have j_326 : ∀ (v_324 : Int32) (H : Heap) (locs : List Loc) (hP : va_P D vwCl [(p0, .inr (4, [.ref p1, .ref p2, .ref p3, .ref p4, .ref p5])), (p5, .inl (K 0, 256, .inl (u_222.2.1 0))), (t0, .inr (9, [.ref t1, k_1, .ref t2, k_3, .int n, k_5, k_6, k_7, k_8, .int ho])), (t1, .inl (K 0, 56, .inl f1)), (t2, .inl (K 0, 6, .inl f2))] H) (hD : va_D A [(p0, .inr (4, [.ref p1, .ref p2, .ref p3, .ref p4, .ref p5])), (p5, .inl (K 0, 256, .inl (u_222.2.1 0))), (t0, .inr (9, [.ref t1, k_1, .ref t2, k_3, .int n, k_5, k_6, k_7, k_8, .int ho])), (t1, .inl (K 0, 56, .inl f1)), (t2, .inl (K 0, 6, .inl f2))]) (hS : va_S A s.heap H locs) (ls : Array Slot) (hl : lv_has ls 6 [(5, .int v_288), (4, .int v_324), (3, .int r_221), (0, .ref p0), (1, .ref t0), (2, .int x)]), W p l e ({ frames := 2, cells := 0, slots := 0, locals := 47 }) s m (([.ref p0, .ref t0, .int x] : List Value).toArray) below meth c H locs 0 0 Q (F0 m 44 ls []) := by
          intro v_324 H locs hP hD hS ls hl
          obtain ⟨x_327, ex_327⟩ : ∃ y : Int32, y = v_288 + Int32.ofInt 1 := ⟨_, rfl⟩
          have hx_327 : x_327.toInt = (v_288.toInt + 1) := by rw [ex_327]; exact i_add rfl (show (Int32.ofInt 1).toInt = 1 from rfl) (by omega)
          refine lv_iinc (v := x_327) (lv' := [(5, .int x_327), (4, .int v_324), (3, .int r_221), (0, .ref p0), (1, .ref t0), (2, .int x)]) hx hb dX4_hillSet_44 hl (k := 0) rfl (by rw [ex_327]) (by decide) rfl (fun ls hl => ?_)
          refine lv_goto (tgt := 12) hx hb dX4_hillSet_47 (by decide) ?_
          exact ih_317 x_327 v_324 (by rw [hx_327]; omega) (by omega) _ _ hP hD hS ls (lv_sub hl [0, 1, 2, 3, 4, 5] rfl)
        refine lv_icmp_ne (tgt := 44) hx hb dX4_hillSet_29 (by decide) (fun c_328 => ?_) (fun c_328 => ?_)
        · have c_328i := i_ne (x := x_320.toInt) (y := ho.toInt) rfl rfl c_328
          exact j_326 v_289  _ _ hP hD hS ls (lv_sub hl [0, 1, 2, 3, 4, 5] rfl)
        · have c_328i := i_eq (x := x_320.toInt) (y := ho.toInt) rfl rfl c_328
          refine lv_iload hx hb dX4_hillSet_32 (lv_at hl 1 rfl) ?_
          refine lv_iload_n hx hb dX4_hillSet_34 rfl (lv_at hl 5 rfl) ?_
          refine lv_icmp_ne (tgt := 41) hx hb dX4_hillSet_35 (by decide) (fun c_329 => ?_) (fun c_329 => ?_)
          · have c_329i := i_ne (x := v_289.toInt) (y := x.toInt) rfl rfl c_329
            obtain ⟨x_330, ex_330⟩ : ∃ y : Int32, y = v_289 + Int32.ofInt 1 := ⟨_, rfl⟩
            refine lv_iinc (v := x_330) (lv' := [(4, .int x_330), (5, .int v_288), (3, .int r_221), (0, .ref p0), (1, .ref t0), (2, .int x)]) hx hb dX4_hillSet_41 hl (k := 1) rfl (by rw [ex_330]) (by decide) rfl (fun ls hl => ?_)
            exact j_326 x_330  _ _ hP hD hS ls (lv_sub hl [1, 0, 2, 3, 4, 5] rfl)
          · have c_329i := i_eq (x := v_289.toInt) (y := x.toInt) rfl rfl c_329
            refine lv_iload hx hb dX4_hillSet_38 (lv_at hl 0 rfl) ?_
            rw [← hQ]
            have hP9 := hP.sub (ws' := [(p0, .inr (4, [.ref p1, .ref p2, .ref p3, .ref p4, .ref p5])), (p5, .inl (K 0, 256, .inl (u_222.2.1 0))), (t0, .inr (9, [.ref t1, k_1, .ref t2, k_3, .int n, k_5, k_6, k_7, k_8, .int ho])), (t1, .inl (K 0, 56, .inl f1)), (t2, .inl (K 0, 6, .inl f2))]) [0, 1, 2, 3, 4] rfl
            have hD9 := hD.sub (ws' := [(p0, .inr (4, [.ref p1, .ref p2, .ref p3, .ref p4, .ref p5])), (p5, .inl (K 0, 256, .inl (u_222.2.1 0))), (t0, .inr (9, [.ref t1, k_1, .ref t2, k_3, .int n, k_5, k_6, k_7, k_8, .int ho])), (t1, .inl (K 0, 56, .inl f1)), (t2, .inl (K 0, 6, .inl f2))]) [0, 1, 2, 3, 4] (by decide) rfl
            exact W.iret (v := v_288) hx hb hr (fun t ht hW => ⟨⟨v_288, ((fun _ => 0, fun i => match i with | _ => (u_222.2.1 0), fun _ => fun _ => 0, fun _ => 0, fun _ => 0, fun _ => fun _ => none) : Su), rfl, trivial, (⟨by rw [ht]; exact hP9, hD9⟩ : Wd D A _ t)⟩, hS.F ht⟩) hS.2.2 dX4_hillSet_40
  exact lp_316 ((257 - (0 : Int32).toInt : Int).toNat + 1) 0 0 (by decide) (Nat.lt_succ_self _) _ _ hP hD hS ls (lv_sub hl [0, 1, 2, 3, 4, 5] rfl)
set_option maxHeartbeats 4000000 in
set_option maxRecDepth 100000 in
theorem w_burningSets (l : Launch) (D : va_G) (K : Nat → ClassId) (p0 : Nat) (t0 : Nat) (x : Int32) (p1 : Nat) (p2 : Nat) (p3 : Nat) (p4 : Nat) (p5 : Nat) (fs : Nat → Int32) (t1 : Nat) (k_1 : Value) (t2 : Nat) (k_3 : Value) (n : Int32) (k_5 : Value) (k_6 : Value) (k_7 : Value) (k_8 : Value) (ho : Int32) (f1 : Nat → Int32) (f2 : Nat → Int32) (sz : Nat) (zn : 0 ≤ n.toInt ∧ n.toInt ≤ 8) : Met l yX4_burningSets wsX4_burningSets ({ frames := 0, cells := 0, slots := 0, locals := 0 }) (va_Pc [.ref p0, .ref t0, .int x] (Pre D K [(p0, .inr (4, [.ref p1, .ref p2, .ref p3, .ref p4, .ref p5])), (p5, .inl (K 0, 256, .inl fs)), (t0, .inr (9, [.ref t1, k_1, .ref t2, k_3, .int n, k_5, k_6, k_7, k_8, .int ho])), (t1, .inl (K 0, 56, .inl f1)), (t2, .inl (K 0, 6, .inl f2))] sz)) (vp_Si (fun r : Int32 => True)) 0 0 (fun _ => False) := by
  refine Met.ofW (cc := cX4_burningSets) (maxL := 5) (ret := (some .int)) (by decide) rfl ?_
  intro p e s m args below meth c s₁ B hml hv
  obtain ⟨rfl, hsz, hP, hK, hD0, hN⟩ := hv
  have hx := B.exec
  have hb := B.bytes
  have hr := B.returns
  have hts := atoms_spec (ws := wsX4_burningSets) B.pre
  have hown : s.vm.findClass RX4 = some m.cls := findClass_of_methodNamed B.named
  have hlocks := B.notSynchronized
  subst hsz
  have hD := hD0
  have hP : va_P D vwCl [(p0, .inr (4, [.ref p1, .ref p2, .ref p3, .ref p4, .ref p5])), (p5, .inl (K 0, 256, .inl fs)), (t0, .inr (9, [.ref t1, k_1, .ref t2, k_3, .int n, k_5, k_6, k_7, k_8, .int ho])), (t1, .inl (K 0, 56, .inl f1)), (t2, .inl (K 0, 6, .inl f2))] s.heap := hP
  have hl := lv_entry [.ref p0, .ref t0, .int x] (n := 5) (Nat.le_of_ble_eq_true rfl)
  rw [lg_entry_eq]
  generalize (lg_sl [.ref p0, .ref t0, .int x] ++ List.replicate (5 - (lg_sl [.ref p0, .ref t0, .int x]).length) Slot.unset).toArray = ls at hl ⊢
  have hl : lv_has ls 5 [(0, .ref p0), (1, .ref t0), (2, .int x)] := hl
  have hw4 : ∀ w ∈ wsX40, w ∈ wsX4_burningSets := fun w h => (List.mem_cons_of_mem _ (List.mem_append_right _ h))
  have hw9 : ∀ w ∈ wsX90, w ∈ wsX4_burningSets := fun w h => (List.mem_cons_of_mem _ (List.mem_append_left _ (List.mem_append_right _ h)))
  generalize hQ : MQ below _ _ s _ _ _ = Q
  refine lv_iconst (v := 0) hx hb dX4_burningSets_0 (by decide) ?_
  refine lv_istore_n (lv' := [(3, .int 0), (0, .ref p0), (1, .ref t0), (2, .int x)]) hx hb dX4_burningSets_1 rfl hl (by decide) rfl (fun ls hl => ?_)
  refine lv_iconst (v := 0) hx hb dX4_burningSets_2 (by decide) ?_
  refine lv_istore (lv' := [(4, .int 0), (3, .int 0), (0, .ref p0), (1, .ref t0), (2, .int x)]) hx hb dX4_burningSets_3 hl (by decide) rfl (fun ls hl => ?_)
  have lp_506 : ∀ (nn_ : Nat) (v_436 : Int32) (v_437 : Int32) (hv_436 : 0 ≤ v_436.toInt ∧ v_436.toInt ≤ 256) (hn : (257 - v_436.toInt : Int).toNat < nn_) (ls : Array Slot) (hl : lv_has ls 5 [(4, .int v_436), (3, .int v_437), (0, .ref p0), (1, .ref t0), (2, .int x)]), W p l e ({ frames := 0, cells := 0, slots := 0, locals := 0 }) s m (([.ref p0, .ref t0, .int x] : List Value).toArray) below meth c s.heap [] 0 0 Q (F0 m 5 ls []) := by
    intro nn_
    induction nn_ with
    | zero =>
      intro v_436 v_437 hv_436 hn ls hl
      exact absurd hn (Nat.not_lt_zero _)
    | succ nn_ ih_507 =>
      intro v_436 v_437 hv_436 hn ls hl
      refine lv_iload hx hb dX4_burningSets_5 (lv_at hl 0 rfl) ?_
      refine lv_iconst (v := 1) hx hb dX4_burningSets_7 (by decide) ?_
      refine lv_aload_n hx hb dX4_burningSets_8 rfl (lv_at hl 3 rfl) ?_
      refine va_getN (ci := 9) (v := .int n) (C := RX9) (T := TX9) (N := 10) hx hb hts hw9 hown hK hP 2 rfl rfl 4 (by decide) (nst_use hN 106 rfl) (fun _ h9 => h9) rfl dX4_burningSets_9 ?_
      refine lv_ishl hx hb dX4_burningSets_12 ?_
      refine lv_topi (fun x_508 ex_508 => ?_)
      have hx_508 : 1 ≤ x_508.toInt ∧ x_508.toInt ≤ 256 := by rw [ex_508]; exact i_shl1 rfl (n := 8) (by decide) (by omega)
      refine lv_icmp_ge (tgt := 59) hx hb dX4_burningSets_13 (by decide) (fun c_525 => ?_) (fun c_525 => ?_)
      · have c_525i := i_le (x := x_508.toInt) (y := v_436.toInt) rfl rfl c_525
        refine lv_iload_n hx hb dX4_burningSets_59 rfl (lv_at hl 1 rfl) ?_
        rw [← hQ]
        exact W.iret (v := v_437) hx hb hr (fun t ht hW => ⟨_, rfl, trivial, ht⟩) (fun q hq => by cases hq) dX4_burningSets_60
      · have c_525i := i_nle (x := x_508.toInt) (y := v_436.toInt) rfl rfl c_525
        refine lv_iload hx hb dX4_burningSets_16 (lv_at hl 0 rfl) ?_
        refine lv_aload_n hx hb dX4_burningSets_18 rfl (lv_at hl 2 rfl) ?_
        refine va_get (ci := 4) (v := .ref p5) (C := RX4) (T := TX4) (N := 5) hx hb hts hw4 hown hK hP 0 rfl rfl 4 (by decide) (hts (.fieldLink RX4 24 "SmokeTune$Paper" "setNotes" "[I") (List.mem_cons_of_mem _ (List.mem_append_left _ (List.mem_append_left _ (List.mem_of_getElem? (i := 0) rfl))))) (fun _ h9 => h9) rfl dX4_burningSets_19 ?_
        refine va_alen (v := 256) hx hb hK hP 1 0 rfl rfl rfl dX4_burningSets_22 ?_
        refine lv_icmp_ge (tgt := 59) hx hb dX4_burningSets_23 (by decide) (fun c_526 => ?_) (fun c_526 => ?_)
        · have c_526i := i_le (x := 256) (y := v_436.toInt) rfl rfl c_526
          exfalso; omega
        · have c_526i := i_nle (x := 256) (y := v_436.toInt) rfl rfl c_526
          refine lv_iload hx hb dX4_burningSets_26 (lv_at hl 0 rfl) ?_
          refine lv_iload_n hx hb dX4_burningSets_28 rfl (lv_at hl 4 rfl) ?_
          refine lv_ishr hx hb dX4_burningSets_29 ?_
          refine lv_topi (fun x_527 ex_527 => ?_)
          have hx_527 : 0 ≤ x_527.toInt ∧ x_527.toInt ≤ v_436.toInt := by rw [ex_527]; exact i_shr rfl (by omega)
          refine lv_iconst (v := 1) hx hb dX4_burningSets_30 (by decide) ?_
          refine lv_iand hx hb dX4_burningSets_31 ?_
          refine lv_topi (fun x_528 ex_528 => ?_)
          have hx_528 : 0 ≤ x_528.toInt ∧ x_528.toInt ≤ 1 := by rw [ex_528]; exact i_mask x_527 1 rfl (by decide)
          refine lv_iconst (v := 1) hx hb dX4_burningSets_32 (by decide) ?_
          have j_535 : ∀ (v_533 : Int32) (ls : Array Slot) (hl : lv_has ls 5 [(4, .int v_436), (3, .int v_533), (0, .ref p0), (1, .ref t0), (2, .int x)]), W p l e ({ frames := 0, cells := 0, slots := 0, locals := 0 }) s m (([.ref p0, .ref t0, .int x] : List Value).toArray) below meth c s.heap [] 0 0 Q (F0 m 53 ls []) := by
            intro v_533 ls hl
            obtain ⟨x_536, ex_536⟩ : ∃ y : Int32, y = v_436 + Int32.ofInt 1 := ⟨_, rfl⟩
            have hx_536 : x_536.toInt = (v_436.toInt + 1) := by rw [ex_536]; exact i_add rfl (show (Int32.ofInt 1).toInt = 1 from rfl) (by omega)
            refine lv_iinc (v := x_536) (lv' := [(4, .int x_536), (3, .int v_533), (0, .ref p0), (1, .ref t0), (2, .int x)]) hx hb dX4_burningSets_53 hl (k := 0) rfl (by rw [ex_536]) (by decide) rfl (fun ls hl => ?_)
            refine lv_goto (tgt := 5) hx hb dX4_burningSets_56 (by decide) ?_
            exact ih_507 x_536 v_533 (by rw [hx_536]; omega) (by omega) ls (lv_sub hl [0, 1, 2, 3, 4] rfl)
          refine lv_icmp_ne (tgt := 53) hx hb dX4_burningSets_33 (by decide) (fun c_537 => ?_) (fun c_537 => ?_)
          · have c_537i := i_ne (x := x_528.toInt) (y := 1) rfl rfl c_537
            exact j_535 v_437  ls (lv_sub hl [0, 1, 2, 3, 4] rfl)
          · have c_537i := i_eq (x := x_528.toInt) (y := 1) rfl rfl c_537
            refine lv_aload_n hx hb dX4_burningSets_36 rfl (lv_at hl 2 rfl) ?_
            refine va_get (ci := 4) (v := .ref p5) (C := RX4) (T := TX4) (N := 5) hx hb hts hw4 hown hK hP 0 rfl rfl 4 (by decide) (hts (.fieldLink RX4 24 "SmokeTune$Paper" "setNotes" "[I") (List.mem_cons_of_mem _ (List.mem_append_left _ (List.mem_append_left _ (List.mem_of_getElem? (i := 0) rfl))))) (fun _ h9 => h9) rfl dX4_burningSets_37 ?_
            refine lv_iload hx hb dX4_burningSets_40 (lv_at hl 0 rfl) ?_
            refine va_iald hx hb hK hP 1 0 rfl rfl (i_in rfl (by omega)) dX4_burningSets_42 ?_
            refine lv_topi (fun x_538 ex_538 => ?_)
            refine lv_aload_n hx hb dX4_burningSets_43 rfl (lv_at hl 3 rfl) ?_
            refine va_getN (ci := 9) (v := .int ho) (C := RX9) (T := TX9) (N := 10) hx hb hts hw9 hown hK hP 2 rfl rfl 9 (by decide) (nst_use hN 117 rfl) (fun _ h9 => h9) rfl dX4_burningSets_44 ?_
            refine lv_icmp_ne (tgt := 53) hx hb dX4_burningSets_47 (by decide) (fun c_539 => ?_) (fun c_539 => ?_)
            · have c_539i := i_ne (x := x_538.toInt) (y := ho.toInt) rfl rfl c_539
              exact j_535 v_437  ls (lv_sub hl [0, 1, 2, 3, 4] rfl)
            · have c_539i := i_eq (x := x_538.toInt) (y := ho.toInt) rfl rfl c_539
              obtain ⟨x_540, ex_540⟩ : ∃ y : Int32, y = v_437 + Int32.ofInt 1 := ⟨_, rfl⟩
              refine lv_iinc (v := x_540) (lv' := [(3, .int x_540), (4, .int v_436), (0, .ref p0), (1, .ref t0), (2, .int x)]) hx hb dX4_burningSets_50 hl (k := 1) rfl (by rw [ex_540]) (by decide) rfl (fun ls hl => ?_)
              exact j_535 x_540  ls (lv_sub hl [1, 0, 2, 3, 4] rfl)
  exact lp_506 ((257 - (0 : Int32).toInt : Int).toNat + 1) 0 0 (by decide) (Nat.lt_succ_self _) ls (lv_sub hl [0, 1, 2, 3, 4] rfl)
set_option maxHeartbeats 4000000 in
set_option maxRecDepth 100000 in
theorem w_question (l : Launch) (D : va_G) (K : Nat → ClassId) (p0 : Nat) (t0 : Nat) (x : Int32) (p1 : Nat) (p2 : Nat) (p3 : Nat) (p4 : Nat) (p5 : Nat) (fs : Nat → Int32) (t1 : Nat) (k_1 : Value) (t2 : Nat) (k_3 : Value) (n : Int32) (k_5 : Value) (k_6 : Value) (k_7 : Value) (k_8 : Value) (ho : Int32) (f1 : Nat → Int32) (f2 : Nat → Int32) (sz : Nat) (zn : 0 ≤ n.toInt ∧ n.toInt ≤ 8) : Met l yX4_question wsX4_question ({ frames := 3, cells := 0, slots := 0, locals := 72 }) (va_Pc [.ref p0, .ref t0, .int x] (Pre D K [(p0, .inr (4, [.ref p1, .ref p2, .ref p3, .ref p4, .ref p5])), (p5, .inl (K 0, 256, .inl fs)), (t0, .inr (9, [.ref t1, k_1, .ref t2, k_3, .int n, k_5, k_6, k_7, k_8, .int ho])), (t1, .inl (K 0, 56, .inl f1)), (t2, .inl (K 0, 6, .inl f2))] sz)) (va_Qi (S := Su) (fun (r : Int32) (u : Su) => True) (fun u t => Wd D (va_A [(p0, .inr (4, [.ref p1, .ref p2, .ref p3, .ref p4, .ref p5])), (p5, .inl (K 0, 256, .inl fs)), (t0, .inr (9, [.ref t1, k_1, .ref t2, k_3, .int n, k_5, k_6, k_7, k_8, .int ho])), (t1, .inl (K 0, 56, .inl f1)), (t2, .inl (K 0, 6, .inl f2))] sz) ((fun u => [(p0, .inr (4, [.ref p1, .ref p2, .ref p3, .ref p4, .ref p5])), (p5, .inl (K 0, 256, .inl (u.2.1 0))), (t0, .inr (9, [.ref t1, k_1, .ref t2, k_3, .int n, k_5, k_6, k_7, k_8, .int ho])), (t1, .inl (K 0, 56, .inl f1)), (t2, .inl (K 0, 6, .inl f2))]) u) t) (va_A [(p0, .inr (4, [.ref p1, .ref p2, .ref p3, .ref p4, .ref p5])), (p5, .inl (K 0, 256, .inl fs)), (t0, .inr (9, [.ref t1, k_1, .ref t2, k_3, .int n, k_5, k_6, k_7, k_8, .int ho])), (t1, .inl (K 0, 56, .inl f1)), (t2, .inl (K 0, 6, .inl f2))] sz)) 0 0 (va_A [(p0, .inr (4, [.ref p1, .ref p2, .ref p3, .ref p4, .ref p5])), (p5, .inl (K 0, 256, .inl fs)), (t0, .inr (9, [.ref t1, k_1, .ref t2, k_3, .int n, k_5, k_6, k_7, k_8, .int ho])), (t1, .inl (K 0, 56, .inl f1)), (t2, .inl (K 0, 6, .inl f2))] sz) := by
  refine Met.ofW (cc := cX4_question) (maxL := 9) (ret := (some .int)) (by decide) rfl ?_
  intro p e s m args below meth c s₁ B hml hv
  obtain ⟨rfl, hsz, hP, hK, hD0, hN⟩ := hv
  have hx := B.exec
  have hb := B.bytes
  have hr := B.returns
  have hts := atoms_spec (ws := wsX4_question) B.pre
  have hown : s.vm.findClass RX4 = some m.cls := findClass_of_methodNamed B.named
  have hlocks := B.notSynchronized
  subst hsz
  have hD := hD0.self (sz := s.heap.size)
  generalize hAe : va_A [(p0, .inr (4, [.ref p1, .ref p2, .ref p3, .ref p4, .ref p5])), (p5, .inl (K 0, 256, .inl fs)), (t0, .inr (9, [.ref t1, k_1, .ref t2, k_3, .int n, k_5, k_6, k_7, k_8, .int ho])), (t1, .inl (K 0, 56, .inl f1)), (t2, .inl (K 0, 6, .inl f2))] s.heap.size = A at hD ⊢
  have hA : ∀ q : Nat, s.heap.size ≤ q → A q := fun q h => by rw [← hAe]; exact Or.inr h
  have hS : va_S A s.heap s.heap [] := va_S.rf
  have hP : va_P D vwCl [(p0, .inr (4, [.ref p1, .ref p2, .ref p3, .ref p4, .ref p5])), (p5, .inl (K 0, 256, .inl fs)), (t0, .inr (9, [.ref t1, k_1, .ref t2, k_3, .int n, k_5, k_6, k_7, k_8, .int ho])), (t1, .inl (K 0, 56, .inl f1)), (t2, .inl (K 0, 6, .inl f2))] s.heap := hP
  have hl := lv_entry [.ref p0, .ref t0, .int x] (n := 9) (Nat.le_of_ble_eq_true rfl)
  rw [lg_entry_eq]
  generalize (lg_sl [.ref p0, .ref t0, .int x] ++ List.replicate (9 - (lg_sl [.ref p0, .ref t0, .int x]).length) Slot.unset).toArray = ls at hl ⊢
  have hl : lv_has ls 9 [(0, .ref p0), (1, .ref t0), (2, .int x)] := hl
  have hw4 : ∀ w ∈ wsX40, w ∈ wsX4_question := fun w h => (List.mem_cons_of_mem _ (List.mem_append_right _ h))
  have hw9 : ∀ w ∈ wsX90, w ∈ wsX4_question := fun w h => (List.mem_cons_of_mem _ (List.mem_append_left _ (List.mem_append_right _ h)))
  generalize hQ : MQ below _ _ s _ _ _ = Q
  refine lv_aload_n hx hb dX4_question_0 rfl (lv_at hl 0 rfl) ?_
  refine lv_aload_n hx hb dX4_question_1 rfl (lv_at hl 1 rfl) ?_
  refine lv_iconst (v := (-1)) hx hb dX4_question_2 (by decide) ?_
  refine kci (S := Su) (wr := []) (va_runV (As := [.ref t0, .int (-1)]) (rest := []) ⟨hx, hb, hml, hown, hts⟩ (w_hillSet l D K p0 t0 (-1) p1 p2 p3 p4 p5 fs t1 k_1 t2 k_3 n k_5 k_6 k_7 k_8 ho f1 f2 s.heap.size (by first | omega | decide)) (cwV 2 hts gX4_question_X4_hillSet rfl rfl rfl (by decide +kernel) ⟨Nat.le_of_ble_eq_true rfl, Nat.le_of_ble_eq_true rfl⟩) (mkV hK hN (hP.sub [0, 1, 2, 3, 4] rfl) (hD.sub [0, 1, 2, 3, 4] (by decide) rfl) (ci := 4) (q0 := 0) rfl rfl) rfl rfl hl.1 rfl (lv_room (Nat.le_of_ble_eq_true rfl)) dX4_question_3 ⟨Nat.le_of_ble_eq_true rfl, Nat.le_of_ble_eq_true rfl⟩) hP hD hS hA [0, 1, 2, 3, 4] [] rfl rfl (by decide) (by decide) (fun r_403 u_404 H locs hw hP hD hS => ?_)
  have hP : va_P D vwCl [(p0, .inr (4, [.ref p1, .ref p2, .ref p3, .ref p4, .ref p5])), (p5, .inl (K 0, 256, .inl (u_404.2.1 0))), (t0, .inr (9, [.ref t1, k_1, .ref t2, k_3, .int n, k_5, k_6, k_7, k_8, .int ho])), (t1, .inl (K 0, 56, .inl f1)), (t2, .inl (K 0, 6, .inl f2))] H := hP
  have hD : va_D A [(p0, .inr (4, [.ref p1, .ref p2, .ref p3, .ref p4, .ref p5])), (p5, .inl (K 0, 256, .inl (u_404.2.1 0))), (t0, .inr (9, [.ref t1, k_1, .ref t2, k_3, .int n, k_5, k_6, k_7, k_8, .int ho])), (t1, .inl (K 0, 56, .inl f1)), (t2, .inl (K 0, 6, .inl f2))] := hD
  refine lv_istore_n (lv' := [(3, .int r_403), (0, .ref p0), (1, .ref t0), (2, .int x)]) hx hb dX4_question_6 rfl hl (by decide) rfl (fun ls hl => ?_)
  refine lv_iconst (v := (-1)) hx hb dX4_question_7 (by decide) ?_
  refine lv_istore (lv' := [(4, .int (-1)), (3, .int r_403), (0, .ref p0), (1, .ref t0), (2, .int x)]) hx hb dX4_question_8 hl (by decide) rfl (fun ls hl => ?_)
  refine lv_iload_n hx hb dX4_question_10 rfl (lv_at hl 1 rfl) ?_
  refine lv_iconst (v := 1) hx hb dX4_question_11 (by decide) ?_
  refine lv_iadd hx hb dX4_question_12 ?_
  refine lv_topi (fun x_405 ex_405 => ?_)
  refine lv_istore (lv' := [(5, .int x_405), (4, .int (-1)), (3, .int r_403), (0, .ref p0), (1, .ref t0), (2, .int x)]) hx hb dX4_question_13 hl (by decide) rfl (fun ls hl => ?_)
  refine lv_iconst (v := 0) hx hb dX4_question_15 (by decide) ?_
  refine lv_istore (lv' := [(6, .int 0), (5, .int x_405), (4, .int (-1)), (3, .int r_403), (0, .ref p0), (1, .ref t0), (2, .int x)]) hx hb dX4_question_16 hl (by decide) rfl (fun ls hl => ?_)
  have lp_567 : ∀ (nn_ : Nat) (v_511 : Int32) (v_512 : Int32) (v_513 : Int32) (hv_511 : 0 ≤ v_511.toInt ∧ v_511.toInt ≤ 8) (hv_513 : (-1) ≤ v_513.toInt) (hn : (9 - v_511.toInt : Int).toNat < nn_) (H : Heap) (locs : List Loc) (hP : va_P D vwCl [(p0, .inr (4, [.ref p1, .ref p2, .ref p3, .ref p4, .ref p5])), (p5, .inl (K 0, 256, .inl (u_404.2.1 0))), (t0, .inr (9, [.ref t1, k_1, .ref t2, k_3, .int n, k_5, k_6, k_7, k_8, .int ho])), (t1, .inl (K 0, 56, .inl f1)), (t2, .inl (K 0, 6, .inl f2))] H) (hD : va_D A [(p0, .inr (4, [.ref p1, .ref p2, .ref p3, .ref p4, .ref p5])), (p5, .inl (K 0, 256, .inl (u_404.2.1 0))), (t0, .inr (9, [.ref t1, k_1, .ref t2, k_3, .int n, k_5, k_6, k_7, k_8, .int ho])), (t1, .inl (K 0, 56, .inl f1)), (t2, .inl (K 0, 6, .inl f2))]) (hS : va_S A s.heap H locs) (ls : Array Slot) (hl : lv_has ls 9 [(6, .int v_511), (5, .int v_512), (4, .int v_513), (3, .int r_403), (0, .ref p0), (1, .ref t0), (2, .int x)]), W p l e ({ frames := 3, cells := 0, slots := 0, locals := 72 }) s m (([.ref p0, .ref t0, .int x] : List Value).toArray) below meth c H locs 0 0 Q (F0 m 18 ls []) := by
    intro nn_
    induction nn_ with
    | zero =>
      intro v_511 v_512 v_513 hv_511 hv_513 hn H locs hP hD hS ls hl
      exact absurd hn (Nat.not_lt_zero _)
    | succ nn_ ih_568 =>
      intro v_511 v_512 v_513 hv_511 hv_513 hn H locs hP hD hS ls hl
      refine lv_iload hx hb dX4_question_18 (lv_at hl 0 rfl) ?_
      refine lv_aload_n hx hb dX4_question_20 rfl (lv_at hl 5 rfl) ?_
      refine va_getN (ci := 9) (v := .int n) (C := RX9) (T := TX9) (N := 10) hx hb hts hw9 hown hK hP 2 rfl rfl 4 (by decide) (nst_use hN 106 rfl) (fun _ h9 => h9) rfl dX4_question_21 ?_
      have j_586 : ∀ (H : Heap) (locs : List Loc) (hP : va_P D vwCl [(p0, .inr (4, [.ref p1, .ref p2, .ref p3, .ref p4, .ref p5])), (p5, .inl (K 0, 256, .inl (u_404.2.1 0))), (t0, .inr (9, [.ref t1, k_1, .ref t2, k_3, .int n, k_5, k_6, k_7, k_8, .int ho])), (t1, .inl (K 0, 56, .inl f1)), (t2, .inl (K 0, 6, .inl f2))] H) (hD : va_D A [(p0, .inr (4, [.ref p1, .ref p2, .ref p3, .ref p4, .ref p5])), (p5, .inl (K 0, 256, .inl (u_404.2.1 0))), (t0, .inr (9, [.ref t1, k_1, .ref t2, k_3, .int n, k_5, k_6, k_7, k_8, .int ho])), (t1, .inl (K 0, 56, .inl f1)), (t2, .inl (K 0, 6, .inl f2))]) (hS : va_S A s.heap H locs) (ls : Array Slot) (hl : lv_has ls 9 [(5, .int v_512), (4, .int v_513), (2, .int x)]), W p l e ({ frames := 3, cells := 0, slots := 0, locals := 72 }) s m (([.ref p0, .ref t0, .int x] : List Value).toArray) below meth c H locs 0 0 Q (F0 m 72 ls []) := by
        intro H locs hP hD hS ls hl
        refine lv_iload hx hb dX4_question_72 (lv_at hl 1 rfl) ?_
        refine lv_iconst (v := (-1)) hx hb dX4_question_74 (by decide) ?_
        have j_589 : ∀ (H : Heap) (locs : List Loc) (hP : va_P D vwCl [(p0, .inr (4, [.ref p1, .ref p2, .ref p3, .ref p4, .ref p5])), (p5, .inl (K 0, 256, .inl (u_404.2.1 0))), (t0, .inr (9, [.ref t1, k_1, .ref t2, k_3, .int n, k_5, k_6, k_7, k_8, .int ho])), (t1, .inl (K 0, 56, .inl f1)), (t2, .inl (K 0, 6, .inl f2))] H) (hD : va_D A [(p0, .inr (4, [.ref p1, .ref p2, .ref p3, .ref p4, .ref p5])), (p5, .inl (K 0, 256, .inl (u_404.2.1 0))), (t0, .inr (9, [.ref t1, k_1, .ref t2, k_3, .int n, k_5, k_6, k_7, k_8, .int ho])), (t1, .inl (K 0, 56, .inl f1)), (t2, .inl (K 0, 6, .inl f2))]) (hS : va_S A s.heap H locs) (ls : Array Slot) (hl : lv_has ls 9 [(4, .int v_513)]), W p l e ({ frames := 3, cells := 0, slots := 0, locals := 72 }) s m (([.ref p0, .ref t0, .int x] : List Value).toArray) below meth c H locs 0 0 Q (F0 m 82 ls []) := by
          intro H locs hP hD hS ls hl
          refine lv_iload hx hb dX4_question_82 (lv_at hl 0 rfl) ?_
          refine lv_goto (tgt := 89) hx hb dX4_question_84 (by decide) ?_
          rw [← hQ]
          have hP9 := hP.sub (ws' := [(p0, .inr (4, [.ref p1, .ref p2, .ref p3, .ref p4, .ref p5])), (p5, .inl (K 0, 256, .inl (u_404.2.1 0))), (t0, .inr (9, [.ref t1, k_1, .ref t2, k_3, .int n, k_5, k_6, k_7, k_8, .int ho])), (t1, .inl (K 0, 56, .inl f1)), (t2, .inl (K 0, 6, .inl f2))]) [0, 1, 2, 3, 4] rfl
          have hD9 := hD.sub (ws' := [(p0, .inr (4, [.ref p1, .ref p2, .ref p3, .ref p4, .ref p5])), (p5, .inl (K 0, 256, .inl (u_404.2.1 0))), (t0, .inr (9, [.ref t1, k_1, .ref t2, k_3, .int n, k_5, k_6, k_7, k_8, .int ho])), (t1, .inl (K 0, 56, .inl f1)), (t2, .inl (K 0, 6, .inl f2))]) [0, 1, 2, 3, 4] (by decide) rfl
          exact W.iret (v := v_513) hx hb hr (fun t ht hW => ⟨⟨v_513, ((fun _ => 0, fun i => match i with | _ => (u_404.2.1 0), fun _ => fun _ => 0, fun _ => 0, fun _ => 0, fun _ => fun _ => none) : Su), rfl, trivial, (⟨by rw [ht]; exact hP9, hD9⟩ : Wd D A _ t)⟩, hS.F ht⟩) hS.2.2 dX4_question_89
        refine lv_icmp_eq (tgt := 82) hx hb dX4_question_75 (by decide) (fun c_590 => ?_) (fun c_590 => ?_)
        · have c_590i := i_eq (x := v_513.toInt) (y := (-1)) rfl rfl c_590
          exact j_589   _ _ hP hD hS ls (lv_sub hl [1] rfl)
        · have c_590i := i_ne (x := v_513.toInt) (y := (-1)) rfl rfl c_590
          refine lv_iload_n hx hb dX4_question_78 rfl (lv_at hl 2 rfl) ?_
          refine lv_if_ne (tgt := 87) hx hb dX4_question_79 (by decide) (fun c_591 => ?_) (fun c_591 => ?_)
          · have c_591i := i_ne (x := x.toInt) (y := 0) rfl rfl c_591
            refine lv_iload hx hb dX4_question_87 (lv_at hl 0 rfl) ?_
            rw [← hQ]
            have hP9 := hP.sub (ws' := [(p0, .inr (4, [.ref p1, .ref p2, .ref p3, .ref p4, .ref p5])), (p5, .inl (K 0, 256, .inl (u_404.2.1 0))), (t0, .inr (9, [.ref t1, k_1, .ref t2, k_3, .int n, k_5, k_6, k_7, k_8, .int ho])), (t1, .inl (K 0, 56, .inl f1)), (t2, .inl (K 0, 6, .inl f2))]) [0, 1, 2, 3, 4] rfl
            have hD9 := hD.sub (ws' := [(p0, .inr (4, [.ref p1, .ref p2, .ref p3, .ref p4, .ref p5])), (p5, .inl (K 0, 256, .inl (u_404.2.1 0))), (t0, .inr (9, [.ref t1, k_1, .ref t2, k_3, .int n, k_5, k_6, k_7, k_8, .int ho])), (t1, .inl (K 0, 56, .inl f1)), (t2, .inl (K 0, 6, .inl f2))]) [0, 1, 2, 3, 4] (by decide) rfl
            exact W.iret (v := v_512) hx hb hr (fun t ht hW => ⟨⟨v_512, ((fun _ => 0, fun i => match i with | _ => (u_404.2.1 0), fun _ => fun _ => 0, fun _ => 0, fun _ => 0, fun _ => fun _ => none) : Su), rfl, trivial, (⟨by rw [ht]; exact hP9, hD9⟩ : Wd D A _ t)⟩, hS.F ht⟩) hS.2.2 dX4_question_89
          · have c_591i := i_eq (x := x.toInt) (y := 0) rfl rfl c_591
            exact j_589   _ _ hP hD hS ls (lv_sub hl [1] rfl)
      refine lv_icmp_ge (tgt := 72) hx hb dX4_question_24 (by decide) (fun c_592 => ?_) (fun c_592 => ?_)
      · have c_592i := i_le (x := n.toInt) (y := v_511.toInt) rfl rfl c_592
        exact j_586   _ _ hP hD hS ls (lv_sub hl [1, 2, 6] rfl)
      · have c_592i := i_nle (x := n.toInt) (y := v_511.toInt) rfl rfl c_592
        refine lv_iload_n hx hb dX4_question_27 rfl (lv_at hl 3 rfl) ?_
        refine lv_if_le (tgt := 72) hx hb dX4_question_28 (by decide) (fun c_593 => ?_) (fun c_593 => ?_)
        · have c_593i := i_le (x := r_403.toInt) (y := 0) rfl rfl c_593
          exact j_586   _ _ hP hD hS ls (lv_sub hl [1, 2, 6] rfl)
        · have c_593i := i_nle (x := r_403.toInt) (y := 0) rfl rfl c_593
          refine lv_aload_n hx hb dX4_question_31 rfl (lv_at hl 4 rfl) ?_
          refine lv_aload_n hx hb dX4_question_32 rfl (lv_at hl 5 rfl) ?_
          refine lv_iload hx hb dX4_question_33 (lv_at hl 0 rfl) ?_
          refine pci (va_runV (As := [.ref t0, .int v_511]) (rest := []) ⟨hx, hb, hml, hown, hts⟩ (w_burningSets l D K p0 t0 v_511 p1 p2 p3 p4 p5 (u_404.2.1 0) t1 k_1 t2 k_3 n k_5 k_6 k_7 k_8 ho f1 f2 H.size (by first | omega | decide)) (cwV 2 hts gX4_question_X4_burningSets rfl rfl rfl (by decide +kernel) ⟨Nat.le_of_ble_eq_true rfl, Nat.le_of_ble_eq_true rfl⟩) (mkV hK hN (hP.sub [0, 1, 2, 3, 4] rfl) (hD.sub [0, 1, 2, 3, 4] (by decide) rfl) (ci := 4) (q0 := 0) rfl rfl) rfl rfl hl.1 rfl (lv_room (Nat.le_of_ble_eq_true rfl)) dX4_question_35 ⟨Nat.le_of_ble_eq_true rfl, Nat.le_of_ble_eq_true rfl⟩) (fun r_594 hw => ?_)
          refine lv_istore (lv' := [(7, .int r_594), (6, .int v_511), (5, .int v_512), (4, .int v_513), (3, .int r_403), (0, .ref p0), (1, .ref t0), (2, .int x)]) hx hb dX4_question_38 hl (by decide) rfl (fun ls hl => ?_)
          refine lv_iload hx hb dX4_question_40 (lv_at hl 0 rfl) ?_
          refine lv_iload_n hx hb dX4_question_42 rfl (lv_at hl 4 rfl) ?_
          refine lv_iload hx hb dX4_question_43 (lv_at hl 0 rfl) ?_
          refine lv_isub hx hb dX4_question_45 ?_
          refine lv_topi (fun x_595 ex_595 => ?_)
          refine va_mmax hx hb (hml.trans hl.1.symm) hown (hts (.methodLink RX4 90 Lib.Math.max.name) (List.mem_cons_of_mem _ (List.mem_append_left _ (List.mem_append_left _ (List.mem_of_getElem? (i := 0) rfl))))) (hts (.static Lib.Math.max.name) (List.mem_cons_of_mem _ (List.mem_append_left _ (List.mem_append_left _ (List.mem_of_getElem? (i := 1) rfl))))) (hts (.initialized "java/lang/Math") (List.mem_cons_of_mem _ (List.mem_append_left _ (List.mem_append_left _ (List.mem_of_getElem? (i := 2) rfl))))) (hts (.code Lib.Math.max.name Lib.Math.max.code 2 (some .int)) (List.mem_cons_of_mem _ (List.mem_append_left _ (List.mem_append_left _ (List.mem_of_getElem? (i := 3) rfl))))) (Nat.le_of_ble_eq_true rfl) (Nat.le_of_ble_eq_true rfl) (Nat.le_of_ble_eq_true rfl) (Nat.le_of_ble_eq_true rfl) dX4_question_46 ?_
          refine lv_topi (fun x_596 ex_596 => ?_)
          have hx_596 : (x_595.toInt ≤ r_594.toInt ∧ x_596.toInt = r_594.toInt) ∨ (r_594.toInt < x_595.toInt ∧ x_596.toInt = x_595.toInt) := by rw [ex_596]; exact i_max rfl rfl
          replace hx_596 : r_594.toInt ≤ x_596.toInt ∧ x_595.toInt ≤ x_596.toInt := by omega
          refine lv_istore (lv' := [(8, .int x_596), (7, .int r_594), (6, .int v_511), (5, .int v_512), (4, .int v_513), (3, .int r_403), (0, .ref p0), (1, .ref t0), (2, .int x)]) hx hb dX4_question_49 hl (by decide) rfl (fun ls hl => ?_)
          refine lv_iload hx hb dX4_question_51 (lv_at hl 0 rfl) ?_
          refine lv_iload hx hb dX4_question_53 (lv_at hl 3 rfl) ?_
          have j_601 : ∀ (v_598 : Int32) (v_599 : Int32) (hv_599 : (-1) ≤ v_599.toInt) (H : Heap) (locs : List Loc) (hP : va_P D vwCl [(p0, .inr (4, [.ref p1, .ref p2, .ref p3, .ref p4, .ref p5])), (p5, .inl (K 0, 256, .inl (u_404.2.1 0))), (t0, .inr (9, [.ref t1, k_1, .ref t2, k_3, .int n, k_5, k_6, k_7, k_8, .int ho])), (t1, .inl (K 0, 56, .inl f1)), (t2, .inl (K 0, 6, .inl f2))] H) (hD : va_D A [(p0, .inr (4, [.ref p1, .ref p2, .ref p3, .ref p4, .ref p5])), (p5, .inl (K 0, 256, .inl (u_404.2.1 0))), (t0, .inr (9, [.ref t1, k_1, .ref t2, k_3, .int n, k_5, k_6, k_7, k_8, .int ho])), (t1, .inl (K 0, 56, .inl f1)), (t2, .inl (K 0, 6, .inl f2))]) (hS : va_S A s.heap H locs) (ls : Array Slot) (hl : lv_has ls 9 [(6, .int v_511), (5, .int v_598), (4, .int v_599), (3, .int r_403), (0, .ref p0), (1, .ref t0), (2, .int x)]), W p l e ({ frames := 3, cells := 0, slots := 0, locals := 72 }) s m (([.ref p0, .ref t0, .int x] : List Value).toArray) below meth c H locs 0 0 Q (F0 m 66 ls []) := by
            intro v_598 v_599 hv_599 H locs hP hD hS ls hl
            obtain ⟨x_602, ex_602⟩ : ∃ y : Int32, y = v_511 + Int32.ofInt 1 := ⟨_, rfl⟩
            have hx_602 : x_602.toInt = (v_511.toInt + 1) := by rw [ex_602]; exact i_add rfl (show (Int32.ofInt 1).toInt = 1 from rfl) (by omega)
            refine lv_iinc (v := x_602) (lv' := [(6, .int x_602), (5, .int v_598), (4, .int v_599), (3, .int r_403), (0, .ref p0), (1, .ref t0), (2, .int x)]) hx hb dX4_question_66 hl (k := 0) rfl (by rw [ex_602]) (by decide) rfl (fun ls hl => ?_)
            refine lv_goto (tgt := 18) hx hb dX4_question_69 (by decide) ?_
            exact ih_568 x_602 v_598 v_599 (by rw [hx_602]; omega) (by omega) (by omega) _ _ hP hD hS ls (lv_sub hl [0, 1, 2, 3, 4, 5, 6] rfl)
          refine lv_icmp_ge (tgt := 66) hx hb dX4_question_55 (by decide) (fun c_603 => ?_) (fun c_603 => ?_)
          · have c_603i := i_le (x := v_512.toInt) (y := x_596.toInt) rfl rfl c_603
            exact j_601 v_512 v_513 (by omega) _ _ hP hD hS ls (lv_sub hl [2, 3, 4, 5, 6, 7, 8] rfl)
          · have c_603i := i_nle (x := v_512.toInt) (y := x_596.toInt) rfl rfl c_603
            refine lv_iload hx hb dX4_question_58 (lv_at hl 0 rfl) ?_
            refine lv_istore (lv' := [(5, .int x_596), (8, .int x_596), (7, .int r_594), (6, .int v_511), (4, .int v_513), (3, .int r_403), (0, .ref p0), (1, .ref t0), (2, .int x)]) hx hb dX4_question_60 hl (by decide) rfl (fun ls hl => ?_)
            refine lv_iload hx hb dX4_question_62 (lv_at hl 3 rfl) ?_
            refine lv_istore (lv' := [(4, .int v_511), (5, .int x_596), (8, .int x_596), (7, .int r_594), (6, .int v_511), (3, .int r_403), (0, .ref p0), (1, .ref t0), (2, .int x)]) hx hb dX4_question_64 hl (by decide) rfl (fun ls hl => ?_)
            exact j_601 x_596 v_511 (by omega) _ _ hP hD hS ls (lv_sub hl [4, 1, 0, 5, 6, 7, 8] rfl)
  exact lp_567 ((9 - (0 : Int32).toInt : Int).toNat + 1) 0 x_405 (-1) (by decide) (by decide) (Nat.lt_succ_self _) _ _ hP hD hS ls (lv_sub hl [0, 1, 2, 3, 4, 5, 6] rfl)
set_option maxHeartbeats 4000000 in
set_option maxRecDepth 100000 in
theorem w_muted (l : Launch) (D : va_G) (K : Nat → ClassId) (t0 : Nat) (x : Int32) (y : Int64) (t1 : Nat) (k_1 : Value) (t2 : Nat) (k_3 : Value) (n : Int32) (k_5 : Value) (k_6 : Value) (k_7 : Value) (k_8 : Value) (ho : Int32) (f1 : Nat → Int32) (f2 : Nat → Int32) (sz : Nat) (zn : 0 ≤ n.toInt ∧ n.toInt ≤ 8) : Met l yX4_muted wsX4_muted ({ frames := 2, cells := 0, slots := 0, locals := 44 }) (va_Pc [.ref t0, .int x, .long y] (Pre D K [(t0, .inr (9, [.ref t1, k_1, .ref t2, k_3, .int n, k_5, k_6, k_7, k_8, .int ho])), (t1, .inl (K 0, 56, .inl f1)), (t2, .inl (K 0, 6, .inl f2))] sz)) (vp_Sl (fun r : Int64 => True)) 0 0 (fun _ => False) := by
  refine Met.ofW (cc := cX4_muted) (maxL := 7) (ret := (some .long)) (by decide) rfl ?_
  intro p e s m args below meth c s₁ B hml hv
  obtain ⟨rfl, hsz, hP, hK, hD0, hN⟩ := hv
  have hx := B.exec
  have hb := B.bytes
  have hr := B.returns
  have hts := atoms_spec (ws := wsX4_muted) B.pre
  have hown : s.vm.findClass RX4 = some m.cls := findClass_of_methodNamed B.named
  have hlocks := B.notSynchronized
  subst hsz
  have hD := hD0
  have hP : va_P D vwCl [(t0, .inr (9, [.ref t1, k_1, .ref t2, k_3, .int n, k_5, k_6, k_7, k_8, .int ho])), (t1, .inl (K 0, 56, .inl f1)), (t2, .inl (K 0, 6, .inl f2))] s.heap := hP
  have hl := lv_entry [.ref t0, .int x, .long y] (n := 7) (Nat.le_of_ble_eq_true rfl)
  rw [lg_entry_eq]
  generalize (lg_sl [.ref t0, .int x, .long y] ++ List.replicate (7 - (lg_sl [.ref t0, .int x, .long y]).length) Slot.unset).toArray = ls at hl ⊢
  have hl : lv_has ls 7 [(0, .ref t0), (1, .int x), (2, .long y)] := hl
  have hw9 : ∀ w ∈ wsX90, w ∈ wsX4_muted := fun w h => (List.mem_cons_of_mem _ (List.mem_append_right _ h))
  generalize hQ : MQ below _ _ s _ _ _ = Q
  refine lv_lload_n hx hb dX4_muted_0 rfl (lv_at hl 2 rfl) ?_
  refine lv_lstore (lv' := [(4, .long y), (0, .ref t0), (1, .int x), (2, .long y)]) hx hb dX4_muted_1 hl (by decide) rfl (fun ls hl => ?_)
  refine lv_iconst (v := 0) hx hb dX4_muted_3 (by decide) ?_
  refine lv_istore (lv' := [(6, .int 0), (4, .long y), (0, .ref t0), (1, .int x), (2, .long y)]) hx hb dX4_muted_4 hl (by decide) rfl (fun ls hl => ?_)
  have lp_469 : ∀ (nn_ : Nat) (v_421 : Int32) (v_422 : Int64) (hv_421 : 0 ≤ v_421.toInt ∧ v_421.toInt ≤ 8) (hn : (9 - v_421.toInt : Int).toNat < nn_) (ls : Array Slot) (hl : lv_has ls 7 [(6, .int v_421), (4, .long v_422), (0, .ref t0), (1, .int x)]), W p l e ({ frames := 2, cells := 0, slots := 0, locals := 44 }) s m (([.ref t0, .int x, .long y] : List Value).toArray) below meth c s.heap [] 0 0 Q (F0 m 6 ls []) := by
    intro nn_
    induction nn_ with
    | zero =>
      intro v_421 v_422 hv_421 hn ls hl
      exact absurd hn (Nat.not_lt_zero _)
    | succ nn_ ih_470 =>
      intro v_421 v_422 hv_421 hn ls hl
      refine lv_iload hx hb dX4_muted_6 (lv_at hl 0 rfl) ?_
      refine lv_aload_n hx hb dX4_muted_8 rfl (lv_at hl 2 rfl) ?_
      refine va_getN (ci := 9) (v := .int n) (C := RX9) (T := TX9) (N := 10) hx hb hts hw9 hown hK hP 0 rfl rfl 4 (by decide) (nst_use hN 106 rfl) (fun _ h9 => h9) rfl dX4_muted_9 ?_
      refine lv_icmp_ge (tgt := 57) hx hb dX4_muted_12 (by decide) (fun c_471 => ?_) (fun c_471 => ?_)
      · have c_471i := i_le (x := n.toInt) (y := v_421.toInt) rfl rfl c_471
        refine lv_lload hx hb dX4_muted_57 (lv_at hl 1 rfl) ?_
        rw [← hQ]
        exact W.lret (v := v_422) hx hb hr (fun t ht hW => ⟨_, rfl, trivial, ht⟩) (fun q hq => by cases hq) dX4_muted_59
      · have c_471i := i_nle (x := n.toInt) (y := v_421.toInt) rfl rfl c_471
        refine lv_aload_n hx hb dX4_muted_15 rfl (lv_at hl 2 rfl) ?_
        refine lv_iload hx hb dX4_muted_16 (lv_at hl 0 rfl) ?_
        refine lv_iconst (v := 0) hx hb dX4_muted_18 (by decide) ?_
        refine pci (va_runVN (As := [.int v_421, .int 0]) (rest := []) ⟨hx, hb, hml, hown, hts⟩ (w_fact l D K t0 v_421 0 t1 k_1 (.ref t2) k_3 (.int n) k_5 k_6 k_7 k_8 (.int ho) f1 s.heap.size) ⟨va_cnB 2 hts gX4_muted_X9_fact_n45 rfl rfl rfl (nst_at hN 84 rfl) (hts (.initialized RX9) (List.mem_cons_of_mem _ (List.mem_append_left _ (List.mem_of_getElem? (i := 2) rfl)))) (by decide +kernel) ⟨Nat.le_of_ble_eq_true rfl, Nat.le_of_ble_eq_true rfl⟩, (hts (.instanceMethod yX9_fact) (List.mem_cons_of_mem _ (List.mem_append_left _ (List.mem_of_getElem? (i := 1) rfl)))), (hts (.selects RX9 yX9_fact yX9_fact) (List.mem_cons_of_mem _ (List.mem_append_left _ (List.mem_of_getElem? (i := 3) rfl))))⟩ (mkV hK hN (hP.sub [0, 1] rfl) (hD.sub [0, 1] (by decide) rfl) (ci := 9) (q0 := 0) rfl rfl) rfl rfl hl.1 rfl (lv_room (Nat.le_of_ble_eq_true rfl)) dX4_muted_19 ⟨Nat.le_of_ble_eq_true rfl, Nat.le_of_ble_eq_true rfl⟩) (fun r_472 hw => ?_)
        refine lv_iload_n hx hb dX4_muted_22 rfl (lv_at hl 3 rfl) ?_
        have j_483 : ∀ (v_481 : Int64) (ls : Array Slot) (hl : lv_has ls 7 [(6, .int v_421), (4, .long v_481), (0, .ref t0), (1, .int x)]), W p l e ({ frames := 2, cells := 0, slots := 0, locals := 44 }) s m (([.ref t0, .int x, .long y] : List Value).toArray) below meth c s.heap [] 0 0 Q (F0 m 51 ls []) := by
          intro v_481 ls hl
          obtain ⟨x_484, ex_484⟩ : ∃ y : Int32, y = v_421 + Int32.ofInt 1 := ⟨_, rfl⟩
          have hx_484 : x_484.toInt = (v_421.toInt + 1) := by rw [ex_484]; exact i_add rfl (show (Int32.ofInt 1).toInt = 1 from rfl) (by omega)
          refine lv_iinc (v := x_484) (lv' := [(6, .int x_484), (4, .long v_481), (0, .ref t0), (1, .int x)]) hx hb dX4_muted_51 hl (k := 0) rfl (by rw [ex_484]) (by decide) rfl (fun ls hl => ?_)
          refine lv_goto (tgt := 6) hx hb dX4_muted_54 (by decide) ?_
          exact ih_470 x_484 v_481 (by rw [hx_484]; omega) (by omega) ls (lv_sub hl [0, 1, 2, 3] rfl)
        refine lv_icmp_ne (tgt := 51) hx hb dX4_muted_23 (by decide) (fun c_485 => ?_) (fun c_485 => ?_)
        · have c_485i := i_ne (x := r_472.toInt) (y := x.toInt) rfl rfl c_485
          exact j_483 v_422  ls (lv_sub hl [0, 1, 2, 3] rfl)
        · have c_485i := i_eq (x := r_472.toInt) (y := x.toInt) rfl rfl c_485
          refine lv_aload_n hx hb dX4_muted_26 rfl (lv_at hl 2 rfl) ?_
          refine lv_iload hx hb dX4_muted_27 (lv_at hl 0 rfl) ?_
          refine pci (va_runVN (As := [.int v_421]) (rest := []) ⟨hx, hb, hml, hown, hts⟩ (w_sings l D K t0 v_421 t1 k_1 t2 k_3 (.int n) k_5 k_6 k_7 k_8 (.int ho) f1 f2 s.heap.size) ⟨va_cnB 1 hts gX4_muted_X9_sings_n99 rfl rfl rfl (nst_at hN 91 rfl) (hts (.initialized RX9) (List.mem_cons_of_mem _ (List.mem_append_left _ (List.mem_of_getElem? (i := 2) rfl)))) (by decide +kernel) ⟨Nat.le_of_ble_eq_true rfl, Nat.le_of_ble_eq_true rfl⟩, (hts (.instanceMethod yX9_sings) (List.mem_cons_of_mem _ (List.mem_append_left _ (List.mem_of_getElem? (i := 6) rfl)))), (hts (.selects RX9 yX9_sings yX9_sings) (List.mem_cons_of_mem _ (List.mem_append_left _ (List.mem_of_getElem? (i := 7) rfl))))⟩ (mkV hK hN (hP.sub [0, 1, 2] rfl) (hD.sub [0, 1, 2] (by decide) rfl) (ci := 9) (q0 := 0) rfl rfl) rfl rfl hl.1 rfl (lv_room (Nat.le_of_ble_eq_true rfl)) dX4_muted_29 ⟨Nat.le_of_ble_eq_true rfl, Nat.le_of_ble_eq_true rfl⟩) (fun r_486 hw => ?_)
          obtain ⟨h_487, -⟩ := hw
          refine lv_if_eq (tgt := 51) hx hb dX4_muted_32 (by decide) (fun c_488 => ?_) (fun c_488 => ?_)
          · have c_488i := i_eq (x := r_486.toInt) (y := 0) rfl rfl c_488
            exact j_483 v_422  ls (lv_sub hl [0, 1, 2, 3] rfl)
          · have c_488i := i_ne (x := r_486.toInt) (y := 0) rfl rfl c_488
            refine lv_lload hx hb dX4_muted_35 (lv_at hl 1 rfl) ?_
            refine lv_aload_n hx hb dX4_muted_37 rfl (lv_at hl 2 rfl) ?_
            refine va_getN (ci := 9) (v := .ref t2) (C := RX9) (T := TX9) (N := 10) hx hb hts hw9 hown hK hP 0 rfl rfl 2 (by decide) (nst_use hN 105 rfl) (fun _ h9 => h9) rfl dX4_muted_38 ?_
            refine lv_iconst (v := 4) hx hb dX4_muted_41 (by decide) ?_
            refine va_iald hx hb hK hP 2 0 rfl rfl (i_in (x := 4) rfl (by omega)) dX4_muted_42 ?_
            refine lv_topi (fun x_489 ex_489 => ?_)
            refine lv_i2l hx hb dX4_muted_43 rfl ?_
            refine lv_topl (fun x_490 ex_490 => ?_)
            have hx_490 : x_490.toInt = x_489.toInt := by rw [ex_490]; exact i_wide rfl
            have hbx_490 := i_rng (a := x_489) rfl
            refine lv_lmul hx hb dX4_muted_44 ?_
            refine lv_topl (fun x_491 ex_491 => ?_)
            refine lv_ldc2 (v := 10) hx hb hown (hts (.constantLong RX4 105 (10)) (List.mem_cons_of_mem _ (List.mem_append_left _ (List.mem_of_getElem? (i := 0) rfl)))) dX4_muted_45 ?_
            refine lv_ldiv hx hb dX4_muted_48 (by decide) ?_
            refine lv_topl (fun x_492 ex_492 => ?_)
            refine lv_lstore (lv' := [(4, .long x_492), (6, .int v_421), (0, .ref t0), (1, .int x)]) hx hb dX4_muted_49 hl (by decide) rfl (fun ls hl => ?_)
            exact j_483 x_492  ls (lv_sub hl [1, 0, 2, 3] rfl)
  exact lp_469 ((9 - (0 : Int32).toInt : Int).toNat + 1) 0 y (by decide) (Nat.lt_succ_self _) ls (lv_sub hl [0, 1, 2, 3] rfl)
set_option maxHeartbeats 4000000 in
set_option maxRecDepth 100000 in
theorem w_odds (l : Launch) (D : va_G) (K : Nat → ClassId) (p0 : Nat) (t0 : Nat) (x : Int32) (p1 : Nat) (p2 : Nat) (p3 : Nat) (p4 : Nat) (p5 : Nat) (t1 : Nat) (k_1 : Value) (t2 : Nat) (k_3 : Value) (n : Int32) (k_5 : Value) (k_6 : Value) (k_7 : Value) (k_8 : Value) (ho : Int32) (f1 : Nat → Int32) (f2 : Nat → Int32) (sz : Nat) (zn : 0 ≤ n.toInt ∧ n.toInt ≤ 8) : Met l yX4_odds wsX4_odds ({ frames := 3, cells := 0, slots := 0, locals := 70 }) (va_Pc [.ref p0, .ref t0, .int x] (Pre D K [(p0, .inr (4, [.ref p1, .ref p2, .ref p3, .ref p4, .ref p5])), (t0, .inr (9, [.ref t1, k_1, .ref t2, k_3, .int n, k_5, k_6, k_7, k_8, .int ho])), (t1, .inl (K 0, 56, .inl f1)), (t2, .inl (K 0, 6, .inl f2))] sz)) (vp_Sl (fun r : Int64 => True)) 0 0 (fun _ => False) := by
  refine Met.ofW (cc := cX4_odds) (maxL := 6) (ret := (some .long)) (by decide) rfl ?_
  intro p e s m args below meth c s₁ B hml hv
  obtain ⟨rfl, hsz, hP, hK, hD0, hN⟩ := hv
  have hx := B.exec
  have hb := B.bytes
  have hr := B.returns
  have hts := atoms_spec (ws := wsX4_odds) B.pre
  have hown : s.vm.findClass RX4 = some m.cls := findClass_of_methodNamed B.named
  have hlocks := B.notSynchronized
  subst hsz
  have hD := hD0
  have hP : va_P D vwCl [(p0, .inr (4, [.ref p1, .ref p2, .ref p3, .ref p4, .ref p5])), (t0, .inr (9, [.ref t1, k_1, .ref t2, k_3, .int n, k_5, k_6, k_7, k_8, .int ho])), (t1, .inl (K 0, 56, .inl f1)), (t2, .inl (K 0, 6, .inl f2))] s.heap := hP
  have hl := lv_entry [.ref p0, .ref t0, .int x] (n := 6) (Nat.le_of_ble_eq_true rfl)
  rw [lg_entry_eq]
  generalize (lg_sl [.ref p0, .ref t0, .int x] ++ List.replicate (6 - (lg_sl [.ref p0, .ref t0, .int x]).length) Slot.unset).toArray = ls at hl ⊢
  have hl : lv_has ls 6 [(0, .ref p0), (1, .ref t0), (2, .int x)] := hl
  have hw9 : ∀ w ∈ wsX90, w ∈ wsX4_odds := fun w h => (List.mem_cons_of_mem _ (List.mem_append_right _ h))
  generalize hQ : MQ below _ _ s _ _ _ = Q
  refine lv_ldc2 (v := 1000000000000) hx hb hown (hts (.constantLong RX4 93 (1000000000000)) (List.mem_cons_of_mem _ (List.mem_append_left _ (List.mem_of_getElem? (i := 0) rfl)))) dX4_odds_0 ?_
  refine lv_lstore_n (lv' := [(3, .long 1000000000000), (0, .ref p0), (1, .ref t0), (2, .int x)]) hx hb dX4_odds_3 rfl hl (by decide) rfl (fun ls hl => ?_)
  refine lv_iconst (v := 0) hx hb dX4_odds_4 (by decide) ?_
  refine lv_istore (lv' := [(5, .int 0), (3, .long 1000000000000), (0, .ref p0), (1, .ref t0), (2, .int x)]) hx hb dX4_odds_5 hl (by decide) rfl (fun ls hl => ?_)
  have lp_289 : ∀ (nn_ : Nat) (v_259 : Int32) (v_260 : Int64) (hv_259 : 0 ≤ v_259.toInt ∧ v_259.toInt ≤ 7) (hn : (8 - v_259.toInt : Int).toNat < nn_) (ls : Array Slot) (hl : lv_has ls 6 [(5, .int v_259), (3, .long v_260), (1, .ref t0), (2, .int x)]), W p l e ({ frames := 3, cells := 0, slots := 0, locals := 70 }) s m (([.ref p0, .ref t0, .int x] : List Value).toArray) below meth c s.heap [] 0 0 Q (F0 m 7 ls []) := by
    intro nn_
    induction nn_ with
    | zero =>
      intro v_259 v_260 hv_259 hn ls hl
      exact absurd hn (Nat.not_lt_zero _)
    | succ nn_ ih_290 =>
      intro v_259 v_260 hv_259 hn ls hl
      refine lv_iload hx hb dX4_odds_7 (lv_at hl 0 rfl) ?_
      refine lv_bipush (v := 7) hx hb dX4_odds_9 (by decide) ?_
      refine lv_icmp_ge (tgt := 40) hx hb dX4_odds_11 (by decide) (fun c_291 => ?_) (fun c_291 => ?_)
      · have c_291i := i_le (x := 7) (y := v_259.toInt) rfl rfl c_291
        refine lv_lload_n hx hb dX4_odds_40 rfl (lv_at hl 1 rfl) ?_
        rw [← hQ]
        exact W.lret (v := v_260) hx hb hr (fun t ht hW => ⟨_, rfl, trivial, ht⟩) (fun q hq => by cases hq) dX4_odds_41
      · have c_291i := i_nle (x := 7) (y := v_259.toInt) rfl rfl c_291
        refine lv_iload_n hx hb dX4_odds_14 rfl (lv_at hl 3 rfl) ?_
        refine lv_iload hx hb dX4_odds_15 (lv_at hl 0 rfl) ?_
        refine lv_ishr hx hb dX4_odds_17 ?_
        refine lv_topi (fun x_292 ex_292 => ?_)
        refine lv_iconst (v := 1) hx hb dX4_odds_18 (by decide) ?_
        refine lv_iand hx hb dX4_odds_19 ?_
        refine lv_topi (fun x_293 ex_293 => ?_)
        have hx_293 : 0 ≤ x_293.toInt ∧ x_293.toInt ≤ 1 := by rw [ex_293]; exact i_mask x_292 1 rfl (by decide)
        refine lv_iconst (v := 1) hx hb dX4_odds_20 (by decide) ?_
        have j_299 : ∀ (v_297 : Int64) (ls : Array Slot) (hl : lv_has ls 6 [(5, .int v_259), (3, .long v_297), (1, .ref t0), (2, .int x)]), W p l e ({ frames := 3, cells := 0, slots := 0, locals := 70 }) s m (([.ref p0, .ref t0, .int x] : List Value).toArray) below meth c s.heap [] 0 0 Q (F0 m 34 ls []) := by
          intro v_297 ls hl
          obtain ⟨x_300, ex_300⟩ : ∃ y : Int32, y = v_259 + Int32.ofInt 1 := ⟨_, rfl⟩
          have hx_300 : x_300.toInt = (v_259.toInt + 1) := by rw [ex_300]; exact i_add rfl (show (Int32.ofInt 1).toInt = 1 from rfl) (by omega)
          refine lv_iinc (v := x_300) (lv' := [(5, .int x_300), (3, .long v_297), (1, .ref t0), (2, .int x)]) hx hb dX4_odds_34 hl (k := 0) rfl (by rw [ex_300]) (by decide) rfl (fun ls hl => ?_)
          refine lv_goto (tgt := 7) hx hb dX4_odds_37 (by decide) ?_
          exact ih_290 x_300 v_297 (by rw [hx_300]; omega) (by omega) ls (lv_sub hl [0, 1, 2, 3] rfl)
        refine lv_icmp_ne (tgt := 34) hx hb dX4_odds_21 (by decide) (fun c_301 => ?_) (fun c_301 => ?_)
        · have c_301i := i_ne (x := x_293.toInt) (y := 1) rfl rfl c_301
          exact j_299 v_260  ls (lv_sub hl [0, 1, 2, 3] rfl)
        · have c_301i := i_eq (x := x_293.toInt) (y := 1) rfl rfl c_301
          refine lv_lload_n hx hb dX4_odds_24 rfl (lv_at hl 1 rfl) ?_
          refine lv_aload_n hx hb dX4_odds_25 rfl (lv_at hl 2 rfl) ?_
          refine lv_iload hx hb dX4_odds_26 (lv_at hl 0 rfl) ?_
          refine lv_lload_n hx hb dX4_odds_28 rfl (lv_at hl 1 rfl) ?_
          refine pcl (va_runS (As := [.ref t0, .int v_259, .long v_260]) (rest := [.long v_260]) ⟨hx, hb, hml, hown, hts⟩ (w_muted l D K t0 v_259 v_260 t1 k_1 t2 k_3 n k_5 k_6 k_7 k_8 ho f1 f2 s.heap.size (by first | omega | decide)) (va_cwS 3 hts gX4_odds_X4_muted rfl rfl rfl (by decide +kernel) ⟨Nat.le_of_ble_eq_true rfl, Nat.le_of_ble_eq_true rfl⟩) (mkS hK hN (hP.sub [1, 2, 3] rfl) (hD.sub [1, 2, 3] (by decide) rfl)) rfl rfl hl.1 rfl (lv_room (Nat.le_of_ble_eq_true rfl)) dX4_odds_29 ⟨Nat.le_of_ble_eq_true rfl, Nat.le_of_ble_eq_true rfl⟩) (fun r_302 hw => ?_)
          refine lv_lsub hx hb dX4_odds_32 ?_
          refine lv_topl (fun x_303 ex_303 => ?_)
          refine lv_lstore_n (lv' := [(3, .long x_303), (5, .int v_259), (1, .ref t0), (2, .int x)]) hx hb dX4_odds_33 rfl hl (by decide) rfl (fun ls hl => ?_)
          exact j_299 x_303  ls (lv_sub hl [1, 0, 2, 3] rfl)
  exact lp_289 ((8 - (0 : Int32).toInt : Int).toNat + 1) 0 1000000000000 (by decide) (Nat.lt_succ_self _) ls (lv_sub hl [0, 1, 3, 4] rfl)
