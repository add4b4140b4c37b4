theorem dX11_least_0 : decode cX11_least 0 = .ok (.aload_n 0, 1) := by decide +kernel
theorem dX11_least_1 : decode cX11_least 1 = .ok (.getfield 10, 3) := by decide +kernel
theorem dX11_least_4 : decode cX11_least 4 = .ok (.iload_n 1, 1) := by decide +kernel
theorem dX11_least_5 : decode cX11_least 5 = .ok (.invokevirtual 121, 3) := by decide +kernel
theorem dX11_least_8 : decode cX11_least 8 = .ok (.ifCond .eq 26, 3) := by decide +kernel
theorem dX11_least_11 : decode cX11_least 11 = .ok (.iload_n 2, 1) := by decide +kernel
theorem dX11_least_12 : decode cX11_least 12 = .ok (.iconst 1, 1) := by decide +kernel
theorem dX11_least_13 : decode cX11_least 13 = .ok (.bipush 12, 2) := by decide +kernel
theorem dX11_least_15 : decode cX11_least 15 = .ok (.invokestatic 97, 3) := by decide +kernel
theorem dX11_least_18 : decode cX11_least 18 = .ok (.ifCond .eq 16, 3) := by decide +kernel
theorem dX11_least_21 : decode cX11_least 21 = .ok (.iload_n 3, 1) := by decide +kernel
theorem dX11_least_22 : decode cX11_least 22 = .ok (.iconst 0, 1) := by decide +kernel
theorem dX11_least_23 : decode cX11_least 23 = .ok (.iconst 1, 1) := by decide +kernel
theorem dX11_least_24 : decode cX11_least 24 = .ok (.iload_n 2, 1) := by decide +kernel
theorem dX11_least_25 : decode cX11_least 25 = .ok (.ishl, 1) := by decide +kernel
theorem dX11_least_26 : decode cX11_least 26 = .ok (.iconst 1, 1) := by decide +kernel
theorem dX11_least_27 : decode cX11_least 27 = .ok (.isub, 1) := by decide +kernel
theorem dX11_least_28 : decode cX11_least 28 = .ok (.invokestatic 97, 3) := by decide +kernel
theorem dX11_least_31 : decode cX11_least 31 = .ok (.ifCond .ne 5, 3) := by decide +kernel
theorem dX11_least_36 : decode cX11_least 36 = .ok (.iload 4, 2) := by decide +kernel
theorem dX11_least_38 : decode cX11_least 38 = .ok (.iconst (-1), 1) := by decide +kernel
theorem dX11_least_39 : decode cX11_least 39 = .ok (.iload_n 2, 1) := by decide +kernel
theorem dX11_least_40 : decode cX11_least 40 = .ok (.iconst 1, 1) := by decide +kernel
theorem dX11_least_41 : decode cX11_least 41 = .ok (.isub, 1) := by decide +kernel
theorem dX11_least_42 : decode cX11_least 42 = .ok (.invokestatic 97, 3) := by decide +kernel
theorem dX11_least_45 : decode cX11_least 45 = .ok (.ifCond .eq 22, 3) := by decide +kernel
theorem dX11_least_48 : decode cX11_least 48 = .ok (.aload_n 0, 1) := by decide +kernel
theorem dX11_least_49 : decode cX11_least 49 = .ok (.getfield 68, 3) := by decide +kernel
theorem dX11_least_52 : decode cX11_least 52 = .ok (.aload_n 0, 1) := by decide +kernel
theorem dX11_least_53 : decode cX11_least 53 = .ok (.getfield 10, 3) := by decide +kernel
theorem dX11_least_56 : decode cX11_least 56 = .ok (.iload_n 1, 1) := by decide +kernel
theorem dX11_least_57 : decode cX11_least 57 = .ok (.iload_n 2, 1) := by decide +kernel
theorem dX11_least_58 : decode cX11_least 58 = .ok (.iload_n 3, 1) := by decide +kernel
theorem dX11_least_59 : decode cX11_least 59 = .ok (.iload 4, 2) := by decide +kernel
theorem dX11_least_61 : decode cX11_least 61 = .ok (.invokevirtual 245, 3) := by decide +kernel
theorem dX11_least_64 : decode cX11_least 64 = .ok (.goto 4, 3) := by decide +kernel
theorem dX11_least_68 : decode cX11_least 68 = .ok (.ireturn, 1) := by decide +kernel
theorem dX11_least_67 : decode cX11_least 67 = .ok (.iconst (-1), 1) := by decide +kernel
theorem dX11_least_34 : decode cX11_least 34 = .ok (.iconst (-1), 1) := by decide +kernel
theorem dX11_least_35 : decode cX11_least 35 = .ok (.ireturn, 1) := by decide +kernel
theorem dX11_rings_0 : decode cX11_rings 0 = .ok (.aload_n 0, 1) := by decide +kernel
theorem dX11_rings_1 : decode cX11_rings 1 = .ok (.getfield 10, 3) := by decide +kernel
theorem dX11_rings_4 : decode cX11_rings 4 = .ok (.iload_n 1, 1) := by decide +kernel
theorem dX11_rings_5 : decode cX11_rings 5 = .ok (.invokevirtual 121, 3) := by decide +kernel
theorem dX11_rings_8 : decode cX11_rings 8 = .ok (.ifCond .eq 18, 3) := by decide +kernel
theorem dX11_rings_11 : decode cX11_rings 11 = .ok (.aload_n 0, 1) := by decide +kernel
theorem dX11_rings_12 : decode cX11_rings 12 = .ok (.getfield 75, 3) := by decide +kernel
theorem dX11_rings_15 : decode cX11_rings 15 = .ok (.aload_n 0, 1) := by decide +kernel
theorem dX11_rings_16 : decode cX11_rings 16 = .ok (.getfield 10, 3) := by decide +kernel
theorem dX11_rings_19 : decode cX11_rings 19 = .ok (.iload_n 1, 1) := by decide +kernel
theorem dX11_rings_20 : decode cX11_rings 20 = .ok (.invokevirtual 249, 3) := by decide +kernel
theorem dX11_rings_23 : decode cX11_rings 23 = .ok (.goto 4, 3) := by decide +kernel
theorem dX11_rings_27 : decode cX11_rings 27 = .ok (.ireturn, 1) := by decide +kernel
theorem dX11_rings_26 : decode cX11_rings 26 = .ok (.iconst (-1), 1) := by decide +kernel
theorem dX11_tune_0 : decode cX11_tune 0 = .ok (.iload_n 1, 1) := by decide +kernel
theorem dX11_tune_1 : decode cX11_tune 1 = .ok (.iconst 0, 1) := by decide +kernel
theorem dX11_tune_2 : decode cX11_tune 2 = .ok (.iconst 3, 1) := by decide +kernel
theorem dX11_tune_3 : decode cX11_tune 3 = .ok (.invokestatic 97, 3) := by decide +kernel
theorem dX11_tune_6 : decode cX11_tune 6 = .ok (.ifCond .ne 5, 3) := by decide +kernel
theorem dX11_tune_11 : decode cX11_tune 11 = .ok (.iload_n 2, 1) := by decide +kernel
theorem dX11_tune_12 : decode cX11_tune 12 = .ok (.ifCond .ne 16, 3) := by decide +kernel
theorem dX11_tune_28 : decode cX11_tune 28 = .ok (.iload_n 2, 1) := by decide +kernel
theorem dX11_tune_29 : decode cX11_tune 29 = .ok (.iconst 1, 1) := by decide +kernel
theorem dX11_tune_30 : decode cX11_tune 30 = .ok (.bipush 8, 2) := by decide +kernel
theorem dX11_tune_32 : decode cX11_tune 32 = .ok (.invokestatic 97, 3) := by decide +kernel
theorem dX11_tune_35 : decode cX11_tune 35 = .ok (.ifCond .eq 9, 3) := by decide +kernel
theorem dX11_tune_38 : decode cX11_tune 38 = .ok (.iload_n 2, 1) := by decide +kernel
theorem dX11_tune_39 : decode cX11_tune 39 = .ok (.iconst 1, 1) := by decide +kernel
theorem dX11_tune_40 : decode cX11_tune 40 = .ok (.isub, 1) := by decide +kernel
theorem dX11_tune_41 : decode cX11_tune 41 = .ok (.goto 4, 3) := by decide +kernel
theorem dX11_tune_45 : decode cX11_tune 45 = .ok (.istore_n 3, 1) := by decide +kernel
theorem dX11_tune_46 : decode cX11_tune 46 = .ok (.aload_n 0, 1) := by decide +kernel
theorem dX11_tune_47 : decode cX11_tune 47 = .ok (.getfield 10, 3) := by decide +kernel
theorem dX11_tune_50 : decode cX11_tune 50 = .ok (.iload_n 3, 1) := by decide +kernel
theorem dX11_tune_51 : decode cX11_tune 51 = .ok (.invokevirtual 121, 3) := by decide +kernel
theorem dX11_tune_54 : decode cX11_tune 54 = .ok (.ifCond .eq 16, 3) := by decide +kernel
theorem dX11_tune_57 : decode cX11_tune 57 = .ok (.aload_n 0, 1) := by decide +kernel
theorem dX11_tune_58 : decode cX11_tune 58 = .ok (.getfield 10, 3) := by decide +kernel
theorem dX11_tune_61 : decode cX11_tune 61 = .ok (.iload_n 3, 1) := by decide +kernel
theorem dX11_tune_62 : decode cX11_tune 62 = .ok (.iconst 1, 1) := by decide +kernel
theorem dX11_tune_63 : decode cX11_tune 63 = .ok (.invokevirtual 125, 3) := by decide +kernel
theorem dX11_tune_66 : decode cX11_tune 66 = .ok (.iload_n 1, 1) := by decide +kernel
theorem dX11_tune_67 : decode cX11_tune 67 = .ok (.if_icmp .eq 5, 3) := by decide +kernel
theorem dX11_tune_72 : decode cX11_tune 72 = .ok (.aload_n 0, 1) := by decide +kernel
theorem dX11_tune_73 : decode cX11_tune 73 = .ok (.getfield 75, 3) := by decide +kernel
theorem dX11_tune_76 : decode cX11_tune 76 = .ok (.aload_n 0, 1) := by decide +kernel
theorem dX11_tune_77 : decode cX11_tune 77 = .ok (.getfield 10, 3) := by decide +kernel
theorem dX11_tune_80 : decode cX11_tune 80 = .ok (.iload_n 1, 1) := by decide +kernel
theorem dX11_tune_81 : decode cX11_tune 81 = .ok (.invokevirtual 252, 3) := by decide +kernel
theorem dX11_tune_84 : decode cX11_tune 84 = .ok (.pop, 1) := by decide +kernel
theorem dX11_tune_85 : decode cX11_tune 85 = .ok (.aload_n 0, 1) := by decide +kernel
theorem dX11_tune_86 : decode cX11_tune 86 = .ok (.getfield 75, 3) := by decide +kernel
theorem dX11_tune_89 : decode cX11_tune 89 = .ok (.iload_n 3, 1) := by decide +kernel
theorem dX11_tune_90 : decode cX11_tune 90 = .ok (.invokevirtual 255, 3) := by decide +kernel
theorem dX11_tune_93 : decode cX11_tune 93 = .ok (.ireturn, 1) := by decide +kernel
theorem dX11_tune_44 : decode cX11_tune 44 = .ok (.iconst (-1), 1) := by decide +kernel
theorem dX11_tune_70 : decode cX11_tune 70 = .ok (.iconst (-1), 1) := by decide +kernel
theorem dX11_tune_71 : decode cX11_tune 71 = .ok (.ireturn, 1) := by decide +kernel
theorem dX11_tune_15 : decode cX11_tune 15 = .ok (.aload_n 0, 1) := by decide +kernel
theorem dX11_tune_16 : decode cX11_tune 16 = .ok (.getfield 75, 3) := by decide +kernel
theorem dX11_tune_19 : decode cX11_tune 19 = .ok (.aload_n 0, 1) := by decide +kernel
theorem dX11_tune_20 : decode cX11_tune 20 = .ok (.getfield 10, 3) := by decide +kernel
theorem dX11_tune_23 : decode cX11_tune 23 = .ok (.iload_n 1, 1) := by decide +kernel
theorem dX11_tune_24 : decode cX11_tune 24 = .ok (.invokevirtual 252, 3) := by decide +kernel
theorem dX11_tune_27 : decode cX11_tune 27 = .ok (.ireturn, 1) := by decide +kernel
theorem dX11_tune_9 : decode cX11_tune 9 = .ok (.iconst (-1), 1) := by decide +kernel
theorem dX11_tune_10 : decode cX11_tune 10 = .ok (.ireturn, 1) := by decide +kernel
theorem dX11_hear_0 : decode cX11_hear 0 = .ok (.iload_n 1, 1) := by decide +kernel
theorem dX11_hear_1 : decode cX11_hear 1 = .ok (.iconst 0, 1) := by decide +kernel
theorem dX11_hear_2 : decode cX11_hear 2 = .ok (.bipush 127, 2) := by decide +kernel
theorem dX11_hear_4 : decode cX11_hear 4 = .ok (.invokestatic 97, 3) := by decide +kernel
theorem dX11_hear_7 : decode cX11_hear 7 = .ok (.ifCond .ne 9, 3) := by decide +kernel
theorem dX11_hear_16 : decode cX11_hear 16 = .ok (.aload_n 0, 1) := by decide +kernel
theorem dX11_hear_17 : decode cX11_hear 17 = .ok (.getfield 10, 3) := by decide +kernel
theorem dX11_hear_20 : decode cX11_hear 20 = .ok (.getfield 258, 3) := by decide +kernel
theorem dX11_hear_23 : decode cX11_hear 23 = .ok (.bipush 6, 2) := by decide +kernel
theorem dX11_hear_25 : decode cX11_hear 25 = .ok (.if_icmp .lt 10, 3) := by decide +kernel
theorem dX11_hear_35 : decode cX11_hear 35 = .ok (.aload_n 0, 1) := by decide +kernel
theorem dX11_hear_36 : decode cX11_hear 36 = .ok (.getfield 10, 3) := by decide +kernel
theorem dX11_hear_39 : decode cX11_hear 39 = .ok (.dup, 1) := by decide +kernel
theorem dX11_hear_40 : decode cX11_hear 40 = .ok (.getfield 261, 3) := by decide +kernel
theorem dX11_hear_43 : decode cX11_hear 43 = .ok (.iload_n 1, 1) := by decide +kernel
theorem dX11_hear_44 : decode cX11_hear 44 = .ok (.ior, 1) := by decide +kernel
theorem dX11_hear_45 : decode cX11_hear 45 = .ok (.putfield 261, 3) := by decide +kernel
theorem dX11_hear_48 : decode cX11_hear 48 = .ok (.aload_n 0, 1) := by decide +kernel
theorem dX11_hear_49 : decode cX11_hear 49 = .ok (.getfield 10, 3) := by decide +kernel
theorem dX11_hear_52 : decode cX11_hear 52 = .ok (.dup, 1) := by decide +kernel
theorem dX11_hear_53 : decode cX11_hear 53 = .ok (.getfield 258, 3) := by decide +kernel
theorem dX11_hear_56 : decode cX11_hear 56 = .ok (.iconst 1, 1) := by decide +kernel
theorem dX11_hear_57 : decode cX11_hear 57 = .ok (.iadd, 1) := by decide +kernel
theorem dX11_hear_58 : decode cX11_hear 58 = .ok (.putfield 258, 3) := by decide +kernel
theorem dX11_hear_61 : decode cX11_hear 61 = .ok (.aload_n 0, 1) := by decide +kernel
theorem dX11_hear_62 : decode cX11_hear 62 = .ok (.aload_n 0, 1) := by decide +kernel
theorem dX11_hear_63 : decode cX11_hear 63 = .ok (.getfield 10, 3) := by decide +kernel
theorem dX11_hear_66 : decode cX11_hear 66 = .ok (.getfield 258, 3) := by decide +kernel
theorem dX11_hear_69 : decode cX11_hear 69 = .ok (.invokevirtual 118, 3) := by decide +kernel
theorem dX11_hear_72 : decode cX11_hear 72 = .ok (.ireturn, 1) := by decide +kernel
theorem dX11_hear_28 : decode cX11_hear 28 = .ok (.aload_n 0, 1) := by decide +kernel
theorem dX11_hear_29 : decode cX11_hear 29 = .ok (.bipush (-5), 2) := by decide +kernel
theorem dX11_hear_31 : decode cX11_hear 31 = .ok (.invokevirtual 101, 3) := by decide +kernel
theorem dX11_hear_34 : decode cX11_hear 34 = .ok (.ireturn, 1) := by decide +kernel
theorem dX11_hear_10 : decode cX11_hear 10 = .ok (.aload_n 0, 1) := by decide +kernel
theorem dX11_hear_11 : decode cX11_hear 11 = .ok (.iconst (-1), 1) := by decide +kernel
theorem dX11_hear_12 : decode cX11_hear 12 = .ok (.invokevirtual 101, 3) := by decide +kernel
theorem dX11_hear_15 : decode cX11_hear 15 = .ok (.ireturn, 1) := by decide +kernel
theorem dX11_forget_0 : decode cX11_forget 0 = .ok (.aload_n 0, 1) := by decide +kernel
theorem dX11_forget_1 : decode cX11_forget 1 = .ok (.getfield 10, 3) := by decide +kernel
theorem dX11_forget_4 : decode cX11_forget 4 = .ok (.getfield 258, 3) := by decide +kernel
theorem dX11_forget_7 : decode cX11_forget 7 = .ok (.istore_n 1, 1) := by decide +kernel
theorem dX11_forget_8 : decode cX11_forget 8 = .ok (.aload_n 0, 1) := by decide +kernel
theorem dX11_forget_9 : decode cX11_forget 9 = .ok (.getfield 10, 3) := by decide +kernel
theorem dX11_forget_12 : decode cX11_forget 12 = .ok (.iconst 0, 1) := by decide +kernel
theorem dX11_forget_13 : decode cX11_forget 13 = .ok (.putfield 258, 3) := by decide +kernel
theorem dX11_forget_16 : decode cX11_forget 16 = .ok (.aload_n 0, 1) := by decide +kernel
theorem dX11_forget_17 : decode cX11_forget 17 = .ok (.getfield 10, 3) := by decide +kernel
theorem dX11_forget_20 : decode cX11_forget 20 = .ok (.iconst 0, 1) := by decide +kernel
theorem dX11_forget_21 : decode cX11_forget 21 = .ok (.putfield 261, 3) := by decide +kernel
theorem dX11_forget_24 : decode cX11_forget 24 = .ok (.iload_n 1, 1) := by decide +kernel
theorem dX11_forget_25 : decode cX11_forget 25 = .ok (.ireturn, 1) := by decide +kernel
theorem dX11_hill_0 : decode cX11_hill 0 = .ok (.aload_n 0, 1) := by decide +kernel
theorem dX11_hill_1 : decode cX11_hill 1 = .ok (.getfield 75, 3) := by decide +kernel
theorem dX11_hill_4 : decode cX11_hill 4 = .ok (.aload_n 0, 1) := by decide +kernel
theorem dX11_hill_5 : decode cX11_hill 5 = .ok (.getfield 10, 3) := by decide +kernel
theorem dX11_hill_8 : decode cX11_hill 8 = .ok (.iload_n 1, 1) := by decide +kernel
theorem dX11_hill_9 : decode cX11_hill 9 = .ok (.invokevirtual 264, 3) := by decide +kernel
theorem dX11_hill_12 : decode cX11_hill 12 = .ok (.ireturn, 1) := by decide +kernel
theorem dX11_ask_0 : decode cX11_ask 0 = .ok (.iload_n 1, 1) := by decide +kernel
theorem dX11_ask_1 : decode cX11_ask 1 = .ok (.iconst 0, 1) := by decide +kernel
theorem dX11_ask_2 : decode cX11_ask 2 = .ok (.iconst 1, 1) := by decide +kernel
theorem dX11_ask_3 : decode cX11_ask 3 = .ok (.invokestatic 97, 3) := by decide +kernel
theorem dX11_ask_6 : decode cX11_ask 6 = .ok (.ifCond .eq 18, 3) := by decide +kernel
theorem dX11_ask_9 : decode cX11_ask 9 = .ok (.aload_n 0, 1) := by decide +kernel
theorem dX11_ask_10 : decode cX11_ask 10 = .ok (.getfield 75, 3) := by decide +kernel
theorem dX11_ask_13 : decode cX11_ask 13 = .ok (.aload_n 0, 1) := by decide +kernel
theorem dX11_ask_14 : decode cX11_ask 14 = .ok (.getfield 10, 3) := by decide +kernel
theorem dX11_ask_17 : decode cX11_ask 17 = .ok (.iload_n 1, 1) := by decide +kernel
theorem dX11_ask_18 : decode cX11_ask 18 = .ok (.invokevirtual 267, 3) := by decide +kernel
theorem dX11_ask_21 : decode cX11_ask 21 = .ok (.goto 4, 3) := by decide +kernel
theorem dX11_ask_25 : decode cX11_ask 25 = .ok (.ireturn, 1) := by decide +kernel
theorem dX11_ask_24 : decode cX11_ask 24 = .ok (.iconst (-1), 1) := by decide +kernel
theorem dX11_chance_0 : decode cX11_chance 0 = .ok (.iload_n 1, 1) := by decide +kernel
theorem dX11_chance_1 : decode cX11_chance 1 = .ok (.iconst 0, 1) := by decide +kernel
theorem dX11_chance_2 : decode cX11_chance 2 = .ok (.bipush 127, 2) := by decide +kernel
theorem dX11_chance_4 : decode cX11_chance 4 = .ok (.invokestatic 97, 3) := by decide +kernel
theorem dX11_chance_7 : decode cX11_chance 7 = .ok (.ifCond .eq 18, 3) := by decide +kernel
theorem dX11_chance_10 : decode cX11_chance 10 = .ok (.aload_n 0, 1) := by decide +kernel
theorem dX11_chance_11 : decode cX11_chance 11 = .ok (.getfield 75, 3) := by decide +kernel
theorem dX11_chance_14 : decode cX11_chance 14 = .ok (.aload_n 0, 1) := by decide +kernel
theorem dX11_chance_15 : decode cX11_chance 15 = .ok (.getfield 10, 3) := by decide +kernel
theorem dX11_chance_18 : decode cX11_chance 18 = .ok (.iload_n 1, 1) := by decide +kernel
theorem dX11_chance_19 : decode cX11_chance 19 = .ok (.invokevirtual 270, 3) := by decide +kernel
theorem dX11_chance_22 : decode cX11_chance 22 = .ok (.goto 6, 3) := by decide +kernel
theorem dX11_chance_28 : decode cX11_chance 28 = .ok (.lreturn, 1) := by decide +kernel
theorem dX11_chance_25 : decode cX11_chance 25 = .ok (.ldc2_w 274, 3) := by decide +kernel
theorem dX11_compare_0 : decode cX11_compare 0 = .ok (.iload_n 1, 1) := by decide +kernel
theorem dX11_compare_1 : decode cX11_compare 1 = .ok (.iconst (-1), 1) := by decide +kernel
theorem dX11_compare_2 : decode cX11_compare 2 = .ok (.aload_n 0, 1) := by decide +kernel
theorem dX11_compare_3 : decode cX11_compare 3 = .ok (.getfield 10, 3) := by decide +kernel
theorem dX11_compare_6 : decode cX11_compare 6 = .ok (.getfield 173, 3) := by decide +kernel
theorem dX11_compare_9 : decode cX11_compare 9 = .ok (.iconst 1, 1) := by decide +kernel
theorem dX11_compare_10 : decode cX11_compare 10 = .ok (.isub, 1) := by decide +kernel
theorem dX11_compare_11 : decode cX11_compare 11 = .ok (.invokestatic 97, 3) := by decide +kernel
theorem dX11_compare_14 : decode cX11_compare 14 = .ok (.ifCond .eq 13, 3) := by decide +kernel
theorem dX11_compare_17 : decode cX11_compare 17 = .ok (.iload_n 2, 1) := by decide +kernel
theorem dX11_compare_18 : decode cX11_compare 18 = .ok (.iconst 1, 1) := by decide +kernel
theorem dX11_compare_19 : decode cX11_compare 19 = .ok (.bipush 60, 2) := by decide +kernel
theorem dX11_compare_21 : decode cX11_compare 21 = .ok (.invokestatic 97, 3) := by decide +kernel
theorem dX11_compare_24 : decode cX11_compare 24 = .ok (.ifCond .ne 5, 3) := by decide +kernel
theorem dX11_compare_29 : decode cX11_compare 29 = .ok (.aload_n 0, 1) := by decide +kernel
theorem dX11_compare_30 : decode cX11_compare 30 = .ok (.getfield 68, 3) := by decide +kernel
theorem dX11_compare_33 : decode cX11_compare 33 = .ok (.aload_n 0, 1) := by decide +kernel
theorem dX11_compare_34 : decode cX11_compare 34 = .ok (.getfield 10, 3) := by decide +kernel
theorem dX11_compare_37 : decode cX11_compare 37 = .ok (.aload_n 0, 1) := by decide +kernel
theorem dX11_compare_38 : decode cX11_compare 38 = .ok (.getfield 10, 3) := by decide +kernel
theorem dX11_compare_41 : decode cX11_compare 41 = .ok (.iload_n 1, 1) := by decide +kernel
theorem dX11_compare_42 : decode cX11_compare 42 = .ok (.invokevirtual 276, 3) := by decide +kernel
theorem dX11_compare_45 : decode cX11_compare 45 = .ok (.iload_n 2, 1) := by decide +kernel
theorem dX11_compare_46 : decode cX11_compare 46 = .ok (.invokevirtual 280, 3) := by decide +kernel
theorem dX11_compare_49 : decode cX11_compare 49 = .ok (.ireturn, 1) := by decide +kernel
theorem dX11_compare_27 : decode cX11_compare 27 = .ok (.iconst (-1), 1) := by decide +kernel
theorem dX11_compare_28 : decode cX11_compare 28 = .ok (.ireturn, 1) := by decide +kernel
set_option maxRecDepth 20000 in
theorem ggX11_least_X9_has : GoodIn wsX11_least wsX9_has := goodIn_r _ [6, 7, 101, 102, 103, 104, 105, 106, 107, 108, 109, 110] (by decide +kernel) (by decide +kernel)
set_option maxRecDepth 20000 in
theorem gX11_least_X9_has_n121 : GoodIn wsX11_least (wsX9_has) := ggX11_least_X9_has
set_option maxRecDepth 20000 in
theorem ggX11_least_X11_within : GoodIn wsX11_least wsX11_within := goodIn_r _ [11] (by decide +kernel) (by decide +kernel)
set_option maxRecDepth 20000 in
theorem gX11_least_X11_within : GoodIn wsX11_least (va_wsS RX11 97 yX11_within wsX11_within) := goodIn_app (goodIn_of _ (by decide +kernel)) ggX11_least_X11_within
set_option maxRecDepth 100000 in
set_option maxHeartbeats 4000000 in
theorem ggX11_least_X5_leastCoal : GoodIn wsX11_least wsX5_leastCoal := goodIn_q _ [15, 22, 29, 32, 37, 11, 43, 47, 51, 56, 60, 65, 72, 78, 82] [16, 17, 18, 19, 20, 21, 13, 23, 24, 25, 26, 27, 28, 30, 4, 31, 33, 34, 35, 36, 38, 39, 9, 10, 40, 41, 42, 44, 45, 46, 48, 49, 50, 52, 53, 54, 55, 57, 58, 59, 61, 62, 63, 64, 66, 67, 68, 69, 70, 71, 73, 74, 75, 76, 77, 79, 80, 81, 83, 111, 112, 113, 114, 115, 116, 101, 102, 103, 104, 105, 106, 107, 108, 109, 110, 117, 118, 119, 120, 121, 122, 123, 124] rfl (by decide +kernel) (by decide +kernel)
set_option maxRecDepth 20000 in
theorem gX11_least_X5_leastCoal_n245 : GoodIn wsX11_least (wsX5_leastCoal) := ggX11_least_X5_leastCoal
set_option maxRecDepth 20000 in
theorem ggX11_rings_X9_has : GoodIn wsX11_rings wsX9_has := goodIn_r _ [6, 7, 50, 51, 52, 53, 54, 55, 56, 57, 58, 59] (by decide +kernel) (by decide +kernel)
set_option maxRecDepth 20000 in
theorem gX11_rings_X9_has_n121 : GoodIn wsX11_rings (wsX9_has) := ggX11_rings_X9_has
set_option maxRecDepth 100000 in
set_option maxHeartbeats 4000000 in
theorem ggX11_rings_X4_swapped : GoodIn wsX11_rings wsX4_swapped := goodIn_q _ [11, 17, 21, 24, 29, 32] [12, 13, 14, 15, 16, 9, 18, 19, 20, 22, 4, 23, 25, 26, 27, 28, 30, 31, 50, 51, 52, 53, 54, 55, 56, 57, 58, 59, 60, 61, 62, 63, 64] rfl (by decide +kernel) (by decide +kernel)
set_option maxRecDepth 20000 in
theorem gX11_rings_X4_swapped_n249 : GoodIn wsX11_rings (wsX4_swapped) := ggX11_rings_X4_swapped
set_option maxRecDepth 20000 in
theorem ggX11_tune_X11_within : GoodIn wsX11_tune wsX11_within := goodIn_r _ [6] (by decide +kernel) (by decide +kernel)
set_option maxRecDepth 20000 in
theorem gX11_tune_X11_within : GoodIn wsX11_tune (va_wsS RX11 97 yX11_within wsX11_within) := goodIn_app (goodIn_of _ (by decide +kernel)) ggX11_tune_X11_within
set_option maxRecDepth 20000 in
theorem ggX11_tune_X9_has : GoodIn wsX11_tune wsX9_has := goodIn_r _ [45, 46, 67, 68, 69, 70, 71, 72, 73, 74, 75, 76] (by decide +kernel) (by decide +kernel)
set_option maxRecDepth 20000 in
theorem gX11_tune_X9_has_n121 : GoodIn wsX11_tune (wsX9_has) := ggX11_tune_X9_has
set_option maxRecDepth 20000 in
theorem ggX11_tune_X9_fact : GoodIn wsX11_tune wsX9_fact := goodIn_r _ [24, 25, 67, 68, 69, 70, 71, 72, 73, 74, 75, 76] (by decide +kernel) (by decide +kernel)
set_option maxRecDepth 20000 in
theorem gX11_tune_X9_fact_n125 : GoodIn wsX11_tune (wsX9_fact) := ggX11_tune_X9_fact
set_option maxRecDepth 100000 in
set_option maxHeartbeats 4000000 in
theorem ggX11_tune_X4_retune : GoodIn wsX11_tune wsX4_retune := goodIn_q _ [10, 20, 24, 28, 31, 35, 38, 42] [11, 12, 13, 14, 15, 16, 17, 18, 19, 8, 21, 22, 23, 25, 26, 27, 29, 30, 32, 33, 34, 36, 37, 39, 40, 41, 67, 68, 69, 70, 71, 72, 73, 74, 75, 76, 77, 78, 79, 80, 81] rfl (by decide +kernel) (by decide +kernel)
set_option maxRecDepth 20000 in
theorem gX11_tune_X4_retune_n252 : GoodIn wsX11_tune (wsX4_retune) := ggX11_tune_X4_retune
set_option maxRecDepth 20000 in
theorem ggX11_tune_X4_tunedNote : GoodIn wsX11_tune wsX4_tunedNote := goodIn_r _ [49, 12, 4, 5, 6, 77, 78, 79, 80, 81] (by decide +kernel) (by decide +kernel)
set_option maxRecDepth 20000 in
theorem gX11_tune_X4_tunedNote_n255 : GoodIn wsX11_tune (wsX4_tunedNote) := ggX11_tune_X4_tunedNote
set_option maxRecDepth 20000 in
theorem ggX11_hear_X11_within : GoodIn wsX11_hear wsX11_within := goodIn_r _ [5] (by decide +kernel) (by decide +kernel)
set_option maxRecDepth 20000 in
theorem gX11_hear_X11_within : GoodIn wsX11_hear (va_wsS RX11 97 yX11_within wsX11_within) := goodIn_app (goodIn_of _ (by decide +kernel)) ggX11_hear_X11_within
set_option maxRecDepth 20000 in
theorem ggX11_hear_X11_accept : GoodIn wsX11_hear wsX11_accept := goodIn_r _ [15, 11, 16, 17, 18, 19, 20, 21, 22, 23, 24, 25, 26, 27, 28, 29, 30, 31, 32] (by decide +kernel) (by decide +kernel)
set_option maxRecDepth 20000 in
theorem gX11_hear_X11_accept : GoodIn wsX11_hear (wsV RX11 118 RX11 yX11_accept wsX11_accept) := goodIn_app (goodIn_of _ (by decide +kernel)) ggX11_hear_X11_accept
set_option maxRecDepth 20000 in
theorem ggX11_hear_X11_refuse : GoodIn wsX11_hear wsX11_refuse := goodIn_r _ [9, 10, 11, 2, 3, 4, 5, 16, 17, 18, 19, 20, 21, 22, 23, 24, 25, 26, 27, 28, 29, 30, 31, 32] (by decide +kernel) (by decide +kernel)
set_option maxRecDepth 20000 in
theorem gX11_hear_X11_refuse : GoodIn wsX11_hear (wsV RX11 101 RX11 yX11_refuse wsX11_refuse) := goodIn_app (goodIn_of _ (by decide +kernel)) ggX11_hear_X11_refuse
set_option maxRecDepth 20000 in
theorem ggX11_hill_X4_hillSet : GoodIn wsX11_hill wsX4_hillSet := goodIn_r _ [6, 7, 8, 9, 10, 4, 11, 12, 13, 14, 15, 16, 34, 35, 36, 37, 38, 39, 40, 41, 42, 43, 44, 45, 46, 47, 48] (by decide +kernel) (by decide +kernel)
set_option maxRecDepth 20000 in
theorem gX11_hill_X4_hillSet_n264 : GoodIn wsX11_hill (wsX4_hillSet) := ggX11_hill_X4_hillSet
set_option maxRecDepth 20000 in
theorem ggX11_ask_X11_within : GoodIn wsX11_ask wsX11_within := goodIn_r _ [6] (by decide +kernel) (by decide +kernel)
set_option maxRecDepth 20000 in
theorem gX11_ask_X11_within : GoodIn wsX11_ask (va_wsS RX11 97 yX11_within wsX11_within) := goodIn_app (goodIn_of _ (by decide +kernel)) ggX11_ask_X11_within
set_option maxRecDepth 100000 in
set_option maxHeartbeats 4000000 in
theorem ggX11_ask_X4_question : GoodIn wsX11_ask wsX4_question := goodIn_q _ [10, 14, 18, 23, 27, 32] [11, 12, 13, 15, 16, 17, 8, 19, 20, 21, 22, 24, 25, 26, 28, 29, 30, 31, 50, 51, 52, 53, 54, 55, 56, 57, 58, 59, 60, 61, 62, 63, 64] rfl (by decide +kernel) (by decide +kernel)
set_option maxRecDepth 20000 in
theorem gX11_ask_X4_question_n267 : GoodIn wsX11_ask (wsX4_question) := ggX11_ask_X4_question
set_option maxRecDepth 20000 in
theorem ggX11_chance_X11_within : GoodIn wsX11_chance wsX11_within := goodIn_r _ [7] (by decide +kernel) (by decide +kernel)
set_option maxRecDepth 20000 in
theorem gX11_chance_X11_within : GoodIn wsX11_chance (va_wsS RX11 97 yX11_within wsX11_within) := goodIn_app (goodIn_of _ (by decide +kernel)) ggX11_chance_X11_within
set_option maxRecDepth 100000 in
set_option maxHeartbeats 4000000 in
theorem ggX11_chance_X4_odds : GoodIn wsX11_chance wsX4_odds := goodIn_q _ [11, 15, 20, 24, 29] [12, 13, 14, 9, 16, 17, 18, 19, 21, 22, 23, 25, 26, 27, 28, 30, 48, 49, 50, 51, 52, 53, 54, 55, 56, 57] rfl (by decide +kernel) (by decide +kernel)
set_option maxRecDepth 20000 in
theorem gX11_chance_X4_odds_n270 : GoodIn wsX11_chance (wsX4_odds) := ggX11_chance_X4_odds
set_option maxRecDepth 20000 in
theorem ggX11_compare_X11_within : GoodIn wsX11_compare wsX11_within := goodIn_r _ [6] (by decide +kernel) (by decide +kernel)
set_option maxRecDepth 20000 in
theorem gX11_compare_X11_within : GoodIn wsX11_compare (va_wsS RX11 97 yX11_within wsX11_within) := goodIn_app (goodIn_of _ (by decide +kernel)) ggX11_compare_X11_within
set_option maxRecDepth 20000 in
theorem ggX11_compare_X9_lawAt : GoodIn wsX11_compare wsX9_lawAt := goodIn_r _ [10, 11, 12, 4, 5, 6, 75, 76, 77, 78, 79, 80, 81, 82, 83, 84] (by decide +kernel) (by decide +kernel)
set_option maxRecDepth 20000 in
theorem gX11_compare_X9_lawAt_n276 : GoodIn wsX11_compare (wsX9_lawAt) := ggX11_compare_X9_lawAt
set_option maxRecDepth 100000 in
set_option maxHeartbeats 4000000 in
theorem ggX11_compare_X5_coalBy : GoodIn wsX11_compare wsX5_coalBy := goodIn_q _ [16, 21, 24, 27, 32, 36, 43, 48, 55] [17, 18, 19, 20, 22, 23, 25, 8, 26, 28, 29, 30, 31, 33, 34, 35, 37, 38, 39, 40, 41, 42, 44, 45, 46, 47, 49, 50, 51, 52, 53, 54, 56, 57, 75, 76, 77, 78, 79, 80, 81, 82, 83, 84, 85, 86, 87, 88, 89, 90, 91, 92, 93, 94, 95, 96, 97, 98] rfl (by decide +kernel) (by decide +kernel)
set_option maxRecDepth 20000 in
theorem gX11_compare_X5_coalBy_n280 : GoodIn wsX11_compare (wsX5_coalBy) := ggX11_compare_X5_coalBy
set_option maxHeartbeats 4000000 in
set_option maxRecDepth 100000 in
theorem w_least (l : Launch) (D : va_G) (K : Nat → ClassId) (g : Nat → Nat) (L : Nat → Prop) (o0 : Nat) (x : Int32) (y : Int32) (z : Int32) (w : Int32) (t0 : Nat) (o_1 : Value) (o_2 : Value) (o_3 : Value) (o_4 : Value) (o_5 : Value) (o_6 : Value) (o_7 : Value) (o_8 : Value) (o_9 : Value) (p0 : Nat) (o_11 : Value) (o_12 : Value) (o_13 : Value) (o_14 : Value) (o_15 : Value) (o_16 : Value) (a0 : Nat) (p1 : Nat) (p2 : Nat) (p3 : Nat) (p4 : Nat) (p5 : Nat) (fb : Nat → Int32) (ff : Nat → Int32) (fo : Nat → Int32) (fk : Nat → Int32) (fa : Nat → Int32) (m0 : Nat) (w0 : Nat) (m1 : Nat) (br : Int32) (fs : Nat → Int32) (fw : Nat → Int32) (t1 : Nat) (t3 : Nat) (t2 : Nat) (l0 : Nat) (n : Int32) (lt : Int32) (nf : Int32) (fi : Int32) (k_8 : Value) (k_9 : Value) (f1 : Nat → Int32) (f2 : Nat → Int32) (f3 : Nat → Int32) (fl : Nat → Option Nat) (sz : Nat) (zn : 0 ≤ n.toInt ∧ n.toInt ≤ 8) (zlt : 0 ≤ lt.toInt ∧ lt.toInt ≤ 6) (zbr : 0 ≤ br.toInt ∧ br.toInt ≤ 1) (zfb : Rg 21 0 999 fb) (zff : Rg 21 (-1) 20 ff) (zfo : Rg 273 0 1000 fo) (zfa : Rg 252 0 20 fa) (zfl : InL L fl) : Met l yX11_least wsX11_least ({ frames := 5, cells := 0, slots := 0, locals := 134 }) (va_Pc [.ref o0, .int x, .int y, .int z, .int w] (PreY D K [(o0, .inr (11, [.ref t0, o_1, o_2, o_3, o_4, o_5, o_6, o_7, o_8, o_9, .ref p0, o_11, o_12, o_13, o_14, o_15, o_16])), (p0, .inr (5, [.ref a0, .ref p1, .ref p2, .ref p3, .ref p4, .ref p5])), (p1, .inl (K 0, 21, .inl fb)), (p2, .inl (K 0, 21, .inl ff)), (p3, .inl (K 0, 273, .inl fo)), (p4, .inl (K 0, 252, .inl fk)), (p5, .inl (K 0, 252, .inl fa)), (a0, .inr (0, [.ref m0, .ref w0])), (m0, .inr (3, [.ref m1, .int br])), (m1, .inl (K 0, 64, .inl fs)), (w0, .inl (K 0, 9, .inl fw)), (t0, .inr (9, [.ref t1, .ref t3, .ref t2, .ref l0, .int n, .int lt, .int nf, .int fi, k_8, k_9])), (t1, .inl (K 0, 56, .inl f1)), (t2, .inl (K 0, 6, .inl f2)), (t3, .inl (K 0, 24, .inl f3)), (l0, .inl (K 4, 6, .inr (.inr (.inr (.inr fl)))))] [] sz g L (va_A [(o0, .inr (11, [.ref t0, o_1, o_2, o_3, o_4, o_5, o_6, o_7, o_8, o_9, .ref p0, o_11, o_12, o_13, o_14, o_15, o_16])), (p0, .inr (5, [.ref a0, .ref p1, .ref p2, .ref p3, .ref p4, .ref p5])), (p1, .inl (K 0, 21, .inl fb)), (p2, .inl (K 0, 21, .inl ff)), (p3, .inl (K 0, 273, .inl fo)), (p4, .inl (K 0, 252, .inl fk)), (p5, .inl (K 0, 252, .inl fa)), (a0, .inr (0, [.ref m0, .ref w0])), (m0, .inr (3, [.ref m1, .int br])), (m1, .inl (K 0, 64, .inl fs)), (w0, .inl (K 0, 9, .inl fw)), (t0, .inr (9, [.ref t1, .ref t3, .ref t2, .ref l0, .int n, .int lt, .int nf, .int fi, k_8, k_9])), (t1, .inl (K 0, 56, .inl f1)), (t2, .inl (K 0, 6, .inl f2)), (t3, .inl (K 0, 24, .inl f3)), (l0, .inl (K 4, 6, .inr (.inr (.inr (.inr fl)))))] sz))) (va_Qi (S := Su) (fun (r : Int32) (u : Su) => (Rg 21 0 999 (u.2.1 0)) ∧ (Rg 21 (-1) 20 (u.2.1 1)) ∧ (Rg 273 0 1000 (u.2.1 2)) ∧ (Rg 252 0 20 (u.2.1 4)) ∧ (0 ≤ (u.2.2.2.1 0).toInt ∧ (u.2.2.2.1 0).toInt ≤ 1) ∧ True) (fun u t => Wd D (va_A [(o0, .inr (11, [.ref t0, o_1, o_2, o_3, o_4, o_5, o_6, o_7, o_8, o_9, .ref p0, o_11, o_12, o_13, o_14, o_15, o_16])), (p0, .inr (5, [.ref a0, .ref p1, .ref p2, .ref p3, .ref p4, .ref p5])), (p1, .inl (K 0, 21, .inl fb)), (p2, .inl (K 0, 21, .inl ff)), (p3, .inl (K 0, 273, .inl fo)), (p4, .inl (K 0, 252, .inl fk)), (p5, .inl (K 0, 252, .inl fa)), (a0, .inr (0, [.ref m0, .ref w0])), (m0, .inr (3, [.ref m1, .int br])), (m1, .inl (K 0, 64, .inl fs)), (w0, .inl (K 0, 9, .inl fw)), (t0, .inr (9, [.ref t1, .ref t3, .ref t2, .ref l0, .int n, .int lt, .int nf, .int fi, k_8, k_9])), (t1, .inl (K 0, 56, .inl f1)), (t2, .inl (K 0, 6, .inl f2)), (t3, .inl (K 0, 24, .inl f3)), (l0, .inl (K 4, 6, .inr (.inr (.inr (.inr fl)))))] sz) ((fun u => [(o0, .inr (11, [.ref t0, o_1, o_2, o_3, o_4, o_5, o_6, o_7, o_8, o_9, .ref p0, o_11, o_12, o_13, o_14, o_15, o_16])), (p0, .inr (5, [.ref a0, .ref p1, .ref p2, .ref p3, .ref p4, .ref p5])), (p1, .inl (K 0, 21, .inl (u.2.1 0))), (p2, .inl (K 0, 21, .inl (u.2.1 1))), (p3, .inl (K 0, 273, .inl (u.2.1 2))), (p4, .inl (K 0, 252, .inl (u.2.1 3))), (p5, .inl (K 0, 252, .inl (u.2.1 4))), (a0, .inr (0, [.ref m0, .ref w0])), (m0, .inr (3, [.ref m1, .int (u.2.2.2.1 0)])), (m1, .inl (K 0, 64, .inl (u.2.1 5))), (w0, .inl (K 0, 9, .inl (u.2.1 6))), (t0, .inr (9, [.ref t1, .ref t3, .ref t2, .ref l0, .int n, .int lt, .int nf, .int fi, k_8, k_9])), (t1, .inl (K 0, 56, .inl f1)), (t2, .inl (K 0, 6, .inl f2)), (t3, .inl (K 0, 24, .inl f3)), (l0, .inl (K 4, 6, .inr (.inr (.inr (.inr fl)))))]) u) t) (va_A [(o0, .inr (11, [.ref t0, o_1, o_2, o_3, o_4, o_5, o_6, o_7, o_8, o_9, .ref p0, o_11, o_12, o_13, o_14, o_15, o_16])), (p0, .inr (5, [.ref a0, .ref p1, .ref p2, .ref p3, .ref p4, .ref p5])), (p1, .inl (K 0, 21, .inl fb)), (p2, .inl (K 0, 21, .inl ff)), (p3, .inl (K 0, 273, .inl fo)), (p4, .inl (K 0, 252, .inl fk)), (p5, .inl (K 0, 252, .inl fa)), (a0, .inr (0, [.ref m0, .ref w0])), (m0, .inr (3, [.ref m1, .int br])), (m1, .inl (K 0, 64, .inl fs)), (w0, .inl (K 0, 9, .inl fw)), (t0, .inr (9, [.ref t1, .ref t3, .ref t2, .ref l0, .int n, .int lt, .int nf, .int fi, k_8, k_9])), (t1, .inl (K 0, 56, .inl f1)), (t2, .inl (K 0, 6, .inl f2)), (t3, .inl (K 0, 24, .inl f3)), (l0, .inl (K 4, 6, .inr (.inr (.inr (.inr fl)))))] sz)) 0 0 (va_A [(o0, .inr (11, [.ref t0, o_1, o_2, o_3, o_4, o_5, o_6, o_7, o_8, o_9, .ref p0, o_11, o_12, o_13, o_14, o_15, o_16])), (p0, .inr (5, [.ref a0, .ref p1, .ref p2, .ref p3, .ref p4, .ref p5])), (p1, .inl (K 0, 21, .inl fb)), (p2, .inl (K 0, 21, .inl ff)), (p3, .inl (K 0, 273, .inl fo)), (p4, .inl (K 0, 252, .inl fk)), (p5, .inl (K 0, 252, .inl fa)), (a0, .inr (0, [.ref m0, .ref w0])), (m0, .inr (3, [.ref m1, .int br])), (m1, .inl (K 0, 64, .inl fs)), (w0, .inl (K 0, 9, .inl fw)), (t0, .inr (9, [.ref t1, .ref t3, .ref t2, .ref l0, .int n, .int lt, .int nf, .int fi, k_8, k_9])), (t1, .inl (K 0, 56, .inl f1)), (t2, .inl (K 0, 6, .inl f2)), (t3, .inl (K 0, 24, .inl f3)), (l0, .inl (K 4, 6, .inr (.inr (.inr (.inr fl)))))] sz) := by
  refine Met.ofW (cc := cX11_least) (maxL := 5) (ret := (some .int)) (by decide) rfl ?_
  intro p e s m args below meth c s₁ B hml hv
  obtain ⟨rfl, ⟨hsz, hP, hK, hD0, hN⟩, hG, hPl, hRo⟩ := hv
  have hx := B.exec
  have hb := B.bytes
  have hr := B.returns
  have hts := atoms_spec (ws := wsX11_least) B.pre
  have hown : s.vm.findClass RX11 = some m.cls := findClass_of_methodNamed B.named
  have hlocks := B.notSynchronized
  subst hsz
  have hD := hD0.self (sz := s.heap.size)
  generalize hAe : va_A [(o0, .inr (11, [.ref t0, o_1, o_2, o_3, o_4, o_5, o_6, o_7, o_8, o_9, .ref p0, o_11, o_12, o_13, o_14, o_15, o_16])), (p0, .inr (5, [.ref a0, .ref p1, .ref p2, .ref p3, .ref p4, .ref p5])), (p1, .inl (K 0, 21, .inl fb)), (p2, .inl (K 0, 21, .inl ff)), (p3, .inl (K 0, 273, .inl fo)), (p4, .inl (K 0, 252, .inl fk)), (p5, .inl (K 0, 252, .inl fa)), (a0, .inr (0, [.ref m0, .ref w0])), (m0, .inr (3, [.ref m1, .int br])), (m1, .inl (K 0, 64, .inl fs)), (w0, .inl (K 0, 9, .inl fw)), (t0, .inr (9, [.ref t1, .ref t3, .ref t2, .ref l0, .int n, .int lt, .int nf, .int fi, k_8, k_9])), (t1, .inl (K 0, 56, .inl f1)), (t2, .inl (K 0, 6, .inl f2)), (t3, .inl (K 0, 24, .inl f3)), (l0, .inl (K 4, 6, .inr (.inr (.inr (.inr fl)))))] s.heap.size = A at hD hG hPl hRo ⊢
  have hA : ∀ q : Nat, s.heap.size ≤ q → A q := fun q h => by rw [← hAe]; exact Or.inr h
  have hS : va_S A s.heap s.heap [] := va_S.rf
  have hP : va_P D vwCl [(o0, .inr (11, [.ref t0, o_1, o_2, o_3, o_4, o_5, o_6, o_7, o_8, o_9, .ref p0, o_11, o_12, o_13, o_14, o_15, o_16])), (p0, .inr (5, [.ref a0, .ref p1, .ref p2, .ref p3, .ref p4, .ref p5])), (p1, .inl (K 0, 21, .inl fb)), (p2, .inl (K 0, 21, .inl ff)), (p3, .inl (K 0, 273, .inl fo)), (p4, .inl (K 0, 252, .inl fk)), (p5, .inl (K 0, 252, .inl fa)), (a0, .inr (0, [.ref m0, .ref w0])), (m0, .inr (3, [.ref m1, .int br])), (m1, .inl (K 0, 64, .inl fs)), (w0, .inl (K 0, 9, .inl fw)), (t0, .inr (9, [.ref t1, .ref t3, .ref t2, .ref l0, .int n, .int lt, .int nf, .int fi, k_8, k_9])), (t1, .inl (K 0, 56, .inl f1)), (t2, .inl (K 0, 6, .inl f2)), (t3, .inl (K 0, 24, .inl f3)), (l0, .inl (K 4, 6, .inr (.inr (.inr (.inr fl)))))] s.heap := hP
  have hl := lv_entry [.ref o0, .int x, .int y, .int z, .int w] (n := 5) (Nat.le_of_ble_eq_true rfl)
  rw [lg_entry_eq]
  generalize (lg_sl [.ref o0, .int x, .int y, .int z, .int w] ++ List.replicate (5 - (lg_sl [.ref o0, .int x, .int y, .int z, .int w]).length) Slot.unset).toArray = ls at hl ⊢
  have hl : lv_has ls 5 [(0, .ref o0), (1, .int x), (2, .int y), (3, .int z), (4, .int w)] := hl
  have hw0 : ∀ w ∈ wsX00, w ∈ wsX11_least := fun w h => (List.mem_cons_of_mem _ (List.mem_append_left _ (List.mem_append_left _ (List.mem_append_right _ h))))
  have hw3 : ∀ w ∈ wsX30, w ∈ wsX11_least := fun w h => (List.mem_cons_of_mem _ (List.mem_append_right _ h))
  have hw5 : ∀ w ∈ wsX50, w ∈ wsX11_least := fun w h => (List.mem_cons_of_mem _ (List.mem_append_left _ (List.mem_append_left _ (List.mem_append_left _ (List.mem_append_right _ h)))))
  have hw7 : ∀ w ∈ wsX70, w ∈ wsX11_least := fun w h => (List.mem_cons_of_mem _ (List.mem_append_left _ (List.mem_append_right _ h)))
  have hw9 : ∀ w ∈ wsX90, w ∈ wsX11_least := fun w h => (List.mem_cons_of_mem _ (List.mem_append_left _ (List.mem_append_left _ (List.mem_append_left _ (List.mem_append_left _ (List.mem_append_right _ h))))))
  have hw11 : ∀ w ∈ wsX110, w ∈ wsX11_least := fun w h => (List.mem_cons_of_mem _ (List.mem_append_left _ (List.mem_append_left _ (List.mem_append_left _ (List.mem_append_left _ (List.mem_append_left _ (List.mem_append_right _ h)))))))
  generalize hQ : MQ below _ _ s _ _ _ = Q
  refine lv_aload_n hx hb dX11_least_0 rfl (lv_at hl 0 rfl) ?_
  refine va_get (ci := 11) (v := .ref t0) (C := RX11) (T := TX11) (N := 17) hx hb hts hw11 hown hK hP 0 rfl rfl 0 (by decide) (hts (.fieldLink RX11 10 "SmokeTune" "town" "LSmokeTune$Town;") (List.mem_cons_of_mem _ (List.mem_append_left _ (List.mem_append_left _ (List.mem_append_left _ (List.mem_append_left _ (List.mem_append_left _ (List.mem_append_left _ (List.mem_append_left _ (List.mem_of_getElem? (i := 0) rfl)))))))))) (fun _ h9 => h9) rfl dX11_least_1 ?_
  refine lv_iload_n hx hb dX11_least_4 rfl (lv_at hl 1 rfl) ?_
  have j_233 : ∀ (H : Heap) (locs : List Loc) (hP : va_P D vwCl [(o0, .inr (11, [.ref t0, o_1, o_2, o_3, o_4, o_5, o_6, o_7, o_8, o_9, .ref p0, o_11, o_12, o_13, o_14, o_15, o_16])), (p0, .inr (5, [.ref a0, .ref p1, .ref p2, .ref p3, .ref p4, .ref p5])), (p1, .inl (K 0, 21, .inl fb)), (p2, .inl (K 0, 21, .inl ff)), (p3, .inl (K 0, 273, .inl fo)), (p4, .inl (K 0, 252, .inl fk)), (p5, .inl (K 0, 252, .inl fa)), (a0, .inr (0, [.ref m0, .ref w0])), (m0, .inr (3, [.ref m1, .int br])), (m1, .inl (K 0, 64, .inl fs)), (w0, .inl (K 0, 9, .inl fw)), (t0, .inr (9, [.ref t1, .ref t3, .ref t2, .ref l0, .int n, .int lt, .int nf, .int fi, k_8, k_9])), (t1, .inl (K 0, 56, .inl f1)), (t2, .inl (K 0, 6, .inl f2)), (t3, .inl (K 0, 24, .inl f3)), (l0, .inl (K 4, 6, .inr (.inr (.inr (.inr fl)))))] H) (hD : va_D A [(o0, .inr (11, [.ref t0, o_1, o_2, o_3, o_4, o_5, o_6, o_7, o_8, o_9, .ref p0, o_11, o_12, o_13, o_14, o_15, o_16])), (p0, .inr (5, [.ref a0, .ref p1, .ref p2, .ref p3, .ref p4, .ref p5])), (p1, .inl (K 0, 21, .inl fb)), (p2, .inl (K 0, 21, .inl ff)), (p3, .inl (K 0, 273, .inl fo)), (p4, .inl (K 0, 252, .inl fk)), (p5, .inl (K 0, 252, .inl fa)), (a0, .inr (0, [.ref m0, .ref w0])), (m0, .inr (3, [.ref m1, .int br])), (m1, .inl (K 0, 64, .inl fs)), (w0, .inl (K 0, 9, .inl fw)), (t0, .inr (9, [.ref t1, .ref t3, .ref t2, .ref l0, .int n, .int lt, .int nf, .int fi, k_8, k_9])), (t1, .inl (K 0, 56, .inl f1)), (t2, .inl (K 0, 6, .inl f2)), (t3, .inl (K 0, 24, .inl f3)), (l0, .inl (K 4, 6, .inr (.inr (.inr (.inr fl)))))]) (hS : va_S A s.heap H locs) (ls : Array Slot) (hl : lv_has ls 5 []), W p l e ({ frames := 5, cells := 0, slots := 0, locals := 134 }) s m (([.ref o0, .int x, .int y, .int z, .int w] : List Value).toArray) below meth c H locs 0 0 Q (F0 m 34 ls []) := by
    intro H locs hP hD hS ls hl
    refine lv_iconst (v := (-1)) hx hb dX11_least_34 (by decide) ?_
    rw [← hQ]
    have hP9 := hP.sub (ws' := [(o0, .inr (11, [.ref t0, o_1, o_2, o_3, o_4, o_5, o_6, o_7, o_8, o_9, .ref p0, o_11, o_12, o_13, o_14, o_15, o_16])), (p0, .inr (5, [.ref a0, .ref p1, .ref p2, .ref p3, .ref p4, .ref p5])), (p1, .inl (K 0, 21, .inl fb)), (p2, .inl (K 0, 21, .inl ff)), (p3, .inl (K 0, 273, .inl fo)), (p4, .inl (K 0, 252, .inl fk)), (p5, .inl (K 0, 252, .inl fa)), (a0, .inr (0, [.ref m0, .ref w0])), (m0, .inr (3, [.ref m1, .int br])), (m1, .inl (K 0, 64, .inl fs)), (w0, .inl (K 0, 9, .inl fw)), (t0, .inr (9, [.ref t1, .ref t3, .ref t2, .ref l0, .int n, .int lt, .int nf, .int fi, k_8, k_9])), (t1, .inl (K 0, 56, .inl f1)), (t2, .inl (K 0, 6, .inl f2)), (t3, .inl (K 0, 24, .inl f3)), (l0, .inl (K 4, 6, .inr (.inr (.inr (.inr fl)))))]) [0, 1, 2, 3, 4, 5, 6, 7, 8, 9, 10, 11, 12, 13, 14, 15] rfl
    have hD9 := hD.sub (ws' := [(o0, .inr (11, [.ref t0, o_1, o_2, o_3, o_4, o_5, o_6, o_7, o_8, o_9, .ref p0, o_11, o_12, o_13, o_14, o_15, o_16])), (p0, .inr (5, [.ref a0, .ref p1, .ref p2, .ref p3, .ref p4, .ref p5])), (p1, .inl (K 0, 21, .inl fb)), (p2, .inl (K 0, 21, .inl ff)), (p3, .inl (K 0, 273, .inl fo)), (p4, .inl (K 0, 252, .inl fk)), (p5, .inl (K 0, 252, .inl fa)), (a0, .inr (0, [.ref m0, .ref w0])), (m0, .inr (3, [.ref m1, .int br])), (m1, .inl (K 0, 64, .inl fs)), (w0, .inl (K 0, 9, .inl fw)), (t0, .inr (9, [.ref t1, .ref t3, .ref t2, .ref l0, .int n, .int lt, .int nf, .int fi, k_8, k_9])), (t1, .inl (K 0, 56, .inl f1)), (t2, .inl (K 0, 6, .inl f2)), (t3, .inl (K 0, 24, .inl f3)), (l0, .inl (K 4, 6, .inr (.inr (.inr (.inr fl)))))]) [0, 1, 2, 3, 4, 5, 6, 7, 8, 9, 10, 11, 12, 13, 14, 15] (by decide) rfl
    exact W.iret (v := (-1)) hx hb hr (fun t ht hW => ⟨⟨(-1), ((fun _ => 0, fun i => ([fb, ff, fo, fk, fa, fs, fw] : List _).getD i (fun _ => 0), fun _ => fun _ => 0, fun i => match i with | _ => br, fun _ => 0, fun _ => fun _ => none) : Su), rfl, ⟨zfb, zff, zfo, zfa, (show 0 ≤ (br : Int32).toInt ∧ (br : Int32).toInt ≤ 1 by omega), trivial⟩, (⟨by rw [ht]; exact hP9, hD9⟩ : Wd D A _ t)⟩, hS.F ht⟩) hS.2.2 dX11_least_35
  refine pci (va_runVN (As := [.int x]) (rest := []) ⟨hx, hb, hml, hown, hts⟩ (w_has l D K x.toInt n.toInt t0 x (.ref t1) (.ref t3) (.ref t2) (.ref l0) n (.int lt) (.int nf) (.int fi) k_8 k_9 s.heap.size rfl rfl) ⟨va_cnB 1 hts gX11_least_X9_has_n121 rfl rfl rfl (nst_at hN 19 rfl) (hts (.initialized RX9) (List.mem_cons_of_mem _ (List.mem_append_left _ (List.mem_append_left _ (List.mem_append_left _ (List.mem_append_left _ (List.mem_append_left _ (List.mem_append_left _ (List.mem_append_left _ (List.mem_of_getElem? (i := 3) rfl)))))))))) (by decide +kernel) ⟨Nat.le_of_ble_eq_true rfl, Nat.le_of_ble_eq_true rfl⟩, (hts (.instanceMethod yX9_has) (List.mem_cons_of_mem _ (List.mem_append_left _ (List.mem_append_left _ (List.mem_append_left _ (List.mem_append_left _ (List.mem_append_left _ (List.mem_append_left _ (List.mem_append_left _ (List.mem_of_getElem? (i := 2) rfl)))))))))), (hts (.selects RX9 yX9_has yX9_has) (List.mem_cons_of_mem _ (List.mem_append_left _ (List.mem_append_left _ (List.mem_append_left _ (List.mem_append_left _ (List.mem_append_left _ (List.mem_append_left _ (List.mem_append_left _ (List.mem_of_getElem? (i := 4) rfl))))))))))⟩ (mkV hK hN (hP.sub [11] rfl) (hD.sub [11] (by decide) rfl) (ci := 9) (q0 := 0) rfl rfl) rfl rfl hl.1 rfl (lv_room (Nat.le_of_ble_eq_true rfl)) dX11_least_5 ⟨Nat.le_of_ble_eq_true rfl, Nat.le_of_ble_eq_true rfl⟩) (fun r_234 hw => ?_)
  obtain ⟨hw, -⟩ := hw
  rcases hw with ⟨rfl, h_235, h_236⟩ | ⟨rfl, h_237⟩
  · refine lv_if_eq (tgt := 34) hx hb dX11_least_8 (by decide) (fun c_238 => absurd c_238 (by decide)) (fun c_238 => ?_)
    refine lv_iload_n hx hb dX11_least_11 rfl (lv_at hl 2 rfl) ?_
    refine lv_iconst (v := 1) hx hb dX11_least_12 (by decide) ?_
    refine lv_bipush (v := 12) hx hb dX11_least_13 (by decide) ?_
    refine pci (va_runS (As := [.int y, .int 1, .int 12]) (rest := []) ⟨hx, hb, hml, hown, hts⟩ (w_within l D K y.toInt 1 12 y 1 12 s.heap.size rfl (show (1 : Int32).toInt = 1 from rfl) (show (12 : Int32).toInt = 12 from rfl)) (va_cwS 3 hts gX11_least_X11_within rfl rfl rfl (by decide +kernel) ⟨Nat.le_of_ble_eq_true rfl, Nat.le_of_ble_eq_true rfl⟩) (mkS hK hN (va_P.nil) (va_D.nil (A := fun _ => True))) rfl rfl hl.1 rfl (lv_room (Nat.le_of_ble_eq_true rfl)) dX11_least_15 ⟨Nat.le_of_ble_eq_true rfl, Nat.le_of_ble_eq_true rfl⟩) (fun r_239 hw => ?_)
    obtain ⟨hw, -⟩ := hw
    rcases hw with ⟨rfl, h_240, h_241⟩ | ⟨rfl, h_242⟩
    · refine lv_if_eq (tgt := 34) hx hb dX11_least_18 (by decide) (fun c_243 => absurd c_243 (by decide)) (fun c_243 => ?_)
      refine lv_iload_n hx hb dX11_least_21 rfl (lv_at hl 3 rfl) ?_
      refine lv_iconst (v := 0) hx hb dX11_least_22 (by decide) ?_
      refine lv_iconst (v := 1) hx hb dX11_least_23 (by decide) ?_
      refine lv_iload_n hx hb dX11_least_24 rfl (lv_at hl 2 rfl) ?_
      refine lv_ishl hx hb dX11_least_25 ?_
      refine lv_topi (fun x_244 ex_244 => ?_)
      have hx_244 : 1 ≤ x_244.toInt ∧ x_244.toInt ≤ 4096 := by rw [ex_244]; exact i_shl1 rfl (n := 12) (by decide) (by omega)
      refine lv_iconst (v := 1) hx hb dX11_least_26 (by decide) ?_
      refine lv_isub hx hb dX11_least_27 ?_
      refine lv_topi (fun x_245 ex_245 => ?_)
      have hx_245 : x_245.toInt = (x_244.toInt - 1) := by rw [ex_245]; exact i_sub rfl (show (1 : Int32).toInt = 1 from rfl) (by omega)
      refine pci (va_runS (As := [.int z, .int 0, .int x_245]) (rest := []) ⟨hx, hb, hml, hown, hts⟩ (w_within l D K z.toInt 0 (x_244.toInt - 1) z 0 x_245 s.heap.size rfl (show (0 : Int32).toInt = 0 from rfl) hx_245) (va_cwS 3 hts gX11_least_X11_within rfl rfl rfl (by decide +kernel) ⟨Nat.le_of_ble_eq_true rfl, Nat.le_of_ble_eq_true rfl⟩) (mkS hK hN (va_P.nil) (va_D.nil (A := fun _ => True))) rfl rfl hl.1 rfl (lv_room (Nat.le_of_ble_eq_true rfl)) dX11_least_28 ⟨Nat.le_of_ble_eq_true rfl, Nat.le_of_ble_eq_true rfl⟩) (fun r_246 hw => ?_)
      obtain ⟨hw, -⟩ := hw
      rcases hw with ⟨rfl, h_247, h_248⟩ | ⟨rfl, h_249⟩
      · refine lv_if_ne (tgt := 36) hx hb dX11_least_31 (by decide) (fun c_250 => ?_) (fun c_250 => absurd c_250 (by decide))
        refine lv_iload hx hb dX11_least_36 (lv_at hl 4 rfl) ?_
        refine lv_iconst (v := (-1)) hx hb dX11_least_38 (by decide) ?_
        refine lv_iload_n hx hb dX11_least_39 rfl (lv_at hl 2 rfl) ?_
        refine lv_iconst (v := 1) hx hb dX11_least_40 (by decide) ?_
        refine lv_isub hx hb dX11_least_41 ?_
        refine lv_topi (fun x_251 ex_251 => ?_)
        have hx_251 : x_251.toInt = (y.toInt - 1) := by rw [ex_251]; exact i_sub rfl (show (1 : Int32).toInt = 1 from rfl) (by omega)
        refine pci (va_runS (As := [.int w, .int (-1), .int x_251]) (rest := []) ⟨hx, hb, hml, hown, hts⟩ (w_within l D K w.toInt (-1) (y.toInt - 1) w (-1) x_251 s.heap.size rfl (show ((-1) : Int32).toInt = (-1) from rfl) hx_251) (va_cwS 3 hts gX11_least_X11_within rfl rfl rfl (by decide +kernel) ⟨Nat.le_of_ble_eq_true rfl, Nat.le_of_ble_eq_true rfl⟩) (mkS hK hN (va_P.nil) (va_D.nil (A := fun _ => True))) rfl rfl hl.1 rfl (lv_room (Nat.le_of_ble_eq_true rfl)) dX11_least_42 ⟨Nat.le_of_ble_eq_true rfl, Nat.le_of_ble_eq_true rfl⟩) (fun r_252 hw => ?_)
        obtain ⟨hw, -⟩ := hw
        rcases hw with ⟨rfl, h_253, h_254⟩ | ⟨rfl, h_255⟩
        · refine lv_if_eq (tgt := 67) hx hb dX11_least_45 (by decide) (fun c_256 => absurd c_256 (by decide)) (fun c_256 => ?_)
          refine lv_aload_n hx hb dX11_least_48 rfl (lv_at hl 0 rfl) ?_
          refine va_get (ci := 11) (v := .ref p0) (C := RX11) (T := TX11) (N := 17) hx hb hts hw11 hown hK hP 0 rfl rfl 10 (by decide) (hts (.fieldLink RX11 68 "SmokeTune" "plan" "LSmokeTune$Plan;") (List.mem_cons_of_mem _ (List.mem_append_left _ (List.mem_append_left _ (List.mem_append_left _ (List.mem_append_left _ (List.mem_append_left _ (List.mem_append_left _ (List.mem_append_left _ (List.mem_of_getElem? (i := 1) rfl)))))))))) (fun _ h9 => h9) rfl dX11_least_49 ?_
          refine lv_aload_n hx hb dX11_least_52 rfl (lv_at hl 0 rfl) ?_
          refine va_get (ci := 11) (v := .ref t0) (C := RX11) (T := TX11) (N := 17) hx hb hts hw11 hown hK hP 0 rfl rfl 0 (by decide) (hts (.fieldLink RX11 10 "SmokeTune" "town" "LSmokeTune$Town;") (List.mem_cons_of_mem _ (List.mem_append_left _ (List.mem_append_left _ (List.mem_append_left _ (List.mem_append_left _ (List.mem_append_left _ (List.mem_append_left _ (List.mem_append_left _ (List.mem_of_getElem? (i := 0) rfl)))))))))) (fun _ h9 => h9) rfl dX11_least_53 ?_
          refine lv_iload_n hx hb dX11_least_56 rfl (lv_at hl 1 rfl) ?_
          refine lv_iload_n hx hb dX11_least_57 rfl (lv_at hl 2 rfl) ?_
          refine lv_iload_n hx hb dX11_least_58 rfl (lv_at hl 3 rfl) ?_
          refine lv_iload hx hb dX11_least_59 (lv_at hl 4 rfl) ?_
          refine kci (S := Su) (wr := [(o0, .inr (11, [.ref t0, o_1, o_2, o_3, o_4, o_5, o_6, o_7, o_8, o_9, .ref p0, o_11, o_12, o_13, o_14, o_15, o_16]))]) (va_runVN (As := [.ref t0, .int x, .int y, .int z, .int w]) (rest := []) ⟨hx, hb, hml, hown, hts⟩ (w_leastCoal l D K g L p0 t0 x y z w a0 p1 p2 p3 p4 p5 fb ff fo fk fa m0 w0 m1 br fs fw t1 t3 t2 l0 n lt nf fi k_8 k_9 f1 f2 f3 fl s.heap.size (by first | omega | decide) (by first | omega | decide) (by first | omega | decide) (by first | omega | decide) (by first | omega | decide) zfb zff zfo zfa zfl) ⟨va_cnB 5 hts gX11_least_X5_leastCoal_n245 rfl rfl rfl (nst_at hN 76 rfl) (hts (.initialized RX5) (List.mem_cons_of_mem _ (List.mem_append_left _ (List.mem_append_left _ (List.mem_append_left _ (List.mem_append_left _ (List.mem_append_left _ (List.mem_append_left _ (List.mem_append_left _ (List.mem_of_getElem? (i := 12) rfl)))))))))) (by decide +kernel) ⟨Nat.le_of_ble_eq_true rfl, Nat.le_of_ble_eq_true rfl⟩, (hts (.instanceMethod yX5_leastCoal) (List.mem_cons_of_mem _ (List.mem_append_left _ (List.mem_append_left _ (List.mem_append_left _ (List.mem_append_left _ (List.mem_append_left _ (List.mem_append_left _ (List.mem_append_left _ (List.mem_of_getElem? (i := 11) rfl)))))))))), (hts (.selects RX5 yX5_leastCoal yX5_leastCoal) (List.mem_cons_of_mem _ (List.mem_append_left _ (List.mem_append_left _ (List.mem_append_left _ (List.mem_append_left _ (List.mem_append_left _ (List.mem_append_left _ (List.mem_append_left _ (List.mem_of_getElem? (i := 13) rfl))))))))))⟩ (mkVY hK hN (hP.sub [1, 2, 3, 4, 5, 6, 7, 8, 9, 10, 11, 12, 13, 14, 15] rfl) (hD.sub [1, 2, 3, 4, 5, 6, 7, 8, 9, 10, 11, 12, 13, 14, 15] (by decide) rfl) (ci := 5) (q0 := 0) rfl rfl (fun U hU hW => ⟨Gl.at hG hS hW hU (fun q h => va_free hD hS hA [1, 2, 3, 4, 5, 6, 7, 8, 9, 10, 11, 12, 13, 14, 15] rfl q h), Pool.at hPl hS hU (fun q h => va_free hD hS hA [1, 2, 3, 4, 5, 6, 7, 8, 9, 10, 11, 12, 13, 14, 15] rfl q h), Ro.heap hU (Ro.nil)⟩)) rfl rfl hl.1 rfl (lv_room (Nat.le_of_ble_eq_true rfl)) dX11_least_61 ⟨Nat.le_of_ble_eq_true rfl, Nat.le_of_ble_eq_true rfl⟩) hP hD hS hA [1, 2, 3, 4, 5, 6, 7, 8, 9, 10, 11, 12, 13, 14, 15] [0] rfl rfl (by decide) (by decide) (fun r_257 u_258 H locs hw hP hD hS => ?_)
          have hP : va_P D vwCl [(o0, .inr (11, [.ref t0, o_1, o_2, o_3, o_4, o_5, o_6, o_7, o_8, o_9, .ref p0, o_11, o_12, o_13, o_14, o_15, o_16])), (p0, .inr (5, [.ref a0, .ref p1, .ref p2, .ref p3, .ref p4, .ref p5])), (p1, .inl (K 0, 21, .inl (u_258.2.1 0))), (p2, .inl (K 0, 21, .inl (u_258.2.1 1))), (p3, .inl (K 0, 273, .inl (u_258.2.1 2))), (p4, .inl (K 0, 252, .inl (u_258.2.1 3))), (p5, .inl (K 0, 252, .inl (u_258.2.1 4))), (a0, .inr (0, [.ref m0, .ref w0])), (m0, .inr (3, [.ref m1, .int (u_258.2.2.2.1 0)])), (m1, .inl (K 0, 64, .inl (u_258.2.1 5))), (w0, .inl (K 0, 9, .inl (u_258.2.1 6))), (t0, .inr (9, [.ref t1, .ref t3, .ref t2, .ref l0, .int n, .int lt, .int nf, .int fi, k_8, k_9])), (t1, .inl (K 0, 56, .inl f1)), (t2, .inl (K 0, 6, .inl f2)), (t3, .inl (K 0, 24, .inl f3)), (l0, .inl (K 4, 6, .inr (.inr (.inr (.inr fl)))))] H := hP
          have hD : va_D A [(o0, .inr (11, [.ref t0, o_1, o_2, o_3, o_4, o_5, o_6, o_7, o_8, o_9, .ref p0, o_11, o_12, o_13, o_14, o_15, o_16])), (p0, .inr (5, [.ref a0, .ref p1, .ref p2, .ref p3, .ref p4, .ref p5])), (p1, .inl (K 0, 21, .inl (u_258.2.1 0))), (p2, .inl (K 0, 21, .inl (u_258.2.1 1))), (p3, .inl (K 0, 273, .inl (u_258.2.1 2))), (p4, .inl (K 0, 252, .inl (u_258.2.1 3))), (p5, .inl (K 0, 252, .inl (u_258.2.1 4))), (a0, .inr (0, [.ref m0, .ref w0])), (m0, .inr (3, [.ref m1, .int (u_258.2.2.2.1 0)])), (m1, .inl (K 0, 64, .inl (u_258.2.1 5))), (w0, .inl (K 0, 9, .inl (u_258.2.1 6))), (t0, .inr (9, [.ref t1, .ref t3, .ref t2, .ref l0, .int n, .int lt, .int nf, .int fi, k_8, k_9])), (t1, .inl (K 0, 56, .inl f1)), (t2, .inl (K 0, 6, .inl f2)), (t3, .inl (K 0, 24, .inl f3)), (l0, .inl (K 4, 6, .inr (.inr (.inr (.inr fl)))))] := hD
          obtain ⟨k_259, k_260, k_261, k_262, k_263, -⟩ := hw
          refine lv_goto (tgt := 68) hx hb dX11_least_64 (by decide) ?_
          rw [← hQ]
          have hP9 := hP.sub (ws' := [(o0, .inr (11, [.ref t0, o_1, o_2, o_3, o_4, o_5, o_6, o_7, o_8, o_9, .ref p0, o_11, o_12, o_13, o_14, o_15, o_16])), (p0, .inr (5, [.ref a0, .ref p1, .ref p2, .ref p3, .ref p4, .ref p5])), (p1, .inl (K 0, 21, .inl (u_258.2.1 0))), (p2, .inl (K 0, 21, .inl (u_258.2.1 1))), (p3, .inl (K 0, 273, .inl (u_258.2.1 2))), (p4, .inl (K 0, 252, .inl (u_258.2.1 3))), (p5, .inl (K 0, 252, .inl (u_258.2.1 4))), (a0, .inr (0, [.ref m0, .ref w0])), (m0, .inr (3, [.ref m1, .int (u_258.2.2.2.1 0)])), (m1, .inl (K 0, 64, .inl (u_258.2.1 5))), (w0, .inl (K 0, 9, .inl (u_258.2.1 6))), (t0, .inr (9, [.ref t1, .ref t3, .ref t2, .ref l0, .int n, .int lt, .int nf, .int fi, k_8, k_9])), (t1, .inl (K 0, 56, .inl f1)), (t2, .inl (K 0, 6, .inl f2)), (t3, .inl (K 0, 24, .inl f3)), (l0, .inl (K 4, 6, .inr (.inr (.inr (.inr fl)))))]) [0, 1, 2, 3, 4, 5, 6, 7, 8, 9, 10, 11, 12, 13, 14, 15] rfl
          have hD9 := hD.sub (ws' := [(o0, .inr (11, [.ref t0, o_1, o_2, o_3, o_4, o_5, o_6, o_7, o_8, o_9, .ref p0, o_11, o_12, o_13, o_14, o_15, o_16])), (p0, .inr (5, [.ref a0, .ref p1, .ref p2, .ref p3, .ref p4, .ref p5])), (p1, .inl (K 0, 21, .inl (u_258.2.1 0))), (p2, .inl (K 0, 21, .inl (u_258.2.1 1))), (p3, .inl (K 0, 273, .inl (u_258.2.1 2))), (p4, .inl (K 0, 252, .inl (u_258.2.1 3))), (p5, .inl (K 0, 252, .inl (u_258.2.1 4))), (a0, .inr (0, [.ref m0, .ref w0])), (m0, .inr (3, [.ref m1, .int (u_258.2.2.2.1 0)])), (m1, .inl (K 0, 64, .inl (u_258.2.1 5))), (w0, .inl (K 0, 9, .inl (u_258.2.1 6))), (t0, .inr (9, [.ref t1, .ref t3, .ref t2, .ref l0, .int n, .int lt, .int nf, .int fi, k_8, k_9])), (t1, .inl (K 0, 56, .inl f1)), (t2, .inl (K 0, 6, .inl f2)), (t3, .inl (K 0, 24, .inl f3)), (l0, .inl (K 4, 6, .inr (.inr (.inr (.inr fl)))))]) [0, 1, 2, 3, 4, 5, 6, 7, 8, 9, 10, 11, 12, 13, 14, 15] (by decide) rfl
          exact W.iret (v := r_257) hx hb hr (fun t ht hW => ⟨⟨r_257, ((fun _ => 0, fun i => ([(u_258.2.1 0), (u_258.2.1 1), (u_258.2.1 2), (u_258.2.1 3), (u_258.2.1 4), (u_258.2.1 5), (u_258.2.1 6)] : List _).getD i (fun _ => 0), fun _ => fun _ => 0, fun i => match i with | _ => (u_258.2.2.2.1 0), fun _ => 0, fun _ => fun _ => none) : Su), rfl, ⟨k_259, k_260, k_261, k_262, (show 0 ≤ ((u_258.2.2.2.1 0) : Int32).toInt ∧ ((u_258.2.2.2.1 0) : Int32).toInt ≤ 1 by omega), trivial⟩, (⟨by rw [ht]; exact hP9, hD9⟩ : Wd D A _ t)⟩, hS.F ht⟩) hS.2.2 dX11_least_68
        · refine lv_if_eq (tgt := 67) hx hb dX11_least_45 (by decide) (fun c_264 => ?_) (fun c_264 => absurd (by decide) c_264)
          refine lv_iconst (v := (-1)) hx hb dX11_least_67 (by decide) ?_
          rw [← hQ]
          have hP9 := hP.sub (ws' := [(o0, .inr (11, [.ref t0, o_1, o_2, o_3, o_4, o_5, o_6, o_7, o_8, o_9, .ref p0, o_11, o_12, o_13, o_14, o_15, o_16])), (p0, .inr (5, [.ref a0, .ref p1, .ref p2, .ref p3, .ref p4, .ref p5])), (p1, .inl (K 0, 21, .inl fb)), (p2, .inl (K 0, 21, .inl ff)), (p3, .inl (K 0, 273, .inl fo)), (p4, .inl (K 0, 252, .inl fk)), (p5, .inl (K 0, 252, .inl fa)), (a0, .inr (0, [.ref m0, .ref w0])), (m0, .inr (3, [.ref m1, .int br])), (m1, .inl (K 0, 64, .inl fs)), (w0, .inl (K 0, 9, .inl fw)), (t0, .inr (9, [.ref t1, .ref t3, .ref t2, .ref l0, .int n, .int lt, .int nf, .int fi, k_8, k_9])), (t1, .inl (K 0, 56, .inl f1)), (t2, .inl (K 0, 6, .inl f2)), (t3, .inl (K 0, 24, .inl f3)), (l0, .inl (K 4, 6, .inr (.inr (.inr (.inr fl)))))]) [0, 1, 2, 3, 4, 5, 6, 7, 8, 9, 10, 11, 12, 13, 14, 15] rfl
          have hD9 := hD.sub (ws' := [(o0, .inr (11, [.ref t0, o_1, o_2, o_3, o_4, o_5, o_6, o_7, o_8, o_9, .ref p0, o_11, o_12, o_13, o_14, o_15, o_16])), (p0, .inr (5, [.ref a0, .ref p1, .ref p2, .ref p3, .ref p4, .ref p5])), (p1, .inl (K 0, 21, .inl fb)), (p2, .inl (K 0, 21, .inl ff)), (p3, .inl (K 0, 273, .inl fo)), (p4, .inl (K 0, 252, .inl fk)), (p5, .inl (K 0, 252, .inl fa)), (a0, .inr (0, [.ref m0, .ref w0])), (m0, .inr (3, [.ref m1, .int br])), (m1, .inl (K 0, 64, .inl fs)), (w0, .inl (K 0, 9, .inl fw)), (t0, .inr (9, [.ref t1, .ref t3, .ref t2, .ref l0, .int n, .int lt, .int nf, .int fi, k_8, k_9])), (t1, .inl (K 0, 56, .inl f1)), (t2, .inl (K 0, 6, .inl f2)), (t3, .inl (K 0, 24, .inl f3)), (l0, .inl (K 4, 6, .inr (.inr (.inr (.inr fl)))))]) [0, 1, 2, 3, 4, 5, 6, 7, 8, 9, 10, 11, 12, 13, 14, 15] (by decide) rfl
          exact W.iret (v := (-1)) hx hb hr (fun t ht hW => ⟨⟨(-1), ((fun _ => 0, fun i => ([fb, ff, fo, fk, fa, fs, fw] : List _).getD i (fun _ => 0), fun _ => fun _ => 0, fun i => match i with | _ => br, fun _ => 0, fun _ => fun _ => none) : Su), rfl, ⟨zfb, zff, zfo, zfa, (show 0 ≤ (br : Int32).toInt ∧ (br : Int32).toInt ≤ 1 by omega), trivial⟩, (⟨by rw [ht]; exact hP9, hD9⟩ : Wd D A _ t)⟩, hS.F ht⟩) hS.2.2 dX11_least_68
      · refine lv_if_ne (tgt := 36) hx hb dX11_least_31 (by decide) (fun c_265 => absurd (by decide) c_265) (fun c_265 => ?_)
        exact j_233   _ _ hP hD hS ls (lv_sub hl [] rfl)
    · refine lv_if_eq (tgt := 34) hx hb dX11_least_18 (by decide) (fun c_266 => ?_) (fun c_266 => absurd (by decide) c_266)
      exact j_233   _ _ hP hD hS ls (lv_sub hl [] rfl)
  · refine lv_if_eq (tgt := 34) hx hb dX11_least_8 (by decide) (fun c_267 => ?_) (fun c_267 => absurd (by decide) c_267)
    exact j_233   _ _ hP hD hS ls (lv_sub hl [] rfl)
set_option maxHeartbeats 4000000 in
set_option maxRecDepth 100000 in
theorem w_rings (l : Launch) (D : va_G) (K : Nat → ClassId) (o0 : Nat) (x : Int32) (t0 : Nat) (o_1 : Value) (o_2 : Value) (o_3 : Value) (o_4 : Value) (o_5 : Value) (o_6 : Value) (o_7 : Value) (o_8 : Value) (o_9 : Value) (o_10 : Value) (p0 : Nat) (o_12 : Value) (o_13 : Value) (o_14 : Value) (o_15 : Value) (o_16 : Value) (p1 : Nat) (p2 : Nat) (p3 : Nat) (p4 : Nat) (p5 : Nat) (fd : Nat → Int32) (fp : Nat → Int32) (t1 : Nat) (k_1 : Value) (t2 : Nat) (k_3 : Value) (n : Int32) (k_5 : Value) (k_6 : Value) (k_7 : Value) (k_8 : Value) (ho : Int32) (f1 : Nat → Int32) (f2 : Nat → Int32) (sz : Nat) (zn : 0 ≤ n.toInt ∧ n.toInt ≤ 8) (zfp : Rg 8 0 7 fp) : Met l yX11_rings wsX11_rings ({ frames := 3, cells := 0, slots := 0, locals := 76 }) (va_Pc [.ref o0, .int x] (Pre D K [(o0, .inr (11, [.ref t0, o_1, o_2, o_3, o_4, o_5, o_6, o_7, o_8, o_9, o_10, .ref p0, o_12, o_13, o_14, o_15, o_16])), (p0, .inr (4, [.ref p1, .ref p2, .ref p3, .ref p4, .ref p5])), (p1, .inl (K 0, 8, .inl fd)), (p2, .inl (K 0, 8, .inl fp)), (t0, .inr (9, [.ref t1, k_1, .ref t2, k_3, .int n, k_5, k_6, k_7, k_8, .int ho])), (t1, .inl (K 0, 56, .inl f1)), (t2, .inl (K 0, 6, .inl f2))] sz)) (va_Qi (S := Su) (fun (r : Int32) (u : Su) => (Rg 8 0 7 (u.2.1 1)) ∧ True) (fun u t => Wd D (va_A [(o0, .inr (11, [.ref t0, o_1, o_2, o_3, o_4, o_5, o_6, o_7, o_8, o_9, o_10, .ref p0, o_12, o_13, o_14, o_15, o_16])), (p0, .inr (4, [.ref p1, .ref p2, .ref p3, .ref p4, .ref p5])), (p1, .inl (K 0, 8, .inl fd)), (p2, .inl (K 0, 8, .inl fp)), (t0, .inr (9, [.ref t1, k_1, .ref t2, k_3, .int n, k_5, k_6, k_7, k_8, .int ho])), (t1, .inl (K 0, 56, .inl f1)), (t2, .inl (K 0, 6, .inl f2))] sz) ((fun u => [(o0, .inr (11, [.ref t0, o_1, o_2, o_3, o_4, o_5, o_6, o_7, o_8, o_9, o_10, .ref p0, o_12, o_13, o_14, o_15, o_16])), (p0, .inr (4, [.ref p1, .ref p2, .ref p3, .ref p4, .ref p5])), (p1, .inl (K 0, 8, .inl (u.2.1 0))), (p2, .inl (K 0, 8, .inl (u.2.1 1))), (t0, .inr (9, [.ref t1, k_1, .ref t2, k_3, .int n, k_5, k_6, k_7, k_8, .int ho])), (t1, .inl (K 0, 56, .inl f1)), (t2, .inl (K 0, 6, .inl f2))]) u) t) (va_A [(o0, .inr (11, [.ref t0, o_1, o_2, o_3, o_4, o_5, o_6, o_7, o_8, o_9, o_10, .ref p0, o_12, o_13, o_14, o_15, o_16])), (p0, .inr (4, [.ref p1, .ref p2, .ref p3, .ref p4, .ref p5])), (p1, .inl (K 0, 8, .inl fd)), (p2, .inl (K 0, 8, .inl fp)), (t0, .inr (9, [.ref t1, k_1, .ref t2, k_3, .int n, k_5, k_6, k_7, k_8, .int ho])), (t1, .inl (K 0, 56, .inl f1)), (t2, .inl (K 0, 6, .inl f2))] sz)) 0 0 (va_A [(o0, .inr (11, [.ref t0, o_1, o_2, o_3, o_4, o_5, o_6, o_7, o_8, o_9, o_10, .ref p0, o_12, o_13, o_14, o_15, o_16])), (p0, .inr (4, [.ref p1, .ref p2, .ref p3, .ref p4, .ref p5])), (p1, .inl (K 0, 8, .inl fd)), (p2, .inl (K 0, 8, .inl fp)), (t0, .inr (9, [.ref t1, k_1, .ref t2, k_3, .int n, k_5, k_6, k_7, k_8, .int ho])), (t1, .inl (K 0, 56, .inl f1)), (t2, .inl (K 0, 6, .inl f2))] sz) := by
  refine Met.ofW (cc := cX11_rings) (maxL := 2) (ret := (some .int)) (by decide) rfl ?_
  intro p e s m args below meth c s₁ B hml hv
  obtain ⟨rfl, hsz, hP, hK, hD0, hN⟩ := hv
  have hx := B.exec
  have hb := B.bytes
  have hr := B.returns
  have hts := atoms_spec (ws := wsX11_rings) B.pre
  have hown : s.vm.findClass RX11 = some m.cls := findClass_of_methodNamed B.named
  have hlocks := B.notSynchronized
  subst hsz
  have hD := hD0.self (sz := s.heap.size)
  generalize hAe : va_A [(o0, .inr (11, [.ref t0, o_1, o_2, o_3, o_4, o_5, o_6, o_7, o_8, o_9, o_10, .ref p0, o_12, o_13, o_14, o_15, o_16])), (p0, .inr (4, [.ref p1, .ref p2, .ref p3, .ref p4, .ref p5])), (p1, .inl (K 0, 8, .inl fd)), (p2, .inl (K 0, 8, .inl fp)), (t0, .inr (9, [.ref t1, k_1, .ref t2, k_3, .int n, k_5, k_6, k_7, k_8, .int ho])), (t1, .inl (K 0, 56, .inl f1)), (t2, .inl (K 0, 6, .inl f2))] s.heap.size = A at hD ⊢
  have hA : ∀ q : Nat, s.heap.size ≤ q → A q := fun q h => by rw [← hAe]; exact Or.inr h
  have hS : va_S A s.heap s.heap [] := va_S.rf
  have hP : va_P D vwCl [(o0, .inr (11, [.ref t0, o_1, o_2, o_3, o_4, o_5, o_6, o_7, o_8, o_9, o_10, .ref p0, o_12, o_13, o_14, o_15, o_16])), (p0, .inr (4, [.ref p1, .ref p2, .ref p3, .ref p4, .ref p5])), (p1, .inl (K 0, 8, .inl fd)), (p2, .inl (K 0, 8, .inl fp)), (t0, .inr (9, [.ref t1, k_1, .ref t2, k_3, .int n, k_5, k_6, k_7, k_8, .int ho])), (t1, .inl (K 0, 56, .inl f1)), (t2, .inl (K 0, 6, .inl f2))] s.heap := hP
  have hl := lv_entry [.ref o0, .int x] (n := 2) (Nat.le_of_ble_eq_true rfl)
  rw [lg_entry_eq]
  generalize (lg_sl [.ref o0, .int x] ++ List.replicate (2 - (lg_sl [.ref o0, .int x]).length) Slot.unset).toArray = ls at hl ⊢
  have hl : lv_has ls 2 [(0, .ref o0), (1, .int x)] := hl
  have hw4 : ∀ w ∈ wsX40, w ∈ wsX11_rings := fun w h => (List.mem_cons_of_mem _ (List.mem_append_right _ h))
  have hw9 : ∀ w ∈ wsX90, w ∈ wsX11_rings := fun w h => (List.mem_cons_of_mem _ (List.mem_append_left _ (List.mem_append_right _ h)))
  have hw11 : ∀ w ∈ wsX110, w ∈ wsX11_rings := fun w h => (List.mem_cons_of_mem _ (List.mem_append_left _ (List.mem_append_left _ (List.mem_append_right _ h))))
  generalize hQ : MQ below _ _ s _ _ _ = Q
  refine lv_aload_n hx hb dX11_rings_0 rfl (lv_at hl 0 rfl) ?_
  refine va_get (ci := 11) (v := .ref t0) (C := RX11) (T := TX11) (N := 17) hx hb hts hw11 hown hK hP 0 rfl rfl 0 (by decide) (hts (.fieldLink RX11 10 "SmokeTune" "town" "LSmokeTune$Town;") (List.mem_cons_of_mem _ (List.mem_append_left _ (List.mem_append_left _ (List.mem_append_left _ (List.mem_append_left _ (List.mem_of_getElem? (i := 0) rfl))))))) (fun _ h9 => h9) rfl dX11_rings_1 ?_
  refine lv_iload_n hx hb dX11_rings_4 rfl (lv_at hl 1 rfl) ?_
  refine pci (va_runVN (As := [.int x]) (rest := []) ⟨hx, hb, hml, hown, hts⟩ (w_has l D K x.toInt n.toInt t0 x (.ref t1) k_1 (.ref t2) k_3 n k_5 k_6 k_7 k_8 (.int ho) s.heap.size rfl rfl) ⟨va_cnB 1 hts gX11_rings_X9_has_n121 rfl rfl rfl (nst_at hN 19 rfl) (hts (.initialized RX9) (List.mem_cons_of_mem _ (List.mem_append_left _ (List.mem_append_left _ (List.mem_append_left _ (List.mem_append_left _ (List.mem_of_getElem? (i := 3) rfl))))))) (by decide +kernel) ⟨Nat.le_of_ble_eq_true rfl, Nat.le_of_ble_eq_true rfl⟩, (hts (.instanceMethod yX9_has) (List.mem_cons_of_mem _ (List.mem_append_left _ (List.mem_append_left _ (List.mem_append_left _ (List.mem_append_left _ (List.mem_of_getElem? (i := 2) rfl))))))), (hts (.selects RX9 yX9_has yX9_has) (List.mem_cons_of_mem _ (List.mem_append_left _ (List.mem_append_left _ (List.mem_append_left _ (List.mem_append_left _ (List.mem_of_getElem? (i := 4) rfl)))))))⟩ (mkV hK hN (hP.sub [4] rfl) (hD.sub [4] (by decide) rfl) (ci := 9) (q0 := 0) rfl rfl) rfl rfl hl.1 rfl (lv_room (Nat.le_of_ble_eq_true rfl)) dX11_rings_5 ⟨Nat.le_of_ble_eq_true rfl, Nat.le_of_ble_eq_true rfl⟩) (fun r_79 hw => ?_)
  obtain ⟨hw, -⟩ := hw
  rcases hw with ⟨rfl, h_80, h_81⟩ | ⟨rfl, h_82⟩
  · refine lv_if_eq (tgt := 26) hx hb dX11_rings_8 (by decide) (fun c_83 => absurd c_83 (by decide)) (fun c_83 => ?_)
    refine lv_aload_n hx hb dX11_rings_11 rfl (lv_at hl 0 rfl) ?_
    refine va_get (ci := 11) (v := .ref p0) (C := RX11) (T := TX11) (N := 17) hx hb hts hw11 hown hK hP 0 rfl rfl 11 (by decide) (hts (.fieldLink RX11 75 "SmokeTune" "paper" "LSmokeTune$Paper;") (List.mem_cons_of_mem _ (List.mem_append_left _ (List.mem_append_left _ (List.mem_append_left _ (List.mem_append_left _ (List.mem_of_getElem? (i := 1) rfl))))))) (fun _ h9 => h9) rfl dX11_rings_12 ?_
    refine lv_aload_n hx hb dX11_rings_15 rfl (lv_at hl 0 rfl) ?_
    refine va_get (ci := 11) (v := .ref t0) (C := RX11) (T := TX11) (N := 17) hx hb hts hw11 hown hK hP 0 rfl rfl 0 (by decide) (hts (.fieldLink RX11 10 "SmokeTune" "town" "LSmokeTune$Town;") (List.mem_cons_of_mem _ (List.mem_append_left _ (List.mem_append_left _ (List.mem_append_left _ (List.mem_append_left _ (List.mem_of_getElem? (i := 0) rfl))))))) (fun _ h9 => h9) rfl dX11_rings_16 ?_
    refine lv_iload_n hx hb dX11_rings_19 rfl (lv_at hl 1 rfl) ?_
    refine kci (S := Su) (wr := [(o0, .inr (11, [.ref t0, o_1, o_2, o_3, o_4, o_5, o_6, o_7, o_8, o_9, o_10, .ref p0, o_12, o_13, o_14, o_15, o_16]))]) (va_runVN (As := [.ref t0, .int x]) (rest := []) ⟨hx, hb, hml, hown, hts⟩ (w_swapped l D K p0 t0 x p1 p2 p3 p4 p5 fd fp t1 k_1 t2 k_3 n k_5 k_6 k_7 k_8 ho f1 f2 s.heap.size (by first | omega | decide) zfp) ⟨va_cnB 2 hts gX11_rings_X4_swapped_n249 rfl rfl rfl (nst_at hN 83 rfl) (hts (.initialized RX4) (List.mem_cons_of_mem _ (List.mem_append_left _ (List.mem_append_left _ (List.mem_append_left _ (List.mem_append_left _ (List.mem_of_getElem? (i := 8) rfl))))))) (by decide +kernel) ⟨Nat.le_of_ble_eq_true rfl, Nat.le_of_ble_eq_true rfl⟩, (hts (.instanceMethod yX4_swapped) (List.mem_cons_of_mem _ (List.mem_append_left _ (List.mem_append_left _ (List.mem_append_left _ (List.mem_append_left _ (List.mem_of_getElem? (i := 7) rfl))))))), (hts (.selects RX4 yX4_swapped yX4_swapped) (List.mem_cons_of_mem _ (List.mem_append_left _ (List.mem_append_left _ (List.mem_append_left _ (List.mem_append_left _ (List.mem_of_getElem? (i := 9) rfl)))))))⟩ (mkV hK hN (hP.sub [1, 2, 3, 4, 5, 6] rfl) (hD.sub [1, 2, 3, 4, 5, 6] (by decide) rfl) (ci := 4) (q0 := 0) rfl rfl) rfl rfl hl.1 rfl (lv_room (Nat.le_of_ble_eq_true rfl)) dX11_rings_20 ⟨Nat.le_of_ble_eq_true rfl, Nat.le_of_ble_eq_true rfl⟩) hP hD hS hA [1, 2, 3, 4, 5, 6] [0] rfl rfl (by decide) (by decide) (fun r_84 u_85 H locs hw hP hD hS => ?_)
    have hP : va_P D vwCl [(o0, .inr (11, [.ref t0, o_1, o_2, o_3, o_4, o_5, o_6, o_7, o_8, o_9, o_10, .ref p0, o_12, o_13, o_14, o_15, o_16])), (p0, .inr (4, [.ref p1, .ref p2, .ref p3, .ref p4, .ref p5])), (p1, .inl (K 0, 8, .inl (u_85.2.1 0))), (p2, .inl (K 0, 8, .inl (u_85.2.1 1))), (t0, .inr (9, [.ref t1, k_1, .ref t2, k_3, .int n, k_5, k_6, k_7, k_8, .int ho])), (t1, .inl (K 0, 56, .inl f1)), (t2, .inl (K 0, 6, .inl f2))] H := hP
    have hD : va_D A [(o0, .inr (11, [.ref t0, o_1, o_2, o_3, o_4, o_5, o_6, o_7, o_8, o_9, o_10, .ref p0, o_12, o_13, o_14, o_15, o_16])), (p0, .inr (4, [.ref p1, .ref p2, .ref p3, .ref p4, .ref p5])), (p1, .inl (K 0, 8, .inl (u_85.2.1 0))), (p2, .inl (K 0, 8, .inl (u_85.2.1 1))), (t0, .inr (9, [.ref t1, k_1, .ref t2, k_3, .int n, k_5, k_6, k_7, k_8, .int ho])), (t1, .inl (K 0, 56, .inl f1)), (t2, .inl (K 0, 6, .inl f2))] := hD
    obtain ⟨k_86, -⟩ := hw
    refine lv_goto (tgt := 27) hx hb dX11_rings_23 (by decide) ?_
    rw [← hQ]
    have hP9 := hP.sub (ws' := [(o0, .inr (11, [.ref t0, o_1, o_2, o_3, o_4, o_5, o_6, o_7, o_8, o_9, o_10, .ref p0, o_12, o_13, o_14, o_15, o_16])), (p0, .inr (4, [.ref p1, .ref p2, .ref p3, .ref p4, .ref p5])), (p1, .inl (K 0, 8, .inl (u_85.2.1 0))), (p2, .inl (K 0, 8, .inl (u_85.2.1 1))), (t0, .inr (9, [.ref t1, k_1, .ref t2, k_3, .int n, k_5, k_6, k_7, k_8, .int ho])), (t1, .inl (K 0, 56, .inl f1)), (t2, .inl (K 0, 6, .inl f2))]) [0, 1, 2, 3, 4, 5, 6] rfl
    have hD9 := hD.sub (ws' := [(o0, .inr (11, [.ref t0, o_1, o_2, o_3, o_4, o_5, o_6, o_7, o_8, o_9, o_10, .ref p0, o_12, o_13, o_14, o_15, o_16])), (p0, .inr (4, [.ref p1, .ref p2, .ref p3, .ref p4, .ref p5])), (p1, .inl (K 0, 8, .inl (u_85.2.1 0))), (p2, .inl (K 0, 8, .inl (u_85.2.1 1))), (t0, .inr (9, [.ref t1, k_1, .ref t2, k_3, .int n, k_5, k_6, k_7, k_8, .int ho])), (t1, .inl (K 0, 56, .inl f1)), (t2, .inl (K 0, 6, .inl f2))]) [0, 1, 2, 3, 4, 5, 6] (by decide) rfl
    exact W.iret (v := r_84) hx hb hr (fun t ht hW => ⟨⟨r_84, ((fun _ => 0, fun i => match i with | 0 => (u_85.2.1 0) | _ => (u_85.2.1 1), fun _ => fun _ => 0, fun _ => 0, fun _ => 0, fun _ => fun _ => none) : Su), rfl, ⟨k_86, trivial⟩, (⟨by rw [ht]; exact hP9, hD9⟩ : Wd D A _ t)⟩, hS.F ht⟩) hS.2.2 dX11_rings_27
  · refine lv_if_eq (tgt := 26) hx hb dX11_rings_8 (by decide) (fun c_87 => ?_) (fun c_87 => absurd (by decide) c_87)
    refine lv_iconst (v := (-1)) hx hb dX11_rings_26 (by decide) ?_
    rw [← hQ]
    have hP9 := hP.sub (ws' := [(o0, .inr (11, [.ref t0, o_1, o_2, o_3, o_4, o_5, o_6, o_7, o_8, o_9, o_10, .ref p0, o_12, o_13, o_14, o_15, o_16])), (p0, .inr (4, [.ref p1, .ref p2, .ref p3, .ref p4, .ref p5])), (p1, .inl (K 0, 8, .inl fd)), (p2, .inl (K 0, 8, .inl fp)), (t0, .inr (9, [.ref t1, k_1, .ref t2, k_3, .int n, k_5, k_6, k_7, k_8, .int ho])), (t1, .inl (K 0, 56, .inl f1)), (t2, .inl (K 0, 6, .inl f2))]) [0, 1, 2, 3, 4, 5, 6] rfl
    have hD9 := hD.sub (ws' := [(o0, .inr (11, [.ref t0, o_1, o_2, o_3, o_4, o_5, o_6, o_7, o_8, o_9, o_10, .ref p0, o_12, o_13, o_14, o_15, o_16])), (p0, .inr (4, [.ref p1, .ref p2, .ref p3, .ref p4, .ref p5])), (p1, .inl (K 0, 8, .inl fd)), (p2, .inl (K 0, 8, .inl fp)), (t0, .inr (9, [.ref t1, k_1, .ref t2, k_3, .int n, k_5, k_6, k_7, k_8, .int ho])), (t1, .inl (K 0, 56, .inl f1)), (t2, .inl (K 0, 6, .inl f2))]) [0, 1, 2, 3, 4, 5, 6] (by decide) rfl
    exact W.iret (v := (-1)) hx hb hr (fun t ht hW => ⟨⟨(-1), ((fun _ => 0, fun i => match i with | 0 => fd | _ => fp, fun _ => fun _ => 0, fun _ => 0, fun _ => 0, fun _ => fun _ => none) : Su), rfl, ⟨zfp, trivial⟩, (⟨by rw [ht]; exact hP9, hD9⟩ : Wd D A _ t)⟩, hS.F ht⟩) hS.2.2 dX11_rings_27
set_option maxHeartbeats 4000000 in
set_option maxRecDepth 100000 in
theorem w_tune (l : Launch) (D : va_G) (K : Nat → ClassId) (o0 : Nat) (x : Int32) (y : Int32) (t0 : Nat) (o_1 : Value) (o_2 : Value) (o_3 : Value) (o_4 : Value) (o_5 : Value) (o_6 : Value) (o_7 : Value) (o_8 : Value) (o_9 : Value) (o_10 : Value) (p0 : Nat) (o_12 : Value) (o_13 : Value) (o_14 : Value) (o_15 : Value) (o_16 : Value) (p1 : Nat) (p2 : Nat) (p3 : Nat) (p4 : Nat) (p5 : Nat) (fb : Nat → Int32) (fr : Nat → Int32) (t1 : Nat) (k_1 : Value) (t2 : Nat) (k_3 : Value) (n : Int32) (k_5 : Value) (k_6 : Value) (k_7 : Value) (k_8 : Value) (ho : Int32) (f1 : Nat → Int32) (f2 : Nat → Int32) (sz : Nat) (zn : 0 ≤ n.toInt ∧ n.toInt ≤ 8) : Met l yX11_tune wsX11_tune ({ frames := 5, cells := 0, slots := 0, locals := 110 }) (va_Pc [.ref o0, .int x, .int y] (Pre D K [(o0, .inr (11, [.ref t0, o_1, o_2, o_3, o_4, o_5, o_6, o_7, o_8, o_9, o_10, .ref p0, o_12, o_13, o_14, o_15, o_16])), (p0, .inr (4, [.ref p1, .ref p2, .ref p3, .ref p4, .ref p5])), (p3, .inl (K 0, 8, .inl fb)), (p4, .inl (K 0, 8, .inl fr)), (t0, .inr (9, [.ref t1, k_1, .ref t2, k_3, .int n, k_5, k_6, k_7, k_8, .int ho])), (t1, .inl (K 0, 56, .inl f1)), (t2, .inl (K 0, 6, .inl f2))] sz)) (va_Qi (S := Su) (fun (r : Int32) (u : Su) => True) (fun u t => Wd D (va_A [(o0, .inr (11, [.ref t0, o_1, o_2, o_3, o_4, o_5, o_6, o_7, o_8, o_9, o_10, .ref p0, o_12, o_13, o_14, o_15, o_16])), (p0, .inr (4, [.ref p1, .ref p2, .ref p3, .ref p4, .ref p5])), (p3, .inl (K 0, 8, .inl fb)), (p4, .inl (K 0, 8, .inl fr)), (t0, .inr (9, [.ref t1, k_1, .ref t2, k_3, .int n, k_5, k_6, k_7, k_8, .int ho])), (t1, .inl (K 0, 56, .inl f1)), (t2, .inl (K 0, 6, .inl f2))] sz) ((fun u => [(o0, .inr (11, [.ref t0, o_1, o_2, o_3, o_4, o_5, o_6, o_7, o_8, o_9, o_10, .ref p0, o_12, o_13, o_14, o_15, o_16])), (p0, .inr (4, [.ref p1, .ref p2, .ref p3, .ref p4, .ref p5])), (p3, .inl (K 0, 8, .inl (u.2.1 0))), (p4, .inl (K 0, 8, .inl (u.2.1 1))), (t0, .inr (9, [.ref t1, k_1, .ref t2, k_3, .int n, k_5, k_6, k_7, k_8, .int ho])), (t1, .inl (K 0, 56, .inl f1)), (t2, .inl (K 0, 6, .inl f2))]) u) t) (va_A [(o0, .inr (11, [.ref t0, o_1, o_2, o_3, o_4, o_5, o_6, o_7, o_8, o_9, o_10, .ref p0, o_12, o_13, o_14, o_15, o_16])), (p0, .inr (4, [.ref p1, .ref p2, .ref p3, .ref p4, .ref p5])), (p3, .inl (K 0, 8, .inl fb)), (p4, .inl (K 0, 8, .inl fr)), (t0, .inr (9, [.ref t1, k_1, .ref t2, k_3, .int n, k_5, k_6, k_7, k_8, .int ho])), (t1, .inl (K 0, 56, .inl f1)), (t2, .inl (K 0, 6, .inl f2))] sz)) 0 0 (va_A [(o0, .inr (11, [.ref t0, o_1, o_2, o_3, o_4, o_5, o_6, o_7, o_8, o_9, o_10, .ref p0, o_12, o_13, o_14, o_15, o_16])), (p0, .inr (4, [.ref p1, .ref p2, .ref p3, .ref p4, .ref p5])), (p3, .inl (K 0, 8, .inl fb)), (p4, .inl (K 0, 8, .inl fr)), (t0, .inr (9, [.ref t1, k_1, .ref t2, k_3, .int n, k_5, k_6, k_7, k_8, .int ho])), (t1, .inl (K 0, 56, .inl f1)), (t2, .inl (K 0, 6, .inl f2))] sz) := by
  refine Met.ofW (cc := cX11_tune) (maxL := 4) (ret := (some .int)) (by decide) rfl ?_
  intro p e s m args below meth c s₁ B hml hv
  obtain ⟨rfl, hsz, hP, hK, hD0, hN⟩ := hv
  have hx := B.exec
  have hb := B.bytes
  have hr := B.returns
  have hts := atoms_spec (ws := wsX11_tune) B.pre
  have hown : s.vm.findClass RX11 = some m.cls := findClass_of_methodNamed B.named
  have hlocks := B.notSynchronized
  subst hsz
  have hD := hD0.self (sz := s.heap.size)
  generalize hAe : va_A [(o0, .inr (11, [.ref t0, o_1, o_2, o_3, o_4, o_5, o_6, o_7, o_8, o_9, o_10, .ref p0, o_12, o_13, o_14, o_15, o_16])), (p0, .inr (4, [.ref p1, .ref p2, .ref p3, .ref p4, .ref p5])), (p3, .inl (K 0, 8, .inl fb)), (p4, .inl (K 0, 8, .inl fr)), (t0, .inr (9, [.ref t1, k_1, .ref t2, k_3, .int n, k_5, k_6, k_7, k_8, .int ho])), (t1, .inl (K 0, 56, .inl f1)), (t2, .inl (K 0, 6, .inl f2))] s.heap.size = A at hD ⊢
  have hA : ∀ q : Nat, s.heap.size ≤ q → A q := fun q h => by rw [← hAe]; exact Or.inr h
  have hS : va_S A s.heap s.heap [] := va_S.rf
  have hP : va_P D vwCl [(o0, .inr (11, [.ref t0, o_1, o_2, o_3, o_4, o_5, o_6, o_7, o_8, o_9, o_10, .ref p0, o_12, o_13, o_14, o_15, o_16])), (p0, .inr (4, [.ref p1, .ref p2, .ref p3, .ref p4, .ref p5])), (p3, .inl (K 0, 8, .inl fb)), (p4, .inl (K 0, 8, .inl fr)), (t0, .inr (9, [.ref t1, k_1, .ref t2, k_3, .int n, k_5, k_6, k_7, k_8, .int ho])), (t1, .inl (K 0, 56, .inl f1)), (t2, .inl (K 0, 6, .inl f2))] s.heap := hP
  have hl := lv_entry [.ref o0, .int x, .int y] (n := 4) (Nat.le_of_ble_eq_true rfl)
  rw [lg_entry_eq]
  generalize (lg_sl [.ref o0, .int x, .int y] ++ List.replicate (4 - (lg_sl [.ref o0, .int x, .int y]).length) Slot.unset).toArray = ls at hl ⊢
  have hl : lv_has ls 4 [(0, .ref o0), (1, .int x), (2, .int y)] := hl
  have hw4 : ∀ w ∈ wsX40, w ∈ wsX11_tune := fun w h => (List.mem_cons_of_mem _ (List.mem_append_right _ h))
  have hw9 : ∀ w ∈ wsX90, w ∈ wsX11_tune := fun w h => (List.mem_cons_of_mem _ (List.mem_append_left _ (List.mem_append_right _ h)))
  have hw11 : ∀ w ∈ wsX110, w ∈ wsX11_tune := fun w h => (List.mem_cons_of_mem _ (List.mem_append_left _ (List.mem_append_left _ (List.mem_append_right _ h))))
  generalize hQ : MQ below _ _ s _ _ _ = Q
  refine lv_iload_n hx hb dX11_tune_0 rfl (lv_at hl 1 rfl) ?_
  refine lv_iconst (v := 0) hx hb dX11_tune_1 (by decide) ?_
  refine lv_iconst (v := 3) hx hb dX11_tune_2 (by decide) ?_
  refine pci (va_runS (As := [.int x, .int 0, .int 3]) (rest := []) ⟨hx, hb, hml, hown, hts⟩ (w_within l D K x.toInt 0 3 x 0 3 s.heap.size rfl (show (0 : Int32).toInt = 0 from rfl) (show (3 : Int32).toInt = 3 from rfl)) (va_cwS 3 hts gX11_tune_X11_within rfl rfl rfl (by decide +kernel) ⟨Nat.le_of_ble_eq_true rfl, Nat.le_of_ble_eq_true rfl⟩) (mkS hK hN (va_P.nil) (va_D.nil (A := fun _ => True))) rfl rfl hl.1 rfl (lv_room (Nat.le_of_ble_eq_true rfl)) dX11_tune_3 ⟨Nat.le_of_ble_eq_true rfl, Nat.le_of_ble_eq_true rfl⟩) (fun r_179 hw => ?_)
  obtain ⟨hw, -⟩ := hw
  rcases hw with ⟨rfl, h_180, h_181⟩ | ⟨rfl, h_182⟩
  · refine lv_if_ne (tgt := 11) hx hb dX11_tune_6 (by decide) (fun c_183 => ?_) (fun c_183 => absurd c_183 (by decide))
    refine lv_iload_n hx hb dX11_tune_11 rfl (lv_at hl 2 rfl) ?_
    refine lv_if_ne (tgt := 28) hx hb dX11_tune_12 (by decide) (fun c_184 => ?_) (fun c_184 => ?_)
    · have c_184i := i_ne (x := y.toInt) (y := 0) rfl rfl c_184
      refine lv_iload_n hx hb dX11_tune_28 rfl (lv_at hl 2 rfl) ?_
      refine lv_iconst (v := 1) hx hb dX11_tune_29 (by decide) ?_
      refine lv_bipush (v := 8) hx hb dX11_tune_30 (by decide) ?_
      have j_209 : ∀ (H : Heap) (locs : List Loc) (hP : va_P D vwCl [(o0, .inr (11, [.ref t0, o_1, o_2, o_3, o_4, o_5, o_6, o_7, o_8, o_9, o_10, .ref p0, o_12, o_13, o_14, o_15, o_16])), (p0, .inr (4, [.ref p1, .ref p2, .ref p3, .ref p4, .ref p5])), (p3, .inl (K 0, 8, .inl fb)), (p4, .inl (K 0, 8, .inl fr)), (t0, .inr (9, [.ref t1, k_1, .ref t2, k_3, .int n, k_5, k_6, k_7, k_8, .int ho])), (t1, .inl (K 0, 56, .inl f1)), (t2, .inl (K 0, 6, .inl f2))] H) (hD : va_D A [(o0, .inr (11, [.ref t0, o_1, o_2, o_3, o_4, o_5, o_6, o_7, o_8, o_9, o_10, .ref p0, o_12, o_13, o_14, o_15, o_16])), (p0, .inr (4, [.ref p1, .ref p2, .ref p3, .ref p4, .ref p5])), (p3, .inl (K 0, 8, .inl fb)), (p4, .inl (K 0, 8, .inl fr)), (t0, .inr (9, [.ref t1, k_1, .ref t2, k_3, .int n, k_5, k_6, k_7, k_8, .int ho])), (t1, .inl (K 0, 56, .inl f1)), (t2, .inl (K 0, 6, .inl f2))]) (hS : va_S A s.heap H locs) (ls : Array Slot) (hl : lv_has ls 4 []), W p l e ({ frames := 5, cells := 0, slots := 0, locals := 110 }) s m (([.ref o0, .int x, .int y] : List Value).toArray) below meth c H locs 0 0 Q (F0 m 70 ls []) := by
        intro H locs hP hD hS ls hl
        refine lv_iconst (v := (-1)) hx hb dX11_tune_70 (by decide) ?_
        rw [← hQ]
        have hP9 := hP.sub (ws' := [(o0, .inr (11, [.ref t0, o_1, o_2, o_3, o_4, o_5, o_6, o_7, o_8, o_9, o_10, .ref p0, o_12, o_13, o_14, o_15, o_16])), (p0, .inr (4, [.ref p1, .ref p2, .ref p3, .ref p4, .ref p5])), (p3, .inl (K 0, 8, .inl fb)), (p4, .inl (K 0, 8, .inl fr)), (t0, .inr (9, [.ref t1, k_1, .ref t2, k_3, .int n, k_5, k_6, k_7, k_8, .int ho])), (t1, .inl (K 0, 56, .inl f1)), (t2, .inl (K 0, 6, .inl f2))]) [0, 1, 2, 3, 4, 5, 6] rfl
        have hD9 := hD.sub (ws' := [(o0, .inr (11, [.ref t0, o_1, o_2, o_3, o_4, o_5, o_6, o_7, o_8, o_9, o_10, .ref p0, o_12, o_13, o_14, o_15, o_16])), (p0, .inr (4, [.ref p1, .ref p2, .ref p3, .ref p4, .ref p5])), (p3, .inl (K 0, 8, .inl fb)), (p4, .inl (K 0, 8, .inl fr)), (t0, .inr (9, [.ref t1, k_1, .ref t2, k_3, .int n, k_5, k_6, k_7, k_8, .int ho])), (t1, .inl (K 0, 56, .inl f1)), (t2, .inl (K 0, 6, .inl f2))]) [0, 1, 2, 3, 4, 5, 6] (by decide) rfl
        exact W.iret (v := (-1)) hx hb hr (fun t ht hW => ⟨⟨(-1), ((fun _ => 0, fun i => match i with | 0 => fb | _ => fr, fun _ => fun _ => 0, fun _ => 0, fun _ => 0, fun _ => fun _ => none) : Su), rfl, trivial, (⟨by rw [ht]; exact hP9, hD9⟩ : Wd D A _ t)⟩, hS.F ht⟩) hS.2.2 dX11_tune_71
      refine pci (va_runS (As := [.int y, .int 1, .int 8]) (rest := []) ⟨hx, hb, hml, hown, hts⟩ (w_within l D K y.toInt 1 8 y 1 8 s.heap.size rfl (show (1 : Int32).toInt = 1 from rfl) (show (8 : Int32).toInt = 8 from rfl)) (va_cwS 3 hts gX11_tune_X11_within rfl rfl rfl (by decide +kernel) ⟨Nat.le_of_ble_eq_true rfl, Nat.le_of_ble_eq_true rfl⟩) (mkS hK hN (va_P.nil) (va_D.nil (A := fun _ => True))) rfl rfl hl.1 rfl (lv_room (Nat.le_of_ble_eq_true rfl)) dX11_tune_32 ⟨Nat.le_of_ble_eq_true rfl, Nat.le_of_ble_eq_true rfl⟩) (fun r_210 hw => ?_)
      obtain ⟨hw, -⟩ := hw
      rcases hw with ⟨rfl, h_211, h_212⟩ | ⟨rfl, h_213⟩
      · refine lv_if_eq (tgt := 44) hx hb dX11_tune_35 (by decide) (fun c_214 => absurd c_214 (by decide)) (fun c_214 => ?_)
        refine lv_iload_n hx hb dX11_tune_38 rfl (lv_at hl 2 rfl) ?_
        refine lv_iconst (v := 1) hx hb dX11_tune_39 (by decide) ?_
        refine lv_isub hx hb dX11_tune_40 ?_
        refine lv_topi (fun x_215 ex_215 => ?_)
        have hx_215 : x_215.toInt = (y.toInt - 1) := by rw [ex_215]; exact i_sub rfl (show (1 : Int32).toInt = 1 from rfl) (by omega)
        refine lv_goto (tgt := 45) hx hb dX11_tune_41 (by decide) ?_
        refine lv_istore_n (lv' := [(3, .int x_215), (0, .ref o0), (1, .int x), (2, .int y)]) hx hb dX11_tune_45 rfl hl (by decide) rfl (fun ls hl => ?_)
        refine lv_aload_n hx hb dX11_tune_46 rfl (lv_at hl 1 rfl) ?_
        refine va_get (ci := 11) (v := .ref t0) (C := RX11) (T := TX11) (N := 17) hx hb hts hw11 hown hK hP 0 rfl rfl 0 (by decide) (hts (.fieldLink RX11 10 "SmokeTune" "town" "LSmokeTune$Town;") (List.mem_cons_of_mem _ (List.mem_append_left _ (List.mem_append_left _ (List.mem_append_left _ (List.mem_append_left _ (List.mem_of_getElem? (i := 1) rfl))))))) (fun _ h9 => h9) rfl dX11_tune_47 ?_
        refine lv_iload_n hx hb dX11_tune_50 rfl (lv_at hl 0 rfl) ?_
        refine pci (va_runVN (As := [.int x_215]) (rest := []) ⟨hx, hb, hml, hown, hts⟩ (w_has l D K (y.toInt - 1) n.toInt t0 x_215 (.ref t1) k_1 (.ref t2) k_3 n k_5 k_6 k_7 k_8 (.int ho) s.heap.size hx_215 rfl) ⟨va_cnB 1 hts gX11_tune_X9_has_n121 rfl rfl rfl (nst_at hN 19 rfl) (hts (.initialized RX9) (List.mem_cons_of_mem _ (List.mem_append_left _ (List.mem_append_left _ (List.mem_append_left _ (List.mem_append_left _ (List.mem_of_getElem? (i := 21) rfl))))))) (by decide +kernel) ⟨Nat.le_of_ble_eq_true rfl, Nat.le_of_ble_eq_true rfl⟩, (hts (.instanceMethod yX9_has) (List.mem_cons_of_mem _ (List.mem_append_left _ (List.mem_append_left _ (List.mem_append_left _ (List.mem_append_right _ (List.mem_append_left _ (List.mem_of_getElem? (i := 18) rfl)))))))), (hts (.selects RX9 yX9_has yX9_has) (List.mem_cons_of_mem _ (List.mem_append_left _ (List.mem_append_left _ (List.mem_append_left _ (List.mem_append_right _ (List.mem_append_left _ (List.mem_of_getElem? (i := 19) rfl))))))))⟩ (mkV hK hN (hP.sub [4] rfl) (hD.sub [4] (by decide) rfl) (ci := 9) (q0 := 0) rfl rfl) rfl rfl hl.1 rfl (lv_room (Nat.le_of_ble_eq_true rfl)) dX11_tune_51 ⟨Nat.le_of_ble_eq_true rfl, Nat.le_of_ble_eq_true rfl⟩) (fun r_216 hw => ?_)
        obtain ⟨hw, -⟩ := hw
        rcases hw with ⟨rfl, h_217, h_218⟩ | ⟨rfl, h_219⟩
        · refine lv_if_eq (tgt := 70) hx hb dX11_tune_54 (by decide) (fun c_220 => absurd c_220 (by decide)) (fun c_220 => ?_)
          refine lv_aload_n hx hb dX11_tune_57 rfl (lv_at hl 1 rfl) ?_
          refine va_get (ci := 11) (v := .ref t0) (C := RX11) (T := TX11) (N := 17) hx hb hts hw11 hown hK hP 0 rfl rfl 0 (by decide) (hts (.fieldLink RX11 10 "SmokeTune" "town" "LSmokeTune$Town;") (List.mem_cons_of_mem _ (List.mem_append_left _ (List.mem_append_left _ (List.mem_append_left _ (List.mem_append_left _ (List.mem_of_getElem? (i := 1) rfl))))))) (fun _ h9 => h9) rfl dX11_tune_58 ?_
          refine lv_iload_n hx hb dX11_tune_61 rfl (lv_at hl 0 rfl) ?_
          refine lv_iconst (v := 1) hx hb dX11_tune_62 (by decide) ?_
          refine pci (va_runVN (As := [.int x_215, .int 1]) (rest := []) ⟨hx, hb, hml, hown, hts⟩ (w_fact l D K t0 x_215 1 t1 k_1 (.ref t2) k_3 (.int n) k_5 k_6 k_7 k_8 (.int ho) f1 s.heap.size) ⟨va_cnB 2 hts gX11_tune_X9_fact_n125 rfl rfl rfl (nst_at hN 20 rfl) (hts (.initialized RX9) (List.mem_cons_of_mem _ (List.mem_append_left _ (List.mem_append_left _ (List.mem_append_left _ (List.mem_append_left _ (List.mem_of_getElem? (i := 21) rfl))))))) (by decide +kernel) ⟨Nat.le_of_ble_eq_true rfl, Nat.le_of_ble_eq_true rfl⟩, (hts (.instanceMethod yX9_fact) (List.mem_cons_of_mem _ (List.mem_append_left _ (List.mem_append_left _ (List.mem_append_left _ (List.mem_append_left _ (List.mem_of_getElem? (i := 20) rfl))))))), (hts (.selects RX9 yX9_fact yX9_fact) (List.mem_cons_of_mem _ (List.mem_append_left _ (List.mem_append_left _ (List.mem_append_left _ (List.mem_append_left _ (List.mem_of_getElem? (i := 22) rfl)))))))⟩ (mkV hK hN (hP.sub [4, 5] rfl) (hD.sub [4, 5] (by decide) rfl) (ci := 9) (q0 := 0) rfl rfl) rfl rfl hl.1 rfl (lv_room (Nat.le_of_ble_eq_true rfl)) dX11_tune_63 ⟨Nat.le_of_ble_eq_true rfl, Nat.le_of_ble_eq_true rfl⟩) (fun r_221 hw => ?_)
          refine lv_iload_n hx hb dX11_tune_66 rfl (lv_at hl 2 rfl) ?_
          refine lv_icmp_eq (tgt := 72) hx hb dX11_tune_67 (by decide) (fun c_222 => ?_) (fun c_222 => ?_)
          · have c_222i := i_eq (x := r_221.toInt) (y := x.toInt) rfl rfl c_222
            refine lv_aload_n hx hb dX11_tune_72 rfl (lv_at hl 1 rfl) ?_
            refine va_get (ci := 11) (v := .ref p0) (C := RX11) (T := TX11) (N := 17) hx hb hts hw11 hown hK hP 0 rfl rfl 11 (by decide) (hts (.fieldLink RX11 75 "SmokeTune" "paper" "LSmokeTune$Paper;") (List.mem_cons_of_mem _ (List.mem_append_left _ (List.mem_append_left _ (List.mem_append_left _ (List.mem_append_left _ (List.mem_of_getElem? (i := 0) rfl))))))) (fun _ h9 => h9) rfl dX11_tune_73 ?_
            refine lv_aload_n hx hb dX11_tune_76 rfl (lv_at hl 1 rfl) ?_
            refine va_get (ci := 11) (v := .ref t0) (C := RX11) (T := TX11) (N := 17) hx hb hts hw11 hown hK hP 0 rfl rfl 0 (by decide) (hts (.fieldLink RX11 10 "SmokeTune" "town" "LSmokeTune$Town;") (List.mem_cons_of_mem _ (List.mem_append_left _ (List.mem_append_left _ (List.mem_append_left _ (List.mem_append_left _ (List.mem_of_getElem? (i := 1) rfl))))))) (fun _ h9 => h9) rfl dX11_tune_77 ?_
            refine lv_iload_n hx hb dX11_tune_80 rfl (lv_at hl 2 rfl) ?_
            refine kci (S := Su) (wr := [(o0, .inr (11, [.ref t0, o_1, o_2, o_3, o_4, o_5, o_6, o_7, o_8, o_9, o_10, .ref p0, o_12, o_13, o_14, o_15, o_16]))]) (va_runVN (As := [.ref t0, .int x]) (rest := []) ⟨hx, hb, hml, hown, hts⟩ (w_retune l D K p0 t0 x p1 p2 p3 p4 p5 fb fr t1 k_1 t2 k_3 n k_5 k_6 k_7 k_8 ho f1 f2 s.heap.size (by first | omega | decide)) ⟨va_cnB 2 hts gX11_tune_X4_retune_n252 rfl rfl rfl (nst_at hN 86 rfl) (hts (.initialized RX4) (List.mem_cons_of_mem _ (List.mem_append_left _ (List.mem_append_left _ (List.mem_append_left _ (List.mem_append_left _ (List.mem_of_getElem? (i := 7) rfl))))))) (by decide +kernel) ⟨Nat.le_of_ble_eq_true rfl, Nat.le_of_ble_eq_true rfl⟩, (hts (.instanceMethod yX4_retune) (List.mem_cons_of_mem _ (List.mem_append_left _ (List.mem_append_left _ (List.mem_append_left _ (List.mem_append_left _ (List.mem_of_getElem? (i := 6) rfl))))))), (hts (.selects RX4 yX4_retune yX4_retune) (List.mem_cons_of_mem _ (List.mem_append_left _ (List.mem_append_left _ (List.mem_append_left _ (List.mem_append_left _ (List.mem_of_getElem? (i := 8) rfl)))))))⟩ (mkV hK hN (hP.sub [1, 2, 3, 4, 5, 6] rfl) (hD.sub [1, 2, 3, 4, 5, 6] (by decide) rfl) (ci := 4) (q0 := 0) rfl rfl) rfl rfl hl.1 rfl (lv_room (Nat.le_of_ble_eq_true rfl)) dX11_tune_81 ⟨Nat.le_of_ble_eq_true rfl, Nat.le_of_ble_eq_true rfl⟩) hP hD hS hA [1, 2, 3, 4, 5, 6] [0] rfl rfl (by decide) (by decide) (fun r_223 u_224 H locs hw hP hD hS => ?_)
            have hP : va_P D vwCl [(o0, .inr (11, [.ref t0, o_1, o_2, o_3, o_4, o_5, o_6, o_7, o_8, o_9, o_10, .ref p0, o_12, o_13, o_14, o_15, o_16])), (p0, .inr (4, [.ref p1, .ref p2, .ref p3, .ref p4, .ref p5])), (p3, .inl (K 0, 8, .inl (u_224.2.1 0))), (p4, .inl (K 0, 8, .inl (u_224.2.1 1))), (t0, .inr (9, [.ref t1, k_1, .ref t2, k_3, .int n, k_5, k_6, k_7, k_8, .int ho])), (t1, .inl (K 0, 56, .inl f1)), (t2, .inl (K 0, 6, .inl f2))] H := hP
            have hD : va_D A [(o0, .inr (11, [.ref t0, o_1, o_2, o_3, o_4, o_5, o_6, o_7, o_8, o_9, o_10, .ref p0, o_12, o_13, o_14, o_15, o_16])), (p0, .inr (4, [.ref p1, .ref p2, .ref p3, .ref p4, .ref p5])), (p3, .inl (K 0, 8, .inl (u_224.2.1 0))), (p4, .inl (K 0, 8, .inl (u_224.2.1 1))), (t0, .inr (9, [.ref t1, k_1, .ref t2, k_3, .int n, k_5, k_6, k_7, k_8, .int ho])), (t1, .inl (K 0, 56, .inl f1)), (t2, .inl (K 0, 6, .inl f2))] := hD
            obtain ⟨h_225, -⟩ := hw
            refine lv_pop hx hb dX11_tune_84 rfl ?_
            refine lv_aload_n hx hb dX11_tune_85 rfl (lv_at hl 1 rfl) ?_
            refine va_get (ci := 11) (v := .ref p0) (C := RX11) (T := TX11) (N := 17) hx hb hts hw11 hown hK hP 0 rfl rfl 11 (by decide) (hts (.fieldLink RX11 75 "SmokeTune" "paper" "LSmokeTune$Paper;") (List.mem_cons_of_mem _ (List.mem_append_left _ (List.mem_append_left _ (List.mem_append_left _ (List.mem_append_left _ (List.mem_of_getElem? (i := 0) rfl))))))) (fun _ h9 => h9) rfl dX11_tune_86 ?_
            refine lv_iload_n hx hb dX11_tune_89 rfl (lv_at hl 0 rfl) ?_
            refine pci (va_runVN (As := [.int x_215]) (rest := []) ⟨hx, hb, hml, hown, hts⟩ (w_tunedNote l D K p0 x_215 p1 p2 p3 p4 p5 (u_224.2.1 0) H.size) ⟨va_cnB 1 hts gX11_tune_X4_tunedNote_n255 rfl rfl rfl (nst_at hN 87 rfl) (hts (.initialized RX4) (List.mem_cons_of_mem _ (List.mem_append_left _ (List.mem_append_left _ (List.mem_append_left _ (List.mem_append_left _ (List.mem_of_getElem? (i := 7) rfl))))))) (by decide +kernel) ⟨Nat.le_of_ble_eq_true rfl, Nat.le_of_ble_eq_true rfl⟩, (hts (.instanceMethod yX4_tunedNote) (List.mem_cons_of_mem _ (List.mem_append_left _ (List.mem_append_left _ (List.mem_append_left _ (List.mem_append_right _ (List.mem_append_left _ (List.mem_of_getElem? (i := 22) rfl)))))))), (hts (.selects RX4 yX4_tunedNote yX4_tunedNote) (List.mem_cons_of_mem _ (List.mem_append_left _ (List.mem_append_left _ (List.mem_append_left _ (List.mem_append_right _ (List.mem_append_left _ (List.mem_of_getElem? (i := 23) rfl))))))))⟩ (mkV hK hN (hP.sub [1, 2] rfl) (hD.sub [1, 2] (by decide) rfl) (ci := 4) (q0 := 0) rfl rfl) rfl rfl hl.1 rfl (lv_room (Nat.le_of_ble_eq_true rfl)) dX11_tune_90 ⟨Nat.le_of_ble_eq_true rfl, Nat.le_of_ble_eq_true rfl⟩) (fun r_226 hw => ?_)
            rw [← hQ]
            have hP9 := hP.sub (ws' := [(o0, .inr (11, [.ref t0, o_1, o_2, o_3, o_4, o_5, o_6, o_7, o_8, o_9, o_10, .ref p0, o_12, o_13, o_14, o_15, o_16])), (p0, .inr (4, [.ref p1, .ref p2, .ref p3, .ref p4, .ref p5])), (p3, .inl (K 0, 8, .inl (u_224.2.1 0))), (p4, .inl (K 0, 8, .inl (u_224.2.1 1))), (t0, .inr (9, [.ref t1, k_1, .ref t2, k_3, .int n, k_5, k_6, k_7, k_8, .int ho])), (t1, .inl (K 0, 56, .inl f1)), (t2, .inl (K 0, 6, .inl f2))]) [0, 1, 2, 3, 4, 5, 6] rfl
            have hD9 := hD.sub (ws' := [(o0, .inr (11, [.ref t0, o_1, o_2, o_3, o_4, o_5, o_6, o_7, o_8, o_9, o_10, .ref p0, o_12, o_13, o_14, o_15, o_16])), (p0, .inr (4, [.ref p1, .ref p2, .ref p3, .ref p4, .ref p5])), (p3, .inl (K 0, 8, .inl (u_224.2.1 0))), (p4, .inl (K 0, 8, .inl (u_224.2.1 1))), (t0, .inr (9, [.ref t1, k_1, .ref t2, k_3, .int n, k_5, k_6, k_7, k_8, .int ho])), (t1, .inl (K 0, 56, .inl f1)), (t2, .inl (K 0, 6, .inl f2))]) [0, 1, 2, 3, 4, 5, 6] (by decide) rfl
            exact W.iret (v := r_226) hx hb hr (fun t ht hW => ⟨⟨r_226, ((fun _ => 0, fun i => match i with | 0 => (u_224.2.1 0) | _ => (u_224.2.1 1), fun _ => fun _ => 0, fun _ => 0, fun _ => 0, fun _ => fun _ => none) : Su), rfl, trivial, (⟨by rw [ht]; exact hP9, hD9⟩ : Wd D A _ t)⟩, hS.F ht⟩) hS.2.2 dX11_tune_93
          · have c_222i := i_ne (x := r_221.toInt) (y := x.toInt) rfl rfl c_222
            exact j_209   _ _ hP hD hS ls (lv_sub hl [] rfl)
        · refine lv_if_eq (tgt := 70) hx hb dX11_tune_54 (by decide) (fun c_227 => ?_) (fun c_227 => absurd (by decide) c_227)
          exact j_209   _ _ hP hD hS ls (lv_sub hl [] rfl)
      · refine lv_if_eq (tgt := 44) hx hb dX11_tune_35 (by decide) (fun c_228 => ?_) (fun c_228 => absurd (by decide) c_228)
        refine lv_iconst (v := (-1)) hx hb dX11_tune_44 (by decide) ?_
        refine lv_istore_n (lv' := [(3, .int (-1)), (0, .ref o0), (1, .int x), (2, .int y)]) hx hb dX11_tune_45 rfl hl (by decide) rfl (fun ls hl => ?_)
        refine lv_aload_n hx hb dX11_tune_46 rfl (lv_at hl 1 rfl) ?_
        refine va_get (ci := 11) (v := .ref t0) (C := RX11) (T := TX11) (N := 17) hx hb hts hw11 hown hK hP 0 rfl rfl 0 (by decide) (hts (.fieldLink RX11 10 "SmokeTune" "town" "LSmokeTune$Town;") (List.mem_cons_of_mem _ (List.mem_append_left _ (List.mem_append_left _ (List.mem_append_left _ (List.mem_append_left _ (List.mem_of_getElem? (i := 1) rfl))))))) (fun _ h9 => h9) rfl dX11_tune_47 ?_
        refine lv_iload_n hx hb dX11_tune_50 rfl (lv_at hl 0 rfl) ?_
        refine pci (va_runVN (As := [.int (-1)]) (rest := []) ⟨hx, hb, hml, hown, hts⟩ (w_has l D K (-1) n.toInt t0 (-1) (.ref t1) k_1 (.ref t2) k_3 n k_5 k_6 k_7 k_8 (.int ho) s.heap.size (show ((-1) : Int32).toInt = (-1) from rfl) rfl) ⟨va_cnB 1 hts gX11_tune_X9_has_n121 rfl rfl rfl (nst_at hN 19 rfl) (hts (.initialized RX9) (List.mem_cons_of_mem _ (List.mem_append_left _ (List.mem_append_left _ (List.mem_append_left _ (List.mem_append_left _ (List.mem_of_getElem? (i := 21) rfl))))))) (by decide +kernel) ⟨Nat.le_of_ble_eq_true rfl, Nat.le_of_ble_eq_true rfl⟩, (hts (.instanceMethod yX9_has) (List.mem_cons_of_mem _ (List.mem_append_left _ (List.mem_append_left _ (List.mem_append_left _ (List.mem_append_right _ (List.mem_append_left _ (List.mem_of_getElem? (i := 18) rfl)))))))), (hts (.selects RX9 yX9_has yX9_has) (List.mem_cons_of_mem _ (List.mem_append_left _ (List.mem_append_left _ (List.mem_append_left _ (List.mem_append_right _ (List.mem_append_left _ (List.mem_of_getElem? (i := 19) rfl))))))))⟩ (mkV hK hN (hP.sub [4] rfl) (hD.sub [4] (by decide) rfl) (ci := 9) (q0 := 0) rfl rfl) rfl rfl hl.1 rfl (lv_room (Nat.le_of_ble_eq_true rfl)) dX11_tune_51 ⟨Nat.le_of_ble_eq_true rfl, Nat.le_of_ble_eq_true rfl⟩) (fun r_229 hw => ?_)
        obtain ⟨hw, -⟩ := hw
        rcases hw with ⟨rfl, h_230, h_231⟩ | ⟨rfl, h_232⟩
        · exfalso; omega
        · refine lv_if_eq (tgt := 70) hx hb dX11_tune_54 (by decide) (fun c_233 => ?_) (fun c_233 => absurd (by decide) c_233)
          exact j_209   _ _ hP hD hS ls (lv_sub hl [] rfl)
    · have c_184i := i_eq (x := y.toInt) (y := 0) rfl rfl c_184
      refine lv_aload_n hx hb dX11_tune_15 rfl (lv_at hl 0 rfl) ?_
      refine va_get (ci := 11) (v := .ref p0) (C := RX11) (T := TX11) (N := 17) hx hb hts hw11 hown hK hP 0 rfl rfl 11 (by decide) (hts (.fieldLink RX11 75 "SmokeTune" "paper" "LSmokeTune$Paper;") (List.mem_cons_of_mem _ (List.mem_append_left _ (List.mem_append_left _ (List.mem_append_left _ (List.mem_append_left _ (List.mem_of_getElem? (i := 0) rfl))))))) (fun _ h9 => h9) rfl dX11_tune_16 ?_
      refine lv_aload_n hx hb dX11_tune_19 rfl (lv_at hl 0 rfl) ?_
      refine va_get (ci := 11) (v := .ref t0) (C := RX11) (T := TX11) (N := 17) hx hb hts hw11 hown hK hP 0 rfl rfl 0 (by decide) (hts (.fieldLink RX11 10 "SmokeTune" "town" "LSmokeTune$Town;") (List.mem_cons_of_mem _ (List.mem_append_left _ (List.mem_append_left _ (List.mem_append_left _ (List.mem_append_left _ (List.mem_of_getElem? (i := 1) rfl))))))) (fun _ h9 => h9) rfl dX11_tune_20 ?_
      refine lv_iload_n hx hb dX11_tune_23 rfl (lv_at hl 1 rfl) ?_
      refine kci (S := Su) (wr := [(o0, .inr (11, [.ref t0, o_1, o_2, o_3, o_4, o_5, o_6, o_7, o_8, o_9, o_10, .ref p0, o_12, o_13, o_14, o_15, o_16]))]) (va_runVN (As := [.ref t0, .int x]) (rest := []) ⟨hx, hb, hml, hown, hts⟩ (w_retune l D K p0 t0 x p1 p2 p3 p4 p5 fb fr t1 k_1 t2 k_3 n k_5 k_6 k_7 k_8 ho f1 f2 s.heap.size (by first | omega | decide)) ⟨va_cnB 2 hts gX11_tune_X4_retune_n252 rfl rfl rfl (nst_at hN 86 rfl) (hts (.initialized RX4) (List.mem_cons_of_mem _ (List.mem_append_left _ (List.mem_append_left _ (List.mem_append_left _ (List.mem_append_left _ (List.mem_of_getElem? (i := 7) rfl))))))) (by decide +kernel) ⟨Nat.le_of_ble_eq_true rfl, Nat.le_of_ble_eq_true rfl⟩, (hts (.instanceMethod yX4_retune) (List.mem_cons_of_mem _ (List.mem_append_left _ (List.mem_append_left _ (List.mem_append_left _ (List.mem_append_left _ (List.mem_of_getElem? (i := 6) rfl))))))), (hts (.selects RX4 yX4_retune yX4_retune) (List.mem_cons_of_mem _ (List.mem_append_left _ (List.mem_append_left _ (List.mem_append_left _ (List.mem_append_left _ (List.mem_of_getElem? (i := 8) rfl)))))))⟩ (mkV hK hN (hP.sub [1, 2, 3, 4, 5, 6] rfl) (hD.sub [1, 2, 3, 4, 5, 6] (by decide) rfl) (ci := 4) (q0 := 0) rfl rfl) rfl rfl hl.1 rfl (lv_room (Nat.le_of_ble_eq_true rfl)) dX11_tune_24 ⟨Nat.le_of_ble_eq_true rfl, Nat.le_of_ble_eq_true rfl⟩) hP hD hS hA [1, 2, 3, 4, 5, 6] [0] rfl rfl (by decide) (by decide) (fun r_234 u_235 H locs hw hP hD hS => ?_)
      have hP : va_P D vwCl [(o0, .inr (11, [.ref t0, o_1, o_2, o_3, o_4, o_5, o_6, o_7, o_8, o_9, o_10, .ref p0, o_12, o_13, o_14, o_15, o_16])), (p0, .inr (4, [.ref p1, .ref p2, .ref p3, .ref p4, .ref p5])), (p3, .inl (K 0, 8, .inl (u_235.2.1 0))), (p4, .inl (K 0, 8, .inl (u_235.2.1 1))), (t0, .inr (9, [.ref t1, k_1, .ref t2, k_3, .int n, k_5, k_6, k_7, k_8, .int ho])), (t1, .inl (K 0, 56, .inl f1)), (t2, .inl (K 0, 6, .inl f2))] H := hP
      have hD : va_D A [(o0, .inr (11, [.ref t0, o_1, o_2, o_3, o_4, o_5, o_6, o_7, o_8, o_9, o_10, .ref p0, o_12, o_13, o_14, o_15, o_16])), (p0, .inr (4, [.ref p1, .ref p2, .ref p3, .ref p4, .ref p5])), (p3, .inl (K 0, 8, .inl (u_235.2.1 0))), (p4, .inl (K 0, 8, .inl (u_235.2.1 1))), (t0, .inr (9, [.ref t1, k_1, .ref t2, k_3, .int n, k_5, k_6, k_7, k_8, .int ho])), (t1, .inl (K 0, 56, .inl f1)), (t2, .inl (K 0, 6, .inl f2))] := hD
      obtain ⟨h_236, -⟩ := hw
      rw [← hQ]
      have hP9 := hP.sub (ws' := [(o0, .inr (11, [.ref t0, o_1, o_2, o_3, o_4, o_5, o_6, o_7, o_8, o_9, o_10, .ref p0, o_12, o_13, o_14, o_15, o_16])), (p0, .inr (4, [.ref p1, .ref p2, .ref p3, .ref p4, .ref p5])), (p3, .inl (K 0, 8, .inl (u_235.2.1 0))), (p4, .inl (K 0, 8, .inl (u_235.2.1 1))), (t0, .inr (9, [.ref t1, k_1, .ref t2, k_3, .int n, k_5, k_6, k_7, k_8, .int ho])), (t1, .inl (K 0, 56, .inl f1)), (t2, .inl (K 0, 6, .inl f2))]) [0, 1, 2, 3, 4, 5, 6] rfl
      have hD9 := hD.sub (ws' := [(o0, .inr (11, [.ref t0, o_1, o_2, o_3, o_4, o_5, o_6, o_7, o_8, o_9, o_10, .ref p0, o_12, o_13, o_14, o_15, o_16])), (p0, .inr (4, [.ref p1, .ref p2, .ref p3, .ref p4, .ref p5])), (p3, .inl (K 0, 8, .inl (u_235.2.1 0))), (p4, .inl (K 0, 8, .inl (u_235.2.1 1))), (t0, .inr (9, [.ref t1, k_1, .ref t2, k_3, .int n, k_5, k_6, k_7, k_8, .int ho])), (t1, .inl (K 0, 56, .inl f1)), (t2, .inl (K 0, 6, .inl f2))]) [0, 1, 2, 3, 4, 5, 6] (by decide) rfl
      exact W.iret (v := r_234) hx hb hr (fun t ht hW => ⟨⟨r_234, ((fun _ => 0, fun i => match i with | 0 => (u_235.2.1 0) | _ => (u_235.2.1 1), fun _ => fun _ => 0, fun _ => 0, fun _ => 0, fun _ => fun _ => none) : Su), rfl, trivial, (⟨by rw [ht]; exact hP9, hD9⟩ : Wd D A _ t)⟩, hS.F ht⟩) hS.2.2 dX11_tune_27
  · refine lv_if_ne (tgt := 11) hx hb dX11_tune_6 (by decide) (fun c_237 => absurd (by decide) c_237) (fun c_237 => ?_)
    refine lv_iconst (v := (-1)) hx hb dX11_tune_9 (by decide) ?_
    rw [← hQ]
    have hP9 := hP.sub (ws' := [(o0, .inr (11, [.ref t0, o_1, o_2, o_3, o_4, o_5, o_6, o_7, o_8, o_9, o_10, .ref p0, o_12, o_13, o_14, o_15, o_16])), (p0, .inr (4, [.ref p1, .ref p2, .ref p3, .ref p4, .ref p5])), (p3, .inl (K 0, 8, .inl fb)), (p4, .inl (K 0, 8, .inl fr)), (t0, .inr (9, [.ref t1, k_1, .ref t2, k_3, .int n, k_5, k_6, k_7, k_8, .int ho])), (t1, .inl (K 0, 56, .inl f1)), (t2, .inl (K 0, 6, .inl f2))]) [0, 1, 2, 3, 4, 5, 6] rfl
    have hD9 := hD.sub (ws' := [(o0, .inr (11, [.ref t0, o_1, o_2, o_3, o_4, o_5, o_6, o_7, o_8, o_9, o_10, .ref p0, o_12, o_13, o_14, o_15, o_16])), (p0, .inr (4, [.ref p1, .ref p2, .ref p3, .ref p4, .ref p5])), (p3, .inl (K 0, 8, .inl fb)), (p4, .inl (K 0, 8, .inl fr)), (t0, .inr (9, [.ref t1, k_1, .ref t2, k_3, .int n, k_5, k_6, k_7, k_8, .int ho])), (t1, .inl (K 0, 56, .inl f1)), (t2, .inl (K 0, 6, .inl f2))]) [0, 1, 2, 3, 4, 5, 6] (by decide) rfl
    exact W.iret (v := (-1)) hx hb hr (fun t ht hW => ⟨⟨(-1), ((fun _ => 0, fun i => match i with | 0 => fb | _ => fr, fun _ => fun _ => 0, fun _ => 0, fun _ => 0, fun _ => fun _ => none) : Su), rfl, trivial, (⟨by rw [ht]; exact hP9, hD9⟩ : Wd D A _ t)⟩, hS.F ht⟩) hS.2.2 dX11_tune_10
set_option maxHeartbeats 4000000 in
set_option maxRecDepth 100000 in
theorem w_hear (l : Launch) (D : va_G) (K : Nat → ClassId) (o0 : Nat) (x : Int32) (t0 : Nat) (o_1 : Value) (o_2 : Value) (o_3 : Value) (o_4 : Value) (o_5 : Value) (o_6 : Value) (o_7 : Value) (o_8 : Value) (o_9 : Value) (o_10 : Value) (o_11 : Value) (rf : Nat) (rb : Int32) (o_14 : Value) (o_15 : Value) (o_16 : Value) (frf : Nat → Int32) (k_0 : Value) (k_1 : Value) (k_2 : Value) (k_3 : Value) (k_4 : Value) (k_5 : Value) (k_6 : Value) (k_7 : Value) (hea : Int32) (ho : Int32) (sz : Nat) (zht : 0 ≤ hea.toInt ∧ hea.toInt ≤ 6) : Met l yX11_hear wsX11_hear ({ frames := 2, cells := 0, slots := 0, locals := 44 }) (va_Pc [.ref o0, .int x] (Pre D K [(o0, .inr (11, [.ref t0, o_1, o_2, o_3, o_4, o_5, o_6, o_7, o_8, o_9, o_10, o_11, .ref rf, .int rb, o_14, o_15, o_16])), (rf, .inl (K 0, 5, .inl frf)), (t0, .inr (9, [k_0, k_1, k_2, k_3, k_4, k_5, k_6, k_7, .int hea, .int ho]))] sz)) (va_Qi (S := Su) (fun (r : Int32) (u : Su) => (0 ≤ (u.2.2.2.1 1).toInt ∧ (u.2.2.2.1 1).toInt ≤ 6) ∧ True) (fun u t => Wd D (va_A [(o0, .inr (11, [.ref t0, o_1, o_2, o_3, o_4, o_5, o_6, o_7, o_8, o_9, o_10, o_11, .ref rf, .int rb, o_14, o_15, o_16])), (rf, .inl (K 0, 5, .inl frf)), (t0, .inr (9, [k_0, k_1, k_2, k_3, k_4, k_5, k_6, k_7, .int hea, .int ho]))] sz) ((fun u => [(o0, .inr (11, [.ref t0, o_1, o_2, o_3, o_4, o_5, o_6, o_7, o_8, o_9, o_10, o_11, .ref rf, .int (u.2.2.2.1 0), o_14, o_15, o_16])), (rf, .inl (K 0, 5, .inl (u.2.1 0))), (t0, .inr (9, [k_0, k_1, k_2, k_3, k_4, k_5, k_6, k_7, .int (u.2.2.2.1 1), .int (u.2.2.2.1 2)]))]) u) t) (va_A [(o0, .inr (11, [.ref t0, o_1, o_2, o_3, o_4, o_5, o_6, o_7, o_8, o_9, o_10, o_11, .ref rf, .int rb, o_14, o_15, o_16])), (rf, .inl (K 0, 5, .inl frf)), (t0, .inr (9, [k_0, k_1, k_2, k_3, k_4, k_5, k_6, k_7, .int hea, .int ho]))] sz)) 0 0 (va_A [(o0, .inr (11, [.ref t0, o_1, o_2, o_3, o_4, o_5, o_6, o_7, o_8, o_9, o_10, o_11, .ref rf, .int rb, o_14, o_15, o_16])), (rf, .inl (K 0, 5, .inl frf)), (t0, .inr (9, [k_0, k_1, k_2, k_3, k_4, k_5, k_6, k_7, .int hea, .int ho]))] sz) := by
  refine Met.ofW (cc := cX11_hear) (maxL := 2) (ret := (some .int)) (by decide) rfl ?_
  intro p e s m args below meth c s₁ B hml hv
  obtain ⟨rfl, hsz, hP, hK, hD0, hN⟩ := hv
  have hx := B.exec
  have hb := B.bytes
  have hr := B.returns
  have hts := atoms_spec (ws := wsX11_hear) B.pre
  have hown : s.vm.findClass RX11 = some m.cls := findClass_of_methodNamed B.named
  have hlocks := B.notSynchronized
  subst hsz
  have hD := hD0.self (sz := s.heap.size)
  generalize hAe : va_A [(o0, .inr (11, [.ref t0, o_1, o_2, o_3, o_4, o_5, o_6, o_7, o_8, o_9, o_10, o_11, .ref rf, .int rb, o_14, o_15, o_16])), (rf, .inl (K 0, 5, .inl frf)), (t0, .inr (9, [k_0, k_1, k_2, k_3, k_4, k_5, k_6, k_7, .int hea, .int ho]))] s.heap.size = A at hD ⊢
  have hA : ∀ q : Nat, s.heap.size ≤ q → A q := fun q h => by rw [← hAe]; exact Or.inr h
  have hS : va_S A s.heap s.heap [] := va_S.rf
  have hP : va_P D vwCl [(o0, .inr (11, [.ref t0, o_1, o_2, o_3, o_4, o_5, o_6, o_7, o_8, o_9, o_10, o_11, .ref rf, .int rb, o_14, o_15, o_16])), (rf, .inl (K 0, 5, .inl frf)), (t0, .inr (9, [k_0, k_1, k_2, k_3, k_4, k_5, k_6, k_7, .int hea, .int ho]))] s.heap := hP
  have hl := lv_entry [.ref o0, .int x] (n := 2) (Nat.le_of_ble_eq_true rfl)
  rw [lg_entry_eq]
  generalize (lg_sl [.ref o0, .int x] ++ List.replicate (2 - (lg_sl [.ref o0, .int x]).length) Slot.unset).toArray = ls at hl ⊢
  have hl : lv_has ls 2 [(0, .ref o0), (1, .int x)] := hl
  have hw9 : ∀ w ∈ wsX90, w ∈ wsX11_hear := fun w h => (List.mem_cons_of_mem _ (List.mem_append_right _ h))
  have hw11 : ∀ w ∈ wsX110, w ∈ wsX11_hear := fun w h => (List.mem_cons_of_mem _ (List.mem_append_left _ (List.mem_append_right _ h)))
  generalize hQ : MQ below _ _ s _ _ _ = Q
  refine lv_iload_n hx hb dX11_hear_0 rfl (lv_at hl 1 rfl) ?_
  refine lv_iconst (v := 0) hx hb dX11_hear_1 (by decide) ?_
  refine lv_bipush (v := 127) hx hb dX11_hear_2 (by decide) ?_
  refine pci (va_runS (As := [.int x, .int 0, .int 127]) (rest := []) ⟨hx, hb, hml, hown, hts⟩ (w_within l D K x.toInt 0 127 x 0 127 s.heap.size rfl (show (0 : Int32).toInt = 0 from rfl) (show (127 : Int32).toInt = 127 from rfl)) (va_cwS 3 hts gX11_hear_X11_within rfl rfl rfl (by decide +kernel) ⟨Nat.le_of_ble_eq_true rfl, Nat.le_of_ble_eq_true rfl⟩) (mkS hK hN (va_P.nil) (va_D.nil (A := fun _ => True))) rfl rfl hl.1 rfl (lv_room (Nat.le_of_ble_eq_true rfl)) dX11_hear_4 ⟨Nat.le_of_ble_eq_true rfl, Nat.le_of_ble_eq_true rfl⟩) (fun r_91 hw => ?_)
  obtain ⟨hw, -⟩ := hw
  rcases hw with ⟨rfl, h_92, h_93⟩ | ⟨rfl, h_94⟩
  · refine lv_if_ne (tgt := 16) hx hb dX11_hear_7 (by decide) (fun c_95 => ?_) (fun c_95 => absurd c_95 (by decide))
    refine lv_aload_n hx hb dX11_hear_16 rfl (lv_at hl 0 rfl) ?_
    refine va_get (ci := 11) (v := .ref t0) (C := RX11) (T := TX11) (N := 17) hx hb hts hw11 hown hK hP 0 rfl rfl 0 (by decide) (hts (.fieldLink RX11 10 "SmokeTune" "town" "LSmokeTune$Town;") (List.mem_cons_of_mem _ (List.mem_append_left _ (List.mem_append_left _ (List.mem_of_getElem? (i := 0) rfl))))) (fun _ h9 => h9) rfl dX11_hear_17 ?_
    refine va_getN (ci := 9) (v := .int hea) (C := RX9) (T := TX9) (N := 10) hx hb hts hw9 hown hK hP 2 rfl rfl 8 (by decide) (nst_use hN 116 rfl) (fun _ h9 => h9) rfl dX11_hear_20 ?_
    refine lv_bipush (v := 6) hx hb dX11_hear_23 (by decide) ?_
    refine lv_icmp_lt (tgt := 35) hx hb dX11_hear_25 (by decide) (fun c_96 => ?_) (fun c_96 => ?_)
    · have c_96i := i_lt (x := hea.toInt) (y := 6) rfl rfl c_96
      refine lv_aload_n hx hb dX11_hear_35 rfl (lv_at hl 0 rfl) ?_
      refine va_get (ci := 11) (v := .ref t0) (C := RX11) (T := TX11) (N := 17) hx hb hts hw11 hown hK hP 0 rfl rfl 0 (by decide) (hts (.fieldLink RX11 10 "SmokeTune" "town" "LSmokeTune$Town;") (List.mem_cons_of_mem _ (List.mem_append_left _ (List.mem_append_left _ (List.mem_of_getElem? (i := 0) rfl))))) (fun _ h9 => h9) rfl dX11_hear_36 ?_
      refine lv_dup hx hb dX11_hear_39 rfl ?_
      refine va_getN (ci := 9) (v := .int ho) (C := RX9) (T := TX9) (N := 10) hx hb hts hw9 hown hK hP 2 rfl rfl 9 (by decide) (nst_use hN 118 rfl) (fun _ h9 => h9) rfl dX11_hear_40 ?_
      refine lv_iload_n hx hb dX11_hear_43 rfl (lv_at hl 1 rfl) ?_
      refine lv_ior hx hb dX11_hear_44 ?_
      refine lv_topi (fun x_97 ex_97 => ?_)
      refine va_putN (ci := 9) (v := .int x_97) (ty := .int) (C := RX9) (T := TX9) (N := 10) hx hb hts hw9 tyX9 tyX9_ok nmX9 hown hK hP hD hS 2 rfl rfl 9 (by decide) (nst_use hN 118 rfl) (fun _ h9 => h9) rfl (by decide +kernel) (by first | rfl | decide) (by first | rfl | decide) (Nat.le_of_ble_eq_true rfl) dX11_hear_45 (fun H locs hP hD hS => ?_)
      have hP : va_P D vwCl [(o0, .inr (11, [.ref t0, o_1, o_2, o_3, o_4, o_5, o_6, o_7, o_8, o_9, o_10, o_11, .ref rf, .int rb, o_14, o_15, o_16])), (rf, .inl (K 0, 5, .inl frf)), (t0, .inr (9, [k_0, k_1, k_2, k_3, k_4, k_5, k_6, k_7, .int hea, .int x_97]))] H := hP
      have hD : va_D A [(o0, .inr (11, [.ref t0, o_1, o_2, o_3, o_4, o_5, o_6, o_7, o_8, o_9, o_10, o_11, .ref rf, .int rb, o_14, o_15, o_16])), (rf, .inl (K 0, 5, .inl frf)), (t0, .inr (9, [k_0, k_1, k_2, k_3, k_4, k_5, k_6, k_7, .int hea, .int x_97]))] := hD
      refine lv_aload_n hx hb dX11_hear_48 rfl (lv_at hl 0 rfl) ?_
      refine va_get (ci := 11) (v := .ref t0) (C := RX11) (T := TX11) (N := 17) hx hb hts hw11 hown hK hP 0 rfl rfl 0 (by decide) (hts (.fieldLink RX11 10 "SmokeTune" "town" "LSmokeTune$Town;") (List.mem_cons_of_mem _ (List.mem_append_left _ (List.mem_append_left _ (List.mem_of_getElem? (i := 0) rfl))))) (fun _ h9 => h9) rfl dX11_hear_49 ?_
      refine lv_dup hx hb dX11_hear_52 rfl ?_
      refine va_getN (ci := 9) (v := .int hea) (C := RX9) (T := TX9) (N := 10) hx hb hts hw9 hown hK hP 2 rfl rfl 8 (by decide) (nst_use hN 116 rfl) (fun _ h9 => h9) rfl dX11_hear_53 ?_
      refine lv_iconst (v := 1) hx hb dX11_hear_56 (by decide) ?_
      refine lv_iadd hx hb dX11_hear_57 ?_
      refine lv_topi (fun x_98 ex_98 => ?_)
      have hx_98 : x_98.toInt = (hea.toInt + 1) := by rw [ex_98]; exact i_add rfl (show (1 : Int32).toInt = 1 from rfl) (by omega)
      refine va_putN (ci := 9) (v := .int x_98) (ty := .int) (C := RX9) (T := TX9) (N := 10) hx hb hts hw9 tyX9 tyX9_ok nmX9 hown hK hP hD hS 2 rfl rfl 8 (by decide) (nst_use hN 116 rfl) (fun _ h9 => h9) rfl (by decide +kernel) (by first | rfl | decide) (by first | rfl | decide) (Nat.le_of_ble_eq_true rfl) dX11_hear_58 (fun H locs hP hD hS => ?_)
      have hP : va_P D vwCl [(o0, .inr (11, [.ref t0, o_1, o_2, o_3, o_4, o_5, o_6, o_7, o_8, o_9, o_10, o_11, .ref rf, .int rb, o_14, o_15, o_16])), (rf, .inl (K 0, 5, .inl frf)), (t0, .inr (9, [k_0, k_1, k_2, k_3, k_4, k_5, k_6, k_7, .int x_98, .int x_97]))] H := hP
      have hD : va_D A [(o0, .inr (11, [.ref t0, o_1, o_2, o_3, o_4, o_5, o_6, o_7, o_8, o_9, o_10, o_11, .ref rf, .int rb, o_14, o_15, o_16])), (rf, .inl (K 0, 5, .inl frf)), (t0, .inr (9, [k_0, k_1, k_2, k_3, k_4, k_5, k_6, k_7, .int x_98, .int x_97]))] := hD
      refine lv_aload_n hx hb dX11_hear_61 rfl (lv_at hl 0 rfl) ?_
      refine lv_aload_n hx hb dX11_hear_62 rfl (lv_at hl 0 rfl) ?_
      refine va_get (ci := 11) (v := .ref t0) (C := RX11) (T := TX11) (N := 17) hx hb hts hw11 hown hK hP 0 rfl rfl 0 (by decide) (hts (.fieldLink RX11 10 "SmokeTune" "town" "LSmokeTune$Town;") (List.mem_cons_of_mem _ (List.mem_append_left _ (List.mem_append_left _ (List.mem_of_getElem? (i := 0) rfl))))) (fun _ h9 => h9) rfl dX11_hear_63 ?_
      refine va_getN (ci := 9) (v := .int x_98) (C := RX9) (T := TX9) (N := 10) hx hb hts hw9 hown hK hP 2 rfl rfl 8 (by decide) (nst_use hN 116 rfl) (fun _ h9 => h9) rfl dX11_hear_66 ?_
      refine kci (S := Su) (wr := [(rf, .inl (K 0, 5, .inl frf)), (t0, .inr (9, [k_0, k_1, k_2, k_3, k_4, k_5, k_6, k_7, .int x_98, .int x_97]))]) (va_runV (As := [.int x_98]) (rest := []) ⟨hx, hb, hml, hown, hts⟩ (w_accept l D K o0 x_98 (.ref t0) o_1 o_2 o_3 o_4 o_5 o_6 o_7 o_8 o_9 o_10 o_11 (.ref rf) rb o_14 o_15 o_16 H.size) (cwV 1 hts gX11_hear_X11_accept rfl rfl rfl (by decide +kernel) ⟨Nat.le_of_ble_eq_true rfl, Nat.le_of_ble_eq_true rfl⟩) (mkV hK hN (hP.sub [0] rfl) (hD.sub [0] (by decide) rfl) (ci := 11) (q0 := 0) rfl rfl) rfl rfl hl.1 rfl (lv_room (Nat.le_of_ble_eq_true rfl)) dX11_hear_69 ⟨Nat.le_of_ble_eq_true rfl, Nat.le_of_ble_eq_true rfl⟩) hP hD hS hA [0] [1, 2] rfl rfl (by decide) (by decide) (fun r_99 u_100 H locs hw hP hD hS => ?_)
      have hP : va_P D vwCl [(rf, .inl (K 0, 5, .inl frf)), (t0, .inr (9, [k_0, k_1, k_2, k_3, k_4, k_5, k_6, k_7, .int x_98, .int x_97])), (o0, .inr (11, [.ref t0, o_1, o_2, o_3, o_4, o_5, o_6, o_7, o_8, o_9, o_10, o_11, .ref rf, .int 0, o_14, o_15, o_16]))] H := hP
      have hD : va_D A [(rf, .inl (K 0, 5, .inl frf)), (t0, .inr (9, [k_0, k_1, k_2, k_3, k_4, k_5, k_6, k_7, .int x_98, .int x_97])), (o0, .inr (11, [.ref t0, o_1, o_2, o_3, o_4, o_5, o_6, o_7, o_8, o_9, o_10, o_11, .ref rf, .int 0, o_14, o_15, o_16]))] := hD
      obtain ⟨hw, -⟩ := hw
      have er_r_99 := hw
      have hr_r_99 : r_99.toInt = (hea.toInt + 1) := (congrArg Int32.toInt er_r_99).trans hx_98
      rw [← hQ]
      have hP9 := hP.sub (ws' := [(o0, .inr (11, [.ref t0, o_1, o_2, o_3, o_4, o_5, o_6, o_7, o_8, o_9, o_10, o_11, .ref rf, .int 0, o_14, o_15, o_16])), (rf, .inl (K 0, 5, .inl frf)), (t0, .inr (9, [k_0, k_1, k_2, k_3, k_4, k_5, k_6, k_7, .int x_98, .int x_97]))]) [2, 0, 1] rfl
      have hD9 := hD.sub (ws' := [(o0, .inr (11, [.ref t0, o_1, o_2, o_3, o_4, o_5, o_6, o_7, o_8, o_9, o_10, o_11, .ref rf, .int 0, o_14, o_15, o_16])), (rf, .inl (K 0, 5, .inl frf)), (t0, .inr (9, [k_0, k_1, k_2, k_3, k_4, k_5, k_6, k_7, .int x_98, .int x_97]))]) [2, 0, 1] (by decide) rfl
      exact W.iret (v := r_99) hx hb hr (fun t ht hW => ⟨⟨r_99, ((fun _ => 0, fun i => match i with | _ => frf, fun _ => fun _ => 0, fun i => match i with | 0 => 0 | 1 => x_98 | _ => x_97, fun _ => 0, fun _ => fun _ => none) : Su), rfl, ⟨(show 0 ≤ (x_98 : Int32).toInt ∧ (x_98 : Int32).toInt ≤ 6 by rw [hx_98]; omega), trivial⟩, (⟨by rw [ht]; exact hP9, hD9⟩ : Wd D A _ t)⟩, hS.F ht⟩) hS.2.2 dX11_hear_72
    · have c_96i := i_nlt (x := hea.toInt) (y := 6) rfl rfl c_96
      refine lv_aload_n hx hb dX11_hear_28 rfl (lv_at hl 0 rfl) ?_
      refine lv_bipush (v := (-5)) hx hb dX11_hear_29 (by decide) ?_
      refine kci (S := Su) (wr := [(t0, .inr (9, [k_0, k_1, k_2, k_3, k_4, k_5, k_6, k_7, .int hea, .int ho]))]) (va_runV (As := [.int (-5)]) (rest := []) ⟨hx, hb, hml, hown, hts⟩ (w_refuse l D K o0 (-5) (.ref t0) o_1 o_2 o_3 o_4 o_5 o_6 o_7 o_8 o_9 o_10 o_11 rf rb o_14 o_15 o_16 frf s.heap.size) (cwV 1 hts gX11_hear_X11_refuse rfl rfl rfl (by decide +kernel) ⟨Nat.le_of_ble_eq_true rfl, Nat.le_of_ble_eq_true rfl⟩) (mkV hK hN (hP.sub [0, 1] rfl) (hD.sub [0, 1] (by decide) rfl) (ci := 11) (q0 := 0) rfl rfl) rfl rfl hl.1 rfl (lv_room (Nat.le_of_ble_eq_true rfl)) dX11_hear_31 ⟨Nat.le_of_ble_eq_true rfl, Nat.le_of_ble_eq_true rfl⟩) hP hD hS hA [0, 1] [2] rfl rfl (by decide) (by decide) (fun r_101 u_102 H locs hw hP hD hS => ?_)
      have hP : va_P D vwCl [(t0, .inr (9, [k_0, k_1, k_2, k_3, k_4, k_5, k_6, k_7, .int hea, .int ho])), (o0, .inr (11, [.ref t0, o_1, o_2, o_3, o_4, o_5, o_6, o_7, o_8, o_9, o_10, o_11, .ref rf, .int (u_102.2.2.2.1 0), o_14, o_15, o_16])), (rf, .inl (K 0, 5, .inl (u_102.2.1 0)))] H := hP
      have hD : va_D A [(t0, .inr (9, [k_0, k_1, k_2, k_3, k_4, k_5, k_6, k_7, .int hea, .int ho])), (o0, .inr (11, [.ref t0, o_1, o_2, o_3, o_4, o_5, o_6, o_7, o_8, o_9, o_10, o_11, .ref rf, .int (u_102.2.2.2.1 0), o_14, o_15, o_16])), (rf, .inl (K 0, 5, .inl (u_102.2.1 0)))] := hD
      rw [← hQ]
      have hP9 := hP.sub (ws' := [(o0, .inr (11, [.ref t0, o_1, o_2, o_3, o_4, o_5, o_6, o_7, o_8, o_9, o_10, o_11, .ref rf, .int (u_102.2.2.2.1 0), o_14, o_15, o_16])), (rf, .inl (K 0, 5, .inl (u_102.2.1 0))), (t0, .inr (9, [k_0, k_1, k_2, k_3, k_4, k_5, k_6, k_7, .int hea, .int ho]))]) [1, 2, 0] rfl
      have hD9 := hD.sub (ws' := [(o0, .inr (11, [.ref t0, o_1, o_2, o_3, o_4, o_5, o_6, o_7, o_8, o_9, o_10, o_11, .ref rf, .int (u_102.2.2.2.1 0), o_14, o_15, o_16])), (rf, .inl (K 0, 5, .inl (u_102.2.1 0))), (t0, .inr (9, [k_0, k_1, k_2, k_3, k_4, k_5, k_6, k_7, .int hea, .int ho]))]) [1, 2, 0] (by decide) rfl
      exact W.iret (v := r_101) hx hb hr (fun t ht hW => ⟨⟨r_101, ((fun _ => 0, fun i => match i with | _ => (u_102.2.1 0), fun _ => fun _ => 0, fun i => match i with | 0 => (u_102.2.2.2.1 0) | 1 => hea | _ => ho, fun _ => 0, fun _ => fun _ => none) : Su), rfl, ⟨(show 0 ≤ (hea : Int32).toInt ∧ (hea : Int32).toInt ≤ 6 by omega), trivial⟩, (⟨by rw [ht]; exact hP9, hD9⟩ : Wd D A _ t)⟩, hS.F ht⟩) hS.2.2 dX11_hear_34
  · refine lv_if_ne (tgt := 16) hx hb dX11_hear_7 (by decide) (fun c_103 => absurd (by decide) c_103) (fun c_103 => ?_)
    refine lv_aload_n hx hb dX11_hear_10 rfl (lv_at hl 0 rfl) ?_
    refine lv_iconst (v := (-1)) hx hb dX11_hear_11 (by decide) ?_
    refine kci (S := Su) (wr := [(t0, .inr (9, [k_0, k_1, k_2, k_3, k_4, k_5, k_6, k_7, .int hea, .int ho]))]) (va_runV (As := [.int (-1)]) (rest := []) ⟨hx, hb, hml, hown, hts⟩ (w_refuse l D K o0 (-1) (.ref t0) o_1 o_2 o_3 o_4 o_5 o_6 o_7 o_8 o_9 o_10 o_11 rf rb o_14 o_15 o_16 frf s.heap.size) (cwV 1 hts gX11_hear_X11_refuse rfl rfl rfl (by decide +kernel) ⟨Nat.le_of_ble_eq_true rfl, Nat.le_of_ble_eq_true rfl⟩) (mkV hK hN (hP.sub [0, 1] rfl) (hD.sub [0, 1] (by decide) rfl) (ci := 11) (q0 := 0) rfl rfl) rfl rfl hl.1 rfl (lv_room (Nat.le_of_ble_eq_true rfl)) dX11_hear_12 ⟨Nat.le_of_ble_eq_true rfl, Nat.le_of_ble_eq_true rfl⟩) hP hD hS hA [0, 1] [2] rfl rfl (by decide) (by decide) (fun r_104 u_105 H locs hw hP hD hS => ?_)
    have hP : va_P D vwCl [(t0, .inr (9, [k_0, k_1, k_2, k_3, k_4, k_5, k_6, k_7, .int hea, .int ho])), (o0, .inr (11, [.ref t0, o_1, o_2, o_3, o_4, o_5, o_6, o_7, o_8, o_9, o_10, o_11, .ref rf, .int (u_105.2.2.2.1 0), o_14, o_15, o_16])), (rf, .inl (K 0, 5, .inl (u_105.2.1 0)))] H := hP
    have hD : va_D A [(t0, .inr (9, [k_0, k_1, k_2, k_3, k_4, k_5, k_6, k_7, .int hea, .int ho])), (o0, .inr (11, [.ref t0, o_1, o_2, o_3, o_4, o_5, o_6, o_7, o_8, o_9, o_10, o_11, .ref rf, .int (u_105.2.2.2.1 0), o_14, o_15, o_16])), (rf, .inl (K 0, 5, .inl (u_105.2.1 0)))] := hD
    rw [← hQ]
    have hP9 := hP.sub (ws' := [(o0, .inr (11, [.ref t0, o_1, o_2, o_3, o_4, o_5, o_6, o_7, o_8, o_9, o_10, o_11, .ref rf, .int (u_105.2.2.2.1 0), o_14, o_15, o_16])), (rf, .inl (K 0, 5, .inl (u_105.2.1 0))), (t0, .inr (9, [k_0, k_1, k_2, k_3, k_4, k_5, k_6, k_7, .int hea, .int ho]))]) [1, 2, 0] rfl
    have hD9 := hD.sub (ws' := [(o0, .inr (11, [.ref t0, o_1, o_2, o_3, o_4, o_5, o_6, o_7, o_8, o_9, o_10, o_11, .ref rf, .int (u_105.2.2.2.1 0), o_14, o_15, o_16])), (rf, .inl (K 0, 5, .inl (u_105.2.1 0))), (t0, .inr (9, [k_0, k_1, k_2, k_3, k_4, k_5, k_6, k_7, .int hea, .int ho]))]) [1, 2, 0] (by decide) rfl
    exact W.iret (v := r_104) hx hb hr (fun t ht hW => ⟨⟨r_104, ((fun _ => 0, fun i => match i with | _ => (u_105.2.1 0), fun _ => fun _ => 0, fun i => match i with | 0 => (u_105.2.2.2.1 0) | 1 => hea | _ => ho, fun _ => 0, fun _ => fun _ => none) : Su), rfl, ⟨(show 0 ≤ (hea : Int32).toInt ∧ (hea : Int32).toInt ≤ 6 by omega), trivial⟩, (⟨by rw [ht]; exact hP9, hD9⟩ : Wd D A _ t)⟩, hS.F ht⟩) hS.2.2 dX11_hear_15
set_option maxHeartbeats 4000000 in
set_option maxRecDepth 100000 in
theorem w_forget (l : Launch) (D : va_G) (K : Nat → ClassId) (o0 : Nat) (t0 : Nat) (o_1 : Value) (o_2 : Value) (o_3 : Value) (o_4 : Value) (o_5 : Value) (o_6 : Value) (o_7 : Value) (o_8 : Value) (o_9 : Value) (o_10 : Value) (o_11 : Value) (o_12 : Value) (o_13 : Value) (o_14 : Value) (o_15 : Value) (o_16 : Value) (k_0 : Value) (k_1 : Value) (k_2 : Value) (k_3 : Value) (k_4 : Value) (k_5 : Value) (k_6 : Value) (k_7 : Value) (hea : Int32) (ho : Int32) (sz : Nat) (zht : 0 ≤ hea.toInt ∧ hea.toInt ≤ 6) : Met l yX11_forget wsX11_forget ({ frames := 0, cells := 0, slots := 0, locals := 0 }) (va_Pc [.ref o0] (Pre D K [(o0, .inr (11, [.ref t0, o_1, o_2, o_3, o_4, o_5, o_6, o_7, o_8, o_9, o_10, o_11, o_12, o_13, o_14, o_15, o_16])), (t0, .inr (9, [k_0, k_1, k_2, k_3, k_4, k_5, k_6, k_7, .int hea, .int ho]))] sz)) (va_Qi (S := Su) (fun (r : Int32) (u : Su) => (0 ≤ r.toInt ∧ r.toInt ≤ 6) ∧ True) (fun u t => Wd D (va_A [(o0, .inr (11, [.ref t0, o_1, o_2, o_3, o_4, o_5, o_6, o_7, o_8, o_9, o_10, o_11, o_12, o_13, o_14, o_15, o_16])), (t0, .inr (9, [k_0, k_1, k_2, k_3, k_4, k_5, k_6, k_7, .int hea, .int ho]))] sz) ((fun u => [(o0, .inr (11, [.ref t0, o_1, o_2, o_3, o_4, o_5, o_6, o_7, o_8, o_9, o_10, o_11, o_12, o_13, o_14, o_15, o_16])), (t0, .inr (9, [k_0, k_1, k_2, k_3, k_4, k_5, k_6, k_7, .int 0, .int 0]))]) u) t) (va_A [(o0, .inr (11, [.ref t0, o_1, o_2, o_3, o_4, o_5, o_6, o_7, o_8, o_9, o_10, o_11, o_12, o_13, o_14, o_15, o_16])), (t0, .inr (9, [k_0, k_1, k_2, k_3, k_4, k_5, k_6, k_7, .int hea, .int ho]))] sz)) 0 0 (va_A [(o0, .inr (11, [.ref t0, o_1, o_2, o_3, o_4, o_5, o_6, o_7, o_8, o_9, o_10, o_11, o_12, o_13, o_14, o_15, o_16])), (t0, .inr (9, [k_0, k_1, k_2, k_3, k_4, k_5, k_6, k_7, .int hea, .int ho]))] sz) := by
  refine Met.ofW (cc := cX11_forget) (maxL := 2) (ret := (some .int)) (by decide) rfl ?_
  intro p e s m args below meth c s₁ B hml hv
  obtain ⟨rfl, hsz, hP, hK, hD0, hN⟩ := hv
  have hx := B.exec
  have hb := B.bytes
  have hr := B.returns
  have hts := atoms_spec (ws := wsX11_forget) B.pre
  have hown : s.vm.findClass RX11 = some m.cls := findClass_of_methodNamed B.named
  have hlocks := B.notSynchronized
  subst hsz
  have hD := hD0.self (sz := s.heap.size)
  generalize hAe : va_A [(o0, .inr (11, [.ref t0, o_1, o_2, o_3, o_4, o_5, o_6, o_7, o_8, o_9, o_10, o_11, o_12, o_13, o_14, o_15, o_16])), (t0, .inr (9, [k_0, k_1, k_2, k_3, k_4, k_5, k_6, k_7, .int hea, .int ho]))] s.heap.size = A at hD ⊢
  have hA : ∀ q : Nat, s.heap.size ≤ q → A q := fun q h => by rw [← hAe]; exact Or.inr h
  have hS : va_S A s.heap s.heap [] := va_S.rf
  have hP : va_P D vwCl [(o0, .inr (11, [.ref t0, o_1, o_2, o_3, o_4, o_5, o_6, o_7, o_8, o_9, o_10, o_11, o_12, o_13, o_14, o_15, o_16])), (t0, .inr (9, [k_0, k_1, k_2, k_3, k_4, k_5, k_6, k_7, .int hea, .int ho]))] s.heap := hP
  have hl := lv_entry [.ref o0] (n := 2) (Nat.le_of_ble_eq_true rfl)
  rw [lg_entry_eq]
  generalize (lg_sl [.ref o0] ++ List.replicate (2 - (lg_sl [.ref o0]).length) Slot.unset).toArray = ls at hl ⊢
  have hl : lv_has ls 2 [(0, .ref o0)] := hl
  have hw9 : ∀ w ∈ wsX90, w ∈ wsX11_forget := fun w h => (List.mem_cons_of_mem _ (List.mem_append_right _ h))
  have hw11 : ∀ w ∈ wsX110, w ∈ wsX11_forget := fun w h => (List.mem_cons_of_mem _ (List.mem_append_left _ (List.mem_append_right _ h)))
  generalize hQ : MQ below _ _ s _ _ _ = Q
  refine lv_aload_n hx hb dX11_forget_0 rfl (lv_at hl 0 rfl) ?_
  refine va_get (ci := 11) (v := .ref t0) (C := RX11) (T := TX11) (N := 17) hx hb hts hw11 hown hK hP 0 rfl rfl 0 (by decide) (hts (.fieldLink RX11 10 "SmokeTune" "town" "LSmokeTune$Town;") (List.mem_cons_of_mem _ (List.mem_append_left _ (List.mem_append_left _ (List.mem_of_getElem? (i := 0) rfl))))) (fun _ h9 => h9) rfl dX11_forget_1 ?_
  refine va_getN (ci := 9) (v := .int hea) (C := RX9) (T := TX9) (N := 10) hx hb hts hw9 hown hK hP 1 rfl rfl 8 (by decide) (nst_use hN 116 rfl) (fun _ h9 => h9) rfl dX11_forget_4 ?_
  refine lv_istore_n (lv' := [(1, .int hea), (0, .ref o0)]) hx hb dX11_forget_7 rfl hl (by decide) rfl (fun ls hl => ?_)
  refine lv_aload_n hx hb dX11_forget_8 rfl (lv_at hl 1 rfl) ?_
  refine va_get (ci := 11) (v := .ref t0) (C := RX11) (T := TX11) (N := 17) hx hb hts hw11 hown hK hP 0 rfl rfl 0 (by decide) (hts (.fieldLink RX11 10 "SmokeTune" "town" "LSmokeTune$Town;") (List.mem_cons_of_mem _ (List.mem_append_left _ (List.mem_append_left _ (List.mem_of_getElem? (i := 0) rfl))))) (fun _ h9 => h9) rfl dX11_forget_9 ?_
  refine lv_iconst (v := 0) hx hb dX11_forget_12 (by decide) ?_
  refine va_putN (ci := 9) (v := .int 0) (ty := .int) (C := RX9) (T := TX9) (N := 10) hx hb hts hw9 tyX9 tyX9_ok nmX9 hown hK hP hD hS 1 rfl rfl 8 (by decide) (nst_use hN 116 rfl) (fun _ h9 => h9) rfl (by decide +kernel) (by first | rfl | decide) (by first | rfl | decide) (Nat.le_of_ble_eq_true rfl) dX11_forget_13 (fun H locs hP hD hS => ?_)
  have hP : va_P D vwCl [(o0, .inr (11, [.ref t0, o_1, o_2, o_3, o_4, o_5, o_6, o_7, o_8, o_9, o_10, o_11, o_12, o_13, o_14, o_15, o_16])), (t0, .inr (9, [k_0, k_1, k_2, k_3, k_4, k_5, k_6, k_7, .int 0, .int ho]))] H := hP
  have hD : va_D A [(o0, .inr (11, [.ref t0, o_1, o_2, o_3, o_4, o_5, o_6, o_7, o_8, o_9, o_10, o_11, o_12, o_13, o_14, o_15, o_16])), (t0, .inr (9, [k_0, k_1, k_2, k_3, k_4, k_5, k_6, k_7, .int 0, .int ho]))] := hD
  refine lv_aload_n hx hb dX11_forget_16 rfl (lv_at hl 1 rfl) ?_
  refine va_get (ci := 11) (v := .ref t0) (C := RX11) (T := TX11) (N := 17) hx hb hts hw11 hown hK hP 0 rfl rfl 0 (by decide) (hts (.fieldLink RX11 10 "SmokeTune" "town" "LSmokeTune$Town;") (List.mem_cons_of_mem _ (List.mem_append_left _ (List.mem_append_left _ (List.mem_of_getElem? (i := 0) rfl))))) (fun _ h9 => h9) rfl dX11_forget_17 ?_
  refine lv_iconst (v := 0) hx hb dX11_forget_20 (by decide) ?_
  refine va_putN (ci := 9) (v := .int 0) (ty := .int) (C := RX9) (T := TX9) (N := 10) hx hb hts hw9 tyX9 tyX9_ok nmX9 hown hK hP hD hS 1 rfl rfl 9 (by decide) (nst_use hN 118 rfl) (fun _ h9 => h9) rfl (by decide +kernel) (by first | rfl | decide) (by first | rfl | decide) (Nat.le_of_ble_eq_true rfl) dX11_forget_21 (fun H locs hP hD hS => ?_)
  have hP : va_P D vwCl [(o0, .inr (11, [.ref t0, o_1, o_2, o_3, o_4, o_5, o_6, o_7, o_8, o_9, o_10, o_11, o_12, o_13, o_14, o_15, o_16])), (t0, .inr (9, [k_0, k_1, k_2, k_3, k_4, k_5, k_6, k_7, .int 0, .int 0]))] H := hP
  have hD : va_D A [(o0, .inr (11, [.ref t0, o_1, o_2, o_3, o_4, o_5, o_6, o_7, o_8, o_9, o_10, o_11, o_12, o_13, o_14, o_15, o_16])), (t0, .inr (9, [k_0, k_1, k_2, k_3, k_4, k_5, k_6, k_7, .int 0, .int 0]))] := hD
  refine lv_iload_n hx hb dX11_forget_24 rfl (lv_at hl 0 rfl) ?_
  rw [← hQ]
  have hP9 := hP.sub (ws' := [(o0, .inr (11, [.ref t0, o_1, o_2, o_3, o_4, o_5, o_6, o_7, o_8, o_9, o_10, o_11, o_12, o_13, o_14, o_15, o_16])), (t0, .inr (9, [k_0, k_1, k_2, k_3, k_4, k_5, k_6, k_7, .int 0, .int 0]))]) [0, 1] rfl
  have hD9 := hD.sub (ws' := [(o0, .inr (11, [.ref t0, o_1, o_2, o_3, o_4, o_5, o_6, o_7, o_8, o_9, o_10, o_11, o_12, o_13, o_14, o_15, o_16])), (t0, .inr (9, [k_0, k_1, k_2, k_3, k_4, k_5, k_6, k_7, .int 0, .int 0]))]) [0, 1] (by decide) rfl
  exact W.iret (v := hea) hx hb hr (fun t ht hW => ⟨⟨hea, ((fun _ => 0, fun _ => fun _ => 0, fun _ => fun _ => 0, fun _ => 0, fun _ => 0, fun _ => fun _ => none) : Su), rfl, ⟨(show 0 ≤ hea.toInt ∧ hea.toInt ≤ 6 by omega), trivial⟩, (⟨by rw [ht]; exact hP9, hD9⟩ : Wd D A _ t)⟩, hS.F ht⟩) hS.2.2 dX11_forget_25
set_option maxHeartbeats 4000000 in
set_option maxRecDepth 100000 in
theorem w_hill (l : Launch) (D : va_G) (K : Nat → ClassId) (o0 : Nat) (x : Int32) (t0 : Nat) (o_1 : Value) (o_2 : Value) (o_3 : Value) (o_4 : Value) (o_5 : Value) (o_6 : Value) (o_7 : Value) (o_8 : Value) (o_9 : Value) (o_10 : Value) (p0 : Nat) (o_12 : Value) (o_13 : Value) (o_14 : Value) (o_15 : Value) (o_16 : Value) (p1 : Nat) (p2 : Nat) (p3 : Nat) (p4 : Nat) (p5 : Nat) (fs : Nat → Int32) (t1 : Nat) (k_1 : Value) (t2 : Nat) (k_3 : Value) (n : Int32) (k_5 : Value) (k_6 : Value) (k_7 : Value) (k_8 : Value) (ho : Int32) (f1 : Nat → Int32) (f2 : Nat → Int32) (sz : Nat) (zn : 0 ≤ n.toInt ∧ n.toInt ≤ 8) : Met l yX11_hill wsX11_hill ({ frames := 3, cells := 0, slots := 0, locals := 72 }) (va_Pc [.ref o0, .int x] (Pre D K [(o0, .inr (11, [.ref t0, o_1, o_2, o_3, o_4, o_5, o_6, o_7, o_8, o_9, o_10, .ref p0, o_12, o_13, o_14, o_15, o_16])), (p0, .inr (4, [.ref p1, .ref p2, .ref p3, .ref p4, .ref p5])), (p5, .inl (K 0, 256, .inl fs)), (t0, .inr (9, [.ref t1, k_1, .ref t2, k_3, .int n, k_5, k_6, k_7, k_8, .int ho])), (t1, .inl (K 0, 56, .inl f1)), (t2, .inl (K 0, 6, .inl f2))] sz)) (va_Qi (S := Su) (fun (r : Int32) (u : Su) => True) (fun u t => Wd D (va_A [(o0, .inr (11, [.ref t0, o_1, o_2, o_3, o_4, o_5, o_6, o_7, o_8, o_9, o_10, .ref p0, o_12, o_13, o_14, o_15, o_16])), (p0, .inr (4, [.ref p1, .ref p2, .ref p3, .ref p4, .ref p5])), (p5, .inl (K 0, 256, .inl fs)), (t0, .inr (9, [.ref t1, k_1, .ref t2, k_3, .int n, k_5, k_6, k_7, k_8, .int ho])), (t1, .inl (K 0, 56, .inl f1)), (t2, .inl (K 0, 6, .inl f2))] sz) ((fun u => [(o0, .inr (11, [.ref t0, o_1, o_2, o_3, o_4, o_5, o_6, o_7, o_8, o_9, o_10, .ref p0, o_12, o_13, o_14, o_15, o_16])), (p0, .inr (4, [.ref p1, .ref p2, .ref p3, .ref p4, .ref p5])), (p5, .inl (K 0, 256, .inl (u.2.1 0))), (t0, .inr (9, [.ref t1, k_1, .ref t2, k_3, .int n, k_5, k_6, k_7, k_8, .int ho])), (t1, .inl (K 0, 56, .inl f1)), (t2, .inl (K 0, 6, .inl f2))]) u) t) (va_A [(o0, .inr (11, [.ref t0, o_1, o_2, o_3, o_4, o_5, o_6, o_7, o_8, o_9, o_10, .ref p0, o_12, o_13, o_14, o_15, o_16])), (p0, .inr (4, [.ref p1, .ref p2, .ref p3, .ref p4, .ref p5])), (p5, .inl (K 0, 256, .inl fs)), (t0, .inr (9, [.ref t1, k_1, .ref t2, k_3, .int n, k_5, k_6, k_7, k_8, .int ho])), (t1, .inl (K 0, 56, .inl f1)), (t2, .inl (K 0, 6, .inl f2))] sz)) 0 0 (va_A [(o0, .inr (11, [.ref t0, o_1, o_2, o_3, o_4, o_5, o_6, o_7, o_8, o_9, o_10, .ref p0, o_12, o_13, o_14, o_15, o_16])), (p0, .inr (4, [.ref p1, .ref p2, .ref p3, .ref p4, .ref p5])), (p5, .inl (K 0, 256, .inl fs)), (t0, .inr (9, [.ref t1, k_1, .ref t2, k_3, .int n, k_5, k_6, k_7, k_8, .int ho])), (t1, .inl (K 0, 56, .inl f1)), (t2, .inl (K 0, 6, .inl f2))] sz) := by
  refine Met.ofW (cc := cX11_hill) (maxL := 2) (ret := (some .int)) (by decide) rfl ?_
  intro p e s m args below meth c s₁ B hml hv
  obtain ⟨rfl, hsz, hP, hK, hD0, hN⟩ := hv
  have hx := B.exec
  have hb := B.bytes
  have hr := B.returns
  have hts := atoms_spec (ws := wsX11_hill) B.pre
  have hown : s.vm.findClass RX11 = some m.cls := findClass_of_methodNamed B.named
  have hlocks := B.notSynchronized
  subst hsz
  have hD := hD0.self (sz := s.heap.size)
  generalize hAe : va_A [(o0, .inr (11, [.ref t0, o_1, o_2, o_3, o_4, o_5, o_6, o_7, o_8, o_9, o_10, .ref p0, o_12, o_13, o_14, o_15, o_16])), (p0, .inr (4, [.ref p1, .ref p2, .ref p3, .ref p4, .ref p5])), (p5, .inl (K 0, 256, .inl fs)), (t0, .inr (9, [.ref t1, k_1, .ref t2, k_3, .int n, k_5, k_6, k_7, k_8, .int ho])), (t1, .inl (K 0, 56, .inl f1)), (t2, .inl (K 0, 6, .inl f2))] s.heap.size = A at hD ⊢
  have hA : ∀ q : Nat, s.heap.size ≤ q → A q := fun q h => by rw [← hAe]; exact Or.inr h
  have hS : va_S A s.heap s.heap [] := va_S.rf
  have hP : va_P D vwCl [(o0, .inr (11, [.ref t0, o_1, o_2, o_3, o_4, o_5, o_6, o_7, o_8, o_9, o_10, .ref p0, o_12, o_13, o_14, o_15, o_16])), (p0, .inr (4, [.ref p1, .ref p2, .ref p3, .ref p4, .ref p5])), (p5, .inl (K 0, 256, .inl fs)), (t0, .inr (9, [.ref t1, k_1, .ref t2, k_3, .int n, k_5, k_6, k_7, k_8, .int ho])), (t1, .inl (K 0, 56, .inl f1)), (t2, .inl (K 0, 6, .inl f2))] s.heap := hP
  have hl := lv_entry [.ref o0, .int x] (n := 2) (Nat.le_of_ble_eq_true rfl)
  rw [lg_entry_eq]
  generalize (lg_sl [.ref o0, .int x] ++ List.replicate (2 - (lg_sl [.ref o0, .int x]).length) Slot.unset).toArray = ls at hl ⊢
  have hl : lv_has ls 2 [(0, .ref o0), (1, .int x)] := hl
  have hw4 : ∀ w ∈ wsX40, w ∈ wsX11_hill := fun w h => (List.mem_cons_of_mem _ (List.mem_append_left _ (List.mem_append_right _ h)))
  have hw9 : ∀ w ∈ wsX90, w ∈ wsX11_hill := fun w h => (List.mem_cons_of_mem _ (List.mem_append_right _ h))
  have hw11 : ∀ w ∈ wsX110, w ∈ wsX11_hill := fun w h => (List.mem_cons_of_mem _ (List.mem_append_left _ (List.mem_append_left _ (List.mem_append_right _ h))))
  generalize hQ : MQ below _ _ s _ _ _ = Q
  refine lv_aload_n hx hb dX11_hill_0 rfl (lv_at hl 0 rfl) ?_
  refine va_get (ci := 11) (v := .ref p0) (C := RX11) (T := TX11) (N := 17) hx hb hts hw11 hown hK hP 0 rfl rfl 11 (by decide) (hts (.fieldLink RX11 75 "SmokeTune" "paper" "LSmokeTune$Paper;") (List.mem_cons_of_mem _ (List.mem_append_left _ (List.mem_append_left _ (List.mem_append_left _ (List.mem_of_getElem? (i := 0) rfl)))))) (fun _ h9 => h9) rfl dX11_hill_1 ?_
  refine lv_aload_n hx hb dX11_hill_4 rfl (lv_at hl 0 rfl) ?_
  refine va_get (ci := 11) (v := .ref t0) (C := RX11) (T := TX11) (N := 17) hx hb hts hw11 hown hK hP 0 rfl rfl 0 (by decide) (hts (.fieldLink RX11 10 "SmokeTune" "town" "LSmokeTune$Town;") (List.mem_cons_of_mem _ (List.mem_append_left _ (List.mem_append_left _ (List.mem_append_left _ (List.mem_of_getElem? (i := 1) rfl)))))) (fun _ h9 => h9) rfl dX11_hill_5 ?_
  refine lv_iload_n hx hb dX11_hill_8 rfl (lv_at hl 1 rfl) ?_
  refine kci (S := Su) (wr := [(o0, .inr (11, [.ref t0, o_1, o_2, o_3, o_4, o_5, o_6, o_7, o_8, o_9, o_10, .ref p0, o_12, o_13, o_14, o_15, o_16]))]) (va_runVN (As := [.ref t0, .int x]) (rest := []) ⟨hx, hb, hml, hown, hts⟩ (w_hillSet l D K p0 t0 x p1 p2 p3 p4 p5 fs t1 k_1 t2 k_3 n k_5 k_6 k_7 k_8 ho f1 f2 s.heap.size (by first | omega | decide)) ⟨va_cnB 2 hts gX11_hill_X4_hillSet_n264 rfl rfl rfl (nst_at hN 88 rfl) (hts (.initialized RX4) (List.mem_cons_of_mem _ (List.mem_append_left _ (List.mem_append_left _ (List.mem_append_left _ (List.mem_of_getElem? (i := 3) rfl)))))) (by decide +kernel) ⟨Nat.le_of_ble_eq_true rfl, Nat.le_of_ble_eq_true rfl⟩, (hts (.instanceMethod yX4_hillSet) (List.mem_cons_of_mem _ (List.mem_append_left _ (List.mem_append_left _ (List.mem_append_left _ (List.mem_of_getElem? (i := 2) rfl)))))), (hts (.selects RX4 yX4_hillSet yX4_hillSet) (List.mem_cons_of_mem _ (List.mem_append_left _ (List.mem_append_left _ (List.mem_append_left _ (List.mem_of_getElem? (i := 4) rfl))))))⟩ (mkV hK hN (hP.sub [1, 2, 3, 4, 5] rfl) (hD.sub [1, 2, 3, 4, 5] (by decide) rfl) (ci := 4) (q0 := 0) rfl rfl) rfl rfl hl.1 rfl (lv_room (Nat.le_of_ble_eq_true rfl)) dX11_hill_9 ⟨Nat.le_of_ble_eq_true rfl, Nat.le_of_ble_eq_true rfl⟩) hP hD hS hA [1, 2, 3, 4, 5] [0] rfl rfl (by decide) (by decide) (fun r_65 u_66 H locs hw hP hD hS => ?_)
  have hP : va_P D vwCl [(o0, .inr (11, [.ref t0, o_1, o_2, o_3, o_4, o_5, o_6, o_7, o_8, o_9, o_10, .ref p0, o_12, o_13, o_14, o_15, o_16])), (p0, .inr (4, [.ref p1, .ref p2, .ref p3, .ref p4, .ref p5])), (p5, .inl (K 0, 256, .inl (u_66.2.1 0))), (t0, .inr (9, [.ref t1, k_1, .ref t2, k_3, .int n, k_5, k_6, k_7, k_8, .int ho])), (t1, .inl (K 0, 56, .inl f1)), (t2, .inl (K 0, 6, .inl f2))] H := hP
  have hD : va_D A [(o0, .inr (11, [.ref t0, o_1, o_2, o_3, o_4, o_5, o_6, o_7, o_8, o_9, o_10, .ref p0, o_12, o_13, o_14, o_15, o_16])), (p0, .inr (4, [.ref p1, .ref p2, .ref p3, .ref p4, .ref p5])), (p5, .inl (K 0, 256, .inl (u_66.2.1 0))), (t0, .inr (9, [.ref t1, k_1, .ref t2, k_3, .int n, k_5, k_6, k_7, k_8, .int ho])), (t1, .inl (K 0, 56, .inl f1)), (t2, .inl (K 0, 6, .inl f2))] := hD
  rw [← hQ]
  have hP9 := hP.sub (ws' := [(o0, .inr (11, [.ref t0, o_1, o_2, o_3, o_4, o_5, o_6, o_7, o_8, o_9, o_10, .ref p0, o_12, o_13, o_14, o_15, o_16])), (p0, .inr (4, [.ref p1, .ref p2, .ref p3, .ref p4, .ref p5])), (p5, .inl (K 0, 256, .inl (u_66.2.1 0))), (t0, .inr (9, [.ref t1, k_1, .ref t2, k_3, .int n, k_5, k_6, k_7, k_8, .int ho])), (t1, .inl (K 0, 56, .inl f1)), (t2, .inl (K 0, 6, .inl f2))]) [0, 1, 2, 3, 4, 5] rfl
  have hD9 := hD.sub (ws' := [(o0, .inr (11, [.ref t0, o_1, o_2, o_3, o_4, o_5, o_6, o_7, o_8, o_9, o_10, .ref p0, o_12, o_13, o_14, o_15, o_16])), (p0, .inr (4, [.ref p1, .ref p2, .ref p3, .ref p4, .ref p5])), (p5, .inl (K 0, 256, .inl (u_66.2.1 0))), (t0, .inr (9, [.ref t1, k_1, .ref t2, k_3, .int n, k_5, k_6, k_7, k_8, .int ho])), (t1, .inl (K 0, 56, .inl f1)), (t2, .inl (K 0, 6, .inl f2))]) [0, 1, 2, 3, 4, 5] (by decide) rfl
  exact W.iret (v := r_65) hx hb hr (fun t ht hW => ⟨⟨r_65, ((fun _ => 0, fun i => match i with | _ => (u_66.2.1 0), fun _ => fun _ => 0, fun _ => 0, fun _ => 0, fun _ => fun _ => none) : Su), rfl, trivial, (⟨by rw [ht]; exact hP9, hD9⟩ : Wd D A _ t)⟩, hS.F ht⟩) hS.2.2 dX11_hill_12
set_option maxHeartbeats 4000000 in
set_option maxRecDepth 100000 in
theorem w_ask (l : Launch) (D : va_G) (K : Nat → ClassId) (o0 : Nat) (x : Int32) (t0 : Nat) (o_1 : Value) (o_2 : Value) (o_3 : Value) (o_4 : Value) (o_5 : Value) (o_6 : Value) (o_7 : Value) (o_8 : Value) (o_9 : Value) (o_10 : Value) (p0 : Nat) (o_12 : Value) (o_13 : Value) (o_14 : Value) (o_15 : Value) (o_16 : Value) (p1 : Nat) (p2 : Nat) (p3 : Nat) (p4 : Nat) (p5 : Nat) (fs : Nat → Int32) (t1 : Nat) (k_1 : Value) (t2 : Nat) (k_3 : Value) (n : Int32) (k_5 : Value) (k_6 : Value) (k_7 : Value) (k_8 : Value) (ho : Int32) (f1 : Nat → Int32) (f2 : Nat → Int32) (sz : Nat) (zn : 0 ≤ n.toInt ∧ n.toInt ≤ 8) : Met l yX11_ask wsX11_ask ({ frames := 4, cells := 0, slots := 0, locals := 100 }) (va_Pc [.ref o0, .int x] (Pre D K [(o0, .inr (11, [.ref t0, o_1, o_2, o_3, o_4, o_5, o_6, o_7, o_8, o_9, o_10, .ref p0, o_12, o_13, o_14, o_15, o_16])), (p0, .inr (4, [.ref p1, .ref p2, .ref p3, .ref p4, .ref p5])), (p5, .inl (K 0, 256, .inl fs)), (t0, .inr (9, [.ref t1, k_1, .ref t2, k_3, .int n, k_5, k_6, k_7, k_8, .int ho])), (t1, .inl (K 0, 56, .inl f1)), (t2, .inl (K 0, 6, .inl f2))] sz)) (va_Qi (S := Su) (fun (r : Int32) (u : Su) => True) (fun u t => Wd D (va_A [(o0, .inr (11, [.ref t0, o_1, o_2, o_3, o_4, o_5, o_6, o_7, o_8, o_9, o_10, .ref p0, o_12, o_13, o_14, o_15, o_16])), (p0, .inr (4, [.ref p1, .ref p2, .ref p3, .ref p4, .ref p5])), (p5, .inl (K 0, 256, .inl fs)), (t0, .inr (9, [.ref t1, k_1, .ref t2, k_3, .int n, k_5, k_6, k_7, k_8, .int ho])), (t1, .inl (K 0, 56, .inl f1)), (t2, .inl (K 0, 6, .inl f2))] sz) ((fun u => [(o0, .inr (11, [.ref t0, o_1, o_2, o_3, o_4, o_5, o_6, o_7, o_8, o_9, o_10, .ref p0, o_12, o_13, o_14, o_15, o_16])), (p0, .inr (4, [.ref p1, .ref p2, .ref p3, .ref p4, .ref p5])), (p5, .inl (K 0, 256, .inl (u.2.1 0))), (t0, .inr (9, [.ref t1, k_1, .ref t2, k_3, .int n, k_5, k_6, k_7, k_8, .int ho])), (t1, .inl (K 0, 56, .inl f1)), (t2, .inl (K 0, 6, .inl f2))]) u) t) (va_A [(o0, .inr (11, [.ref t0, o_1, o_2, o_3, o_4, o_5, o_6, o_7, o_8, o_9, o_10, .ref p0, o_12, o_13, o_14, o_15, o_16])), (p0, .inr (4, [.ref p1, .ref p2, .ref p3, .ref p4, .ref p5])), (p5, .inl (K 0, 256, .inl fs)), (t0, .inr (9, [.ref t1, k_1, .ref t2, k_3, .int n, k_5, k_6, k_7, k_8, .int ho])), (t1, .inl (K 0, 56, .inl f1)), (t2, .inl (K 0, 6, .inl f2))] sz)) 0 0 (va_A [(o0, .inr (11, [.ref t0, o_1, o_2, o_3, o_4, o_5, o_6, o_7, o_8, o_9, o_10, .ref p0, o_12, o_13, o_14, o_15, o_16])), (p0, .inr (4, [.ref p1, .ref p2, .ref p3, .ref p4, .ref p5])), (p5, .inl (K 0, 256, .inl fs)), (t0, .inr (9, [.ref t1, k_1, .ref t2, k_3, .int n, k_5, k_6, k_7, k_8, .int ho])), (t1, .inl (K 0, 56, .inl f1)), (t2, .inl (K 0, 6, .inl f2))] sz) := by
  refine Met.ofW (cc := cX11_ask) (maxL := 2) (ret := (some .int)) (by decide) rfl ?_
  intro p e s m args below meth c s₁ B hml hv
  obtain ⟨rfl, hsz, hP, hK, hD0, hN⟩ := hv
  have hx := B.exec
  have hb := B.bytes
  have hr := B.returns
  have hts := atoms_spec (ws := wsX11_ask) B.pre
  have hown : s.vm.findClass RX11 = some m.cls := findClass_of_methodNamed B.named
  have hlocks := B.notSynchronized
  subst hsz
  have hD := hD0.self (sz := s.heap.size)
  generalize hAe : va_A [(o0, .inr (11, [.ref t0, o_1, o_2, o_3, o_4, o_5, o_6, o_7, o_8, o_9, o_10, .ref p0, o_12, o_13, o_14, o_15, o_16])), (p0, .inr (4, [.ref p1, .ref p2, .ref p3, .ref p4, .ref p5])), (p5, .inl (K 0, 256, .inl fs)), (t0, .inr (9, [.ref t1, k_1, .ref t2, k_3, .int n, k_5, k_6, k_7, k_8, .int ho])), (t1, .inl (K 0, 56, .inl f1)), (t2, .inl (K 0, 6, .inl f2))] s.heap.size = A at hD ⊢
  have hA : ∀ q : Nat, s.heap.size ≤ q → A q := fun q h => by rw [← hAe]; exact Or.inr h
  have hS : va_S A s.heap s.heap [] := va_S.rf
  have hP : va_P D vwCl [(o0, .inr (11, [.ref t0, o_1, o_2, o_3, o_4, o_5, o_6, o_7, o_8, o_9, o_10, .ref p0, o_12, o_13, o_14, o_15, o_16])), (p0, .inr (4, [.ref p1, .ref p2, .ref p3, .ref p4, .ref p5])), (p5, .inl (K 0, 256, .inl fs)), (t0, .inr (9, [.ref t1, k_1, .ref t2, k_3, .int n, k_5, k_6, k_7, k_8, .int ho])), (t1, .inl (K 0, 56, .inl f1)), (t2, .inl (K 0, 6, .inl f2))] s.heap := hP
  have hl := lv_entry [.ref o0, .int x] (n := 2) (Nat.le_of_ble_eq_true rfl)
  rw [lg_entry_eq]
  generalize (lg_sl [.ref o0, .int x] ++ List.replicate (2 - (lg_sl [.ref o0, .int x]).length) Slot.unset).toArray = ls at hl ⊢
  have hl : lv_has ls 2 [(0, .ref o0), (1, .int x)] := hl
  have hw4 : ∀ w ∈ wsX40, w ∈ wsX11_ask := fun w h => (List.mem_cons_of_mem _ (List.mem_append_right _ h))
  have hw9 : ∀ w ∈ wsX90, w ∈ wsX11_ask := fun w h => (List.mem_cons_of_mem _ (List.mem_append_left _ (List.mem_append_right _ h)))
  have hw11 : ∀ w ∈ wsX110, w ∈ wsX11_ask := fun w h => (List.mem_cons_of_mem _ (List.mem_append_left _ (List.mem_append_left _ (List.mem_append_right _ h))))
  generalize hQ : MQ below _ _ s _ _ _ = Q
  refine lv_iload_n hx hb dX11_ask_0 rfl (lv_at hl 1 rfl) ?_
  refine lv_iconst (v := 0) hx hb dX11_ask_1 (by decide) ?_
  refine lv_iconst (v := 1) hx hb dX11_ask_2 (by decide) ?_
  refine pci (va_runS (As := [.int x, .int 0, .int 1]) (rest := []) ⟨hx, hb, hml, hown, hts⟩ (w_within l D K x.toInt 0 1 x 0 1 s.heap.size rfl (show (0 : Int32).toInt = 0 from rfl) (show (1 : Int32).toInt = 1 from rfl)) (va_cwS 3 hts gX11_ask_X11_within rfl rfl rfl (by decide +kernel) ⟨Nat.le_of_ble_eq_true rfl, Nat.le_of_ble_eq_true rfl⟩) (mkS hK hN (va_P.nil) (va_D.nil (A := fun _ => True))) rfl rfl hl.1 rfl (lv_room (Nat.le_of_ble_eq_true rfl)) dX11_ask_3 ⟨Nat.le_of_ble_eq_true rfl, Nat.le_of_ble_eq_true rfl⟩) (fun r_77 hw => ?_)
  obtain ⟨hw, -⟩ := hw
  rcases hw with ⟨rfl, h_78, h_79⟩ | ⟨rfl, h_80⟩
  · refine lv_if_eq (tgt := 24) hx hb dX11_ask_6 (by decide) (fun c_81 => absurd c_81 (by decide)) (fun c_81 => ?_)
    refine lv_aload_n hx hb dX11_ask_9 rfl (lv_at hl 0 rfl) ?_
    refine va_get (ci := 11) (v := .ref p0) (C := RX11) (T := TX11) (N := 17) hx hb hts hw11 hown hK hP 0 rfl rfl 11 (by decide) (hts (.fieldLink RX11 75 "SmokeTune" "paper" "LSmokeTune$Paper;") (List.mem_cons_of_mem _ (List.mem_append_left _ (List.mem_append_left _ (List.mem_append_left _ (List.mem_append_left _ (List.mem_of_getElem? (i := 0) rfl))))))) (fun _ h9 => h9) rfl dX11_ask_10 ?_
    refine lv_aload_n hx hb dX11_ask_13 rfl (lv_at hl 0 rfl) ?_
    refine va_get (ci := 11) (v := .ref t0) (C := RX11) (T := TX11) (N := 17) hx hb hts hw11 hown hK hP 0 rfl rfl 0 (by decide) (hts (.fieldLink RX11 10 "SmokeTune" "town" "LSmokeTune$Town;") (List.mem_cons_of_mem _ (List.mem_append_left _ (List.mem_append_left _ (List.mem_append_left _ (List.mem_append_left _ (List.mem_of_getElem? (i := 1) rfl))))))) (fun _ h9 => h9) rfl dX11_ask_14 ?_
    refine lv_iload_n hx hb dX11_ask_17 rfl (lv_at hl 1 rfl) ?_
    refine kci (S := Su) (wr := [(o0, .inr (11, [.ref t0, o_1, o_2, o_3, o_4, o_5, o_6, o_7, o_8, o_9, o_10, .ref p0, o_12, o_13, o_14, o_15, o_16]))]) (va_runVN (As := [.ref t0, .int x]) (rest := []) ⟨hx, hb, hml, hown, hts⟩ (w_question l D K p0 t0 x p1 p2 p3 p4 p5 fs t1 k_1 t2 k_3 n k_5 k_6 k_7 k_8 ho f1 f2 s.heap.size (by first | omega | decide)) ⟨va_cnB 2 hts gX11_ask_X4_question_n267 rfl rfl rfl (nst_at hN 89 rfl) (hts (.initialized RX4) (List.mem_cons_of_mem _ (List.mem_append_left _ (List.mem_append_left _ (List.mem_append_left _ (List.mem_append_left _ (List.mem_of_getElem? (i := 7) rfl))))))) (by decide +kernel) ⟨Nat.le_of_ble_eq_true rfl, Nat.le_of_ble_eq_true rfl⟩, (hts (.instanceMethod yX4_question) (List.mem_cons_of_mem _ (List.mem_append_left _ (List.mem_append_left _ (List.mem_append_left _ (List.mem_append_left _ (List.mem_of_getElem? (i := 6) rfl))))))), (hts (.selects RX4 yX4_question yX4_question) (List.mem_cons_of_mem _ (List.mem_append_left _ (List.mem_append_left _ (List.mem_append_left _ (List.mem_append_left _ (List.mem_of_getElem? (i := 8) rfl)))))))⟩ (mkV hK hN (hP.sub [1, 2, 3, 4, 5] rfl) (hD.sub [1, 2, 3, 4, 5] (by decide) rfl) (ci := 4) (q0 := 0) rfl rfl) rfl rfl hl.1 rfl (lv_room (Nat.le_of_ble_eq_true rfl)) dX11_ask_18 ⟨Nat.le_of_ble_eq_true rfl, Nat.le_of_ble_eq_true rfl⟩) hP hD hS hA [1, 2, 3, 4, 5] [0] rfl rfl (by decide) (by decide) (fun r_82 u_83 H locs hw hP hD hS => ?_)
    have hP : va_P D vwCl [(o0, .inr (11, [.ref t0, o_1, o_2, o_3, o_4, o_5, o_6, o_7, o_8, o_9, o_10, .ref p0, o_12, o_13, o_14, o_15, o_16])), (p0, .inr (4, [.ref p1, .ref p2, .ref p3, .ref p4, .ref p5])), (p5, .inl (K 0, 256, .inl (u_83.2.1 0))), (t0, .inr (9, [.ref t1, k_1, .ref t2, k_3, .int n, k_5, k_6, k_7, k_8, .int ho])), (t1, .inl (K 0, 56, .inl f1)), (t2, .inl (K 0, 6, .inl f2))] H := hP
    have hD : va_D A [(o0, .inr (11, [.ref t0, o_1, o_2, o_3, o_4, o_5, o_6, o_7, o_8, o_9, o_10, .ref p0, o_12, o_13, o_14, o_15, o_16])), (p0, .inr (4, [.ref p1, .ref p2, .ref p3, .ref p4, .ref p5])), (p5, .inl (K 0, 256, .inl (u_83.2.1 0))), (t0, .inr (9, [.ref t1, k_1, .ref t2, k_3, .int n, k_5, k_6, k_7, k_8, .int ho])), (t1, .inl (K 0, 56, .inl f1)), (t2, .inl (K 0, 6, .inl f2))] := hD
    refine lv_goto (tgt := 25) hx hb dX11_ask_21 (by decide) ?_
    rw [← hQ]
    have hP9 := hP.sub (ws' := [(o0, .inr (11, [.ref t0, o_1, o_2, o_3, o_4, o_5, o_6, o_7, o_8, o_9, o_10, .ref p0, o_12, o_13, o_14, o_15, o_16])), (p0, .inr (4, [.ref p1, .ref p2, .ref p3, .ref p4, .ref p5])), (p5, .inl (K 0, 256, .inl (u_83.2.1 0))), (t0, .inr (9, [.ref t1, k_1, .ref t2, k_3, .int n, k_5, k_6, k_7, k_8, .int ho])), (t1, .inl (K 0, 56, .inl f1)), (t2, .inl (K 0, 6, .inl f2))]) [0, 1, 2, 3, 4, 5] rfl
    have hD9 := hD.sub (ws' := [(o0, .inr (11, [.ref t0, o_1, o_2, o_3, o_4, o_5, o_6, o_7, o_8, o_9, o_10, .ref p0, o_12, o_13, o_14, o_15, o_16])), (p0, .inr (4, [.ref p1, .ref p2, .ref p3, .ref p4, .ref p5])), (p5, .inl (K 0, 256, .inl (u_83.2.1 0))), (t0, .inr (9, [.ref t1, k_1, .ref t2, k_3, .int n, k_5, k_6, k_7, k_8, .int ho])), (t1, .inl (K 0, 56, .inl f1)), (t2, .inl (K 0, 6, .inl f2))]) [0, 1, 2, 3, 4, 5] (by decide) rfl
    exact W.iret (v := r_82) hx hb hr (fun t ht hW => ⟨⟨r_82, ((fun _ => 0, fun i => match i with | _ => (u_83.2.1 0), fun _ => fun _ => 0, fun _ => 0, fun _ => 0, fun _ => fun _ => none) : Su), rfl, trivial, (⟨by rw [ht]; exact hP9, hD9⟩ : Wd D A _ t)⟩, hS.F ht⟩) hS.2.2 dX11_ask_25
  · refine lv_if_eq (tgt := 24) hx hb dX11_ask_6 (by decide) (fun c_84 => ?_) (fun c_84 => absurd (by decide) c_84)
    refine lv_iconst (v := (-1)) hx hb dX11_ask_24 (by decide) ?_
    rw [← hQ]
    have hP9 := hP.sub (ws' := [(o0, .inr (11, [.ref t0, o_1, o_2, o_3, o_4, o_5, o_6, o_7, o_8, o_9, o_10, .ref p0, o_12, o_13, o_14, o_15, o_16])), (p0, .inr (4, [.ref p1, .ref p2, .ref p3, .ref p4, .ref p5])), (p5, .inl (K 0, 256, .inl fs)), (t0, .inr (9, [.ref t1, k_1, .ref t2, k_3, .int n, k_5, k_6, k_7, k_8, .int ho])), (t1, .inl (K 0, 56, .inl f1)), (t2, .inl (K 0, 6, .inl f2))]) [0, 1, 2, 3, 4, 5] rfl
    have hD9 := hD.sub (ws' := [(o0, .inr (11, [.ref t0, o_1, o_2, o_3, o_4, o_5, o_6, o_7, o_8, o_9, o_10, .ref p0, o_12, o_13, o_14, o_15, o_16])), (p0, .inr (4, [.ref p1, .ref p2, .ref p3, .ref p4, .ref p5])), (p5, .inl (K 0, 256, .inl fs)), (t0, .inr (9, [.ref t1, k_1, .ref t2, k_3, .int n, k_5, k_6, k_7, k_8, .int ho])), (t1, .inl (K 0, 56, .inl f1)), (t2, .inl (K 0, 6, .inl f2))]) [0, 1, 2, 3, 4, 5] (by decide) rfl
    exact W.iret (v := (-1)) hx hb hr (fun t ht hW => ⟨⟨(-1), ((fun _ => 0, fun i => match i with | _ => fs, fun _ => fun _ => 0, fun _ => 0, fun _ => 0, fun _ => fun _ => none) : Su), rfl, trivial, (⟨by rw [ht]; exact hP9, hD9⟩ : Wd D A _ t)⟩, hS.F ht⟩) hS.2.2 dX11_ask_25
set_option maxHeartbeats 4000000 in
set_option maxRecDepth 100000 in
theorem w_chance (l : Launch) (D : va_G) (K : Nat → ClassId) (o0 : Nat) (x : Int32) (t0 : Nat) (o_1 : Value) (o_2 : Value) (o_3 : Value) (o_4 : Value) (o_5 : Value) (o_6 : Value) (o_7 : Value) (o_8 : Value) (o_9 : Value) (o_10 : Value) (p0 : Nat) (o_12 : Value) (o_13 : Value) (o_14 : Value) (o_15 : Value) (o_16 : Value) (p1 : Nat) (p2 : Nat) (p3 : Nat) (p4 : Nat) (p5 : Nat) (t1 : Nat) (k_1 : Value) (t2 : Nat) (k_3 : Value) (n : Int32) (k_5 : Value) (k_6 : Value) (k_7 : Value) (k_8 : Value) (ho : Int32) (f1 : Nat → Int32) (f2 : Nat → Int32) (sz : Nat) (zn : 0 ≤ n.toInt ∧ n.toInt ≤ 8) : Met l yX11_chance wsX11_chance ({ frames := 4, cells := 0, slots := 0, locals := 95 }) (va_Pc [.ref o0, .int x] (Pre D K [(o0, .inr (11, [.ref t0, o_1, o_2, o_3, o_4, o_5, o_6, o_7, o_8, o_9, o_10, .ref p0, o_12, o_13, o_14, o_15, o_16])), (p0, .inr (4, [.ref p1, .ref p2, .ref p3, .ref p4, .ref p5])), (t0, .inr (9, [.ref t1, k_1, .ref t2, k_3, .int n, k_5, k_6, k_7, k_8, .int ho])), (t1, .inl (K 0, 56, .inl f1)), (t2, .inl (K 0, 6, .inl f2))] sz)) (vp_Sl (fun r : Int64 => True)) 0 0 (fun _ => False) := by
  refine Met.ofW (cc := cX11_chance) (maxL := 2) (ret := (some .long)) (by decide) rfl ?_
  intro p e s m args below meth c s₁ B hml hv
  obtain ⟨rfl, hsz, hP, hK, hD0, hN⟩ := hv
  have hx := B.exec
  have hb := B.bytes
  have hr := B.returns
  have hts := atoms_spec (ws := wsX11_chance) B.pre
  have hown : s.vm.findClass RX11 = some m.cls := findClass_of_methodNamed B.named
  have hlocks := B.notSynchronized
  subst hsz
  have hD := hD0
  have hP : va_P D vwCl [(o0, .inr (11, [.ref t0, o_1, o_2, o_3, o_4, o_5, o_6, o_7, o_8, o_9, o_10, .ref p0, o_12, o_13, o_14, o_15, o_16])), (p0, .inr (4, [.ref p1, .ref p2, .ref p3, .ref p4, .ref p5])), (t0, .inr (9, [.ref t1, k_1, .ref t2, k_3, .int n, k_5, k_6, k_7, k_8, .int ho])), (t1, .inl (K 0, 56, .inl f1)), (t2, .inl (K 0, 6, .inl f2))] s.heap := hP
  have hl := lv_entry [.ref o0, .int x] (n := 2) (Nat.le_of_ble_eq_true rfl)
  rw [lg_entry_eq]
  generalize (lg_sl [.ref o0, .int x] ++ List.replicate (2 - (lg_sl [.ref o0, .int x]).length) Slot.unset).toArray = ls at hl ⊢
  have hl : lv_has ls 2 [(0, .ref o0), (1, .int x)] := hl
  have hw9 : ∀ w ∈ wsX90, w ∈ wsX11_chance := fun w h => (List.mem_cons_of_mem _ (List.mem_append_right _ h))
  have hw11 : ∀ w ∈ wsX110, w ∈ wsX11_chance := fun w h => (List.mem_cons_of_mem _ (List.mem_append_left _ (List.mem_append_right _ h)))
  generalize hQ : MQ below _ _ s _ _ _ = Q
  refine lv_iload_n hx hb dX11_chance_0 rfl (lv_at hl 1 rfl) ?_
  refine lv_iconst (v := 0) hx hb dX11_chance_1 (by decide) ?_
  refine lv_bipush (v := 127) hx hb dX11_chance_2 (by decide) ?_
  refine pci (va_runS (As := [.int x, .int 0, .int 127]) (rest := []) ⟨hx, hb, hml, hown, hts⟩ (w_within l D K x.toInt 0 127 x 0 127 s.heap.size rfl (show (0 : Int32).toInt = 0 from rfl) (show (127 : Int32).toInt = 127 from rfl)) (va_cwS 3 hts gX11_chance_X11_within rfl rfl rfl (by decide +kernel) ⟨Nat.le_of_ble_eq_true rfl, Nat.le_of_ble_eq_true rfl⟩) (mkS hK hN (va_P.nil) (va_D.nil (A := fun _ => True))) rfl rfl hl.1 rfl (lv_room (Nat.le_of_ble_eq_true rfl)) dX11_chance_4 ⟨Nat.le_of_ble_eq_true rfl, Nat.le_of_ble_eq_true rfl⟩) (fun r_75 hw => ?_)
  obtain ⟨hw, -⟩ := hw
  rcases hw with ⟨rfl, h_76, h_77⟩ | ⟨rfl, h_78⟩
  · refine lv_if_eq (tgt := 25) hx hb dX11_chance_7 (by decide) (fun c_79 => absurd c_79 (by decide)) (fun c_79 => ?_)
    refine lv_aload_n hx hb dX11_chance_10 rfl (lv_at hl 0 rfl) ?_
    refine va_get (ci := 11) (v := .ref p0) (C := RX11) (T := TX11) (N := 17) hx hb hts hw11 hown hK hP 0 rfl rfl 11 (by decide) (hts (.fieldLink RX11 75 "SmokeTune" "paper" "LSmokeTune$Paper;") (List.mem_cons_of_mem _ (List.mem_append_left _ (List.mem_append_left _ (List.mem_append_left _ (List.mem_of_getElem? (i := 0) rfl)))))) (fun _ h9 => h9) rfl dX11_chance_11 ?_
    refine lv_aload_n hx hb dX11_chance_14 rfl (lv_at hl 0 rfl) ?_
    refine va_get (ci := 11) (v := .ref t0) (C := RX11) (T := TX11) (N := 17) hx hb hts hw11 hown hK hP 0 rfl rfl 0 (by decide) (hts (.fieldLink RX11 10 "SmokeTune" "town" "LSmokeTune$Town;") (List.mem_cons_of_mem _ (List.mem_append_left _ (List.mem_append_left _ (List.mem_append_left _ (List.mem_of_getElem? (i := 1) rfl)))))) (fun _ h9 => h9) rfl dX11_chance_15 ?_
    refine lv_iload_n hx hb dX11_chance_18 rfl (lv_at hl 1 rfl) ?_
    refine pcl (va_runVN (As := [.ref t0, .int x]) (rest := []) ⟨hx, hb, hml, hown, hts⟩ (w_odds l D K p0 t0 x p1 p2 p3 p4 p5 t1 k_1 t2 k_3 n k_5 k_6 k_7 k_8 ho f1 f2 s.heap.size (by first | omega | decide)) ⟨va_cnB 2 hts gX11_chance_X4_odds_n270 rfl rfl rfl (nst_at hN 90 rfl) (hts (.initialized RX4) (List.mem_cons_of_mem _ (List.mem_append_left _ (List.mem_append_left _ (List.mem_append_left _ (List.mem_of_getElem? (i := 8) rfl)))))) (by decide +kernel) ⟨Nat.le_of_ble_eq_true rfl, Nat.le_of_ble_eq_true rfl⟩, (hts (.instanceMethod yX4_odds) (List.mem_cons_of_mem _ (List.mem_append_left _ (List.mem_append_left _ (List.mem_append_left _ (List.mem_of_getElem? (i := 7) rfl)))))), (hts (.selects RX4 yX4_odds yX4_odds) (List.mem_cons_of_mem _ (List.mem_append_left _ (List.mem_append_left _ (List.mem_append_left _ (List.mem_of_getElem? (i := 9) rfl))))))⟩ (mkV hK hN (hP.sub [1, 2, 3, 4] rfl) (hD.sub [1, 2, 3, 4] (by decide) rfl) (ci := 4) (q0 := 0) rfl rfl) rfl rfl hl.1 rfl (lv_room (Nat.le_of_ble_eq_true rfl)) dX11_chance_19 ⟨Nat.le_of_ble_eq_true rfl, Nat.le_of_ble_eq_true rfl⟩) (fun r_80 hw => ?_)
    refine lv_goto (tgt := 28) hx hb dX11_chance_22 (by decide) ?_
    rw [← hQ]
    exact W.lret (v := r_80) hx hb hr (fun t ht hW => ⟨_, rfl, trivial, ht⟩) (fun q hq => by cases hq) dX11_chance_28
  · refine lv_if_eq (tgt := 25) hx hb dX11_chance_7 (by decide) (fun c_81 => ?_) (fun c_81 => absurd (by decide) c_81)
    refine lv_ldc2 (v := (-1)) hx hb hown (hts (.constantLong RX11 274 (-1)) (List.mem_cons_of_mem _ (List.mem_append_left _ (List.mem_append_left _ (List.mem_append_left _ (List.mem_of_getElem? (i := 2) rfl)))))) dX11_chance_25 ?_
    rw [← hQ]
    exact W.lret (v := (-1)) hx hb hr (fun t ht hW => ⟨_, rfl, trivial, ht⟩) (fun q hq => by cases hq) dX11_chance_28
set_option maxHeartbeats 4000000 in
set_option maxRecDepth 100000 in
theorem w_compare (l : Launch) (D : va_G) (K : Nat → ClassId) (g : Nat → Nat) (L : Nat → Prop) (o0 : Nat) (x : Int32) (y : Int32) (t0 : Nat) (o_1 : Value) (o_2 : Value) (o_3 : Value) (o_4 : Value) (o_5 : Value) (o_6 : Value) (o_7 : Value) (o_8 : Value) (o_9 : Value) (p0 : Nat) (o_11 : Value) (o_12 : Value) (o_13 : Value) (o_14 : Value) (o_15 : Value) (o_16 : Value) (a0 : Nat) (p_1 : Value) (p_2 : Value) (p_3 : Value) (p_4 : Value) (p_5 : Value) (m0 : Nat) (w0 : Nat) (m1 : Nat) (br : Int32) (fs : Nat → Int32) (fw : Nat → Int32) (t1 : Nat) (t3 : Nat) (t2 : Nat) (l0 : Nat) (n : Int32) (lt : Int32) (nf : Int32) (fi : Int32) (k_8 : Value) (k_9 : Value) (f1 : Nat → Int32) (f2 : Nat → Int32) (f3 : Nat → Int32) (fl : Nat → Option Nat) (sz : Nat) (zn : 0 ≤ n.toInt ∧ n.toInt ≤ 8) (zlt : 0 ≤ lt.toInt ∧ lt.toInt ≤ 6) (zbr : 0 ≤ br.toInt ∧ br.toInt ≤ 1) (zfl : InL L fl) : Met l yX11_compare wsX11_compare ({ frames := 4, cells := 0, slots := 0, locals := 108 }) (va_Pc [.ref o0, .int x, .int y] (PreY D K [(o0, .inr (11, [.ref t0, o_1, o_2, o_3, o_4, o_5, o_6, o_7, o_8, o_9, .ref p0, o_11, o_12, o_13, o_14, o_15, o_16])), (p0, .inr (5, [.ref a0, p_1, p_2, p_3, p_4, p_5])), (a0, .inr (0, [.ref m0, .ref w0])), (m0, .inr (3, [.ref m1, .int br])), (m1, .inl (K 0, 64, .inl fs)), (w0, .inl (K 0, 9, .inl fw)), (t0, .inr (9, [.ref t1, .ref t3, .ref t2, .ref l0, .int n, .int lt, .int nf, .int fi, k_8, k_9])), (t1, .inl (K 0, 56, .inl f1)), (t2, .inl (K 0, 6, .inl f2)), (t3, .inl (K 0, 24, .inl f3)), (l0, .inl (K 4, 6, .inr (.inr (.inr (.inr fl)))))] [] sz g L (va_A [(o0, .inr (11, [.ref t0, o_1, o_2, o_3, o_4, o_5, o_6, o_7, o_8, o_9, .ref p0, o_11, o_12, o_13, o_14, o_15, o_16])), (p0, .inr (5, [.ref a0, p_1, p_2, p_3, p_4, p_5])), (a0, .inr (0, [.ref m0, .ref w0])), (m0, .inr (3, [.ref m1, .int br])), (m1, .inl (K 0, 64, .inl fs)), (w0, .inl (K 0, 9, .inl fw)), (t0, .inr (9, [.ref t1, .ref t3, .ref t2, .ref l0, .int n, .int lt, .int nf, .int fi, k_8, k_9])), (t1, .inl (K 0, 56, .inl f1)), (t2, .inl (K 0, 6, .inl f2)), (t3, .inl (K 0, 24, .inl f3)), (l0, .inl (K 4, 6, .inr (.inr (.inr (.inr fl)))))] sz))) (va_Qi (S := Su) (fun (r : Int32) (u : Su) => (0 ≤ (u.2.2.2.1 0).toInt ∧ (u.2.2.2.1 0).toInt ≤ 1) ∧ True) (fun u t => Wd D (va_A [(o0, .inr (11, [.ref t0, o_1, o_2, o_3, o_4, o_5, o_6, o_7, o_8, o_9, .ref p0, o_11, o_12, o_13, o_14, o_15, o_16])), (p0, .inr (5, [.ref a0, p_1, p_2, p_3, p_4, p_5])), (a0, .inr (0, [.ref m0, .ref w0])), (m0, .inr (3, [.ref m1, .int br])), (m1, .inl (K 0, 64, .inl fs)), (w0, .inl (K 0, 9, .inl fw)), (t0, .inr (9, [.ref t1, .ref t3, .ref t2, .ref l0, .int n, .int lt, .int nf, .int fi, k_8, k_9])), (t1, .inl (K 0, 56, .inl f1)), (t2, .inl (K 0, 6, .inl f2)), (t3, .inl (K 0, 24, .inl f3)), (l0, .inl (K 4, 6, .inr (.inr (.inr (.inr fl)))))] sz) ((fun u => [(o0, .inr (11, [.ref t0, o_1, o_2, o_3, o_4, o_5, o_6, o_7, o_8, o_9, .ref p0, o_11, o_12, o_13, o_14, o_15, o_16])), (p0, .inr (5, [.ref a0, p_1, p_2, p_3, p_4, p_5])), (a0, .inr (0, [.ref m0, .ref w0])), (m0, .inr (3, [.ref m1, .int (u.2.2.2.1 0)])), (m1, .inl (K 0, 64, .inl (u.2.1 0))), (w0, .inl (K 0, 9, .inl (u.2.1 1))), (t0, .inr (9, [.ref t1, .ref t3, .ref t2, .ref l0, .int n, .int lt, .int nf, .int fi, k_8, k_9])), (t1, .inl (K 0, 56, .inl f1)), (t2, .inl (K 0, 6, .inl f2)), (t3, .inl (K 0, 24, .inl f3)), (l0, .inl (K 4, 6, .inr (.inr (.inr (.inr fl)))))]) u) t) (va_A [(o0, .inr (11, [.ref t0, o_1, o_2, o_3, o_4, o_5, o_6, o_7, o_8, o_9, .ref p0, o_11, o_12, o_13, o_14, o_15, o_16])), (p0, .inr (5, [.ref a0, p_1, p_2, p_3, p_4, p_5])), (a0, .inr (0, [.ref m0, .ref w0])), (m0, .inr (3, [.ref m1, .int br])), (m1, .inl (K 0, 64, .inl fs)), (w0, .inl (K 0, 9, .inl fw)), (t0, .inr (9, [.ref t1, .ref t3, .ref t2, .ref l0, .int n, .int lt, .int nf, .int fi, k_8, k_9])), (t1, .inl (K 0, 56, .inl f1)), (t2, .inl (K 0, 6, .inl f2)), (t3, .inl (K 0, 24, .inl f3)), (l0, .inl (K 4, 6, .inr (.inr (.inr (.inr fl)))))] sz)) 0 0 (va_A [(o0, .inr (11, [.ref t0, o_1, o_2, o_3, o_4, o_5, o_6, o_7, o_8, o_9, .ref p0, o_11, o_12, o_13, o_14, o_15, o_16])), (p0, .inr (5, [.ref a0, p_1, p_2, p_3, p_4, p_5])), (a0, .inr (0, [.ref m0, .ref w0])), (m0, .inr (3, [.ref m1, .int br])), (m1, .inl (K 0, 64, .inl fs)), (w0, .inl (K 0, 9, .inl fw)), (t0, .inr (9, [.ref t1, .ref t3, .ref t2, .ref l0, .int n, .int lt, .int nf, .int fi, k_8, k_9])), (t1, .inl (K 0, 56, .inl f1)), (t2, .inl (K 0, 6, .inl f2)), (t3, .inl (K 0, 24, .inl f3)), (l0, .inl (K 4, 6, .inr (.inr (.inr (.inr fl)))))] sz) := by
  refine Met.ofW (cc := cX11_compare) (maxL := 3) (ret := (some .int)) (by decide) rfl ?_
  intro p e s m args below meth c s₁ B hml hv
  obtain ⟨rfl, ⟨hsz, hP, hK, hD0, hN⟩, hG, hPl, hRo⟩ := hv
  have hx := B.exec
  have hb := B.bytes
  have hr := B.returns
  have hts := atoms_spec (ws := wsX11_compare) B.pre
  have hown : s.vm.findClass RX11 = some m.cls := findClass_of_methodNamed B.named
  have hlocks := B.notSynchronized
  subst hsz
  have hD := hD0.self (sz := s.heap.size)
  generalize hAe : va_A [(o0, .inr (11, [.ref t0, o_1, o_2, o_3, o_4, o_5, o_6, o_7, o_8, o_9, .ref p0, o_11, o_12, o_13, o_14, o_15, o_16])), (p0, .inr (5, [.ref a0, p_1, p_2, p_3, p_4, p_5])), (a0, .inr (0, [.ref m0, .ref w0])), (m0, .inr (3, [.ref m1, .int br])), (m1, .inl (K 0, 64, .inl fs)), (w0, .inl (K 0, 9, .inl fw)), (t0, .inr (9, [.ref t1, .ref t3, .ref t2, .ref l0, .int n, .int lt, .int nf, .int fi, k_8, k_9])), (t1, .inl (K 0, 56, .inl f1)), (t2, .inl (K 0, 6, .inl f2)), (t3, .inl (K 0, 24, .inl f3)), (l0, .inl (K 4, 6, .inr (.inr (.inr (.inr fl)))))] s.heap.size = A at hD hG hPl hRo ⊢
  have hA : ∀ q : Nat, s.heap.size ≤ q → A q := fun q h => by rw [← hAe]; exact Or.inr h
  have hS : va_S A s.heap s.heap [] := va_S.rf
  have hP : va_P D vwCl [(o0, .inr (11, [.ref t0, o_1, o_2, o_3, o_4, o_5, o_6, o_7, o_8, o_9, .ref p0, o_11, o_12, o_13, o_14, o_15, o_16])), (p0, .inr (5, [.ref a0, p_1, p_2, p_3, p_4, p_5])), (a0, .inr (0, [.ref m0, .ref w0])), (m0, .inr (3, [.ref m1, .int br])), (m1, .inl (K 0, 64, .inl fs)), (w0, .inl (K 0, 9, .inl fw)), (t0, .inr (9, [.ref t1, .ref t3, .ref t2, .ref l0, .int n, .int lt, .int nf, .int fi, k_8, k_9])), (t1, .inl (K 0, 56, .inl f1)), (t2, .inl (K 0, 6, .inl f2)), (t3, .inl (K 0, 24, .inl f3)), (l0, .inl (K 4, 6, .inr (.inr (.inr (.inr fl)))))] s.heap := hP
  have hl := lv_entry [.ref o0, .int x, .int y] (n := 3) (Nat.le_of_ble_eq_true rfl)
  rw [lg_entry_eq]
  generalize (lg_sl [.ref o0, .int x, .int y] ++ List.replicate (3 - (lg_sl [.ref o0, .int x, .int y]).length) Slot.unset).toArray = ls at hl ⊢
  have hl : lv_has ls 3 [(0, .ref o0), (1, .int x), (2, .int y)] := hl
  have hw0 : ∀ w ∈ wsX00, w ∈ wsX11_compare := fun w h => (List.mem_cons_of_mem _ (List.mem_append_left _ (List.mem_append_left _ (List.mem_append_right _ h))))
  have hw3 : ∀ w ∈ wsX30, w ∈ wsX11_compare := fun w h => (List.mem_cons_of_mem _ (List.mem_append_right _ h))
  have hw5 : ∀ w ∈ wsX50, w ∈ wsX11_compare := fun w h => (List.mem_cons_of_mem _ (List.mem_append_left _ (List.mem_append_left _ (List.mem_append_left _ (List.mem_append_right _ h)))))
  have hw7 : ∀ w ∈ wsX70, w ∈ wsX11_compare := fun w h => (List.mem_cons_of_mem _ (List.mem_append_left _ (List.mem_append_right _ h)))
  have hw9 : ∀ w ∈ wsX90, w ∈ wsX11_compare := fun w h => (List.mem_cons_of_mem _ (List.mem_append_left _ (List.mem_append_left _ (List.mem_append_left _ (List.mem_append_left _ (List.mem_append_right _ h))))))
  have hw11 : ∀ w ∈ wsX110, w ∈ wsX11_compare := fun w h => (List.mem_cons_of_mem _ (List.mem_append_left _ (List.mem_append_left _ (List.mem_append_left _ (List.mem_append_left _ (List.mem_append_left _ (List.mem_append_right _ h)))))))
  generalize hQ : MQ below _ _ s _ _ _ = Q
  refine lv_iload_n hx hb dX11_compare_0 rfl (lv_at hl 1 rfl) ?_
  refine lv_iconst (v := (-1)) hx hb dX11_compare_1 (by decide) ?_
  refine lv_aload_n hx hb dX11_compare_2 rfl (lv_at hl 0 rfl) ?_
  refine va_get (ci := 11) (v := .ref t0) (C := RX11) (T := TX11) (N := 17) hx hb hts hw11 hown hK hP 0 rfl rfl 0 (by decide) (hts (.fieldLink RX11 10 "SmokeTune" "town" "LSmokeTune$Town;") (List.mem_cons_of_mem _ (List.mem_append_left _ (List.mem_append_left _ (List.mem_append_left _ (List.mem_append_left _ (List.mem_append_left _ (List.mem_append_left _ (List.mem_append_left _ (List.mem_of_getElem? (i := 0) rfl)))))))))) (fun _ h9 => h9) rfl dX11_compare_3 ?_
  refine va_getN (ci := 9) (v := .int lt) (C := RX9) (T := TX9) (N := 10) hx hb hts hw9 hown hK hP 6 rfl rfl 5 (by decide) (nst_use hN 110 rfl) (fun _ h9 => h9) rfl dX11_compare_6 ?_
  refine lv_iconst (v := 1) hx hb dX11_compare_9 (by decide) ?_
  refine lv_isub hx hb dX11_compare_10 ?_
  refine lv_topi (fun x_141 ex_141 => ?_)
  have hx_141 : x_141.toInt = (lt.toInt - 1) := by rw [ex_141]; exact i_sub rfl (show (1 : Int32).toInt = 1 from rfl) (by omega)
  have j_161 : ∀ (H : Heap) (locs : List Loc) (hP : va_P D vwCl [(o0, .inr (11, [.ref t0, o_1, o_2, o_3, o_4, o_5, o_6, o_7, o_8, o_9, .ref p0, o_11, o_12, o_13, o_14, o_15, o_16])), (p0, .inr (5, [.ref a0, p_1, p_2, p_3, p_4, p_5])), (a0, .inr (0, [.ref m0, .ref w0])), (m0, .inr (3, [.ref m1, .int br])), (m1, .inl (K 0, 64, .inl fs)), (w0, .inl (K 0, 9, .inl fw)), (t0, .inr (9, [.ref t1, .ref t3, .ref t2, .ref l0, .int n, .int lt, .int nf, .int fi, k_8, k_9])), (t1, .inl (K 0, 56, .inl f1)), (t2, .inl (K 0, 6, .inl f2)), (t3, .inl (K 0, 24, .inl f3)), (l0, .inl (K 4, 6, .inr (.inr (.inr (.inr fl)))))] H) (hD : va_D A [(o0, .inr (11, [.ref t0, o_1, o_2, o_3, o_4, o_5, o_6, o_7, o_8, o_9, .ref p0, o_11, o_12, o_13, o_14, o_15, o_16])), (p0, .inr (5, [.ref a0, p_1, p_2, p_3, p_4, p_5])), (a0, .inr (0, [.ref m0, .ref w0])), (m0, .inr (3, [.ref m1, .int br])), (m1, .inl (K 0, 64, .inl fs)), (w0, .inl (K 0, 9, .inl fw)), (t0, .inr (9, [.ref t1, .ref t3, .ref t2, .ref l0, .int n, .int lt, .int nf, .int fi, k_8, k_9])), (t1, .inl (K 0, 56, .inl f1)), (t2, .inl (K 0, 6, .inl f2)), (t3, .inl (K 0, 24, .inl f3)), (l0, .inl (K 4, 6, .inr (.inr (.inr (.inr fl)))))]) (hS : va_S A s.heap H locs) (ls : Array Slot) (hl : lv_has ls 3 []), W p l e ({ frames := 4, cells := 0, slots := 0, locals := 108 }) s m (([.ref o0, .int x, .int y] : List Value).toArray) below meth c H locs 0 0 Q (F0 m 27 ls []) := by
    intro H locs hP hD hS ls hl
    refine lv_iconst (v := (-1)) hx hb dX11_compare_27 (by decide) ?_
    rw [← hQ]
    have hP9 := hP.sub (ws' := [(o0, .inr (11, [.ref t0, o_1, o_2, o_3, o_4, o_5, o_6, o_7, o_8, o_9, .ref p0, o_11, o_12, o_13, o_14, o_15, o_16])), (p0, .inr (5, [.ref a0, p_1, p_2, p_3, p_4, p_5])), (a0, .inr (0, [.ref m0, .ref w0])), (m0, .inr (3, [.ref m1, .int br])), (m1, .inl (K 0, 64, .inl fs)), (w0, .inl (K 0, 9, .inl fw)), (t0, .inr (9, [.ref t1, .ref t3, .ref t2, .ref l0, .int n, .int lt, .int nf, .int fi, k_8, k_9])), (t1, .inl (K 0, 56, .inl f1)), (t2, .inl (K 0, 6, .inl f2)), (t3, .inl (K 0, 24, .inl f3)), (l0, .inl (K 4, 6, .inr (.inr (.inr (.inr fl)))))]) [0, 1, 2, 3, 4, 5, 6, 7, 8, 9, 10] rfl
    have hD9 := hD.sub (ws' := [(o0, .inr (11, [.ref t0, o_1, o_2, o_3, o_4, o_5, o_6, o_7, o_8, o_9, .ref p0, o_11, o_12, o_13, o_14, o_15, o_16])), (p0, .inr (5, [.ref a0, p_1, p_2, p_3, p_4, p_5])), (a0, .inr (0, [.ref m0, .ref w0])), (m0, .inr (3, [.ref m1, .int br])), (m1, .inl (K 0, 64, .inl fs)), (w0, .inl (K 0, 9, .inl fw)), (t0, .inr (9, [.ref t1, .ref t3, .ref t2, .ref l0, .int n, .int lt, .int nf, .int fi, k_8, k_9])), (t1, .inl (K 0, 56, .inl f1)), (t2, .inl (K 0, 6, .inl f2)), (t3, .inl (K 0, 24, .inl f3)), (l0, .inl (K 4, 6, .inr (.inr (.inr (.inr fl)))))]) [0, 1, 2, 3, 4, 5, 6, 7, 8, 9, 10] (by decide) rfl
    exact W.iret (v := (-1)) hx hb hr (fun t ht hW => ⟨⟨(-1), ((fun _ => 0, fun i => match i with | 0 => fs | _ => fw, fun _ => fun _ => 0, fun i => match i with | _ => br, fun _ => 0, fun _ => fun _ => none) : Su), rfl, ⟨(show 0 ≤ (br : Int32).toInt ∧ (br : Int32).toInt ≤ 1 by omega), trivial⟩, (⟨by rw [ht]; exact hP9, hD9⟩ : Wd D A _ t)⟩, hS.F ht⟩) hS.2.2 dX11_compare_28
  refine pci (va_runS (As := [.int x, .int (-1), .int x_141]) (rest := []) ⟨hx, hb, hml, hown, hts⟩ (w_within l D K x.toInt (-1) (lt.toInt - 1) x (-1) x_141 s.heap.size rfl (show ((-1) : Int32).toInt = (-1) from rfl) hx_141) (va_cwS 3 hts gX11_compare_X11_within rfl rfl rfl (by decide +kernel) ⟨Nat.le_of_ble_eq_true rfl, Nat.le_of_ble_eq_true rfl⟩) (mkS hK hN (va_P.nil) (va_D.nil (A := fun _ => True))) rfl rfl hl.1 rfl (lv_room (Nat.le_of_ble_eq_true rfl)) dX11_compare_11 ⟨Nat.le_of_ble_eq_true rfl, Nat.le_of_ble_eq_true rfl⟩) (fun r_162 hw => ?_)
  obtain ⟨hw, -⟩ := hw
  rcases hw with ⟨rfl, h_163, h_164⟩ | ⟨rfl, h_165⟩
  · refine lv_if_eq (tgt := 27) hx hb dX11_compare_14 (by decide) (fun c_166 => absurd c_166 (by decide)) (fun c_166 => ?_)
    refine lv_iload_n hx hb dX11_compare_17 rfl (lv_at hl 2 rfl) ?_
    refine lv_iconst (v := 1) hx hb dX11_compare_18 (by decide) ?_
    refine lv_bipush (v := 60) hx hb dX11_compare_19 (by decide) ?_
    refine pci (va_runS (As := [.int y, .int 1, .int 60]) (rest := []) ⟨hx, hb, hml, hown, hts⟩ (w_within l D K y.toInt 1 60 y 1 60 s.heap.size rfl (show (1 : Int32).toInt = 1 from rfl) (show (60 : Int32).toInt = 60 from rfl)) (va_cwS 3 hts gX11_compare_X11_within rfl rfl rfl (by decide +kernel) ⟨Nat.le_of_ble_eq_true rfl, Nat.le_of_ble_eq_true rfl⟩) (mkS hK hN (va_P.nil) (va_D.nil (A := fun _ => True))) rfl rfl hl.1 rfl (lv_room (Nat.le_of_ble_eq_true rfl)) dX11_compare_21 ⟨Nat.le_of_ble_eq_true rfl, Nat.le_of_ble_eq_true rfl⟩) (fun r_167 hw => ?_)
    obtain ⟨hw, -⟩ := hw
    rcases hw with ⟨rfl, h_168, h_169⟩ | ⟨rfl, h_170⟩
    · refine lv_if_ne (tgt := 29) hx hb dX11_compare_24 (by decide) (fun c_171 => ?_) (fun c_171 => absurd c_171 (by decide))
      refine lv_aload_n hx hb dX11_compare_29 rfl (lv_at hl 0 rfl) ?_
      refine va_get (ci := 11) (v := .ref p0) (C := RX11) (T := TX11) (N := 17) hx hb hts hw11 hown hK hP 0 rfl rfl 10 (by decide) (hts (.fieldLink RX11 68 "SmokeTune" "plan" "LSmokeTune$Plan;") (List.mem_cons_of_mem _ (List.mem_append_left _ (List.mem_append_left _ (List.mem_append_left _ (List.mem_append_left _ (List.mem_append_left _ (List.mem_append_left _ (List.mem_append_left _ (List.mem_of_getElem? (i := 1) rfl)))))))))) (fun _ h9 => h9) rfl dX11_compare_30 ?_
      refine lv_aload_n hx hb dX11_compare_33 rfl (lv_at hl 0 rfl) ?_
      refine va_get (ci := 11) (v := .ref t0) (C := RX11) (T := TX11) (N := 17) hx hb hts hw11 hown hK hP 0 rfl rfl 0 (by decide) (hts (.fieldLink RX11 10 "SmokeTune" "town" "LSmokeTune$Town;") (List.mem_cons_of_mem _ (List.mem_append_left _ (List.mem_append_left _ (List.mem_append_left _ (List.mem_append_left _ (List.mem_append_left _ (List.mem_append_left _ (List.mem_append_left _ (List.mem_of_getElem? (i := 0) rfl)))))))))) (fun _ h9 => h9) rfl dX11_compare_34 ?_
      refine lv_aload_n hx hb dX11_compare_37 rfl (lv_at hl 0 rfl) ?_
      refine va_get (ci := 11) (v := .ref t0) (C := RX11) (T := TX11) (N := 17) hx hb hts hw11 hown hK hP 0 rfl rfl 0 (by decide) (hts (.fieldLink RX11 10 "SmokeTune" "town" "LSmokeTune$Town;") (List.mem_cons_of_mem _ (List.mem_append_left _ (List.mem_append_left _ (List.mem_append_left _ (List.mem_append_left _ (List.mem_append_left _ (List.mem_append_left _ (List.mem_append_left _ (List.mem_of_getElem? (i := 0) rfl)))))))))) (fun _ h9 => h9) rfl dX11_compare_38 ?_
      refine lv_iload_n hx hb dX11_compare_41 rfl (lv_at hl 1 rfl) ?_
      refine pcq (va_runVN (As := [.int x]) (rest := [.ref t0, .ref p0]) ⟨hx, hb, hml, hown, hts⟩ (w_lawAt l D K g L t0 x (.ref t1) (.ref t3) (.ref t2) l0 (.int n) lt (.int nf) (.int fi) k_8 k_9 fl s.heap.size (by first | omega | decide) zfl) ⟨va_cnB 1 hts gX11_compare_X9_lawAt_n276 rfl rfl rfl (nst_at hN 92 rfl) (hts (.initialized RX9) (List.mem_cons_of_mem _ (List.mem_append_left _ (List.mem_append_left _ (List.mem_append_left _ (List.mem_append_left _ (List.mem_append_left _ (List.mem_append_left _ (List.mem_append_left _ (List.mem_of_getElem? (i := 7) rfl)))))))))) (by decide +kernel) ⟨Nat.le_of_ble_eq_true rfl, Nat.le_of_ble_eq_true rfl⟩, (hts (.instanceMethod yX9_lawAt) (List.mem_cons_of_mem _ (List.mem_append_left _ (List.mem_append_left _ (List.mem_append_left _ (List.mem_append_left _ (List.mem_append_left _ (List.mem_append_left _ (List.mem_append_left _ (List.mem_of_getElem? (i := 6) rfl)))))))))), (hts (.selects RX9 yX9_lawAt yX9_lawAt) (List.mem_cons_of_mem _ (List.mem_append_left _ (List.mem_append_left _ (List.mem_append_left _ (List.mem_append_left _ (List.mem_append_left _ (List.mem_append_left _ (List.mem_append_left _ (List.mem_of_getElem? (i := 8) rfl))))))))))⟩ (mkVY hK hN (hP.sub [6, 10] rfl) (hD.sub [6, 10] (by decide) rfl) (ci := 9) (q0 := 0) rfl rfl (fun U hU hW => ⟨Gl.at hG hS hW hU (fun _ h9 => h9.elim), Pool.at hPl hS hU (fun _ h9 => h9.elim), Ro.heap hU (Ro.nil)⟩)) rfl rfl hl.1 rfl (lv_room (Nat.le_of_ble_eq_true rfl)) dX11_compare_42 ⟨Nat.le_of_ble_eq_true rfl, Nat.le_of_ble_eq_true rfl⟩) (fun r_172 hw => ?_)
      have hr_172 : InLo L r_172 := hw
      refine lv_iload_n hx hb dX11_compare_45 rfl (lv_at hl 2 rfl) ?_
      rcases r_172 with _ | q_173
      · have hl : lv_has ls 3 [(0, .ref o0), (1, .int x), (2, .int y)] := hl
        refine W.eq (g2 := F0 m 46 ls [.int y, .null, .ref t0, .ref p0]) rfl ?_
        refine kci (S := Su) (wr := [(o0, .inr (11, [.ref t0, o_1, o_2, o_3, o_4, o_5, o_6, o_7, o_8, o_9, .ref p0, o_11, o_12, o_13, o_14, o_15, o_16]))]) (va_runVN (As := [.ref t0, .null, .int y]) (rest := []) ⟨hx, hb, hml, hown, hts⟩ (w_coalBy_n l D K g L p0 t0 y a0 p_1 p_2 p_3 p_4 p_5 m0 w0 m1 br fs fw t1 t3 t2 l0 n lt nf fi k_8 k_9 f1 f2 f3 fl s.heap.size (by first | omega | decide) (by first | omega | decide) (by first | omega | decide) (by first | omega | decide) zfl) ⟨va_cnB 3 hts gX11_compare_X5_coalBy_n280 rfl rfl rfl (nst_at hN 93 rfl) (hts (.initialized RX5) (List.mem_cons_of_mem _ (List.mem_append_left _ (List.mem_append_left _ (List.mem_append_left _ (List.mem_append_left _ (List.mem_append_left _ (List.mem_append_left _ (List.mem_append_left _ (List.mem_of_getElem? (i := 13) rfl)))))))))) (by decide +kernel) ⟨Nat.le_of_ble_eq_true rfl, Nat.le_of_ble_eq_true rfl⟩, (hts (.instanceMethod yX5_coalBy) (List.mem_cons_of_mem _ (List.mem_append_left _ (List.mem_append_left _ (List.mem_append_left _ (List.mem_append_left _ (List.mem_append_left _ (List.mem_append_left _ (List.mem_append_left _ (List.mem_of_getElem? (i := 12) rfl)))))))))), (hts (.selects RX5 yX5_coalBy yX5_coalBy) (List.mem_cons_of_mem _ (List.mem_append_left _ (List.mem_append_left _ (List.mem_append_left _ (List.mem_append_left _ (List.mem_append_left _ (List.mem_append_left _ (List.mem_append_left _ (List.mem_of_getElem? (i := 14) rfl))))))))))⟩ (mkVY hK hN (hP.sub [1, 2, 3, 4, 5, 6, 7, 8, 9, 10] rfl) (hD.sub [1, 2, 3, 4, 5, 6, 7, 8, 9, 10] (by decide) rfl) (ci := 5) (q0 := 0) rfl rfl (fun U hU hW => ⟨Gl.at hG hS hW hU (fun q h => va_free hD hS hA [1, 2, 3, 4, 5, 6, 7, 8, 9, 10] rfl q h), Pool.at hPl hS hU (fun q h => va_free hD hS hA [1, 2, 3, 4, 5, 6, 7, 8, 9, 10] rfl q h), Ro.heap hU (Ro.nil)⟩)) rfl rfl hl.1 rfl (lv_room (Nat.le_of_ble_eq_true rfl)) dX11_compare_46 ⟨Nat.le_of_ble_eq_true rfl, Nat.le_of_ble_eq_true rfl⟩) hP hD hS hA [1, 2, 3, 4, 5, 6, 7, 8, 9, 10] [0] rfl rfl (by decide) (by decide) (fun r_174 u_175 H locs hw hP hD hS => ?_)
        have hP : va_P D vwCl [(o0, .inr (11, [.ref t0, o_1, o_2, o_3, o_4, o_5, o_6, o_7, o_8, o_9, .ref p0, o_11, o_12, o_13, o_14, o_15, o_16])), (p0, .inr (5, [.ref a0, p_1, p_2, p_3, p_4, p_5])), (a0, .inr (0, [.ref m0, .ref w0])), (m0, .inr (3, [.ref m1, .int br])), (m1, .inl (K 0, 64, .inl fs)), (w0, .inl (K 0, 9, .inl (u_175.2.1 0))), (t0, .inr (9, [.ref t1, .ref t3, .ref t2, .ref l0, .int n, .int lt, .int nf, .int fi, k_8, k_9])), (t1, .inl (K 0, 56, .inl f1)), (t2, .inl (K 0, 6, .inl f2)), (t3, .inl (K 0, 24, .inl f3)), (l0, .inl (K 4, 6, .inr (.inr (.inr (.inr fl)))))] H := hP
        have hD : va_D A [(o0, .inr (11, [.ref t0, o_1, o_2, o_3, o_4, o_5, o_6, o_7, o_8, o_9, .ref p0, o_11, o_12, o_13, o_14, o_15, o_16])), (p0, .inr (5, [.ref a0, p_1, p_2, p_3, p_4, p_5])), (a0, .inr (0, [.ref m0, .ref w0])), (m0, .inr (3, [.ref m1, .int br])), (m1, .inl (K 0, 64, .inl fs)), (w0, .inl (K 0, 9, .inl (u_175.2.1 0))), (t0, .inr (9, [.ref t1, .ref t3, .ref t2, .ref l0, .int n, .int lt, .int nf, .int fi, k_8, k_9])), (t1, .inl (K 0, 56, .inl f1)), (t2, .inl (K 0, 6, .inl f2)), (t3, .inl (K 0, 24, .inl f3)), (l0, .inl (K 4, 6, .inr (.inr (.inr (.inr fl)))))] := hD
        rw [← hQ]
        have hP9 := hP.sub (ws' := [(o0, .inr (11, [.ref t0, o_1, o_2, o_3, o_4, o_5, o_6, o_7, o_8, o_9, .ref p0, o_11, o_12, o_13, o_14, o_15, o_16])), (p0, .inr (5, [.ref a0, p_1, p_2, p_3, p_4, p_5])), (a0, .inr (0, [.ref m0, .ref w0])), (m0, .inr (3, [.ref m1, .int br])), (m1, .inl (K 0, 64, .inl fs)), (w0, .inl (K 0, 9, .inl (u_175.2.1 0))), (t0, .inr (9, [.ref t1, .ref t3, .ref t2, .ref l0, .int n, .int lt, .int nf, .int fi, k_8, k_9])), (t1, .inl (K 0, 56, .inl f1)), (t2, .inl (K 0, 6, .inl f2)), (t3, .inl (K 0, 24, .inl f3)), (l0, .inl (K 4, 6, .inr (.inr (.inr (.inr fl)))))]) [0, 1, 2, 3, 4, 5, 6, 7, 8, 9, 10] rfl
        have hD9 := hD.sub (ws' := [(o0, .inr (11, [.ref t0, o_1, o_2, o_3, o_4, o_5, o_6, o_7, o_8, o_9, .ref p0, o_11, o_12, o_13, o_14, o_15, o_16])), (p0, .inr (5, [.ref a0, p_1, p_2, p_3, p_4, p_5])), (a0, .inr (0, [.ref m0, .ref w0])), (m0, .inr (3, [.ref m1, .int br])), (m1, .inl (K 0, 64, .inl fs)), (w0, .inl (K 0, 9, .inl (u_175.2.1 0))), (t0, .inr (9, [.ref t1, .ref t3, .ref t2, .ref l0, .int n, .int lt, .int nf, .int fi, k_8, k_9])), (t1, .inl (K 0, 56, .inl f1)), (t2, .inl (K 0, 6, .inl f2)), (t3, .inl (K 0, 24, .inl f3)), (l0, .inl (K 4, 6, .inr (.inr (.inr (.inr fl)))))]) [0, 1, 2, 3, 4, 5, 6, 7, 8, 9, 10] (by decide) rfl
        exact W.iret (v := r_174) hx hb hr (fun t ht hW => ⟨⟨r_174, ((fun _ => 0, fun i => match i with | 0 => fs | _ => (u_175.2.1 0), fun _ => fun _ => 0, fun i => match i with | _ => br, fun _ => 0, fun _ => fun _ => none) : Su), rfl, ⟨(show 0 ≤ (br : Int32).toInt ∧ (br : Int32).toInt ≤ 1 by omega), trivial⟩, (⟨by rw [ht]; exact hP9, hD9⟩ : Wd D A _ t)⟩, hS.F ht⟩) hS.2.2 dX11_compare_49
      · have hl : lv_has ls 3 [(0, .ref o0), (1, .int x), (2, .int y)] := hl
        refine W.eq (g2 := F0 m 46 ls [.int y, .ref q_173, .ref t0, .ref p0]) rfl ?_
        refine kci (S := Su) (wr := [(o0, .inr (11, [.ref t0, o_1, o_2, o_3, o_4, o_5, o_6, o_7, o_8, o_9, .ref p0, o_11, o_12, o_13, o_14, o_15, o_16]))]) (va_runVN (As := [.ref t0, .ref q_173, .int y]) (rest := []) ⟨hx, hb, hml, hown, hts⟩ (w_coalBy l D K g L p0 t0 q_173 y a0 p_1 p_2 p_3 p_4 p_5 m0 w0 m1 br fs fw t1 t3 t2 l0 n lt nf fi k_8 k_9 f1 f2 f3 fl s.heap.size hr_172 (by first | omega | decide) (by first | omega | decide) (by first | omega | decide) (by first | omega | decide) zfl) ⟨va_cnB 3 hts gX11_compare_X5_coalBy_n280 rfl rfl rfl (nst_at hN 93 rfl) (hts (.initialized RX5) (List.mem_cons_of_mem _ (List.mem_append_left _ (List.mem_append_left _ (List.mem_append_left _ (List.mem_append_left _ (List.mem_append_left _ (List.mem_append_left _ (List.mem_append_left _ (List.mem_of_getElem? (i := 13) rfl)))))))))) (by decide +kernel) ⟨Nat.le_of_ble_eq_true rfl, Nat.le_of_ble_eq_true rfl⟩, (hts (.instanceMethod yX5_coalBy) (List.mem_cons_of_mem _ (List.mem_append_left _ (List.mem_append_left _ (List.mem_append_left _ (List.mem_append_left _ (List.mem_append_left _ (List.mem_append_left _ (List.mem_append_left _ (List.mem_of_getElem? (i := 12) rfl)))))))))), (hts (.selects RX5 yX5_coalBy yX5_coalBy) (List.mem_cons_of_mem _ (List.mem_append_left _ (List.mem_append_left _ (List.mem_append_left _ (List.mem_append_left _ (List.mem_append_left _ (List.mem_append_left _ (List.mem_append_left _ (List.mem_of_getElem? (i := 14) rfl))))))))))⟩ (mkVY hK hN (hP.sub [1, 2, 3, 4, 5, 6, 7, 8, 9, 10] rfl) (hD.sub [1, 2, 3, 4, 5, 6, 7, 8, 9, 10] (by decide) rfl) (ci := 5) (q0 := 0) rfl rfl (fun U hU hW => ⟨Gl.at hG hS hW hU (fun q h => va_free hD hS hA [1, 2, 3, 4, 5, 6, 7, 8, 9, 10] rfl q h), Pool.at hPl hS hU (fun q h => va_free hD hS hA [1, 2, 3, 4, 5, 6, 7, 8, 9, 10] rfl q h), Ro.heap hU (Ro.nil)⟩)) rfl rfl hl.1 rfl (lv_room (Nat.le_of_ble_eq_true rfl)) dX11_compare_46 ⟨Nat.le_of_ble_eq_true rfl, Nat.le_of_ble_eq_true rfl⟩) hP hD hS hA [1, 2, 3, 4, 5, 6, 7, 8, 9, 10] [0] rfl rfl (by decide) (by decide) (fun r_176 u_177 H locs hw hP hD hS => ?_)
        have hP : va_P D vwCl [(o0, .inr (11, [.ref t0, o_1, o_2, o_3, o_4, o_5, o_6, o_7, o_8, o_9, .ref p0, o_11, o_12, o_13, o_14, o_15, o_16])), (p0, .inr (5, [.ref a0, p_1, p_2, p_3, p_4, p_5])), (a0, .inr (0, [.ref m0, .ref w0])), (m0, .inr (3, [.ref m1, .int (u_177.2.2.2.1 0)])), (m1, .inl (K 0, 64, .inl (u_177.2.1 0))), (w0, .inl (K 0, 9, .inl (u_177.2.1 1))), (t0, .inr (9, [.ref t1, .ref t3, .ref t2, .ref l0, .int n, .int lt, .int nf, .int fi, k_8, k_9])), (t1, .inl (K 0, 56, .inl f1)), (t2, .inl (K 0, 6, .inl f2)), (t3, .inl (K 0, 24, .inl f3)), (l0, .inl (K 4, 6, .inr (.inr (.inr (.inr fl)))))] H := hP
        have hD : va_D A [(o0, .inr (11, [.ref t0, o_1, o_2, o_3, o_4, o_5, o_6, o_7, o_8, o_9, .ref p0, o_11, o_12, o_13, o_14, o_15, o_16])), (p0, .inr (5, [.ref a0, p_1, p_2, p_3, p_4, p_5])), (a0, .inr (0, [.ref m0, .ref w0])), (m0, .inr (3, [.ref m1, .int (u_177.2.2.2.1 0)])), (m1, .inl (K 0, 64, .inl (u_177.2.1 0))), (w0, .inl (K 0, 9, .inl (u_177.2.1 1))), (t0, .inr (9, [.ref t1, .ref t3, .ref t2, .ref l0, .int n, .int lt, .int nf, .int fi, k_8, k_9])), (t1, .inl (K 0, 56, .inl f1)), (t2, .inl (K 0, 6, .inl f2)), (t3, .inl (K 0, 24, .inl f3)), (l0, .inl (K 4, 6, .inr (.inr (.inr (.inr fl)))))] := hD
        obtain ⟨k_178, -⟩ := hw
        rw [← hQ]
        have hP9 := hP.sub (ws' := [(o0, .inr (11, [.ref t0, o_1, o_2, o_3, o_4, o_5, o_6, o_7, o_8, o_9, .ref p0, o_11, o_12, o_13, o_14, o_15, o_16])), (p0, .inr (5, [.ref a0, p_1, p_2, p_3, p_4, p_5])), (a0, .inr (0, [.ref m0, .ref w0])), (m0, .inr (3, [.ref m1, .int (u_177.2.2.2.1 0)])), (m1, .inl (K 0, 64, .inl (u_177.2.1 0))), (w0, .inl (K 0, 9, .inl (u_177.2.1 1))), (t0, .inr (9, [.ref t1, .ref t3, .ref t2, .ref l0, .int n, .int lt, .int nf, .int fi, k_8, k_9])), (t1, .inl (K 0, 56, .inl f1)), (t2, .inl (K 0, 6, .inl f2)), (t3, .inl (K 0, 24, .inl f3)), (l0, .inl (K 4, 6, .inr (.inr (.inr (.inr fl)))))]) [0, 1, 2, 3, 4, 5, 6, 7, 8, 9, 10] rfl
        have hD9 := hD.sub (ws' := [(o0, .inr (11, [.ref t0, o_1, o_2, o_3, o_4, o_5, o_6, o_7, o_8, o_9, .ref p0, o_11, o_12, o_13, o_14, o_15, o_16])), (p0, .inr (5, [.ref a0, p_1, p_2, p_3, p_4, p_5])), (a0, .inr (0, [.ref m0, .ref w0])), (m0, .inr (3, [.ref m1, .int (u_177.2.2.2.1 0)])), (m1, .inl (K 0, 64, .inl (u_177.2.1 0))), (w0, .inl (K 0, 9, .inl (u_177.2.1 1))), (t0, .inr (9, [.ref t1, .ref t3, .ref t2, .ref l0, .int n, .int lt, .int nf, .int fi, k_8, k_9])), (t1, .inl (K 0, 56, .inl f1)), (t2, .inl (K 0, 6, .inl f2)), (t3, .inl (K 0, 24, .inl f3)), (l0, .inl (K 4, 6, .inr (.inr (.inr (.inr fl)))))]) [0, 1, 2, 3, 4, 5, 6, 7, 8, 9, 10] (by decide) rfl
        exact W.iret (v := r_176) hx hb hr (fun t ht hW => ⟨⟨r_176, ((fun _ => 0, fun i => match i with | 0 => (u_177.2.1 0) | _ => (u_177.2.1 1), fun _ => fun _ => 0, fun i => match i with | _ => (u_177.2.2.2.1 0), fun _ => 0, fun _ => fun _ => none) : Su), rfl, ⟨(show 0 ≤ ((u_177.2.2.2.1 0) : Int32).toInt ∧ ((u_177.2.2.2.1 0) : Int32).toInt ≤ 1 by omega), trivial⟩, (⟨by rw [ht]; exact hP9, hD9⟩ : Wd D A _ t)⟩, hS.F ht⟩) hS.2.2 dX11_compare_49
    · refine lv_if_ne (tgt := 29) hx hb dX11_compare_24 (by decide) (fun c_179 => absurd (by decide) c_179) (fun c_179 => ?_)
      exact j_161   _ _ hP hD hS ls (lv_sub hl [] rfl)
  · refine lv_if_eq (tgt := 27) hx hb dX11_compare_14 (by decide) (fun c_180 => ?_) (fun c_180 => absurd (by decide) c_180)
    exact j_161   _ _ hP hD hS ls (lv_sub hl [] rfl)
