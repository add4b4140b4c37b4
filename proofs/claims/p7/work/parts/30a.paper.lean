theorem dX4_favourite_0 : decode cX4_favourite 0 = .ok (.iload_n 2, 1) := by decide +kernel
theorem dX4_favourite_1 : decode cX4_favourite 1 = .ok (.istore 4, 2) := by decide +kernel
theorem dX4_favourite_3 : decode cX4_favourite 3 = .ok (.bipush 64, 2) := by decide +kernel
theorem dX4_favourite_5 : decode cX4_favourite 5 = .ok (.istore 5, 2) := by decide +kernel
theorem dX4_favourite_7 : decode cX4_favourite 7 = .ok (.iconst 0, 1) := by decide +kernel
theorem dX4_favourite_8 : decode cX4_favourite 8 = .ok (.istore 6, 2) := by decide +kernel
theorem dX4_favourite_10 : decode cX4_favourite 10 = .ok (.iload 6, 2) := by decide +kernel
theorem dX4_favourite_12 : decode cX4_favourite 12 = .ok (.aload_n 1, 1) := by decide +kernel
theorem dX4_favourite_13 : decode cX4_favourite 13 = .ok (.getfield 27, 3) := by decide +kernel
theorem dX4_favourite_16 : decode cX4_favourite 16 = .ok (.if_icmp .ge 63, 3) := by decide +kernel
theorem dX4_favourite_19 : decode cX4_favourite 19 = .ok (.aload_n 1, 1) := by decide +kernel
theorem dX4_favourite_20 : decode cX4_favourite 20 = .ok (.iload 6, 2) := by decide +kernel
theorem dX4_favourite_22 : decode cX4_favourite 22 = .ok (.iconst 3, 1) := by decide +kernel
theorem dX4_favourite_23 : decode cX4_favourite 23 = .ok (.invokevirtual 45, 3) := by decide +kernel
theorem dX4_favourite_26 : decode cX4_favourite 26 = .ok (.istore 7, 2) := by decide +kernel
theorem dX4_favourite_28 : decode cX4_favourite 28 = .ok (.iload 7, 2) := by decide +kernel
theorem dX4_favourite_30 : decode cX4_favourite 30 = .ok (.aload_n 1, 1) := by decide +kernel
theorem dX4_favourite_31 : decode cX4_favourite 31 = .ok (.iload_n 2, 1) := by decide +kernel
theorem dX4_favourite_32 : decode cX4_favourite 32 = .ok (.iconst 4, 1) := by decide +kernel
theorem dX4_favourite_33 : decode cX4_favourite 33 = .ok (.invokevirtual 45, 3) := by decide +kernel
theorem dX4_favourite_36 : decode cX4_favourite 36 = .ok (.isub, 1) := by decide +kernel
theorem dX4_favourite_37 : decode cX4_favourite 37 = .ok (.invokestatic 49, 3) := by decide +kernel
theorem dX4_favourite_40 : decode cX4_favourite 40 = .ok (.bipush 8, 2) := by decide +kernel
theorem dX4_favourite_42 : decode cX4_favourite 42 = .ok (.imul, 1) := by decide +kernel
theorem dX4_favourite_43 : decode cX4_favourite 43 = .ok (.iload 7, 2) := by decide +kernel
theorem dX4_favourite_45 : decode cX4_favourite 45 = .ok (.iadd, 1) := by decide +kernel
theorem dX4_favourite_46 : decode cX4_favourite 46 = .ok (.istore 8, 2) := by decide +kernel
theorem dX4_favourite_48 : decode cX4_favourite 48 = .ok (.iload_n 3, 1) := by decide +kernel
theorem dX4_favourite_49 : decode cX4_favourite 49 = .ok (.iload 6, 2) := by decide +kernel
theorem dX4_favourite_51 : decode cX4_favourite 51 = .ok (.ishr, 1) := by decide +kernel
theorem dX4_favourite_52 : decode cX4_favourite 52 = .ok (.iconst 1, 1) := by decide +kernel
theorem dX4_favourite_53 : decode cX4_favourite 53 = .ok (.iand, 1) := by decide +kernel
theorem dX4_favourite_54 : decode cX4_favourite 54 = .ok (.iconst 1, 1) := by decide +kernel
theorem dX4_favourite_55 : decode cX4_favourite 55 = .ok (.if_icmp .ne 18, 3) := by decide +kernel
theorem dX4_favourite_58 : decode cX4_favourite 58 = .ok (.iload 8, 2) := by decide +kernel
theorem dX4_favourite_60 : decode cX4_favourite 60 = .ok (.iload 5, 2) := by decide +kernel
theorem dX4_favourite_62 : decode cX4_favourite 62 = .ok (.if_icmp .ge 11, 3) := by decide +kernel
theorem dX4_favourite_65 : decode cX4_favourite 65 = .ok (.iload 8, 2) := by decide +kernel
theorem dX4_favourite_67 : decode cX4_favourite 67 = .ok (.istore 5, 2) := by decide +kernel
theorem dX4_favourite_69 : decode cX4_favourite 69 = .ok (.iload 6, 2) := by decide +kernel
theorem dX4_favourite_71 : decode cX4_favourite 71 = .ok (.istore 4, 2) := by decide +kernel
theorem dX4_favourite_73 : decode cX4_favourite 73 = .ok (.iinc 6 1, 3) := by decide +kernel
theorem dX4_favourite_76 : decode cX4_favourite 76 = .ok (.goto (-66), 3) := by decide +kernel
theorem dX4_favourite_79 : decode cX4_favourite 79 = .ok (.iload 4, 2) := by decide +kernel
theorem dX4_favourite_81 : decode cX4_favourite 81 = .ok (.ireturn, 1) := by decide +kernel
theorem dX4_ring_0 : decode cX4_ring 0 = .ok (.iconst 0, 1) := by decide +kernel
theorem dX4_ring_1 : decode cX4_ring 1 = .ok (.istore_n 3, 1) := by decide +kernel
theorem dX4_ring_2 : decode cX4_ring 2 = .ok (.iload_n 3, 1) := by decide +kernel
theorem dX4_ring_3 : decode cX4_ring 3 = .ok (.aload_n 1, 1) := by decide +kernel
theorem dX4_ring_4 : decode cX4_ring 4 = .ok (.getfield 27, 3) := by decide +kernel
theorem dX4_ring_7 : decode cX4_ring 7 = .ok (.iconst 1, 1) := by decide +kernel
theorem dX4_ring_8 : decode cX4_ring 8 = .ok (.isub, 1) := by decide +kernel
theorem dX4_ring_9 : decode cX4_ring 9 = .ok (.if_icmp .ge 17, 3) := by decide +kernel
theorem dX4_ring_12 : decode cX4_ring 12 = .ok (.iload_n 2, 1) := by decide +kernel
theorem dX4_ring_13 : decode cX4_ring 13 = .ok (.iload_n 3, 1) := by decide +kernel
theorem dX4_ring_14 : decode cX4_ring 14 = .ok (.ishr, 1) := by decide +kernel
theorem dX4_ring_15 : decode cX4_ring 15 = .ok (.iconst 1, 1) := by decide +kernel
theorem dX4_ring_16 : decode cX4_ring 16 = .ok (.iand, 1) := by decide +kernel
theorem dX4_ring_17 : decode cX4_ring 17 = .ok (.ifCond .ne 9, 3) := by decide +kernel
theorem dX4_ring_20 : decode cX4_ring 20 = .ok (.iinc 3 1, 3) := by decide +kernel
theorem dX4_ring_23 : decode cX4_ring 23 = .ok (.goto (-21), 3) := by decide +kernel
theorem dX4_ring_26 : decode cX4_ring 26 = .ok (.iconst 0, 1) := by decide +kernel
theorem dX4_ring_27 : decode cX4_ring 27 = .ok (.istore 4, 2) := by decide +kernel
theorem dX4_ring_29 : decode cX4_ring 29 = .ok (.iload 4, 2) := by decide +kernel
theorem dX4_ring_31 : decode cX4_ring 31 = .ok (.bipush 8, 2) := by decide +kernel
theorem dX4_ring_33 : decode cX4_ring 33 = .ok (.if_icmp .ge 16, 3) := by decide +kernel
theorem dX4_ring_36 : decode cX4_ring 36 = .ok (.aload_n 0, 1) := by decide +kernel
theorem dX4_ring_37 : decode cX4_ring 37 = .ok (.getfield 15, 3) := by decide +kernel
theorem dX4_ring_40 : decode cX4_ring 40 = .ok (.iload_n 3, 1) := by decide +kernel
theorem dX4_ring_41 : decode cX4_ring 41 = .ok (.iaload, 1) := by decide +kernel
theorem dX4_ring_42 : decode cX4_ring 42 = .ok (.istore_n 3, 1) := by decide +kernel
theorem dX4_ring_43 : decode cX4_ring 43 = .ok (.iinc 4 1, 3) := by decide +kernel
theorem dX4_ring_46 : decode cX4_ring 46 = .ok (.goto (-17), 3) := by decide +kernel
theorem dX4_ring_49 : decode cX4_ring 49 = .ok (.iconst 0, 1) := by decide +kernel
theorem dX4_ring_50 : decode cX4_ring 50 = .ok (.istore 4, 2) := by decide +kernel
theorem dX4_ring_52 : decode cX4_ring 52 = .ok (.iconst 0, 1) := by decide +kernel
theorem dX4_ring_53 : decode cX4_ring 53 = .ok (.istore 5, 2) := by decide +kernel
theorem dX4_ring_55 : decode cX4_ring 55 = .ok (.iload 5, 2) := by decide +kernel
theorem dX4_ring_57 : decode cX4_ring 57 = .ok (.bipush 8, 2) := by decide +kernel
theorem dX4_ring_59 : decode cX4_ring 59 = .ok (.if_icmp .ge 50, 3) := by decide +kernel
theorem dX4_ring_62 : decode cX4_ring 62 = .ok (.iload 4, 2) := by decide +kernel
theorem dX4_ring_64 : decode cX4_ring 64 = .ok (.iload_n 3, 1) := by decide +kernel
theorem dX4_ring_65 : decode cX4_ring 65 = .ok (.ishr, 1) := by decide +kernel
theorem dX4_ring_66 : decode cX4_ring 66 = .ok (.iconst 1, 1) := by decide +kernel
theorem dX4_ring_67 : decode cX4_ring 67 = .ok (.iand, 1) := by decide +kernel
theorem dX4_ring_68 : decode cX4_ring 68 = .ok (.ifCond .ne 41, 3) := by decide +kernel
theorem dX4_ring_71 : decode cX4_ring 71 = .ok (.iload 4, 2) := by decide +kernel
theorem dX4_ring_73 : decode cX4_ring 73 = .ok (.iconst 1, 1) := by decide +kernel
theorem dX4_ring_74 : decode cX4_ring 74 = .ok (.iload_n 3, 1) := by decide +kernel
theorem dX4_ring_75 : decode cX4_ring 75 = .ok (.ishl, 1) := by decide +kernel
theorem dX4_ring_76 : decode cX4_ring 76 = .ok (.ior, 1) := by decide +kernel
theorem dX4_ring_77 : decode cX4_ring 77 = .ok (.istore 4, 2) := by decide +kernel
theorem dX4_ring_79 : decode cX4_ring 79 = .ok (.aload_n 0, 1) := by decide +kernel
theorem dX4_ring_80 : decode cX4_ring 80 = .ok (.getfield 9, 3) := by decide +kernel
theorem dX4_ring_83 : decode cX4_ring 83 = .ok (.iload_n 3, 1) := by decide +kernel
theorem dX4_ring_84 : decode cX4_ring 84 = .ok (.aload_n 1, 1) := by decide +kernel
theorem dX4_ring_85 : decode cX4_ring 85 = .ok (.aload_n 0, 1) := by decide +kernel
theorem dX4_ring_86 : decode cX4_ring 86 = .ok (.getfield 15, 3) := by decide +kernel
theorem dX4_ring_89 : decode cX4_ring 89 = .ok (.iload_n 3, 1) := by decide +kernel
theorem dX4_ring_90 : decode cX4_ring 90 = .ok (.iaload, 1) := by decide +kernel
theorem dX4_ring_91 : decode cX4_ring 91 = .ok (.iconst 3, 1) := by decide +kernel
theorem dX4_ring_92 : decode cX4_ring 92 = .ok (.invokevirtual 45, 3) := by decide +kernel
theorem dX4_ring_95 : decode cX4_ring 95 = .ok (.iastore, 1) := by decide +kernel
theorem dX4_ring_96 : decode cX4_ring 96 = .ok (.aload_n 0, 1) := by decide +kernel
theorem dX4_ring_97 : decode cX4_ring 97 = .ok (.getfield 15, 3) := by decide +kernel
theorem dX4_ring_100 : decode cX4_ring 100 = .ok (.iload_n 3, 1) := by decide +kernel
theorem dX4_ring_101 : decode cX4_ring 101 = .ok (.iaload, 1) := by decide +kernel
theorem dX4_ring_102 : decode cX4_ring 102 = .ok (.istore_n 3, 1) := by decide +kernel
theorem dX4_ring_103 : decode cX4_ring 103 = .ok (.iinc 5 1, 3) := by decide +kernel
theorem dX4_ring_106 : decode cX4_ring 106 = .ok (.goto (-51), 3) := by decide +kernel
theorem dX4_ring_109 : decode cX4_ring 109 = .ok (.iload 4, 2) := by decide +kernel
theorem dX4_ring_111 : decode cX4_ring 111 = .ok (.ireturn, 1) := by decide +kernel
theorem dX4_swapped_0 : decode cX4_swapped 0 = .ok (.iconst 1, 1) := by decide +kernel
theorem dX4_swapped_1 : decode cX4_swapped 1 = .ok (.aload_n 1, 1) := by decide +kernel
theorem dX4_swapped_2 : decode cX4_swapped 2 = .ok (.getfield 27, 3) := by decide +kernel
theorem dX4_swapped_5 : decode cX4_swapped 5 = .ok (.ishl, 1) := by decide +kernel
theorem dX4_swapped_6 : decode cX4_swapped 6 = .ok (.iconst 1, 1) := by decide +kernel
theorem dX4_swapped_7 : decode cX4_swapped 7 = .ok (.isub, 1) := by decide +kernel
theorem dX4_swapped_8 : decode cX4_swapped 8 = .ok (.istore_n 3, 1) := by decide +kernel
theorem dX4_swapped_9 : decode cX4_swapped 9 = .ok (.iconst 0, 1) := by decide +kernel
theorem dX4_swapped_10 : decode cX4_swapped 10 = .ok (.istore 4, 2) := by decide +kernel
theorem dX4_swapped_12 : decode cX4_swapped 12 = .ok (.iload 4, 2) := by decide +kernel
theorem dX4_swapped_14 : decode cX4_swapped 14 = .ok (.bipush 8, 2) := by decide +kernel
theorem dX4_swapped_16 : decode cX4_swapped 16 = .ok (.if_icmp .ge 57, 3) := by decide +kernel
theorem dX4_swapped_19 : decode cX4_swapped 19 = .ok (.iload_n 3, 1) := by decide +kernel
theorem dX4_swapped_20 : decode cX4_swapped 20 = .ok (.ifCond .eq 53, 3) := by decide +kernel
theorem dX4_swapped_23 : decode cX4_swapped 23 = .ok (.iconst 0, 1) := by decide +kernel
theorem dX4_swapped_24 : decode cX4_swapped 24 = .ok (.istore 5, 2) := by decide +kernel
theorem dX4_swapped_26 : decode cX4_swapped 26 = .ok (.iload 5, 2) := by decide +kernel
theorem dX4_swapped_28 : decode cX4_swapped 28 = .ok (.aload_n 1, 1) := by decide +kernel
theorem dX4_swapped_29 : decode cX4_swapped 29 = .ok (.getfield 27, 3) := by decide +kernel
theorem dX4_swapped_32 : decode cX4_swapped 32 = .ok (.if_icmp .ge 24, 3) := by decide +kernel
theorem dX4_swapped_35 : decode cX4_swapped 35 = .ok (.aload_n 0, 1) := by decide +kernel
theorem dX4_swapped_36 : decode cX4_swapped 36 = .ok (.getfield 15, 3) := by decide +kernel
theorem dX4_swapped_39 : decode cX4_swapped 39 = .ok (.iload 5, 2) := by decide +kernel
theorem dX4_swapped_41 : decode cX4_swapped 41 = .ok (.aload_n 0, 1) := by decide +kernel
theorem dX4_swapped_42 : decode cX4_swapped 42 = .ok (.aload_n 1, 1) := by decide +kernel
theorem dX4_swapped_43 : decode cX4_swapped 43 = .ok (.iload 5, 2) := by decide +kernel
theorem dX4_swapped_45 : decode cX4_swapped 45 = .ok (.iload_n 3, 1) := by decide +kernel
theorem dX4_swapped_46 : decode cX4_swapped 46 = .ok (.invokevirtual 33, 3) := by decide +kernel
theorem dX4_swapped_49 : decode cX4_swapped 49 = .ok (.iastore, 1) := by decide +kernel
theorem dX4_swapped_50 : decode cX4_swapped 50 = .ok (.iinc 5 1, 3) := by decide +kernel
theorem dX4_swapped_53 : decode cX4_swapped 53 = .ok (.goto (-27), 3) := by decide +kernel
theorem dX4_swapped_56 : decode cX4_swapped 56 = .ok (.iload_n 3, 1) := by decide +kernel
theorem dX4_swapped_57 : decode cX4_swapped 57 = .ok (.aload_n 0, 1) := by decide +kernel
theorem dX4_swapped_58 : decode cX4_swapped 58 = .ok (.aload_n 1, 1) := by decide +kernel
theorem dX4_swapped_59 : decode cX4_swapped 59 = .ok (.iload_n 3, 1) := by decide +kernel
theorem dX4_swapped_60 : decode cX4_swapped 60 = .ok (.invokevirtual 37, 3) := by decide +kernel
theorem dX4_swapped_63 : decode cX4_swapped 63 = .ok (.iconst (-1), 1) := by decide +kernel
theorem dX4_swapped_64 : decode cX4_swapped 64 = .ok (.ixor, 1) := by decide +kernel
theorem dX4_swapped_65 : decode cX4_swapped 65 = .ok (.iand, 1) := by decide +kernel
theorem dX4_swapped_66 : decode cX4_swapped 66 = .ok (.istore_n 3, 1) := by decide +kernel
theorem dX4_swapped_67 : decode cX4_swapped 67 = .ok (.iinc 4 1, 3) := by decide +kernel
theorem dX4_swapped_70 : decode cX4_swapped 70 = .ok (.goto (-58), 3) := by decide +kernel
theorem dX4_swapped_73 : decode cX4_swapped 73 = .ok (.iload_n 2, 1) := by decide +kernel
theorem dX4_swapped_74 : decode cX4_swapped 74 = .ok (.iconst 0, 1) := by decide +kernel
theorem dX4_swapped_75 : decode cX4_swapped 75 = .ok (.bipush 7, 2) := by decide +kernel
theorem dX4_swapped_77 : decode cX4_swapped 77 = .ok (.invokestatic 41, 3) := by decide +kernel
theorem dX4_swapped_80 : decode cX4_swapped 80 = .ok (.ifCond .eq 12, 3) := by decide +kernel
theorem dX4_swapped_83 : decode cX4_swapped 83 = .ok (.aload_n 0, 1) := by decide +kernel
theorem dX4_swapped_84 : decode cX4_swapped 84 = .ok (.getfield 9, 3) := by decide +kernel
theorem dX4_swapped_87 : decode cX4_swapped 87 = .ok (.iload_n 2, 1) := by decide +kernel
theorem dX4_swapped_88 : decode cX4_swapped 88 = .ok (.iaload, 1) := by decide +kernel
theorem dX4_swapped_89 : decode cX4_swapped 89 = .ok (.goto 4, 3) := by decide +kernel
theorem dX4_swapped_93 : decode cX4_swapped 93 = .ok (.ireturn, 1) := by decide +kernel
theorem dX4_swapped_92 : decode cX4_swapped 92 = .ok (.iconst (-1), 1) := by decide +kernel
theorem dX4_apart_0 : decode cX4_apart 0 = .ok (.iload_n 0, 1) := by decide +kernel
theorem dX4_apart_1 : decode cX4_apart 1 = .ok (.iload_n 1, 1) := by decide +kernel
theorem dX4_apart_2 : decode cX4_apart 2 = .ok (.isub, 1) := by decide +kernel
theorem dX4_apart_3 : decode cX4_apart 3 = .ok (.invokestatic 49, 3) := by decide +kernel
theorem dX4_apart_6 : decode cX4_apart 6 = .ok (.istore_n 2, 1) := by decide +kernel
theorem dX4_apart_7 : decode cX4_apart 7 = .ok (.iload_n 2, 1) := by decide +kernel
theorem dX4_apart_8 : decode cX4_apart 8 = .ok (.bipush 7, 2) := by decide +kernel
theorem dX4_apart_10 : decode cX4_apart 10 = .ok (.iload_n 2, 1) := by decide +kernel
theorem dX4_apart_11 : decode cX4_apart 11 = .ok (.isub, 1) := by decide +kernel
theorem dX4_apart_12 : decode cX4_apart 12 = .ok (.invokestatic 74, 3) := by decide +kernel
theorem dX4_apart_15 : decode cX4_apart 15 = .ok (.ireturn, 1) := by decide +kernel
theorem dX4_nearest_0 : decode cX4_nearest 0 = .ok (.iload_n 0, 1) := by decide +kernel
theorem dX4_nearest_1 : decode cX4_nearest 1 = .ok (.istore_n 2, 1) := by decide +kernel
theorem dX4_nearest_2 : decode cX4_nearest 2 = .ok (.bipush 7, 2) := by decide +kernel
theorem dX4_nearest_4 : decode cX4_nearest 4 = .ok (.istore_n 3, 1) := by decide +kernel
theorem dX4_nearest_5 : decode cX4_nearest 5 = .ok (.iconst 0, 1) := by decide +kernel
theorem dX4_nearest_6 : decode cX4_nearest 6 = .ok (.istore 4, 2) := by decide +kernel
theorem dX4_nearest_8 : decode cX4_nearest 8 = .ok (.iload 4, 2) := by decide +kernel
theorem dX4_nearest_10 : decode cX4_nearest 10 = .ok (.bipush 7, 2) := by decide +kernel
theorem dX4_nearest_12 : decode cX4_nearest 12 = .ok (.if_icmp .ge 39, 3) := by decide +kernel
theorem dX4_nearest_15 : decode cX4_nearest 15 = .ok (.iload_n 1, 1) := by decide +kernel
theorem dX4_nearest_16 : decode cX4_nearest 16 = .ok (.iload 4, 2) := by decide +kernel
theorem dX4_nearest_18 : decode cX4_nearest 18 = .ok (.ishr, 1) := by decide +kernel
theorem dX4_nearest_19 : decode cX4_nearest 19 = .ok (.iconst 1, 1) := by decide +kernel
theorem dX4_nearest_20 : decode cX4_nearest 20 = .ok (.iand, 1) := by decide +kernel
theorem dX4_nearest_21 : decode cX4_nearest 21 = .ok (.iconst 1, 1) := by decide +kernel
theorem dX4_nearest_22 : decode cX4_nearest 22 = .ok (.if_icmp .ne 23, 3) := by decide +kernel
theorem dX4_nearest_25 : decode cX4_nearest 25 = .ok (.iload 4, 2) := by decide +kernel
theorem dX4_nearest_27 : decode cX4_nearest 27 = .ok (.iload_n 0, 1) := by decide +kernel
theorem dX4_nearest_28 : decode cX4_nearest 28 = .ok (.invokestatic 71, 3) := by decide +kernel
theorem dX4_nearest_31 : decode cX4_nearest 31 = .ok (.iload_n 3, 1) := by decide +kernel
theorem dX4_nearest_32 : decode cX4_nearest 32 = .ok (.if_icmp .ge 13, 3) := by decide +kernel
theorem dX4_nearest_35 : decode cX4_nearest 35 = .ok (.iload 4, 2) := by decide +kernel
theorem dX4_nearest_37 : decode cX4_nearest 37 = .ok (.iload_n 0, 1) := by decide +kernel
theorem dX4_nearest_38 : decode cX4_nearest 38 = .ok (.invokestatic 71, 3) := by decide +kernel
theorem dX4_nearest_41 : decode cX4_nearest 41 = .ok (.istore_n 3, 1) := by decide +kernel
theorem dX4_nearest_42 : decode cX4_nearest 42 = .ok (.iload 4, 2) := by decide +kernel
theorem dX4_nearest_44 : decode cX4_nearest 44 = .ok (.istore_n 2, 1) := by decide +kernel
theorem dX4_nearest_45 : decode cX4_nearest 45 = .ok (.iinc 4 1, 3) := by decide +kernel
theorem dX4_nearest_48 : decode cX4_nearest 48 = .ok (.goto (-40), 3) := by decide +kernel
theorem dX4_nearest_51 : decode cX4_nearest 51 = .ok (.iload_n 2, 1) := by decide +kernel
theorem dX4_nearest_52 : decode cX4_nearest 52 = .ok (.ireturn, 1) := by decide +kernel
set_option maxRecDepth 20000 in
theorem ggX4_favourite_X9_fact : GoodIn wsX4_favourite wsX9_fact := goodIn_r _ [8, 9, 10, 11, 12, 13, 14, 15, 16, 17, 18, 19] (by decide +kernel) (by decide +kernel)
set_option maxRecDepth 20000 in
theorem gX4_favourite_X9_fact_n45 : GoodIn wsX4_favourite (wsX9_fact) := ggX4_favourite_X9_fact
set_option maxRecDepth 20000 in
theorem ggX4_ring_X9_fact : GoodIn wsX4_ring wsX9_fact := goodIn_r _ [6, 7, 8, 9, 10, 11, 12, 13, 14, 15, 16, 17] (by decide +kernel) (by decide +kernel)
set_option maxRecDepth 20000 in
theorem gX4_ring_X9_fact_n45 : GoodIn wsX4_ring (wsX9_fact) := ggX4_ring_X9_fact
set_option maxRecDepth 20000 in
theorem ggX4_swapped_X11_within : GoodIn wsX4_swapped wsX11_within := goodIn_r _ [23] (by decide +kernel) (by decide +kernel)
set_option maxRecDepth 20000 in
theorem gX4_swapped_X11_within_n41 : GoodIn wsX4_swapped (wsX11_within) := ggX4_swapped_X11_within
set_option maxRecDepth 20000 in
theorem ggX4_swapped_X4_ring : GoodIn wsX4_swapped wsX4_ring := goodIn_r _ [20, 1, 2, 12, 13, 14, 15, 16, 24, 25, 26, 27, 28, 29, 30, 31, 32, 33, 34, 35, 36, 37, 38] (by decide +kernel) (by decide +kernel)
set_option maxRecDepth 20000 in
theorem gX4_swapped_X4_ring : GoodIn wsX4_swapped (wsV RX4 37 RX4 yX4_ring wsX4_ring) := goodIn_app (goodIn_of _ (by decide +kernel)) ggX4_swapped_X4_ring
set_option maxRecDepth 20000 in
theorem ggX4_swapped_X4_favourite : GoodIn wsX4_swapped wsX4_favourite := goodIn_r _ [7, 8, 9, 10, 11, 12, 13, 14, 15, 16, 24, 25, 26, 27, 28, 29, 30, 31, 32, 33] (by decide +kernel) (by decide +kernel)
set_option maxRecDepth 20000 in
theorem gX4_swapped_X4_favourite : GoodIn wsX4_swapped (wsV RX4 33 RX4 yX4_favourite wsX4_favourite) := goodIn_app (goodIn_of _ (by decide +kernel)) ggX4_swapped_X4_favourite
set_option maxRecDepth 20000 in
theorem ggX4_nearest_X4_apart : GoodIn wsX4_nearest wsX4_apart := goodIn_r _ [4, 5, 6, 7, 8, 9, 10, 11] (by decide +kernel) (by decide +kernel)
set_option maxRecDepth 20000 in
theorem gX4_nearest_X4_apart : GoodIn wsX4_nearest (va_wsS RX4 71 yX4_apart wsX4_apart) := goodIn_app (goodIn_of _ (by decide +kernel)) ggX4_nearest_X4_apart
set_option maxHeartbeats 4000000 in
set_option maxRecDepth 100000 in
theorem w_favourite (l : Launch) (D : va_G) (K : Nat → ClassId) (p0 : Nat) (t0 : Nat) (x : Int32) (y : Int32) (p1 : Nat) (p2 : Nat) (p3 : Nat) (p4 : Nat) (p5 : Nat) (t1 : Nat) (k_1 : Value) (t2 : Nat) (k_3 : Value) (n : Int32) (k_5 : Value) (k_6 : Value) (k_7 : Value) (k_8 : Value) (ho : Int32) (f1 : Nat → Int32) (f2 : Nat → Int32) (sz : Nat) (zn : 0 ≤ n.toInt ∧ n.toInt ≤ 8) (zx : 0 ≤ x.toInt ∧ x.toInt ≤ 7) : Met l yX4_favourite wsX4_favourite ({ frames := 1, cells := 0, slots := 0, locals := 23 }) (va_Pc [.ref p0, .ref t0, .int x, .int y] (Pre D K [(p0, .inr (4, [.ref p1, .ref p2, .ref p3, .ref p4, .ref p5])), (t0, .inr (9, [.ref t1, k_1, .ref t2, k_3, .int n, k_5, k_6, k_7, k_8, .int ho])), (t1, .inl (K 0, 56, .inl f1)), (t2, .inl (K 0, 6, .inl f2))] sz)) (vp_Si (fun r : Int32 => (0 ≤ r.toInt ∧ r.toInt ≤ 7) ∧ True)) 0 0 (fun _ => False) := by
  refine Met.ofW (cc := cX4_favourite) (maxL := 9) (ret := (some .int)) (by decide) rfl ?_
  intro p e s m args below meth c s₁ B hml hv
  obtain ⟨rfl, hsz, hP, hK, hD0, hN⟩ := hv
  have hx := B.exec
  have hb := B.bytes
  have hr := B.returns
  have hts := atoms_spec (ws := wsX4_favourite) B.pre
  have hown : s.vm.findClass RX4 = some m.cls := findClass_of_methodNamed B.named
  have hlocks := B.notSynchronized
  subst hsz
  have hD := hD0
  have hP : va_P D vwCl [(p0, .inr (4, [.ref p1, .ref p2, .ref p3, .ref p4, .ref p5])), (t0, .inr (9, [.ref t1, k_1, .ref t2, k_3, .int n, k_5, k_6, k_7, k_8, .int ho])), (t1, .inl (K 0, 56, .inl f1)), (t2, .inl (K 0, 6, .inl f2))] s.heap := hP
  have hl := lv_entry [.ref p0, .ref t0, .int x, .int y] (n := 9) (Nat.le_of_ble_eq_true rfl)
  rw [lg_entry_eq]
  generalize (lg_sl [.ref p0, .ref t0, .int x, .int y] ++ List.replicate (9 - (lg_sl [.ref p0, .ref t0, .int x, .int y]).length) Slot.unset).toArray = ls at hl ⊢
  have hl : lv_has ls 9 [(0, .ref p0), (1, .ref t0), (2, .int x), (3, .int y)] := hl
  have hw9 : ∀ w ∈ wsX90, w ∈ wsX4_favourite := fun w h => (List.mem_cons_of_mem _ (List.mem_append_right _ h))
  generalize hQ : MQ below _ _ s _ _ _ = Q
  refine lv_iload_n hx hb dX4_favourite_0 rfl (lv_at hl 2 rfl) ?_
  refine lv_istore (lv' := [(4, .int x), (0, .ref p0), (1, .ref t0), (2, .int x), (3, .int y)]) hx hb dX4_favourite_1 hl (by decide) rfl (fun ls hl => ?_)
  refine lv_bipush (v := 64) hx hb dX4_favourite_3 (by decide) ?_
  refine lv_istore (lv' := [(5, .int 64), (4, .int x), (0, .ref p0), (1, .ref t0), (2, .int x), (3, .int y)]) hx hb dX4_favourite_5 hl (by decide) rfl (fun ls hl => ?_)
  refine lv_iconst (v := 0) hx hb dX4_favourite_7 (by decide) ?_
  refine lv_istore (lv' := [(6, .int 0), (5, .int 64), (4, .int x), (0, .ref p0), (1, .ref t0), (2, .int x), (3, .int y)]) hx hb dX4_favourite_8 hl (by decide) rfl (fun ls hl => ?_)
  have lp_404 : ∀ (nn_ : Nat) (v_362 : Int32) (v_363 : Int32) (v_364 : Int32) (hv_362 : 0 ≤ v_362.toInt ∧ v_362.toInt ≤ 8) (hv_363 : v_363.toInt ≤ 64) (hv_364 : 0 ≤ v_364.toInt ∧ v_364.toInt ≤ 7) (hn : (9 - v_362.toInt : Int).toNat < nn_) (ls : Array Slot) (hl : lv_has ls 9 [(6, .int v_362), (5, .int v_363), (4, .int v_364), (1, .ref t0), (2, .int x), (3, .int y)]), W p l e ({ frames := 1, cells := 0, slots := 0, locals := 23 }) s m (([.ref p0, .ref t0, .int x, .int y] : List Value).toArray) below meth c s.heap [] 0 0 Q (F0 m 10 ls []) := by
    intro nn_
    induction nn_ with
    | zero =>
      intro v_362 v_363 v_364 hv_362 hv_363 hv_364 hn ls hl
      exact absurd hn (Nat.not_lt_zero _)
    | succ nn_ ih_405 =>
      intro v_362 v_363 v_364 hv_362 hv_363 hv_364 hn ls hl
      refine lv_iload hx hb dX4_favourite_10 (lv_at hl 0 rfl) ?_
      refine lv_aload_n hx hb dX4_favourite_12 rfl (lv_at hl 3 rfl) ?_
      refine va_getN (ci := 9) (v := .int n) (C := RX9) (T := TX9) (N := 10) hx hb hts hw9 hown hK hP 1 rfl rfl 4 (by decide) (nst_use hN 106 rfl) (fun _ h9 => h9) rfl dX4_favourite_13 ?_
      refine lv_icmp_ge (tgt := 79) hx hb dX4_favourite_16 (by decide) (fun c_406 => ?_) (fun c_406 => ?_)
      · have c_406i := i_le (x := n.toInt) (y := v_362.toInt) rfl rfl c_406
        refine lv_iload hx hb dX4_favourite_79 (lv_at hl 2 rfl) ?_
        rw [← hQ]
        exact W.iret (v := v_364) hx hb hr (fun t ht hW => ⟨_, rfl, ⟨(show 0 ≤ v_364.toInt ∧ v_364.toInt ≤ 7 by omega), trivial⟩, ht⟩) (fun q hq => by cases hq) dX4_favourite_81
      · have c_406i := i_nle (x := n.toInt) (y := v_362.toInt) rfl rfl c_406
        refine lv_aload_n hx hb dX4_favourite_19 rfl (lv_at hl 3 rfl) ?_
        refine lv_iload hx hb dX4_favourite_20 (lv_at hl 0 rfl) ?_
        refine lv_iconst (v := 3) hx hb dX4_favourite_22 (by decide) ?_
        refine pci (va_runVN (As := [.int v_362, .int 3]) (rest := []) ⟨hx, hb, hml, hown, hts⟩ (w_fact l D K t0 v_362 3 t1 k_1 (.ref t2) k_3 (.int n) k_5 k_6 k_7 k_8 (.int ho) f1 s.heap.size) ⟨va_cnB 2 hts gX4_favourite_X9_fact_n45 rfl rfl rfl (nst_at hN 84 rfl) (hts (.initialized RX9) (List.mem_cons_of_mem _ (List.mem_append_left _ (List.mem_of_getElem? (i := 5) rfl)))) (by decide +kernel) ⟨Nat.le_of_ble_eq_true rfl, Nat.le_of_ble_eq_true rfl⟩, (hts (.instanceMethod yX9_fact) (List.mem_cons_of_mem _ (List.mem_append_left _ (List.mem_of_getElem? (i := 4) rfl)))), (hts (.selects RX9 yX9_fact yX9_fact) (List.mem_cons_of_mem _ (List.mem_append_left _ (List.mem_of_getElem? (i := 6) rfl))))⟩ (mkV hK hN (hP.sub [1, 2] rfl) (hD.sub [1, 2] (by decide) rfl) (ci := 9) (q0 := 0) rfl rfl) rfl rfl hl.1 rfl (lv_room (Nat.le_of_ble_eq_true rfl)) dX4_favourite_23 ⟨Nat.le_of_ble_eq_true rfl, Nat.le_of_ble_eq_true rfl⟩) (fun r_407 hw => ?_)
        refine lv_istore (lv' := [(7, .int r_407), (6, .int v_362), (5, .int v_363), (4, .int v_364), (1, .ref t0), (2, .int x), (3, .int y)]) hx hb dX4_favourite_26 hl (by decide) rfl (fun ls hl => ?_)
        refine lv_iload hx hb dX4_favourite_28 (lv_at hl 0 rfl) ?_
        refine lv_aload_n hx hb dX4_favourite_30 rfl (lv_at hl 4 rfl) ?_
        refine lv_iload_n hx hb dX4_favourite_31 rfl (lv_at hl 5 rfl) ?_
        refine lv_iconst (v := 4) hx hb dX4_favourite_32 (by decide) ?_
        refine pci (va_runVN (As := [.int x, .int 4]) (rest := [.int r_407]) ⟨hx, hb, hml, hown, hts⟩ (w_fact l D K t0 x 4 t1 k_1 (.ref t2) k_3 (.int n) k_5 k_6 k_7 k_8 (.int ho) f1 s.heap.size) ⟨va_cnB 2 hts gX4_favourite_X9_fact_n45 rfl rfl rfl (nst_at hN 84 rfl) (hts (.initialized RX9) (List.mem_cons_of_mem _ (List.mem_append_left _ (List.mem_of_getElem? (i := 5) rfl)))) (by decide +kernel) ⟨Nat.le_of_ble_eq_true rfl, Nat.le_of_ble_eq_true rfl⟩, (hts (.instanceMethod yX9_fact) (List.mem_cons_of_mem _ (List.mem_append_left _ (List.mem_of_getElem? (i := 4) rfl)))), (hts (.selects RX9 yX9_fact yX9_fact) (List.mem_cons_of_mem _ (List.mem_append_left _ (List.mem_of_getElem? (i := 6) rfl))))⟩ (mkV hK hN (hP.sub [1, 2] rfl) (hD.sub [1, 2] (by decide) rfl) (ci := 9) (q0 := 0) rfl rfl) rfl rfl hl.1 rfl (lv_room (Nat.le_of_ble_eq_true rfl)) dX4_favourite_33 ⟨Nat.le_of_ble_eq_true rfl, Nat.le_of_ble_eq_true rfl⟩) (fun r_408 hw => ?_)
        refine lv_isub hx hb dX4_favourite_36 ?_
        refine lv_topi (fun x_409 ex_409 => ?_)
        refine va_mabs hx hb (hml.trans hl.1.symm) hown (hts (.methodLink RX4 49 Lib.Math.abs.name) (List.mem_cons_of_mem _ (List.mem_append_left _ (List.mem_of_getElem? (i := 0) rfl)))) (hts (.static Lib.Math.abs.name) (List.mem_cons_of_mem _ (List.mem_append_left _ (List.mem_of_getElem? (i := 1) rfl)))) (hts (.initialized "java/lang/Math") (List.mem_cons_of_mem _ (List.mem_append_left _ (List.mem_of_getElem? (i := 2) rfl)))) (hts (.code Lib.Math.abs.name Lib.Math.abs.code 1 (some .int)) (List.mem_cons_of_mem _ (List.mem_append_left _ (List.mem_of_getElem? (i := 3) rfl)))) (Nat.le_of_ble_eq_true rfl) (Nat.le_of_ble_eq_true rfl) (Nat.le_of_ble_eq_true rfl) (Nat.le_of_ble_eq_true rfl) dX4_favourite_37 ?_
        refine lv_topi (fun x_410 ex_410 => ?_)
        refine lv_bipush (v := 8) hx hb dX4_favourite_40 (by decide) ?_
        refine lv_imul hx hb dX4_favourite_42 ?_
        refine lv_topi (fun x_411 ex_411 => ?_)
        refine lv_iload hx hb dX4_favourite_43 (lv_at hl 0 rfl) ?_
        refine lv_iadd hx hb dX4_favourite_45 ?_
        refine lv_topi (fun x_412 ex_412 => ?_)
        refine lv_istore (lv' := [(8, .int x_412), (7, .int r_407), (6, .int v_362), (5, .int v_363), (4, .int v_364), (1, .ref t0), (2, .int x), (3, .int y)]) hx hb dX4_favourite_46 hl (by decide) rfl (fun ls hl => ?_)
        refine lv_iload_n hx hb dX4_favourite_48 rfl (lv_at hl 7 rfl) ?_
        refine lv_iload hx hb dX4_favourite_49 (lv_at hl 2 rfl) ?_
        refine lv_ishr hx hb dX4_favourite_51 ?_
        refine lv_topi (fun x_413 ex_413 => ?_)
        refine lv_iconst (v := 1) hx hb dX4_favourite_52 (by decide) ?_
        refine lv_iand hx hb dX4_favourite_53 ?_
        refine lv_topi (fun x_414 ex_414 => ?_)
        have hx_414 : 0 ≤ x_414.toInt ∧ x_414.toInt ≤ 1 := by rw [ex_414]; exact i_mask x_413 1 rfl (by decide)
        refine lv_iconst (v := 1) hx hb dX4_favourite_54 (by decide) ?_
        have j_420 : ∀ (v_417 : Int32) (v_418 : Int32) (hv_417 : v_417.toInt ≤ 64) (hv_418 : 0 ≤ v_418.toInt ∧ v_418.toInt ≤ 7) (ls : Array Slot) (hl : lv_has ls 9 [(6, .int v_362), (5, .int v_417), (4, .int v_418), (1, .ref t0), (2, .int x), (3, .int y)]), W p l e ({ frames := 1, cells := 0, slots := 0, locals := 23 }) s m (([.ref p0, .ref t0, .int x, .int y] : List Value).toArray) below meth c s.heap [] 0 0 Q (F0 m 73 ls []) := by
          intro v_417 v_418 hv_417 hv_418 ls hl
          obtain ⟨x_421, ex_421⟩ : ∃ y : Int32, y = v_362 + Int32.ofInt 1 := ⟨_, rfl⟩
          have hx_421 : x_421.toInt = (v_362.toInt + 1) := by rw [ex_421]; exact i_add rfl (show (Int32.ofInt 1).toInt = 1 from rfl) (by omega)
          refine lv_iinc (v := x_421) (lv' := [(6, .int x_421), (5, .int v_417), (4, .int v_418), (1, .ref t0), (2, .int x), (3, .int y)]) hx hb dX4_favourite_73 hl (k := 0) rfl (by rw [ex_421]) (by decide) rfl (fun ls hl => ?_)
          refine lv_goto (tgt := 10) hx hb dX4_favourite_76 (by decide) ?_
          exact ih_405 x_421 v_417 v_418 (by rw [hx_421]; omega) (by omega) (by omega) (by omega) ls (lv_sub hl [0, 1, 2, 3, 4, 5] rfl)
        refine lv_icmp_ne (tgt := 73) hx hb dX4_favourite_55 (by decide) (fun c_422 => ?_) (fun c_422 => ?_)
        · have c_422i := i_ne (x := x_414.toInt) (y := 1) rfl rfl c_422
          exact j_420 v_363 v_364 (by omega) (by omega) ls (lv_sub hl [2, 3, 4, 5, 6, 7] rfl)
        · have c_422i := i_eq (x := x_414.toInt) (y := 1) rfl rfl c_422
          refine lv_iload hx hb dX4_favourite_58 (lv_at hl 0 rfl) ?_
          refine lv_iload hx hb dX4_favourite_60 (lv_at hl 3 rfl) ?_
          refine lv_icmp_ge (tgt := 73) hx hb dX4_favourite_62 (by decide) (fun c_423 => ?_) (fun c_423 => ?_)
          · have c_423i := i_le (x := v_363.toInt) (y := x_412.toInt) rfl rfl c_423
            exact j_420 v_363 v_364 (by omega) (by omega) ls (lv_sub hl [2, 3, 4, 5, 6, 7] rfl)
          · have c_423i := i_nle (x := v_363.toInt) (y := x_412.toInt) rfl rfl c_423
            refine lv_iload hx hb dX4_favourite_65 (lv_at hl 0 rfl) ?_
            refine lv_istore (lv' := [(5, .int x_412), (8, .int x_412), (7, .int r_407), (6, .int v_362), (4, .int v_364), (1, .ref t0), (2, .int x), (3, .int y)]) hx hb dX4_favourite_67 hl (by decide) rfl (fun ls hl => ?_)
            refine lv_iload hx hb dX4_favourite_69 (lv_at hl 3 rfl) ?_
            refine lv_istore (lv' := [(4, .int v_362), (5, .int x_412), (8, .int x_412), (7, .int r_407), (6, .int v_362), (1, .ref t0), (2, .int x), (3, .int y)]) hx hb dX4_favourite_71 hl (by decide) rfl (fun ls hl => ?_)
            exact j_420 x_412 v_362 (by omega) (by omega) ls (lv_sub hl [4, 1, 0, 5, 6, 7] rfl)
  exact lp_404 ((9 - (0 : Int32).toInt : Int).toNat + 1) 0 64 x (by decide) (by decide) (by omega) (Nat.lt_succ_self _) ls (lv_sub hl [0, 1, 2, 4, 5, 6] rfl)
set_option maxHeartbeats 4000000 in
set_option maxRecDepth 100000 in
theorem w_ring (l : Launch) (D : va_G) (K : Nat → ClassId) (p0 : Nat) (t0 : Nat) (x : Int32) (p1 : Nat) (p2 : Nat) (p3 : Nat) (p4 : Nat) (p5 : Nat) (fd : Nat → Int32) (fp : Nat → Int32) (t1 : Nat) (k_1 : Value) (t2 : Nat) (k_3 : Value) (n : Int32) (k_5 : Value) (k_6 : Value) (k_7 : Value) (k_8 : Value) (ho : Int32) (f1 : Nat → Int32) (f2 : Nat → Int32) (sz : Nat) (zn : 1 ≤ n.toInt ∧ n.toInt ≤ 8) (zfp : Rg 8 0 7 fp) : Met l yX4_ring wsX4_ring ({ frames := 1, cells := 0, slots := 0, locals := 23 }) (va_Pc [.ref p0, .ref t0, .int x] (Pre D K [(p0, .inr (4, [.ref p1, .ref p2, .ref p3, .ref p4, .ref p5])), (p1, .inl (K 0, 8, .inl fd)), (p2, .inl (K 0, 8, .inl fp)), (t0, .inr (9, [.ref t1, k_1, .ref t2, k_3, .int n, k_5, k_6, k_7, k_8, .int ho])), (t1, .inl (K 0, 56, .inl f1)), (t2, .inl (K 0, 6, .inl f2))] sz)) (va_Qi (S := Su) (fun (r : Int32) (u : Su) => (0 ≤ r.toInt ∧ r.toInt ≤ 255) ∧ True) (fun u t => Wd D (va_A [(p0, .inr (4, [.ref p1, .ref p2, .ref p3, .ref p4, .ref p5])), (p1, .inl (K 0, 8, .inl fd)), (p2, .inl (K 0, 8, .inl fp)), (t0, .inr (9, [.ref t1, k_1, .ref t2, k_3, .int n, k_5, k_6, k_7, k_8, .int ho])), (t1, .inl (K 0, 56, .inl f1)), (t2, .inl (K 0, 6, .inl f2))] sz) ((fun u => [(p0, .inr (4, [.ref p1, .ref p2, .ref p3, .ref p4, .ref p5])), (p1, .inl (K 0, 8, .inl (u.2.1 0))), (p2, .inl (K 0, 8, .inl fp)), (t0, .inr (9, [.ref t1, k_1, .ref t2, k_3, .int n, k_5, k_6, k_7, k_8, .int ho])), (t1, .inl (K 0, 56, .inl f1)), (t2, .inl (K 0, 6, .inl f2))]) u) t) (va_A [(p0, .inr (4, [.ref p1, .ref p2, .ref p3, .ref p4, .ref p5])), (p1, .inl (K 0, 8, .inl fd)), (p2, .inl (K 0, 8, .inl fp)), (t0, .inr (9, [.ref t1, k_1, .ref t2, k_3, .int n, k_5, k_6, k_7, k_8, .int ho])), (t1, .inl (K 0, 56, .inl f1)), (t2, .inl (K 0, 6, .inl f2))] sz)) 0 0 (va_A [(p0, .inr (4, [.ref p1, .ref p2, .ref p3, .ref p4, .ref p5])), (p1, .inl (K 0, 8, .inl fd)), (p2, .inl (K 0, 8, .inl fp)), (t0, .inr (9, [.ref t1, k_1, .ref t2, k_3, .int n, k_5, k_6, k_7, k_8, .int ho])), (t1, .inl (K 0, 56, .inl f1)), (t2, .inl (K 0, 6, .inl f2))] sz) := by
  refine Met.ofW (cc := cX4_ring) (maxL := 6) (ret := (some .int)) (by decide) rfl ?_
  intro p e s m args below meth c s₁ B hml hv
  obtain ⟨rfl, hsz, hP, hK, hD0, hN⟩ := hv
  have hx := B.exec
  have hb := B.bytes
  have hr := B.returns
  have hts := atoms_spec (ws := wsX4_ring) B.pre
  have hown : s.vm.findClass RX4 = some m.cls := findClass_of_methodNamed B.named
  have hlocks := B.notSynchronized
  subst hsz
  have hD := hD0.self (sz := s.heap.size)
  generalize hAe : va_A [(p0, .inr (4, [.ref p1, .ref p2, .ref p3, .ref p4, .ref p5])), (p1, .inl (K 0, 8, .inl fd)), (p2, .inl (K 0, 8, .inl fp)), (t0, .inr (9, [.ref t1, k_1, .ref t2, k_3, .int n, k_5, k_6, k_7, k_8, .int ho])), (t1, .inl (K 0, 56, .inl f1)), (t2, .inl (K 0, 6, .inl f2))] s.heap.size = A at hD ⊢
  have hA : ∀ q : Nat, s.heap.size ≤ q → A q := fun q h => by rw [← hAe]; exact Or.inr h
  have hS : va_S A s.heap s.heap [] := va_S.rf
  have hP : va_P D vwCl [(p0, .inr (4, [.ref p1, .ref p2, .ref p3, .ref p4, .ref p5])), (p1, .inl (K 0, 8, .inl fd)), (p2, .inl (K 0, 8, .inl fp)), (t0, .inr (9, [.ref t1, k_1, .ref t2, k_3, .int n, k_5, k_6, k_7, k_8, .int ho])), (t1, .inl (K 0, 56, .inl f1)), (t2, .inl (K 0, 6, .inl f2))] s.heap := hP
  have hl := lv_entry [.ref p0, .ref t0, .int x] (n := 6) (Nat.le_of_ble_eq_true rfl)
  rw [lg_entry_eq]
  generalize (lg_sl [.ref p0, .ref t0, .int x] ++ List.replicate (6 - (lg_sl [.ref p0, .ref t0, .int x]).length) Slot.unset).toArray = ls at hl ⊢
  have hl : lv_has ls 6 [(0, .ref p0), (1, .ref t0), (2, .int x)] := hl
  have hw4 : ∀ w ∈ wsX40, w ∈ wsX4_ring := fun w h => (List.mem_cons_of_mem _ (List.mem_append_right _ h))
  have hw9 : ∀ w ∈ wsX90, w ∈ wsX4_ring := fun w h => (List.mem_cons_of_mem _ (List.mem_append_left _ (List.mem_append_right _ h)))
  generalize hQ : MQ below _ _ s _ _ _ = Q
  refine lv_iconst (v := 0) hx hb dX4_ring_0 (by decide) ?_
  refine lv_istore_n (lv' := [(3, .int 0), (0, .ref p0), (1, .ref t0), (2, .int x)]) hx hb dX4_ring_1 rfl hl (by decide) rfl (fun ls hl => ?_)
  have lp_1098 : ∀ (nn_ : Nat) (v_1072 : Int32) (hv_1072 : 0 ≤ v_1072.toInt ∧ v_1072.toInt ≤ 7) (hn : (8 - v_1072.toInt : Int).toNat < nn_) (H : Heap) (locs : List Loc) (hP : va_P D vwCl [(p0, .inr (4, [.ref p1, .ref p2, .ref p3, .ref p4, .ref p5])), (p1, .inl (K 0, 8, .inl fd)), (p2, .inl (K 0, 8, .inl fp)), (t0, .inr (9, [.ref t1, k_1, .ref t2, k_3, .int n, k_5, k_6, k_7, k_8, .int ho])), (t1, .inl (K 0, 56, .inl f1)), (t2, .inl (K 0, 6, .inl f2))] H) (hD : va_D A [(p0, .inr (4, [.ref p1, .ref p2, .ref p3, .ref p4, .ref p5])), (p1, .inl (K 0, 8, .inl fd)), (p2, .inl (K 0, 8, .inl fp)), (t0, .inr (9, [.ref t1, k_1, .ref t2, k_3, .int n, k_5, k_6, k_7, k_8, .int ho])), (t1, .inl (K 0, 56, .inl f1)), (t2, .inl (K 0, 6, .inl f2))]) (hS : va_S A s.heap H locs) (ls : Array Slot) (hl : lv_has ls 6 [(3, .int v_1072), (0, .ref p0), (1, .ref t0), (2, .int x)]), W p l e ({ frames := 1, cells := 0, slots := 0, locals := 23 }) s m (([.ref p0, .ref t0, .int x] : List Value).toArray) below meth c H locs 0 0 Q (F0 m 2 ls []) := by
    intro nn_
    induction nn_ with
    | zero =>
      intro v_1072 hv_1072 hn H locs hP hD hS ls hl
      exact absurd hn (Nat.not_lt_zero _)
    | succ nn_ ih_1099 =>
      intro v_1072 hv_1072 hn H locs hP hD hS ls hl
      refine lv_iload_n hx hb dX4_ring_2 rfl (lv_at hl 0 rfl) ?_
      refine lv_aload_n hx hb dX4_ring_3 rfl (lv_at hl 2 rfl) ?_
      refine va_getN (ci := 9) (v := .int n) (C := RX9) (T := TX9) (N := 10) hx hb hts hw9 hown hK hP 3 rfl rfl 4 (by decide) (nst_use hN 106 rfl) (fun _ h9 => h9) rfl dX4_ring_4 ?_
      refine lv_iconst (v := 1) hx hb dX4_ring_7 (by decide) ?_
      refine lv_isub hx hb dX4_ring_8 ?_
      refine lv_topi (fun x_1100 ex_1100 => ?_)
      have hx_1100 : x_1100.toInt = (n.toInt - 1) := by rw [ex_1100]; exact i_sub rfl (show (1 : Int32).toInt = 1 from rfl) (by omega)
      have j_1317 : ∀ (H : Heap) (locs : List Loc) (hP : va_P D vwCl [(p0, .inr (4, [.ref p1, .ref p2, .ref p3, .ref p4, .ref p5])), (p1, .inl (K 0, 8, .inl fd)), (p2, .inl (K 0, 8, .inl fp)), (t0, .inr (9, [.ref t1, k_1, .ref t2, k_3, .int n, k_5, k_6, k_7, k_8, .int ho])), (t1, .inl (K 0, 56, .inl f1)), (t2, .inl (K 0, 6, .inl f2))] H) (hD : va_D A [(p0, .inr (4, [.ref p1, .ref p2, .ref p3, .ref p4, .ref p5])), (p1, .inl (K 0, 8, .inl fd)), (p2, .inl (K 0, 8, .inl fp)), (t0, .inr (9, [.ref t1, k_1, .ref t2, k_3, .int n, k_5, k_6, k_7, k_8, .int ho])), (t1, .inl (K 0, 56, .inl f1)), (t2, .inl (K 0, 6, .inl f2))]) (hS : va_S A s.heap H locs) (ls : Array Slot) (hl : lv_has ls 6 [(3, .int v_1072), (0, .ref p0), (1, .ref t0)]), W p l e ({ frames := 1, cells := 0, slots := 0, locals := 23 }) s m (([.ref p0, .ref t0, .int x] : List Value).toArray) below meth c H locs 0 0 Q (F0 m 26 ls []) := by
        intro H locs hP hD hS ls hl
        refine lv_iconst (v := 0) hx hb dX4_ring_26 (by decide) ?_
        refine lv_istore (lv' := [(4, .int 0), (3, .int v_1072), (0, .ref p0), (1, .ref t0)]) hx hb dX4_ring_27 hl (by decide) rfl (fun ls hl => ?_)
        have lp_1345 : ∀ (nn_ : Nat) (v_1335 : Int32) (v_1336 : Int32) (hv_1335 : 0 ≤ v_1335.toInt ∧ v_1335.toInt ≤ 8) (hv_1336 : 0 ≤ v_1336.toInt ∧ v_1336.toInt ≤ 7) (hn : (9 - v_1335.toInt : Int).toNat < nn_) (H : Heap) (locs : List Loc) (hP : va_P D vwCl [(p0, .inr (4, [.ref p1, .ref p2, .ref p3, .ref p4, .ref p5])), (p1, .inl (K 0, 8, .inl fd)), (p2, .inl (K 0, 8, .inl fp)), (t0, .inr (9, [.ref t1, k_1, .ref t2, k_3, .int n, k_5, k_6, k_7, k_8, .int ho])), (t1, .inl (K 0, 56, .inl f1)), (t2, .inl (K 0, 6, .inl f2))] H) (hD : va_D A [(p0, .inr (4, [.ref p1, .ref p2, .ref p3, .ref p4, .ref p5])), (p1, .inl (K 0, 8, .inl fd)), (p2, .inl (K 0, 8, .inl fp)), (t0, .inr (9, [.ref t1, k_1, .ref t2, k_3, .int n, k_5, k_6, k_7, k_8, .int ho])), (t1, .inl (K 0, 56, .inl f1)), (t2, .inl (K 0, 6, .inl f2))]) (hS : va_S A s.heap H locs) (ls : Array Slot) (hl : lv_has ls 6 [(4, .int v_1335), (3, .int v_1336), (0, .ref p0), (1, .ref t0)]), W p l e ({ frames := 1, cells := 0, slots := 0, locals := 23 }) s m (([.ref p0, .ref t0, .int x] : List Value).toArray) below meth c H locs 0 0 Q (F0 m 29 ls []) := by
          intro nn_
          induction nn_ with
          | zero =>
            intro v_1335 v_1336 hv_1335 hv_1336 hn H locs hP hD hS ls hl
            exact absurd hn (Nat.not_lt_zero _)
          | succ nn_ ih_1346 =>
            intro v_1335 v_1336 hv_1335 hv_1336 hn H locs hP hD hS ls hl
            refine lv_iload hx hb dX4_ring_29 (lv_at hl 0 rfl) ?_
            refine lv_bipush (v := 8) hx hb dX4_ring_31 (by decide) ?_
            refine lv_icmp_ge (tgt := 49) hx hb dX4_ring_33 (by decide) (fun c_1347 => ?_) (fun c_1347 => ?_)
            · have c_1347i := i_le (x := 8) (y := v_1335.toInt) rfl rfl c_1347
              refine lv_iconst (v := 0) hx hb dX4_ring_49 (by decide) ?_
              refine lv_istore (lv' := [(4, .int 0), (3, .int v_1336), (0, .ref p0), (1, .ref t0)]) hx hb dX4_ring_50 hl (by decide) rfl (fun ls hl => ?_)
              refine lv_iconst (v := 0) hx hb dX4_ring_52 (by decide) ?_
              refine lv_istore (lv' := [(5, .int 0), (4, .int 0), (3, .int v_1336), (0, .ref p0), (1, .ref t0)]) hx hb dX4_ring_53 hl (by decide) rfl (fun ls hl => ?_)
              have lp_1502 : ∀ (nn_ : Nat) (v_1448 : Int32) (v_1449 : Int32) (v_1450 : Int32) (f_1451 : Nat → Int32) (hv_1448 : 0 ≤ v_1448.toInt ∧ v_1448.toInt ≤ 8) (hv_1449 : 0 ≤ v_1449.toInt ∧ v_1449.toInt ≤ 255) (hv_1450 : 0 ≤ v_1450.toInt ∧ v_1450.toInt ≤ 7) (hn : (9 - v_1448.toInt : Int).toNat < nn_) (H : Heap) (locs : List Loc) (hP : va_P D vwCl [(p0, .inr (4, [.ref p1, .ref p2, .ref p3, .ref p4, .ref p5])), (p1, .inl (K 0, 8, .inl f_1451)), (p2, .inl (K 0, 8, .inl fp)), (t0, .inr (9, [.ref t1, k_1, .ref t2, k_3, .int n, k_5, k_6, k_7, k_8, .int ho])), (t1, .inl (K 0, 56, .inl f1)), (t2, .inl (K 0, 6, .inl f2))] H) (hD : va_D A [(p0, .inr (4, [.ref p1, .ref p2, .ref p3, .ref p4, .ref p5])), (p1, .inl (K 0, 8, .inl f_1451)), (p2, .inl (K 0, 8, .inl fp)), (t0, .inr (9, [.ref t1, k_1, .ref t2, k_3, .int n, k_5, k_6, k_7, k_8, .int ho])), (t1, .inl (K 0, 56, .inl f1)), (t2, .inl (K 0, 6, .inl f2))]) (hS : va_S A s.heap H locs) (ls : Array Slot) (hl : lv_has ls 6 [(5, .int v_1448), (4, .int v_1449), (3, .int v_1450), (0, .ref p0), (1, .ref t0)]), W p l e ({ frames := 1, cells := 0, slots := 0, locals := 23 }) s m (([.ref p0, .ref t0, .int x] : List Value).toArray) below meth c H locs 0 0 Q (F0 m 55 ls []) := by
                intro nn_
                induction nn_ with
                | zero =>
                  intro v_1448 v_1449 v_1450 f_1451 hv_1448 hv_1449 hv_1450 hn H locs hP hD hS ls hl
                  exact absurd hn (Nat.not_lt_zero _)
                | succ nn_ ih_1503 =>
                  intro v_1448 v_1449 v_1450 f_1451 hv_1448 hv_1449 hv_1450 hn H locs hP hD hS ls hl
                  refine lv_iload hx hb dX4_ring_55 (lv_at hl 0 rfl) ?_
                  refine lv_bipush (v := 8) hx hb dX4_ring_57 (by decide) ?_
                  have j_1515 : ∀ (H : Heap) (locs : List Loc) (hP : va_P D vwCl [(p0, .inr (4, [.ref p1, .ref p2, .ref p3, .ref p4, .ref p5])), (p1, .inl (K 0, 8, .inl f_1451)), (p2, .inl (K 0, 8, .inl fp)), (t0, .inr (9, [.ref t1, k_1, .ref t2, k_3, .int n, k_5, k_6, k_7, k_8, .int ho])), (t1, .inl (K 0, 56, .inl f1)), (t2, .inl (K 0, 6, .inl f2))] H) (hD : va_D A [(p0, .inr (4, [.ref p1, .ref p2, .ref p3, .ref p4, .ref p5])), (p1, .inl (K 0, 8, .inl f_1451)), (p2, .inl (K 0, 8, .inl fp)), (t0, .inr (9, [.ref t1, k_1, .ref t2, k_3, .int n, k_5, k_6, k_7, k_8, .int ho])), (t1, .inl (K 0, 56, .inl f1)), (t2, .inl (K 0, 6, .inl f2))]) (hS : va_S A s.heap H locs) (ls : Array Slot) (hl : lv_has ls 6 [(4, .int v_1449)]), W p l e ({ frames := 1, cells := 0, slots := 0, locals := 23 }) s m (([.ref p0, .ref t0, .int x] : List Value).toArray) below meth c H locs 0 0 Q (F0 m 109 ls []) := by
                    intro H locs hP hD hS ls hl
                    refine lv_iload hx hb dX4_ring_109 (lv_at hl 0 rfl) ?_
                    rw [← hQ]
                    have hP9 := hP.sub (ws' := [(p0, .inr (4, [.ref p1, .ref p2, .ref p3, .ref p4, .ref p5])), (p1, .inl (K 0, 8, .inl f_1451)), (p2, .inl (K 0, 8, .inl fp)), (t0, .inr (9, [.ref t1, k_1, .ref t2, k_3, .int n, k_5, k_6, k_7, k_8, .int ho])), (t1, .inl (K 0, 56, .inl f1)), (t2, .inl (K 0, 6, .inl f2))]) [0, 1, 2, 3, 4, 5] rfl
                    have hD9 := hD.sub (ws' := [(p0, .inr (4, [.ref p1, .ref p2, .ref p3, .ref p4, .ref p5])), (p1, .inl (K 0, 8, .inl f_1451)), (p2, .inl (K 0, 8, .inl fp)), (t0, .inr (9, [.ref t1, k_1, .ref t2, k_3, .int n, k_5, k_6, k_7, k_8, .int ho])), (t1, .inl (K 0, 56, .inl f1)), (t2, .inl (K 0, 6, .inl f2))]) [0, 1, 2, 3, 4, 5] (by decide) rfl
                    exact W.iret (v := v_1449) hx hb hr (fun t ht hW => ⟨⟨v_1449, ((fun _ => 0, fun i => match i with | _ => f_1451, fun _ => fun _ => 0, fun _ => 0, fun _ => 0, fun _ => fun _ => none) : Su), rfl, ⟨(show 0 ≤ v_1449.toInt ∧ v_1449.toInt ≤ 255 by omega), trivial⟩, (⟨by rw [ht]; exact hP9, hD9⟩ : Wd D A _ t)⟩, hS.F ht⟩) hS.2.2 dX4_ring_111
                  refine lv_icmp_ge (tgt := 109) hx hb dX4_ring_59 (by decide) (fun c_1516 => ?_) (fun c_1516 => ?_)
                  · have c_1516i := i_le (x := 8) (y := v_1448.toInt) rfl rfl c_1516
                    exact j_1515   _ _ hP hD hS ls (lv_sub hl [1] rfl)
                  · have c_1516i := i_nle (x := 8) (y := v_1448.toInt) rfl rfl c_1516
                    refine lv_iload hx hb dX4_ring_62 (lv_at hl 1 rfl) ?_
                    refine lv_iload_n hx hb dX4_ring_64 rfl (lv_at hl 2 rfl) ?_
                    refine lv_ishr hx hb dX4_ring_65 ?_
                    refine lv_topi (fun x_1517 ex_1517 => ?_)
                    have hx_1517 : 0 ≤ x_1517.toInt ∧ x_1517.toInt ≤ v_1449.toInt := by rw [ex_1517]; exact i_shr rfl (by omega)
                    refine lv_iconst (v := 1) hx hb dX4_ring_66 (by decide) ?_
                    refine lv_iand hx hb dX4_ring_67 ?_
                    refine lv_topi (fun x_1518 ex_1518 => ?_)
                    have hx_1518 : 0 ≤ x_1518.toInt ∧ x_1518.toInt ≤ 1 := by rw [ex_1518]; exact i_mask x_1517 1 rfl (by decide)
                    refine lv_if_ne (tgt := 109) hx hb dX4_ring_68 (by decide) (fun c_1519 => ?_) (fun c_1519 => ?_)
                    · have c_1519i := i_ne (x := x_1518.toInt) (y := 0) rfl rfl c_1519
                      exact j_1515   _ _ hP hD hS ls (lv_sub hl [1] rfl)
                    · have c_1519i := i_eq (x := x_1518.toInt) (y := 0) rfl rfl c_1519
                      refine lv_iload hx hb dX4_ring_71 (lv_at hl 1 rfl) ?_
                      refine lv_iconst (v := 1) hx hb dX4_ring_73 (by decide) ?_
                      refine lv_iload_n hx hb dX4_ring_74 rfl (lv_at hl 2 rfl) ?_
                      refine lv_ishl hx hb dX4_ring_75 ?_
                      refine lv_topi (fun x_1520 ex_1520 => ?_)
                      have hx_1520 : 1 ≤ x_1520.toInt ∧ x_1520.toInt ≤ 128 := by rw [ex_1520]; exact i_shl1 rfl (n := 7) (by decide) (by omega)
                      refine lv_ior hx hb dX4_ring_76 ?_
                      refine lv_topi (fun x_1521 ex_1521 => ?_)
                      have hx_1521 : 0 ≤ x_1521.toInt ∧ x_1521.toInt < 256 := by rw [ex_1521]; exact i_or (k := 8) rfl rfl (by decide) (by omega) (by omega)
                      refine lv_istore (lv' := [(4, .int x_1521), (5, .int v_1448), (3, .int v_1450), (0, .ref p0), (1, .ref t0)]) hx hb dX4_ring_77 hl (by decide) rfl (fun ls hl => ?_)
                      refine lv_aload_n hx hb dX4_ring_79 rfl (lv_at hl 3 rfl) ?_
                      refine va_get (ci := 4) (v := .ref p1) (C := RX4) (T := TX4) (N := 5) hx hb hts hw4 hown hK hP 0 rfl rfl 0 (by decide) (hts (.fieldLink RX4 9 "SmokeTune$Paper" "dinners" "[I") (List.mem_cons_of_mem _ (List.mem_append_left _ (List.mem_append_left _ (List.mem_of_getElem? (i := 1) rfl))))) (fun _ h9 => h9) rfl dX4_ring_80 ?_
                      refine lv_iload_n hx hb dX4_ring_83 rfl (lv_at hl 2 rfl) ?_
                      refine lv_aload_n hx hb dX4_ring_84 rfl (lv_at hl 4 rfl) ?_
                      refine lv_aload_n hx hb dX4_ring_85 rfl (lv_at hl 3 rfl) ?_
                      refine va_get (ci := 4) (v := .ref p2) (C := RX4) (T := TX4) (N := 5) hx hb hts hw4 hown hK hP 0 rfl rfl 1 (by decide) (hts (.fieldLink RX4 15 "SmokeTune$Paper" "pointed" "[I") (List.mem_cons_of_mem _ (List.mem_append_left _ (List.mem_append_left _ (List.mem_of_getElem? (i := 0) rfl))))) (fun _ h9 => h9) rfl dX4_ring_86 ?_
                      refine lv_iload_n hx hb dX4_ring_89 rfl (lv_at hl 2 rfl) ?_
                      refine va_iald hx hb hK hP 2 0 rfl rfl (i_in rfl (by omega)) dX4_ring_90 ?_
                      refine lv_topi (fun x_1522 ex_1522 => ?_)
                      have hx_1522 := Rg.at zfp rfl (show 0 ≤ v_1450.toInt ∧ v_1450.toInt < _ by omega)
                      rw [← ex_1522] at hx_1522
                      refine lv_iconst (v := 3) hx hb dX4_ring_91 (by decide) ?_
                      refine pci (va_runVN (As := [.int x_1522, .int 3]) (rest := [.int v_1450, .ref p1]) ⟨hx, hb, hml, hown, hts⟩ (w_fact l D K t0 x_1522 3 t1 k_1 (.ref t2) k_3 (.int n) k_5 k_6 k_7 k_8 (.int ho) f1 H.size) ⟨va_cnB 2 hts gX4_ring_X9_fact_n45 rfl rfl rfl (nst_at hN 84 rfl) (hts (.initialized RX9) (List.mem_cons_of_mem _ (List.mem_append_left _ (List.mem_append_left _ (List.mem_of_getElem? (i := 3) rfl))))) (by decide +kernel) ⟨Nat.le_of_ble_eq_true rfl, Nat.le_of_ble_eq_true rfl⟩, (hts (.instanceMethod yX9_fact) (List.mem_cons_of_mem _ (List.mem_append_left _ (List.mem_append_left _ (List.mem_of_getElem? (i := 2) rfl))))), (hts (.selects RX9 yX9_fact yX9_fact) (List.mem_cons_of_mem _ (List.mem_append_left _ (List.mem_append_left _ (List.mem_of_getElem? (i := 4) rfl)))))⟩ (mkV hK hN (hP.sub [3, 4] rfl) (hD.sub [3, 4] (by decide) rfl) (ci := 9) (q0 := 0) rfl rfl) rfl rfl hl.1 rfl (lv_room (Nat.le_of_ble_eq_true rfl)) dX4_ring_92 ⟨Nat.le_of_ble_eq_true rfl, Nat.le_of_ble_eq_true rfl⟩) (fun r_1523 hw => ?_)
                      refine va_iast hx hb hK hP hD hS 1 0 rfl rfl (i_in rfl (by omega)) dX4_ring_95 (fun H locs hP hD hS => ?_)
                      generalize hf_1524 : (upd f_1451 (v_1450 : Int32).toNatClampNeg r_1523) = f_1524 at hP hD
                      have hP : va_P D vwCl [(p0, .inr (4, [.ref p1, .ref p2, .ref p3, .ref p4, .ref p5])), (p1, .inl (K 0, 8, .inl f_1524)), (p2, .inl (K 0, 8, .inl fp)), (t0, .inr (9, [.ref t1, k_1, .ref t2, k_3, .int n, k_5, k_6, k_7, k_8, .int ho])), (t1, .inl (K 0, 56, .inl f1)), (t2, .inl (K 0, 6, .inl f2))] H := hP
                      have hD : va_D A [(p0, .inr (4, [.ref p1, .ref p2, .ref p3, .ref p4, .ref p5])), (p1, .inl (K 0, 8, .inl f_1524)), (p2, .inl (K 0, 8, .inl fp)), (t0, .inr (9, [.ref t1, k_1, .ref t2, k_3, .int n, k_5, k_6, k_7, k_8, .int ho])), (t1, .inl (K 0, 56, .inl f1)), (t2, .inl (K 0, 6, .inl f2))] := hD
                      refine lv_aload_n hx hb dX4_ring_96 rfl (lv_at hl 3 rfl) ?_
                      refine va_get (ci := 4) (v := .ref p2) (C := RX4) (T := TX4) (N := 5) hx hb hts hw4 hown hK hP 0 rfl rfl 1 (by decide) (hts (.fieldLink RX4 15 "SmokeTune$Paper" "pointed" "[I") (List.mem_cons_of_mem _ (List.mem_append_left _ (List.mem_append_left _ (List.mem_of_getElem? (i := 0) rfl))))) (fun _ h9 => h9) rfl dX4_ring_97 ?_
                      refine lv_iload_n hx hb dX4_ring_100 rfl (lv_at hl 2 rfl) ?_
                      refine va_iald hx hb hK hP 2 0 rfl rfl (i_in rfl (by omega)) dX4_ring_101 ?_
                      refine lv_topi (fun x_1525 ex_1525 => ?_)
                      have hx_1525 := Rg.at zfp rfl (show 0 ≤ v_1450.toInt ∧ v_1450.toInt < _ by omega)
                      rw [← ex_1525] at hx_1525
                      refine lv_istore_n (lv' := [(3, .int x_1525), (4, .int x_1521), (5, .int v_1448), (0, .ref p0), (1, .ref t0)]) hx hb dX4_ring_102 rfl hl (by decide) rfl (fun ls hl => ?_)
                      obtain ⟨x_1526, ex_1526⟩ : ∃ y : Int32, y = v_1448 + Int32.ofInt 1 := ⟨_, rfl⟩
                      have hx_1526 : x_1526.toInt = (v_1448.toInt + 1) := by rw [ex_1526]; exact i_add rfl (show (Int32.ofInt 1).toInt = 1 from rfl) (by omega)
                      refine lv_iinc (v := x_1526) (lv' := [(5, .int x_1526), (3, .int x_1525), (4, .int x_1521), (0, .ref p0), (1, .ref t0)]) hx hb dX4_ring_103 hl (k := 2) rfl (by rw [ex_1526]) (by decide) rfl (fun ls hl => ?_)
                      refine lv_goto (tgt := 55) hx hb dX4_ring_106 (by decide) ?_
                      exact ih_1503 x_1526 x_1521 x_1525 f_1524 (by rw [hx_1526]; omega) (by omega) (by omega) (by omega) _ _ hP hD hS ls (lv_sub hl [0, 2, 1, 3, 4] rfl)
              exact lp_1502 ((9 - (0 : Int32).toInt : Int).toNat + 1) 0 0 v_1336 fd (by decide) (by decide) (by omega) (Nat.lt_succ_self _) _ _ hP hD hS ls (lv_sub hl [0, 1, 2, 3, 4] rfl)
            · have c_1347i := i_nle (x := 8) (y := v_1335.toInt) rfl rfl c_1347
              refine lv_aload_n hx hb dX4_ring_36 rfl (lv_at hl 2 rfl) ?_
              refine va_get (ci := 4) (v := .ref p2) (C := RX4) (T := TX4) (N := 5) hx hb hts hw4 hown hK hP 0 rfl rfl 1 (by decide) (hts (.fieldLink RX4 15 "SmokeTune$Paper" "pointed" "[I") (List.mem_cons_of_mem _ (List.mem_append_left _ (List.mem_append_left _ (List.mem_of_getElem? (i := 0) rfl))))) (fun _ h9 => h9) rfl dX4_ring_37 ?_
              refine lv_iload_n hx hb dX4_ring_40 rfl (lv_at hl 1 rfl) ?_
              refine va_iald hx hb hK hP 2 0 rfl rfl (i_in rfl (by omega)) dX4_ring_41 ?_
              refine lv_topi (fun x_1527 ex_1527 => ?_)
              have hx_1527 := Rg.at zfp rfl (show 0 ≤ v_1336.toInt ∧ v_1336.toInt < _ by omega)
              rw [← ex_1527] at hx_1527
              refine lv_istore_n (lv' := [(3, .int x_1527), (4, .int v_1335), (0, .ref p0), (1, .ref t0)]) hx hb dX4_ring_42 rfl hl (by decide) rfl (fun ls hl => ?_)
              obtain ⟨x_1528, ex_1528⟩ : ∃ y : Int32, y = v_1335 + Int32.ofInt 1 := ⟨_, rfl⟩
              have hx_1528 : x_1528.toInt = (v_1335.toInt + 1) := by rw [ex_1528]; exact i_add rfl (show (Int32.ofInt 1).toInt = 1 from rfl) (by omega)
              refine lv_iinc (v := x_1528) (lv' := [(4, .int x_1528), (3, .int x_1527), (0, .ref p0), (1, .ref t0)]) hx hb dX4_ring_43 hl (k := 1) rfl (by rw [ex_1528]) (by decide) rfl (fun ls hl => ?_)
              refine lv_goto (tgt := 29) hx hb dX4_ring_46 (by decide) ?_
              exact ih_1346 x_1528 x_1527 (by rw [hx_1528]; omega) (by omega) (by omega) _ _ hP hD hS ls (lv_sub hl [0, 1, 2, 3] rfl)
        exact lp_1345 ((9 - (0 : Int32).toInt : Int).toNat + 1) 0 v_1072 (by decide) (by omega) (Nat.lt_succ_self _) _ _ hP hD hS ls (lv_sub hl [0, 1, 2, 3] rfl)
      refine lv_icmp_ge (tgt := 26) hx hb dX4_ring_9 (by decide) (fun c_1529 => ?_) (fun c_1529 => ?_)
      · have c_1529i := i_le (x := (n.toInt - 1)) (y := v_1072.toInt) hx_1100 rfl c_1529
        exact j_1317   _ _ hP hD hS ls (lv_sub hl [0, 1, 2] rfl)
      · have c_1529i := i_nle (x := (n.toInt - 1)) (y := v_1072.toInt) hx_1100 rfl c_1529
        refine lv_iload_n hx hb dX4_ring_12 rfl (lv_at hl 3 rfl) ?_
        refine lv_iload_n hx hb dX4_ring_13 rfl (lv_at hl 0 rfl) ?_
        refine lv_ishr hx hb dX4_ring_14 ?_
        refine lv_topi (fun x_1530 ex_1530 => ?_)
        refine lv_iconst (v := 1) hx hb dX4_ring_15 (by decide) ?_
        refine lv_iand hx hb dX4_ring_16 ?_
        refine lv_topi (fun x_1531 ex_1531 => ?_)
        have hx_1531 : 0 ≤ x_1531.toInt ∧ x_1531.toInt ≤ 1 := by rw [ex_1531]; exact i_mask x_1530 1 rfl (by decide)
        refine lv_if_ne (tgt := 26) hx hb dX4_ring_17 (by decide) (fun c_1532 => ?_) (fun c_1532 => ?_)
        · have c_1532i := i_ne (x := x_1531.toInt) (y := 0) rfl rfl c_1532
          exact j_1317   _ _ hP hD hS ls (lv_sub hl [0, 1, 2] rfl)
        · have c_1532i := i_eq (x := x_1531.toInt) (y := 0) rfl rfl c_1532
          obtain ⟨x_1533, ex_1533⟩ : ∃ y : Int32, y = v_1072 + Int32.ofInt 1 := ⟨_, rfl⟩
          have hx_1533 : x_1533.toInt = (v_1072.toInt + 1) := by rw [ex_1533]; exact i_add rfl (show (Int32.ofInt 1).toInt = 1 from rfl) (by omega)
          refine lv_iinc (v := x_1533) (lv' := [(3, .int x_1533), (0, .ref p0), (1, .ref t0), (2, .int x)]) hx hb dX4_ring_20 hl (k := 0) rfl (by rw [ex_1533]) (by decide) rfl (fun ls hl => ?_)
          refine lv_goto (tgt := 2) hx hb dX4_ring_23 (by decide) ?_
          exact ih_1099 x_1533 (by rw [hx_1533]; omega) (by omega) _ _ hP hD hS ls (lv_sub hl [0, 1, 2, 3] rfl)
  exact lp_1098 ((8 - (0 : Int32).toInt : Int).toNat + 1) 0 (by decide) (Nat.lt_succ_self _) _ _ hP hD hS ls (lv_sub hl [0, 1, 2, 3] rfl)
set_option maxHeartbeats 4000000 in
set_option maxRecDepth 100000 in
theorem w_swapped (l : Launch) (D : va_G) (K : Nat → ClassId) (p0 : Nat) (t0 : Nat) (x : Int32) (p1 : Nat) (p2 : Nat) (p3 : Nat) (p4 : Nat) (p5 : Nat) (fd : Nat → Int32) (fp : Nat → Int32) (t1 : Nat) (k_1 : Value) (t2 : Nat) (k_3 : Value) (n : Int32) (k_5 : Value) (k_6 : Value) (k_7 : Value) (k_8 : Value) (ho : Int32) (f1 : Nat → Int32) (f2 : Nat → Int32) (sz : Nat) (zn : 1 ≤ n.toInt ∧ n.toInt ≤ 8) (zfp : Rg 8 0 7 fp) : Met l yX4_swapped wsX4_swapped ({ frames := 2, cells := 0, slots := 0, locals := 51 }) (va_Pc [.ref p0, .ref t0, .int x] (Pre D K [(p0, .inr (4, [.ref p1, .ref p2, .ref p3, .ref p4, .ref p5])), (p1, .inl (K 0, 8, .inl fd)), (p2, .inl (K 0, 8, .inl fp)), (t0, .inr (9, [.ref t1, k_1, .ref t2, k_3, .int n, k_5, k_6, k_7, k_8, .int ho])), (t1, .inl (K 0, 56, .inl f1)), (t2, .inl (K 0, 6, .inl f2))] sz)) (va_Qi (S := Su) (fun (r : Int32) (u : Su) => (Rg 8 0 7 (u.2.1 1)) ∧ True) (fun u t => Wd D (va_A [(p0, .inr (4, [.ref p1, .ref p2, .ref p3, .ref p4, .ref p5])), (p1, .inl (K 0, 8, .inl fd)), (p2, .inl (K 0, 8, .inl fp)), (t0, .inr (9, [.ref t1, k_1, .ref t2, k_3, .int n, k_5, k_6, k_7, k_8, .int ho])), (t1, .inl (K 0, 56, .inl f1)), (t2, .inl (K 0, 6, .inl f2))] sz) ((fun u => [(p0, .inr (4, [.ref p1, .ref p2, .ref p3, .ref p4, .ref p5])), (p1, .inl (K 0, 8, .inl (u.2.1 0))), (p2, .inl (K 0, 8, .inl (u.2.1 1))), (t0, .inr (9, [.ref t1, k_1, .ref t2, k_3, .int n, k_5, k_6, k_7, k_8, .int ho])), (t1, .inl (K 0, 56, .inl f1)), (t2, .inl (K 0, 6, .inl f2))]) u) t) (va_A [(p0, .inr (4, [.ref p1, .ref p2, .ref p3, .ref p4, .ref p5])), (p1, .inl (K 0, 8, .inl fd)), (p2, .inl (K 0, 8, .inl fp)), (t0, .inr (9, [.ref t1, k_1, .ref t2, k_3, .int n, k_5, k_6, k_7, k_8, .int ho])), (t1, .inl (K 0, 56, .inl f1)), (t2, .inl (K 0, 6, .inl f2))] sz)) 0 0 (va_A [(p0, .inr (4, [.ref p1, .ref p2, .ref p3, .ref p4, .ref p5])), (p1, .inl (K 0, 8, .inl fd)), (p2, .inl (K 0, 8, .inl fp)), (t0, .inr (9, [.ref t1, k_1, .ref t2, k_3, .int n, k_5, k_6, k_7, k_8, .int ho])), (t1, .inl (K 0, 56, .inl f1)), (t2, .inl (K 0, 6, .inl f2))] sz) := by
  refine Met.ofW (cc := cX4_swapped) (maxL := 6) (ret := (some .int)) (by decide) rfl ?_
  intro p e s m args below meth c s₁ B hml hv
  obtain ⟨rfl, hsz, hP, hK, hD0, hN⟩ := hv
  have hx := B.exec
  have hb := B.bytes
  have hr := B.returns
  have hts := atoms_spec (ws := wsX4_swapped) B.pre
  have hown : s.vm.findClass RX4 = some m.cls := findClass_of_methodNamed B.named
  have hlocks := B.notSynchronized
  subst hsz
  have hD := hD0.self (sz := s.heap.size)
  generalize hAe : va_A [(p0, .inr (4, [.ref p1, .ref p2, .ref p3, .ref p4, .ref p5])), (p1, .inl (K 0, 8, .inl fd)), (p2, .inl (K 0, 8, .inl fp)), (t0, .inr (9, [.ref t1, k_1, .ref t2, k_3, .int n, k_5, k_6, k_7, k_8, .int ho])), (t1, .inl (K 0, 56, .inl f1)), (t2, .inl (K 0, 6, .inl f2))] s.heap.size = A at hD ⊢
  have hA : ∀ q : Nat, s.heap.size ≤ q → A q := fun q h => by rw [← hAe]; exact Or.inr h
  have hS : va_S A s.heap s.heap [] := va_S.rf
  have hP : va_P D vwCl [(p0, .inr (4, [.ref p1, .ref p2, .ref p3, .ref p4, .ref p5])), (p1, .inl (K 0, 8, .inl fd)), (p2, .inl (K 0, 8, .inl fp)), (t0, .inr (9, [.ref t1, k_1, .ref t2, k_3, .int n, k_5, k_6, k_7, k_8, .int ho])), (t1, .inl (K 0, 56, .inl f1)), (t2, .inl (K 0, 6, .inl f2))] s.heap := hP
  have hl := lv_entry [.ref p0, .ref t0, .int x] (n := 6) (Nat.le_of_ble_eq_true rfl)
  rw [lg_entry_eq]
  generalize (lg_sl [.ref p0, .ref t0, .int x] ++ List.replicate (6 - (lg_sl [.ref p0, .ref t0, .int x]).length) Slot.unset).toArray = ls at hl ⊢
  have hl : lv_has ls 6 [(0, .ref p0), (1, .ref t0), (2, .int x)] := hl
  have hw4 : ∀ w ∈ wsX40, w ∈ wsX4_swapped := fun w h => (List.mem_cons_of_mem _ (List.mem_append_right _ h))
  have hw9 : ∀ w ∈ wsX90, w ∈ wsX4_swapped := fun w h => (List.mem_cons_of_mem _ (List.mem_append_left _ (List.mem_append_right _ h)))
  generalize hQ : MQ below _ _ s _ _ _ = Q
  refine lv_iconst (v := 1) hx hb dX4_swapped_0 (by decide) ?_
  refine lv_aload_n hx hb dX4_swapped_1 rfl (lv_at hl 1 rfl) ?_
  refine va_getN (ci := 9) (v := .int n) (C := RX9) (T := TX9) (N := 10) hx hb hts hw9 hown hK hP 3 rfl rfl 4 (by decide) (nst_use hN 106 rfl) (fun _ h9 => h9) rfl dX4_swapped_2 ?_
  refine lv_ishl hx hb dX4_swapped_5 ?_
  refine lv_topi (fun x_1595 ex_1595 => ?_)
  have hx_1595 : 1 ≤ x_1595.toInt ∧ x_1595.toInt ≤ 256 := by rw [ex_1595]; exact i_shl1 rfl (n := 8) (by decide) (by omega)
  refine lv_iconst (v := 1) hx hb dX4_swapped_6 (by decide) ?_
  refine lv_isub hx hb dX4_swapped_7 ?_
  refine lv_topi (fun x_1596 ex_1596 => ?_)
  have hx_1596 : x_1596.toInt = (x_1595.toInt - 1) := by rw [ex_1596]; exact i_sub rfl (show (1 : Int32).toInt = 1 from rfl) (by omega)
  refine lv_istore_n (lv' := [(3, .int x_1596), (0, .ref p0), (1, .ref t0), (2, .int x)]) hx hb dX4_swapped_8 rfl hl (by decide) rfl (fun ls hl => ?_)
  refine lv_iconst (v := 0) hx hb dX4_swapped_9 (by decide) ?_
  refine lv_istore (lv' := [(4, .int 0), (3, .int x_1596), (0, .ref p0), (1, .ref t0), (2, .int x)]) hx hb dX4_swapped_10 hl (by decide) rfl (fun ls hl => ?_)
  have lp_2267 : ∀ (nn_ : Nat) (v_2041 : Int32) (v_2042 : Int32) (f_2043 : Nat → Int32) (f_2044 : Nat → Int32) (hv_2041 : 0 ≤ v_2041.toInt ∧ v_2041.toInt ≤ 8) (hv_2042 : 0 ≤ v_2042.toInt ∧ v_2042.toInt ≤ 255) (hf_2044_0 : Rg 8 0 7 f_2044) (hn : (9 - v_2041.toInt : Int).toNat < nn_) (H : Heap) (locs : List Loc) (hP : va_P D vwCl [(p0, .inr (4, [.ref p1, .ref p2, .ref p3, .ref p4, .ref p5])), (p1, .inl (K 0, 8, .inl f_2043)), (p2, .inl (K 0, 8, .inl f_2044)), (t0, .inr (9, [.ref t1, k_1, .ref t2, k_3, .int n, k_5, k_6, k_7, k_8, .int ho])), (t1, .inl (K 0, 56, .inl f1)), (t2, .inl (K 0, 6, .inl f2))] H) (hD : va_D A [(p0, .inr (4, [.ref p1, .ref p2, .ref p3, .ref p4, .ref p5])), (p1, .inl (K 0, 8, .inl f_2043)), (p2, .inl (K 0, 8, .inl f_2044)), (t0, .inr (9, [.ref t1, k_1, .ref t2, k_3, .int n, k_5, k_6, k_7, k_8, .int ho])), (t1, .inl (K 0, 56, .inl f1)), (t2, .inl (K 0, 6, .inl f2))]) (hS : va_S A s.heap H locs) (ls : Array Slot) (hl : lv_has ls 6 [(4, .int v_2041), (3, .int v_2042), (0, .ref p0), (1, .ref t0), (2, .int x)]), W p l e ({ frames := 2, cells := 0, slots := 0, locals := 51 }) s m (([.ref p0, .ref t0, .int x] : List Value).toArray) below meth c H locs 0 0 Q (F0 m 12 ls []) := by
    intro nn_
    induction nn_ with
    | zero =>
      intro v_2041 v_2042 f_2043 f_2044 hv_2041 hv_2042 hf_2044_0 hn H locs hP hD hS ls hl
      exact absurd hn (Nat.not_lt_zero _)
    | succ nn_ ih_2268 =>
      intro v_2041 v_2042 f_2043 f_2044 hv_2041 hv_2042 hf_2044_0 hn H locs hP hD hS ls hl
      refine lv_iload hx hb dX4_swapped_12 (lv_at hl 0 rfl) ?_
      refine lv_bipush (v := 8) hx hb dX4_swapped_14 (by decide) ?_
      have j_2330 : ∀ (H : Heap) (locs : List Loc) (hP : va_P D vwCl [(p0, .inr (4, [.ref p1, .ref p2, .ref p3, .ref p4, .ref p5])), (p1, .inl (K 0, 8, .inl f_2043)), (p2, .inl (K 0, 8, .inl f_2044)), (t0, .inr (9, [.ref t1, k_1, .ref t2, k_3, .int n, k_5, k_6, k_7, k_8, .int ho])), (t1, .inl (K 0, 56, .inl f1)), (t2, .inl (K 0, 6, .inl f2))] H) (hD : va_D A [(p0, .inr (4, [.ref p1, .ref p2, .ref p3, .ref p4, .ref p5])), (p1, .inl (K 0, 8, .inl f_2043)), (p2, .inl (K 0, 8, .inl f_2044)), (t0, .inr (9, [.ref t1, k_1, .ref t2, k_3, .int n, k_5, k_6, k_7, k_8, .int ho])), (t1, .inl (K 0, 56, .inl f1)), (t2, .inl (K 0, 6, .inl f2))]) (hS : va_S A s.heap H locs) (ls : Array Slot) (hl : lv_has ls 6 [(0, .ref p0), (2, .int x)]), W p l e ({ frames := 2, cells := 0, slots := 0, locals := 51 }) s m (([.ref p0, .ref t0, .int x] : List Value).toArray) below meth c H locs 0 0 Q (F0 m 73 ls []) := by
        intro H locs hP hD hS ls hl
        refine lv_iload_n hx hb dX4_swapped_73 rfl (lv_at hl 1 rfl) ?_
        refine lv_iconst (v := 0) hx hb dX4_swapped_74 (by decide) ?_
        refine lv_bipush (v := 7) hx hb dX4_swapped_75 (by decide) ?_
        refine pci (va_runSN (As := [.int x, .int 0, .int 7]) (rest := []) ⟨hx, hb, hml, hown, hts⟩ (w_within l D K x.toInt 0 7 x 0 7 H.size rfl (show (0 : Int32).toInt = 0 from rfl) (show (7 : Int32).toInt = 7 from rfl)) ⟨va_cnB 3 hts gX4_swapped_X11_within_n41 rfl rfl rfl (nst_at hN 85 rfl) (hts (.initialized RX11) (List.mem_cons_of_mem _ (List.mem_append_left _ (List.mem_append_left _ (List.mem_of_getElem? (i := 21) rfl))))) (by decide +kernel) ⟨Nat.le_of_ble_eq_true rfl, Nat.le_of_ble_eq_true rfl⟩, (hts (.static yX11_within) (List.mem_cons_of_mem _ (List.mem_append_left _ (List.mem_append_left _ (List.mem_of_getElem? (i := 20) rfl))))), trivial⟩ (mkS hK hN (va_P.nil) (va_D.nil (A := fun _ => True))) rfl rfl hl.1 rfl (lv_room (Nat.le_of_ble_eq_true rfl)) dX4_swapped_77 ⟨Nat.le_of_ble_eq_true rfl, Nat.le_of_ble_eq_true rfl⟩) (fun r_2331 hw => ?_)
        obtain ⟨hw, -⟩ := hw
        rcases hw with ⟨rfl, h_2332, h_2333⟩ | ⟨rfl, h_2334⟩
        · refine lv_if_eq (tgt := 92) hx hb dX4_swapped_80 (by decide) (fun c_2335 => absurd c_2335 (by decide)) (fun c_2335 => ?_)
          refine lv_aload_n hx hb dX4_swapped_83 rfl (lv_at hl 0 rfl) ?_
          refine va_get (ci := 4) (v := .ref p1) (C := RX4) (T := TX4) (N := 5) hx hb hts hw4 hown hK hP 0 rfl rfl 0 (by decide) (hts (.fieldLink RX4 9 "SmokeTune$Paper" "dinners" "[I") (List.mem_cons_of_mem _ (List.mem_append_left _ (List.mem_append_left _ (List.mem_of_getElem? (i := 1) rfl))))) (fun _ h9 => h9) rfl dX4_swapped_84 ?_
          refine lv_iload_n hx hb dX4_swapped_87 rfl (lv_at hl 1 rfl) ?_
          refine va_iald hx hb hK hP 1 0 rfl rfl (i_in rfl (by omega)) dX4_swapped_88 ?_
          refine lv_topi (fun x_2336 ex_2336 => ?_)
          refine lv_goto (tgt := 93) hx hb dX4_swapped_89 (by decide) ?_
          rw [← hQ]
          have hP9 := hP.sub (ws' := [(p0, .inr (4, [.ref p1, .ref p2, .ref p3, .ref p4, .ref p5])), (p1, .inl (K 0, 8, .inl f_2043)), (p2, .inl (K 0, 8, .inl f_2044)), (t0, .inr (9, [.ref t1, k_1, .ref t2, k_3, .int n, k_5, k_6, k_7, k_8, .int ho])), (t1, .inl (K 0, 56, .inl f1)), (t2, .inl (K 0, 6, .inl f2))]) [0, 1, 2, 3, 4, 5] rfl
          have hD9 := hD.sub (ws' := [(p0, .inr (4, [.ref p1, .ref p2, .ref p3, .ref p4, .ref p5])), (p1, .inl (K 0, 8, .inl f_2043)), (p2, .inl (K 0, 8, .inl f_2044)), (t0, .inr (9, [.ref t1, k_1, .ref t2, k_3, .int n, k_5, k_6, k_7, k_8, .int ho])), (t1, .inl (K 0, 56, .inl f1)), (t2, .inl (K 0, 6, .inl f2))]) [0, 1, 2, 3, 4, 5] (by decide) rfl
          exact W.iret (v := x_2336) hx hb hr (fun t ht hW => ⟨⟨x_2336, ((fun _ => 0, fun i => match i with | 0 => f_2043 | _ => f_2044, fun _ => fun _ => 0, fun _ => 0, fun _ => 0, fun _ => fun _ => none) : Su), rfl, ⟨hf_2044_0, trivial⟩, (⟨by rw [ht]; exact hP9, hD9⟩ : Wd D A _ t)⟩, hS.F ht⟩) hS.2.2 dX4_swapped_93
        · refine lv_if_eq (tgt := 92) hx hb dX4_swapped_80 (by decide) (fun c_2337 => ?_) (fun c_2337 => absurd (by decide) c_2337)
          refine lv_iconst (v := (-1)) hx hb dX4_swapped_92 (by decide) ?_
          rw [← hQ]
          have hP9 := hP.sub (ws' := [(p0, .inr (4, [.ref p1, .ref p2, .ref p3, .ref p4, .ref p5])), (p1, .inl (K 0, 8, .inl f_2043)), (p2, .inl (K 0, 8, .inl f_2044)), (t0, .inr (9, [.ref t1, k_1, .ref t2, k_3, .int n, k_5, k_6, k_7, k_8, .int ho])), (t1, .inl (K 0, 56, .inl f1)), (t2, .inl (K 0, 6, .inl f2))]) [0, 1, 2, 3, 4, 5] rfl
          have hD9 := hD.sub (ws' := [(p0, .inr (4, [.ref p1, .ref p2, .ref p3, .ref p4, .ref p5])), (p1, .inl (K 0, 8, .inl f_2043)), (p2, .inl (K 0, 8, .inl f_2044)), (t0, .inr (9, [.ref t1, k_1, .ref t2, k_3, .int n, k_5, k_6, k_7, k_8, .int ho])), (t1, .inl (K 0, 56, .inl f1)), (t2, .inl (K 0, 6, .inl f2))]) [0, 1, 2, 3, 4, 5] (by decide) rfl
          exact W.iret (v := (-1)) hx hb hr (fun t ht hW => ⟨⟨(-1), ((fun _ => 0, fun i => match i with | 0 => f_2043 | _ => f_2044, fun _ => fun _ => 0, fun _ => 0, fun _ => 0, fun _ => fun _ => none) : Su), rfl, ⟨hf_2044_0, trivial⟩, (⟨by rw [ht]; exact hP9, hD9⟩ : Wd D A _ t)⟩, hS.F ht⟩) hS.2.2 dX4_swapped_93
      refine lv_icmp_ge (tgt := 73) hx hb dX4_swapped_16 (by decide) (fun c_2338 => ?_) (fun c_2338 => ?_)
      · have c_2338i := i_le (x := 8) (y := v_2041.toInt) rfl rfl c_2338
        exact j_2330   _ _ hP hD hS ls (lv_sub hl [2, 4] rfl)
      · have c_2338i := i_nle (x := 8) (y := v_2041.toInt) rfl rfl c_2338
        refine lv_iload_n hx hb dX4_swapped_19 rfl (lv_at hl 1 rfl) ?_
        refine lv_if_eq (tgt := 73) hx hb dX4_swapped_20 (by decide) (fun c_2339 => ?_) (fun c_2339 => ?_)
        · have c_2339i := i_eq (x := v_2042.toInt) (y := 0) rfl rfl c_2339
          exact j_2330   _ _ hP hD hS ls (lv_sub hl [2, 4] rfl)
        · have c_2339i := i_ne (x := v_2042.toInt) (y := 0) rfl rfl c_2339
          refine lv_iconst (v := 0) hx hb dX4_swapped_23 (by decide) ?_
          refine lv_istore (lv' := [(5, .int 0), (4, .int v_2041), (3, .int v_2042), (0, .ref p0), (1, .ref t0), (2, .int x)]) hx hb dX4_swapped_24 hl (by decide) rfl (fun ls hl => ?_)
          have lp_2379 : ∀ (nn_ : Nat) (v_2365 : Int32) (f_2366 : Nat → Int32) (hv_2365 : 0 ≤ v_2365.toInt ∧ v_2365.toInt ≤ 8) (hf_2366_0 : Rg 8 0 7 f_2366) (hn : (9 - v_2365.toInt : Int).toNat < nn_) (H : Heap) (locs : List Loc) (hP : va_P D vwCl [(p0, .inr (4, [.ref p1, .ref p2, .ref p3, .ref p4, .ref p5])), (p1, .inl (K 0, 8, .inl f_2043)), (p2, .inl (K 0, 8, .inl f_2366)), (t0, .inr (9, [.ref t1, k_1, .ref t2, k_3, .int n, k_5, k_6, k_7, k_8, .int ho])), (t1, .inl (K 0, 56, .inl f1)), (t2, .inl (K 0, 6, .inl f2))] H) (hD : va_D A [(p0, .inr (4, [.ref p1, .ref p2, .ref p3, .ref p4, .ref p5])), (p1, .inl (K 0, 8, .inl f_2043)), (p2, .inl (K 0, 8, .inl f_2366)), (t0, .inr (9, [.ref t1, k_1, .ref t2, k_3, .int n, k_5, k_6, k_7, k_8, .int ho])), (t1, .inl (K 0, 56, .inl f1)), (t2, .inl (K 0, 6, .inl f2))]) (hS : va_S A s.heap H locs) (ls : Array Slot) (hl : lv_has ls 6 [(5, .int v_2365), (4, .int v_2041), (3, .int v_2042), (0, .ref p0), (1, .ref t0), (2, .int x)]), W p l e ({ frames := 2, cells := 0, slots := 0, locals := 51 }) s m (([.ref p0, .ref t0, .int x] : List Value).toArray) below meth c H locs 0 0 Q (F0 m 26 ls []) := by
            intro nn_
            induction nn_ with
            | zero =>
              intro v_2365 f_2366 hv_2365 hf_2366_0 hn H locs hP hD hS ls hl
              exact absurd hn (Nat.not_lt_zero _)
            | succ nn_ ih_2380 =>
              intro v_2365 f_2366 hv_2365 hf_2366_0 hn H locs hP hD hS ls hl
              refine lv_iload hx hb dX4_swapped_26 (lv_at hl 0 rfl) ?_
              refine lv_aload_n hx hb dX4_swapped_28 rfl (lv_at hl 4 rfl) ?_
              refine va_getN (ci := 9) (v := .int n) (C := RX9) (T := TX9) (N := 10) hx hb hts hw9 hown hK hP 3 rfl rfl 4 (by decide) (nst_use hN 106 rfl) (fun _ h9 => h9) rfl dX4_swapped_29 ?_
              refine lv_icmp_ge (tgt := 56) hx hb dX4_swapped_32 (by decide) (fun c_2381 => ?_) (fun c_2381 => ?_)
              · have c_2381i := i_le (x := n.toInt) (y := v_2365.toInt) rfl rfl c_2381
                refine lv_iload_n hx hb dX4_swapped_56 rfl (lv_at hl 2 rfl) ?_
                refine lv_aload_n hx hb dX4_swapped_57 rfl (lv_at hl 3 rfl) ?_
                refine lv_aload_n hx hb dX4_swapped_58 rfl (lv_at hl 4 rfl) ?_
                refine lv_iload_n hx hb dX4_swapped_59 rfl (lv_at hl 2 rfl) ?_
                refine kci (S := Su) (wr := []) (va_runV (As := [.ref t0, .int v_2042]) (rest := [.int v_2042]) ⟨hx, hb, hml, hown, hts⟩ (w_ring l D K p0 t0 v_2042 p1 p2 p3 p4 p5 f_2043 f_2366 t1 k_1 t2 k_3 n k_5 k_6 k_7 k_8 ho f1 f2 H.size (by first | omega | decide) hf_2366_0) (cwV 2 hts gX4_swapped_X4_ring rfl rfl rfl (by decide +kernel) ⟨Nat.le_of_ble_eq_true rfl, Nat.le_of_ble_eq_true rfl⟩) (mkV hK hN (hP.sub [0, 1, 2, 3, 4, 5] rfl) (hD.sub [0, 1, 2, 3, 4, 5] (by decide) rfl) (ci := 4) (q0 := 0) rfl rfl) rfl rfl hl.1 rfl (lv_room (Nat.le_of_ble_eq_true rfl)) dX4_swapped_60 ⟨Nat.le_of_ble_eq_true rfl, Nat.le_of_ble_eq_true rfl⟩) hP hD hS hA [0, 1, 2, 3, 4, 5] [] rfl rfl (by decide) (by decide) (fun r_2382 u_2383 H locs hw hP hD hS => ?_)
                have hP : va_P D vwCl [(p0, .inr (4, [.ref p1, .ref p2, .ref p3, .ref p4, .ref p5])), (p1, .inl (K 0, 8, .inl (u_2383.2.1 0))), (p2, .inl (K 0, 8, .inl f_2366)), (t0, .inr (9, [.ref t1, k_1, .ref t2, k_3, .int n, k_5, k_6, k_7, k_8, .int ho])), (t1, .inl (K 0, 56, .inl f1)), (t2, .inl (K 0, 6, .inl f2))] H := hP
                have hD : va_D A [(p0, .inr (4, [.ref p1, .ref p2, .ref p3, .ref p4, .ref p5])), (p1, .inl (K 0, 8, .inl (u_2383.2.1 0))), (p2, .inl (K 0, 8, .inl f_2366)), (t0, .inr (9, [.ref t1, k_1, .ref t2, k_3, .int n, k_5, k_6, k_7, k_8, .int ho])), (t1, .inl (K 0, 56, .inl f1)), (t2, .inl (K 0, 6, .inl f2))] := hD
                obtain ⟨h_2384, -⟩ := hw
                refine lv_iconst (v := (-1)) hx hb dX4_swapped_63 (by decide) ?_
                refine lv_ixor hx hb dX4_swapped_64 ?_
                refine lv_topi (fun x_2385 ex_2385 => ?_)
                refine lv_iand hx hb dX4_swapped_65 ?_
                refine lv_topi (fun x_2386 ex_2386 => ?_)
                have hx_2386 : 0 ≤ x_2386.toInt ∧ x_2386.toInt ≤ v_2042.toInt := by rw [ex_2386]; exact i_andl rfl (by omega)
                refine lv_istore_n (lv' := [(3, .int x_2386), (5, .int v_2365), (4, .int v_2041), (0, .ref p0), (1, .ref t0), (2, .int x)]) hx hb dX4_swapped_66 rfl hl (by decide) rfl (fun ls hl => ?_)
                obtain ⟨x_2387, ex_2387⟩ : ∃ y : Int32, y = v_2041 + Int32.ofInt 1 := ⟨_, rfl⟩
                have hx_2387 : x_2387.toInt = (v_2041.toInt + 1) := by rw [ex_2387]; exact i_add rfl (show (Int32.ofInt 1).toInt = 1 from rfl) (by omega)
                refine lv_iinc (v := x_2387) (lv' := [(4, .int x_2387), (3, .int x_2386), (5, .int v_2365), (0, .ref p0), (1, .ref t0), (2, .int x)]) hx hb dX4_swapped_67 hl (k := 2) rfl (by rw [ex_2387]) (by decide) rfl (fun ls hl => ?_)
                refine lv_goto (tgt := 12) hx hb dX4_swapped_70 (by decide) ?_
                exact ih_2268 x_2387 x_2386 (u_2383.2.1 0) f_2366 (by rw [hx_2387]; omega) (by omega) hf_2366_0 (by omega) _ _ hP hD hS ls (lv_sub hl [0, 1, 3, 4, 5] rfl)
              · have c_2381i := i_nle (x := n.toInt) (y := v_2365.toInt) rfl rfl c_2381
                refine lv_aload_n hx hb dX4_swapped_35 rfl (lv_at hl 3 rfl) ?_
                refine va_get (ci := 4) (v := .ref p2) (C := RX4) (T := TX4) (N := 5) hx hb hts hw4 hown hK hP 0 rfl rfl 1 (by decide) (hts (.fieldLink RX4 15 "SmokeTune$Paper" "pointed" "[I") (List.mem_cons_of_mem _ (List.mem_append_left _ (List.mem_append_left _ (List.mem_of_getElem? (i := 0) rfl))))) (fun _ h9 => h9) rfl dX4_swapped_36 ?_
                refine lv_iload hx hb dX4_swapped_39 (lv_at hl 0 rfl) ?_
                refine lv_aload_n hx hb dX4_swapped_41 rfl (lv_at hl 3 rfl) ?_
                refine lv_aload_n hx hb dX4_swapped_42 rfl (lv_at hl 4 rfl) ?_
                refine lv_iload hx hb dX4_swapped_43 (lv_at hl 0 rfl) ?_
                refine lv_iload_n hx hb dX4_swapped_45 rfl (lv_at hl 2 rfl) ?_
                refine pci (va_runV (As := [.ref t0, .int v_2365, .int v_2042]) (rest := [.int v_2365, .ref p2]) ⟨hx, hb, hml, hown, hts⟩ (w_favourite l D K p0 t0 v_2365 v_2042 p1 p2 p3 p4 p5 t1 k_1 t2 k_3 n k_5 k_6 k_7 k_8 ho f1 f2 H.size (by first | omega | decide) (by first | omega | decide)) (cwV 3 hts gX4_swapped_X4_favourite rfl rfl rfl (by decide +kernel) ⟨Nat.le_of_ble_eq_true rfl, Nat.le_of_ble_eq_true rfl⟩) (mkV hK hN (hP.sub [0, 3, 4, 5] rfl) (hD.sub [0, 3, 4, 5] (by decide) rfl) (ci := 4) (q0 := 0) rfl rfl) rfl rfl hl.1 rfl (lv_room (Nat.le_of_ble_eq_true rfl)) dX4_swapped_46 ⟨Nat.le_of_ble_eq_true rfl, Nat.le_of_ble_eq_true rfl⟩) (fun r_2388 hw => ?_)
                obtain ⟨h_2389, -⟩ := hw
                refine va_iast hx hb hK hP hD hS 2 0 rfl rfl (i_in rfl (by omega)) dX4_swapped_49 (fun H locs hP hD hS => ?_)
                generalize hf_2390 : (upd f_2366 (v_2365 : Int32).toNatClampNeg r_2388) = f_2390 at hP hD
                have hf_2390_0 : Rg 8 0 7 f_2390 := by rw [← hf_2390]; exact Rg.upd hf_2366_0 rfl (by omega)
                have hP : va_P D vwCl [(p0, .inr (4, [.ref p1, .ref p2, .ref p3, .ref p4, .ref p5])), (p1, .inl (K 0, 8, .inl f_2043)), (p2, .inl (K 0, 8, .inl f_2390)), (t0, .inr (9, [.ref t1, k_1, .ref t2, k_3, .int n, k_5, k_6, k_7, k_8, .int ho])), (t1, .inl (K 0, 56, .inl f1)), (t2, .inl (K 0, 6, .inl f2))] H := hP
                have hD : va_D A [(p0, .inr (4, [.ref p1, .ref p2, .ref p3, .ref p4, .ref p5])), (p1, .inl (K 0, 8, .inl f_2043)), (p2, .inl (K 0, 8, .inl f_2390)), (t0, .inr (9, [.ref t1, k_1, .ref t2, k_3, .int n, k_5, k_6, k_7, k_8, .int ho])), (t1, .inl (K 0, 56, .inl f1)), (t2, .inl (K 0, 6, .inl f2))] := hD
                obtain ⟨x_2391, ex_2391⟩ : ∃ y : Int32, y = v_2365 + Int32.ofInt 1 := ⟨_, rfl⟩
                have hx_2391 : x_2391.toInt = (v_2365.toInt + 1) := by rw [ex_2391]; exact i_add rfl (show (Int32.ofInt 1).toInt = 1 from rfl) (by omega)
                refine lv_iinc (v := x_2391) (lv' := [(5, .int x_2391), (4, .int v_2041), (3, .int v_2042), (0, .ref p0), (1, .ref t0), (2, .int x)]) hx hb dX4_swapped_50 hl (k := 0) rfl (by rw [ex_2391]) (by decide) rfl (fun ls hl => ?_)
                refine lv_goto (tgt := 26) hx hb dX4_swapped_53 (by decide) ?_
                exact ih_2380 x_2391 f_2390 (by rw [hx_2391]; omega) hf_2390_0 (by omega) _ _ hP hD hS ls (lv_sub hl [0, 1, 2, 3, 4, 5] rfl)
          exact lp_2379 ((9 - (0 : Int32).toInt : Int).toNat + 1) 0 f_2044 (by decide) hf_2044_0 (Nat.lt_succ_self _) _ _ hP hD hS ls (lv_sub hl [0, 1, 2, 3, 4, 5] rfl)
  exact lp_2267 ((9 - (0 : Int32).toInt : Int).toNat + 1) 0 x_1596 fd fp (by decide) (by rw [hx_1596]; omega) zfp (Nat.lt_succ_self _) _ _ hP hD hS ls (lv_sub hl [0, 1, 2, 3, 4] rfl)
set_option maxHeartbeats 4000000 in
set_option maxRecDepth 100000 in
theorem w_apart (l : Launch) (D : va_G) (K : Nat → ClassId) (x : Int32) (y : Int32) (sz : Nat) : Met l yX4_apart wsX4_apart ({ frames := 1, cells := 0, slots := 0, locals := 13 }) (va_Pc [.int x, .int y] (Pre D K [] sz)) (vp_Si (fun r : Int32 => True)) 0 0 (fun _ => False) := by
  refine Met.ofW (cc := cX4_apart) (maxL := 3) (ret := (some .int)) (by decide) rfl ?_
  intro p e s m args below meth c s₁ B hml hv
  obtain ⟨rfl, hsz, hP, hK, hD0, hN⟩ := hv
  have hx := B.exec
  have hb := B.bytes
  have hr := B.returns
  have hts := atoms_spec (ws := wsX4_apart) B.pre
  have hown : s.vm.findClass RX4 = some m.cls := findClass_of_methodNamed B.named
  have hlocks := B.notSynchronized
  subst hsz
  have hD := hD0
  have hP : va_P D vwCl [] s.heap := hP
  have hl := lv_entry [.int x, .int y] (n := 3) (Nat.le_of_ble_eq_true rfl)
  rw [lg_entry_eq]
  generalize (lg_sl [.int x, .int y] ++ List.replicate (3 - (lg_sl [.int x, .int y]).length) Slot.unset).toArray = ls at hl ⊢
  have hl : lv_has ls 3 [(0, .int x), (1, .int y)] := hl
  generalize hQ : MQ below _ _ s _ _ _ = Q
  refine lv_iload_n hx hb dX4_apart_0 rfl (lv_at hl 0 rfl) ?_
  refine lv_iload_n hx hb dX4_apart_1 rfl (lv_at hl 1 rfl) ?_
  refine lv_isub hx hb dX4_apart_2 ?_
  refine lv_topi (fun x_9 ex_9 => ?_)
  refine va_mabs hx hb (hml.trans hl.1.symm) hown (hts (.methodLink RX4 49 Lib.Math.abs.name) (List.mem_cons_of_mem _ (List.mem_of_getElem? (i := 0) rfl))) (hts (.static Lib.Math.abs.name) (List.mem_cons_of_mem _ (List.mem_of_getElem? (i := 1) rfl))) (hts (.initialized "java/lang/Math") (List.mem_cons_of_mem _ (List.mem_of_getElem? (i := 2) rfl))) (hts (.code Lib.Math.abs.name Lib.Math.abs.code 1 (some .int)) (List.mem_cons_of_mem _ (List.mem_of_getElem? (i := 3) rfl))) (Nat.le_of_ble_eq_true rfl) (Nat.le_of_ble_eq_true rfl) (Nat.le_of_ble_eq_true rfl) (Nat.le_of_ble_eq_true rfl) dX4_apart_3 ?_
  refine lv_topi (fun x_10 ex_10 => ?_)
  refine lv_istore_n (lv' := [(2, .int x_10), (0, .int x), (1, .int y)]) hx hb dX4_apart_6 rfl hl (by decide) rfl (fun ls hl => ?_)
  refine lv_iload_n hx hb dX4_apart_7 rfl (lv_at hl 0 rfl) ?_
  refine lv_bipush (v := 7) hx hb dX4_apart_8 (by decide) ?_
  refine lv_iload_n hx hb dX4_apart_10 rfl (lv_at hl 0 rfl) ?_
  refine lv_isub hx hb dX4_apart_11 ?_
  refine lv_topi (fun x_11 ex_11 => ?_)
  refine va_mmin hx hb (hml.trans hl.1.symm) hown (hts (.methodLink RX4 74 Lib.Math.min.name) (List.mem_cons_of_mem _ (List.mem_of_getElem? (i := 4) rfl))) (hts (.static Lib.Math.min.name) (List.mem_cons_of_mem _ (List.mem_of_getElem? (i := 5) rfl))) (hts (.initialized "java/lang/Math") (List.mem_cons_of_mem _ (List.mem_of_getElem? (i := 2) rfl))) (hts (.code Lib.Math.min.name Lib.Math.min.code 2 (some .int)) (List.mem_cons_of_mem _ (List.mem_of_getElem? (i := 6) rfl))) (Nat.le_of_ble_eq_true rfl) (Nat.le_of_ble_eq_true rfl) (Nat.le_of_ble_eq_true rfl) (Nat.le_of_ble_eq_true rfl) dX4_apart_12 ?_
  refine lv_topi (fun x_12 ex_12 => ?_)
  have hx_12 : (x_10.toInt ≤ x_11.toInt ∧ x_12.toInt = x_10.toInt) ∨ (x_11.toInt < x_10.toInt ∧ x_12.toInt = x_11.toInt) := by rw [ex_12]; exact i_min rfl rfl
  replace hx_12 : x_12.toInt ≤ x_10.toInt ∧ x_12.toInt ≤ x_11.toInt := by omega
  rw [← hQ]
  exact W.iret (v := x_12) hx hb hr (fun t ht hW => ⟨_, rfl, trivial, ht⟩) (fun q hq => by cases hq) dX4_apart_15
set_option maxHeartbeats 4000000 in
set_option maxRecDepth 100000 in
theorem w_nearest (l : Launch) (D : va_G) (K : Nat → ClassId) (x : Int32) (y : Int32) (sz : Nat) : Met l yX4_nearest wsX4_nearest ({ frames := 2, cells := 0, slots := 0, locals := 35 }) (va_Pc [.int x, .int y] (Pre D K [] sz)) (vp_Si (fun r : Int32 => True)) 0 0 (fun _ => False) := by
  refine Met.ofW (cc := cX4_nearest) (maxL := 5) (ret := (some .int)) (by decide) rfl ?_
  intro p e s m args below meth c s₁ B hml hv
  obtain ⟨rfl, hsz, hP, hK, hD0, hN⟩ := hv
  have hx := B.exec
  have hb := B.bytes
  have hr := B.returns
  have hts := atoms_spec (ws := wsX4_nearest) B.pre
  have hown : s.vm.findClass RX4 = some m.cls := findClass_of_methodNamed B.named
  have hlocks := B.notSynchronized
  subst hsz
  have hD := hD0
  have hP : va_P D vwCl [] s.heap := hP
  have hl := lv_entry [.int x, .int y] (n := 5) (Nat.le_of_ble_eq_true rfl)
  rw [lg_entry_eq]
  generalize (lg_sl [.int x, .int y] ++ List.replicate (5 - (lg_sl [.int x, .int y]).length) Slot.unset).toArray = ls at hl ⊢
  have hl : lv_has ls 5 [(0, .int x), (1, .int y)] := hl
  generalize hQ : MQ below _ _ s _ _ _ = Q
  refine lv_iload_n hx hb dX4_nearest_0 rfl (lv_at hl 0 rfl) ?_
  refine lv_istore_n (lv' := [(2, .int x), (0, .int x), (1, .int y)]) hx hb dX4_nearest_1 rfl hl (by decide) rfl (fun ls hl => ?_)
  refine lv_bipush (v := 7) hx hb dX4_nearest_2 (by decide) ?_
  refine lv_istore_n (lv' := [(3, .int 7), (2, .int x), (0, .int x), (1, .int y)]) hx hb dX4_nearest_4 rfl hl (by decide) rfl (fun ls hl => ?_)
  refine lv_iconst (v := 0) hx hb dX4_nearest_5 (by decide) ?_
  refine lv_istore (lv' := [(4, .int 0), (3, .int 7), (2, .int x), (0, .int x), (1, .int y)]) hx hb dX4_nearest_6 hl (by decide) rfl (fun ls hl => ?_)
  have lp_364 : ∀ (nn_ : Nat) (v_326 : Int32) (v_327 : Int32) (v_328 : Int32) (hv_326 : 0 ≤ v_326.toInt ∧ v_326.toInt ≤ 7) (hn : (8 - v_326.toInt : Int).toNat < nn_) (ls : Array Slot) (hl : lv_has ls 5 [(4, .int v_326), (3, .int v_327), (2, .int v_328), (0, .int x), (1, .int y)]), W p l e ({ frames := 2, cells := 0, slots := 0, locals := 35 }) s m (([.int x, .int y] : List Value).toArray) below meth c s.heap [] 0 0 Q (F0 m 8 ls []) := by
    intro nn_
    induction nn_ with
    | zero =>
      intro v_326 v_327 v_328 hv_326 hn ls hl
      exact absurd hn (Nat.not_lt_zero _)
    | succ nn_ ih_365 =>
      intro v_326 v_327 v_328 hv_326 hn ls hl
      refine lv_iload hx hb dX4_nearest_8 (lv_at hl 0 rfl) ?_
      refine lv_bipush (v := 7) hx hb dX4_nearest_10 (by decide) ?_
      refine lv_icmp_ge (tgt := 51) hx hb dX4_nearest_12 (by decide) (fun c_366 => ?_) (fun c_366 => ?_)
      · have c_366i := i_le (x := 7) (y := v_326.toInt) rfl rfl c_366
        refine lv_iload_n hx hb dX4_nearest_51 rfl (lv_at hl 2 rfl) ?_
        rw [← hQ]
        exact W.iret (v := v_328) hx hb hr (fun t ht hW => ⟨_, rfl, trivial, ht⟩) (fun q hq => by cases hq) dX4_nearest_52
      · have c_366i := i_nle (x := 7) (y := v_326.toInt) rfl rfl c_366
        refine lv_iload_n hx hb dX4_nearest_15 rfl (lv_at hl 4 rfl) ?_
        refine lv_iload hx hb dX4_nearest_16 (lv_at hl 0 rfl) ?_
        refine lv_ishr hx hb dX4_nearest_18 ?_
        refine lv_topi (fun x_367 ex_367 => ?_)
        refine lv_iconst (v := 1) hx hb dX4_nearest_19 (by decide) ?_
        refine lv_iand hx hb dX4_nearest_20 ?_
        refine lv_topi (fun x_368 ex_368 => ?_)
        have hx_368 : 0 ≤ x_368.toInt ∧ x_368.toInt ≤ 1 := by rw [ex_368]; exact i_mask x_367 1 rfl (by decide)
        refine lv_iconst (v := 1) hx hb dX4_nearest_21 (by decide) ?_
        have j_376 : ∀ (v_373 : Int32) (v_374 : Int32) (ls : Array Slot) (hl : lv_has ls 5 [(4, .int v_326), (3, .int v_373), (2, .int v_374), (0, .int x), (1, .int y)]), W p l e ({ frames := 2, cells := 0, slots := 0, locals := 35 }) s m (([.int x, .int y] : List Value).toArray) below meth c s.heap [] 0 0 Q (F0 m 45 ls []) := by
          intro v_373 v_374 ls hl
          obtain ⟨x_377, ex_377⟩ : ∃ y : Int32, y = v_326 + Int32.ofInt 1 := ⟨_, rfl⟩
          have hx_377 : x_377.toInt = (v_326.toInt + 1) := by rw [ex_377]; exact i_add rfl (show (Int32.ofInt 1).toInt = 1 from rfl) (by omega)
          refine lv_iinc (v := x_377) (lv' := [(4, .int x_377), (3, .int v_373), (2, .int v_374), (0, .int x), (1, .int y)]) hx hb dX4_nearest_45 hl (k := 0) rfl (by rw [ex_377]) (by decide) rfl (fun ls hl => ?_)
          refine lv_goto (tgt := 8) hx hb dX4_nearest_48 (by decide) ?_
          exact ih_365 x_377 v_373 v_374 (by rw [hx_377]; omega) (by omega) ls (lv_sub hl [0, 1, 2, 3, 4] rfl)
        refine lv_icmp_ne (tgt := 45) hx hb dX4_nearest_22 (by decide) (fun c_378 => ?_) (fun c_378 => ?_)
        · have c_378i := i_ne (x := x_368.toInt) (y := 1) rfl rfl c_378
          exact j_376 v_327 v_328  ls (lv_sub hl [0, 1, 2, 3, 4] rfl)
        · have c_378i := i_eq (x := x_368.toInt) (y := 1) rfl rfl c_378
          refine lv_iload hx hb dX4_nearest_25 (lv_at hl 0 rfl) ?_
          refine lv_iload_n hx hb dX4_nearest_27 rfl (lv_at hl 3 rfl) ?_
          refine pci (va_runS (As := [.int v_326, .int x]) (rest := []) ⟨hx, hb, hml, hown, hts⟩ (w_apart l D K v_326 x s.heap.size) (va_cwS 2 hts gX4_nearest_X4_apart rfl rfl rfl (by decide +kernel) ⟨Nat.le_of_ble_eq_true rfl, Nat.le_of_ble_eq_true rfl⟩) (mkS hK hN (va_P.nil) (va_D.nil (A := fun _ => True))) rfl rfl hl.1 rfl (lv_room (Nat.le_of_ble_eq_true rfl)) dX4_nearest_28 ⟨Nat.le_of_ble_eq_true rfl, Nat.le_of_ble_eq_true rfl⟩) (fun r_379 hw => ?_)
          refine lv_iload_n hx hb dX4_nearest_31 rfl (lv_at hl 1 rfl) ?_
          refine lv_icmp_ge (tgt := 45) hx hb dX4_nearest_32 (by decide) (fun c_380 => ?_) (fun c_380 => ?_)
          · have c_380i := i_le (x := v_327.toInt) (y := r_379.toInt) rfl rfl c_380
            exact j_376 v_327 v_328  ls (lv_sub hl [0, 1, 2, 3, 4] rfl)
          · have c_380i := i_nle (x := v_327.toInt) (y := r_379.toInt) rfl rfl c_380
            refine lv_iload hx hb dX4_nearest_35 (lv_at hl 0 rfl) ?_
            refine lv_iload_n hx hb dX4_nearest_37 rfl (lv_at hl 3 rfl) ?_
            refine pci (va_runS (As := [.int v_326, .int x]) (rest := []) ⟨hx, hb, hml, hown, hts⟩ (w_apart l D K v_326 x s.heap.size) (va_cwS 2 hts gX4_nearest_X4_apart rfl rfl rfl (by decide +kernel) ⟨Nat.le_of_ble_eq_true rfl, Nat.le_of_ble_eq_true rfl⟩) (mkS hK hN (va_P.nil) (va_D.nil (A := fun _ => True))) rfl rfl hl.1 rfl (lv_room (Nat.le_of_ble_eq_true rfl)) dX4_nearest_38 ⟨Nat.le_of_ble_eq_true rfl, Nat.le_of_ble_eq_true rfl⟩) (fun r_381 hw => ?_)
            refine lv_istore_n (lv' := [(3, .int r_381), (4, .int v_326), (2, .int v_328), (0, .int x), (1, .int y)]) hx hb dX4_nearest_41 rfl hl (by decide) rfl (fun ls hl => ?_)
            refine lv_iload hx hb dX4_nearest_42 (lv_at hl 1 rfl) ?_
            refine lv_istore_n (lv' := [(2, .int v_326), (3, .int r_381), (4, .int v_326), (0, .int x), (1, .int y)]) hx hb dX4_nearest_44 rfl hl (by decide) rfl (fun ls hl => ?_)
            exact j_376 r_381 v_326  ls (lv_sub hl [2, 1, 0, 3, 4] rfl)
  exact lp_364 ((8 - (0 : Int32).toInt : Int).toNat + 1) 0 7 x (by decide) (Nat.lt_succ_self _) ls (lv_sub hl [0, 1, 2, 3, 4] rfl)
