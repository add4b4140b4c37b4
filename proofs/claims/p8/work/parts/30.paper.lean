theorem dX4_favourite_0 : decode cX4_favourite 0 = .ok (.iload_n 2, 1) := by decide +kernel
theorem dX4_favourite_1 : decode cX4_favourite 1 = .ok (.istore 4, 2) := by decide +kernel
theorem dX4_favourite_3 : decode cX4_favourite 3 = .ok (.bipush 64, 2) := by decide +kernel
theorem dX4_favourite_5 : decode cX4_favourite 5 = .ok (.istore 5, 2) := by decide +kernel
theorem dX4_favourite_7 : decode cX4_favourite 7 = .ok (.iconst 0, 1) := by decide +kernel
theorem dX4_favourite_8 : decode cX4_favourite 8 = .ok (.istore 6, 2) := by decide +kernel
theorem dX4_favourite_10 : decode cX4_favourite 10 = .ok (.iload 6, 2) := by decide +kernel
theorem dX4_favourite_12 : decode cX4_favourite 12 = .ok (.aload_n 1, 1) := by decide +kernel
theorem dX4_favourite_13 : decode cX4_favourite 13 = .ok (.getfield 27, 3) := by decide +kernel
theorem dX4_favourite_16 : decode cX4_favourite 16 = .ok (.if_icmp .ge 63, 3) := by decide +kernel
theorem dX4_favourite_19 : decode cX4_favourite 19 = .ok (.aload_n 1, 1) := by decide +kernel
theorem dX4_favourite_20 : decode cX4_favourite 20 = .ok (.iload 6, 2) := by decide +kernel
theorem dX4_favourite_22 : decode cX4_favourite 22 = .ok (.iconst 3, 1) := by decide +kernel
theorem dX4_favourite_23 : decode cX4_favourite 23 = .ok (.invokevirtual 45, 3) := by decide +kernel
theorem dX4_favourite_26 : decode cX4_favourite 26 = .ok (.istore 7, 2) := by decide +kernel
theorem dX4_favourite_28 : decode cX4_favourite 28 = .ok (.iload 7, 2) := by decide +kernel
theorem dX4_favourite_30 : decode cX4_favourite 30 = .ok (.aload_n 1, 1) := by decide +kernel
theorem dX4_favourite_31 : decode cX4_favourite 31 = .ok (.iload_n 2, 1) := by decide +kernel
theorem dX4_favourite_32 : decode cX4_favourite 32 = .ok (.iconst 4, 1) := by decide +kernel
theorem dX4_favourite_33 : decode cX4_favourite 33 = .ok (.invokevirtual 45, 3) := by decide +kernel
theorem dX4_favourite_36 : decode cX4_favourite 36 = .ok (.isub, 1) := by decide +kernel
theorem dX4_favourite_37 : decode cX4_favourite 37 = .ok (.invokestatic 49, 3) := by decide +kernel
theorem dX4_favourite_40 : decode cX4_favourite 40 = .ok (.bipush 8, 2) := by decide +kernel
theorem dX4_favourite_42 : decode cX4_favourite 42 = .ok (.imul, 1) := by decide +kernel
theorem dX4_favourite_43 : decode cX4_favourite 43 = .ok (.iload 7, 2) := by decide +kernel
theorem dX4_favourite_45 : decode cX4_favourite 45 = .ok (.iadd, 1) := by decide +kernel
theorem dX4_favourite_46 : decode cX4_favourite 46 = .ok (.istore 8, 2) := by decide +kernel
theorem dX4_favourite_48 : decode cX4_favourite 48 = .ok (.iload_n 3, 1) := by decide +kernel
theorem dX4_favourite_49 : decode cX4_favourite 49 = .ok (.iload 6, 2) := by decide +kernel
theorem dX4_favourite_51 : decode cX4_favourite 51 = .ok (.ishr, 1) := by decide +kernel
theorem dX4_favourite_52 : decode cX4_favourite 52 = .ok (.iconst 1, 1) := by decide +kernel
theorem dX4_favourite_53 : decode cX4_favourite 53 = .ok (.iand, 1) := by decide +kernel
theorem dX4_favourite_54 : decode cX4_favourite 54 = .ok (.iconst 1, 1) := by decide +kernel
theorem dX4_favourite_55 : decode cX4_favourite 55 = .ok (.if_icmp .ne 18, 3) := by decide +kernel
theorem dX4_favourite_58 : decode cX4_favourite 58 = .ok (.iload 8, 2) := by decide +kernel
theorem dX4_favourite_60 : decode cX4_favourite 60 = .ok (.iload 5, 2) := by decide +kernel
theorem dX4_favourite_62 : decode cX4_favourite 62 = .ok (.if_icmp .ge 11, 3) := by decide +kernel
theorem dX4_favourite_65 : decode cX4_favourite 65 = .ok (.iload 8, 2) := by decide +kernel
theorem dX4_favourite_67 : decode cX4_favourite 67 = .ok (.istore 5, 2) := by decide +kernel
theorem dX4_favourite_69 : decode cX4_favourite 69 = .ok (.iload 6, 2) := by decide +kernel
theorem dX4_favourite_71 : decode cX4_favourite 71 = .ok (.istore 4, 2) := by decide +kernel
theorem dX4_favourite_73 : decode cX4_favourite 73 = .ok (.iinc 6 1, 3) := by decide +kernel
theorem dX4_favourite_76 : decode cX4_favourite 76 = .ok (.goto (-66), 3) := by decide +kernel
theorem dX4_favourite_79 : decode cX4_favourite 79 = .ok (.iload 4, 2) := by decide +kernel
theorem dX4_favourite_81 : decode cX4_favourite 81 = .ok (.ireturn, 1) := by decide +kernel
theorem dX4_ring_0 : decode cX4_ring 0 = .ok (.iconst 0, 1) := by decide +kernel
theorem dX4_ring_1 : decode cX4_ring 1 = .ok (.istore_n 3, 1) := by decide +kernel
theorem dX4_ring_2 : decode cX4_ring 2 = .ok (.iload_n 3, 1) := by decide +kernel
theorem dX4_ring_3 : decode cX4_ring 3 = .ok (.aload_n 1, 1) := by decide +kernel
theorem dX4_ring_4 : decode cX4_ring 4 = .ok (.getfield 27, 3) := by decide +kernel
theorem dX4_ring_7 : decode cX4_ring 7 = .ok (.iconst 1, 1) := by decide +kernel
theorem dX4_ring_8 : decode cX4_ring 8 = .ok (.isub, 1) := by decide +kernel
theorem dX4_ring_9 : decode cX4_ring 9 = .ok (.if_icmp .ge 17, 3) := by decide +kernel
theorem dX4_ring_12 : decode cX4_ring 12 = .ok (.iload_n 2, 1) := by decide +kernel
theorem dX4_ring_13 : decode cX4_ring 13 = .ok (.iload_n 3, 1) := by decide +kernel
theorem dX4_ring_14 : decode cX4_ring 14 = .ok (.ishr, 1) := by decide +kernel
theorem dX4_ring_15 : decode cX4_ring 15 = .ok (.iconst 1, 1) := by decide +kernel
theorem dX4_ring_16 : decode cX4_ring 16 = .ok (.iand, 1) := by decide +kernel
theorem dX4_ring_17 : decode cX4_ring 17 = .ok (.ifCond .ne 9, 3) := by decide +kernel
theorem dX4_ring_20 : decode cX4_ring 20 = .ok (.iinc 3 1, 3) := by decide +kernel
theorem dX4_ring_23 : decode cX4_ring 23 = .ok (.goto (-21), 3) := by decide +kernel
theorem dX4_ring_26 : decode cX4_ring 26 = .ok (.iconst 0, 1) := by decide +kernel
theorem dX4_ring_27 : decode cX4_ring 27 = .ok (.istore 4, 2) := by decide +kernel
theorem dX4_ring_29 : decode cX4_ring 29 = .ok (.iload 4, 2) := by decide +kernel
theorem dX4_ring_31 : decode cX4_ring 31 = .ok (.bipush 8, 2) := by decide +kernel
theorem dX4_ring_33 : decode cX4_ring 33 = .ok (.if_icmp .ge 16, 3) := by decide +kernel
theorem dX4_ring_36 : decode cX4_ring 36 = .ok (.aload_n 0, 1) := by decide +kernel
theorem dX4_ring_37 : decode cX4_ring 37 = .ok (.getfield 15, 3) := by decide +kernel
theorem dX4_ring_40 : decode cX4_ring 40 = .ok (.iload_n 3, 1) := by decide +kernel
theorem dX4_ring_41 : decode cX4_ring 41 = .ok (.iaload, 1) := by decide +kernel
theorem dX4_ring_42 : decode cX4_ring 42 = .ok (.istore_n 3, 1) := by decide +kernel
theorem dX4_ring_43 : decode cX4_ring 43 = .ok (.iinc 4 1, 3) := by decide +kernel
theorem dX4_ring_46 : decode cX4_ring 46 = .ok (.goto (-17), 3) := by decide +kernel
theorem dX4_ring_49 : decode cX4_ring 49 = .ok (.iconst 0, 1) := by decide +kernel
theorem dX4_ring_50 : decode cX4_ring 50 = .ok (.istore 4, 2) := by decide +kernel
theorem dX4_ring_52 : decode cX4_ring 52 = .ok (.iconst 0, 1) := by decide +kernel
theorem dX4_ring_53 : decode cX4_ring 53 = .ok (.istore 5, 2) := by decide +kernel
theorem dX4_ring_55 : decode cX4_ring 55 = .ok (.iload 5, 2) := by decide +kernel
theorem dX4_ring_57 : decode cX4_ring 57 = .ok (.bipush 8, 2) := by decide +kernel
theorem dX4_ring_59 : decode cX4_ring 59 = .ok (.if_icmp .ge 50, 3) := by decide +kernel
theorem dX4_ring_62 : decode cX4_ring 62 = .ok (.iload 4, 2) := by decide +kernel
theorem dX4_ring_64 : decode cX4_ring 64 = .ok (.iload_n 3, 1) := by decide +kernel
theorem dX4_ring_65 : decode cX4_ring 65 = .ok (.ishr, 1) := by decide +kernel
theorem dX4_ring_66 : decode cX4_ring 66 = .ok (.iconst 1, 1) := by decide +kernel
theorem dX4_ring_67 : decode cX4_ring 67 = .ok (.iand, 1) := by decide +kernel
theorem dX4_ring_68 : decode cX4_ring 68 = .ok (.ifCond .ne 41, 3) := by decide +kernel
theorem dX4_ring_71 : decode cX4_ring 71 = .ok (.iload 4, 2) := by decide +kernel
theorem dX4_ring_73 : decode cX4_ring 73 = .ok (.iconst 1, 1) := by decide +kernel
theorem dX4_ring_74 : decode cX4_ring 74 = .ok (.iload_n 3, 1) := by decide +kernel
theorem dX4_ring_75 : decode cX4_ring 75 = .ok (.ishl, 1) := by decide +kernel
theorem dX4_ring_76 : decode cX4_ring 76 = .ok (.ior, 1) := by decide +kernel
theorem dX4_ring_77 : decode cX4_ring 77 = .ok (.istore 4, 2) := by decide +kernel
theorem dX4_ring_79 : decode cX4_ring 79 = .ok (.aload_n 0, 1) := by decide +kernel
theorem dX4_ring_80 : decode cX4_ring 80 = .ok (.getfield 9, 3) := by decide +kernel
theorem dX4_ring_83 : decode cX4_ring 83 = .ok (.iload_n 3, 1) := by decide +kernel
theorem dX4_ring_84 : decode cX4_ring 84 = .ok (.aload_n 1, 1) := by decide +kernel
theorem dX4_ring_85 : decode cX4_ring 85 = .ok (.aload_n 0, 1) := by decide +kernel
theorem dX4_ring_86 : decode cX4_ring 86 = .ok (.getfield 15, 3) := by decide +kernel
theorem dX4_ring_89 : decode cX4_ring 89 = .ok (.iload_n 3, 1) := by decide +kernel
theorem dX4_ring_90 : decode cX4_ring 90 = .ok (.iaload, 1) := by decide +kernel
theorem dX4_ring_91 : decode cX4_ring 91 = .ok (.iconst 3, 1) := by decide +kernel
theorem dX4_ring_92 : decode cX4_ring 92 = .ok (.invokevirtual 45, 3) := by decide +kernel
theorem dX4_ring_95 : decode cX4_ring 95 = .ok (.iastore, 1) := by decide +kernel
theorem dX4_ring_96 : decode cX4_ring 96 = .ok (.aload_n 0, 1) := by decide +kernel
theorem dX4_ring_97 : decode cX4_ring 97 = .ok (.getfield 15, 3) := by decide +kernel
theorem dX4_ring_100 : decode cX4_ring 100 = .ok (.iload_n 3, 1) := by decide +kernel
theorem dX4_ring_101 : decode cX4_ring 101 = .ok (.iaload, 1) := by decide +kernel
theorem dX4_ring_102 : decode cX4_ring 102 = .ok (.istore_n 3, 1) := by decide +kernel
theorem dX4_ring_103 : decode cX4_ring 103 = .ok (.iinc 5 1, 3) := by decide +kernel
theorem dX4_ring_106 : decode cX4_ring 106 = .ok (.goto (-51), 3) := by decide +kernel
theorem dX4_ring_109 : decode cX4_ring 109 = .ok (.iload 4, 2) := by decide +kernel
theorem dX4_ring_111 : decode cX4_ring 111 = .ok (.ireturn, 1) := by decide +kernel
theorem dX4_swapped_0 : decode cX4_swapped 0 = .ok (.iconst 1, 1) := by decide +kernel
theorem dX4_swapped_1 : decode cX4_swapped 1 = .ok (.aload_n 1, 1) := by decide +kernel
theorem dX4_swapped_2 : decode cX4_swapped 2 = .ok (.getfield 27, 3) := by decide +kernel
theorem dX4_swapped_5 : decode cX4_swapped 5 = .ok (.ishl, 1) := by decide +kernel
theorem dX4_swapped_6 : decode cX4_swapped 6 = .ok (.iconst 1, 1) := by decide +kernel
theorem dX4_swapped_7 : decode cX4_swapped 7 = .ok (.isub, 1) := by decide +kernel
theorem dX4_swapped_8 : decode cX4_swapped 8 = .ok (.istore_n 3, 1) := by decide +kernel
theorem dX4_swapped_9 : decode cX4_swapped 9 = .ok (.iconst 0, 1) := by decide +kernel
theorem dX4_swapped_10 : decode cX4_swapped 10 = .ok (.istore 4, 2) := by decide +kernel
theorem dX4_swapped_12 : decode cX4_swapped 12 = .ok (.iload 4, 2) := by decide +kernel
theorem dX4_swapped_14 : decode cX4_swapped 14 = .ok (.bipush 8, 2) := by decide +kernel
theorem dX4_swapped_16 : decode cX4_swapped 16 = .ok (.if_icmp .ge 57, 3) := by decide +kernel
theorem dX4_swapped_19 : decode cX4_swapped 19 = .ok (.iload_n 3, 1) := by decide +kernel
theorem dX4_swapped_20 : decode cX4_swapped 20 = .ok (.ifCond .eq 53, 3) := by decide +kernel
theorem dX4_swapped_23 : decode cX4_swapped 23 = .ok (.iconst 0, 1) := by decide +kernel
theorem dX4_swapped_24 : decode cX4_swapped 24 = .ok (.istore 5, 2) := by decide +kernel
theorem dX4_swapped_26 : decode cX4_swapped 26 = .ok (.iload 5, 2) := by decide +kernel
theorem dX4_swapped_28 : decode cX4_swapped 28 = .ok (.aload_n 1, 1) := by decide +kernel
theorem dX4_swapped_29 : decode cX4_swapped 29 = .ok (.getfield 27, 3) := by decide +kernel
theorem dX4_swapped_32 : decode cX4_swapped 32 = .ok (.if_icmp .ge 24, 3) := by decide +kernel
theorem dX4_swapped_35 : decode cX4_swapped 35 = .ok (.aload_n 0, 1) := by decide +kernel
theorem dX4_swapped_36 : decode cX4_swapped 36 = .ok (.getfield 15, 3) := by decide +kernel
theorem dX4_swapped_39 : decode cX4_swapped 39 = .ok (.iload 5, 2) := by decide +kernel
theorem dX4_swapped_41 : decode cX4_swapped 41 = .ok (.aload_n 0, 1) := by decide +kernel
theorem dX4_swapped_42 : decode cX4_swapped 42 = .ok (.aload_n 1, 1) := by decide +kernel
theorem dX4_swapped_43 : decode cX4_swapped 43 = .ok (.iload 5, 2) := by decide +kernel
theorem dX4_swapped_45 : decode cX4_swapped 45 = .ok (.iload_n 3, 1) := by decide +kernel
theorem dX4_swapped_46 : decode cX4_swapped 46 = .ok (.invokevirtual 33, 3) := by decide +kernel
theorem dX4_swapped_49 : decode cX4_swapped 49 = .ok (.iastore, 1) := by decide +kernel
theorem dX4_swapped_50 : decode cX4_swapped 50 = .ok (.iinc 5 1, 3) := by decide +kernel
theorem dX4_swapped_53 : decode cX4_swapped 53 = .ok (.goto (-27), 3) := by decide +kernel
theorem dX4_swapped_56 : decode cX4_swapped 56 = .ok (.iload_n 3, 1) := by decide +kernel
theorem dX4_swapped_57 : decode cX4_swapped 57 = .ok (.aload_n 0, 1) := by decide +kernel
theorem dX4_swapped_58 : decode cX4_swapped 58 = .ok (.aload_n 1, 1) := by decide +kernel
theorem dX4_swapped_59 : decode cX4_swapped 59 = .ok (.iload_n 3, 1) := by decide +kernel
theorem dX4_swapped_60 : decode cX4_swapped 60 = .ok (.invokevirtual 37, 3) := by decide +kernel
theorem dX4_swapped_63 : decode cX4_swapped 63 = .ok (.iconst (-1), 1) := by decide +kernel
theorem dX4_swapped_64 : decode cX4_swapped 64 = .ok (.ixor, 1) := by decide +kernel
theorem dX4_swapped_65 : decode cX4_swapped 65 = .ok (.iand, 1) := by decide +kernel
theorem dX4_swapped_66 : decode cX4_swapped 66 = .ok (.istore_n 3, 1) := by decide +kernel
theorem dX4_swapped_67 : decode cX4_swapped 67 = .ok (.iinc 4 1, 3) := by decide +kernel
theorem dX4_swapped_70 : decode cX4_swapped 70 = .ok (.goto (-58), 3) := by decide +kernel
theorem dX4_swapped_73 : decode cX4_swapped 73 = .ok (.iload_n 2, 1) := by decide +kernel
theorem dX4_swapped_74 : decode cX4_swapped 74 = .ok (.iconst 0, 1) := by decide +kernel
theorem dX4_swapped_75 : decode cX4_swapped 75 = .ok (.bipush 7, 2) := by decide +kernel
theorem dX4_swapped_77 : decode cX4_swapped 77 = .ok (.invokestatic 41, 3) := by decide +kernel
theorem dX4_swapped_80 : decode cX4_swapped 80 = .ok (.ifCond .eq 12, 3) := by decide +kernel
theorem dX4_swapped_83 : decode cX4_swapped 83 = .ok (.aload_n 0, 1) := by decide +kernel
theorem dX4_swapped_84 : decode cX4_swapped 84 = .ok (.getfield 9, 3) := by decide +kernel
theorem dX4_swapped_87 : decode cX4_swapped 87 = .ok (.iload_n 2, 1) := by decide +kernel
theorem dX4_swapped_88 : decode cX4_swapped 88 = .ok (.iaload, 1) := by decide +kernel
theorem dX4_swapped_89 : decode cX4_swapped 89 = .ok (.goto 4, 3) := by decide +kernel
theorem dX4_swapped_93 : decode cX4_swapped 93 = .ok (.ireturn, 1) := by decide +kernel
theorem dX4_swapped_92 : decode cX4_swapped 92 = .ok (.iconst (-1), 1) := by decide +kernel
theorem dX4_apart_0 : decode cX4_apart 0 = .ok (.iload_n 0, 1) := by decide +kernel
theorem dX4_apart_1 : decode cX4_apart 1 = .ok (.iload_n 1, 1) := by decide +kernel
theorem dX4_apart_2 : decode cX4_apart 2 = .ok (.isub, 1) := by decide +kernel
theorem dX4_apart_3 : decode cX4_apart 3 = .ok (.invokestatic 49, 3) := by decide +kernel
theorem dX4_apart_6 : decode cX4_apart 6 = .ok (.istore_n 2, 1) := by decide +kernel
theorem dX4_apart_7 : decode cX4_apart 7 = .ok (.iload_n 2, 1) := by decide +kernel
theorem dX4_apart_8 : decode cX4_apart 8 = .ok (.bipush 7, 2) := by decide +kernel
theorem dX4_apart_10 : decode cX4_apart 10 = .ok (.iload_n 2, 1) := by decide +kernel
theorem dX4_apart_11 : decode cX4_apart 11 = .ok (.isub, 1) := by decide +kernel
theorem dX4_apart_12 : decode cX4_apart 12 = .ok (.invokestatic 74, 3) := by decide +kernel
theorem dX4_apart_15 : decode cX4_apart 15 = .ok (.ireturn, 1) := by decide +kernel
theorem dX4_nearest_0 : decode cX4_nearest 0 = .ok (.iload_n 0, 1) := by decide +kernel
theorem dX4_nearest_1 : decode cX4_nearest 1 = .ok (.istore_n 2, 1) := by decide +kernel
theorem dX4_nearest_2 : decode cX4_nearest 2 = .ok (.bipush 7, 2) := by decide +kernel
theorem dX4_nearest_4 : decode cX4_nearest 4 = .ok (.istore_n 3, 1) := by decide +kernel
theorem dX4_nearest_5 : decode cX4_nearest 5 = .ok (.iconst 0, 1) := by decide +kernel
theorem dX4_nearest_6 : decode cX4_nearest 6 = .ok (.istore 4, 2) := by decide +kernel
theorem dX4_nearest_8 : decode cX4_nearest 8 = .ok (.iload 4, 2) := by decide +kernel
theorem dX4_nearest_10 : decode cX4_nearest 10 = .ok (.bipush 7, 2) := by decide +kernel
theorem dX4_nearest_12 : decode cX4_nearest 12 = .ok (.if_icmp .ge 39, 3) := by decide +kernel
theorem dX4_nearest_15 : decode cX4_nearest 15 = .ok (.iload_n 1, 1) := by decide +kernel
theorem dX4_nearest_16 : decode cX4_nearest 16 = .ok (.iload 4, 2) := by decide +kernel
theorem dX4_nearest_18 : decode cX4_nearest 18 = .ok (.ishr, 1) := by decide +kernel
theorem dX4_nearest_19 : decode cX4_nearest 19 = .ok (.iconst 1, 1) := by decide +kernel
theorem dX4_nearest_20 : decode cX4_nearest 20 = .ok (.iand, 1) := by decide +kernel
theorem dX4_nearest_21 : decode cX4_nearest 21 = .ok (.iconst 1, 1) := by decide +kernel
theorem dX4_nearest_22 : decode cX4_nearest 22 = .ok (.if_icmp .ne 23, 3) := by decide +kernel
theorem dX4_nearest_25 : decode cX4_nearest 25 = .ok (.iload 4, 2) := by decide +kernel
theorem dX4_nearest_27 : decode cX4_nearest 27 = .ok (.iload_n 0, 1) := by decide +kernel
theorem dX4_nearest_28 : decode cX4_nearest 28 = .ok (.invokestatic 71, 3) := by decide +kernel
theorem dX4_nearest_31 : decode cX4_nearest 31 = .ok (.iload_n 3, 1) := by decide +kernel
theorem dX4_nearest_32 : decode cX4_nearest 32 = .ok (.if_icmp .ge 13, 3) := by decide +kernel
theorem dX4_nearest_35 : decode cX4_nearest 35 = .ok (.iload 4, 2) := by decide +kernel
theorem dX4_nearest_37 : decode cX4_nearest 37 = .ok (.iload_n 0, 1) := by decide +kernel
theorem dX4_nearest_38 : decode cX4_nearest 38 = .ok (.invokestatic 71, 3) := by decide +kernel
theorem dX4_nearest_41 : decode cX4_nearest 41 = .ok (.istore_n 3, 1) := by decide +kernel
theorem dX4_nearest_42 : decode cX4_nearest 42 = .ok (.iload 4, 2) := by decide +kernel
theorem dX4_nearest_44 : decode cX4_nearest 44 = .ok (.istore_n 2, 1) := by decide +kernel
theorem dX4_nearest_45 : decode cX4_nearest 45 = .ok (.iinc 4 1, 3) := by decide +kernel
theorem dX4_nearest_48 : decode cX4_nearest 48 = .ok (.goto (-40), 3) := by decide +kernel
theorem dX4_nearest_51 : decode cX4_nearest 51 = .ok (.iload_n 2, 1) := by decide +kernel
theorem dX4_nearest_52 : decode cX4_nearest 52 = .ok (.ireturn, 1) := by decide +kernel
theorem dX4_fill_0 : decode cX4_fill 0 = .ok (.iconst 0, 1) := by decide +kernel
theorem dX4_fill_1 : decode cX4_fill 1 = .ok (.istore 4, 2) := by decide +kernel
theorem dX4_fill_3 : decode cX4_fill 3 = .ok (.iconst 0, 1) := by decide +kernel
theorem dX4_fill_4 : decode cX4_fill 4 = .ok (.istore 5, 2) := by decide +kernel
theorem dX4_fill_6 : decode cX4_fill 6 = .ok (.iload 5, 2) := by decide +kernel
theorem dX4_fill_8 : decode cX4_fill 8 = .ok (.aload_n 1, 1) := by decide +kernel
theorem dX4_fill_9 : decode cX4_fill 9 = .ok (.getfield 27, 3) := by decide +kernel
theorem dX4_fill_12 : decode cX4_fill 12 = .ok (.if_icmp .ge 74, 3) := by decide +kernel
theorem dX4_fill_15 : decode cX4_fill 15 = .ok (.aload_n 0, 1) := by decide +kernel
theorem dX4_fill_16 : decode cX4_fill 16 = .ok (.getfield 21, 3) := by decide +kernel
theorem dX4_fill_19 : decode cX4_fill 19 = .ok (.iload 5, 2) := by decide +kernel
theorem dX4_fill_21 : decode cX4_fill 21 = .ok (.aload_n 1, 1) := by decide +kernel
theorem dX4_fill_22 : decode cX4_fill 22 = .ok (.iload 5, 2) := by decide +kernel
theorem dX4_fill_24 : decode cX4_fill 24 = .ok (.iconst 0, 1) := by decide +kernel
theorem dX4_fill_25 : decode cX4_fill 25 = .ok (.invokevirtual 45, 3) := by decide +kernel
theorem dX4_fill_28 : decode cX4_fill 28 = .ok (.iastore, 1) := by decide +kernel
theorem dX4_fill_29 : decode cX4_fill 29 = .ok (.aload_n 1, 1) := by decide +kernel
theorem dX4_fill_30 : decode cX4_fill 30 = .ok (.iload 5, 2) := by decide +kernel
theorem dX4_fill_32 : decode cX4_fill 32 = .ok (.iconst 1, 1) := by decide +kernel
theorem dX4_fill_33 : decode cX4_fill 33 = .ok (.invokevirtual 45, 3) := by decide +kernel
theorem dX4_fill_36 : decode cX4_fill 36 = .ok (.iload_n 2, 1) := by decide +kernel
theorem dX4_fill_37 : decode cX4_fill 37 = .ok (.if_icmp .ne 43, 3) := by decide +kernel
theorem dX4_fill_40 : decode cX4_fill 40 = .ok (.aload_n 0, 1) := by decide +kernel
theorem dX4_fill_41 : decode cX4_fill 41 = .ok (.getfield 21, 3) := by decide +kernel
theorem dX4_fill_44 : decode cX4_fill 44 = .ok (.iload 5, 2) := by decide +kernel
theorem dX4_fill_46 : decode cX4_fill 46 = .ok (.aload_n 1, 1) := by decide +kernel
theorem dX4_fill_47 : decode cX4_fill 47 = .ok (.iload 5, 2) := by decide +kernel
theorem dX4_fill_49 : decode cX4_fill 49 = .ok (.iconst 0, 1) := by decide +kernel
theorem dX4_fill_50 : decode cX4_fill 50 = .ok (.invokevirtual 45, 3) := by decide +kernel
theorem dX4_fill_53 : decode cX4_fill 53 = .ok (.iload_n 3, 1) := by decide +kernel
theorem dX4_fill_54 : decode cX4_fill 54 = .ok (.invokestatic 68, 3) := by decide +kernel
theorem dX4_fill_57 : decode cX4_fill 57 = .ok (.iastore, 1) := by decide +kernel
theorem dX4_fill_58 : decode cX4_fill 58 = .ok (.iload 4, 2) := by decide +kernel
theorem dX4_fill_60 : decode cX4_fill 60 = .ok (.aload_n 0, 1) := by decide +kernel
theorem dX4_fill_61 : decode cX4_fill 61 = .ok (.getfield 21, 3) := by decide +kernel
theorem dX4_fill_64 : decode cX4_fill 64 = .ok (.iload 5, 2) := by decide +kernel
theorem dX4_fill_66 : decode cX4_fill 66 = .ok (.iaload, 1) := by decide +kernel
theorem dX4_fill_67 : decode cX4_fill 67 = .ok (.aload_n 1, 1) := by decide +kernel
theorem dX4_fill_68 : decode cX4_fill 68 = .ok (.iload 5, 2) := by decide +kernel
theorem dX4_fill_70 : decode cX4_fill 70 = .ok (.iconst 0, 1) := by decide +kernel
theorem dX4_fill_71 : decode cX4_fill 71 = .ok (.invokevirtual 45, 3) := by decide +kernel
theorem dX4_fill_74 : decode cX4_fill 74 = .ok (.invokestatic 71, 3) := by decide +kernel
theorem dX4_fill_77 : decode cX4_fill 77 = .ok (.iadd, 1) := by decide +kernel
theorem dX4_fill_78 : decode cX4_fill 78 = .ok (.istore 4, 2) := by decide +kernel
theorem dX4_fill_80 : decode cX4_fill 80 = .ok (.iinc 5 1, 3) := by decide +kernel
theorem dX4_fill_83 : decode cX4_fill 83 = .ok (.goto (-77), 3) := by decide +kernel
theorem dX4_fill_86 : decode cX4_fill 86 = .ok (.iload 4, 2) := by decide +kernel
theorem dX4_fill_88 : decode cX4_fill 88 = .ok (.ireturn, 1) := by decide +kernel
theorem dX4_ahead_0 : decode cX4_ahead 0 = .ok (.iconst 0, 1) := by decide +kernel
theorem dX4_ahead_1 : decode cX4_ahead 1 = .ok (.istore_n 2, 1) := by decide +kernel
theorem dX4_ahead_2 : decode cX4_ahead 2 = .ok (.iload_n 2, 1) := by decide +kernel
theorem dX4_ahead_3 : decode cX4_ahead 3 = .ok (.iload_n 1, 1) := by decide +kernel
theorem dX4_ahead_4 : decode cX4_ahead 4 = .ok (.if_icmp .ge 45, 3) := by decide +kernel
theorem dX4_ahead_7 : decode cX4_ahead 7 = .ok (.aload_n 0, 1) := by decide +kernel
theorem dX4_ahead_8 : decode cX4_ahead 8 = .ok (.getfield 21, 3) := by decide +kernel
theorem dX4_ahead_11 : decode cX4_ahead 11 = .ok (.iload_n 2, 1) := by decide +kernel
theorem dX4_ahead_12 : decode cX4_ahead 12 = .ok (.iaload, 1) := by decide +kernel
theorem dX4_ahead_13 : decode cX4_ahead 13 = .ok (.aload_n 0, 1) := by decide +kernel
theorem dX4_ahead_14 : decode cX4_ahead 14 = .ok (.getfield 18, 3) := by decide +kernel
theorem dX4_ahead_17 : decode cX4_ahead 17 = .ok (.iload_n 2, 1) := by decide +kernel
theorem dX4_ahead_18 : decode cX4_ahead 18 = .ok (.iaload, 1) := by decide +kernel
theorem dX4_ahead_19 : decode cX4_ahead 19 = .ok (.if_icmp .eq 24, 3) := by decide +kernel
theorem dX4_ahead_43 : decode cX4_ahead 43 = .ok (.iinc 2 1, 3) := by decide +kernel
theorem dX4_ahead_46 : decode cX4_ahead 46 = .ok (.goto (-44), 3) := by decide +kernel
theorem dX4_ahead_49 : decode cX4_ahead 49 = .ok (.iconst 0, 1) := by decide +kernel
theorem dX4_ahead_50 : decode cX4_ahead 50 = .ok (.ireturn, 1) := by decide +kernel
theorem dX4_ahead_22 : decode cX4_ahead 22 = .ok (.aload_n 0, 1) := by decide +kernel
theorem dX4_ahead_23 : decode cX4_ahead 23 = .ok (.getfield 21, 3) := by decide +kernel
theorem dX4_ahead_26 : decode cX4_ahead 26 = .ok (.iload_n 2, 1) := by decide +kernel
theorem dX4_ahead_27 : decode cX4_ahead 27 = .ok (.iaload, 1) := by decide +kernel
theorem dX4_ahead_28 : decode cX4_ahead 28 = .ok (.aload_n 0, 1) := by decide +kernel
theorem dX4_ahead_29 : decode cX4_ahead 29 = .ok (.getfield 18, 3) := by decide +kernel
theorem dX4_ahead_32 : decode cX4_ahead 32 = .ok (.iload_n 2, 1) := by decide +kernel
theorem dX4_ahead_33 : decode cX4_ahead 33 = .ok (.iaload, 1) := by decide +kernel
theorem dX4_ahead_34 : decode cX4_ahead 34 = .ok (.if_icmp .ge 7, 3) := by decide +kernel
theorem dX4_ahead_41 : decode cX4_ahead 41 = .ok (.iconst 0, 1) := by decide +kernel
theorem dX4_ahead_42 : decode cX4_ahead 42 = .ok (.ireturn, 1) := by decide +kernel
theorem dX4_ahead_37 : decode cX4_ahead 37 = .ok (.iconst 1, 1) := by decide +kernel
theorem dX4_ahead_38 : decode cX4_ahead 38 = .ok (.goto 4, 3) := by decide +kernel
theorem dX4_retune_0 : decode cX4_retune 0 = .ok (.bipush 56, 2) := by decide +kernel
theorem dX4_retune_2 : decode cX4_retune 2 = .ok (.istore_n 3, 1) := by decide +kernel
theorem dX4_retune_3 : decode cX4_retune 3 = .ok (.iconst 1, 1) := by decide +kernel
theorem dX4_retune_4 : decode cX4_retune 4 = .ok (.istore 4, 2) := by decide +kernel
theorem dX4_retune_6 : decode cX4_retune 6 = .ok (.iload 4, 2) := by decide +kernel
theorem dX4_retune_8 : decode cX4_retune 8 = .ok (.bipush 127, 2) := by decide +kernel
theorem dX4_retune_10 : decode cX4_retune 10 = .ok (.if_icmp .gt 83, 3) := by decide +kernel
theorem dX4_retune_13 : decode cX4_retune 13 = .ok (.iload 4, 2) := by decide +kernel
theorem dX4_retune_15 : decode cX4_retune 15 = .ok (.iconst 1, 1) := by decide +kernel
theorem dX4_retune_16 : decode cX4_retune 16 = .ok (.ishl, 1) := by decide +kernel
theorem dX4_retune_17 : decode cX4_retune 17 = .ok (.iload 4, 2) := by decide +kernel
theorem dX4_retune_19 : decode cX4_retune 19 = .ok (.bipush 6, 2) := by decide +kernel
theorem dX4_retune_21 : decode cX4_retune 21 = .ok (.ishr, 1) := by decide +kernel
theorem dX4_retune_22 : decode cX4_retune 22 = .ok (.ior, 1) := by decide +kernel
theorem dX4_retune_23 : decode cX4_retune 23 = .ok (.bipush 127, 2) := by decide +kernel
theorem dX4_retune_25 : decode cX4_retune 25 = .ok (.iand, 1) := by decide +kernel
theorem dX4_retune_26 : decode cX4_retune 26 = .ok (.istore 5, 2) := by decide +kernel
theorem dX4_retune_28 : decode cX4_retune 28 = .ok (.iload 4, 2) := by decide +kernel
theorem dX4_retune_30 : decode cX4_retune 30 = .ok (.iload 5, 2) := by decide +kernel
theorem dX4_retune_32 : decode cX4_retune 32 = .ok (.iand, 1) := by decide +kernel
theorem dX4_retune_33 : decode cX4_retune 33 = .ok (.ifCond .ne 54, 3) := by decide +kernel
theorem dX4_retune_36 : decode cX4_retune 36 = .ok (.aload_n 0, 1) := by decide +kernel
theorem dX4_retune_37 : decode cX4_retune 37 = .ok (.aload_n 1, 1) := by decide +kernel
theorem dX4_retune_38 : decode cX4_retune 38 = .ok (.iload_n 2, 1) := by decide +kernel
theorem dX4_retune_39 : decode cX4_retune 39 = .ok (.iload 4, 2) := by decide +kernel
theorem dX4_retune_41 : decode cX4_retune 41 = .ok (.invokevirtual 55, 3) := by decide +kernel
theorem dX4_retune_44 : decode cX4_retune 44 = .ok (.istore 6, 2) := by decide +kernel
theorem dX4_retune_46 : decode cX4_retune 46 = .ok (.iload 6, 2) := by decide +kernel
theorem dX4_retune_48 : decode cX4_retune 48 = .ok (.iload_n 3, 1) := by decide +kernel
theorem dX4_retune_49 : decode cX4_retune 49 = .ok (.if_icmp .lt 20, 3) := by decide +kernel
theorem dX4_retune_52 : decode cX4_retune 52 = .ok (.iload 6, 2) := by decide +kernel
theorem dX4_retune_54 : decode cX4_retune 54 = .ok (.iload_n 3, 1) := by decide +kernel
theorem dX4_retune_55 : decode cX4_retune 55 = .ok (.if_icmp .ne 32, 3) := by decide +kernel
theorem dX4_retune_58 : decode cX4_retune 58 = .ok (.aload_n 0, 1) := by decide +kernel
theorem dX4_retune_59 : decode cX4_retune 59 = .ok (.aload_n 1, 1) := by decide +kernel
theorem dX4_retune_60 : decode cX4_retune 60 = .ok (.getfield 27, 3) := by decide +kernel
theorem dX4_retune_63 : decode cX4_retune 63 = .ok (.invokevirtual 58, 3) := by decide +kernel
theorem dX4_retune_66 : decode cX4_retune 66 = .ok (.ifCond .eq 21, 3) := by decide +kernel
theorem dX4_retune_69 : decode cX4_retune 69 = .ok (.iload 6, 2) := by decide +kernel
theorem dX4_retune_71 : decode cX4_retune 71 = .ok (.istore_n 3, 1) := by decide +kernel
theorem dX4_retune_72 : decode cX4_retune 72 = .ok (.aload_n 0, 1) := by decide +kernel
theorem dX4_retune_73 : decode cX4_retune 73 = .ok (.getfield 21, 3) := by decide +kernel
theorem dX4_retune_76 : decode cX4_retune 76 = .ok (.iconst 0, 1) := by decide +kernel
theorem dX4_retune_77 : decode cX4_retune 77 = .ok (.aload_n 0, 1) := by decide +kernel
theorem dX4_retune_78 : decode cX4_retune 78 = .ok (.getfield 18, 3) := by decide +kernel
theorem dX4_retune_81 : decode cX4_retune 81 = .ok (.iconst 0, 1) := by decide +kernel
theorem dX4_retune_82 : decode cX4_retune 82 = .ok (.bipush 8, 2) := by decide +kernel
theorem dX4_retune_84 : decode cX4_retune 84 = .ok (.invokestatic 62, 3) := by decide +kernel
theorem dX4_retune_87 : decode cX4_retune 87 = .ok (.iinc 4 1, 3) := by decide +kernel
theorem dX4_retune_90 : decode cX4_retune 90 = .ok (.goto (-84), 3) := by decide +kernel
theorem dX4_retune_93 : decode cX4_retune 93 = .ok (.iload_n 3, 1) := by decide +kernel
theorem dX4_retune_94 : decode cX4_retune 94 = .ok (.ireturn, 1) := by decide +kernel
theorem dX4_tunedNote_0 : decode cX4_tunedNote 0 = .ok (.iload_n 1, 1) := by decide +kernel
theorem dX4_tunedNote_1 : decode cX4_tunedNote 1 = .ok (.iconst 0, 1) := by decide +kernel
theorem dX4_tunedNote_2 : decode cX4_tunedNote 2 = .ok (.bipush 7, 2) := by decide +kernel
theorem dX4_tunedNote_4 : decode cX4_tunedNote 4 = .ok (.invokestatic 41, 3) := by decide +kernel
theorem dX4_tunedNote_7 : decode cX4_tunedNote 7 = .ok (.ifCond .eq 12, 3) := by decide +kernel
theorem dX4_tunedNote_10 : decode cX4_tunedNote 10 = .ok (.aload_n 0, 1) := by decide +kernel
theorem dX4_tunedNote_11 : decode cX4_tunedNote 11 = .ok (.getfield 18, 3) := by decide +kernel
theorem dX4_tunedNote_14 : decode cX4_tunedNote 14 = .ok (.iload_n 1, 1) := by decide +kernel
theorem dX4_tunedNote_15 : decode cX4_tunedNote 15 = .ok (.iaload, 1) := by decide +kernel
theorem dX4_tunedNote_16 : decode cX4_tunedNote 16 = .ok (.goto 4, 3) := by decide +kernel
theorem dX4_tunedNote_20 : decode cX4_tunedNote 20 = .ok (.ireturn, 1) := by decide +kernel
theorem dX4_tunedNote_19 : decode cX4_tunedNote 19 = .ok (.iconst (-1), 1) := by decide +kernel
theorem dX4_mapSets_0 : decode cX4_mapSets 0 = .ok (.iconst 1, 1) := by decide +kernel
theorem dX4_mapSets_1 : decode cX4_mapSets 1 = .ok (.istore_n 2, 1) := by decide +kernel
theorem dX4_mapSets_2 : decode cX4_mapSets 2 = .ok (.iconst 0, 1) := by decide +kernel
theorem dX4_mapSets_3 : decode cX4_mapSets 3 = .ok (.istore_n 3, 1) := by decide +kernel
theorem dX4_mapSets_4 : decode cX4_mapSets 4 = .ok (.iload_n 3, 1) := by decide +kernel
theorem dX4_mapSets_5 : decode cX4_mapSets 5 = .ok (.aload_n 1, 1) := by decide +kernel
theorem dX4_mapSets_6 : decode cX4_mapSets 6 = .ok (.getfield 27, 3) := by decide +kernel
theorem dX4_mapSets_9 : decode cX4_mapSets 9 = .ok (.if_icmp .ge 59, 3) := by decide +kernel
theorem dX4_mapSets_12 : decode cX4_mapSets 12 = .ok (.iload_n 3, 1) := by decide +kernel
theorem dX4_mapSets_13 : decode cX4_mapSets 13 = .ok (.bipush 8, 2) := by decide +kernel
theorem dX4_mapSets_15 : decode cX4_mapSets 15 = .ok (.if_icmp .ge 53, 3) := by decide +kernel
theorem dX4_mapSets_18 : decode cX4_mapSets 18 = .ok (.iconst 0, 1) := by decide +kernel
theorem dX4_mapSets_19 : decode cX4_mapSets 19 = .ok (.istore 4, 2) := by decide +kernel
theorem dX4_mapSets_21 : decode cX4_mapSets 21 = .ok (.iload 4, 2) := by decide +kernel
theorem dX4_mapSets_23 : decode cX4_mapSets 23 = .ok (.iload_n 2, 1) := by decide +kernel
theorem dX4_mapSets_24 : decode cX4_mapSets 24 = .ok (.if_icmp .ge 34, 3) := by decide +kernel
theorem dX4_mapSets_27 : decode cX4_mapSets 27 = .ok (.aload_n 0, 1) := by decide +kernel
theorem dX4_mapSets_28 : decode cX4_mapSets 28 = .ok (.getfield 24, 3) := by decide +kernel
theorem dX4_mapSets_31 : decode cX4_mapSets 31 = .ok (.iload_n 2, 1) := by decide +kernel
theorem dX4_mapSets_32 : decode cX4_mapSets 32 = .ok (.iload 4, 2) := by decide +kernel
theorem dX4_mapSets_34 : decode cX4_mapSets 34 = .ok (.iadd, 1) := by decide +kernel
theorem dX4_mapSets_35 : decode cX4_mapSets 35 = .ok (.aload_n 0, 1) := by decide +kernel
theorem dX4_mapSets_36 : decode cX4_mapSets 36 = .ok (.getfield 24, 3) := by decide +kernel
theorem dX4_mapSets_39 : decode cX4_mapSets 39 = .ok (.iload 4, 2) := by decide +kernel
theorem dX4_mapSets_41 : decode cX4_mapSets 41 = .ok (.iaload, 1) := by decide +kernel
theorem dX4_mapSets_42 : decode cX4_mapSets 42 = .ok (.iconst 1, 1) := by decide +kernel
theorem dX4_mapSets_43 : decode cX4_mapSets 43 = .ok (.aload_n 1, 1) := by decide +kernel
theorem dX4_mapSets_44 : decode cX4_mapSets 44 = .ok (.iload_n 3, 1) := by decide +kernel
theorem dX4_mapSets_45 : decode cX4_mapSets 45 = .ok (.iconst 0, 1) := by decide +kernel
theorem dX4_mapSets_46 : decode cX4_mapSets 46 = .ok (.invokevirtual 45, 3) := by decide +kernel
theorem dX4_mapSets_49 : decode cX4_mapSets 49 = .ok (.ishl, 1) := by decide +kernel
theorem dX4_mapSets_50 : decode cX4_mapSets 50 = .ok (.ior, 1) := by decide +kernel
theorem dX4_mapSets_51 : decode cX4_mapSets 51 = .ok (.iastore, 1) := by decide +kernel
theorem dX4_mapSets_52 : decode cX4_mapSets 52 = .ok (.iinc 4 1, 3) := by decide +kernel
theorem dX4_mapSets_55 : decode cX4_mapSets 55 = .ok (.goto (-34), 3) := by decide +kernel
theorem dX4_mapSets_58 : decode cX4_mapSets 58 = .ok (.iload_n 2, 1) := by decide +kernel
theorem dX4_mapSets_59 : decode cX4_mapSets 59 = .ok (.iconst 2, 1) := by decide +kernel
theorem dX4_mapSets_60 : decode cX4_mapSets 60 = .ok (.imul, 1) := by decide +kernel
theorem dX4_mapSets_61 : decode cX4_mapSets 61 = .ok (.istore_n 2, 1) := by decide +kernel
theorem dX4_mapSets_62 : decode cX4_mapSets 62 = .ok (.iinc 3 1, 3) := by decide +kernel
theorem dX4_mapSets_65 : decode cX4_mapSets 65 = .ok (.goto (-61), 3) := by decide +kernel
theorem dX4_mapSets_68 : decode cX4_mapSets 68 = .ok (.iload_n 2, 1) := by decide +kernel
theorem dX4_mapSets_69 : decode cX4_mapSets 69 = .ok (.ireturn, 1) := by decide +kernel
theorem dX4_hillSet_0 : decode cX4_hillSet 0 = .ok (.aload_n 0, 1) := by decide +kernel
theorem dX4_hillSet_1 : decode cX4_hillSet 1 = .ok (.aload_n 1, 1) := by decide +kernel
theorem dX4_hillSet_2 : decode cX4_hillSet 2 = .ok (.invokevirtual 77, 3) := by decide +kernel
theorem dX4_hillSet_5 : decode cX4_hillSet 5 = .ok (.istore_n 3, 1) := by decide +kernel
theorem dX4_hillSet_6 : decode cX4_hillSet 6 = .ok (.iconst 0, 1) := by decide +kernel
theorem dX4_hillSet_7 : decode cX4_hillSet 7 = .ok (.istore 4, 2) := by decide +kernel
theorem dX4_hillSet_9 : decode cX4_hillSet 9 = .ok (.iconst 0, 1) := by decide +kernel
theorem dX4_hillSet_10 : decode cX4_hillSet 10 = .ok (.istore 5, 2) := by decide +kernel
theorem dX4_hillSet_12 : decode cX4_hillSet 12 = .ok (.iload 5, 2) := by decide +kernel
theorem dX4_hillSet_14 : decode cX4_hillSet 14 = .ok (.iload_n 3, 1) := by decide +kernel
theorem dX4_hillSet_15 : decode cX4_hillSet 15 = .ok (.if_icmp .ge 35, 3) := by decide +kernel
theorem dX4_hillSet_18 : decode cX4_hillSet 18 = .ok (.aload_n 0, 1) := by decide +kernel
theorem dX4_hillSet_19 : decode cX4_hillSet 19 = .ok (.getfield 24, 3) := by decide +kernel
theorem dX4_hillSet_22 : decode cX4_hillSet 22 = .ok (.iload 5, 2) := by decide +kernel
theorem dX4_hillSet_24 : decode cX4_hillSet 24 = .ok (.iaload, 1) := by decide +kernel
theorem dX4_hillSet_25 : decode cX4_hillSet 25 = .ok (.aload_n 1, 1) := by decide +kernel
theorem dX4_hillSet_26 : decode cX4_hillSet 26 = .ok (.getfield 81, 3) := by decide +kernel
theorem dX4_hillSet_29 : decode cX4_hillSet 29 = .ok (.if_icmp .ne 15, 3) := by decide +kernel
theorem dX4_hillSet_32 : decode cX4_hillSet 32 = .ok (.iload 4, 2) := by decide +kernel
theorem dX4_hillSet_34 : decode cX4_hillSet 34 = .ok (.iload_n 2, 1) := by decide +kernel
theorem dX4_hillSet_35 : decode cX4_hillSet 35 = .ok (.if_icmp .ne 6, 3) := by decide +kernel
theorem dX4_hillSet_41 : decode cX4_hillSet 41 = .ok (.iinc 4 1, 3) := by decide +kernel
theorem dX4_hillSet_44 : decode cX4_hillSet 44 = .ok (.iinc 5 1, 3) := by decide +kernel
theorem dX4_hillSet_47 : decode cX4_hillSet 47 = .ok (.goto (-35), 3) := by decide +kernel
theorem dX4_hillSet_50 : decode cX4_hillSet 50 = .ok (.iload_n 2, 1) := by decide +kernel
theorem dX4_hillSet_51 : decode cX4_hillSet 51 = .ok (.iconst (-1), 1) := by decide +kernel
theorem dX4_hillSet_52 : decode cX4_hillSet 52 = .ok (.if_icmp .ne 8, 3) := by decide +kernel
theorem dX4_hillSet_60 : decode cX4_hillSet 60 = .ok (.iconst (-1), 1) := by decide +kernel
theorem dX4_hillSet_61 : decode cX4_hillSet 61 = .ok (.ireturn, 1) := by decide +kernel
theorem dX4_hillSet_55 : decode cX4_hillSet 55 = .ok (.iload 4, 2) := by decide +kernel
theorem dX4_hillSet_57 : decode cX4_hillSet 57 = .ok (.goto 4, 3) := by decide +kernel
theorem dX4_hillSet_38 : decode cX4_hillSet 38 = .ok (.iload 5, 2) := by decide +kernel
theorem dX4_hillSet_40 : decode cX4_hillSet 40 = .ok (.ireturn, 1) := by decide +kernel
theorem dX4_burningSets_0 : decode cX4_burningSets 0 = .ok (.iconst 0, 1) := by decide +kernel
theorem dX4_burningSets_1 : decode cX4_burningSets 1 = .ok (.istore_n 3, 1) := by decide +kernel
theorem dX4_burningSets_2 : decode cX4_burningSets 2 = .ok (.iconst 0, 1) := by decide +kernel
theorem dX4_burningSets_3 : decode cX4_burningSets 3 = .ok (.istore 4, 2) := by decide +kernel
theorem dX4_burningSets_5 : decode cX4_burningSets 5 = .ok (.iload 4, 2) := by decide +kernel
theorem dX4_burningSets_7 : decode cX4_burningSets 7 = .ok (.iconst 1, 1) := by decide +kernel
theorem dX4_burningSets_8 : decode cX4_burningSets 8 = .ok (.aload_n 1, 1) := by decide +kernel
theorem dX4_burningSets_9 : decode cX4_burningSets 9 = .ok (.getfield 27, 3) := by decide +kernel
theorem dX4_burningSets_12 : decode cX4_burningSets 12 = .ok (.ishl, 1) := by decide +kernel
theorem dX4_burningSets_13 : decode cX4_burningSets 13 = .ok (.if_icmp .ge 46, 3) := by decide +kernel
theorem dX4_burningSets_16 : decode cX4_burningSets 16 = .ok (.iload 4, 2) := by decide +kernel
theorem dX4_burningSets_18 : decode cX4_burningSets 18 = .ok (.aload_n 0, 1) := by decide +kernel
theorem dX4_burningSets_19 : decode cX4_burningSets 19 = .ok (.getfield 24, 3) := by decide +kernel
theorem dX4_burningSets_22 : decode cX4_burningSets 22 = .ok (.arraylength, 1) := by decide +kernel
theorem dX4_burningSets_23 : decode cX4_burningSets 23 = .ok (.if_icmp .ge 36, 3) := by decide +kernel
theorem dX4_burningSets_26 : decode cX4_burningSets 26 = .ok (.iload 4, 2) := by decide +kernel
theorem dX4_burningSets_28 : decode cX4_burningSets 28 = .ok (.iload_n 2, 1) := by decide +kernel
theorem dX4_burningSets_29 : decode cX4_burningSets 29 = .ok (.ishr, 1) := by decide +kernel
theorem dX4_burningSets_30 : decode cX4_burningSets 30 = .ok (.iconst 1, 1) := by decide +kernel
theorem dX4_burningSets_31 : decode cX4_burningSets 31 = .ok (.iand, 1) := by decide +kernel
theorem dX4_burningSets_32 : decode cX4_burningSets 32 = .ok (.iconst 1, 1) := by decide +kernel
theorem dX4_burningSets_33 : decode cX4_burningSets 33 = .ok (.if_icmp .ne 20, 3) := by decide +kernel
theorem dX4_burningSets_36 : decode cX4_burningSets 36 = .ok (.aload_n 0, 1) := by decide +kernel
theorem dX4_burningSets_37 : decode cX4_burningSets 37 = .ok (.getfield 24, 3) := by decide +kernel
theorem dX4_burningSets_40 : decode cX4_burningSets 40 = .ok (.iload 4, 2) := by decide +kernel
theorem dX4_burningSets_42 : decode cX4_burningSets 42 = .ok (.iaload, 1) := by decide +kernel
theorem dX4_burningSets_43 : decode cX4_burningSets 43 = .ok (.aload_n 1, 1) := by decide +kernel
theorem dX4_burningSets_44 : decode cX4_burningSets 44 = .ok (.getfield 81, 3) := by decide +kernel
theorem dX4_burningSets_47 : decode cX4_burningSets 47 = .ok (.if_icmp .ne 6, 3) := by decide +kernel
theorem dX4_burningSets_50 : decode cX4_burningSets 50 = .ok (.iinc 3 1, 3) := by decide +kernel
theorem dX4_burningSets_53 : decode cX4_burningSets 53 = .ok (.iinc 4 1, 3) := by decide +kernel
theorem dX4_burningSets_56 : decode cX4_burningSets 56 = .ok (.goto (-51), 3) := by decide +kernel
theorem dX4_burningSets_59 : decode cX4_burningSets 59 = .ok (.iload_n 3, 1) := by decide +kernel
theorem dX4_burningSets_60 : decode cX4_burningSets 60 = .ok (.ireturn, 1) := by decide +kernel
theorem dX4_question_0 : decode cX4_question 0 = .ok (.aload_n 0, 1) := by decide +kernel
theorem dX4_question_1 : decode cX4_question 1 = .ok (.aload_n 1, 1) := by decide +kernel
theorem dX4_question_2 : decode cX4_question 2 = .ok (.iconst (-1), 1) := by decide +kernel
theorem dX4_question_3 : decode cX4_question 3 = .ok (.invokevirtual 84, 3) := by decide +kernel
theorem dX4_question_6 : decode cX4_question 6 = .ok (.istore_n 3, 1) := by decide +kernel
theorem dX4_question_7 : decode cX4_question 7 = .ok (.iconst (-1), 1) := by decide +kernel
theorem dX4_question_8 : decode cX4_question 8 = .ok (.istore 4, 2) := by decide +kernel
theorem dX4_question_10 : decode cX4_question 10 = .ok (.iload_n 3, 1) := by decide +kernel
theorem dX4_question_11 : decode cX4_question 11 = .ok (.iconst 1, 1) := by decide +kernel
theorem dX4_question_12 : decode cX4_question 12 = .ok (.iadd, 1) := by decide +kernel
theorem dX4_question_13 : decode cX4_question 13 = .ok (.istore 5, 2) := by decide +kernel
theorem dX4_question_15 : decode cX4_question 15 = .ok (.iconst 0, 1) := by decide +kernel
theorem dX4_question_16 : decode cX4_question 16 = .ok (.istore 6, 2) := by decide +kernel
theorem dX4_question_18 : decode cX4_question 18 = .ok (.iload 6, 2) := by decide +kernel
theorem dX4_question_20 : decode cX4_question 20 = .ok (.aload_n 1, 1) := by decide +kernel
theorem dX4_question_21 : decode cX4_question 21 = .ok (.getfield 27, 3) := by decide +kernel
theorem dX4_question_24 : decode cX4_question 24 = .ok (.if_icmp .ge 48, 3) := by decide +kernel
theorem dX4_question_27 : decode cX4_question 27 = .ok (.iload_n 3, 1) := by decide +kernel
theorem dX4_question_28 : decode cX4_question 28 = .ok (.ifCond .le 44, 3) := by decide +kernel
theorem dX4_question_31 : decode cX4_question 31 = .ok (.aload_n 0, 1) := by decide +kernel
theorem dX4_question_32 : decode cX4_question 32 = .ok (.aload_n 1, 1) := by decide +kernel
theorem dX4_question_33 : decode cX4_question 33 = .ok (.iload 6, 2) := by decide +kernel
theorem dX4_question_35 : decode cX4_question 35 = .ok (.invokevirtual 87, 3) := by decide +kernel
theorem dX4_question_38 : decode cX4_question 38 = .ok (.istore 7, 2) := by decide +kernel
theorem dX4_question_40 : decode cX4_question 40 = .ok (.iload 7, 2) := by decide +kernel
theorem dX4_question_42 : decode cX4_question 42 = .ok (.iload_n 3, 1) := by decide +kernel
theorem dX4_question_43 : decode cX4_question 43 = .ok (.iload 7, 2) := by decide +kernel
theorem dX4_question_45 : decode cX4_question 45 = .ok (.isub, 1) := by decide +kernel
theorem dX4_question_46 : decode cX4_question 46 = .ok (.invokestatic 90, 3) := by decide +kernel
theorem dX4_question_49 : decode cX4_question 49 = .ok (.istore 8, 2) := by decide +kernel
theorem dX4_question_51 : decode cX4_question 51 = .ok (.iload 8, 2) := by decide +kernel
theorem dX4_question_53 : decode cX4_question 53 = .ok (.iload 5, 2) := by decide +kernel
theorem dX4_question_55 : decode cX4_question 55 = .ok (.if_icmp .ge 11, 3) := by decide +kernel
theorem dX4_question_58 : decode cX4_question 58 = .ok (.iload 8, 2) := by decide +kernel
theorem dX4_question_60 : decode cX4_question 60 = .ok (.istore 5, 2) := by decide +kernel
theorem dX4_question_62 : decode cX4_question 62 = .ok (.iload 6, 2) := by decide +kernel
theorem dX4_question_64 : decode cX4_question 64 = .ok (.istore 4, 2) := by decide +kernel
theorem dX4_question_66 : decode cX4_question 66 = .ok (.iinc 6 1, 3) := by decide +kernel
theorem dX4_question_69 : decode cX4_question 69 = .ok (.goto (-51), 3) := by decide +kernel
theorem dX4_question_72 : decode cX4_question 72 = .ok (.iload 4, 2) := by decide +kernel
theorem dX4_question_74 : decode cX4_question 74 = .ok (.iconst (-1), 1) := by decide +kernel
theorem dX4_question_75 : decode cX4_question 75 = .ok (.if_icmp .eq 7, 3) := by decide +kernel
theorem dX4_question_78 : decode cX4_question 78 = .ok (.iload_n 2, 1) := by decide +kernel
theorem dX4_question_79 : decode cX4_question 79 = .ok (.ifCond .ne 8, 3) := by decide +kernel
theorem dX4_question_87 : decode cX4_question 87 = .ok (.iload 5, 2) := by decide +kernel
theorem dX4_question_89 : decode cX4_question 89 = .ok (.ireturn, 1) := by decide +kernel
theorem dX4_question_82 : decode cX4_question 82 = .ok (.iload 4, 2) := by decide +kernel
theorem dX4_question_84 : decode cX4_question 84 = .ok (.goto 5, 3) := by decide +kernel
theorem dX4_muted_0 : decode cX4_muted 0 = .ok (.lload_n 2, 1) := by decide +kernel
theorem dX4_muted_1 : decode cX4_muted 1 = .ok (.lstore 4, 2) := by decide +kernel
theorem dX4_muted_3 : decode cX4_muted 3 = .ok (.iconst 0, 1) := by decide +kernel
theorem dX4_muted_4 : decode cX4_muted 4 = .ok (.istore 6, 2) := by decide +kernel
theorem dX4_muted_6 : decode cX4_muted 6 = .ok (.iload 6, 2) := by decide +kernel
theorem dX4_muted_8 : decode cX4_muted 8 = .ok (.aload_n 0, 1) := by decide +kernel
theorem dX4_muted_9 : decode cX4_muted 9 = .ok (.getfield 27, 3) := by decide +kernel
theorem dX4_muted_12 : decode cX4_muted 12 = .ok (.if_icmp .ge 45, 3) := by decide +kernel
theorem dX4_muted_15 : decode cX4_muted 15 = .ok (.aload_n 0, 1) := by decide +kernel
theorem dX4_muted_16 : decode cX4_muted 16 = .ok (.iload 6, 2) := by decide +kernel
theorem dX4_muted_18 : decode cX4_muted 18 = .ok (.iconst 0, 1) := by decide +kernel
theorem dX4_muted_19 : decode cX4_muted 19 = .ok (.invokevirtual 45, 3) := by decide +kernel
theorem dX4_muted_22 : decode cX4_muted 22 = .ok (.iload_n 1, 1) := by decide +kernel
theorem dX4_muted_23 : decode cX4_muted 23 = .ok (.if_icmp .ne 28, 3) := by decide +kernel
theorem dX4_muted_26 : decode cX4_muted 26 = .ok (.aload_n 0, 1) := by decide +kernel
theorem dX4_muted_27 : decode cX4_muted 27 = .ok (.iload 6, 2) := by decide +kernel
theorem dX4_muted_29 : decode cX4_muted 29 = .ok (.invokevirtual 99, 3) := by decide +kernel
theorem dX4_muted_32 : decode cX4_muted 32 = .ok (.ifCond .eq 19, 3) := by decide +kernel
theorem dX4_muted_35 : decode cX4_muted 35 = .ok (.lload 4, 2) := by decide +kernel
theorem dX4_muted_37 : decode cX4_muted 37 = .ok (.aload_n 0, 1) := by decide +kernel
theorem dX4_muted_38 : decode cX4_muted 38 = .ok (.getfield 102, 3) := by decide +kernel
theorem dX4_muted_41 : decode cX4_muted 41 = .ok (.iconst 4, 1) := by decide +kernel
theorem dX4_muted_42 : decode cX4_muted 42 = .ok (.iaload, 1) := by decide +kernel
theorem dX4_muted_43 : decode cX4_muted 43 = .ok (.i2l, 1) := by decide +kernel
theorem dX4_muted_44 : decode cX4_muted 44 = .ok (.lmul, 1) := by decide +kernel
theorem dX4_muted_45 : decode cX4_muted 45 = .ok (.ldc2_w 105, 3) := by decide +kernel
theorem dX4_muted_48 : decode cX4_muted 48 = .ok (.ldiv, 1) := by decide +kernel
theorem dX4_muted_49 : decode cX4_muted 49 = .ok (.lstore 4, 2) := by decide +kernel
theorem dX4_muted_51 : decode cX4_muted 51 = .ok (.iinc 6 1, 3) := by decide +kernel
theorem dX4_muted_54 : decode cX4_muted 54 = .ok (.goto (-48), 3) := by decide +kernel
theorem dX4_muted_57 : decode cX4_muted 57 = .ok (.lload 4, 2) := by decide +kernel
theorem dX4_muted_59 : decode cX4_muted 59 = .ok (.lreturn, 1) := by decide +kernel
theorem dX4_odds_0 : decode cX4_odds 0 = .ok (.ldc2_w 93, 3) := by decide +kernel
theorem dX4_odds_3 : decode cX4_odds 3 = .ok (.lstore_n 3, 1) := by decide +kernel
theorem dX4_odds_4 : decode cX4_odds 4 = .ok (.iconst 0, 1) := by decide +kernel
theorem dX4_odds_5 : decode cX4_odds 5 = .ok (.istore 5, 2) := by decide +kernel
theorem dX4_odds_7 : decode cX4_odds 7 = .ok (.iload 5, 2) := by decide +kernel
theorem dX4_odds_9 : decode cX4_odds 9 = .ok (.bipush 7, 2) := by decide +kernel
theorem dX4_odds_11 : decode cX4_odds 11 = .ok (.if_icmp .ge 29, 3) := by decide +kernel
theorem dX4_odds_14 : decode cX4_odds 14 = .ok (.iload_n 2, 1) := by decide +kernel
theorem dX4_odds_15 : decode cX4_odds 15 = .ok (.iload 5, 2) := by decide +kernel
theorem dX4_odds_17 : decode cX4_odds 17 = .ok (.ishr, 1) := by decide +kernel
theorem dX4_odds_18 : decode cX4_odds 18 = .ok (.iconst 1, 1) := by decide +kernel
theorem dX4_odds_19 : decode cX4_odds 19 = .ok (.iand, 1) := by decide +kernel
theorem dX4_odds_20 : decode cX4_odds 20 = .ok (.iconst 1, 1) := by decide +kernel
theorem dX4_odds_21 : decode cX4_odds 21 = .ok (.if_icmp .ne 13, 3) := by decide +kernel
theorem dX4_odds_24 : decode cX4_odds 24 = .ok (.lload_n 3, 1) := by decide +kernel
theorem dX4_odds_25 : decode cX4_odds 25 = .ok (.aload_n 1, 1) := by decide +kernel
theorem dX4_odds_26 : decode cX4_odds 26 = .ok (.iload 5, 2) := by decide +kernel
theorem dX4_odds_28 : decode cX4_odds 28 = .ok (.lload_n 3, 1) := by decide +kernel
theorem dX4_odds_29 : decode cX4_odds 29 = .ok (.invokestatic 95, 3) := by decide +kernel
theorem dX4_odds_32 : decode cX4_odds 32 = .ok (.lsub, 1) := by decide +kernel
theorem dX4_odds_33 : decode cX4_odds 33 = .ok (.lstore_n 3, 1) := by decide +kernel
theorem dX4_odds_34 : decode cX4_odds 34 = .ok (.iinc 5 1, 3) := by decide +kernel
theorem dX4_odds_37 : decode cX4_odds 37 = .ok (.goto (-30), 3) := by decide +kernel
theorem dX4_odds_40 : decode cX4_odds 40 = .ok (.lload_n 3, 1) := by decide +kernel
theorem dX4_odds_41 : decode cX4_odds 41 = .ok (.lreturn, 1) := by decide +kernel
set_option maxRecDepth 20000 in
theorem ggX4_favourite_X9_fact : GoodIn wsX4_favourite wsX9_fact := goodIn_r _ [8, 9, 10, 11, 12, 13, 14, 15, 16, 17, 18, 19] (by decide +kernel) (by decide +kernel)
set_option maxRecDepth 20000 in
theorem gX4_favourite_X9_fact_n45 : GoodIn wsX4_favourite (wsX9_fact) := ggX4_favourite_X9_fact
set_option maxRecDepth 20000 in
theorem ggX4_ring_X9_fact : GoodIn wsX4_ring wsX9_fact := goodIn_r _ [6, 7, 8, 9, 10, 11, 12, 13, 14, 15, 16, 17] (by decide +kernel) (by decide +kernel)
set_option maxRecDepth 20000 in
theorem gX4_ring_X9_fact_n45 : GoodIn wsX4_ring (wsX9_fact) := ggX4_ring_X9_fact
set_option maxRecDepth 20000 in
theorem ggX4_swapped_X11_within : GoodIn wsX4_swapped wsX11_within := goodIn_r _ [23] (by decide +kernel) (by decide +kernel)
set_option maxRecDepth 20000 in
theorem gX4_swapped_X11_within_n41 : GoodIn wsX4_swapped (wsX11_within) := ggX4_swapped_X11_within
set_option maxRecDepth 20000 in
theorem ggX4_swapped_X4_ring : GoodIn wsX4_swapped wsX4_ring := goodIn_r _ [20, 1, 2, 12, 13, 14, 15, 16, 24, 25, 26, 27, 28, 29, 30, 31, 32, 33, 34, 35, 36, 37, 38] (by decide +kernel) (by decide +kernel)
set_option maxRecDepth 20000 in
theorem gX4_swapped_X4_ring : GoodIn wsX4_swapped (wsV RX4 37 RX4 yX4_ring wsX4_ring) := goodIn_app (goodIn_of _ (by decide +kernel)) ggX4_swapped_X4_ring
set_option maxRecDepth 20000 in
theorem ggX4_swapped_X4_favourite : GoodIn wsX4_swapped wsX4_favourite := goodIn_r _ [7, 8, 9, 10, 11, 12, 13, 14, 15, 16, 24, 25, 26, 27, 28, 29, 30, 31, 32, 33] (by decide +kernel) (by decide +kernel)
set_option maxRecDepth 20000 in
theorem gX4_swapped_X4_favourite : GoodIn wsX4_swapped (wsV RX4 33 RX4 yX4_favourite wsX4_favourite) := goodIn_app (goodIn_of _ (by decide +kernel)) ggX4_swapped_X4_favourite
set_option maxRecDepth 20000 in
theorem ggX4_nearest_X4_apart : GoodIn wsX4_nearest wsX4_apart := goodIn_r _ [4, 5, 6, 7, 8, 9, 10, 11] (by decide +kernel) (by decide +kernel)
set_option maxRecDepth 20000 in
theorem gX4_nearest_X4_apart : GoodIn wsX4_nearest (va_wsS RX4 71 yX4_apart wsX4_apart) := goodIn_app (goodIn_of _ (by decide +kernel)) ggX4_nearest_X4_apart
set_option maxRecDepth 20000 in
theorem ggX4_fill_X9_fact : GoodIn wsX4_fill wsX9_fact := goodIn_r _ [5, 6, 21, 22, 23, 24, 25, 26, 27, 28, 29, 30] (by decide +kernel) (by decide +kernel)
set_option maxRecDepth 20000 in
theorem gX4_fill_X9_fact_n45 : GoodIn wsX4_fill (wsX9_fact) := ggX4_fill_X9_fact
set_option maxRecDepth 20000 in
theorem ggX4_fill_X4_nearest : GoodIn wsX4_fill wsX4_nearest := goodIn_r _ [10, 11, 12, 9, 13, 14, 15, 16, 17, 18, 19, 20] (by decide +kernel) (by decide +kernel)
set_option maxRecDepth 20000 in
theorem gX4_fill_X4_nearest : GoodIn wsX4_fill (va_wsS RX4 68 yX4_nearest wsX4_nearest) := goodIn_app (goodIn_of _ (by decide +kernel)) ggX4_fill_X4_nearest
set_option maxRecDepth 20000 in
theorem ggX4_fill_X4_apart : GoodIn wsX4_fill wsX4_apart := goodIn_r _ [13, 14, 15, 16, 17, 18, 19, 20] (by decide +kernel) (by decide +kernel)
set_option maxRecDepth 20000 in
theorem gX4_fill_X4_apart : GoodIn wsX4_fill (va_wsS RX4 71 yX4_apart wsX4_apart) := goodIn_app (goodIn_of _ (by decide +kernel)) ggX4_fill_X4_apart
set_option maxRecDepth 100000 in
set_option maxHeartbeats 4000000 in
theorem ggX4_retune_X4_fill : GoodIn wsX4_retune wsX4_fill := goodIn_q _ [11, 15, 19, 22, 26, 29] [1, 12, 13, 14, 16, 17, 18, 10, 20, 21, 23, 24, 25, 27, 28, 34, 35, 36, 37, 38, 39, 40, 41, 42, 43, 44, 45, 46, 47, 48] rfl (by decide +kernel) (by decide +kernel)
set_option maxRecDepth 20000 in
theorem gX4_retune_X4_fill : GoodIn wsX4_retune (wsV RX4 55 RX4 yX4_fill wsX4_fill) := goodIn_app (goodIn_of _ (by decide +kernel)) ggX4_retune_X4_fill
set_option maxRecDepth 20000 in
theorem ggX4_retune_X4_ahead : GoodIn wsX4_retune wsX4_ahead := goodIn_r _ [33, 1, 2, 44, 45, 46, 47, 48] (by decide +kernel) (by decide +kernel)
set_option maxRecDepth 20000 in
theorem gX4_retune_X4_ahead : GoodIn wsX4_retune (wsV RX4 58 RX4 yX4_ahead wsX4_ahead) := goodIn_app (goodIn_of _ (by decide +kernel)) ggX4_retune_X4_ahead
set_option maxRecDepth 20000 in
theorem ggX4_tunedNote_X11_within : GoodIn wsX4_tunedNote wsX11_within := goodIn_r _ [4] (by decide +kernel) (by decide +kernel)
set_option maxRecDepth 20000 in
theorem gX4_tunedNote_X11_within_n41 : GoodIn wsX4_tunedNote (wsX11_within) := ggX4_tunedNote_X11_within
set_option maxRecDepth 20000 in
theorem ggX4_mapSets_X9_fact : GoodIn wsX4_mapSets wsX9_fact := goodIn_r _ [5, 6, 7, 8, 9, 10, 11, 12, 13, 14, 15, 16] (by decide +kernel) (by decide +kernel)
set_option maxRecDepth 20000 in
theorem gX4_mapSets_X9_fact_n45 : GoodIn wsX4_mapSets (wsX9_fact) := ggX4_mapSets_X9_fact
set_option maxRecDepth 20000 in
theorem ggX4_hillSet_X4_mapSets : GoodIn wsX4_hillSet wsX4_mapSets := goodIn_r _ [6, 1, 7, 8, 9, 10, 11, 17, 18, 19, 20, 21, 22, 23, 24, 25, 26, 12, 13, 14, 15, 16] (by decide +kernel) (by decide +kernel)
set_option maxRecDepth 20000 in
theorem gX4_hillSet_X4_mapSets : GoodIn wsX4_hillSet (wsV RX4 77 RX4 yX4_mapSets wsX4_mapSets) := goodIn_app (goodIn_of _ (by decide +kernel)) ggX4_hillSet_X4_mapSets
set_option maxRecDepth 20000 in
theorem ggX4_question_X4_hillSet : GoodIn wsX4_question wsX4_hillSet := goodIn_r _ [9, 10, 11, 12, 13, 8, 14, 15, 16, 17, 18, 19, 34, 35, 36, 37, 38, 24, 25, 26, 27, 28, 29, 30, 31, 32, 33] (by decide +kernel) (by decide +kernel)
set_option maxRecDepth 20000 in
theorem gX4_question_X4_hillSet : GoodIn wsX4_question (wsV RX4 84 RX4 yX4_hillSet wsX4_hillSet) := goodIn_app (goodIn_of _ (by decide +kernel)) ggX4_question_X4_hillSet
set_option maxRecDepth 20000 in
theorem ggX4_question_X4_burningSets : GoodIn wsX4_question wsX4_burningSets := goodIn_r _ [23, 10, 24, 25, 26, 27, 28, 29, 30, 31, 32, 33, 34, 35, 36, 37, 38] (by decide +kernel) (by decide +kernel)
set_option maxRecDepth 20000 in
theorem gX4_question_X4_burningSets : GoodIn wsX4_question (wsV RX4 87 RX4 yX4_burningSets wsX4_burningSets) := goodIn_app (goodIn_of _ (by decide +kernel)) ggX4_question_X4_burningSets
set_option maxRecDepth 20000 in
theorem ggX4_muted_X9_fact : GoodIn wsX4_muted wsX9_fact := goodIn_r _ [5, 6, 16, 17, 18, 19, 20, 21, 22, 23, 24, 25] (by decide +kernel) (by decide +kernel)
set_option maxRecDepth 20000 in
theorem gX4_muted_X9_fact_n45 : GoodIn wsX4_muted (wsX9_fact) := ggX4_muted_X9_fact
set_option maxRecDepth 20000 in
theorem ggX4_muted_X9_sings : GoodIn wsX4_muted wsX9_sings := goodIn_r _ [9, 10, 2, 4, 3, 5, 6, 11, 12, 13, 14, 15, 16, 17, 18, 19, 20, 21, 22, 23, 24, 25] (by decide +kernel) (by decide +kernel)
set_option maxRecDepth 20000 in
theorem gX4_muted_X9_sings_n99 : GoodIn wsX4_muted (wsX9_sings) := ggX4_muted_X9_sings
set_option maxRecDepth 20000 in
theorem ggX4_odds_X4_muted : GoodIn wsX4_odds wsX4_muted := goodIn_r _ [5, 6, 7, 8, 9, 10, 11, 12, 13, 14, 15, 16, 17, 18, 19, 20, 21, 22, 23, 24, 25, 26, 27, 28, 29, 30] (by decide +kernel) (by decide +kernel)
set_option maxRecDepth 20000 in
theorem gX4_odds_X4_muted : GoodIn wsX4_odds (va_wsS RX4 95 yX4_muted wsX4_muted) := goodIn_app (goodIn_of _ (by decide +kernel)) ggX4_odds_X4_muted
set_option maxHeartbeats 4000000 in
set_option maxRecDepth 100000 in
theorem w_favourite (l : Launch) (D : va_G) (K : Nat → ClassId) (p0 : Nat) (t0 : Nat) (x : Int32) (y : Int32) (p1 : Nat) (p2 : Nat) (p3 : Nat) (p4 : Nat) (p5 : Nat) (t1 : Nat) (k_1 : Value) (t2 : Nat) (k_3 : Value) (n : Int32) (k_5 : Value) (k_6 : Value) (k_7 : Value) (k_8 : Value) (ho : Int32) (f1 : Nat → Int32) (f2 : Nat → Int32) (sz : Nat) (zn : 0 ≤ n.toInt ∧ n.toInt ≤ 8) (zx : 0 ≤ x.toInt ∧ x.toInt ≤ 7) : Met l yX4_favourite wsX4_favourite ({ frames := 1, cells := 0, slots := 0, locals := 23 }) (va_Pc [.ref p0, .ref t0, .int x, .int y] (Pre D K [(p0, .inr (4, [.ref p1, .ref p2, .ref p3, .ref p4, .ref p5])), (t0, .inr (9, [.ref t1, k_1, .ref t2, k_3, .int n, k_5, k_6, k_7, k_8, .int ho])), (t1, .inl (K 0, 56, .inl f1)), (t2, .inl (K 0, 6, .inl f2))] sz)) (vp_Si (fun r : Int32 => (0 ≤ r.toInt ∧ r.toInt ≤ 7) ∧ True)) 0 0 (fun _ => False) := by
  refine Met.ofW (cc := cX4_favourite) (maxL := 9) (ret := (some .int)) (by decide) rfl ?_
  intro p e s m args below meth c s₁ B hml hv
  obtain ⟨rfl, hsz, hP, hK, hD0, hN⟩ := hv
  have hx := B.exec
  have hb := B.bytes
  have hr := B.returns
  have hts := atoms_spec (ws := wsX4_favourite) B.pre
  have hown : s.vm.findClass RX4 = some m.cls := findClass_of_methodNamed B.named
  have hlocks := B.notSynchronized
  subst hsz
  have hD := hD0
  have hP : va_P D vwCl [(p0, .inr (4, [.ref p1, .ref p2, .ref p3, .ref p4, .ref p5])), (t0, .inr (9, [.ref t1, k_1, .ref t2, k_3, .int n, k_5, k_6, k_7, k_8, .int ho])), (t1, .inl (K 0, 56, .inl f1)), (t2, .inl (K 0, 6, .inl f2))] s.heap := hP
  have hl := lv_entry [.ref p0, .ref t0, .int x, .int y] (n := 9) (Nat.le_of_ble_eq_true rfl)
  rw [lg_entry_eq]
  generalize (lg_sl [.ref p0, .ref t0, .int x, .int y] ++ List.replicate (9 - (lg_sl [.ref p0, .ref t0, .int x, .int y]).length) Slot.unset).toArray = ls at hl ⊢
  have hl : lv_has ls 9 [(0, .ref p0), (1, .ref t0), (2, .int x), (3, .int y)] := hl
  have hw9 : ∀ w ∈ wsX90, w ∈ wsX4_favourite := fun w h => (List.mem_cons_of_mem _ (List.mem_append_right _ h))
  generalize hQ : MQ below _ _ s _ _ _ = Q
  refine lv_iload_n hx hb dX4_favourite_0 rfl (lv_at hl 2 rfl) ?_
  refine lv_istore (lv' := [(4, .int x), (0, .ref p0), (1, .ref t0), (2, .int x), (3, .int y)]) hx hb dX4_favourite_1 hl (by decide) rfl (fun ls hl => ?_)
  refine lv_bipush (v := 64) hx hb dX4_favourite_3 (by decide) ?_
  refine lv_istore (lv' := [(5, .int 64), (4, .int x), (0, .ref p0), (1, .ref t0), (2, .int x), (3, .int y)]) hx hb dX4_favourite_5 hl (by decide) rfl (fun ls hl => ?_)
  refine lv_iconst (v := 0) hx hb dX4_favourite_7 (by decide) ?_
  refine lv_istore (lv' := [(6, .int 0), (5, .int 64), (4, .int x), (0, .ref p0), (1, .ref t0), (2, .int x), (3, .int y)]) hx hb dX4_favourite_8 hl (by decide) rfl (fun ls hl => ?_)
  have lp_404 : ∀ (nn_ : Nat) (v_362 : Int32) (v_363 : Int32) (v_364 : Int32) (hv_362 : 0 ≤ v_362.toInt ∧ v_362.toInt ≤ 8) (hv_363 : v_363.toInt ≤ 64) (hv_364 : 0 ≤ v_364.toInt ∧ v_364.toInt ≤ 7) (hn : (9 - v_362.toInt : Int).toNat < nn_) (ls : Array Slot) (hl : lv_has ls 9 [(6, .int v_362), (5, .int v_363), (4, .int v_364), (1, .ref t0), (2, .int x), (3, .int y)]), W p l e ({ frames := 1, cells := 0, slots := 0, locals := 23 }) s m (([.ref p0, .ref t0, .int x, .int y] : List Value).toArray) below meth c s.heap [] 0 0 Q (F0 m 10 ls []) := by
    intro nn_
    induction nn_ with
    | zero =>
      intro v_362 v_363 v_364 hv_362 hv_363 hv_364 hn ls hl
      exact absurd hn (Nat.not_lt_zero _)
    | succ nn_ ih_405 =>
      intro v_362 v_363 v_364 hv_362 hv_363 hv_364 hn ls hl
      refine lv_iload hx hb dX4_favourite_10 (lv_at hl 0 rfl) ?_
      refine lv_aload_n hx hb dX4_favourite_12 rfl (lv_at hl 3 rfl) ?_
      refine va_getN (ci := 9) (v := .int n) (C := RX9) (T := TX9) (N := 10) hx hb hts hw9 hown hK hP 1 rfl rfl 4 (by decide) (nst_use hN 106 rfl) (fun _ h9 => h9) rfl dX4_favourite_13 ?_
      refine lv_icmp_ge (tgt := 79) hx hb dX4_favourite_16 (by decide) (fun c_406 => ?_) (fun c_406 => ?_)
      · have c_406i := i_le (x := n.toInt) (y := v_362.toInt) rfl rfl c_406
        refine lv_iload hx hb dX4_favourite_79 (lv_at hl 2 rfl) ?_
        subst hQ
        exact W.iret (v := v_364) hx hb hr (fun t ht hW => ⟨_, rfl, ⟨(show 0 ≤ v_364.toInt ∧ v_364.toInt ≤ 7 by omega), trivial⟩, ht⟩) (fun q hq => by cases hq) dX4_favourite_81
      · have c_406i := i_nle (x := n.toInt) (y := v_362.toInt) rfl rfl c_406
        refine lv_aload_n hx hb dX4_favourite_19 rfl (lv_at hl 3 rfl) ?_
        refine lv_iload hx hb dX4_favourite_20 (lv_at hl 0 rfl) ?_
        refine lv_iconst (v := 3) hx hb dX4_favourite_22 (by decide) ?_
        refine pci (va_runVN (As := [.int v_362, .int 3]) (rest := []) ⟨hx, hb, hml, hown, hts⟩ (w_fact l D K t0 v_362 3 t1 k_1 (.ref t2) k_3 (.int n) k_5 k_6 k_7 k_8 (.int ho) f1 s.heap.size) ⟨va_cnB 2 hts gX4_favourite_X9_fact_n45 rfl rfl rfl (nst_at hN 84 rfl) (hts (.initialized RX9) (List.mem_cons_of_mem _ (List.mem_append_left _ (List.mem_of_getElem? (i := 5) rfl)))) (by decide +kernel) ⟨Nat.le_of_ble_eq_true rfl, Nat.le_of_ble_eq_true rfl⟩, (hts (.instanceMethod yX9_fact) (List.mem_cons_of_mem _ (List.mem_append_left _ (List.mem_of_getElem? (i := 4) rfl)))), (hts (.selects RX9 yX9_fact yX9_fact) (List.mem_cons_of_mem _ (List.mem_append_left _ (List.mem_of_getElem? (i := 6) rfl))))⟩ (mkV hK hN (hP.sub [1, 2] rfl) (hD.sub [1, 2] (by decide) rfl) (ci := 9) (q0 := 0) rfl rfl) rfl rfl hl.1 rfl (lv_room (Nat.le_of_ble_eq_true rfl)) dX4_favourite_23 ⟨Nat.le_of_ble_eq_true rfl, Nat.le_of_ble_eq_true rfl⟩) (fun r_407 hw => ?_)
        refine lv_istore (lv' := [(7, .int r_407), (6, .int v_362), (5, .int v_363), (4, .int v_364), (1, .ref t0), (2, .int x), (3, .int y)]) hx hb dX4_favourite_26 hl (by decide) rfl (fun ls hl => ?_)
        refine lv_iload hx hb dX4_favourite_28 (lv_at hl 0 rfl) ?_
        refine lv_aload_n hx hb dX4_favourite_30 rfl (lv_at hl 4 rfl) ?_
        refine lv_iload_n hx hb dX4_favourite_31 rfl (lv_at hl 5 rfl) ?_
        refine lv_iconst (v := 4) hx hb dX4_favourite_32 (by decide) ?_
        refine pci (va_runVN (As := [.int x, .int 4]) (rest := [.int r_407]) ⟨hx, hb, hml, hown, hts⟩ (w_fact l D K t0 x 4 t1 k_1 (.ref t2) k_3 (.int n) k_5 k_6 k_7 k_8 (.int ho) f1 s.heap.size) ⟨va_cnB 2 hts gX4_favourite_X9_fact_n45 rfl rfl rfl (nst_at hN 84 rfl) (hts (.initialized RX9) (List.mem_cons_of_mem _ (List.mem_append_left _ (List.mem_of_getElem? (i := 5) rfl)))) (by decide +kernel) ⟨Nat.le_of_ble_eq_true rfl, Nat.le_of_ble_eq_true rfl⟩, (hts (.instanceMethod yX9_fact) (List.mem_cons_of_mem _ (List.mem_append_left _ (List.mem_of_getElem? (i := 4) rfl)))), (hts (.selects RX9 yX9_fact yX9_fact) (List.mem_cons_of_mem _ (List.mem_append_left _ (List.mem_of_getElem? (i := 6) rfl))))⟩ (mkV hK hN (hP.sub [1, 2] rfl) (hD.sub [1, 2] (by decide) rfl) (ci := 9) (q0 := 0) rfl rfl) rfl rfl hl.1 rfl (lv_room (Nat.le_of_ble_eq_true rfl)) dX4_favourite_33 ⟨Nat.le_of_ble_eq_true rfl, Nat.le_of_ble_eq_true rfl⟩) (fun r_408 hw => ?_)
        refine lv_isub hx hb dX4_favourite_36 ?_
        refine lv_topi (fun x_409 ex_409 => ?_)
        refine va_mabs hx hb (hml.trans hl.1.symm) hown (hts (.methodLink RX4 49 Lib.Math.abs.name) (List.mem_cons_of_mem _ (List.mem_append_left _ (List.mem_of_getElem? (i := 0) rfl)))) (hts (.static Lib.Math.abs.name) (List.mem_cons_of_mem _ (List.mem_append_left _ (List.mem_of_getElem? (i := 1) rfl)))) (hts (.initialized "java/lang/Math") (List.mem_cons_of_mem _ (List.mem_append_left _ (List.mem_of_getElem? (i := 2) rfl)))) (hts (.code Lib.Math.abs.name Lib.Math.abs.code 1 (some .int)) (List.mem_cons_of_mem _ (List.mem_append_left _ (List.mem_of_getElem? (i := 3) rfl)))) (Nat.le_of_ble_eq_true rfl) (Nat.le_of_ble_eq_true rfl) (Nat.le_of_ble_eq_true rfl) (Nat.le_of_ble_eq_true rfl) dX4_favourite_37 ?_
        refine lv_topi (fun x_410 ex_410 => ?_)
        refine lv_bipush (v := 8) hx hb dX4_favourite_40 (by decide) ?_
        refine lv_imul hx hb dX4_favourite_42 ?_
        refine lv_topi (fun x_411 ex_411 => ?_)
        refine lv_iload hx hb dX4_favourite_43 (lv_at hl 0 rfl) ?_
        refine lv_iadd hx hb dX4_favourite_45 ?_
        refine lv_topi (fun x_412 ex_412 => ?_)
        refine lv_istore (lv' := [(8, .int x_412), (7, .int r_407), (6, .int v_362), (5, .int v_363), (4, .int v_364), (1, .ref t0), (2, .int x), (3, .int y)]) hx hb dX4_favourite_46 hl (by decide) rfl (fun ls hl => ?_)
        refine lv_iload_n hx hb dX4_favourite_48 rfl (lv_at hl 7 rfl) ?_
        refine lv_iload hx hb dX4_favourite_49 (lv_at hl 2 rfl) ?_
        refine lv_ishr hx hb dX4_favourite_51 ?_
        refine lv_topi (fun x_413 ex_413 => ?_)
        refine lv_iconst (v := 1) hx hb dX4_favourite_52 (by decide) ?_
        refine lv_iand hx hb dX4_favourite_53 ?_
        refine lv_topi (fun x_414 ex_414 => ?_)
        have hx_414 : 0 ≤ x_414.toInt ∧ x_414.toInt ≤ 1 := by rw [ex_414]; exact i_mask x_413 1 rfl (by decide)
        refine lv_iconst (v := 1) hx hb dX4_favourite_54 (by decide) ?_
        have j_420 : ∀ (v_417 : Int32) (v_418 : Int32) (hv_417 : v_417.toInt ≤ 64) (hv_418 : 0 ≤ v_418.toInt ∧ v_418.toInt ≤ 7) (ls : Array Slot) (hl : lv_has ls 9 [(6, .int v_362), (5, .int v_417), (4, .int v_418), (1, .ref t0), (2, .int x), (3, .int y)]), W p l e ({ frames := 1, cells := 0, slots := 0, locals := 23 }) s m (([.ref p0, .ref t0, .int x, .int y] : List Value).toArray) below meth c s.heap [] 0 0 Q (F0 m 73 ls []) := by
          intro v_417 v_418 hv_417 hv_418 ls hl
          obtain ⟨x_421, ex_421⟩ : ∃ y : Int32, y = v_362 + Int32.ofInt 1 := ⟨_, rfl⟩
          have hx_421 : x_421.toInt = (v_362.toInt + 1) := by rw [ex_421]; exact i_add rfl (show (Int32.ofInt 1).toInt = 1 from rfl) (by omega)
          refine lv_iinc (v := x_421) (lv' := [(6, .int x_421), (5, .int v_417), (4, .int v_418), (1, .ref t0), (2, .int x), (3, .int y)]) hx hb dX4_favourite_73 hl (k := 0) rfl (by rw [ex_421]) (by decide) rfl (fun ls hl => ?_)
          refine lv_goto (tgt := 10) hx hb dX4_favourite_76 (by decide) ?_
          exact ih_405 x_421 v_417 v_418 (by rw [hx_421]; omega) (by omega) (by omega) (by omega) ls (lv_sub hl [0, 1, 2, 3, 4, 5] rfl)
        refine lv_icmp_ne (tgt := 73) hx hb dX4_favourite_55 (by decide) (fun c_422 => ?_) (fun c_422 => ?_)
        · have c_422i := i_ne (x := x_414.toInt) (y := 1) rfl rfl c_422
          exact j_420 v_363 v_364 (by omega) (by omega) ls (lv_sub hl [2, 3, 4, 5, 6, 7] rfl)
        · have c_422i := i_eq (x := x_414.toInt) (y := 1) rfl rfl c_422
          refine lv_iload hx hb dX4_favourite_58 (lv_at hl 0 rfl) ?_
          refine lv_iload hx hb dX4_favourite_60 (lv_at hl 3 rfl) ?_
          refine lv_icmp_ge (tgt := 73) hx hb dX4_favourite_62 (by decide) (fun c_423 => ?_) (fun c_423 => ?_)
          · have c_423i := i_le (x := v_363.toInt) (y := x_412.toInt) rfl rfl c_423
            exact j_420 v_363 v_364 (by omega) (by omega) ls (lv_sub hl [2, 3, 4, 5, 6, 7] rfl)
          · have c_423i := i_nle (x := v_363.toInt) (y := x_412.toInt) rfl rfl c_423
            refine lv_iload hx hb dX4_favourite_65 (lv_at hl 0 rfl) ?_
            refine lv_istore (lv' := [(5, .int x_412), (8, .int x_412), (7, .int r_407), (6, .int v_362), (4, .int v_364), (1, .ref t0), (2, .int x), (3, .int y)]) hx hb dX4_favourite_67 hl (by decide) rfl (fun ls hl => ?_)
            refine lv_iload hx hb dX4_favourite_69 (lv_at hl 3 rfl) ?_
            refine lv_istore (lv' := [(4, .int v_362), (5, .int x_412), (8, .int x_412), (7, .int r_407), (6, .int v_362), (1, .ref t0), (2, .int x), (3, .int y)]) hx hb dX4_favourite_71 hl (by decide) rfl (fun ls hl => ?_)
            exact j_420 x_412 v_362 (by omega) (by omega) ls (lv_sub hl [4, 1, 0, 5, 6, 7] rfl)
  exact lp_404 ((9 - (0 : Int32).toInt : Int).toNat + 1) 0 64 x (by decide) (by decide) (by omega) (Nat.lt_succ_self _) ls (lv_sub hl [0, 1, 2, 4, 5, 6] rfl)
set_option maxHeartbeats 4000000 in
set_option maxRecDepth 100000 in
theorem w_ring (l : Launch) (D : va_G) (K : Nat → ClassId) (p0 : Nat) (t0 : Nat) (x : Int32) (p1 : Nat) (p2 : Nat) (p3 : Nat) (p4 : Nat) (p5 : Nat) (fd : Nat → Int32) (fp : Nat → Int32) (t1 : Nat) (k_1 : Value) (t2 : Nat) (k_3 : Value) (n : Int32) (k_5 : Value) (k_6 : Value) (k_7 : Value) (k_8 : Value) (ho : Int32) (f1 : Nat → Int32) (f2 : Nat → Int32) (sz : Nat) (zn : 1 ≤ n.toInt ∧ n.toInt ≤ 8) (zfp : Rg 8 0 7 fp) : Met l yX4_ring wsX4_ring ({ frames := 1, cells := 0, slots := 0, locals := 23 }) (va_Pc [.ref p0, .ref t0, .int x] (Pre D K [(p0, .inr (4, [.ref p1, .ref p2, .ref p3, .ref p4, .ref p5])), (p1, .inl (K 0, 8, .inl fd)), (p2, .inl (K 0, 8, .inl fp)), (t0, .inr (9, [.ref t1, k_1, .ref t2, k_3, .int n, k_5, k_6, k_7, k_8, .int ho])), (t1, .inl (K 0, 56, .inl f1)), (t2, .inl (K 0, 6, .inl f2))] sz)) (va_Qi (S := Su) (fun (r : Int32) (u : Su) => (0 ≤ r.toInt ∧ r.toInt ≤ 255) ∧ True) (fun u t => Wd D (va_A [(p0, .inr (4, [.ref p1, .ref p2, .ref p3, .ref p4, .ref p5])), (p1, .inl (K 0, 8, .inl fd)), (p2, .inl (K 0, 8, .inl fp)), (t0, .inr (9, [.ref t1, k_1, .ref t2, k_3, .int n, k_5, k_6, k_7, k_8, .int ho])), (t1, .inl (K 0, 56, .inl f1)), (t2, .inl (K 0, 6, .inl f2))] sz) ((fun u => [(p0, .inr (4, [.ref p1, .ref p2, .ref p3, .ref p4, .ref p5])), (p1, .inl (K 0, 8, .inl (u.2.1 0))), (p2, .inl (K 0, 8, .inl fp)), (t0, .inr (9, [.ref t1, k_1, .ref t2, k_3, .int n, k_5, k_6, k_7, k_8, .int ho])), (t1, .inl (K 0, 56, .inl f1)), (t2, .inl (K 0, 6, .inl f2))]) u) t) (va_A [(p0, .inr (4, [.ref p1, .ref p2, .ref p3, .ref p4, .ref p5])), (p1, .inl (K 0, 8, .inl fd)), (p2, .inl (K 0, 8, .inl fp)), (t0, .inr (9, [.ref t1, k_1, .ref t2, k_3, .int n, k_5, k_6, k_7, k_8, .int ho])), (t1, .inl (K 0, 56, .inl f1)), (t2, .inl (K 0, 6, .inl f2))] sz)) 0 0 (va_A [(p0, .inr (4, [.ref p1, .ref p2, .ref p3, .ref p4, .ref p5])), (p1, .inl (K 0, 8, .inl fd)), (p2, .inl (K 0, 8, .inl fp)), (t0, .inr (9, [.ref t1, k_1, .ref t2, k_3, .int n, k_5, k_6, k_7, k_8, .int ho])), (t1, .inl (K 0, 56, .inl f1)), (t2, .inl (K 0, 6, .inl f2))] sz) := by
  refine Met.ofW (cc := cX4_ring) (maxL := 6) (ret := (some .int)) (by decide) rfl ?_
  intro p e s m args below meth c s₁ B hml hv
  obtain ⟨rfl, hsz, hP, hK, hD0, hN⟩ := hv
  have hx := B.exec
  have hb := B.bytes
  have hr := B.returns
  have hts := atoms_spec (ws := wsX4_ring) B.pre
  have hown : s.vm.findClass RX4 = some m.cls := findClass_of_methodNamed B.named
  have hlocks := B.notSynchronized
  subst hsz
  have hD := hD0.self (sz := s.heap.size)
  generalize hAe : va_A [(p0, .inr (4, [.ref p1, .ref p2, .ref p3, .ref p4, .ref p5])), (p1, .inl (K 0, 8, .inl fd)), (p2, .inl (K 0, 8, .inl fp)), (t0, .inr (9, [.ref t1, k_1, .ref t2, k_3, .int n, k_5, k_6, k_7, k_8, .int ho])), (t1, .inl (K 0, 56, .inl f1)), (t2, .inl (K 0, 6, .inl f2))] s.heap.size = A at hD ⊢
  have hA : ∀ q : Nat, s.heap.size ≤ q → A q := fun q h => by rw [← hAe]; exact Or.inr h
  have hS : va_S A s.heap s.heap [] := va_S.rf
  have hP : va_P D vwCl [(p0, .inr (4, [.ref p1, .ref p2, .ref p3, .ref p4, .ref p5])), (p1, .inl (K 0, 8, .inl fd)), (p2, .inl (K 0, 8, .inl fp)), (t0, .inr (9, [.ref t1, k_1, .ref t2, k_3, .int n, k_5, k_6, k_7, k_8, .int ho])), (t1, .inl (K 0, 56, .inl f1)), (t2, .inl (K 0, 6, .inl f2))] s.heap := hP
  have hl := lv_entry [.ref p0, .ref t0, .int x] (n := 6) (Nat.le_of_ble_eq_true rfl)
  rw [lg_entry_eq]
  generalize (lg_sl [.ref p0, .ref t0, .int x] ++ List.replicate (6 - (lg_sl [.ref p0, .ref t0, .int x]).length) Slot.unset).toArray = ls at hl ⊢
  have hl : lv_has ls 6 [(0, .ref p0), (1, .ref t0), (2, .int x)] := hl
  have hw4 : ∀ w ∈ wsX40, w ∈ wsX4_ring := fun w h => (List.mem_cons_of_mem _ (List.mem_append_right _ h))
  have hw9 : ∀ w ∈ wsX90, w ∈ wsX4_ring := fun w h => (List.mem_cons_of_mem _ (List.mem_append_left _ (List.mem_append_right _ h)))
  generalize hQ : MQ below _ _ s _ _ _ = Q
  refine lv_iconst (v := 0) hx hb dX4_ring_0 (by decide) ?_
  refine lv_istore_n (lv' := [(3, .int 0), (0, .ref p0), (1, .ref t0), (2, .int x)]) hx hb dX4_ring_1 rfl hl (by decide) rfl (fun ls hl => ?_)
  have lp_1098 : ∀ (nn_ : Nat) (v_1072 : Int32) (hv_1072 : 0 ≤ v_1072.toInt ∧ v_1072.toInt ≤ 7) (hn : (8 - v_1072.toInt : Int).toNat < nn_) (H : Heap) (locs : List Loc) (hP : va_P D vwCl [(p0, .inr (4, [.ref p1, .ref p2, .ref p3, .ref p4, .ref p5])), (p1, .inl (K 0, 8, .inl fd)), (p2, .inl (K 0, 8, .inl fp)), (t0, .inr (9, [.ref t1, k_1, .ref t2, k_3, .int n, k_5, k_6, k_7, k_8, .int ho])), (t1, .inl (K 0, 56, .inl f1)), (t2, .inl (K 0, 6, .inl f2))] H) (hD : va_D A [(p0, .inr (4, [.ref p1, .ref p2, .ref p3, .ref p4, .ref p5])), (p1, .inl (K 0, 8, .inl fd)), (p2, .inl (K 0, 8, .inl fp)), (t0, .inr (9, [.ref t1, k_1, .ref t2, k_3, .int n, k_5, k_6, k_7, k_8, .int ho])), (t1, .inl (K 0, 56, .inl f1)), (t2, .inl (K 0, 6, .inl f2))]) (hS : va_S A s.heap H locs) (ls : Array Slot) (hl : lv_has ls 6 [(3, .int v_1072), (0, .ref p0), (1, .ref t0), (2, .int x)]), W p l e ({ frames := 1, cells := 0, slots := 0, locals := 23 }) s m (([.ref p0, .ref t0, .int x] : List Value).toArray) below meth c H locs 0 0 Q (F0 m 2 ls []) := by
    intro nn_
    induction nn_ with
    | zero =>
      intro v_1072 hv_1072 hn H locs hP hD hS ls hl
      exact absurd hn (Nat.not_lt_zero _)
    | succ nn_ ih_1099 =>
      intro v_1072 hv_1072 hn H locs hP hD hS ls hl
      refine lv_iload_n hx hb dX4_ring_2 rfl (lv_at hl 0 rfl) ?_
      refine lv_aload_n hx hb dX4_ring_3 rfl (lv_at hl 2 rfl) ?_
      refine va_getN (ci := 9) (v := .int n) (C := RX9) (T := TX9) (N := 10) hx hb hts hw9 hown hK hP 3 rfl rfl 4 (by decide) (nst_use hN 106 rfl) (fun _ h9 => h9) rfl dX4_ring_4 ?_
      refine lv_iconst (v := 1) hx hb dX4_ring_7 (by decide) ?_
      refine lv_isub hx hb dX4_ring_8 ?_
      refine lv_topi (fun x_1100 ex_1100 => ?_)
      have hx_1100 : x_1100.toInt = (n.toInt - 1) := by rw [ex_1100]; exact i_sub rfl (show (1 : Int32).toInt = 1 from rfl) (by omega)
      have j_1317 : ∀ (H : Heap) (locs : List Loc) (hP : va_P D vwCl [(p0, .inr (4, [.ref p1, .ref p2, .ref p3, .ref p4, .ref p5])), (p1, .inl (K 0, 8, .inl fd)), (p2, .inl (K 0, 8, .inl fp)), (t0, .inr (9, [.ref t1, k_1, .ref t2, k_3, .int n, k_5, k_6, k_7, k_8, .int ho])), (t1, .inl (K 0, 56, .inl f1)), (t2, .inl (K 0, 6, .inl f2))] H) (hD : va_D A [(p0, .inr (4, [.ref p1, .ref p2, .ref p3, .ref p4, .ref p5])), (p1, .inl (K 0, 8, .inl fd)), (p2, .inl (K 0, 8, .inl fp)), (t0, .inr (9, [.ref t1, k_1, .ref t2, k_3, .int n, k_5, k_6, k_7, k_8, .int ho])), (t1, .inl (K 0, 56, .inl f1)), (t2, .inl (K 0, 6, .inl f2))]) (hS : va_S A s.heap H locs) (ls : Array Slot) (hl : lv_has ls 6 [(3, .int v_1072), (0, .ref p0), (1, .ref t0)]), W p l e ({ frames := 1, cells := 0, slots := 0, locals := 23 }) s m (([.ref p0, .ref t0, .int x] : List Value).toArray) below meth c H locs 0 0 Q (F0 m 26 ls []) := by
        intro H locs hP hD hS ls hl
        refine lv_iconst (v := 0) hx hb dX4_ring_26 (by decide) ?_
        refine lv_istore (lv' := [(4, .int 0), (3, .int v_1072), (0, .ref p0), (1, .ref t0)]) hx hb dX4_ring_27 hl (by decide) rfl (fun ls hl => ?_)
        have lp_1345 : ∀ (nn_ : Nat) (v_1335 : Int32) (v_1336 : Int32) (hv_1335 : 0 ≤ v_1335.toInt ∧ v_1335.toInt ≤ 8) (hv_1336 : 0 ≤ v_1336.toInt ∧ v_1336.toInt ≤ 7) (hn : (9 - v_1335.toInt : Int).toNat < nn_) (H : Heap) (locs : List Loc) (hP : va_P D vwCl [(p0, .inr (4, [.ref p1, .ref p2, .ref p3, .ref p4, .ref p5])), (p1, .inl (K 0, 8, .inl fd)), (p2, .inl (K 0, 8, .inl fp)), (t0, .inr (9, [.ref t1, k_1, .ref t2, k_3, .int n, k_5, k_6, k_7, k_8, .int ho])), (t1, .inl (K 0, 56, .inl f1)), (t2, .inl (K 0, 6, .inl f2))] H) (hD : va_D A [(p0, .inr (4, [.ref p1, .ref p2, .ref p3, .ref p4, .ref p5])), (p1, .inl (K 0, 8, .inl fd)), (p2, .inl (K 0, 8, .inl fp)), (t0, .inr (9, [.ref t1, k_1, .ref t2, k_3, .int n, k_5, k_6, k_7, k_8, .int ho])), (t1, .inl (K 0, 56, .inl f1)), (t2, .inl (K 0, 6, .inl f2))]) (hS : va_S A s.heap H locs) (ls : Array Slot) (hl : lv_has ls 6 [(4, .int v_1335), (3, .int v_1336), (0, .ref p0), (1, .ref t0)]), W p l e ({ frames := 1, cells := 0, slots := 0, locals := 23 }) s m (([.ref p0, .ref t0, .int x] : List Value).toArray) below meth c H locs 0 0 Q (F0 m 29 ls []) := by
          intro nn_
          induction nn_ with
          | zero =>
            intro v_1335 v_1336 hv_1335 hv_1336 hn H locs hP hD hS ls hl
            exact absurd hn (Nat.not_lt_zero _)
          | succ nn_ ih_1346 =>
            intro v_1335 v_1336 hv_1335 hv_1336 hn H locs hP hD hS ls hl
            refine lv_iload hx hb dX4_ring_29 (lv_at hl 0 rfl) ?_
            refine lv_bipush (v := 8) hx hb dX4_ring_31 (by decide) ?_
            refine lv_icmp_ge (tgt := 49) hx hb dX4_ring_33 (by decide) (fun c_1347 => ?_) (fun c_1347 => ?_)
            · have c_1347i := i_le (x := 8) (y := v_1335.toInt) rfl rfl c_1347
              refine lv_iconst (v := 0) hx hb dX4_ring_49 (by decide) ?_
              refine lv_istore (lv' := [(4, .int 0), (3, .int v_1336), (0, .ref p0), (1, .ref t0)]) hx hb dX4_ring_50 hl (by decide) rfl (fun ls hl => ?_)
              refine lv_iconst (v := 0) hx hb dX4_ring_52 (by decide) ?_
              refine lv_istore (lv' := [(5, .int 0), (4, .int 0), (3, .int v_1336), (0, .ref p0), (1, .ref t0)]) hx hb dX4_ring_53 hl (by decide) rfl (fun ls hl => ?_)
              have lp_1502 : ∀ (nn_ : Nat) (v_1448 : Int32) (v_1449 : Int32) (v_1450 : Int32) (f_1451 : Nat → Int32) (hv_1448 : 0 ≤ v_1448.toInt ∧ v_1448.toInt ≤ 8) (hv_1449 : 0 ≤ v_1449.toInt ∧ v_1449.toInt ≤ 255) (hv_1450 : 0 ≤ v_1450.toInt ∧ v_1450.toInt ≤ 7) (hn : (9 - v_1448.toInt : Int).toNat < nn_) (H : Heap) (locs : List Loc) (hP : va_P D vwCl [(p0, .inr (4, [.ref p1, .ref p2, .ref p3, .ref p4, .ref p5])), (p1, .inl (K 0, 8, .inl f_1451)), (p2, .inl (K 0, 8, .inl fp)), (t0, .inr (9, [.ref t1, k_1, .ref t2, k_3, .int n, k_5, k_6, k_7, k_8, .int ho])), (t1, .inl (K 0, 56, .inl f1)), (t2, .inl (K 0, 6, .inl f2))] H) (hD : va_D A [(p0, .inr (4, [.ref p1, .ref p2, .ref p3, .ref p4, .ref p5])), (p1, .inl (K 0, 8, .inl f_1451)), (p2, .inl (K 0, 8, .inl fp)), (t0, .inr (9, [.ref t1, k_1, .ref t2, k_3, .int n, k_5, k_6, k_7, k_8, .int ho])), (t1, .inl (K 0, 56, .inl f1)), (t2, .inl (K 0, 6, .inl f2))]) (hS : va_S A s.heap H locs) (ls : Array Slot) (hl : lv_has ls 6 [(5, .int v_1448), (4, .int v_1449), (3, .int v_1450), (0, .ref p0), (1, .ref t0)]), W p l e ({ frames := 1, cells := 0, slots := 0, locals := 23 }) s m (([.ref p0, .ref t0, .int x] : List Value).toArray) below meth c H locs 0 0 Q (F0 m 55 ls []) := by
                intro nn_
                induction nn_ with
                | zero =>
                  intro v_1448 v_1449 v_1450 f_1451 hv_1448 hv_1449 hv_1450 hn H locs hP hD hS ls hl
                  exact absurd hn (Nat.not_lt_zero _)
                | succ nn_ ih_1503 =>
                  intro v_1448 v_1449 v_1450 f_1451 hv_1448 hv_1449 hv_1450 hn H locs hP hD hS ls hl
                  refine lv_iload hx hb dX4_ring_55 (lv_at hl 0 rfl) ?_
                  refine lv_bipush (v := 8) hx hb dX4_ring_57 (by decide) ?_
                  have j_1515 : ∀ (H : Heap) (locs : List Loc) (hP : va_P D vwCl [(p0, .inr (4, [.ref p1, .ref p2, .ref p3, .ref p4, .ref p5])), (p1, .inl (K 0, 8, .inl f_1451)), (p2, .inl (K 0, 8, .inl fp)), (t0, .inr (9, [.ref t1, k_1, .ref t2, k_3, .int n, k_5, k_6, k_7, k_8, .int ho])), (t1, .inl (K 0, 56, .inl f1)), (t2, .inl (K 0, 6, .inl f2))] H) (hD : va_D A [(p0, .inr (4, [.ref p1, .ref p2, .ref p3, .ref p4, .ref p5])), (p1, .inl (K 0, 8, .inl f_1451)), (p2, .inl (K 0, 8, .inl fp)), (t0, .inr (9, [.ref t1, k_1, .ref t2, k_3, .int n, k_5, k_6, k_7, k_8, .int ho])), (t1, .inl (K 0, 56, .inl f1)), (t2, .inl (K 0, 6, .inl f2))]) (hS : va_S A s.heap H locs) (ls : Array Slot) (hl : lv_has ls 6 [(4, .int v_1449)]), W p l e ({ frames := 1, cells := 0, slots := 0, locals := 23 }) s m (([.ref p0, .ref t0, .int x] : List Value).toArray) below meth c H locs 0 0 Q (F0 m 109 ls []) := by
                    intro H locs hP hD hS ls hl
                    refine lv_iload hx hb dX4_ring_109 (lv_at hl 0 rfl) ?_
                    subst hQ
                    have hP9 := hP.sub (ws' := [(p0, .inr (4, [.ref p1, .ref p2, .ref p3, .ref p4, .ref p5])), (p1, .inl (K 0, 8, .inl f_1451)), (p2, .inl (K 0, 8, .inl fp)), (t0, .inr (9, [.ref t1, k_1, .ref t2, k_3, .int n, k_5, k_6, k_7, k_8, .int ho])), (t1, .inl (K 0, 56, .inl f1)), (t2, .inl (K 0, 6, .inl f2))]) [0, 1, 2, 3, 4, 5] rfl
                    have hD9 := hD.sub (ws' := [(p0, .inr (4, [.ref p1, .ref p2, .ref p3, .ref p4, .ref p5])), (p1, .inl (K 0, 8, .inl f_1451)), (p2, .inl (K 0, 8, .inl fp)), (t0, .inr (9, [.ref t1, k_1, .ref t2, k_3, .int n, k_5, k_6, k_7, k_8, .int ho])), (t1, .inl (K 0, 56, .inl f1)), (t2, .inl (K 0, 6, .inl f2))]) [0, 1, 2, 3, 4, 5] (by decide) rfl
                    exact W.iret (v := v_1449) hx hb hr (fun t ht hW => ⟨⟨v_1449, ((fun _ => 0, fun i => match i with | _ => f_1451, fun _ => fun _ => 0, fun _ => 0, fun _ => 0, fun _ => fun _ => none) : Su), rfl, ⟨(show 0 ≤ v_1449.toInt ∧ v_1449.toInt ≤ 255 by omega), trivial⟩, (⟨by rw [ht]; exact hP9, hD9⟩ : Wd D A _ t)⟩, hS.F ht⟩) hS.2.2 dX4_ring_111
                  refine lv_icmp_ge (tgt := 109) hx hb dX4_ring_59 (by decide) (fun c_1516 => ?_) (fun c_1516 => ?_)
                  · have c_1516i := i_le (x := 8) (y := v_1448.toInt) rfl rfl c_1516
                    exact j_1515   _ _ hP hD hS ls (lv_sub hl [1] rfl)
                  · have c_1516i := i_nle (x := 8) (y := v_1448.toInt) rfl rfl c_1516
                    refine lv_iload hx hb dX4_ring_62 (lv_at hl 1 rfl) ?_
                    refine lv_iload_n hx hb dX4_ring_64 rfl (lv_at hl 2 rfl) ?_
                    refine lv_ishr hx hb dX4_ring_65 ?_
                    refine lv_topi (fun x_1517 ex_1517 => ?_)
                    have hx_1517 : 0 ≤ x_1517.toInt ∧ x_1517.toInt ≤ v_1449.toInt := by rw [ex_1517]; exact i_shr rfl (by omega)
                    refine lv_iconst (v := 1) hx hb dX4_ring_66 (by decide) ?_
                    refine lv_iand hx hb dX4_ring_67 ?_
                    refine lv_topi (fun x_1518 ex_1518 => ?_)
                    have hx_1518 : 0 ≤ x_1518.toInt ∧ x_1518.toInt ≤ 1 := by rw [ex_1518]; exact i_mask x_1517 1 rfl (by decide)
                    refine lv_if_ne (tgt := 109) hx hb dX4_ring_68 (by decide) (fun c_1519 => ?_) (fun c_1519 => ?_)
                    · have c_1519i := i_ne (x := x_1518.toInt) (y := 0) rfl rfl c_1519
                      exact j_1515   _ _ hP hD hS ls (lv_sub hl [1] rfl)
                    · have c_1519i := i_eq (x := x_1518.toInt) (y := 0) rfl rfl c_1519
                      refine lv_iload hx hb dX4_ring_71 (lv_at hl 1 rfl) ?_
                      refine lv_iconst (v := 1) hx hb dX4_ring_73 (by decide) ?_
                      refine lv_iload_n hx hb dX4_ring_74 rfl (lv_at hl 2 rfl) ?_
                      refine lv_ishl hx hb dX4_ring_75 ?_
                      refine lv_topi (fun x_1520 ex_1520 => ?_)
                      have hx_1520 : 1 ≤ x_1520.toInt ∧ x_1520.toInt ≤ 128 := by rw [ex_1520]; exact i_shl1 rfl (n := 7) (by decide) (by omega)
                      refine lv_ior hx hb dX4_ring_76 ?_
                      refine lv_topi (fun x_1521 ex_1521 => ?_)
                      have hx_1521 : 0 ≤ x_1521.toInt ∧ x_1521.toInt < 256 := by rw [ex_1521]; exact i_or (k := 8) rfl rfl (by decide) (by omega) (by omega)
                      refine lv_istore (lv' := [(4, .int x_1521), (5, .int v_1448), (3, .int v_1450), (0, .ref p0), (1, .ref t0)]) hx hb dX4_ring_77 hl (by decide) rfl (fun ls hl => ?_)
                      refine lv_aload_n hx hb dX4_ring_79 rfl (lv_at hl 3 rfl) ?_
                      refine va_get (ci := 4) (v := .ref p1) (C := RX4) (T := TX4) (N := 5) hx hb hts hw4 hown hK hP 0 rfl rfl 0 (by decide) (hts (.fieldLink RX4 9 "SmokeTune$Paper" "dinners" "[I") (List.mem_cons_of_mem _ (List.mem_append_left _ (List.mem_append_left _ (List.mem_of_getElem? (i := 1) rfl))))) (fun _ h9 => h9) rfl dX4_ring_80 ?_
                      refine lv_iload_n hx hb dX4_ring_83 rfl (lv_at hl 2 rfl) ?_
                      refine lv_aload_n hx hb dX4_ring_84 rfl (lv_at hl 4 rfl) ?_
                      refine lv_aload_n hx hb dX4_ring_85 rfl (lv_at hl 3 rfl) ?_
                      refine va_get (ci := 4) (v := .ref p2) (C := RX4) (T := TX4) (N := 5) hx hb hts hw4 hown hK hP 0 rfl rfl 1 (by decide) (hts (.fieldLink RX4 15 "SmokeTune$Paper" "pointed" "[I") (List.mem_cons_of_mem _ (List.mem_append_left _ (List.mem_append_left _ (List.mem_of_getElem? (i := 0) rfl))))) (fun _ h9 => h9) rfl dX4_ring_86 ?_
                      refine lv_iload_n hx hb dX4_ring_89 rfl (lv_at hl 2 rfl) ?_
                      refine va_iald hx hb hK hP 2 0 rfl rfl (i_in rfl (by omega)) dX4_ring_90 ?_
                      refine lv_topi (fun x_1522 ex_1522 => ?_)
                      have hx_1522 := Rg.at zfp rfl (show 0 ≤ v_1450.toInt ∧ v_1450.toInt < _ by omega)
                      rw [← ex_1522] at hx_1522
                      refine lv_iconst (v := 3) hx hb dX4_ring_91 (by decide) ?_
                      refine pci (va_runVN (As := [.int x_1522, .int 3]) (rest := [.int v_1450, .ref p1]) ⟨hx, hb, hml, hown, hts⟩ (w_fact l D K t0 x_1522 3 t1 k_1 (.ref t2) k_3 (.int n) k_5 k_6 k_7 k_8 (.int ho) f1 H.size) ⟨va_cnB 2 hts gX4_ring_X9_fact_n45 rfl rfl rfl (nst_at hN 84 rfl) (hts (.initialized RX9) (List.mem_cons_of_mem _ (List.mem_append_left _ (List.mem_append_left _ (List.mem_of_getElem? (i := 3) rfl))))) (by decide +kernel) ⟨Nat.le_of_ble_eq_true rfl, Nat.le_of_ble_eq_true rfl⟩, (hts (.instanceMethod yX9_fact) (List.mem_cons_of_mem _ (List.mem_append_left _ (List.mem_append_left _ (List.mem_of_getElem? (i := 2) rfl))))), (hts (.selects RX9 yX9_fact yX9_fact) (List.mem_cons_of_mem _ (List.mem_append_left _ (List.mem_append_left _ (List.mem_of_getElem? (i := 4) rfl)))))⟩ (mkV hK hN (hP.sub [3, 4] rfl) (hD.sub [3, 4] (by decide) rfl) (ci := 9) (q0 := 0) rfl rfl) rfl rfl hl.1 rfl (lv_room (Nat.le_of_ble_eq_true rfl)) dX4_ring_92 ⟨Nat.le_of_ble_eq_true rfl, Nat.le_of_ble_eq_true rfl⟩) (fun r_1523 hw => ?_)
                      refine va_iast hx hb hK hP hD hS 1 0 rfl rfl (i_in rfl (by omega)) dX4_ring_95 (fun H locs hP hD hS => ?_)
                      generalize hf_1524 : (upd f_1451 (v_1450 : Int32).toNatClampNeg r_1523) = f_1524 at hP hD
                      have hP : va_P D vwCl [(p0, .inr (4, [.ref p1, .ref p2, .ref p3, .ref p4, .ref p5])), (p1, .inl (K 0, 8, .inl f_1524)), (p2, .inl (K 0, 8, .inl fp)), (t0, .inr (9, [.ref t1, k_1, .ref t2, k_3, .int n, k_5, k_6, k_7, k_8, .int ho])), (t1, .inl (K 0, 56, .inl f1)), (t2, .inl (K 0, 6, .inl f2))] H := hP
                      have hD : va_D A [(p0, .inr (4, [.ref p1, .ref p2, .ref p3, .ref p4, .ref p5])), (p1, .inl (K 0, 8, .inl f_1524)), (p2, .inl (K 0, 8, .inl fp)), (t0, .inr (9, [.ref t1, k_1, .ref t2, k_3, .int n, k_5, k_6, k_7, k_8, .int ho])), (t1, .inl (K 0, 56, .inl f1)), (t2, .inl (K 0, 6, .inl f2))] := hD
                      refine lv_aload_n hx hb dX4_ring_96 rfl (lv_at hl 3 rfl) ?_
                      refine va_get (ci := 4) (v := .ref p2) (C := RX4) (T := TX4) (N := 5) hx hb hts hw4 hown hK hP 0 rfl rfl 1 (by decide) (hts (.fieldLink RX4 15 "SmokeTune$Paper" "pointed" "[I") (List.mem_cons_of_mem _ (List.mem_append_left _ (List.mem_append_left _ (List.mem_of_getElem? (i := 0) rfl))))) (fun _ h9 => h9) rfl dX4_ring_97 ?_
                      refine lv_iload_n hx hb dX4_ring_100 rfl (lv_at hl 2 rfl) ?_
                      refine va_iald hx hb hK hP 2 0 rfl rfl (i_in rfl (by omega)) dX4_ring_101 ?_
                      refine lv_topi (fun x_1525 ex_1525 => ?_)
                      have hx_1525 := Rg.at zfp rfl (show 0 ≤ v_1450.toInt ∧ v_1450.toInt < _ by omega)
                      rw [← ex_1525] at hx_1525
                      refine lv_istore_n (lv' := [(3, .int x_1525), (4, .int x_1521), (5, .int v_1448), (0, .ref p0), (1, .ref t0)]) hx hb dX4_ring_102 rfl hl (by decide) rfl (fun ls hl => ?_)
                      obtain ⟨x_1526, ex_1526⟩ : ∃ y : Int32, y = v_1448 + Int32.ofInt 1 := ⟨_, rfl⟩
                      have hx_1526 : x_1526.toInt = (v_1448.toInt + 1) := by rw [ex_1526]; exact i_add rfl (show (Int32.ofInt 1).toInt = 1 from rfl) (by omega)
                      refine lv_iinc (v := x_1526) (lv' := [(5, .int x_1526), (3, .int x_1525), (4, .int x_1521), (0, .ref p0), (1, .ref t0)]) hx hb dX4_ring_103 hl (k := 2) rfl (by rw [ex_1526]) (by decide) rfl (fun ls hl => ?_)
                      refine lv_goto (tgt := 55) hx hb dX4_ring_106 (by decide) ?_
                      exact ih_1503 x_1526 x_1521 x_1525 f_1524 (by rw [hx_1526]; omega) (by omega) (by omega) (by omega) _ _ hP hD hS ls (lv_sub hl [0, 2, 1, 3, 4] rfl)
              exact lp_1502 ((9 - (0 : Int32).toInt : Int).toNat + 1) 0 0 v_1336 fd (by decide) (by decide) (by omega) (Nat.lt_succ_self _) _ _ hP hD hS ls (lv_sub hl [0, 1, 2, 3, 4] rfl)
            · have c_1347i := i_nle (x := 8) (y := v_1335.toInt) rfl rfl c_1347
              refine lv_aload_n hx hb dX4_ring_36 rfl (lv_at hl 2 rfl) ?_
              refine va_get (ci := 4) (v := .ref p2) (C := RX4) (T := TX4) (N := 5) hx hb hts hw4 hown hK hP 0 rfl rfl 1 (by decide) (hts (.fieldLink RX4 15 "SmokeTune$Paper" "pointed" "[I") (List.mem_cons_of_mem _ (List.mem_append_left _ (List.mem_append_left _ (List.mem_of_getElem? (i := 0) rfl))))) (fun _ h9 => h9) rfl dX4_ring_37 ?_
              refine lv_iload_n hx hb dX4_ring_40 rfl (lv_at hl 1 rfl) ?_
              refine va_iald hx hb hK hP 2 0 rfl rfl (i_in rfl (by omega)) dX4_ring_41 ?_
              refine lv_topi (fun x_1527 ex_1527 => ?_)
              have hx_1527 := Rg.at zfp rfl (show 0 ≤ v_1336.toInt ∧ v_1336.toInt < _ by omega)
              rw [← ex_1527] at hx_1527
              refine lv_istore_n (lv' := [(3, .int x_1527), (4, .int v_1335), (0, .ref p0), (1, .ref t0)]) hx hb dX4_ring_42 rfl hl (by decide) rfl (fun ls hl => ?_)
              obtain ⟨x_1528, ex_1528⟩ : ∃ y : Int32, y = v_1335 + Int32.ofInt 1 := ⟨_, rfl⟩
              have hx_1528 : x_1528.toInt = (v_1335.toInt + 1) := by rw [ex_1528]; exact i_add rfl (show (Int32.ofInt 1).toInt = 1 from rfl) (by omega)
              refine lv_iinc (v := x_1528) (lv' := [(4, .int x_1528), (3, .int x_1527), (0, .ref p0), (1, .ref t0)]) hx hb dX4_ring_43 hl (k := 1) rfl (by rw [ex_1528]) (by decide) rfl (fun ls hl => ?_)
              refine lv_goto (tgt := 29) hx hb dX4_ring_46 (by decide) ?_
              exact ih_1346 x_1528 x_1527 (by rw [hx_1528]; omega) (by omega) (by omega) _ _ hP hD hS ls (lv_sub hl [0, 1, 2, 3] rfl)
        exact lp_1345 ((9 - (0 : Int32).toInt : Int).toNat + 1) 0 v_1072 (by decide) (by omega) (Nat.lt_succ_self _) _ _ hP hD hS ls (lv_sub hl [0, 1, 2, 3] rfl)
      refine lv_icmp_ge (tgt := 26) hx hb dX4_ring_9 (by decide) (fun c_1529 => ?_) (fun c_1529 => ?_)
      · have c_1529i := i_le (x := (n.toInt - 1)) (y := v_1072.toInt) hx_1100 rfl c_1529
        exact j_1317   _ _ hP hD hS ls (lv_sub hl [0, 1, 2] rfl)
      · have c_1529i := i_nle (x := (n.toInt - 1)) (y := v_1072.toInt) hx_1100 rfl c_1529
        refine lv_iload_n hx hb dX4_ring_12 rfl (lv_at hl 3 rfl) ?_
        refine lv_iload_n hx hb dX4_ring_13 rfl (lv_at hl 0 rfl) ?_
        refine lv_ishr hx hb dX4_ring_14 ?_
        refine lv_topi (fun x_1530 ex_1530 => ?_)
        refine lv_iconst (v := 1) hx hb dX4_ring_15 (by decide) ?_
        refine lv_iand hx hb dX4_ring_16 ?_
        refine lv_topi (fun x_1531 ex_1531 => ?_)
        have hx_1531 : 0 ≤ x_1531.toInt ∧ x_1531.toInt ≤ 1 := by rw [ex_1531]; exact i_mask x_1530 1 rfl (by decide)
        refine lv_if_ne (tgt := 26) hx hb dX4_ring_17 (by decide) (fun c_1532 => ?_) (fun c_1532 => ?_)
        · have c_1532i := i_ne (x := x_1531.toInt) (y := 0) rfl rfl c_1532
          exact j_1317   _ _ hP hD hS ls (lv_sub hl [0, 1, 2] rfl)
        · have c_1532i := i_eq (x := x_1531.toInt) (y := 0) rfl rfl c_1532
          obtain ⟨x_1533, ex_1533⟩ : ∃ y : Int32, y = v_1072 + Int32.ofInt 1 := ⟨_, rfl⟩
          have hx_1533 : x_1533.toInt = (v_1072.toInt + 1) := by rw [ex_1533]; exact i_add rfl (show (Int32.ofInt 1).toInt = 1 from rfl) (by omega)
          refine lv_iinc (v := x_1533) (lv' := [(3, .int x_1533), (0, .ref p0), (1, .ref t0), (2, .int x)]) hx hb dX4_ring_20 hl (k := 0) rfl (by rw [ex_1533]) (by decide) rfl (fun ls hl => ?_)
          refine lv_goto (tgt := 2) hx hb dX4_ring_23 (by decide) ?_
          exact ih_1099 x_1533 (by rw [hx_1533]; omega) (by omega) _ _ hP hD hS ls (lv_sub hl [0, 1, 2, 3] rfl)
  exact lp_1098 ((8 - (0 : Int32).toInt : Int).toNat + 1) 0 (by decide) (Nat.lt_succ_self _) _ _ hP hD hS ls (lv_sub hl [0, 1, 2, 3] rfl)
set_option maxHeartbeats 4000000 in
set_option maxRecDepth 100000 in
theorem w_swapped (l : Launch) (D : va_G) (K : Nat → ClassId) (p0 : Nat) (t0 : Nat) (x : Int32) (p1 : Nat) (p2 : Nat) (p3 : Nat) (p4 : Nat) (p5 : Nat) (fd : Nat → Int32) (fp : Nat → Int32) (t1 : Nat) (k_1 : Value) (t2 : Nat) (k_3 : Value) (n : Int32) (k_5 : Value) (k_6 : Value) (k_7 : Value) (k_8 : Value) (ho : Int32) (f1 : Nat → Int32) (f2 : Nat → Int32) (sz : Nat) (zn : 1 ≤ n.toInt ∧ n.toInt ≤ 8) (zfp : Rg 8 0 7 fp) : Met l yX4_swapped wsX4_swapped ({ frames := 2, cells := 0, slots := 0, locals := 51 }) (va_Pc [.ref p0, .ref t0, .int x] (Pre D K [(p0, .inr (4, [.ref p1, .ref p2, .ref p3, .ref p4, .ref p5])), (p1, .inl (K 0, 8, .inl fd)), (p2, .inl (K 0, 8, .inl fp)), (t0, .inr (9, [.ref t1, k_1, .ref t2, k_3, .int n, k_5, k_6, k_7, k_8, .int ho])), (t1, .inl (K 0, 56, .inl f1)), (t2, .inl (K 0, 6, .inl f2))] sz)) (va_Qi (S := Su) (fun (r : Int32) (u : Su) => (Rg 8 0 7 (u.2.1 1)) ∧ True) (fun u t => Wd D (va_A [(p0, .inr (4, [.ref p1, .ref p2, .ref p3, .ref p4, .ref p5])), (p1, .inl (K 0, 8, .inl fd)), (p2, .inl (K 0, 8, .inl fp)), (t0, .inr (9, [.ref t1, k_1, .ref t2, k_3, .int n, k_5, k_6, k_7, k_8, .int ho])), (t1, .inl (K 0, 56, .inl f1)), (t2, .inl (K 0, 6, .inl f2))] sz) ((fun u => [(p0, .inr (4, [.ref p1, .ref p2, .ref p3, .ref p4, .ref p5])), (p1, .inl (K 0, 8, .inl (u.2.1 0))), (p2, .inl (K 0, 8, .inl (u.2.1 1))), (t0, .inr (9, [.ref t1, k_1, .ref t2, k_3, .int n, k_5, k_6, k_7, k_8, .int ho])), (t1, .inl (K 0, 56, .inl f1)), (t2, .inl (K 0, 6, .inl f2))]) u) t) (va_A [(p0, .inr (4, [.ref p1, .ref p2, .ref p3, .ref p4, .ref p5])), (p1, .inl (K 0, 8, .inl fd)), (p2, .inl (K 0, 8, .inl fp)), (t0, .inr (9, [.ref t1, k_1, .ref t2, k_3, .int n, k_5, k_6, k_7, k_8, .int ho])), (t1, .inl (K 0, 56, .inl f1)), (t2, .inl (K 0, 6, .inl f2))] sz)) 0 0 (va_A [(p0, .inr (4, [.ref p1, .ref p2, .ref p3, .ref p4, .ref p5])), (p1, .inl (K 0, 8, .inl fd)), (p2, .inl (K 0, 8, .inl fp)), (t0, .inr (9, [.ref t1, k_1, .ref t2, k_3, .int n, k_5, k_6, k_7, k_8, .int ho])), (t1, .inl (K 0, 56, .inl f1)), (t2, .inl (K 0, 6, .inl f2))] sz) := by
  refine Met.ofW (cc := cX4_swapped) (maxL := 6) (ret := (some .int)) (by decide) rfl ?_
  intro p e s m args below meth c s₁ B hml hv
  obtain ⟨rfl, hsz, hP, hK, hD0, hN⟩ := hv
  have hx := B.exec
  have hb := B.bytes
  have hr := B.returns
  have hts := atoms_spec (ws := wsX4_swapped) B.pre
  have hown : s.vm.findClass RX4 = some m.cls := findClass_of_methodNamed B.named
  have hlocks := B.notSynchronized
  subst hsz
  have hD := hD0.self (sz := s.heap.size)
  generalize hAe : va_A [(p0, .inr (4, [.ref p1, .ref p2, .ref p3, .ref p4, .ref p5])), (p1, .inl (K 0, 8, .inl fd)), (p2, .inl (K 0, 8, .inl fp)), (t0, .inr (9, [.ref t1, k_1, .ref t2, k_3, .int n, k_5, k_6, k_7, k_8, .int ho])), (t1, .inl (K 0, 56, .inl f1)), (t2, .inl (K 0, 6, .inl f2))] s.heap.size = A at hD ⊢
  have hA : ∀ q : Nat, s.heap.size ≤ q → A q := fun q h => by rw [← hAe]; exact Or.inr h
  have hS : va_S A s.heap s.heap [] := va_S.rf
  have hP : va_P D vwCl [(p0, .inr (4, [.ref p1, .ref p2, .ref p3, .ref p4, .ref p5])), (p1, .inl (K 0, 8, .inl fd)), (p2, .inl (K 0, 8, .inl fp)), (t0, .inr (9, [.ref t1, k_1, .ref t2, k_3, .int n, k_5, k_6, k_7, k_8, .int ho])), (t1, .inl (K 0, 56, .inl f1)), (t2, .inl (K 0, 6, .inl f2))] s.heap := hP
  have hl := lv_entry [.ref p0, .ref t0, .int x] (n := 6) (Nat.le_of_ble_eq_true rfl)
  rw [lg_entry_eq]
  generalize (lg_sl [.ref p0, .ref t0, .int x] ++ List.replicate (6 - (lg_sl [.ref p0, .ref t0, .int x]).length) Slot.unset).toArray = ls at hl ⊢
  have hl : lv_has ls 6 [(0, .ref p0), (1, .ref t0), (2, .int x)] := hl
  have hw4 : ∀ w ∈ wsX40, w ∈ wsX4_swapped := fun w h => (List.mem_cons_of_mem _ (List.mem_append_right _ h))
  have hw9 : ∀ w ∈ wsX90, w ∈ wsX4_swapped := fun w h => (List.mem_cons_of_mem _ (List.mem_append_left _ (List.mem_append_right _ h)))
  generalize hQ : MQ below _ _ s _ _ _ = Q
  refine lv_iconst (v := 1) hx hb dX4_swapped_0 (by decide) ?_
  refine lv_aload_n hx hb dX4_swapped_1 rfl (lv_at hl 1 rfl) ?_
  refine va_getN (ci := 9) (v := .int n) (C := RX9) (T := TX9) (N := 10) hx hb hts hw9 hown hK hP 3 rfl rfl 4 (by decide) (nst_use hN 106 rfl) (fun _ h9 => h9) rfl dX4_swapped_2 ?_
  refine lv_ishl hx hb dX4_swapped_5 ?_
  refine lv_topi (fun x_1595 ex_1595 => ?_)
  have hx_1595 : 1 ≤ x_1595.toInt ∧ x_1595.toInt ≤ 256 := by rw [ex_1595]; exact i_shl1 rfl (n := 8) (by decide) (by omega)
  refine lv_iconst (v := 1) hx hb dX4_swapped_6 (by decide) ?_
  refine lv_isub hx hb dX4_swapped_7 ?_
  refine lv_topi (fun x_1596 ex_1596 => ?_)
  have hx_1596 : x_1596.toInt = (x_1595.toInt - 1) := by rw [ex_1596]; exact i_sub rfl (show (1 : Int32).toInt = 1 from rfl) (by omega)
  refine lv_istore_n (lv' := [(3, .int x_1596), (0, .ref p0), (1, .ref t0), (2, .int x)]) hx hb dX4_swapped_8 rfl hl (by decide) rfl (fun ls hl => ?_)
  refine lv_iconst (v := 0) hx hb dX4_swapped_9 (by decide) ?_
  refine lv_istore (lv' := [(4, .int 0), (3, .int x_1596), (0, .ref p0), (1, .ref t0), (2, .int x)]) hx hb dX4_swapped_10 hl (by decide) rfl (fun ls hl => ?_)
  have lp_2267 : ∀ (nn_ : Nat) (v_2041 : Int32) (v_2042 : Int32) (f_2043 : Nat → Int32) (f_2044 : Nat → Int32) (hv_2041 : 0 ≤ v_2041.toInt ∧ v_2041.toInt ≤ 8) (hv_2042 : 0 ≤ v_2042.toInt ∧ v_2042.toInt ≤ 255) (hf_2044_0 : Rg 8 0 7 f_2044) (hn : (9 - v_2041.toInt : Int).toNat < nn_) (H : Heap) (locs : List Loc) (hP : va_P D vwCl [(p0, .inr (4, [.ref p1, .ref p2, .ref p3, .ref p4, .ref p5])), (p1, .inl (K 0, 8, .inl f_2043)), (p2, .inl (K 0, 8, .inl f_2044)), (t0, .inr (9, [.ref t1, k_1, .ref t2, k_3, .int n, k_5, k_6, k_7, k_8, .int ho])), (t1, .inl (K 0, 56, .inl f1)), (t2, .inl (K 0, 6, .inl f2))] H) (hD : va_D A [(p0, .inr (4, [.ref p1, .ref p2, .ref p3, .ref p4, .ref p5])), (p1, .inl (K 0, 8, .inl f_2043)), (p2, .inl (K 0, 8, .inl f_2044)), (t0, .inr (9, [.ref t1, k_1, .ref t2, k_3, .int n, k_5, k_6, k_7, k_8, .int ho])), (t1, .inl (K 0, 56, .inl f1)), (t2, .inl (K 0, 6, .inl f2))]) (hS : va_S A s.heap H locs) (ls : Array Slot) (hl : lv_has ls 6 [(4, .int v_2041), (3, .int v_2042), (0, .ref p0), (1, .ref t0), (2, .int x)]), W p l e ({ frames := 2, cells := 0, slots := 0, locals := 51 }) s m (([.ref p0, .ref t0, .int x] : List Value).toArray) below meth c H locs 0 0 Q (F0 m 12 ls []) := by
    intro nn_
    induction nn_ with
    | zero =>
      intro v_2041 v_2042 f_2043 f_2044 hv_2041 hv_2042 hf_2044_0 hn H locs hP hD hS ls hl
      exact absurd hn (Nat.not_lt_zero _)
    | succ nn_ ih_2268 =>
      intro v_2041 v_2042 f_2043 f_2044 hv_2041 hv_2042 hf_2044_0 hn H locs hP hD hS ls hl
      refine lv_iload hx hb dX4_swapped_12 (lv_at hl 0 rfl) ?_
      refine lv_bipush (v := 8) hx hb dX4_swapped_14 (by decide) ?_
      have j_2330 : ∀ (H : Heap) (locs : List Loc) (hP : va_P D vwCl [(p0, .inr (4, [.ref p1, .ref p2, .ref p3, .ref p4, .ref p5])), (p1, .inl (K 0, 8, .inl f_2043)), (p2, .inl (K 0, 8, .inl f_2044)), (t0, .inr (9, [.ref t1, k_1, .ref t2, k_3, .int n, k_5, k_6, k_7, k_8, .int ho])), (t1, .inl (K 0, 56, .inl f1)), (t2, .inl (K 0, 6, .inl f2))] H) (hD : va_D A [(p0, .inr (4, [.ref p1, .ref p2, .ref p3, .ref p4, .ref p5])), (p1, .inl (K 0, 8, .inl f_2043)), (p2, .inl (K 0, 8, .inl f_2044)), (t0, .inr (9, [.ref t1, k_1, .ref t2, k_3, .int n, k_5, k_6, k_7, k_8, .int ho])), (t1, .inl (K 0, 56, .inl f1)), (t2, .inl (K 0, 6, .inl f2))]) (hS : va_S A s.heap H locs) (ls : Array Slot) (hl : lv_has ls 6 [(0, .ref p0), (2, .int x)]), W p l e ({ frames := 2, cells := 0, slots := 0, locals := 51 }) s m (([.ref p0, .ref t0, .int x] : List Value).toArray) below meth c H locs 0 0 Q (F0 m 73 ls []) := by
        intro H locs hP hD hS ls hl
        refine lv_iload_n hx hb dX4_swapped_73 rfl (lv_at hl 1 rfl) ?_
        refine lv_iconst (v := 0) hx hb dX4_swapped_74 (by decide) ?_
        refine lv_bipush (v := 7) hx hb dX4_swapped_75 (by decide) ?_
        refine pci (va_runSN (As := [.int x, .int 0, .int 7]) (rest := []) ⟨hx, hb, hml, hown, hts⟩ (w_within l D K x.toInt 0 7 x 0 7 H.size rfl (show (0 : Int32).toInt = 0 from rfl) (show (7 : Int32).toInt = 7 from rfl)) ⟨va_cnB 3 hts gX4_swapped_X11_within_n41 rfl rfl rfl (nst_at hN 85 rfl) (hts (.initialized RX11) (List.mem_cons_of_mem _ (List.mem_append_left _ (List.mem_append_left _ (List.mem_of_getElem? (i := 21) rfl))))) (by decide +kernel) ⟨Nat.le_of_ble_eq_true rfl, Nat.le_of_ble_eq_true rfl⟩, (hts (.static yX11_within) (List.mem_cons_of_mem _ (List.mem_append_left _ (List.mem_append_left _ (List.mem_of_getElem? (i := 20) rfl))))), trivial⟩ (mkS hK hN (va_P.nil) (va_D.nil (A := fun _ => True))) rfl rfl hl.1 rfl (lv_room (Nat.le_of_ble_eq_true rfl)) dX4_swapped_77 ⟨Nat.le_of_ble_eq_true rfl, Nat.le_of_ble_eq_true rfl⟩) (fun r_2331 hw => ?_)
        obtain ⟨hw, -⟩ := hw
        rcases hw with ⟨rfl, h_2332, h_2333⟩ | ⟨rfl, h_2334⟩
        · refine lv_if_eq (tgt := 92) hx hb dX4_swapped_80 (by decide) (fun c_2335 => absurd c_2335 (by decide)) (fun c_2335 => ?_)
          refine lv_aload_n hx hb dX4_swapped_83 rfl (lv_at hl 0 rfl) ?_
          refine va_get (ci := 4) (v := .ref p1) (C := RX4) (T := TX4) (N := 5) hx hb hts hw4 hown hK hP 0 rfl rfl 0 (by decide) (hts (.fieldLink RX4 9 "SmokeTune$Paper" "dinners" "[I") (List.mem_cons_of_mem _ (List.mem_append_left _ (List.mem_append_left _ (List.mem_of_getElem? (i := 1) rfl))))) (fun _ h9 => h9) rfl dX4_swapped_84 ?_
          refine lv_iload_n hx hb dX4_swapped_87 rfl (lv_at hl 1 rfl) ?_
          refine va_iald hx hb hK hP 1 0 rfl rfl (i_in rfl (by omega)) dX4_swapped_88 ?_
          refine lv_topi (fun x_2336 ex_2336 => ?_)
          refine lv_goto (tgt := 93) hx hb dX4_swapped_89 (by decide) ?_
          subst hQ
          have hP9 := hP.sub (ws' := [(p0, .inr (4, [.ref p1, .ref p2, .ref p3, .ref p4, .ref p5])), (p1, .inl (K 0, 8, .inl f_2043)), (p2, .inl (K 0, 8, .inl f_2044)), (t0, .inr (9, [.ref t1, k_1, .ref t2, k_3, .int n, k_5, k_6, k_7, k_8, .int ho])), (t1, .inl (K 0, 56, .inl f1)), (t2, .inl (K 0, 6, .inl f2))]) [0, 1, 2, 3, 4, 5] rfl
          have hD9 := hD.sub (ws' := [(p0, .inr (4, [.ref p1, .ref p2, .ref p3, .ref p4, .ref p5])), (p1, .inl (K 0, 8, .inl f_2043)), (p2, .inl (K 0, 8, .inl f_2044)), (t0, .inr (9, [.ref t1, k_1, .ref t2, k_3, .int n, k_5, k_6, k_7, k_8, .int ho])), (t1, .inl (K 0, 56, .inl f1)), (t2, .inl (K 0, 6, .inl f2))]) [0, 1, 2, 3, 4, 5] (by decide) rfl
          exact W.iret (v := x_2336) hx hb hr (fun t ht hW => ⟨⟨x_2336, ((fun _ => 0, fun i => match i with | 0 => f_2043 | _ => f_2044, fun _ => fun _ => 0, fun _ => 0, fun _ => 0, fun _ => fun _ => none) : Su), rfl, ⟨hf_2044_0, trivial⟩, (⟨by rw [ht]; exact hP9, hD9⟩ : Wd D A _ t)⟩, hS.F ht⟩) hS.2.2 dX4_swapped_93
        · refine lv_if_eq (tgt := 92) hx hb dX4_swapped_80 (by decide) (fun c_2337 => ?_) (fun c_2337 => absurd (by decide) c_2337)
          refine lv_iconst (v := (-1)) hx hb dX4_swapped_92 (by decide) ?_
          subst hQ
          have hP9 := hP.sub (ws' := [(p0, .inr (4, [.ref p1, .ref p2, .ref p3, .ref p4, .ref p5])), (p1, .inl (K 0, 8, .inl f_2043)), (p2, .inl (K 0, 8, .inl f_2044)), (t0, .inr (9, [.ref t1, k_1, .ref t2, k_3, .int n, k_5, k_6, k_7, k_8, .int ho])), (t1, .inl (K 0, 56, .inl f1)), (t2, .inl (K 0, 6, .inl f2))]) [0, 1, 2, 3, 4, 5] rfl
          have hD9 := hD.sub (ws' := [(p0, .inr (4, [.ref p1, .ref p2, .ref p3, .ref p4, .ref p5])), (p1, .inl (K 0, 8, .inl f_2043)), (p2, .inl (K 0, 8, .inl f_2044)), (t0, .inr (9, [.ref t1, k_1, .ref t2, k_3, .int n, k_5, k_6, k_7, k_8, .int ho])), (t1, .inl (K 0, 56, .inl f1)), (t2, .inl (K 0, 6, .inl f2))]) [0, 1, 2, 3, 4, 5] (by decide) rfl
          exact W.iret (v := (-1)) hx hb hr (fun t ht hW => ⟨⟨(-1), ((fun _ => 0, fun i => match i with | 0 => f_2043 | _ => f_2044, fun _ => fun _ => 0, fun _ => 0, fun _ => 0, fun _ => fun _ => none) : Su), rfl, ⟨hf_2044_0, trivial⟩, (⟨by rw [ht]; exact hP9, hD9⟩ : Wd D A _ t)⟩, hS.F ht⟩) hS.2.2 dX4_swapped_93
      refine lv_icmp_ge (tgt := 73) hx hb dX4_swapped_16 (by decide) (fun c_2338 => ?_) (fun c_2338 => ?_)
      · have c_2338i := i_le (x := 8) (y := v_2041.toInt) rfl rfl c_2338
        exact j_2330   _ _ hP hD hS ls (lv_sub hl [2, 4] rfl)
      · have c_2338i := i_nle (x := 8) (y := v_2041.toInt) rfl rfl c_2338
        refine lv_iload_n hx hb dX4_swapped_19 rfl (lv_at hl 1 rfl) ?_
        refine lv_if_eq (tgt := 73) hx hb dX4_swapped_20 (by decide) (fun c_2339 => ?_) (fun c_2339 => ?_)
        · have c_2339i := i_eq (x := v_2042.toInt) (y := 0) rfl rfl c_2339
          exact j_2330   _ _ hP hD hS ls (lv_sub hl [2, 4] rfl)
        · have c_2339i := i_ne (x := v_2042.toInt) (y := 0) rfl rfl c_2339
          refine lv_iconst (v := 0) hx hb dX4_swapped_23 (by decide) ?_
          refine lv_istore (lv' := [(5, .int 0), (4, .int v_2041), (3, .int v_2042), (0, .ref p0), (1, .ref t0), (2, .int x)]) hx hb dX4_swapped_24 hl (by decide) rfl (fun ls hl => ?_)
          have lp_2379 : ∀ (nn_ : Nat) (v_2365 : Int32) (f_2366 : Nat → Int32) (hv_2365 : 0 ≤ v_2365.toInt ∧ v_2365.toInt ≤ 8) (hf_2366_0 : Rg 8 0 7 f_2366) (hn : (9 - v_2365.toInt : Int).toNat < nn_) (H : Heap) (locs : List Loc) (hP : va_P D vwCl [(p0, .inr (4, [.ref p1, .ref p2, .ref p3, .ref p4, .ref p5])), (p1, .inl (K 0, 8, .inl f_2043)), (p2, .inl (K 0, 8, .inl f_2366)), (t0, .inr (9, [.ref t1, k_1, .ref t2, k_3, .int n, k_5, k_6, k_7, k_8, .int ho])), (t1, .inl (K 0, 56, .inl f1)), (t2, .inl (K 0, 6, .inl f2))] H) (hD : va_D A [(p0, .inr (4, [.ref p1, .ref p2, .ref p3, .ref p4, .ref p5])), (p1, .inl (K 0, 8, .inl f_2043)), (p2, .inl (K 0, 8, .inl f_2366)), (t0, .inr (9, [.ref t1, k_1, .ref t2, k_3, .int n, k_5, k_6, k_7, k_8, .int ho])), (t1, .inl (K 0, 56, .inl f1)), (t2, .inl (K 0, 6, .inl f2))]) (hS : va_S A s.heap H locs) (ls : Array Slot) (hl : lv_has ls 6 [(5, .int v_2365), (4, .int v_2041), (3, .int v_2042), (0, .ref p0), (1, .ref t0), (2, .int x)]), W p l e ({ frames := 2, cells := 0, slots := 0, locals := 51 }) s m (([.ref p0, .ref t0, .int x] : List Value).toArray) below meth c H locs 0 0 Q (F0 m 26 ls []) := by
            intro nn_
            induction nn_ with
            | zero =>
              intro v_2365 f_2366 hv_2365 hf_2366_0 hn H locs hP hD hS ls hl
              exact absurd hn (Nat.not_lt_zero _)
            | succ nn_ ih_2380 =>
              intro v_2365 f_2366 hv_2365 hf_2366_0 hn H locs hP hD hS ls hl
              refine lv_iload hx hb dX4_swapped_26 (lv_at hl 0 rfl) ?_
              refine lv_aload_n hx hb dX4_swapped_28 rfl (lv_at hl 4 rfl) ?_
              refine va_getN (ci := 9) (v := .int n) (C := RX9) (T := TX9) (N := 10) hx hb hts hw9 hown hK hP 3 rfl rfl 4 (by decide) (nst_use hN 106 rfl) (fun _ h9 => h9) rfl dX4_swapped_29 ?_
              refine lv_icmp_ge (tgt := 56) hx hb dX4_swapped_32 (by decide) (fun c_2381 => ?_) (fun c_2381 => ?_)
              · have c_2381i := i_le (x := n.toInt) (y := v_2365.toInt) rfl rfl c_2381
                refine lv_iload_n hx hb dX4_swapped_56 rfl (lv_at hl 2 rfl) ?_
                refine lv_aload_n hx hb dX4_swapped_57 rfl (lv_at hl 3 rfl) ?_
                refine lv_aload_n hx hb dX4_swapped_58 rfl (lv_at hl 4 rfl) ?_
                refine lv_iload_n hx hb dX4_swapped_59 rfl (lv_at hl 2 rfl) ?_
                refine kci (S := Su) (wr := []) (va_runV (As := [.ref t0, .int v_2042]) (rest := [.int v_2042]) ⟨hx, hb, hml, hown, hts⟩ (w_ring l D K p0 t0 v_2042 p1 p2 p3 p4 p5 f_2043 f_2366 t1 k_1 t2 k_3 n k_5 k_6 k_7 k_8 ho f1 f2 H.size (by first | omega | decide) hf_2366_0) (cwV 2 hts gX4_swapped_X4_ring rfl rfl rfl (by decide +kernel) ⟨Nat.le_of_ble_eq_true rfl, Nat.le_of_ble_eq_true rfl⟩) (mkV hK hN (hP.sub [0, 1, 2, 3, 4, 5] rfl) (hD.sub [0, 1, 2, 3, 4, 5] (by decide) rfl) (ci := 4) (q0 := 0) rfl rfl) rfl rfl hl.1 rfl (lv_room (Nat.le_of_ble_eq_true rfl)) dX4_swapped_60 ⟨Nat.le_of_ble_eq_true rfl, Nat.le_of_ble_eq_true rfl⟩) hP hD hS hA [0, 1, 2, 3, 4, 5] [] rfl rfl (by decide) (by decide) (fun r_2382 u_2383 H locs hw hP hD hS => ?_)
                have hP : va_P D vwCl [(p0, .inr (4, [.ref p1, .ref p2, .ref p3, .ref p4, .ref p5])), (p1, .inl (K 0, 8, .inl (u_2383.2.1 0))), (p2, .inl (K 0, 8, .inl f_2366)), (t0, .inr (9, [.ref t1, k_1, .ref t2, k_3, .int n, k_5, k_6, k_7, k_8, .int ho])), (t1, .inl (K 0, 56, .inl f1)), (t2, .inl (K 0, 6, .inl f2))] H := hP
                have hD : va_D A [(p0, .inr (4, [.ref p1, .ref p2, .ref p3, .ref p4, .ref p5])), (p1, .inl (K 0, 8, .inl (u_2383.2.1 0))), (p2, .inl (K 0, 8, .inl f_2366)), (t0, .inr (9, [.ref t1, k_1, .ref t2, k_3, .int n, k_5, k_6, k_7, k_8, .int ho])), (t1, .inl (K 0, 56, .inl f1)), (t2, .inl (K 0, 6, .inl f2))] := hD
                obtain ⟨h_2384, -⟩ := hw
                refine lv_iconst (v := (-1)) hx hb dX4_swapped_63 (by decide) ?_
                refine lv_ixor hx hb dX4_swapped_64 ?_
                refine lv_topi (fun x_2385 ex_2385 => ?_)
                refine lv_iand hx hb dX4_swapped_65 ?_
                refine lv_topi (fun x_2386 ex_2386 => ?_)
                have hx_2386 : 0 ≤ x_2386.toInt ∧ x_2386.toInt ≤ v_2042.toInt := by rw [ex_2386]; exact i_andl rfl (by omega)
                refine lv_istore_n (lv' := [(3, .int x_2386), (5, .int v_2365), (4, .int v_2041), (0, .ref p0), (1, .ref t0), (2, .int x)]) hx hb dX4_swapped_66 rfl hl (by decide) rfl (fun ls hl => ?_)
                obtain ⟨x_2387, ex_2387⟩ : ∃ y : Int32, y = v_2041 + Int32.ofInt 1 := ⟨_, rfl⟩
                have hx_2387 : x_2387.toInt = (v_2041.toInt + 1) := by rw [ex_2387]; exact i_add rfl (show (Int32.ofInt 1).toInt = 1 from rfl) (by omega)
                refine lv_iinc (v := x_2387) (lv' := [(4, .int x_2387), (3, .int x_2386), (5, .int v_2365), (0, .ref p0), (1, .ref t0), (2, .int x)]) hx hb dX4_swapped_67 hl (k := 2) rfl (by rw [ex_2387]) (by decide) rfl (fun ls hl => ?_)
                refine lv_goto (tgt := 12) hx hb dX4_swapped_70 (by decide) ?_
                exact ih_2268 x_2387 x_2386 (u_2383.2.1 0) f_2366 (by rw [hx_2387]; omega) (by omega) hf_2366_0 (by omega) _ _ hP hD hS ls (lv_sub hl [0, 1, 3, 4, 5] rfl)
              · have c_2381i := i_nle (x := n.toInt) (y := v_2365.toInt) rfl rfl c_2381
                refine lv_aload_n hx hb dX4_swapped_35 rfl (lv_at hl 3 rfl) ?_
                refine va_get (ci := 4) (v := .ref p2) (C := RX4) (T := TX4) (N := 5) hx hb hts hw4 hown hK hP 0 rfl rfl 1 (by decide) (hts (.fieldLink RX4 15 "SmokeTune$Paper" "pointed" "[I") (List.mem_cons_of_mem _ (List.mem_append_left _ (List.mem_append_left _ (List.mem_of_getElem? (i := 0) rfl))))) (fun _ h9 => h9) rfl dX4_swapped_36 ?_
                refine lv_iload hx hb dX4_swapped_39 (lv_at hl 0 rfl) ?_
                refine lv_aload_n hx hb dX4_swapped_41 rfl (lv_at hl 3 rfl) ?_
                refine lv_aload_n hx hb dX4_swapped_42 rfl (lv_at hl 4 rfl) ?_
                refine lv_iload hx hb dX4_swapped_43 (lv_at hl 0 rfl) ?_
                refine lv_iload_n hx hb dX4_swapped_45 rfl (lv_at hl 2 rfl) ?_
                refine pci (va_runV (As := [.ref t0, .int v_2365, .int v_2042]) (rest := [.int v_2365, .ref p2]) ⟨hx, hb, hml, hown, hts⟩ (w_favourite l D K p0 t0 v_2365 v_2042 p1 p2 p3 p4 p5 t1 k_1 t2 k_3 n k_5 k_6 k_7 k_8 ho f1 f2 H.size (by first | omega | decide) (by first | omega | decide)) (cwV 3 hts gX4_swapped_X4_favourite rfl rfl rfl (by decide +kernel) ⟨Nat.le_of_ble_eq_true rfl, Nat.le_of_ble_eq_true rfl⟩) (mkV hK hN (hP.sub [0, 3, 4, 5] rfl) (hD.sub [0, 3, 4, 5] (by decide) rfl) (ci := 4) (q0 := 0) rfl rfl) rfl rfl hl.1 rfl (lv_room (Nat.le_of_ble_eq_true rfl)) dX4_swapped_46 ⟨Nat.le_of_ble_eq_true rfl, Nat.le_of_ble_eq_true rfl⟩) (fun r_2388 hw => ?_)
                obtain ⟨h_2389, -⟩ := hw
                refine va_iast hx hb hK hP hD hS 2 0 rfl rfl (i_in rfl (by omega)) dX4_swapped_49 (fun H locs hP hD hS => ?_)
                generalize hf_2390 : (upd f_2366 (v_2365 : Int32).toNatClampNeg r_2388) = f_2390 at hP hD
                have hf_2390_0 : Rg 8 0 7 f_2390 := by rw [← hf_2390]; exact Rg.upd hf_2366_0 rfl (by omega)
                have hP : va_P D vwCl [(p0, .inr (4, [.ref p1, .ref p2, .ref p3, .ref p4, .ref p5])), (p1, .inl (K 0, 8, .inl f_2043)), (p2, .inl (K 0, 8, .inl f_2390)), (t0, .inr (9, [.ref t1, k_1, .ref t2, k_3, .int n, k_5, k_6, k_7, k_8, .int ho])), (t1, .inl (K 0, 56, .inl f1)), (t2, .inl (K 0, 6, .inl f2))] H := hP
                have hD : va_D A [(p0, .inr (4, [.ref p1, .ref p2, .ref p3, .ref p4, .ref p5])), (p1, .inl (K 0, 8, .inl f_2043)), (p2, .inl (K 0, 8, .inl f_2390)), (t0, .inr (9, [.ref t1, k_1, .ref t2, k_3, .int n, k_5, k_6, k_7, k_8, .int ho])), (t1, .inl (K 0, 56, .inl f1)), (t2, .inl (K 0, 6, .inl f2))] := hD
                obtain ⟨x_2391, ex_2391⟩ : ∃ y : Int32, y = v_2365 + Int32.ofInt 1 := ⟨_, rfl⟩
                have hx_2391 : x_2391.toInt = (v_2365.toInt + 1) := by rw [ex_2391]; exact i_add rfl (show (Int32.ofInt 1).toInt = 1 from rfl) (by omega)
                refine lv_iinc (v := x_2391) (lv' := [(5, .int x_2391), (4, .int v_2041), (3, .int v_2042), (0, .ref p0), (1, .ref t0), (2, .int x)]) hx hb dX4_swapped_50 hl (k := 0) rfl (by rw [ex_2391]) (by decide) rfl (fun ls hl => ?_)
                refine lv_goto (tgt := 26) hx hb dX4_swapped_53 (by decide) ?_
                exact ih_2380 x_2391 f_2390 (by rw [hx_2391]; omega) hf_2390_0 (by omega) _ _ hP hD hS ls (lv_sub hl [0, 1, 2, 3, 4, 5] rfl)
          exact lp_2379 ((9 - (0 : Int32).toInt : Int).toNat + 1) 0 f_2044 (by decide) hf_2044_0 (Nat.lt_succ_self _) _ _ hP hD hS ls (lv_sub hl [0, 1, 2, 3, 4, 5] rfl)
  exact lp_2267 ((9 - (0 : Int32).toInt : Int).toNat + 1) 0 x_1596 fd fp (by decide) (by rw [hx_1596]; omega) zfp (Nat.lt_succ_self _) _ _ hP hD hS ls (lv_sub hl [0, 1, 2, 3, 4] rfl)
set_option maxHeartbeats 4000000 in
set_option maxRecDepth 100000 in
theorem w_apart (l : Launch) (D : va_G) (K : Nat → ClassId) (x : Int32) (y : Int32) (sz : Nat) : Met l yX4_apart wsX4_apart ({ frames := 1, cells := 0, slots := 0, locals := 13 }) (va_Pc [.int x, .int y] (Pre D K [] sz)) (vp_Si (fun r : Int32 => True)) 0 0 (fun _ => False) := by
  refine Met.ofW (cc := cX4_apart) (maxL := 3) (ret := (some .int)) (by decide) rfl ?_
  intro p e s m args below meth c s₁ B hml hv
  obtain ⟨rfl, hsz, hP, hK, hD0, hN⟩ := hv
  have hx := B.exec
  have hb := B.bytes
  have hr := B.returns
  have hts := atoms_spec (ws := wsX4_apart) B.pre
  have hown : s.vm.findClass RX4 = some m.cls := findClass_of_methodNamed B.named
  have hlocks := B.notSynchronized
  subst hsz
  have hD := hD0
  have hP : va_P D vwCl [] s.heap := hP
  have hl := lv_entry [.int x, .int y] (n := 3) (Nat.le_of_ble_eq_true rfl)
  rw [lg_entry_eq]
  generalize (lg_sl [.int x, .int y] ++ List.replicate (3 - (lg_sl [.int x, .int y]).length) Slot.unset).toArray = ls at hl ⊢
  have hl : lv_has ls 3 [(0, .int x), (1, .int y)] := hl
  generalize hQ : MQ below _ _ s _ _ _ = Q
  refine lv_iload_n hx hb dX4_apart_0 rfl (lv_at hl 0 rfl) ?_
  refine lv_iload_n hx hb dX4_apart_1 rfl (lv_at hl 1 rfl) ?_
  refine lv_isub hx hb dX4_apart_2 ?_
  refine lv_topi (fun x_9 ex_9 => ?_)
  refine va_mabs hx hb (hml.trans hl.1.symm) hown (hts (.methodLink RX4 49 Lib.Math.abs.name) (List.mem_cons_of_mem _ (List.mem_of_getElem? (i := 0) rfl))) (hts (.static Lib.Math.abs.name) (List.mem_cons_of_mem _ (List.mem_of_getElem? (i := 1) rfl))) (hts (.initialized "java/lang/Math") (List.mem_cons_of_mem _ (List.mem_of_getElem? (i := 2) rfl))) (hts (.code Lib.Math.abs.name Lib.Math.abs.code 1 (some .int)) (List.mem_cons_of_mem _ (List.mem_of_getElem? (i := 3) rfl))) (Nat.le_of_ble_eq_true rfl) (Nat.le_of_ble_eq_true rfl) (Nat.le_of_ble_eq_true rfl) (Nat.le_of_ble_eq_true rfl) dX4_apart_3 ?_
  refine lv_topi (fun x_10 ex_10 => ?_)
  refine lv_istore_n (lv' := [(2, .int x_10), (0, .int x), (1, .int y)]) hx hb dX4_apart_6 rfl hl (by decide) rfl (fun ls hl => ?_)
  refine lv_iload_n hx hb dX4_apart_7 rfl (lv_at hl 0 rfl) ?_
  refine lv_bipush (v := 7) hx hb dX4_apart_8 (by decide) ?_
  refine lv_iload_n hx hb dX4_apart_10 rfl (lv_at hl 0 rfl) ?_
  refine lv_isub hx hb dX4_apart_11 ?_
  refine lv_topi (fun x_11 ex_11 => ?_)
  refine va_mmin hx hb (hml.trans hl.1.symm) hown (hts (.methodLink RX4 74 Lib.Math.min.name) (List.mem_cons_of_mem _ (List.mem_of_getElem? (i := 4) rfl))) (hts (.static Lib.Math.min.name) (List.mem_cons_of_mem _ (List.mem_of_getElem? (i := 5) rfl))) (hts (.initialized "java/lang/Math") (List.mem_cons_of_mem _ (List.mem_of_getElem? (i := 2) rfl))) (hts (.code Lib.Math.min.name Lib.Math.min.code 2 (some .int)) (List.mem_cons_of_mem _ (List.mem_of_getElem? (i := 6) rfl))) (Nat.le_of_ble_eq_true rfl) (Nat.le_of_ble_eq_true rfl) (Nat.le_of_ble_eq_true rfl) (Nat.le_of_ble_eq_true rfl) dX4_apart_12 ?_
  refine lv_topi (fun x_12 ex_12 => ?_)
  have hx_12 : (x_10.toInt ≤ x_11.toInt ∧ x_12.toInt = x_10.toInt) ∨ (x_11.toInt < x_10.toInt ∧ x_12.toInt = x_11.toInt) := by rw [ex_12]; exact i_min rfl rfl
  replace hx_12 : x_12.toInt ≤ x_10.toInt ∧ x_12.toInt ≤ x_11.toInt := by omega
  subst hQ
  exact W.iret (v := x_12) hx hb hr (fun t ht hW => ⟨_, rfl, trivial, ht⟩) (fun q hq => by cases hq) dX4_apart_15
set_option maxHeartbeats 4000000 in
set_option maxRecDepth 100000 in
theorem w_nearest (l : Launch) (D : va_G) (K : Nat → ClassId) (x : Int32) (y : Int32) (sz : Nat) : Met l yX4_nearest wsX4_nearest ({ frames := 2, cells := 0, slots := 0, locals := 35 }) (va_Pc [.int x, .int y] (Pre D K [] sz)) (vp_Si (fun r : Int32 => True)) 0 0 (fun _ => False) := by
  refine Met.ofW (cc := cX4_nearest) (maxL := 5) (ret := (some .int)) (by decide) rfl ?_
  intro p e s m args below meth c s₁ B hml hv
  obtain ⟨rfl, hsz, hP, hK, hD0, hN⟩ := hv
  have hx := B.exec
  have hb := B.bytes
  have hr := B.returns
  have hts := atoms_spec (ws := wsX4_nearest) B.pre
  have hown : s.vm.findClass RX4 = some m.cls := findClass_of_methodNamed B.named
  have hlocks := B.notSynchronized
  subst hsz
  have hD := hD0
  have hP : va_P D vwCl [] s.heap := hP
  have hl := lv_entry [.int x, .int y] (n := 5) (Nat.le_of_ble_eq_true rfl)
  rw [lg_entry_eq]
  generalize (lg_sl [.int x, .int y] ++ List.replicate (5 - (lg_sl [.int x, .int y]).length) Slot.unset).toArray = ls at hl ⊢
  have hl : lv_has ls 5 [(0, .int x), (1, .int y)] := hl
  generalize hQ : MQ below _ _ s _ _ _ = Q
  refine lv_iload_n hx hb dX4_nearest_0 rfl (lv_at hl 0 rfl) ?_
  refine lv_istore_n (lv' := [(2, .int x), (0, .int x), (1, .int y)]) hx hb dX4_nearest_1 rfl hl (by decide) rfl (fun ls hl => ?_)
  refine lv_bipush (v := 7) hx hb dX4_nearest_2 (by decide) ?_
  refine lv_istore_n (lv' := [(3, .int 7), (2, .int x), (0, .int x), (1, .int y)]) hx hb dX4_nearest_4 rfl hl (by decide) rfl (fun ls hl => ?_)
  refine lv_iconst (v := 0) hx hb dX4_nearest_5 (by decide) ?_
  refine lv_istore (lv' := [(4, .int 0), (3, .int 7), (2, .int x), (0, .int x), (1, .int y)]) hx hb dX4_nearest_6 hl (by decide) rfl (fun ls hl => ?_)
  have lp_364 : ∀ (nn_ : Nat) (v_326 : Int32) (v_327 : Int32) (v_328 : Int32) (hv_326 : 0 ≤ v_326.toInt ∧ v_326.toInt ≤ 7) (hn : (8 - v_326.toInt : Int).toNat < nn_) (ls : Array Slot) (hl : lv_has ls 5 [(4, .int v_326), (3, .int v_327), (2, .int v_328), (0, .int x), (1, .int y)]), W p l e ({ frames := 2, cells := 0, slots := 0, locals := 35 }) s m (([.int x, .int y] : List Value).toArray) below meth c s.heap [] 0 0 Q (F0 m 8 ls []) := by
    intro nn_
    induction nn_ with
    | zero =>
      intro v_326 v_327 v_328 hv_326 hn ls hl
      exact absurd hn (Nat.not_lt_zero _)
    | succ nn_ ih_365 =>
      intro v_326 v_327 v_328 hv_326 hn ls hl
      refine lv_iload hx hb dX4_nearest_8 (lv_at hl 0 rfl) ?_
      refine lv_bipush (v := 7) hx hb dX4_nearest_10 (by decide) ?_
      refine lv_icmp_ge (tgt := 51) hx hb dX4_nearest_12 (by decide) (fun c_366 => ?_) (fun c_366 => ?_)
      · have c_366i := i_le (x := 7) (y := v_326.toInt) rfl rfl c_366
        refine lv_iload_n hx hb dX4_nearest_51 rfl (lv_at hl 2 rfl) ?_
        subst hQ
        exact W.iret (v := v_328) hx hb hr (fun t ht hW => ⟨_, rfl, trivial, ht⟩) (fun q hq => by cases hq) dX4_nearest_52
      · have c_366i := i_nle (x := 7) (y := v_326.toInt) rfl rfl c_366
        refine lv_iload_n hx hb dX4_nearest_15 rfl (lv_at hl 4 rfl) ?_
        refine lv_iload hx hb dX4_nearest_16 (lv_at hl 0 rfl) ?_
        refine lv_ishr hx hb dX4_nearest_18 ?_
        refine lv_topi (fun x_367 ex_367 => ?_)
        refine lv_iconst (v := 1) hx hb dX4_nearest_19 (by decide) ?_
        refine lv_iand hx hb dX4_nearest_20 ?_
        refine lv_topi (fun x_368 ex_368 => ?_)
        have hx_368 : 0 ≤ x_368.toInt ∧ x_368.toInt ≤ 1 := by rw [ex_368]; exact i_mask x_367 1 rfl (by decide)
        refine lv_iconst (v := 1) hx hb dX4_nearest_21 (by decide) ?_
        have j_376 : ∀ (v_373 : Int32) (v_374 : Int32) (ls : Array Slot) (hl : lv_has ls 5 [(4, .int v_326), (3, .int v_373), (2, .int v_374), (0, .int x), (1, .int y)]), W p l e ({ frames := 2, cells := 0, slots := 0, locals := 35 }) s m (([.int x, .int y] : List Value).toArray) below meth c s.heap [] 0 0 Q (F0 m 45 ls []) := by
          intro v_373 v_374 ls hl
          obtain ⟨x_377, ex_377⟩ : ∃ y : Int32, y = v_326 + Int32.ofInt 1 := ⟨_, rfl⟩
          have hx_377 : x_377.toInt = (v_326.toInt + 1) := by rw [ex_377]; exact i_add rfl (show (Int32.ofInt 1).toInt = 1 from rfl) (by omega)
          refine lv_iinc (v := x_377) (lv' := [(4, .int x_377), (3, .int v_373), (2, .int v_374), (0, .int x), (1, .int y)]) hx hb dX4_nearest_45 hl (k := 0) rfl (by rw [ex_377]) (by decide) rfl (fun ls hl => ?_)
          refine lv_goto (tgt := 8) hx hb dX4_nearest_48 (by decide) ?_
          exact ih_365 x_377 v_373 v_374 (by rw [hx_377]; omega) (by omega) ls (lv_sub hl [0, 1, 2, 3, 4] rfl)
        refine lv_icmp_ne (tgt := 45) hx hb dX4_nearest_22 (by decide) (fun c_378 => ?_) (fun c_378 => ?_)
        · have c_378i := i_ne (x := x_368.toInt) (y := 1) rfl rfl c_378
          exact j_376 v_327 v_328  ls (lv_sub hl [0, 1, 2, 3, 4] rfl)
        · have c_378i := i_eq (x := x_368.toInt) (y := 1) rfl rfl c_378
          refine lv_iload hx hb dX4_nearest_25 (lv_at hl 0 rfl) ?_
          refine lv_iload_n hx hb dX4_nearest_27 rfl (lv_at hl 3 rfl) ?_
          refine pci (va_runS (As := [.int v_326, .int x]) (rest := []) ⟨hx, hb, hml, hown, hts⟩ (w_apart l D K v_326 x s.heap.size) (va_cwS 2 hts gX4_nearest_X4_apart rfl rfl rfl (by decide +kernel) ⟨Nat.le_of_ble_eq_true rfl, Nat.le_of_ble_eq_true rfl⟩) (mkS hK hN (va_P.nil) (va_D.nil (A := fun _ => True))) rfl rfl hl.1 rfl (lv_room (Nat.le_of_ble_eq_true rfl)) dX4_nearest_28 ⟨Nat.le_of_ble_eq_true rfl, Nat.le_of_ble_eq_true rfl⟩) (fun r_379 hw => ?_)
          refine lv_iload_n hx hb dX4_nearest_31 rfl (lv_at hl 1 rfl) ?_
          refine lv_icmp_ge (tgt := 45) hx hb dX4_nearest_32 (by decide) (fun c_380 => ?_) (fun c_380 => ?_)
          · have c_380i := i_le (x := v_327.toInt) (y := r_379.toInt) rfl rfl c_380
            exact j_376 v_327 v_328  ls (lv_sub hl [0, 1, 2, 3, 4] rfl)
          · have c_380i := i_nle (x := v_327.toInt) (y := r_379.toInt) rfl rfl c_380
            refine lv_iload hx hb dX4_nearest_35 (lv_at hl 0 rfl) ?_
            refine lv_iload_n hx hb dX4_nearest_37 rfl (lv_at hl 3 rfl) ?_
            refine pci (va_runS (As := [.int v_326, .int x]) (rest := []) ⟨hx, hb, hml, hown, hts⟩ (w_apart l D K v_326 x s.heap.size) (va_cwS 2 hts gX4_nearest_X4_apart rfl rfl rfl (by decide +kernel) ⟨Nat.le_of_ble_eq_true rfl, Nat.le_of_ble_eq_true rfl⟩) (mkS hK hN (va_P.nil) (va_D.nil (A := fun _ => True))) rfl rfl hl.1 rfl (lv_room (Nat.le_of_ble_eq_true rfl)) dX4_nearest_38 ⟨Nat.le_of_ble_eq_true rfl, Nat.le_of_ble_eq_true rfl⟩) (fun r_381 hw => ?_)
            refine lv_istore_n (lv' := [(3, .int r_381), (4, .int v_326), (2, .int v_328), (0, .int x), (1, .int y)]) hx hb dX4_nearest_41 rfl hl (by decide) rfl (fun ls hl => ?_)
            refine lv_iload hx hb dX4_nearest_42 (lv_at hl 1 rfl) ?_
            refine lv_istore_n (lv' := [(2, .int v_326), (3, .int r_381), (4, .int v_326), (0, .int x), (1, .int y)]) hx hb dX4_nearest_44 rfl hl (by decide) rfl (fun ls hl => ?_)
            exact j_376 r_381 v_326  ls (lv_sub hl [2, 1, 0, 3, 4] rfl)
  exact lp_364 ((8 - (0 : Int32).toInt : Int).toNat + 1) 0 7 x (by decide) (Nat.lt_succ_self _) ls (lv_sub hl [0, 1, 2, 3, 4] rfl)
set_option maxHeartbeats 4000000 in
set_option maxRecDepth 100000 in
theorem w_fill (l : Launch) (D : va_G) (K : Nat → ClassId) (p0 : Nat) (t0 : Nat) (x : Int32) (y : Int32) (p1 : Nat) (p2 : Nat) (p3 : Nat) (p4 : Nat) (p5 : Nat) (fr : Nat → Int32) (t1 : Nat) (k_1 : Value) (t2 : Nat) (k_3 : Value) (n : Int32) (k_5 : Value) (k_6 : Value) (k_7 : Value) (k_8 : Value) (ho : Int32) (f1 : Nat → Int32) (f2 : Nat → Int32) (sz : Nat) (zn : 0 ≤ n.toInt ∧ n.toInt ≤ 8) : Met l yX4_fill wsX4_fill ({ frames := 3, cells := 0, slots := 0, locals := 59 }) (va_Pc [.ref p0, .ref t0, .int x, .int y] (Pre D K [(p0, .inr (4, [.ref p1, .ref p2, .ref p3, .ref p4, .ref p5])), (p4, .inl (K 0, 8, .inl fr)), (t0, .inr (9, [.ref t1, k_1, .ref t2, k_3, .int n, k_5, k_6, k_7, k_8, .int ho])), (t1, .inl (K 0, 56, .inl f1)), (t2, .inl (K 0, 6, .inl f2))] sz)) (va_Qi (S := Su) (fun (r : Int32) (u : Su) => True) (fun u t => Wd D (va_A [(p0, .inr (4, [.ref p1, .ref p2, .ref p3, .ref p4, .ref p5])), (p4, .inl (K 0, 8, .inl fr)), (t0, .inr (9, [.ref t1, k_1, .ref t2, k_3, .int n, k_5, k_6, k_7, k_8, .int ho])), (t1, .inl (K 0, 56, .inl f1)), (t2, .inl (K 0, 6, .inl f2))] sz) ((fun u => [(p0, .inr (4, [.ref p1, .ref p2, .ref p3, .ref p4, .ref p5])), (p4, .inl (K 0, 8, .inl (u.2.1 0))), (t0, .inr (9, [.ref t1, k_1, .ref t2, k_3, .int n, k_5, k_6, k_7, k_8, .int ho])), (t1, .inl (K 0, 56, .inl f1)), (t2, .inl (K 0, 6, .inl f2))]) u) t) (va_A [(p0, .inr (4, [.ref p1, .ref p2, .ref p3, .ref p4, .ref p5])), (p4, .inl (K 0, 8, .inl fr)), (t0, .inr (9, [.ref t1, k_1, .ref t2, k_3, .int n, k_5, k_6, k_7, k_8, .int ho])), (t1, .inl (K 0, 56, .inl f1)), (t2, .inl (K 0, 6, .inl f2))] sz)) 0 0 (va_A [(p0, .inr (4, [.ref p1, .ref p2, .ref p3, .ref p4, .ref p5])), (p4, .inl (K 0, 8, .inl fr)), (t0, .inr (9, [.ref t1, k_1, .ref t2, k_3, .int n, k_5, k_6, k_7, k_8, .int ho])), (t1, .inl (K 0, 56, .inl f1)), (t2, .inl (K 0, 6, .inl f2))] sz) := by
  refine Met.ofW (cc := cX4_fill) (maxL := 6) (ret := (some .int)) (by decide) rfl ?_
  intro p e s m args below meth c s₁ B hml hv
  obtain ⟨rfl, hsz, hP, hK, hD0, hN⟩ := hv
  have hx := B.exec
  have hb := B.bytes
  have hr := B.returns
  have hts := atoms_spec (ws := wsX4_fill) B.pre
  have hown : s.vm.findClass RX4 = some m.cls := findClass_of_methodNamed B.named
  have hlocks := B.notSynchronized
  subst hsz
  have hD := hD0.self (sz := s.heap.size)
  generalize hAe : va_A [(p0, .inr (4, [.ref p1, .ref p2, .ref p3, .ref p4, .ref p5])), (p4, .inl (K 0, 8, .inl fr)), (t0, .inr (9, [.ref t1, k_1, .ref t2, k_3, .int n, k_5, k_6, k_7, k_8, .int ho])), (t1, .inl (K 0, 56, .inl f1)), (t2, .inl (K 0, 6, .inl f2))] s.heap.size = A at hD ⊢
  have hA : ∀ q : Nat, s.heap.size ≤ q → A q := fun q h => by rw [← hAe]; exact Or.inr h
  have hS : va_S A s.heap s.heap [] := va_S.rf
  have hP : va_P D vwCl [(p0, .inr (4, [.ref p1, .ref p2, .ref p3, .ref p4, .ref p5])), (p4, .inl (K 0, 8, .inl fr)), (t0, .inr (9, [.ref t1, k_1, .ref t2, k_3, .int n, k_5, k_6, k_7, k_8, .int ho])), (t1, .inl (K 0, 56, .inl f1)), (t2, .inl (K 0, 6, .inl f2))] s.heap := hP
  have hl := lv_entry [.ref p0, .ref t0, .int x, .int y] (n := 6) (Nat.le_of_ble_eq_true rfl)
  rw [lg_entry_eq]
  generalize (lg_sl [.ref p0, .ref t0, .int x, .int y] ++ List.replicate (6 - (lg_sl [.ref p0, .ref t0, .int x, .int y]).length) Slot.unset).toArray = ls at hl ⊢
  have hl : lv_has ls 6 [(0, .ref p0), (1, .ref t0), (2, .int x), (3, .int y)] := hl
  have hw4 : ∀ w ∈ wsX40, w ∈ wsX4_fill := fun w h => (List.mem_cons_of_mem _ (List.mem_append_right _ h))
  have hw9 : ∀ w ∈ wsX90, w ∈ wsX4_fill := fun w h => (List.mem_cons_of_mem _ (List.mem_append_left _ (List.mem_append_right _ h)))
  generalize hQ : MQ below _ _ s _ _ _ = Q
  refine lv_iconst (v := 0) hx hb dX4_fill_0 (by decide) ?_
  refine lv_istore (lv' := [(4, .int 0), (0, .ref p0), (1, .ref t0), (2, .int x), (3, .int y)]) hx hb dX4_fill_1 hl (by decide) rfl (fun ls hl => ?_)
  refine lv_iconst (v := 0) hx hb dX4_fill_3 (by decide) ?_
  refine lv_istore (lv' := [(5, .int 0), (4, .int 0), (0, .ref p0), (1, .ref t0), (2, .int x), (3, .int y)]) hx hb dX4_fill_4 hl (by decide) rfl (fun ls hl => ?_)
  have lp_544 : ∀ (nn_ : Nat) (v_488 : Int32) (v_489 : Int32) (f_490 : Nat → Int32) (hv_488 : 0 ≤ v_488.toInt ∧ v_488.toInt ≤ 8) (hn : (9 - v_488.toInt : Int).toNat < nn_) (H : Heap) (locs : List Loc) (hP : va_P D vwCl [(p0, .inr (4, [.ref p1, .ref p2, .ref p3, .ref p4, .ref p5])), (p4, .inl (K 0, 8, .inl f_490)), (t0, .inr (9, [.ref t1, k_1, .ref t2, k_3, .int n, k_5, k_6, k_7, k_8, .int ho])), (t1, .inl (K 0, 56, .inl f1)), (t2, .inl (K 0, 6, .inl f2))] H) (hD : va_D A [(p0, .inr (4, [.ref p1, .ref p2, .ref p3, .ref p4, .ref p5])), (p4, .inl (K 0, 8, .inl f_490)), (t0, .inr (9, [.ref t1, k_1, .ref t2, k_3, .int n, k_5, k_6, k_7, k_8, .int ho])), (t1, .inl (K 0, 56, .inl f1)), (t2, .inl (K 0, 6, .inl f2))]) (hS : va_S A s.heap H locs) (ls : Array Slot) (hl : lv_has ls 6 [(5, .int v_488), (4, .int v_489), (0, .ref p0), (1, .ref t0), (2, .int x), (3, .int y)]), W p l e ({ frames := 3, cells := 0, slots := 0, locals := 59 }) s m (([.ref p0, .ref t0, .int x, .int y] : List Value).toArray) below meth c H locs 0 0 Q (F0 m 6 ls []) := by
    intro nn_
    induction nn_ with
    | zero =>
      intro v_488 v_489 f_490 hv_488 hn H locs hP hD hS ls hl
      exact absurd hn (Nat.not_lt_zero _)
    | succ nn_ ih_545 =>
      intro v_488 v_489 f_490 hv_488 hn H locs hP hD hS ls hl
      refine lv_iload hx hb dX4_fill_6 (lv_at hl 0 rfl) ?_
      refine lv_aload_n hx hb dX4_fill_8 rfl (lv_at hl 3 rfl) ?_
      refine va_getN (ci := 9) (v := .int n) (C := RX9) (T := TX9) (N := 10) hx hb hts hw9 hown hK hP 2 rfl rfl 4 (by decide) (nst_use hN 106 rfl) (fun _ h9 => h9) rfl dX4_fill_9 ?_
      refine lv_icmp_ge (tgt := 86) hx hb dX4_fill_12 (by decide) (fun c_546 => ?_) (fun c_546 => ?_)
      · have c_546i := i_le (x := n.toInt) (y := v_488.toInt) rfl rfl c_546
        refine lv_iload hx hb dX4_fill_86 (lv_at hl 1 rfl) ?_
        subst hQ
        have hP9 := hP.sub (ws' := [(p0, .inr (4, [.ref p1, .ref p2, .ref p3, .ref p4, .ref p5])), (p4, .inl (K 0, 8, .inl f_490)), (t0, .inr (9, [.ref t1, k_1, .ref t2, k_3, .int n, k_5, k_6, k_7, k_8, .int ho])), (t1, .inl (K 0, 56, .inl f1)), (t2, .inl (K 0, 6, .inl f2))]) [0, 1, 2, 3, 4] rfl
        have hD9 := hD.sub (ws' := [(p0, .inr (4, [.ref p1, .ref p2, .ref p3, .ref p4, .ref p5])), (p4, .inl (K 0, 8, .inl f_490)), (t0, .inr (9, [.ref t1, k_1, .ref t2, k_3, .int n, k_5, k_6, k_7, k_8, .int ho])), (t1, .inl (K 0, 56, .inl f1)), (t2, .inl (K 0, 6, .inl f2))]) [0, 1, 2, 3, 4] (by decide) rfl
        exact W.iret (v := v_489) hx hb hr (fun t ht hW => ⟨⟨v_489, ((fun _ => 0, fun i => match i with | _ => f_490, fun _ => fun _ => 0, fun _ => 0, fun _ => 0, fun _ => fun _ => none) : Su), rfl, trivial, (⟨by rw [ht]; exact hP9, hD9⟩ : Wd D A _ t)⟩, hS.F ht⟩) hS.2.2 dX4_fill_88
      · have c_546i := i_nle (x := n.toInt) (y := v_488.toInt) rfl rfl c_546
        refine lv_aload_n hx hb dX4_fill_15 rfl (lv_at hl 2 rfl) ?_
        refine va_get (ci := 4) (v := .ref p4) (C := RX4) (T := TX4) (N := 5) hx hb hts hw4 hown hK hP 0 rfl rfl 3 (by decide) (hts (.fieldLink RX4 21 "SmokeTune$Paper" "row" "[I") (List.mem_cons_of_mem _ (List.mem_append_left _ (List.mem_append_left _ (List.mem_of_getElem? (i := 0) rfl))))) (fun _ h9 => h9) rfl dX4_fill_16 ?_
        refine lv_iload hx hb dX4_fill_19 (lv_at hl 0 rfl) ?_
        refine lv_aload_n hx hb dX4_fill_21 rfl (lv_at hl 3 rfl) ?_
        refine lv_iload hx hb dX4_fill_22 (lv_at hl 0 rfl) ?_
        refine lv_iconst (v := 0) hx hb dX4_fill_24 (by decide) ?_
        refine pci (va_runVN (As := [.int v_488, .int 0]) (rest := [.int v_488, .ref p4]) ⟨hx, hb, hml, hown, hts⟩ (w_fact l D K t0 v_488 0 t1 k_1 (.ref t2) k_3 (.int n) k_5 k_6 k_7 k_8 (.int ho) f1 H.size) ⟨va_cnB 2 hts gX4_fill_X9_fact_n45 rfl rfl rfl (nst_at hN 84 rfl) (hts (.initialized RX9) (List.mem_cons_of_mem _ (List.mem_append_left _ (List.mem_append_left _ (List.mem_of_getElem? (i := 2) rfl))))) (by decide +kernel) ⟨Nat.le_of_ble_eq_true rfl, Nat.le_of_ble_eq_true rfl⟩, (hts (.instanceMethod yX9_fact) (List.mem_cons_of_mem _ (List.mem_append_left _ (List.mem_append_left _ (List.mem_of_getElem? (i := 1) rfl))))), (hts (.selects RX9 yX9_fact yX9_fact) (List.mem_cons_of_mem _ (List.mem_append_left _ (List.mem_append_left _ (List.mem_of_getElem? (i := 3) rfl)))))⟩ (mkV hK hN (hP.sub [2, 3] rfl) (hD.sub [2, 3] (by decide) rfl) (ci := 9) (q0 := 0) rfl rfl) rfl rfl hl.1 rfl (lv_room (Nat.le_of_ble_eq_true rfl)) dX4_fill_25 ⟨Nat.le_of_ble_eq_true rfl, Nat.le_of_ble_eq_true rfl⟩) (fun r_547 hw => ?_)
        refine va_iast hx hb hK hP hD hS 1 0 rfl rfl (i_in rfl (by omega)) dX4_fill_28 (fun H locs hP hD hS => ?_)
        generalize hf_548 : (upd f_490 (v_488 : Int32).toNatClampNeg r_547) = f_548 at hP hD
        have hP : va_P D vwCl [(p0, .inr (4, [.ref p1, .ref p2, .ref p3, .ref p4, .ref p5])), (p4, .inl (K 0, 8, .inl f_548)), (t0, .inr (9, [.ref t1, k_1, .ref t2, k_3, .int n, k_5, k_6, k_7, k_8, .int ho])), (t1, .inl (K 0, 56, .inl f1)), (t2, .inl (K 0, 6, .inl f2))] H := hP
        have hD : va_D A [(p0, .inr (4, [.ref p1, .ref p2, .ref p3, .ref p4, .ref p5])), (p4, .inl (K 0, 8, .inl f_548)), (t0, .inr (9, [.ref t1, k_1, .ref t2, k_3, .int n, k_5, k_6, k_7, k_8, .int ho])), (t1, .inl (K 0, 56, .inl f1)), (t2, .inl (K 0, 6, .inl f2))] := hD
        refine lv_aload_n hx hb dX4_fill_29 rfl (lv_at hl 3 rfl) ?_
        refine lv_iload hx hb dX4_fill_30 (lv_at hl 0 rfl) ?_
        refine lv_iconst (v := 1) hx hb dX4_fill_32 (by decide) ?_
        refine pci (va_runVN (As := [.int v_488, .int 1]) (rest := []) ⟨hx, hb, hml, hown, hts⟩ (w_fact l D K t0 v_488 1 t1 k_1 (.ref t2) k_3 (.int n) k_5 k_6 k_7 k_8 (.int ho) f1 H.size) ⟨va_cnB 2 hts gX4_fill_X9_fact_n45 rfl rfl rfl (nst_at hN 84 rfl) (hts (.initialized RX9) (List.mem_cons_of_mem _ (List.mem_append_left _ (List.mem_append_left _ (List.mem_of_getElem? (i := 2) rfl))))) (by decide +kernel) ⟨Nat.le_of_ble_eq_true rfl, Nat.le_of_ble_eq_true rfl⟩, (hts (.instanceMethod yX9_fact) (List.mem_cons_of_mem _ (List.mem_append_left _ (List.mem_append_left _ (List.mem_of_getElem? (i := 1) rfl))))), (hts (.selects RX9 yX9_fact yX9_fact) (List.mem_cons_of_mem _ (List.mem_append_left _ (List.mem_append_left _ (List.mem_of_getElem? (i := 3) rfl)))))⟩ (mkV hK hN (hP.sub [2, 3] rfl) (hD.sub [2, 3] (by decide) rfl) (ci := 9) (q0 := 0) rfl rfl) rfl rfl hl.1 rfl (lv_room (Nat.le_of_ble_eq_true rfl)) dX4_fill_33 ⟨Nat.le_of_ble_eq_true rfl, Nat.le_of_ble_eq_true rfl⟩) (fun r_549 hw => ?_)
        refine lv_iload_n hx hb dX4_fill_36 rfl (lv_at hl 4 rfl) ?_
        have j_561 : ∀ (v_558 : Int32) (f_559 : Nat → Int32) (H : Heap) (locs : List Loc) (hP : va_P D vwCl [(p0, .inr (4, [.ref p1, .ref p2, .ref p3, .ref p4, .ref p5])), (p4, .inl (K 0, 8, .inl f_559)), (t0, .inr (9, [.ref t1, k_1, .ref t2, k_3, .int n, k_5, k_6, k_7, k_8, .int ho])), (t1, .inl (K 0, 56, .inl f1)), (t2, .inl (K 0, 6, .inl f2))] H) (hD : va_D A [(p0, .inr (4, [.ref p1, .ref p2, .ref p3, .ref p4, .ref p5])), (p4, .inl (K 0, 8, .inl f_559)), (t0, .inr (9, [.ref t1, k_1, .ref t2, k_3, .int n, k_5, k_6, k_7, k_8, .int ho])), (t1, .inl (K 0, 56, .inl f1)), (t2, .inl (K 0, 6, .inl f2))]) (hS : va_S A s.heap H locs) (ls : Array Slot) (hl : lv_has ls 6 [(5, .int v_488), (4, .int v_558), (0, .ref p0), (1, .ref t0), (2, .int x), (3, .int y)]), W p l e ({ frames := 3, cells := 0, slots := 0, locals := 59 }) s m (([.ref p0, .ref t0, .int x, .int y] : List Value).toArray) below meth c H locs 0 0 Q (F0 m 80 ls []) := by
          intro v_558 f_559 H locs hP hD hS ls hl
          obtain ⟨x_562, ex_562⟩ : ∃ y : Int32, y = v_488 + Int32.ofInt 1 := ⟨_, rfl⟩
          have hx_562 : x_562.toInt = (v_488.toInt + 1) := by rw [ex_562]; exact i_add rfl (show (Int32.ofInt 1).toInt = 1 from rfl) (by omega)
          refine lv_iinc (v := x_562) (lv' := [(5, .int x_562), (4, .int v_558), (0, .ref p0), (1, .ref t0), (2, .int x), (3, .int y)]) hx hb dX4_fill_80 hl (k := 0) rfl (by rw [ex_562]) (by decide) rfl (fun ls hl => ?_)
          refine lv_goto (tgt := 6) hx hb dX4_fill_83 (by decide) ?_
          exact ih_545 x_562 v_558 f_559 (by rw [hx_562]; omega) (by omega) _ _ hP hD hS ls (lv_sub hl [0, 1, 2, 3, 4, 5] rfl)
        refine lv_icmp_ne (tgt := 80) hx hb dX4_fill_37 (by decide) (fun c_563 => ?_) (fun c_563 => ?_)
        · have c_563i := i_ne (x := r_549.toInt) (y := x.toInt) rfl rfl c_563
          exact j_561 v_489 f_548  _ _ hP hD hS ls (lv_sub hl [0, 1, 2, 3, 4, 5] rfl)
        · have c_563i := i_eq (x := r_549.toInt) (y := x.toInt) rfl rfl c_563
          refine lv_aload_n hx hb dX4_fill_40 rfl (lv_at hl 2 rfl) ?_
          refine va_get (ci := 4) (v := .ref p4) (C := RX4) (T := TX4) (N := 5) hx hb hts hw4 hown hK hP 0 rfl rfl 3 (by decide) (hts (.fieldLink RX4 21 "SmokeTune$Paper" "row" "[I") (List.mem_cons_of_mem _ (List.mem_append_left _ (List.mem_append_left _ (List.mem_of_getElem? (i := 0) rfl))))) (fun _ h9 => h9) rfl dX4_fill_41 ?_
          refine lv_iload hx hb dX4_fill_44 (lv_at hl 0 rfl) ?_
          refine lv_aload_n hx hb dX4_fill_46 rfl (lv_at hl 3 rfl) ?_
          refine lv_iload hx hb dX4_fill_47 (lv_at hl 0 rfl) ?_
          refine lv_iconst (v := 0) hx hb dX4_fill_49 (by decide) ?_
          refine pci (va_runVN (As := [.int v_488, .int 0]) (rest := [.int v_488, .ref p4]) ⟨hx, hb, hml, hown, hts⟩ (w_fact l D K t0 v_488 0 t1 k_1 (.ref t2) k_3 (.int n) k_5 k_6 k_7 k_8 (.int ho) f1 H.size) ⟨va_cnB 2 hts gX4_fill_X9_fact_n45 rfl rfl rfl (nst_at hN 84 rfl) (hts (.initialized RX9) (List.mem_cons_of_mem _ (List.mem_append_left _ (List.mem_append_left _ (List.mem_of_getElem? (i := 2) rfl))))) (by decide +kernel) ⟨Nat.le_of_ble_eq_true rfl, Nat.le_of_ble_eq_true rfl⟩, (hts (.instanceMethod yX9_fact) (List.mem_cons_of_mem _ (List.mem_append_left _ (List.mem_append_left _ (List.mem_of_getElem? (i := 1) rfl))))), (hts (.selects RX9 yX9_fact yX9_fact) (List.mem_cons_of_mem _ (List.mem_append_left _ (List.mem_append_left _ (List.mem_of_getElem? (i := 3) rfl)))))⟩ (mkV hK hN (hP.sub [2, 3] rfl) (hD.sub [2, 3] (by decide) rfl) (ci := 9) (q0 := 0) rfl rfl) rfl rfl hl.1 rfl (lv_room (Nat.le_of_ble_eq_true rfl)) dX4_fill_50 ⟨Nat.le_of_ble_eq_true rfl, Nat.le_of_ble_eq_true rfl⟩) (fun r_564 hw => ?_)
          refine lv_iload_n hx hb dX4_fill_53 rfl (lv_at hl 5 rfl) ?_
          refine pci (va_runS (As := [.int r_564, .int y]) (rest := [.int v_488, .ref p4]) ⟨hx, hb, hml, hown, hts⟩ (w_nearest l D K r_564 y H.size) (va_cwS 2 hts gX4_fill_X4_nearest rfl rfl rfl (by decide +kernel) ⟨Nat.le_of_ble_eq_true rfl, Nat.le_of_ble_eq_true rfl⟩) (mkS hK hN (va_P.nil) (va_D.nil (A := fun _ => True))) rfl rfl hl.1 rfl (lv_room (Nat.le_of_ble_eq_true rfl)) dX4_fill_54 ⟨Nat.le_of_ble_eq_true rfl, Nat.le_of_ble_eq_true rfl⟩) (fun r_565 hw => ?_)
          refine va_iast hx hb hK hP hD hS 1 0 rfl rfl (i_in rfl (by omega)) dX4_fill_57 (fun H locs hP hD hS => ?_)
          generalize hf_566 : (upd f_548 (v_488 : Int32).toNatClampNeg r_565) = f_566 at hP hD
          have hP : va_P D vwCl [(p0, .inr (4, [.ref p1, .ref p2, .ref p3, .ref p4, .ref p5])), (p4, .inl (K 0, 8, .inl f_566)), (t0, .inr (9, [.ref t1, k_1, .ref t2, k_3, .int n, k_5, k_6, k_7, k_8, .int ho])), (t1, .inl (K 0, 56, .inl f1)), (t2, .inl (K 0, 6, .inl f2))] H := hP
          have hD : va_D A [(p0, .inr (4, [.ref p1, .ref p2, .ref p3, .ref p4, .ref p5])), (p4, .inl (K 0, 8, .inl f_566)), (t0, .inr (9, [.ref t1, k_1, .ref t2, k_3, .int n, k_5, k_6, k_7, k_8, .int ho])), (t1, .inl (K 0, 56, .inl f1)), (t2, .inl (K 0, 6, .inl f2))] := hD
          refine lv_iload hx hb dX4_fill_58 (lv_at hl 1 rfl) ?_
          refine lv_aload_n hx hb dX4_fill_60 rfl (lv_at hl 2 rfl) ?_
          refine va_get (ci := 4) (v := .ref p4) (C := RX4) (T := TX4) (N := 5) hx hb hts hw4 hown hK hP 0 rfl rfl 3 (by decide) (hts (.fieldLink RX4 21 "SmokeTune$Paper" "row" "[I") (List.mem_cons_of_mem _ (List.mem_append_left _ (List.mem_append_left _ (List.mem_of_getElem? (i := 0) rfl))))) (fun _ h9 => h9) rfl dX4_fill_61 ?_
          refine lv_iload hx hb dX4_fill_64 (lv_at hl 0 rfl) ?_
          refine va_iald hx hb hK hP 1 0 rfl rfl (i_in rfl (by omega)) dX4_fill_66 ?_
          refine lv_topi (fun x_567 ex_567 => ?_)
          refine lv_aload_n hx hb dX4_fill_67 rfl (lv_at hl 3 rfl) ?_
          refine lv_iload hx hb dX4_fill_68 (lv_at hl 0 rfl) ?_
          refine lv_iconst (v := 0) hx hb dX4_fill_70 (by decide) ?_
          refine pci (va_runVN (As := [.int v_488, .int 0]) (rest := [.int x_567, .int v_489]) ⟨hx, hb, hml, hown, hts⟩ (w_fact l D K t0 v_488 0 t1 k_1 (.ref t2) k_3 (.int n) k_5 k_6 k_7 k_8 (.int ho) f1 H.size) ⟨va_cnB 2 hts gX4_fill_X9_fact_n45 rfl rfl rfl (nst_at hN 84 rfl) (hts (.initialized RX9) (List.mem_cons_of_mem _ (List.mem_append_left _ (List.mem_append_left _ (List.mem_of_getElem? (i := 2) rfl))))) (by decide +kernel) ⟨Nat.le_of_ble_eq_true rfl, Nat.le_of_ble_eq_true rfl⟩, (hts (.instanceMethod yX9_fact) (List.mem_cons_of_mem _ (List.mem_append_left _ (List.mem_append_left _ (List.mem_of_getElem? (i := 1) rfl))))), (hts (.selects RX9 yX9_fact yX9_fact) (List.mem_cons_of_mem _ (List.mem_append_left _ (List.mem_append_left _ (List.mem_of_getElem? (i := 3) rfl)))))⟩ (mkV hK hN (hP.sub [2, 3] rfl) (hD.sub [2, 3] (by decide) rfl) (ci := 9) (q0 := 0) rfl rfl) rfl rfl hl.1 rfl (lv_room (Nat.le_of_ble_eq_true rfl)) dX4_fill_71 ⟨Nat.le_of_ble_eq_true rfl, Nat.le_of_ble_eq_true rfl⟩) (fun r_568 hw => ?_)
          refine pci (va_runS (As := [.int x_567, .int r_568]) (rest := [.int v_489]) ⟨hx, hb, hml, hown, hts⟩ (w_apart l D K x_567 r_568 H.size) (va_cwS 2 hts gX4_fill_X4_apart rfl rfl rfl (by decide +kernel) ⟨Nat.le_of_ble_eq_true rfl, Nat.le_of_ble_eq_true rfl⟩) (mkS hK hN (va_P.nil) (va_D.nil (A := fun _ => True))) rfl rfl hl.1 rfl (lv_room (Nat.le_of_ble_eq_true rfl)) dX4_fill_74 ⟨Nat.le_of_ble_eq_true rfl, Nat.le_of_ble_eq_true rfl⟩) (fun r_569 hw => ?_)
          refine lv_iadd hx hb dX4_fill_77 ?_
          refine lv_topi (fun x_570 ex_570 => ?_)
          refine lv_istore (lv' := [(4, .int x_570), (5, .int v_488), (0, .ref p0), (1, .ref t0), (2, .int x), (3, .int y)]) hx hb dX4_fill_78 hl (by decide) rfl (fun ls hl => ?_)
          exact j_561 x_570 f_566  _ _ hP hD hS ls (lv_sub hl [1, 0, 2, 3, 4, 5] rfl)
  exact lp_544 ((9 - (0 : Int32).toInt : Int).toNat + 1) 0 0 fr (by decide) (Nat.lt_succ_self _) _ _ hP hD hS ls (lv_sub hl [0, 1, 2, 3, 4, 5] rfl)
set_option maxHeartbeats 4000000 in
set_option maxRecDepth 100000 in
theorem w_ahead (l : Launch) (D : va_G) (K : Nat → ClassId) (p0 : Nat) (x : Int32) (p1 : Nat) (p2 : Nat) (p3 : Nat) (p4 : Nat) (p5 : Nat) (fb : Nat → Int32) (fr : Nat → Int32) (sz : Nat) (zx : 0 ≤ x.toInt ∧ x.toInt ≤ 8) : Met l yX4_ahead wsX4_ahead ({ frames := 0, cells := 0, slots := 0, locals := 0 }) (va_Pc [.ref p0, .int x] (Pre D K [(p0, .inr (4, [.ref p1, .ref p2, .ref p3, .ref p4, .ref p5])), (p3, .inl (K 0, 8, .inl fb)), (p4, .inl (K 0, 8, .inl fr))] sz)) (vp_Si (fun r : Int32 => (0 ≤ r.toInt ∧ r.toInt ≤ 1) ∧ True)) 0 0 (fun _ => False) := by
  refine Met.ofW (cc := cX4_ahead) (maxL := 3) (ret := (some .boolean)) (by decide) rfl ?_
  intro p e s m args below meth c s₁ B hml hv
  obtain ⟨rfl, hsz, hP, hK, hD0, hN⟩ := hv
  have hx := B.exec
  have hb := B.bytes
  have hr := B.returns
  have hts := atoms_spec (ws := wsX4_ahead) B.pre
  have hown : s.vm.findClass RX4 = some m.cls := findClass_of_methodNamed B.named
  have hlocks := B.notSynchronized
  subst hsz
  have hD := hD0
  have hP : va_P D vwCl [(p0, .inr (4, [.ref p1, .ref p2, .ref p3, .ref p4, .ref p5])), (p3, .inl (K 0, 8, .inl fb)), (p4, .inl (K 0, 8, .inl fr))] s.heap := hP
  have hl := lv_entry [.ref p0, .int x] (n := 3) (Nat.le_of_ble_eq_true rfl)
  rw [lg_entry_eq]
  generalize (lg_sl [.ref p0, .int x] ++ List.replicate (3 - (lg_sl [.ref p0, .int x]).length) Slot.unset).toArray = ls at hl ⊢
  have hl : lv_has ls 3 [(0, .ref p0), (1, .int x)] := hl
  have hw4 : ∀ w ∈ wsX40, w ∈ wsX4_ahead := fun w h => (List.mem_cons_of_mem _ (List.mem_append_right _ h))
  generalize hQ : MQ below _ _ s _ _ _ = Q
  refine lv_iconst (v := 0) hx hb dX4_ahead_0 (by decide) ?_
  refine lv_istore_n (lv' := [(2, .int 0), (0, .ref p0), (1, .int x)]) hx hb dX4_ahead_1 rfl hl (by decide) rfl (fun ls hl => ?_)
  have lp_123 : ∀ (nn_ : Nat) (v_111 : Int32) (hv_111 : 0 ≤ v_111.toInt ∧ v_111.toInt ≤ 8) (hn : (9 - v_111.toInt : Int).toNat < nn_) (ls : Array Slot) (hl : lv_has ls 3 [(2, .int v_111), (0, .ref p0), (1, .int x)]), W p l e ({ frames := 0, cells := 0, slots := 0, locals := 0 }) s m (([.ref p0, .int x] : List Value).toArray) below meth c s.heap [] 0 0 Q (F0 m 2 ls []) := by
    intro nn_
    induction nn_ with
    | zero =>
      intro v_111 hv_111 hn ls hl
      exact absurd hn (Nat.not_lt_zero _)
    | succ nn_ ih_124 =>
      intro v_111 hv_111 hn ls hl
      refine lv_iload_n hx hb dX4_ahead_2 rfl (lv_at hl 0 rfl) ?_
      refine lv_iload_n hx hb dX4_ahead_3 rfl (lv_at hl 2 rfl) ?_
      refine lv_icmp_ge (tgt := 49) hx hb dX4_ahead_4 (by decide) (fun c_125 => ?_) (fun c_125 => ?_)
      · have c_125i := i_le (x := x.toInt) (y := v_111.toInt) rfl rfl c_125
        refine lv_iconst (v := 0) hx hb dX4_ahead_49 (by decide) ?_
        subst hQ
        exact W.zret (v := 0) hx hb hr (by decide) (fun t ht hW => ⟨_, rfl, ⟨(show 0 ≤ (0 : Int32).toInt ∧ (0 : Int32).toInt ≤ 1 by decide), trivial⟩, ht⟩) (fun q hq => by cases hq) dX4_ahead_50
      · have c_125i := i_nle (x := x.toInt) (y := v_111.toInt) rfl rfl c_125
        refine lv_aload_n hx hb dX4_ahead_7 rfl (lv_at hl 1 rfl) ?_
        refine va_get (ci := 4) (v := .ref p4) (C := RX4) (T := TX4) (N := 5) hx hb hts hw4 hown hK hP 0 rfl rfl 3 (by decide) (hts (.fieldLink RX4 21 "SmokeTune$Paper" "row" "[I") (List.mem_cons_of_mem _ (List.mem_append_left _ (List.mem_of_getElem? (i := 0) rfl)))) (fun _ h9 => h9) rfl dX4_ahead_8 ?_
        refine lv_iload_n hx hb dX4_ahead_11 rfl (lv_at hl 0 rfl) ?_
        refine va_iald hx hb hK hP 2 0 rfl rfl (i_in rfl (by omega)) dX4_ahead_12 ?_
        refine lv_topi (fun x_126 ex_126 => ?_)
        refine lv_aload_n hx hb dX4_ahead_13 rfl (lv_at hl 1 rfl) ?_
        refine va_get (ci := 4) (v := .ref p3) (C := RX4) (T := TX4) (N := 5) hx hb hts hw4 hown hK hP 0 rfl rfl 2 (by decide) (hts (.fieldLink RX4 18 "SmokeTune$Paper" "best" "[I") (List.mem_cons_of_mem _ (List.mem_append_left _ (List.mem_of_getElem? (i := 1) rfl)))) (fun _ h9 => h9) rfl dX4_ahead_14 ?_
        refine lv_iload_n hx hb dX4_ahead_17 rfl (lv_at hl 0 rfl) ?_
        refine va_iald hx hb hK hP 1 0 rfl rfl (i_in rfl (by omega)) dX4_ahead_18 ?_
        refine lv_topi (fun x_127 ex_127 => ?_)
        refine lv_icmp_eq (tgt := 43) hx hb dX4_ahead_19 (by decide) (fun c_128 => ?_) (fun c_128 => ?_)
        · have c_128i := i_eq (x := x_126.toInt) (y := x_127.toInt) rfl rfl c_128
          obtain ⟨x_129, ex_129⟩ : ∃ y : Int32, y = v_111 + Int32.ofInt 1 := ⟨_, rfl⟩
          have hx_129 : x_129.toInt = (v_111.toInt + 1) := by rw [ex_129]; exact i_add rfl (show (Int32.ofInt 1).toInt = 1 from rfl) (by omega)
          refine lv_iinc (v := x_129) (lv' := [(2, .int x_129), (0, .ref p0), (1, .int x)]) hx hb dX4_ahead_43 hl (k := 0) rfl (by rw [ex_129]) (by decide) rfl (fun ls hl => ?_)
          refine lv_goto (tgt := 2) hx hb dX4_ahead_46 (by decide) ?_
          exact ih_124 x_129 (by rw [hx_129]; omega) (by omega) ls (lv_sub hl [0, 1, 2] rfl)
        · have c_128i := i_ne (x := x_126.toInt) (y := x_127.toInt) rfl rfl c_128
          refine lv_aload_n hx hb dX4_ahead_22 rfl (lv_at hl 1 rfl) ?_
          refine va_get (ci := 4) (v := .ref p4) (C := RX4) (T := TX4) (N := 5) hx hb hts hw4 hown hK hP 0 rfl rfl 3 (by decide) (hts (.fieldLink RX4 21 "SmokeTune$Paper" "row" "[I") (List.mem_cons_of_mem _ (List.mem_append_left _ (List.mem_of_getElem? (i := 0) rfl)))) (fun _ h9 => h9) rfl dX4_ahead_23 ?_
          refine lv_iload_n hx hb dX4_ahead_26 rfl (lv_at hl 0 rfl) ?_
          refine va_iald hx hb hK hP 2 0 rfl rfl (i_in rfl (by omega)) dX4_ahead_27 ?_
          refine lv_topi (fun x_130 ex_130 => ?_)
          refine lv_aload_n hx hb dX4_ahead_28 rfl (lv_at hl 1 rfl) ?_
          refine va_get (ci := 4) (v := .ref p3) (C := RX4) (T := TX4) (N := 5) hx hb hts hw4 hown hK hP 0 rfl rfl 2 (by decide) (hts (.fieldLink RX4 18 "SmokeTune$Paper" "best" "[I") (List.mem_cons_of_mem _ (List.mem_append_left _ (List.mem_of_getElem? (i := 1) rfl)))) (fun _ h9 => h9) rfl dX4_ahead_29 ?_
          refine lv_iload_n hx hb dX4_ahead_32 rfl (lv_at hl 0 rfl) ?_
          refine va_iald hx hb hK hP 1 0 rfl rfl (i_in rfl (by omega)) dX4_ahead_33 ?_
          refine lv_topi (fun x_131 ex_131 => ?_)
          refine lv_icmp_ge (tgt := 41) hx hb dX4_ahead_34 (by decide) (fun c_132 => ?_) (fun c_132 => ?_)
          · have c_132i := i_le (x := x_131.toInt) (y := x_130.toInt) rfl rfl c_132
            refine lv_iconst (v := 0) hx hb dX4_ahead_41 (by decide) ?_
            subst hQ
            exact W.zret (v := 0) hx hb hr (by decide) (fun t ht hW => ⟨_, rfl, ⟨(show 0 ≤ (0 : Int32).toInt ∧ (0 : Int32).toInt ≤ 1 by decide), trivial⟩, ht⟩) (fun q hq => by cases hq) dX4_ahead_42
          · have c_132i := i_nle (x := x_131.toInt) (y := x_130.toInt) rfl rfl c_132
            refine lv_iconst (v := 1) hx hb dX4_ahead_37 (by decide) ?_
            refine lv_goto (tgt := 42) hx hb dX4_ahead_38 (by decide) ?_
            subst hQ
            exact W.zret (v := 1) hx hb hr (by decide) (fun t ht hW => ⟨_, rfl, ⟨(show 0 ≤ (1 : Int32).toInt ∧ (1 : Int32).toInt ≤ 1 by decide), trivial⟩, ht⟩) (fun q hq => by cases hq) dX4_ahead_42
  exact lp_123 ((9 - (0 : Int32).toInt : Int).toNat + 1) 0 (by decide) (Nat.lt_succ_self _) ls (lv_sub hl [0, 1, 2] rfl)
set_option maxHeartbeats 4000000 in
set_option maxRecDepth 100000 in
theorem w_retune (l : Launch) (D : va_G) (K : Nat → ClassId) (p0 : Nat) (t0 : Nat) (x : Int32) (p1 : Nat) (p2 : Nat) (p3 : Nat) (p4 : Nat) (p5 : Nat) (fb : Nat → Int32) (fr : Nat → Int32) (t1 : Nat) (k_1 : Value) (t2 : Nat) (k_3 : Value) (n : Int32) (k_5 : Value) (k_6 : Value) (k_7 : Value) (k_8 : Value) (ho : Int32) (f1 : Nat → Int32) (f2 : Nat → Int32) (sz : Nat) (zn : 0 ≤ n.toInt ∧ n.toInt ≤ 8) : Met l yX4_retune wsX4_retune ({ frames := 4, cells := 0, slots := 0, locals := 84 }) (va_Pc [.ref p0, .ref t0, .int x] (Pre D K [(p0, .inr (4, [.ref p1, .ref p2, .ref p3, .ref p4, .ref p5])), (p3, .inl (K 0, 8, .inl fb)), (p4, .inl (K 0, 8, .inl fr)), (t0, .inr (9, [.ref t1, k_1, .ref t2, k_3, .int n, k_5, k_6, k_7, k_8, .int ho])), (t1, .inl (K 0, 56, .inl f1)), (t2, .inl (K 0, 6, .inl f2))] sz)) (va_Qi (S := Su) (fun (r : Int32) (u : Su) => (r.toInt ≤ 56) ∧ True) (fun u t => Wd D (va_A [(p0, .inr (4, [.ref p1, .ref p2, .ref p3, .ref p4, .ref p5])), (p3, .inl (K 0, 8, .inl fb)), (p4, .inl (K 0, 8, .inl fr)), (t0, .inr (9, [.ref t1, k_1, .ref t2, k_3, .int n, k_5, k_6, k_7, k_8, .int ho])), (t1, .inl (K 0, 56, .inl f1)), (t2, .inl (K 0, 6, .inl f2))] sz) ((fun u => [(p0, .inr (4, [.ref p1, .ref p2, .ref p3, .ref p4, .ref p5])), (p3, .inl (K 0, 8, .inl (u.2.1 0))), (p4, .inl (K 0, 8, .inl (u.2.1 1))), (t0, .inr (9, [.ref t1, k_1, .ref t2, k_3, .int n, k_5, k_6, k_7, k_8, .int ho])), (t1, .inl (K 0, 56, .inl f1)), (t2, .inl (K 0, 6, .inl f2))]) u) t) (va_A [(p0, .inr (4, [.ref p1, .ref p2, .ref p3, .ref p4, .ref p5])), (p3, .inl (K 0, 8, .inl fb)), (p4, .inl (K 0, 8, .inl fr)), (t0, .inr (9, [.ref t1, k_1, .ref t2, k_3, .int n, k_5, k_6, k_7, k_8, .int ho])), (t1, .inl (K 0, 56, .inl f1)), (t2, .inl (K 0, 6, .inl f2))] sz)) 0 0 (va_A [(p0, .inr (4, [.ref p1, .ref p2, .ref p3, .ref p4, .ref p5])), (p3, .inl (K 0, 8, .inl fb)), (p4, .inl (K 0, 8, .inl fr)), (t0, .inr (9, [.ref t1, k_1, .ref t2, k_3, .int n, k_5, k_6, k_7, k_8, .int ho])), (t1, .inl (K 0, 56, .inl f1)), (t2, .inl (K 0, 6, .inl f2))] sz) := by
  refine Met.ofW (cc := cX4_retune) (maxL := 7) (ret := (some .int)) (by decide) rfl ?_
  intro p e s m args below meth c s₁ B hml hv
  obtain ⟨rfl, hsz, hP, hK, hD0, hN⟩ := hv
  have hx := B.exec
  have hb := B.bytes
  have hr := B.returns
  have hts := atoms_spec (ws := wsX4_retune) B.pre
  have hown : s.vm.findClass RX4 = some m.cls := findClass_of_methodNamed B.named
  have hlocks := B.notSynchronized
  subst hsz
  have hD := hD0.self (sz := s.heap.size)
  generalize hAe : va_A [(p0, .inr (4, [.ref p1, .ref p2, .ref p3, .ref p4, .ref p5])), (p3, .inl (K 0, 8, .inl fb)), (p4, .inl (K 0, 8, .inl fr)), (t0, .inr (9, [.ref t1, k_1, .ref t2, k_3, .int n, k_5, k_6, k_7, k_8, .int ho])), (t1, .inl (K 0, 56, .inl f1)), (t2, .inl (K 0, 6, .inl f2))] s.heap.size = A at hD ⊢
  have hA : ∀ q : Nat, s.heap.size ≤ q → A q := fun q h => by rw [← hAe]; exact Or.inr h
  have hS : va_S A s.heap s.heap [] := va_S.rf
  have hP : va_P D vwCl [(p0, .inr (4, [.ref p1, .ref p2, .ref p3, .ref p4, .ref p5])), (p3, .inl (K 0, 8, .inl fb)), (p4, .inl (K 0, 8, .inl fr)), (t0, .inr (9, [.ref t1, k_1, .ref t2, k_3, .int n, k_5, k_6, k_7, k_8, .int ho])), (t1, .inl (K 0, 56, .inl f1)), (t2, .inl (K 0, 6, .inl f2))] s.heap := hP
  have hl := lv_entry [.ref p0, .ref t0, .int x] (n := 7) (Nat.le_of_ble_eq_true rfl)
  rw [lg_entry_eq]
  generalize (lg_sl [.ref p0, .ref t0, .int x] ++ List.replicate (7 - (lg_sl [.ref p0, .ref t0, .int x]).length) Slot.unset).toArray = ls at hl ⊢
  have hl : lv_has ls 7 [(0, .ref p0), (1, .ref t0), (2, .int x)] := hl
  have hw4 : ∀ w ∈ wsX40, w ∈ wsX4_retune := fun w h => (List.mem_cons_of_mem _ (List.mem_append_right _ h))
  have hw9 : ∀ w ∈ wsX90, w ∈ wsX4_retune := fun w h => (List.mem_cons_of_mem _ (List.mem_append_left _ (List.mem_append_right _ h)))
  generalize hQ : MQ below _ _ s _ _ _ = Q
  refine lv_bipush (v := 56) hx hb dX4_retune_0 (by decide) ?_
  refine lv_istore_n (lv' := [(3, .int 56), (0, .ref p0), (1, .ref t0), (2, .int x)]) hx hb dX4_retune_2 rfl hl (by decide) rfl (fun ls hl => ?_)
  refine lv_iconst (v := 1) hx hb dX4_retune_3 (by decide) ?_
  refine lv_istore (lv' := [(4, .int 1), (3, .int 56), (0, .ref p0), (1, .ref t0), (2, .int x)]) hx hb dX4_retune_4 hl (by decide) rfl (fun ls hl => ?_)
  have lp_939 : ∀ (nn_ : Nat) (v_843 : Int32) (v_844 : Int32) (f_845 : Nat → Int32) (f_846 : Nat → Int32) (hv_843 : 1 ≤ v_843.toInt ∧ v_843.toInt ≤ 128) (hv_844 : v_844.toInt ≤ 56) (hn : (129 - v_843.toInt : Int).toNat < nn_) (H : Heap) (locs : List Loc) (hP : va_P D vwCl [(p0, .inr (4, [.ref p1, .ref p2, .ref p3, .ref p4, .ref p5])), (p3, .inl (K 0, 8, .inl f_845)), (p4, .inl (K 0, 8, .inl f_846)), (t0, .inr (9, [.ref t1, k_1, .ref t2, k_3, .int n, k_5, k_6, k_7, k_8, .int ho])), (t1, .inl (K 0, 56, .inl f1)), (t2, .inl (K 0, 6, .inl f2))] H) (hD : va_D A [(p0, .inr (4, [.ref p1, .ref p2, .ref p3, .ref p4, .ref p5])), (p3, .inl (K 0, 8, .inl f_845)), (p4, .inl (K 0, 8, .inl f_846)), (t0, .inr (9, [.ref t1, k_1, .ref t2, k_3, .int n, k_5, k_6, k_7, k_8, .int ho])), (t1, .inl (K 0, 56, .inl f1)), (t2, .inl (K 0, 6, .inl f2))]) (hS : va_S A s.heap H locs) (ls : Array Slot) (hl : lv_has ls 7 [(4, .int v_843), (3, .int v_844), (0, .ref p0), (1, .ref t0), (2, .int x)]), W p l e ({ frames := 4, cells := 0, slots := 0, locals := 84 }) s m (([.ref p0, .ref t0, .int x] : List Value).toArray) below meth c H locs 0 0 Q (F0 m 6 ls []) := by
    intro nn_
    induction nn_ with
    | zero =>
      intro v_843 v_844 f_845 f_846 hv_843 hv_844 hn H locs hP hD hS ls hl
      exact absurd hn (Nat.not_lt_zero _)
    | succ nn_ ih_940 =>
      intro v_843 v_844 f_845 f_846 hv_843 hv_844 hn H locs hP hD hS ls hl
      refine lv_iload hx hb dX4_retune_6 (lv_at hl 0 rfl) ?_
      refine lv_bipush (v := 127) hx hb dX4_retune_8 (by decide) ?_
      refine lv_icmp_gt (tgt := 93) hx hb dX4_retune_10 (by decide) (fun c_941 => ?_) (fun c_941 => ?_)
      · have c_941i := i_lt (x := 127) (y := v_843.toInt) rfl rfl c_941
        refine lv_iload_n hx hb dX4_retune_93 rfl (lv_at hl 1 rfl) ?_
        subst hQ
        have hP9 := hP.sub (ws' := [(p0, .inr (4, [.ref p1, .ref p2, .ref p3, .ref p4, .ref p5])), (p3, .inl (K 0, 8, .inl f_845)), (p4, .inl (K 0, 8, .inl f_846)), (t0, .inr (9, [.ref t1, k_1, .ref t2, k_3, .int n, k_5, k_6, k_7, k_8, .int ho])), (t1, .inl (K 0, 56, .inl f1)), (t2, .inl (K 0, 6, .inl f2))]) [0, 1, 2, 3, 4, 5] rfl
        have hD9 := hD.sub (ws' := [(p0, .inr (4, [.ref p1, .ref p2, .ref p3, .ref p4, .ref p5])), (p3, .inl (K 0, 8, .inl f_845)), (p4, .inl (K 0, 8, .inl f_846)), (t0, .inr (9, [.ref t1, k_1, .ref t2, k_3, .int n, k_5, k_6, k_7, k_8, .int ho])), (t1, .inl (K 0, 56, .inl f1)), (t2, .inl (K 0, 6, .inl f2))]) [0, 1, 2, 3, 4, 5] (by decide) rfl
        exact W.iret (v := v_844) hx hb hr (fun t ht hW => ⟨⟨v_844, ((fun _ => 0, fun i => match i with | 0 => f_845 | _ => f_846, fun _ => fun _ => 0, fun _ => 0, fun _ => 0, fun _ => fun _ => none) : Su), rfl, ⟨(show v_844.toInt ≤ 56 by omega), trivial⟩, (⟨by rw [ht]; exact hP9, hD9⟩ : Wd D A _ t)⟩, hS.F ht⟩) hS.2.2 dX4_retune_94
      · have c_941i := i_nlt (x := 127) (y := v_843.toInt) rfl rfl c_941
        refine lv_iload hx hb dX4_retune_13 (lv_at hl 0 rfl) ?_
        refine lv_iconst (v := 1) hx hb dX4_retune_15 (by decide) ?_
        refine lv_ishl hx hb dX4_retune_16 ?_
        refine lv_topi (fun x_942 ex_942 => ?_)
        refine lv_iload hx hb dX4_retune_17 (lv_at hl 0 rfl) ?_
        refine lv_bipush (v := 6) hx hb dX4_retune_19 (by decide) ?_
        refine lv_ishr hx hb dX4_retune_21 ?_
        refine lv_topi (fun x_943 ex_943 => ?_)
        have hx_943 : 0 ≤ x_943.toInt ∧ x_943.toInt ≤ v_843.toInt := by rw [ex_943]; exact i_shr rfl (by omega)
        refine lv_ior hx hb dX4_retune_22 ?_
        refine lv_topi (fun x_944 ex_944 => ?_)
        refine lv_bipush (v := 127) hx hb dX4_retune_23 (by decide) ?_
        refine lv_iand hx hb dX4_retune_25 ?_
        refine lv_topi (fun x_945 ex_945 => ?_)
        have hx_945 : 0 ≤ x_945.toInt ∧ x_945.toInt ≤ 127 := by rw [ex_945]; exact i_mask x_944 7 rfl (by decide)
        refine lv_istore (lv' := [(5, .int x_945), (4, .int v_843), (3, .int v_844), (0, .ref p0), (1, .ref t0), (2, .int x)]) hx hb dX4_retune_26 hl (by decide) rfl (fun ls hl => ?_)
        refine lv_iload hx hb dX4_retune_28 (lv_at hl 1 rfl) ?_
        refine lv_iload hx hb dX4_retune_30 (lv_at hl 0 rfl) ?_
        refine lv_iand hx hb dX4_retune_32 ?_
        refine lv_topi (fun x_946 ex_946 => ?_)
        have hx_946 : 0 ≤ x_946.toInt ∧ x_946.toInt ≤ x_945.toInt := by rw [ex_946]; exact i_andr rfl (by omega)
        have j_967 : ∀ (v_963 : Int32) (f_964 : Nat → Int32) (f_965 : Nat → Int32) (hv_963 : v_963.toInt ≤ 56) (H : Heap) (locs : List Loc) (hP : va_P D vwCl [(p0, .inr (4, [.ref p1, .ref p2, .ref p3, .ref p4, .ref p5])), (p3, .inl (K 0, 8, .inl f_964)), (p4, .inl (K 0, 8, .inl f_965)), (t0, .inr (9, [.ref t1, k_1, .ref t2, k_3, .int n, k_5, k_6, k_7, k_8, .int ho])), (t1, .inl (K 0, 56, .inl f1)), (t2, .inl (K 0, 6, .inl f2))] H) (hD : va_D A [(p0, .inr (4, [.ref p1, .ref p2, .ref p3, .ref p4, .ref p5])), (p3, .inl (K 0, 8, .inl f_964)), (p4, .inl (K 0, 8, .inl f_965)), (t0, .inr (9, [.ref t1, k_1, .ref t2, k_3, .int n, k_5, k_6, k_7, k_8, .int ho])), (t1, .inl (K 0, 56, .inl f1)), (t2, .inl (K 0, 6, .inl f2))]) (hS : va_S A s.heap H locs) (ls : Array Slot) (hl : lv_has ls 7 [(4, .int v_843), (3, .int v_963), (0, .ref p0), (1, .ref t0), (2, .int x)]), W p l e ({ frames := 4, cells := 0, slots := 0, locals := 84 }) s m (([.ref p0, .ref t0, .int x] : List Value).toArray) below meth c H locs 0 0 Q (F0 m 87 ls []) := by
          intro v_963 f_964 f_965 hv_963 H locs hP hD hS ls hl
          obtain ⟨x_968, ex_968⟩ : ∃ y : Int32, y = v_843 + Int32.ofInt 1 := ⟨_, rfl⟩
          have hx_968 : x_968.toInt = (v_843.toInt + 1) := by rw [ex_968]; exact i_add rfl (show (Int32.ofInt 1).toInt = 1 from rfl) (by omega)
          refine lv_iinc (v := x_968) (lv' := [(4, .int x_968), (3, .int v_963), (0, .ref p0), (1, .ref t0), (2, .int x)]) hx hb dX4_retune_87 hl (k := 0) rfl (by rw [ex_968]) (by decide) rfl (fun ls hl => ?_)
          refine lv_goto (tgt := 6) hx hb dX4_retune_90 (by decide) ?_
          exact ih_940 x_968 v_963 f_964 f_965 (by rw [hx_968]; omega) (by omega) (by omega) _ _ hP hD hS ls (lv_sub hl [0, 1, 2, 3, 4] rfl)
        refine lv_if_ne (tgt := 87) hx hb dX4_retune_33 (by decide) (fun c_969 => ?_) (fun c_969 => ?_)
        · have c_969i := i_ne (x := x_946.toInt) (y := 0) rfl rfl c_969
          exact j_967 v_844 f_845 f_846 (by omega) _ _ hP hD hS ls (lv_sub hl [1, 2, 3, 4, 5] rfl)
        · have c_969i := i_eq (x := x_946.toInt) (y := 0) rfl rfl c_969
          refine lv_aload_n hx hb dX4_retune_36 rfl (lv_at hl 3 rfl) ?_
          refine lv_aload_n hx hb dX4_retune_37 rfl (lv_at hl 4 rfl) ?_
          refine lv_iload_n hx hb dX4_retune_38 rfl (lv_at hl 5 rfl) ?_
          refine lv_iload hx hb dX4_retune_39 (lv_at hl 1 rfl) ?_
          refine kci (S := Su) (wr := [(p3, .inl (K 0, 8, .inl f_845))]) (va_runV (As := [.ref t0, .int x, .int v_843]) (rest := []) ⟨hx, hb, hml, hown, hts⟩ (w_fill l D K p0 t0 x v_843 p1 p2 p3 p4 p5 f_846 t1 k_1 t2 k_3 n k_5 k_6 k_7 k_8 ho f1 f2 H.size (by first | omega | decide)) (cwV 3 hts gX4_retune_X4_fill rfl rfl rfl (by decide +kernel) ⟨Nat.le_of_ble_eq_true rfl, Nat.le_of_ble_eq_true rfl⟩) (mkV hK hN (hP.sub [0, 2, 3, 4, 5] rfl) (hD.sub [0, 2, 3, 4, 5] (by decide) rfl) (ci := 4) (q0 := 0) rfl rfl) rfl rfl hl.1 rfl (lv_room (Nat.le_of_ble_eq_true rfl)) dX4_retune_41 ⟨Nat.le_of_ble_eq_true rfl, Nat.le_of_ble_eq_true rfl⟩) hP hD hS hA [0, 2, 3, 4, 5] [1] rfl rfl (by decide) (by decide) (fun r_970 u_971 H locs hw hP hD hS => ?_)
          have hP : va_P D vwCl [(p3, .inl (K 0, 8, .inl f_845)), (p0, .inr (4, [.ref p1, .ref p2, .ref p3, .ref p4, .ref p5])), (p4, .inl (K 0, 8, .inl (u_971.2.1 0))), (t0, .inr (9, [.ref t1, k_1, .ref t2, k_3, .int n, k_5, k_6, k_7, k_8, .int ho])), (t1, .inl (K 0, 56, .inl f1)), (t2, .inl (K 0, 6, .inl f2))] H := hP
          have hD : va_D A [(p3, .inl (K 0, 8, .inl f_845)), (p0, .inr (4, [.ref p1, .ref p2, .ref p3, .ref p4, .ref p5])), (p4, .inl (K 0, 8, .inl (u_971.2.1 0))), (t0, .inr (9, [.ref t1, k_1, .ref t2, k_3, .int n, k_5, k_6, k_7, k_8, .int ho])), (t1, .inl (K 0, 56, .inl f1)), (t2, .inl (K 0, 6, .inl f2))] := hD
          refine lv_istore (lv' := [(6, .int r_970), (5, .int x_945), (4, .int v_843), (3, .int v_844), (0, .ref p0), (1, .ref t0), (2, .int x)]) hx hb dX4_retune_44 hl (by decide) rfl (fun ls hl => ?_)
          refine lv_iload hx hb dX4_retune_46 (lv_at hl 0 rfl) ?_
          refine lv_iload_n hx hb dX4_retune_48 rfl (lv_at hl 3 rfl) ?_
          have j_978 : ∀ (hk0_j_978 : r_970.toInt ≤ 56) (H : Heap) (locs : List Loc) (hP : va_P D vwCl [(p3, .inl (K 0, 8, .inl f_845)), (p0, .inr (4, [.ref p1, .ref p2, .ref p3, .ref p4, .ref p5])), (p4, .inl (K 0, 8, .inl (u_971.2.1 0))), (t0, .inr (9, [.ref t1, k_1, .ref t2, k_3, .int n, k_5, k_6, k_7, k_8, .int ho])), (t1, .inl (K 0, 56, .inl f1)), (t2, .inl (K 0, 6, .inl f2))] H) (hD : va_D A [(p3, .inl (K 0, 8, .inl f_845)), (p0, .inr (4, [.ref p1, .ref p2, .ref p3, .ref p4, .ref p5])), (p4, .inl (K 0, 8, .inl (u_971.2.1 0))), (t0, .inr (9, [.ref t1, k_1, .ref t2, k_3, .int n, k_5, k_6, k_7, k_8, .int ho])), (t1, .inl (K 0, 56, .inl f1)), (t2, .inl (K 0, 6, .inl f2))]) (hS : va_S A s.heap H locs) (ls : Array Slot) (hl : lv_has ls 7 [(6, .int r_970), (4, .int v_843), (0, .ref p0), (1, .ref t0), (2, .int x)]), W p l e ({ frames := 4, cells := 0, slots := 0, locals := 84 }) s m (([.ref p0, .ref t0, .int x] : List Value).toArray) below meth c H locs 0 0 Q (F0 m 69 ls []) := by
            intro hk0_j_978 H locs hP hD hS ls hl
            refine lv_iload hx hb dX4_retune_69 (lv_at hl 0 rfl) ?_
            refine lv_istore_n (lv' := [(3, .int r_970), (6, .int r_970), (4, .int v_843), (0, .ref p0), (1, .ref t0), (2, .int x)]) hx hb dX4_retune_71 rfl hl (by decide) rfl (fun ls hl => ?_)
            refine lv_aload_n hx hb dX4_retune_72 rfl (lv_at hl 3 rfl) ?_
            refine va_get (ci := 4) (v := .ref p4) (C := RX4) (T := TX4) (N := 5) hx hb hts hw4 hown hK hP 1 rfl rfl 3 (by decide) (hts (.fieldLink RX4 21 "SmokeTune$Paper" "row" "[I") (List.mem_cons_of_mem _ (List.mem_append_left _ (List.mem_append_left _ (List.mem_append_left _ (List.mem_of_getElem? (i := 0) rfl)))))) (fun _ h9 => h9) rfl dX4_retune_73 ?_
            refine lv_iconst (v := 0) hx hb dX4_retune_76 (by decide) ?_
            refine lv_aload_n hx hb dX4_retune_77 rfl (lv_at hl 3 rfl) ?_
            refine va_get (ci := 4) (v := .ref p3) (C := RX4) (T := TX4) (N := 5) hx hb hts hw4 hown hK hP 1 rfl rfl 2 (by decide) (hts (.fieldLink RX4 18 "SmokeTune$Paper" "best" "[I") (List.mem_cons_of_mem _ (List.mem_append_left _ (List.mem_append_left _ (List.mem_append_left _ (List.mem_of_getElem? (i := 1) rfl)))))) (fun _ h9 => h9) rfl dX4_retune_78 ?_
            refine lv_iconst (v := 0) hx hb dX4_retune_81 (by decide) ?_
            refine lv_bipush (v := 8) hx hb dX4_retune_82 (by decide) ?_
            refine va_copyi hx hb (hml.trans hl.1.symm) hown (hts (.methodLink RX4 62 arraycopyName) (List.mem_cons_of_mem _ (List.mem_append_left _ (List.mem_append_left _ (List.mem_append_left _ (List.mem_of_getElem? (i := 2) rfl)))))) (hts (.native arraycopyName) (List.mem_cons_of_mem _ (List.mem_append_left _ (List.mem_append_left _ (List.mem_append_left _ (List.mem_of_getElem? (i := 3) rfl)))))) (hts (.static arraycopyName) (List.mem_cons_of_mem _ (List.mem_append_left _ (List.mem_append_left _ (List.mem_append_left _ (List.mem_of_getElem? (i := 4) rfl)))))) (hts (.initialized "java/lang/System") (List.mem_cons_of_mem _ (List.mem_append_left _ (List.mem_append_left _ (List.mem_append_left _ (List.mem_of_getElem? (i := 5) rfl)))))) hK hP hD hS 2 0 0 0 rfl rfl rfl rfl rfl (by decide) (by decide) (by decide) (by decide) (by decide) (fun _ _ => rfl) (Nat.le_of_ble_eq_true rfl) (by decide +kernel) dX4_retune_84 (fun H locs hP hD hS => ?_)
            generalize hf_979 : (va_cpy (α := Int32) (u_971.2.1 0) f_845 (0 : Int32).toNatClampNeg (0 : Int32).toNatClampNeg (8 : Int32).toNatClampNeg) = f_979 at hP hD
            have hP : va_P D vwCl [(p3, .inl (K 0, 8, .inl f_979)), (p0, .inr (4, [.ref p1, .ref p2, .ref p3, .ref p4, .ref p5])), (p4, .inl (K 0, 8, .inl (u_971.2.1 0))), (t0, .inr (9, [.ref t1, k_1, .ref t2, k_3, .int n, k_5, k_6, k_7, k_8, .int ho])), (t1, .inl (K 0, 56, .inl f1)), (t2, .inl (K 0, 6, .inl f2))] H := hP
            have hD : va_D A [(p3, .inl (K 0, 8, .inl f_979)), (p0, .inr (4, [.ref p1, .ref p2, .ref p3, .ref p4, .ref p5])), (p4, .inl (K 0, 8, .inl (u_971.2.1 0))), (t0, .inr (9, [.ref t1, k_1, .ref t2, k_3, .int n, k_5, k_6, k_7, k_8, .int ho])), (t1, .inl (K 0, 56, .inl f1)), (t2, .inl (K 0, 6, .inl f2))] := hD
            exact j_967 r_970 f_979 (u_971.2.1 0) (by omega) _ _ (hP.sub [1, 0, 2, 3, 4, 5] rfl) (hD.sub [1, 0, 2, 3, 4, 5] (by decide) rfl) hS ls (lv_sub hl [2, 0, 3, 4, 5] rfl)
          refine lv_icmp_lt (tgt := 69) hx hb dX4_retune_49 (by decide) (fun c_980 => ?_) (fun c_980 => ?_)
          · have c_980i := i_lt (x := r_970.toInt) (y := v_844.toInt) rfl rfl c_980
            exact j_978  (by omega) _ _ hP hD hS ls (lv_sub hl [0, 2, 4, 5, 6] rfl)
          · have c_980i := i_nlt (x := r_970.toInt) (y := v_844.toInt) rfl rfl c_980
            refine lv_iload hx hb dX4_retune_52 (lv_at hl 0 rfl) ?_
            refine lv_iload_n hx hb dX4_retune_54 rfl (lv_at hl 3 rfl) ?_
            refine lv_icmp_ne (tgt := 87) hx hb dX4_retune_55 (by decide) (fun c_981 => ?_) (fun c_981 => ?_)
            · have c_981i := i_ne (x := r_970.toInt) (y := v_844.toInt) rfl rfl c_981
              exact j_967 v_844 f_845 (u_971.2.1 0) (by omega) _ _ (hP.sub [1, 0, 2, 3, 4, 5] rfl) (hD.sub [1, 0, 2, 3, 4, 5] (by decide) rfl) hS ls (lv_sub hl [2, 3, 4, 5, 6] rfl)
            · have c_981i := i_eq (x := r_970.toInt) (y := v_844.toInt) rfl rfl c_981
              refine lv_aload_n hx hb dX4_retune_58 rfl (lv_at hl 4 rfl) ?_
              refine lv_aload_n hx hb dX4_retune_59 rfl (lv_at hl 5 rfl) ?_
              refine va_getN (ci := 9) (v := .int n) (C := RX9) (T := TX9) (N := 10) hx hb hts hw9 hown hK hP 3 rfl rfl 4 (by decide) (nst_use hN 106 rfl) (fun _ h9 => h9) rfl dX4_retune_60 ?_
              refine pci (va_runV (As := [.int n]) (rest := []) ⟨hx, hb, hml, hown, hts⟩ (w_ahead l D K p0 n p1 p2 p3 p4 p5 f_845 (u_971.2.1 0) H.size (by first | omega | decide)) (cwV 1 hts gX4_retune_X4_ahead rfl rfl rfl (by decide +kernel) ⟨Nat.le_of_ble_eq_true rfl, Nat.le_of_ble_eq_true rfl⟩) (mkV hK hN (hP.sub [1, 0, 2] rfl) (hD.sub [1, 0, 2] (by decide) rfl) (ci := 4) (q0 := 0) rfl rfl) rfl rfl hl.1 rfl (lv_room (Nat.le_of_ble_eq_true rfl)) dX4_retune_63 ⟨Nat.le_of_ble_eq_true rfl, Nat.le_of_ble_eq_true rfl⟩) (fun r_982 hw => ?_)
              obtain ⟨h_983, -⟩ := hw
              refine lv_if_eq (tgt := 87) hx hb dX4_retune_66 (by decide) (fun c_984 => ?_) (fun c_984 => ?_)
              · have c_984i := i_eq (x := r_982.toInt) (y := 0) rfl rfl c_984
                exact j_967 v_844 f_845 (u_971.2.1 0) (by omega) _ _ (hP.sub [1, 0, 2, 3, 4, 5] rfl) (hD.sub [1, 0, 2, 3, 4, 5] (by decide) rfl) hS ls (lv_sub hl [2, 3, 4, 5, 6] rfl)
              · have c_984i := i_ne (x := r_982.toInt) (y := 0) rfl rfl c_984
                exact j_978  (by omega) _ _ hP hD hS ls (lv_sub hl [0, 2, 4, 5, 6] rfl)
  exact lp_939 ((129 - (1 : Int32).toInt : Int).toNat + 1) 1 56 fb fr (by decide) (by decide) (Nat.lt_succ_self _) _ _ hP hD hS ls (lv_sub hl [0, 1, 2, 3, 4] rfl)
set_option maxHeartbeats 4000000 in
set_option maxRecDepth 100000 in
theorem w_tunedNote (l : Launch) (D : va_G) (K : Nat → ClassId) (p0 : Nat) (x : Int32) (p1 : Nat) (p2 : Nat) (p3 : Nat) (p4 : Nat) (p5 : Nat) (fb : Nat → Int32) (sz : Nat) : Met l yX4_tunedNote wsX4_tunedNote ({ frames := 1, cells := 0, slots := 0, locals := 22 }) (va_Pc [.ref p0, .int x] (Pre D K [(p0, .inr (4, [.ref p1, .ref p2, .ref p3, .ref p4, .ref p5])), (p3, .inl (K 0, 8, .inl fb))] sz)) (vp_Si (fun r : Int32 => True)) 0 0 (fun _ => False) := by
  refine Met.ofW (cc := cX4_tunedNote) (maxL := 2) (ret := (some .int)) (by decide) rfl ?_
  intro p e s m args below meth c s₁ B hml hv
  obtain ⟨rfl, hsz, hP, hK, hD0, hN⟩ := hv
  have hx := B.exec
  have hb := B.bytes
  have hr := B.returns
  have hts := atoms_spec (ws := wsX4_tunedNote) B.pre
  have hown : s.vm.findClass RX4 = some m.cls := findClass_of_methodNamed B.named
  have hlocks := B.notSynchronized
  subst hsz
  have hD := hD0
  have hP : va_P D vwCl [(p0, .inr (4, [.ref p1, .ref p2, .ref p3, .ref p4, .ref p5])), (p3, .inl (K 0, 8, .inl fb))] s.heap := hP
  have hl := lv_entry [.ref p0, .int x] (n := 2) (Nat.le_of_ble_eq_true rfl)
  rw [lg_entry_eq]
  generalize (lg_sl [.ref p0, .int x] ++ List.replicate (2 - (lg_sl [.ref p0, .int x]).length) Slot.unset).toArray = ls at hl ⊢
  have hl : lv_has ls 2 [(0, .ref p0), (1, .int x)] := hl
  have hw4 : ∀ w ∈ wsX40, w ∈ wsX4_tunedNote := fun w h => (List.mem_cons_of_mem _ (List.mem_append_right _ h))
  generalize hQ : MQ below _ _ s _ _ _ = Q
  refine lv_iload_n hx hb dX4_tunedNote_0 rfl (lv_at hl 1 rfl) ?_
  refine lv_iconst (v := 0) hx hb dX4_tunedNote_1 (by decide) ?_
  refine lv_bipush (v := 7) hx hb dX4_tunedNote_2 (by decide) ?_
  refine pci (va_runSN (As := [.int x, .int 0, .int 7]) (rest := []) ⟨hx, hb, hml, hown, hts⟩ (w_within l D K x.toInt 0 7 x 0 7 s.heap.size rfl (show (0 : Int32).toInt = 0 from rfl) (show (7 : Int32).toInt = 7 from rfl)) ⟨va_cnB 3 hts gX4_tunedNote_X11_within_n41 rfl rfl rfl (nst_at hN 85 rfl) (hts (.initialized RX11) (List.mem_cons_of_mem _ (List.mem_append_left _ (List.mem_of_getElem? (i := 2) rfl)))) (by decide +kernel) ⟨Nat.le_of_ble_eq_true rfl, Nat.le_of_ble_eq_true rfl⟩, (hts (.static yX11_within) (List.mem_cons_of_mem _ (List.mem_append_left _ (List.mem_of_getElem? (i := 1) rfl)))), trivial⟩ (mkS hK hN (va_P.nil) (va_D.nil (A := fun _ => True))) rfl rfl hl.1 rfl (lv_room (Nat.le_of_ble_eq_true rfl)) dX4_tunedNote_4 ⟨Nat.le_of_ble_eq_true rfl, Nat.le_of_ble_eq_true rfl⟩) (fun r_15 hw => ?_)
  obtain ⟨hw, -⟩ := hw
  rcases hw with ⟨rfl, h_16, h_17⟩ | ⟨rfl, h_18⟩
  · refine lv_if_eq (tgt := 19) hx hb dX4_tunedNote_7 (by decide) (fun c_19 => absurd c_19 (by decide)) (fun c_19 => ?_)
    refine lv_aload_n hx hb dX4_tunedNote_10 rfl (lv_at hl 0 rfl) ?_
    refine va_get (ci := 4) (v := .ref p3) (C := RX4) (T := TX4) (N := 5) hx hb hts hw4 hown hK hP 0 rfl rfl 2 (by decide) (hts (.fieldLink RX4 18 "SmokeTune$Paper" "best" "[I") (List.mem_cons_of_mem _ (List.mem_append_left _ (List.mem_of_getElem? (i := 0) rfl)))) (fun _ h9 => h9) rfl dX4_tunedNote_11 ?_
    refine lv_iload_n hx hb dX4_tunedNote_14 rfl (lv_at hl 1 rfl) ?_
    refine va_iald hx hb hK hP 1 0 rfl rfl (i_in rfl (by omega)) dX4_tunedNote_15 ?_
    refine lv_topi (fun x_20 ex_20 => ?_)
    refine lv_goto (tgt := 20) hx hb dX4_tunedNote_16 (by decide) ?_
    subst hQ
    exact W.iret (v := x_20) hx hb hr (fun t ht hW => ⟨_, rfl, trivial, ht⟩) (fun q hq => by cases hq) dX4_tunedNote_20
  · refine lv_if_eq (tgt := 19) hx hb dX4_tunedNote_7 (by decide) (fun c_21 => ?_) (fun c_21 => absurd (by decide) c_21)
    refine lv_iconst (v := (-1)) hx hb dX4_tunedNote_19 (by decide) ?_
    subst hQ
    exact W.iret (v := (-1)) hx hb hr (fun t ht hW => ⟨_, rfl, trivial, ht⟩) (fun q hq => by cases hq) dX4_tunedNote_20
set_option maxHeartbeats 4000000 in
set_option maxRecDepth 100000 in
theorem w_mapSets (l : Launch) (D : va_G) (K : Nat → ClassId) (p0 : Nat) (t0 : Nat) (p1 : Nat) (p2 : Nat) (p3 : Nat) (p4 : Nat) (p5 : Nat) (fs : Nat → Int32) (t1 : Nat) (k_1 : Value) (t2 : Nat) (k_3 : Value) (n : Int32) (k_5 : Value) (k_6 : Value) (k_7 : Value) (k_8 : Value) (ho : Int32) (f1 : Nat → Int32) (f2 : Nat → Int32) (sz : Nat) (zn : 0 ≤ n.toInt ∧ n.toInt ≤ 8) : Met l yX4_mapSets wsX4_mapSets ({ frames := 1, cells := 0, slots := 0, locals := 23 }) (va_Pc [.ref p0, .ref t0] (Pre D K [(p0, .inr (4, [.ref p1, .ref p2, .ref p3, .ref p4, .ref p5])), (p5, .inl (K 0, 256, .inl fs)), (t0, .inr (9, [.ref t1, k_1, .ref t2, k_3, .int n, k_5, k_6, k_7, k_8, .int ho])), (t1, .inl (K 0, 56, .inl f1)), (t2, .inl (K 0, 6, .inl f2))] sz)) (va_Qi (S := Su) (fun (r : Int32) (u : Su) => (1 ≤ r.toInt ∧ r.toInt ≤ 256) ∧ True) (fun u t => Wd D (va_A [(p0, .inr (4, [.ref p1, .ref p2, .ref p3, .ref p4, .ref p5])), (p5, .inl (K 0, 256, .inl fs)), (t0, .inr (9, [.ref t1, k_1, .ref t2, k_3, .int n, k_5, k_6, k_7, k_8, .int ho])), (t1, .inl (K 0, 56, .inl f1)), (t2, .inl (K 0, 6, .inl f2))] sz) ((fun u => [(p0, .inr (4, [.ref p1, .ref p2, .ref p3, .ref p4, .ref p5])), (p5, .inl (K 0, 256, .inl (u.2.1 0))), (t0, .inr (9, [.ref t1, k_1, .ref t2, k_3, .int n, k_5, k_6, k_7, k_8, .int ho])), (t1, .inl (K 0, 56, .inl f1)), (t2, .inl (K 0, 6, .inl f2))]) u) t) (va_A [(p0, .inr (4, [.ref p1, .ref p2, .ref p3, .ref p4, .ref p5])), (p5, .inl (K 0, 256, .inl fs)), (t0, .inr (9, [.ref t1, k_1, .ref t2, k_3, .int n, k_5, k_6, k_7, k_8, .int ho])), (t1, .inl (K 0, 56, .inl f1)), (t2, .inl (K 0, 6, .inl f2))] sz)) 0 0 (va_A [(p0, .inr (4, [.ref p1, .ref p2, .ref p3, .ref p4, .ref p5])), (p5, .inl (K 0, 256, .inl fs)), (t0, .inr (9, [.ref t1, k_1, .ref t2, k_3, .int n, k_5, k_6, k_7, k_8, .int ho])), (t1, .inl (K 0, 56, .inl f1)), (t2, .inl (K 0, 6, .inl f2))] sz) := by
  refine Met.ofW (cc := cX4_mapSets) (maxL := 5) (ret := (some .int)) (by decide) rfl ?_
  intro p e s m args below meth c s₁ B hml hv
  obtain ⟨rfl, hsz, hP, hK, hD0, hN⟩ := hv
  have hx := B.exec
  have hb := B.bytes
  have hr := B.returns
  have hts := atoms_spec (ws := wsX4_mapSets) B.pre
  have hown : s.vm.findClass RX4 = some m.cls := findClass_of_methodNamed B.named
  have hlocks := B.notSynchronized
  subst hsz
  have hD := hD0.self (sz := s.heap.size)
  generalize hAe : va_A [(p0, .inr (4, [.ref p1, .ref p2, .ref p3, .ref p4, .ref p5])), (p5, .inl (K 0, 256, .inl fs)), (t0, .inr (9, [.ref t1, k_1, .ref t2, k_3, .int n, k_5, k_6, k_7, k_8, .int ho])), (t1, .inl (K 0, 56, .inl f1)), (t2, .inl (K 0, 6, .inl f2))] s.heap.size = A at hD ⊢
  have hA : ∀ q : Nat, s.heap.size ≤ q → A q := fun q h => by rw [← hAe]; exact Or.inr h
  have hS : va_S A s.heap s.heap [] := va_S.rf
  have hP : va_P D vwCl [(p0, .inr (4, [.ref p1, .ref p2, .ref p3, .ref p4, .ref p5])), (p5, .inl (K 0, 256, .inl fs)), (t0, .inr (9, [.ref t1, k_1, .ref t2, k_3, .int n, k_5, k_6, k_7, k_8, .int ho])), (t1, .inl (K 0, 56, .inl f1)), (t2, .inl (K 0, 6, .inl f2))] s.heap := hP
  have hl := lv_entry [.ref p0, .ref t0] (n := 5) (Nat.le_of_ble_eq_true rfl)
  rw [lg_entry_eq]
  generalize (lg_sl [.ref p0, .ref t0] ++ List.replicate (5 - (lg_sl [.ref p0, .ref t0]).length) Slot.unset).toArray = ls at hl ⊢
  have hl : lv_has ls 5 [(0, .ref p0), (1, .ref t0)] := hl
  have hw4 : ∀ w ∈ wsX40, w ∈ wsX4_mapSets := fun w h => (List.mem_cons_of_mem _ (List.mem_append_right _ h))
  have hw9 : ∀ w ∈ wsX90, w ∈ wsX4_mapSets := fun w h => (List.mem_cons_of_mem _ (List.mem_append_left _ (List.mem_append_right _ h)))
  generalize hQ : MQ below _ _ s _ _ _ = Q
  refine lv_iconst (v := 1) hx hb dX4_mapSets_0 (by decide) ?_
  refine lv_istore_n (lv' := [(2, .int 1), (0, .ref p0), (1, .ref t0)]) hx hb dX4_mapSets_1 rfl hl (by decide) rfl (fun ls hl => ?_)
  refine lv_iconst (v := 0) hx hb dX4_mapSets_2 (by decide) ?_
  refine lv_istore_n (lv' := [(3, .int 0), (2, .int 1), (0, .ref p0), (1, .ref t0)]) hx hb dX4_mapSets_3 rfl hl (by decide) rfl (fun ls hl => ?_)
  have lp_2333 : ∀ (nn_ : Nat) (v_2043 : Int32) (v_2044 : Int32) (f_2045 : Nat → Int32) (hv_2043 : 0 ≤ v_2043.toInt ∧ v_2043.toInt ≤ 8) (hv_2044 : 1 ≤ v_2044.toInt ∧ v_2044.toInt ≤ 256) (hr0_lp_2333 : (v_2043.toInt = 0 ∧ v_2044.toInt = 1) ∨ (v_2043.toInt = 1 ∧ v_2044.toInt = 2) ∨ (v_2043.toInt = 2 ∧ v_2044.toInt = 4) ∨ (v_2043.toInt = 3 ∧ v_2044.toInt = 8) ∨ (v_2043.toInt = 4 ∧ v_2044.toInt = 16) ∨ (v_2043.toInt = 5 ∧ v_2044.toInt = 32) ∨ (v_2043.toInt = 6 ∧ v_2044.toInt = 64) ∨ (v_2043.toInt = 7 ∧ v_2044.toInt = 128) ∨ (v_2043.toInt = 8 ∧ v_2044.toInt = 256)) (hn : (9 - v_2043.toInt : Int).toNat < nn_) (H : Heap) (locs : List Loc) (hP : va_P D vwCl [(p0, .inr (4, [.ref p1, .ref p2, .ref p3, .ref p4, .ref p5])), (p5, .inl (K 0, 256, .inl f_2045)), (t0, .inr (9, [.ref t1, k_1, .ref t2, k_3, .int n, k_5, k_6, k_7, k_8, .int ho])), (t1, .inl (K 0, 56, .inl f1)), (t2, .inl (K 0, 6, .inl f2))] H) (hD : va_D A [(p0, .inr (4, [.ref p1, .ref p2, .ref p3, .ref p4, .ref p5])), (p5, .inl (K 0, 256, .inl f_2045)), (t0, .inr (9, [.ref t1, k_1, .ref t2, k_3, .int n, k_5, k_6, k_7, k_8, .int ho])), (t1, .inl (K 0, 56, .inl f1)), (t2, .inl (K 0, 6, .inl f2))]) (hS : va_S A s.heap H locs) (ls : Array Slot) (hl : lv_has ls 5 [(3, .int v_2043), (2, .int v_2044), (0, .ref p0), (1, .ref t0)]), W p l e ({ frames := 1, cells := 0, slots := 0, locals := 23 }) s m (([.ref p0, .ref t0] : List Value).toArray) below meth c H locs 0 0 Q (F0 m 4 ls []) := by
    intro nn_
    induction nn_ with
    | zero =>
      intro v_2043 v_2044 f_2045 hv_2043 hv_2044 hr0_lp_2333 hn H locs hP hD hS ls hl
      exact absurd hn (Nat.not_lt_zero _)
    | succ nn_ ih_2334 =>
      intro v_2043 v_2044 f_2045 hv_2043 hv_2044 hr0_lp_2333 hn H locs hP hD hS ls hl
      refine lv_iload_n hx hb dX4_mapSets_4 rfl (lv_at hl 0 rfl) ?_
      refine lv_aload_n hx hb dX4_mapSets_5 rfl (lv_at hl 3 rfl) ?_
      refine va_getN (ci := 9) (v := .int n) (C := RX9) (T := TX9) (N := 10) hx hb hts hw9 hown hK hP 2 rfl rfl 4 (by decide) (nst_use hN 106 rfl) (fun _ h9 => h9) rfl dX4_mapSets_6 ?_
      refine lv_icmp_ge (tgt := 68) hx hb dX4_mapSets_9 (by decide) (fun c_2406 => ?_) (fun c_2406 => ?_)
      · have c_2406i := i_le (x := n.toInt) (y := v_2043.toInt) rfl rfl c_2406
        refine lv_iload_n hx hb dX4_mapSets_68 rfl (lv_at hl 1 rfl) ?_
        subst hQ
        have hP9 := hP.sub (ws' := [(p0, .inr (4, [.ref p1, .ref p2, .ref p3, .ref p4, .ref p5])), (p5, .inl (K 0, 256, .inl f_2045)), (t0, .inr (9, [.ref t1, k_1, .ref t2, k_3, .int n, k_5, k_6, k_7, k_8, .int ho])), (t1, .inl (K 0, 56, .inl f1)), (t2, .inl (K 0, 6, .inl f2))]) [0, 1, 2, 3, 4] rfl
        have hD9 := hD.sub (ws' := [(p0, .inr (4, [.ref p1, .ref p2, .ref p3, .ref p4, .ref p5])), (p5, .inl (K 0, 256, .inl f_2045)), (t0, .inr (9, [.ref t1, k_1, .ref t2, k_3, .int n, k_5, k_6, k_7, k_8, .int ho])), (t1, .inl (K 0, 56, .inl f1)), (t2, .inl (K 0, 6, .inl f2))]) [0, 1, 2, 3, 4] (by decide) rfl
        exact W.iret (v := v_2044) hx hb hr (fun t ht hW => ⟨⟨v_2044, ((fun _ => 0, fun i => match i with | _ => f_2045, fun _ => fun _ => 0, fun _ => 0, fun _ => 0, fun _ => fun _ => none) : Su), rfl, ⟨(show 1 ≤ v_2044.toInt ∧ v_2044.toInt ≤ 256 by omega), trivial⟩, (⟨by rw [ht]; exact hP9, hD9⟩ : Wd D A _ t)⟩, hS.F ht⟩) hS.2.2 dX4_mapSets_69
      · have c_2406i := i_nle (x := n.toInt) (y := v_2043.toInt) rfl rfl c_2406
        refine lv_iload_n hx hb dX4_mapSets_12 rfl (lv_at hl 0 rfl) ?_
        refine lv_bipush (v := 8) hx hb dX4_mapSets_13 (by decide) ?_
        refine lv_icmp_ge (tgt := 68) hx hb dX4_mapSets_15 (by decide) (fun c_2407 => ?_) (fun c_2407 => ?_)
        · have c_2407i := i_le (x := 8) (y := v_2043.toInt) rfl rfl c_2407
          exfalso; omega
        · have c_2407i := i_nle (x := 8) (y := v_2043.toInt) rfl rfl c_2407
          refine lv_iconst (v := 0) hx hb dX4_mapSets_18 (by decide) ?_
          refine lv_istore (lv' := [(4, .int 0), (3, .int v_2043), (2, .int v_2044), (0, .ref p0), (1, .ref t0)]) hx hb dX4_mapSets_19 hl (by decide) rfl (fun ls hl => ?_)
          have lp_2465 : ∀ (nn_ : Nat) (v_2445 : Int32) (f_2446 : Nat → Int32) (hv_2445 : 0 ≤ v_2445.toInt ∧ v_2445.toInt ≤ 256) (hn : (v_2044.toInt - v_2445.toInt : Int).toNat < nn_) (H : Heap) (locs : List Loc) (hP : va_P D vwCl [(p0, .inr (4, [.ref p1, .ref p2, .ref p3, .ref p4, .ref p5])), (p5, .inl (K 0, 256, .inl f_2446)), (t0, .inr (9, [.ref t1, k_1, .ref t2, k_3, .int n, k_5, k_6, k_7, k_8, .int ho])), (t1, .inl (K 0, 56, .inl f1)), (t2, .inl (K 0, 6, .inl f2))] H) (hD : va_D A [(p0, .inr (4, [.ref p1, .ref p2, .ref p3, .ref p4, .ref p5])), (p5, .inl (K 0, 256, .inl f_2446)), (t0, .inr (9, [.ref t1, k_1, .ref t2, k_3, .int n, k_5, k_6, k_7, k_8, .int ho])), (t1, .inl (K 0, 56, .inl f1)), (t2, .inl (K 0, 6, .inl f2))]) (hS : va_S A s.heap H locs) (ls : Array Slot) (hl : lv_has ls 5 [(4, .int v_2445), (3, .int v_2043), (2, .int v_2044), (0, .ref p0), (1, .ref t0)]), W p l e ({ frames := 1, cells := 0, slots := 0, locals := 23 }) s m (([.ref p0, .ref t0] : List Value).toArray) below meth c H locs 0 0 Q (F0 m 21 ls []) := by
            intro nn_
            induction nn_ with
            | zero =>
              intro v_2445 f_2446 hv_2445 hn H locs hP hD hS ls hl
              exact absurd hn (Nat.not_lt_zero _)
            | succ nn_ ih_2466 =>
              intro v_2445 f_2446 hv_2445 hn H locs hP hD hS ls hl
              refine lv_iload hx hb dX4_mapSets_21 (lv_at hl 0 rfl) ?_
              refine lv_iload_n hx hb dX4_mapSets_23 rfl (lv_at hl 2 rfl) ?_
              refine lv_icmp_ge (tgt := 58) hx hb dX4_mapSets_24 (by decide) (fun c_2467 => ?_) (fun c_2467 => ?_)
              · have c_2467i := i_le (x := v_2044.toInt) (y := v_2445.toInt) rfl rfl c_2467
                refine lv_iload_n hx hb dX4_mapSets_58 rfl (lv_at hl 2 rfl) ?_
                refine lv_iconst (v := 2) hx hb dX4_mapSets_59 (by decide) ?_
                refine lv_imul hx hb dX4_mapSets_60 ?_
                refine lv_topi (fun x_2468 ex_2468 => ?_)
                have hx_2468 : x_2468.toInt = (v_2044.toInt * 2) := by rw [ex_2468]; exact i_mul rfl (show (2 : Int32).toInt = 2 from rfl) (by omega)
                refine lv_istore_n (lv' := [(2, .int x_2468), (4, .int v_2445), (3, .int v_2043), (0, .ref p0), (1, .ref t0)]) hx hb dX4_mapSets_61 rfl hl (by decide) rfl (fun ls hl => ?_)
                obtain ⟨x_2469, ex_2469⟩ : ∃ y : Int32, y = v_2043 + Int32.ofInt 1 := ⟨_, rfl⟩
                have hx_2469 : x_2469.toInt = (v_2043.toInt + 1) := by rw [ex_2469]; exact i_add rfl (show (Int32.ofInt 1).toInt = 1 from rfl) (by omega)
                refine lv_iinc (v := x_2469) (lv' := [(3, .int x_2469), (2, .int x_2468), (4, .int v_2445), (0, .ref p0), (1, .ref t0)]) hx hb dX4_mapSets_62 hl (k := 2) rfl (by rw [ex_2469]) (by decide) rfl (fun ls hl => ?_)
                refine lv_goto (tgt := 4) hx hb dX4_mapSets_65 (by decide) ?_
                exact ih_2334 x_2469 x_2468 f_2446 (by rw [hx_2469]; omega) (by rw [hx_2468]; omega) (show ((x_2469 : Int32).toInt = 0 ∧ (x_2468 : Int32).toInt = 1) ∨ ((x_2469 : Int32).toInt = 1 ∧ (x_2468 : Int32).toInt = 2) ∨ ((x_2469 : Int32).toInt = 2 ∧ (x_2468 : Int32).toInt = 4) ∨ ((x_2469 : Int32).toInt = 3 ∧ (x_2468 : Int32).toInt = 8) ∨ ((x_2469 : Int32).toInt = 4 ∧ (x_2468 : Int32).toInt = 16) ∨ ((x_2469 : Int32).toInt = 5 ∧ (x_2468 : Int32).toInt = 32) ∨ ((x_2469 : Int32).toInt = 6 ∧ (x_2468 : Int32).toInt = 64) ∨ ((x_2469 : Int32).toInt = 7 ∧ (x_2468 : Int32).toInt = 128) ∨ ((x_2469 : Int32).toInt = 8 ∧ (x_2468 : Int32).toInt = 256) by omega) (by omega) _ _ hP hD hS ls (lv_sub hl [0, 1, 3, 4] rfl)
              · have c_2467i := i_nle (x := v_2044.toInt) (y := v_2445.toInt) rfl rfl c_2467
                refine lv_aload_n hx hb dX4_mapSets_27 rfl (lv_at hl 3 rfl) ?_
                refine va_get (ci := 4) (v := .ref p5) (C := RX4) (T := TX4) (N := 5) hx hb hts hw4 hown hK hP 0 rfl rfl 4 (by decide) (hts (.fieldLink RX4 24 "SmokeTune$Paper" "setNotes" "[I") (List.mem_cons_of_mem _ (List.mem_append_left _ (List.mem_append_left _ (List.mem_of_getElem? (i := 0) rfl))))) (fun _ h9 => h9) rfl dX4_mapSets_28 ?_
                refine lv_iload_n hx hb dX4_mapSets_31 rfl (lv_at hl 2 rfl) ?_
                refine lv_iload hx hb dX4_mapSets_32 (lv_at hl 0 rfl) ?_
                refine lv_iadd hx hb dX4_mapSets_34 ?_
                refine lv_topi (fun x_2470 ex_2470 => ?_)
                have hx_2470 : x_2470.toInt = (v_2044.toInt + v_2445.toInt) := by rw [ex_2470]; exact i_add rfl rfl (by omega)
                refine lv_aload_n hx hb dX4_mapSets_35 rfl (lv_at hl 3 rfl) ?_
                refine va_get (ci := 4) (v := .ref p5) (C := RX4) (T := TX4) (N := 5) hx hb hts hw4 hown hK hP 0 rfl rfl 4 (by decide) (hts (.fieldLink RX4 24 "SmokeTune$Paper" "setNotes" "[I") (List.mem_cons_of_mem _ (List.mem_append_left _ (List.mem_append_left _ (List.mem_of_getElem? (i := 0) rfl))))) (fun _ h9 => h9) rfl dX4_mapSets_36 ?_
                refine lv_iload hx hb dX4_mapSets_39 (lv_at hl 0 rfl) ?_
                refine va_iald hx hb hK hP 1 0 rfl rfl (i_in rfl (by omega)) dX4_mapSets_41 ?_
                refine lv_topi (fun x_2471 ex_2471 => ?_)
                refine lv_iconst (v := 1) hx hb dX4_mapSets_42 (by decide) ?_
                refine lv_aload_n hx hb dX4_mapSets_43 rfl (lv_at hl 4 rfl) ?_
                refine lv_iload_n hx hb dX4_mapSets_44 rfl (lv_at hl 1 rfl) ?_
                refine lv_iconst (v := 0) hx hb dX4_mapSets_45 (by decide) ?_
                refine pci (va_runVN (As := [.int v_2043, .int 0]) (rest := [.int 1, .int x_2471, .int x_2470, .ref p5]) ⟨hx, hb, hml, hown, hts⟩ (w_fact l D K t0 v_2043 0 t1 k_1 (.ref t2) k_3 (.int n) k_5 k_6 k_7 k_8 (.int ho) f1 H.size) ⟨va_cnB 2 hts gX4_mapSets_X9_fact_n45 rfl rfl rfl (nst_at hN 84 rfl) (hts (.initialized RX9) (List.mem_cons_of_mem _ (List.mem_append_left _ (List.mem_append_left _ (List.mem_of_getElem? (i := 2) rfl))))) (by decide +kernel) ⟨Nat.le_of_ble_eq_true rfl, Nat.le_of_ble_eq_true rfl⟩, (hts (.instanceMethod yX9_fact) (List.mem_cons_of_mem _ (List.mem_append_left _ (List.mem_append_left _ (List.mem_of_getElem? (i := 1) rfl))))), (hts (.selects RX9 yX9_fact yX9_fact) (List.mem_cons_of_mem _ (List.mem_append_left _ (List.mem_append_left _ (List.mem_of_getElem? (i := 3) rfl)))))⟩ (mkV hK hN (hP.sub [2, 3] rfl) (hD.sub [2, 3] (by decide) rfl) (ci := 9) (q0 := 0) rfl rfl) rfl rfl hl.1 rfl (lv_room (Nat.le_of_ble_eq_true rfl)) dX4_mapSets_46 ⟨Nat.le_of_ble_eq_true rfl, Nat.le_of_ble_eq_true rfl⟩) (fun r_2472 hw => ?_)
                refine lv_ishl hx hb dX4_mapSets_49 ?_
                refine lv_topi (fun x_2473 ex_2473 => ?_)
                refine lv_ior hx hb dX4_mapSets_50 ?_
                refine lv_topi (fun x_2474 ex_2474 => ?_)
                refine va_iast hx hb hK hP hD hS 1 0 rfl rfl (i_in hx_2470 (by omega)) dX4_mapSets_51 (fun H locs hP hD hS => ?_)
                generalize hf_2475 : (upd f_2446 (x_2470 : Int32).toNatClampNeg x_2474) = f_2475 at hP hD
                have hP : va_P D vwCl [(p0, .inr (4, [.ref p1, .ref p2, .ref p3, .ref p4, .ref p5])), (p5, .inl (K 0, 256, .inl f_2475)), (t0, .inr (9, [.ref t1, k_1, .ref t2, k_3, .int n, k_5, k_6, k_7, k_8, .int ho])), (t1, .inl (K 0, 56, .inl f1)), (t2, .inl (K 0, 6, .inl f2))] H := hP
                have hD : va_D A [(p0, .inr (4, [.ref p1, .ref p2, .ref p3, .ref p4, .ref p5])), (p5, .inl (K 0, 256, .inl f_2475)), (t0, .inr (9, [.ref t1, k_1, .ref t2, k_3, .int n, k_5, k_6, k_7, k_8, .int ho])), (t1, .inl (K 0, 56, .inl f1)), (t2, .inl (K 0, 6, .inl f2))] := hD
                obtain ⟨x_2476, ex_2476⟩ : ∃ y : Int32, y = v_2445 + Int32.ofInt 1 := ⟨_, rfl⟩
                have hx_2476 : x_2476.toInt = (v_2445.toInt + 1) := by rw [ex_2476]; exact i_add rfl (show (Int32.ofInt 1).toInt = 1 from rfl) (by omega)
                refine lv_iinc (v := x_2476) (lv' := [(4, .int x_2476), (3, .int v_2043), (2, .int v_2044), (0, .ref p0), (1, .ref t0)]) hx hb dX4_mapSets_52 hl (k := 0) rfl (by rw [ex_2476]) (by decide) rfl (fun ls hl => ?_)
                refine lv_goto (tgt := 21) hx hb dX4_mapSets_55 (by decide) ?_
                exact ih_2466 x_2476 f_2475 (by rw [hx_2476]; omega) (by omega) _ _ hP hD hS ls (lv_sub hl [0, 1, 2, 3, 4] rfl)
          exact lp_2465 ((v_2044.toInt - (0 : Int32).toInt : Int).toNat + 1) 0 f_2045 (by decide) (Nat.lt_succ_self _) _ _ hP hD hS ls (lv_sub hl [0, 1, 2, 3, 4] rfl)
  have hz_2477 : (0 : Int32).toInt = 0 := rfl
  have hz_2478 : (1 : Int32).toInt = 1 := rfl
  exact lp_2333 ((9 - (0 : Int32).toInt : Int).toNat + 1) 0 1 fs (by decide) (by decide) (show ((0 : Int32).toInt = 0 ∧ (1 : Int32).toInt = 1) ∨ ((0 : Int32).toInt = 1 ∧ (1 : Int32).toInt = 2) ∨ ((0 : Int32).toInt = 2 ∧ (1 : Int32).toInt = 4) ∨ ((0 : Int32).toInt = 3 ∧ (1 : Int32).toInt = 8) ∨ ((0 : Int32).toInt = 4 ∧ (1 : Int32).toInt = 16) ∨ ((0 : Int32).toInt = 5 ∧ (1 : Int32).toInt = 32) ∨ ((0 : Int32).toInt = 6 ∧ (1 : Int32).toInt = 64) ∨ ((0 : Int32).toInt = 7 ∧ (1 : Int32).toInt = 128) ∨ ((0 : Int32).toInt = 8 ∧ (1 : Int32).toInt = 256) by omega) (Nat.lt_succ_self _) _ _ hP hD hS ls (lv_sub hl [0, 1, 2, 3] rfl)
set_option maxHeartbeats 4000000 in
set_option maxRecDepth 100000 in
theorem w_hillSet (l : Launch) (D : va_G) (K : Nat → ClassId) (p0 : Nat) (t0 : Nat) (x : Int32) (p1 : Nat) (p2 : Nat) (p3 : Nat) (p4 : Nat) (p5 : Nat) (fs : Nat → Int32) (t1 : Nat) (k_1 : Value) (t2 : Nat) (k_3 : Value) (n : Int32) (k_5 : Value) (k_6 : Value) (k_7 : Value) (k_8 : Value) (ho : Int32) (f1 : Nat → Int32) (f2 : Nat → Int32) (sz : Nat) (zn : 0 ≤ n.toInt ∧ n.toInt ≤ 8) : Met l yX4_hillSet wsX4_hillSet ({ frames := 2, cells := 0, slots := 0, locals := 47 }) (va_Pc [.ref p0, .ref t0, .int x] (Pre D K [(p0, .inr (4, [.ref p1, .ref p2, .ref p3, .ref p4, .ref p5])), (p5, .inl (K 0, 256, .inl fs)), (t0, .inr (9, [.ref t1, k_1, .ref t2, k_3, .int n, k_5, k_6, k_7, k_8, .int ho])), (t1, .inl (K 0, 56, .inl f1)), (t2, .inl (K 0, 6, .inl f2))] sz)) (va_Qi (S := Su) (fun (r : Int32) (u : Su) => True) (fun u t => Wd D (va_A [(p0, .inr (4, [.ref p1, .ref p2, .ref p3, .ref p4, .ref p5])), (p5, .inl (K 0, 256, .inl fs)), (t0, .inr (9, [.ref t1, k_1, .ref t2, k_3, .int n, k_5, k_6, k_7, k_8, .int ho])), (t1, .inl (K 0, 56, .inl f1)), (t2, .inl (K 0, 6, .inl f2))] sz) ((fun u => [(p0, .inr (4, [.ref p1, .ref p2, .ref p3, .ref p4, .ref p5])), (p5, .inl (K 0, 256, .inl (u.2.1 0))), (t0, .inr (9, [.ref t1, k_1, .ref t2, k_3, .int n, k_5, k_6, k_7, k_8, .int ho])), (t1, .inl (K 0, 56, .inl f1)), (t2, .inl (K 0, 6, .inl f2))]) u) t) (va_A [(p0, .inr (4, [.ref p1, .ref p2, .ref p3, .ref p4, .ref p5])), (p5, .inl (K 0, 256, .inl fs)), (t0, .inr (9, [.ref t1, k_1, .ref t2, k_3, .int n, k_5, k_6, k_7, k_8, .int ho])), (t1, .inl (K 0, 56, .inl f1)), (t2, .inl (K 0, 6, .inl f2))] sz)) 0 0 (va_A [(p0, .inr (4, [.ref p1, .ref p2, .ref p3, .ref p4, .ref p5])), (p5, .inl (K 0, 256, .inl fs)), (t0, .inr (9, [.ref t1, k_1, .ref t2, k_3, .int n, k_5, k_6, k_7, k_8, .int ho])), (t1, .inl (K 0, 56, .inl f1)), (t2, .inl (K 0, 6, .inl f2))] sz) := by
  refine Met.ofW (cc := cX4_hillSet) (maxL := 6) (ret := (some .int)) (by decide) rfl ?_
  intro p e s m args below meth c s₁ B hml hv
  obtain ⟨rfl, hsz, hP, hK, hD0, hN⟩ := hv
  have hx := B.exec
  have hb := B.bytes
  have hr := B.returns
  have hts := atoms_spec (ws := wsX4_hillSet) B.pre
  have hown : s.vm.findClass RX4 = some m.cls := findClass_of_methodNamed B.named
  have hlocks := B.notSynchronized
  subst hsz
  have hD := hD0.self (sz := s.heap.size)
  generalize hAe : va_A [(p0, .inr (4, [.ref p1, .ref p2, .ref p3, .ref p4, .ref p5])), (p5, .inl (K 0, 256, .inl fs)), (t0, .inr (9, [.ref t1, k_1, .ref t2, k_3, .int n, k_5, k_6, k_7, k_8, .int ho])), (t1, .inl (K 0, 56, .inl f1)), (t2, .inl (K 0, 6, .inl f2))] s.heap.size = A at hD ⊢
  have hA : ∀ q : Nat, s.heap.size ≤ q → A q := fun q h => by rw [← hAe]; exact Or.inr h
  have hS : va_S A s.heap s.heap [] := va_S.rf
  have hP : va_P D vwCl [(p0, .inr (4, [.ref p1, .ref p2, .ref p3, .ref p4, .ref p5])), (p5, .inl (K 0, 256, .inl fs)), (t0, .inr (9, [.ref t1, k_1, .ref t2, k_3, .int n, k_5, k_6, k_7, k_8, .int ho])), (t1, .inl (K 0, 56, .inl f1)), (t2, .inl (K 0, 6, .inl f2))] s.heap := hP
  have hl := lv_entry [.ref p0, .ref t0, .int x] (n := 6) (Nat.le_of_ble_eq_true rfl)
  rw [lg_entry_eq]
  generalize (lg_sl [.ref p0, .ref t0, .int x] ++ List.replicate (6 - (lg_sl [.ref p0, .ref t0, .int x]).length) Slot.unset).toArray = ls at hl ⊢
  have hl : lv_has ls 6 [(0, .ref p0), (1, .ref t0), (2, .int x)] := hl
  have hw4 : ∀ w ∈ wsX40, w ∈ wsX4_hillSet := fun w h => (List.mem_cons_of_mem _ (List.mem_append_left _ (List.mem_append_right _ h)))
  have hw9 : ∀ w ∈ wsX90, w ∈ wsX4_hillSet := fun w h => (List.mem_cons_of_mem _ (List.mem_append_right _ h))
  generalize hQ : MQ below _ _ s _ _ _ = Q
  refine lv_aload_n hx hb dX4_hillSet_0 rfl (lv_at hl 0 rfl) ?_
  refine lv_aload_n hx hb dX4_hillSet_1 rfl (lv_at hl 1 rfl) ?_
  refine kci (S := Su) (wr := []) (va_runV (As := [.ref t0]) (rest := []) ⟨hx, hb, hml, hown, hts⟩ (w_mapSets l D K p0 t0 p1 p2 p3 p4 p5 fs t1 k_1 t2 k_3 n k_5 k_6 k_7 k_8 ho f1 f2 s.heap.size (by first | omega | decide)) (cwV 1 hts gX4_hillSet_X4_mapSets rfl rfl rfl (by decide +kernel) ⟨Nat.le_of_ble_eq_true rfl, Nat.le_of_ble_eq_true rfl⟩) (mkV hK hN (hP.sub [0, 1, 2, 3, 4] rfl) (hD.sub [0, 1, 2, 3, 4] (by decide) rfl) (ci := 4) (q0 := 0) rfl rfl) rfl rfl hl.1 rfl (lv_room (Nat.le_of_ble_eq_true rfl)) dX4_hillSet_2 ⟨Nat.le_of_ble_eq_true rfl, Nat.le_of_ble_eq_true rfl⟩) hP hD hS hA [0, 1, 2, 3, 4] [] rfl rfl (by decide) (by decide) (fun r_221 u_222 H locs hw hP hD hS => ?_)
  have hP : va_P D vwCl [(p0, .inr (4, [.ref p1, .ref p2, .ref p3, .ref p4, .ref p5])), (p5, .inl (K 0, 256, .inl (u_222.2.1 0))), (t0, .inr (9, [.ref t1, k_1, .ref t2, k_3, .int n, k_5, k_6, k_7, k_8, .int ho])), (t1, .inl (K 0, 56, .inl f1)), (t2, .inl (K 0, 6, .inl f2))] H := hP
  have hD : va_D A [(p0, .inr (4, [.ref p1, .ref p2, .ref p3, .ref p4, .ref p5])), (p5, .inl (K 0, 256, .inl (u_222.2.1 0))), (t0, .inr (9, [.ref t1, k_1, .ref t2, k_3, .int n, k_5, k_6, k_7, k_8, .int ho])), (t1, .inl (K 0, 56, .inl f1)), (t2, .inl (K 0, 6, .inl f2))] := hD
  obtain ⟨h_223, -⟩ := hw
  refine lv_istore_n (lv' := [(3, .int r_221), (0, .ref p0), (1, .ref t0), (2, .int x)]) hx hb dX4_hillSet_5 rfl hl (by decide) rfl (fun ls hl => ?_)
  refine lv_iconst (v := 0) hx hb dX4_hillSet_6 (by decide) ?_
  refine lv_istore (lv' := [(4, .int 0), (3, .int r_221), (0, .ref p0), (1, .ref t0), (2, .int x)]) hx hb dX4_hillSet_7 hl (by decide) rfl (fun ls hl => ?_)
  refine lv_iconst (v := 0) hx hb dX4_hillSet_9 (by decide) ?_
  refine lv_istore (lv' := [(5, .int 0), (4, .int 0), (3, .int r_221), (0, .ref p0), (1, .ref t0), (2, .int x)]) hx hb dX4_hillSet_10 hl (by decide) rfl (fun ls hl => ?_)
  have lp_316 : ∀ (nn_ : Nat) (v_288 : Int32) (v_289 : Int32) (hv_288 : 0 ≤ v_288.toInt ∧ v_288.toInt ≤ 256) (hn : (257 - v_288.toInt : Int).toNat < nn_) (H : Heap) (locs : List Loc) (hP : va_P D vwCl [(p0, .inr (4, [.ref p1, .ref p2, .ref p3, .ref p4, .ref p5])), (p5, .inl (K 0, 256, .inl (u_222.2.1 0))), (t0, .inr (9, [.ref t1, k_1, .ref t2, k_3, .int n, k_5, k_6, k_7, k_8, .int ho])), (t1, .inl (K 0, 56, .inl f1)), (t2, .inl (K 0, 6, .inl f2))] H) (hD : va_D A [(p0, .inr (4, [.ref p1, .ref p2, .ref p3, .ref p4, .ref p5])), (p5, .inl (K 0, 256, .inl (u_222.2.1 0))), (t0, .inr (9, [.ref t1, k_1, .ref t2, k_3, .int n, k_5, k_6, k_7, k_8, .int ho])), (t1, .inl (K 0, 56, .inl f1)), (t2, .inl (K 0, 6, .inl f2))]) (hS : va_S A s.heap H locs) (ls : Array Slot) (hl : lv_has ls 6 [(5, .int v_288), (4, .int v_289), (3, .int r_221), (0, .ref p0), (1, .ref t0), (2, .int x)]), W p l e ({ frames := 2, cells := 0, slots := 0, locals := 47 }) s m (([.ref p0, .ref t0, .int x] : List Value).toArray) below meth c H locs 0 0 Q (F0 m 12 ls []) := by
    intro nn_
    induction nn_ with
    | zero =>
      intro v_288 v_289 hv_288 hn H locs hP hD hS ls hl
      exact absurd hn (Nat.not_lt_zero _)
    | succ nn_ ih_317 =>
      intro v_288 v_289 hv_288 hn H locs hP hD hS ls hl
      refine lv_iload hx hb dX4_hillSet_12 (lv_at hl 0 rfl) ?_
      refine lv_iload_n hx hb dX4_hillSet_14 rfl (lv_at hl 2 rfl) ?_
      refine lv_icmp_ge (tgt := 50) hx hb dX4_hillSet_15 (by decide) (fun c_318 => ?_) (fun c_318 => ?_)
      · have c_318i := i_le (x := r_221.toInt) (y := v_288.toInt) rfl rfl c_318
        refine lv_iload_n hx hb dX4_hillSet_50 rfl (lv_at hl 5 rfl) ?_
        refine lv_iconst (v := (-1)) hx hb dX4_hillSet_51 (by decide) ?_
        refine lv_icmp_ne (tgt := 60) hx hb dX4_hillSet_52 (by decide) (fun c_319 => ?_) (fun c_319 => ?_)
        · have c_319i := i_ne (x := x.toInt) (y := (-1)) rfl rfl c_319
          refine lv_iconst (v := (-1)) hx hb dX4_hillSet_60 (by decide) ?_
          subst hQ
          have hP9 := hP.sub (ws' := [(p0, .inr (4, [.ref p1, .ref p2, .ref p3, .ref p4, .ref p5])), (p5, .inl (K 0, 256, .inl (u_222.2.1 0))), (t0, .inr (9, [.ref t1, k_1, .ref t2, k_3, .int n, k_5, k_6, k_7, k_8, .int ho])), (t1, .inl (K 0, 56, .inl f1)), (t2, .inl (K 0, 6, .inl f2))]) [0, 1, 2, 3, 4] rfl
          have hD9 := hD.sub (ws' := [(p0, .inr (4, [.ref p1, .ref p2, .ref p3, .ref p4, .ref p5])), (p5, .inl (K 0, 256, .inl (u_222.2.1 0))), (t0, .inr (9, [.ref t1, k_1, .ref t2, k_3, .int n, k_5, k_6, k_7, k_8, .int ho])), (t1, .inl (K 0, 56, .inl f1)), (t2, .inl (K 0, 6, .inl f2))]) [0, 1, 2, 3, 4] (by decide) rfl
          exact W.iret (v := (-1)) hx hb hr (fun t ht hW => ⟨⟨(-1), ((fun _ => 0, fun i => match i with | _ => (u_222.2.1 0), fun _ => fun _ => 0, fun _ => 0, fun _ => 0, fun _ => fun _ => none) : Su), rfl, trivial, (⟨by rw [ht]; exact hP9, hD9⟩ : Wd D A _ t)⟩, hS.F ht⟩) hS.2.2 dX4_hillSet_61
        · have c_319i := i_eq (x := x.toInt) (y := (-1)) rfl rfl c_319
          refine lv_iload hx hb dX4_hillSet_55 (lv_at hl 1 rfl) ?_
          refine lv_goto (tgt := 61) hx hb dX4_hillSet_57 (by decide) ?_
          subst hQ
          have hP9 := hP.sub (ws' := [(p0, .inr (4, [.ref p1, .ref p2, .ref p3, .ref p4, .ref p5])), (p5, .inl (K 0, 256, .inl (u_222.2.1 0))), (t0, .inr (9, [.ref t1, k_1, .ref t2, k_3, .int n, k_5, k_6, k_7, k_8, .int ho])), (t1, .inl (K 0, 56, .inl f1)), (t2, .inl (K 0, 6, .inl f2))]) [0, 1, 2, 3, 4] rfl
          have hD9 := hD.sub (ws' := [(p0, .inr (4, [.ref p1, .ref p2, .ref p3, .ref p4, .ref p5])), (p5, .inl (K 0, 256, .inl (u_222.2.1 0))), (t0, .inr (9, [.ref t1, k_1, .ref t2, k_3, .int n, k_5, k_6, k_7, k_8, .int ho])), (t1, .inl (K 0, 56, .inl f1)), (t2, .inl (K 0, 6, .inl f2))]) [0, 1, 2, 3, 4] (by decide) rfl
          exact W.iret (v := v_289) hx hb hr (fun t ht hW => ⟨⟨v_289, ((fun _ => 0, fun i => match i with | _ => (u_222.2.1 0), fun _ => fun _ => 0, fun _ => 0, fun _ => 0, fun _ => fun _ => none) : Su), rfl, trivial, (⟨by rw [ht]; exact hP9, hD9⟩ : Wd D A _ t)⟩, hS.F ht⟩) hS.2.2 dX4_hillSet_61
      · have c_318i := i_nle (x := r_221.toInt) (y := v_288.toInt) rfl rfl c_318
        refine lv_aload_n hx hb dX4_hillSet_18 rfl (lv_at hl 3 rfl) ?_
        refine va_get (ci := 4) (v := .ref p5) (C := RX4) (T := TX4) (N := 5) hx hb hts hw4 hown hK hP 0 rfl rfl 4 (by decide) (hts (.fieldLink RX4 24 "SmokeTune$Paper" "setNotes" "[I") (List.mem_cons_of_mem _ (List.mem_append_left _ (List.mem_append_left _ (List.mem_of_getElem? (i := 0) rfl))))) (fun _ h9 => h9) rfl dX4_hillSet_19 ?_
        refine lv_iload hx hb dX4_hillSet_22 (lv_at hl 0 rfl) ?_
        refine va_iald hx hb hK hP 1 0 rfl rfl (i_in rfl (by omega)) dX4_hillSet_24 ?_
        refine lv_topi (fun x_320 ex_320 => ?_)
        refine lv_aload_n hx hb dX4_hillSet_25 rfl (lv_at hl 4 rfl) ?_
        refine va_getN (ci := 9) (v := .int ho) (C := RX9) (T := TX9) (N := 10) hx hb hts hw9 hown hK hP 2 rfl rfl 9 (by decide) (nst_use hN 117 rfl) (fun _ h9 => h9) rfl dX4_hillSet_26 ?_
        have j_326 : ∀ (v_324 : Int32) (H : Heap) (locs : List Loc) (hP : va_P D vwCl [(p0, .inr (4, [.ref p1, .ref p2, .ref p3, .ref p4, .ref p5])), (p5, .inl (K 0, 256, .inl (u_222.2.1 0))), (t0, .inr (9, [.ref t1, k_1, .ref t2, k_3, .int n, k_5, k_6, k_7, k_8, .int ho])), (t1, .inl (K 0, 56, .inl f1)), (t2, .inl (K 0, 6, .inl f2))] H) (hD : va_D A [(p0, .inr (4, [.ref p1, .ref p2, .ref p3, .ref p4, .ref p5])), (p5, .inl (K 0, 256, .inl (u_222.2.1 0))), (t0, .inr (9, [.ref t1, k_1, .ref t2, k_3, .int n, k_5, k_6, k_7, k_8, .int ho])), (t1, .inl (K 0, 56, .inl f1)), (t2, .inl (K 0, 6, .inl f2))]) (hS : va_S A s.heap H locs) (ls : Array Slot) (hl : lv_has ls 6 [(5, .int v_288), (4, .int v_324), (3, .int r_221), (0, .ref p0), (1, .ref t0), (2, .int x)]), W p l e ({ frames := 2, cells := 0, slots := 0, locals := 47 }) s m (([.ref p0, .ref t0, .int x] : List Value).toArray) below meth c H locs 0 0 Q (F0 m 44 ls []) := by
          intro v_324 H locs hP hD hS ls hl
          obtain ⟨x_327, ex_327⟩ : ∃ y : Int32, y = v_288 + Int32.ofInt 1 := ⟨_, rfl⟩
          have hx_327 : x_327.toInt = (v_288.toInt + 1) := by rw [ex_327]; exact i_add rfl (show (Int32.ofInt 1).toInt = 1 from rfl) (by omega)
          refine lv_iinc (v := x_327) (lv' := [(5, .int x_327), (4, .int v_324), (3, .int r_221), (0, .ref p0), (1, .ref t0), (2, .int x)]) hx hb dX4_hillSet_44 hl (k := 0) rfl (by rw [ex_327]) (by decide) rfl (fun ls hl => ?_)
          refine lv_goto (tgt := 12) hx hb dX4_hillSet_47 (by decide) ?_
          exact ih_317 x_327 v_324 (by rw [hx_327]; omega) (by omega) _ _ hP hD hS ls (lv_sub hl [0, 1, 2, 3, 4, 5] rfl)
        refine lv_icmp_ne (tgt := 44) hx hb dX4_hillSet_29 (by decide) (fun c_328 => ?_) (fun c_328 => ?_)
        · have c_328i := i_ne (x := x_320.toInt) (y := ho.toInt) rfl rfl c_328
          exact j_326 v_289  _ _ hP hD hS ls (lv_sub hl [0, 1, 2, 3, 4, 5] rfl)
        · have c_328i := i_eq (x := x_320.toInt) (y := ho.toInt) rfl rfl c_328
          refine lv_iload hx hb dX4_hillSet_32 (lv_at hl 1 rfl) ?_
          refine lv_iload_n hx hb dX4_hillSet_34 rfl (lv_at hl 5 rfl) ?_
          refine lv_icmp_ne (tgt := 41) hx hb dX4_hillSet_35 (by decide) (fun c_329 => ?_) (fun c_329 => ?_)
          · have c_329i := i_ne (x := v_289.toInt) (y := x.toInt) rfl rfl c_329
            obtain ⟨x_330, ex_330⟩ : ∃ y : Int32, y = v_289 + Int32.ofInt 1 := ⟨_, rfl⟩
            refine lv_iinc (v := x_330) (lv' := [(4, .int x_330), (5, .int v_288), (3, .int r_221), (0, .ref p0), (1, .ref t0), (2, .int x)]) hx hb dX4_hillSet_41 hl (k := 1) rfl (by rw [ex_330]) (by decide) rfl (fun ls hl => ?_)
            exact j_326 x_330  _ _ hP hD hS ls (lv_sub hl [1, 0, 2, 3, 4, 5] rfl)
          · have c_329i := i_eq (x := v_289.toInt) (y := x.toInt) rfl rfl c_329
            refine lv_iload hx hb dX4_hillSet_38 (lv_at hl 0 rfl) ?_
            subst hQ
            have hP9 := hP.sub (ws' := [(p0, .inr (4, [.ref p1, .ref p2, .ref p3, .ref p4, .ref p5])), (p5, .inl (K 0, 256, .inl (u_222.2.1 0))), (t0, .inr (9, [.ref t1, k_1, .ref t2, k_3, .int n, k_5, k_6, k_7, k_8, .int ho])), (t1, .inl (K 0, 56, .inl f1)), (t2, .inl (K 0, 6, .inl f2))]) [0, 1, 2, 3, 4] rfl
            have hD9 := hD.sub (ws' := [(p0, .inr (4, [.ref p1, .ref p2, .ref p3, .ref p4, .ref p5])), (p5, .inl (K 0, 256, .inl (u_222.2.1 0))), (t0, .inr (9, [.ref t1, k_1, .ref t2, k_3, .int n, k_5, k_6, k_7, k_8, .int ho])), (t1, .inl (K 0, 56, .inl f1)), (t2, .inl (K 0, 6, .inl f2))]) [0, 1, 2, 3, 4] (by decide) rfl
            exact W.iret (v := v_288) hx hb hr (fun t ht hW => ⟨⟨v_288, ((fun _ => 0, fun i => match i with | _ => (u_222.2.1 0), fun _ => fun _ => 0, fun _ => 0, fun _ => 0, fun _ => fun _ => none) : Su), rfl, trivial, (⟨by rw [ht]; exact hP9, hD9⟩ : Wd D A _ t)⟩, hS.F ht⟩) hS.2.2 dX4_hillSet_40
  exact lp_316 ((257 - (0 : Int32).toInt : Int).toNat + 1) 0 0 (by decide) (Nat.lt_succ_self _) _ _ hP hD hS ls (lv_sub hl [0, 1, 2, 3, 4, 5] rfl)
set_option maxHeartbeats 4000000 in
set_option maxRecDepth 100000 in
theorem w_burningSets (l : Launch) (D : va_G) (K : Nat → ClassId) (p0 : Nat) (t0 : Nat) (x : Int32) (p1 : Nat) (p2 : Nat) (p3 : Nat) (p4 : Nat) (p5 : Nat) (fs : Nat → Int32) (t1 : Nat) (k_1 : Value) (t2 : Nat) (k_3 : Value) (n : Int32) (k_5 : Value) (k_6 : Value) (k_7 : Value) (k_8 : Value) (ho : Int32) (f1 : Nat → Int32) (f2 : Nat → Int32) (sz : Nat) (zn : 0 ≤ n.toInt ∧ n.toInt ≤ 8) : Met l yX4_burningSets wsX4_burningSets ({ frames := 0, cells := 0, slots := 0, locals := 0 }) (va_Pc [.ref p0, .ref t0, .int x] (Pre D K [(p0, .inr (4, [.ref p1, .ref p2, .ref p3, .ref p4, .ref p5])), (p5, .inl (K 0, 256, .inl fs)), (t0, .inr (9, [.ref t1, k_1, .ref t2, k_3, .int n, k_5, k_6, k_7, k_8, .int ho])), (t1, .inl (K 0, 56, .inl f1)), (t2, .inl (K 0, 6, .inl f2))] sz)) (vp_Si (fun r : Int32 => True)) 0 0 (fun _ => False) := by
  refine Met.ofW (cc := cX4_burningSets) (maxL := 5) (ret := (some .int)) (by decide) rfl ?_
  intro p e s m args below meth c s₁ B hml hv
  obtain ⟨rfl, hsz, hP, hK, hD0, hN⟩ := hv
  have hx := B.exec
  have hb := B.bytes
  have hr := B.returns
  have hts := atoms_spec (ws := wsX4_burningSets) B.pre
  have hown : s.vm.findClass RX4 = some m.cls := findClass_of_methodNamed B.named
  have hlocks := B.notSynchronized
  subst hsz
  have hD := hD0
  have hP : va_P D vwCl [(p0, .inr (4, [.ref p1, .ref p2, .ref p3, .ref p4, .ref p5])), (p5, .inl (K 0, 256, .inl fs)), (t0, .inr (9, [.ref t1, k_1, .ref t2, k_3, .int n, k_5, k_6, k_7, k_8, .int ho])), (t1, .inl (K 0, 56, .inl f1)), (t2, .inl (K 0, 6, .inl f2))] s.heap := hP
  have hl := lv_entry [.ref p0, .ref t0, .int x] (n := 5) (Nat.le_of_ble_eq_true rfl)
  rw [lg_entry_eq]
  generalize (lg_sl [.ref p0, .ref t0, .int x] ++ List.replicate (5 - (lg_sl [.ref p0, .ref t0, .int x]).length) Slot.unset).toArray = ls at hl ⊢
  have hl : lv_has ls 5 [(0, .ref p0), (1, .ref t0), (2, .int x)] := hl
  have hw4 : ∀ w ∈ wsX40, w ∈ wsX4_burningSets := fun w h => (List.mem_cons_of_mem _ (List.mem_append_right _ h))
  have hw9 : ∀ w ∈ wsX90, w ∈ wsX4_burningSets := fun w h => (List.mem_cons_of_mem _ (List.mem_append_left _ (List.mem_append_right _ h)))
  generalize hQ : MQ below _ _ s _ _ _ = Q
  refine lv_iconst (v := 0) hx hb dX4_burningSets_0 (by decide) ?_
  refine lv_istore_n (lv' := [(3, .int 0), (0, .ref p0), (1, .ref t0), (2, .int x)]) hx hb dX4_burningSets_1 rfl hl (by decide) rfl (fun ls hl => ?_)
  refine lv_iconst (v := 0) hx hb dX4_burningSets_2 (by decide) ?_
  refine lv_istore (lv' := [(4, .int 0), (3, .int 0), (0, .ref p0), (1, .ref t0), (2, .int x)]) hx hb dX4_burningSets_3 hl (by decide) rfl (fun ls hl => ?_)
  have lp_506 : ∀ (nn_ : Nat) (v_436 : Int32) (v_437 : Int32) (hv_436 : 0 ≤ v_436.toInt ∧ v_436.toInt ≤ 256) (hn : (257 - v_436.toInt : Int).toNat < nn_) (ls : Array Slot) (hl : lv_has ls 5 [(4, .int v_436), (3, .int v_437), (0, .ref p0), (1, .ref t0), (2, .int x)]), W p l e ({ frames := 0, cells := 0, slots := 0, locals := 0 }) s m (([.ref p0, .ref t0, .int x] : List Value).toArray) below meth c s.heap [] 0 0 Q (F0 m 5 ls []) := by
    intro nn_
    induction nn_ with
    | zero =>
      intro v_436 v_437 hv_436 hn ls hl
      exact absurd hn (Nat.not_lt_zero _)
    | succ nn_ ih_507 =>
      intro v_436 v_437 hv_436 hn ls hl
      refine lv_iload hx hb dX4_burningSets_5 (lv_at hl 0 rfl) ?_
      refine lv_iconst (v := 1) hx hb dX4_burningSets_7 (by decide) ?_
      refine lv_aload_n hx hb dX4_burningSets_8 rfl (lv_at hl 3 rfl) ?_
      refine va_getN (ci := 9) (v := .int n) (C := RX9) (T := TX9) (N := 10) hx hb hts hw9 hown hK hP 2 rfl rfl 4 (by decide) (nst_use hN 106 rfl) (fun _ h9 => h9) rfl dX4_burningSets_9 ?_
      refine lv_ishl hx hb dX4_burningSets_12 ?_
      refine lv_topi (fun x_508 ex_508 => ?_)
      have hx_508 : 1 ≤ x_508.toInt ∧ x_508.toInt ≤ 256 := by rw [ex_508]; exact i_shl1 rfl (n := 8) (by decide) (by omega)
      refine lv_icmp_ge (tgt := 59) hx hb dX4_burningSets_13 (by decide) (fun c_525 => ?_) (fun c_525 => ?_)
      · have c_525i := i_le (x := x_508.toInt) (y := v_436.toInt) rfl rfl c_525
        refine lv_iload_n hx hb dX4_burningSets_59 rfl (lv_at hl 1 rfl) ?_
        subst hQ
        exact W.iret (v := v_437) hx hb hr (fun t ht hW => ⟨_, rfl, trivial, ht⟩) (fun q hq => by cases hq) dX4_burningSets_60
      · have c_525i := i_nle (x := x_508.toInt) (y := v_436.toInt) rfl rfl c_525
        refine lv_iload hx hb dX4_burningSets_16 (lv_at hl 0 rfl) ?_
        refine lv_aload_n hx hb dX4_burningSets_18 rfl (lv_at hl 2 rfl) ?_
        refine va_get (ci := 4) (v := .ref p5) (C := RX4) (T := TX4) (N := 5) hx hb hts hw4 hown hK hP 0 rfl rfl 4 (by decide) (hts (.fieldLink RX4 24 "SmokeTune$Paper" "setNotes" "[I") (List.mem_cons_of_mem _ (List.mem_append_left _ (List.mem_append_left _ (List.mem_of_getElem? (i := 0) rfl))))) (fun _ h9 => h9) rfl dX4_burningSets_19 ?_
        refine va_alen (v := 256) hx hb hK hP 1 0 rfl rfl rfl dX4_burningSets_22 ?_
        refine lv_icmp_ge (tgt := 59) hx hb dX4_burningSets_23 (by decide) (fun c_526 => ?_) (fun c_526 => ?_)
        · have c_526i := i_le (x := 256) (y := v_436.toInt) rfl rfl c_526
          exfalso; omega
        · have c_526i := i_nle (x := 256) (y := v_436.toInt) rfl rfl c_526
          refine lv_iload hx hb dX4_burningSets_26 (lv_at hl 0 rfl) ?_
          refine lv_iload_n hx hb dX4_burningSets_28 rfl (lv_at hl 4 rfl) ?_
          refine lv_ishr hx hb dX4_burningSets_29 ?_
          refine lv_topi (fun x_527 ex_527 => ?_)
          have hx_527 : 0 ≤ x_527.toInt ∧ x_527.toInt ≤ v_436.toInt := by rw [ex_527]; exact i_shr rfl (by omega)
          refine lv_iconst (v := 1) hx hb dX4_burningSets_30 (by decide) ?_
          refine lv_iand hx hb dX4_burningSets_31 ?_
          refine lv_topi (fun x_528 ex_528 => ?_)
          have hx_528 : 0 ≤ x_528.toInt ∧ x_528.toInt ≤ 1 := by rw [ex_528]; exact i_mask x_527 1 rfl (by decide)
          refine lv_iconst (v := 1) hx hb dX4_burningSets_32 (by decide) ?_
          have j_535 : ∀ (v_533 : Int32) (ls : Array Slot) (hl : lv_has ls 5 [(4, .int v_436), (3, .int v_533), (0, .ref p0), (1, .ref t0), (2, .int x)]), W p l e ({ frames := 0, cells := 0, slots := 0, locals := 0 }) s m (([.ref p0, .ref t0, .int x] : List Value).toArray) below meth c s.heap [] 0 0 Q (F0 m 53 ls []) := by
            intro v_533 ls hl
            obtain ⟨x_536, ex_536⟩ : ∃ y : Int32, y = v_436 + Int32.ofInt 1 := ⟨_, rfl⟩
            have hx_536 : x_536.toInt = (v_436.toInt + 1) := by rw [ex_536]; exact i_add rfl (show (Int32.ofInt 1).toInt = 1 from rfl) (by omega)
            refine lv_iinc (v := x_536) (lv' := [(4, .int x_536), (3, .int v_533), (0, .ref p0), (1, .ref t0), (2, .int x)]) hx hb dX4_burningSets_53 hl (k := 0) rfl (by rw [ex_536]) (by decide) rfl (fun ls hl => ?_)
            refine lv_goto (tgt := 5) hx hb dX4_burningSets_56 (by decide) ?_
            exact ih_507 x_536 v_533 (by rw [hx_536]; omega) (by omega) ls (lv_sub hl [0, 1, 2, 3, 4] rfl)
          refine lv_icmp_ne (tgt := 53) hx hb dX4_burningSets_33 (by decide) (fun c_537 => ?_) (fun c_537 => ?_)
          · have c_537i := i_ne (x := x_528.toInt) (y := 1) rfl rfl c_537
            exact j_535 v_437  ls (lv_sub hl [0, 1, 2, 3, 4] rfl)
          · have c_537i := i_eq (x := x_528.toInt) (y := 1) rfl rfl c_537
            refine lv_aload_n hx hb dX4_burningSets_36 rfl (lv_at hl 2 rfl) ?_
            refine va_get (ci := 4) (v := .ref p5) (C := RX4) (T := TX4) (N := 5) hx hb hts hw4 hown hK hP 0 rfl rfl 4 (by decide) (hts (.fieldLink RX4 24 "SmokeTune$Paper" "setNotes" "[I") (List.mem_cons_of_mem _ (List.mem_append_left _ (List.mem_append_left _ (List.mem_of_getElem? (i := 0) rfl))))) (fun _ h9 => h9) rfl dX4_burningSets_37 ?_
            refine lv_iload hx hb dX4_burningSets_40 (lv_at hl 0 rfl) ?_
            refine va_iald hx hb hK hP 1 0 rfl rfl (i_in rfl (by omega)) dX4_burningSets_42 ?_
            refine lv_topi (fun x_538 ex_538 => ?_)
            refine lv_aload_n hx hb dX4_burningSets_43 rfl (lv_at hl 3 rfl) ?_
            refine va_getN (ci := 9) (v := .int ho) (C := RX9) (T := TX9) (N := 10) hx hb hts hw9 hown hK hP 2 rfl rfl 9 (by decide) (nst_use hN 117 rfl) (fun _ h9 => h9) rfl dX4_burningSets_44 ?_
            refine lv_icmp_ne (tgt := 53) hx hb dX4_burningSets_47 (by decide) (fun c_539 => ?_) (fun c_539 => ?_)
            · have c_539i := i_ne (x := x_538.toInt) (y := ho.toInt) rfl rfl c_539
              exact j_535 v_437  ls (lv_sub hl [0, 1, 2, 3, 4] rfl)
            · have c_539i := i_eq (x := x_538.toInt) (y := ho.toInt) rfl rfl c_539
              obtain ⟨x_540, ex_540⟩ : ∃ y : Int32, y = v_437 + Int32.ofInt 1 := ⟨_, rfl⟩
              refine lv_iinc (v := x_540) (lv' := [(3, .int x_540), (4, .int v_436), (0, .ref p0), (1, .ref t0), (2, .int x)]) hx hb dX4_burningSets_50 hl (k := 1) rfl (by rw [ex_540]) (by decide) rfl (fun ls hl => ?_)
              exact j_535 x_540  ls (lv_sub hl [1, 0, 2, 3, 4] rfl)
  exact lp_506 ((257 - (0 : Int32).toInt : Int).toNat + 1) 0 0 (by decide) (Nat.lt_succ_self _) ls (lv_sub hl [0, 1, 2, 3, 4] rfl)
set_option maxHeartbeats 4000000 in
set_option maxRecDepth 100000 in
theorem w_question (l : Launch) (D : va_G) (K : Nat → ClassId) (p0 : Nat) (t0 : Nat) (x : Int32) (p1 : Nat) (p2 : Nat) (p3 : Nat) (p4 : Nat) (p5 : Nat) (fs : Nat → Int32) (t1 : Nat) (k_1 : Value) (t2 : Nat) (k_3 : Value) (n : Int32) (k_5 : Value) (k_6 : Value) (k_7 : Value) (k_8 : Value) (ho : Int32) (f1 : Nat → Int32) (f2 : Nat → Int32) (sz : Nat) (zn : 0 ≤ n.toInt ∧ n.toInt ≤ 8) : Met l yX4_question wsX4_question ({ frames := 3, cells := 0, slots := 0, locals := 72 }) (va_Pc [.ref p0, .ref t0, .int x] (Pre D K [(p0, .inr (4, [.ref p1, .ref p2, .ref p3, .ref p4, .ref p5])), (p5, .inl (K 0, 256, .inl fs)), (t0, .inr (9, [.ref t1, k_1, .ref t2, k_3, .int n, k_5, k_6, k_7, k_8, .int ho])), (t1, .inl (K 0, 56, .inl f1)), (t2, .inl (K 0, 6, .inl f2))] sz)) (va_Qi (S := Su) (fun (r : Int32) (u : Su) => True) (fun u t => Wd D (va_A [(p0, .inr (4, [.ref p1, .ref p2, .ref p3, .ref p4, .ref p5])), (p5, .inl (K 0, 256, .inl fs)), (t0, .inr (9, [.ref t1, k_1, .ref t2, k_3, .int n, k_5, k_6, k_7, k_8, .int ho])), (t1, .inl (K 0, 56, .inl f1)), (t2, .inl (K 0, 6, .inl f2))] sz) ((fun u => [(p0, .inr (4, [.ref p1, .ref p2, .ref p3, .ref p4, .ref p5])), (p5, .inl (K 0, 256, .inl (u.2.1 0))), (t0, .inr (9, [.ref t1, k_1, .ref t2, k_3, .int n, k_5, k_6, k_7, k_8, .int ho])), (t1, .inl (K 0, 56, .inl f1)), (t2, .inl (K 0, 6, .inl f2))]) u) t) (va_A [(p0, .inr (4, [.ref p1, .ref p2, .ref p3, .ref p4, .ref p5])), (p5, .inl (K 0, 256, .inl fs)), (t0, .inr (9, [.ref t1, k_1, .ref t2, k_3, .int n, k_5, k_6, k_7, k_8, .int ho])), (t1, .inl (K 0, 56, .inl f1)), (t2, .inl (K 0, 6, .inl f2))] sz)) 0 0 (va_A [(p0, .inr (4, [.ref p1, .ref p2, .ref p3, .ref p4, .ref p5])), (p5, .inl (K 0, 256, .inl fs)), (t0, .inr (9, [.ref t1, k_1, .ref t2, k_3, .int n, k_5, k_6, k_7, k_8, .int ho])), (t1, .inl (K 0, 56, .inl f1)), (t2, .inl (K 0, 6, .inl f2))] sz) := by
  refine Met.ofW (cc := cX4_question) (maxL := 9) (ret := (some .int)) (by decide) rfl ?_
  intro p e s m args below meth c s₁ B hml hv
  obtain ⟨rfl, hsz, hP, hK, hD0, hN⟩ := hv
  have hx := B.exec
  have hb := B.bytes
  have hr := B.returns
  have hts := atoms_spec (ws := wsX4_question) B.pre
  have hown : s.vm.findClass RX4 = some m.cls := findClass_of_methodNamed B.named
  have hlocks := B.notSynchronized
  subst hsz
  have hD := hD0.self (sz := s.heap.size)
  generalize hAe : va_A [(p0, .inr (4, [.ref p1, .ref p2, .ref p3, .ref p4, .ref p5])), (p5, .inl (K 0, 256, .inl fs)), (t0, .inr (9, [.ref t1, k_1, .ref t2, k_3, .int n, k_5, k_6, k_7, k_8, .int ho])), (t1, .inl (K 0, 56, .inl f1)), (t2, .inl (K 0, 6, .inl f2))] s.heap.size = A at hD ⊢
  have hA : ∀ q : Nat, s.heap.size ≤ q → A q := fun q h => by rw [← hAe]; exact Or.inr h
  have hS : va_S A s.heap s.heap [] := va_S.rf
  have hP : va_P D vwCl [(p0, .inr (4, [.ref p1, .ref p2, .ref p3, .ref p4, .ref p5])), (p5, .inl (K 0, 256, .inl fs)), (t0, .inr (9, [.ref t1, k_1, .ref t2, k_3, .int n, k_5, k_6, k_7, k_8, .int ho])), (t1, .inl (K 0, 56, .inl f1)), (t2, .inl (K 0, 6, .inl f2))] s.heap := hP
  have hl := lv_entry [.ref p0, .ref t0, .int x] (n := 9) (Nat.le_of_ble_eq_true rfl)
  rw [lg_entry_eq]
  generalize (lg_sl [.ref p0, .ref t0, .int x] ++ List.replicate (9 - (lg_sl [.ref p0, .ref t0, .int x]).length) Slot.unset).toArray = ls at hl ⊢
  have hl : lv_has ls 9 [(0, .ref p0), (1, .ref t0), (2, .int x)] := hl
  have hw4 : ∀ w ∈ wsX40, w ∈ wsX4_question := fun w h => (List.mem_cons_of_mem _ (List.mem_append_right _ h))
  have hw9 : ∀ w ∈ wsX90, w ∈ wsX4_question := fun w h => (List.mem_cons_of_mem _ (List.mem_append_left _ (List.mem_append_right _ h)))
  generalize hQ : MQ below _ _ s _ _ _ = Q
  refine lv_aload_n hx hb dX4_question_0 rfl (lv_at hl 0 rfl) ?_
  refine lv_aload_n hx hb dX4_question_1 rfl (lv_at hl 1 rfl) ?_
  refine lv_iconst (v := (-1)) hx hb dX4_question_2 (by decide) ?_
  refine kci (S := Su) (wr := []) (va_runV (As := [.ref t0, .int (-1)]) (rest := []) ⟨hx, hb, hml, hown, hts⟩ (w_hillSet l D K p0 t0 (-1) p1 p2 p3 p4 p5 fs t1 k_1 t2 k_3 n k_5 k_6 k_7 k_8 ho f1 f2 s.heap.size (by first | omega | decide)) (cwV 2 hts gX4_question_X4_hillSet rfl rfl rfl (by decide +kernel) ⟨Nat.le_of_ble_eq_true rfl, Nat.le_of_ble_eq_true rfl⟩) (mkV hK hN (hP.sub [0, 1, 2, 3, 4] rfl) (hD.sub [0, 1, 2, 3, 4] (by decide) rfl) (ci := 4) (q0 := 0) rfl rfl) rfl rfl hl.1 rfl (lv_room (Nat.le_of_ble_eq_true rfl)) dX4_question_3 ⟨Nat.le_of_ble_eq_true rfl, Nat.le_of_ble_eq_true rfl⟩) hP hD hS hA [0, 1, 2, 3, 4] [] rfl rfl (by decide) (by decide) (fun r_403 u_404 H locs hw hP hD hS => ?_)
  have hP : va_P D vwCl [(p0, .inr (4, [.ref p1, .ref p2, .ref p3, .ref p4, .ref p5])), (p5, .inl (K 0, 256, .inl (u_404.2.1 0))), (t0, .inr (9, [.ref t1, k_1, .ref t2, k_3, .int n, k_5, k_6, k_7, k_8, .int ho])), (t1, .inl (K 0, 56, .inl f1)), (t2, .inl (K 0, 6, .inl f2))] H := hP
  have hD : va_D A [(p0, .inr (4, [.ref p1, .ref p2, .ref p3, .ref p4, .ref p5])), (p5, .inl (K 0, 256, .inl (u_404.2.1 0))), (t0, .inr (9, [.ref t1, k_1, .ref t2, k_3, .int n, k_5, k_6, k_7, k_8, .int ho])), (t1, .inl (K 0, 56, .inl f1)), (t2, .inl (K 0, 6, .inl f2))] := hD
  refine lv_istore_n (lv' := [(3, .int r_403), (0, .ref p0), (1, .ref t0), (2, .int x)]) hx hb dX4_question_6 rfl hl (by decide) rfl (fun ls hl => ?_)
  refine lv_iconst (v := (-1)) hx hb dX4_question_7 (by decide) ?_
  refine lv_istore (lv' := [(4, .int (-1)), (3, .int r_403), (0, .ref p0), (1, .ref t0), (2, .int x)]) hx hb dX4_question_8 hl (by decide) rfl (fun ls hl => ?_)
  refine lv_iload_n hx hb dX4_question_10 rfl (lv_at hl 1 rfl) ?_
  refine lv_iconst (v := 1) hx hb dX4_question_11 (by decide) ?_
  refine lv_iadd hx hb dX4_question_12 ?_
  refine lv_topi (fun x_405 ex_405 => ?_)
  refine lv_istore (lv' := [(5, .int x_405), (4, .int (-1)), (3, .int r_403), (0, .ref p0), (1, .ref t0), (2, .int x)]) hx hb dX4_question_13 hl (by decide) rfl (fun ls hl => ?_)
  refine lv_iconst (v := 0) hx hb dX4_question_15 (by decide) ?_
  refine lv_istore (lv' := [(6, .int 0), (5, .int x_405), (4, .int (-1)), (3, .int r_403), (0, .ref p0), (1, .ref t0), (2, .int x)]) hx hb dX4_question_16 hl (by decide) rfl (fun ls hl => ?_)
  have lp_567 : ∀ (nn_ : Nat) (v_511 : Int32) (v_512 : Int32) (v_513 : Int32) (hv_511 : 0 ≤ v_511.toInt ∧ v_511.toInt ≤ 8) (hv_513 : (-1) ≤ v_513.toInt) (hn : (9 - v_511.toInt : Int).toNat < nn_) (H : Heap) (locs : List Loc) (hP : va_P D vwCl [(p0, .inr (4, [.ref p1, .ref p2, .ref p3, .ref p4, .ref p5])), (p5, .inl (K 0, 256, .inl (u_404.2.1 0))), (t0, .inr (9, [.ref t1, k_1, .ref t2, k_3, .int n, k_5, k_6, k_7, k_8, .int ho])), (t1, .inl (K 0, 56, .inl f1)), (t2, .inl (K 0, 6, .inl f2))] H) (hD : va_D A [(p0, .inr (4, [.ref p1, .ref p2, .ref p3, .ref p4, .ref p5])), (p5, .inl (K 0, 256, .inl (u_404.2.1 0))), (t0, .inr (9, [.ref t1, k_1, .ref t2, k_3, .int n, k_5, k_6, k_7, k_8, .int ho])), (t1, .inl (K 0, 56, .inl f1)), (t2, .inl (K 0, 6, .inl f2))]) (hS : va_S A s.heap H locs) (ls : Array Slot) (hl : lv_has ls 9 [(6, .int v_511), (5, .int v_512), (4, .int v_513), (3, .int r_403), (0, .ref p0), (1, .ref t0), (2, .int x)]), W p l e ({ frames := 3, cells := 0, slots := 0, locals := 72 }) s m (([.ref p0, .ref t0, .int x] : List Value).toArray) below meth c H locs 0 0 Q (F0 m 18 ls []) := by
    intro nn_
    induction nn_ with
    | zero =>
      intro v_511 v_512 v_513 hv_511 hv_513 hn H locs hP hD hS ls hl
      exact absurd hn (Nat.not_lt_zero _)
    | succ nn_ ih_568 =>
      intro v_511 v_512 v_513 hv_511 hv_513 hn H locs hP hD hS ls hl
      refine lv_iload hx hb dX4_question_18 (lv_at hl 0 rfl) ?_
      refine lv_aload_n hx hb dX4_question_20 rfl (lv_at hl 5 rfl) ?_
      refine va_getN (ci := 9) (v := .int n) (C := RX9) (T := TX9) (N := 10) hx hb hts hw9 hown hK hP 2 rfl rfl 4 (by decide) (nst_use hN 106 rfl) (fun _ h9 => h9) rfl dX4_question_21 ?_
      have j_586 : ∀ (H : Heap) (locs : List Loc) (hP : va_P D vwCl [(p0, .inr (4, [.ref p1, .ref p2, .ref p3, .ref p4, .ref p5])), (p5, .inl (K 0, 256, .inl (u_404.2.1 0))), (t0, .inr (9, [.ref t1, k_1, .ref t2, k_3, .int n, k_5, k_6, k_7, k_8, .int ho])), (t1, .inl (K 0, 56, .inl f1)), (t2, .inl (K 0, 6, .inl f2))] H) (hD : va_D A [(p0, .inr (4, [.ref p1, .ref p2, .ref p3, .ref p4, .ref p5])), (p5, .inl (K 0, 256, .inl (u_404.2.1 0))), (t0, .inr (9, [.ref t1, k_1, .ref t2, k_3, .int n, k_5, k_6, k_7, k_8, .int ho])), (t1, .inl (K 0, 56, .inl f1)), (t2, .inl (K 0, 6, .inl f2))]) (hS : va_S A s.heap H locs) (ls : Array Slot) (hl : lv_has ls 9 [(5, .int v_512), (4, .int v_513), (2, .int x)]), W p l e ({ frames := 3, cells := 0, slots := 0, locals := 72 }) s m (([.ref p0, .ref t0, .int x] : List Value).toArray) below meth c H locs 0 0 Q (F0 m 72 ls []) := by
        intro H locs hP hD hS ls hl
        refine lv_iload hx hb dX4_question_72 (lv_at hl 1 rfl) ?_
        refine lv_iconst (v := (-1)) hx hb dX4_question_74 (by decide) ?_
        have j_589 : ∀ (H : Heap) (locs : List Loc) (hP : va_P D vwCl [(p0, .inr (4, [.ref p1, .ref p2, .ref p3, .ref p4, .ref p5])), (p5, .inl (K 0, 256, .inl (u_404.2.1 0))), (t0, .inr (9, [.ref t1, k_1, .ref t2, k_3, .int n, k_5, k_6, k_7, k_8, .int ho])), (t1, .inl (K 0, 56, .inl f1)), (t2, .inl (K 0, 6, .inl f2))] H) (hD : va_D A [(p0, .inr (4, [.ref p1, .ref p2, .ref p3, .ref p4, .ref p5])), (p5, .inl (K 0, 256, .inl (u_404.2.1 0))), (t0, .inr (9, [.ref t1, k_1, .ref t2, k_3, .int n, k_5, k_6, k_7, k_8, .int ho])), (t1, .inl (K 0, 56, .inl f1)), (t2, .inl (K 0, 6, .inl f2))]) (hS : va_S A s.heap H locs) (ls : Array Slot) (hl : lv_has ls 9 [(4, .int v_513)]), W p l e ({ frames := 3, cells := 0, slots := 0, locals := 72 }) s m (([.ref p0, .ref t0, .int x] : List Value).toArray) below meth c H locs 0 0 Q (F0 m 82 ls []) := by
          intro H locs hP hD hS ls hl
          refine lv_iload hx hb dX4_question_82 (lv_at hl 0 rfl) ?_
          refine lv_goto (tgt := 89) hx hb dX4_question_84 (by decide) ?_
          subst hQ
          have hP9 := hP.sub (ws' := [(p0, .inr (4, [.ref p1, .ref p2, .ref p3, .ref p4, .ref p5])), (p5, .inl (K 0, 256, .inl (u_404.2.1 0))), (t0, .inr (9, [.ref t1, k_1, .ref t2, k_3, .int n, k_5, k_6, k_7, k_8, .int ho])), (t1, .inl (K 0, 56, .inl f1)), (t2, .inl (K 0, 6, .inl f2))]) [0, 1, 2, 3, 4] rfl
          have hD9 := hD.sub (ws' := [(p0, .inr (4, [.ref p1, .ref p2, .ref p3, .ref p4, .ref p5])), (p5, .inl (K 0, 256, .inl (u_404.2.1 0))), (t0, .inr (9, [.ref t1, k_1, .ref t2, k_3, .int n, k_5, k_6, k_7, k_8, .int ho])), (t1, .inl (K 0, 56, .inl f1)), (t2, .inl (K 0, 6, .inl f2))]) [0, 1, 2, 3, 4] (by decide) rfl
          exact W.iret (v := v_513) hx hb hr (fun t ht hW => ⟨⟨v_513, ((fun _ => 0, fun i => match i with | _ => (u_404.2.1 0), fun _ => fun _ => 0, fun _ => 0, fun _ => 0, fun _ => fun _ => none) : Su), rfl, trivial, (⟨by rw [ht]; exact hP9, hD9⟩ : Wd D A _ t)⟩, hS.F ht⟩) hS.2.2 dX4_question_89
        refine lv_icmp_eq (tgt := 82) hx hb dX4_question_75 (by decide) (fun c_590 => ?_) (fun c_590 => ?_)
        · have c_590i := i_eq (x := v_513.toInt) (y := (-1)) rfl rfl c_590
          exact j_589   _ _ hP hD hS ls (lv_sub hl [1] rfl)
        · have c_590i := i_ne (x := v_513.toInt) (y := (-1)) rfl rfl c_590
          refine lv_iload_n hx hb dX4_question_78 rfl (lv_at hl 2 rfl) ?_
          refine lv_if_ne (tgt := 87) hx hb dX4_question_79 (by decide) (fun c_591 => ?_) (fun c_591 => ?_)
          · have c_591i := i_ne (x := x.toInt) (y := 0) rfl rfl c_591
            refine lv_iload hx hb dX4_question_87 (lv_at hl 0 rfl) ?_
            subst hQ
            have hP9 := hP.sub (ws' := [(p0, .inr (4, [.ref p1, .ref p2, .ref p3, .ref p4, .ref p5])), (p5, .inl (K 0, 256, .inl (u_404.2.1 0))), (t0, .inr (9, [.ref t1, k_1, .ref t2, k_3, .int n, k_5, k_6, k_7, k_8, .int ho])), (t1, .inl (K 0, 56, .inl f1)), (t2, .inl (K 0, 6, .inl f2))]) [0, 1, 2, 3, 4] rfl
            have hD9 := hD.sub (ws' := [(p0, .inr (4, [.ref p1, .ref p2, .ref p3, .ref p4, .ref p5])), (p5, .inl (K 0, 256, .inl (u_404.2.1 0))), (t0, .inr (9, [.ref t1, k_1, .ref t2, k_3, .int n, k_5, k_6, k_7, k_8, .int ho])), (t1, .inl (K 0, 56, .inl f1)), (t2, .inl (K 0, 6, .inl f2))]) [0, 1, 2, 3, 4] (by decide) rfl
            exact W.iret (v := v_512) hx hb hr (fun t ht hW => ⟨⟨v_512, ((fun _ => 0, fun i => match i with | _ => (u_404.2.1 0), fun _ => fun _ => 0, fun _ => 0, fun _ => 0, fun _ => fun _ => none) : Su), rfl, trivial, (⟨by rw [ht]; exact hP9, hD9⟩ : Wd D A _ t)⟩, hS.F ht⟩) hS.2.2 dX4_question_89
          · have c_591i := i_eq (x := x.toInt) (y := 0) rfl rfl c_591
            exact j_589   _ _ hP hD hS ls (lv_sub hl [1] rfl)
      refine lv_icmp_ge (tgt := 72) hx hb dX4_question_24 (by decide) (fun c_592 => ?_) (fun c_592 => ?_)
      · have c_592i := i_le (x := n.toInt) (y := v_511.toInt) rfl rfl c_592
        exact j_586   _ _ hP hD hS ls (lv_sub hl [1, 2, 6] rfl)
      · have c_592i := i_nle (x := n.toInt) (y := v_511.toInt) rfl rfl c_592
        refine lv_iload_n hx hb dX4_question_27 rfl (lv_at hl 3 rfl) ?_
        refine lv_if_le (tgt := 72) hx hb dX4_question_28 (by decide) (fun c_593 => ?_) (fun c_593 => ?_)
        · have c_593i := i_le (x := r_403.toInt) (y := 0) rfl rfl c_593
          exact j_586   _ _ hP hD hS ls (lv_sub hl [1, 2, 6] rfl)
        · have c_593i := i_nle (x := r_403.toInt) (y := 0) rfl rfl c_593
          refine lv_aload_n hx hb dX4_question_31 rfl (lv_at hl 4 rfl) ?_
          refine lv_aload_n hx hb dX4_question_32 rfl (lv_at hl 5 rfl) ?_
          refine lv_iload hx hb dX4_question_33 (lv_at hl 0 rfl) ?_
          refine pci (va_runV (As := [.ref t0, .int v_511]) (rest := []) ⟨hx, hb, hml, hown, hts⟩ (w_burningSets l D K p0 t0 v_511 p1 p2 p3 p4 p5 (u_404.2.1 0) t1 k_1 t2 k_3 n k_5 k_6 k_7 k_8 ho f1 f2 H.size (by first | omega | decide)) (cwV 2 hts gX4_question_X4_burningSets rfl rfl rfl (by decide +kernel) ⟨Nat.le_of_ble_eq_true rfl, Nat.le_of_ble_eq_true rfl⟩) (mkV hK hN (hP.sub [0, 1, 2, 3, 4] rfl) (hD.sub [0, 1, 2, 3, 4] (by decide) rfl) (ci := 4) (q0 := 0) rfl rfl) rfl rfl hl.1 rfl (lv_room (Nat.le_of_ble_eq_true rfl)) dX4_question_35 ⟨Nat.le_of_ble_eq_true rfl, Nat.le_of_ble_eq_true rfl⟩) (fun r_594 hw => ?_)
          refine lv_istore (lv' := [(7, .int r_594), (6, .int v_511), (5, .int v_512), (4, .int v_513), (3, .int r_403), (0, .ref p0), (1, .ref t0), (2, .int x)]) hx hb dX4_question_38 hl (by decide) rfl (fun ls hl => ?_)
          refine lv_iload hx hb dX4_question_40 (lv_at hl 0 rfl) ?_
          refine lv_iload_n hx hb dX4_question_42 rfl (lv_at hl 4 rfl) ?_
          refine lv_iload hx hb dX4_question_43 (lv_at hl 0 rfl) ?_
          refine lv_isub hx hb dX4_question_45 ?_
          refine lv_topi (fun x_595 ex_595 => ?_)
          refine va_mmax hx hb (hml.trans hl.1.symm) hown (hts (.methodLink RX4 90 Lib.Math.max.name) (List.mem_cons_of_mem _ (List.mem_append_left _ (List.mem_append_left _ (List.mem_of_getElem? (i := 0) rfl))))) (hts (.static Lib.Math.max.name) (List.mem_cons_of_mem _ (List.mem_append_left _ (List.mem_append_left _ (List.mem_of_getElem? (i := 1) rfl))))) (hts (.initialized "java/lang/Math") (List.mem_cons_of_mem _ (List.mem_append_left _ (List.mem_append_left _ (List.mem_of_getElem? (i := 2) rfl))))) (hts (.code Lib.Math.max.name Lib.Math.max.code 2 (some .int)) (List.mem_cons_of_mem _ (List.mem_append_left _ (List.mem_append_left _ (List.mem_of_getElem? (i := 3) rfl))))) (Nat.le_of_ble_eq_true rfl) (Nat.le_of_ble_eq_true rfl) (Nat.le_of_ble_eq_true rfl) (Nat.le_of_ble_eq_true rfl) dX4_question_46 ?_
          refine lv_topi (fun x_596 ex_596 => ?_)
          have hx_596 : (x_595.toInt ≤ r_594.toInt ∧ x_596.toInt = r_594.toInt) ∨ (r_594.toInt < x_595.toInt ∧ x_596.toInt = x_595.toInt) := by rw [ex_596]; exact i_max rfl rfl
          replace hx_596 : r_594.toInt ≤ x_596.toInt ∧ x_595.toInt ≤ x_596.toInt := by omega
          refine lv_istore (lv' := [(8, .int x_596), (7, .int r_594), (6, .int v_511), (5, .int v_512), (4, .int v_513), (3, .int r_403), (0, .ref p0), (1, .ref t0), (2, .int x)]) hx hb dX4_question_49 hl (by decide) rfl (fun ls hl => ?_)
          refine lv_iload hx hb dX4_question_51 (lv_at hl 0 rfl) ?_
          refine lv_iload hx hb dX4_question_53 (lv_at hl 3 rfl) ?_
          have j_601 : ∀ (v_598 : Int32) (v_599 : Int32) (hv_599 : (-1) ≤ v_599.toInt) (H : Heap) (locs : List Loc) (hP : va_P D vwCl [(p0, .inr (4, [.ref p1, .ref p2, .ref p3, .ref p4, .ref p5])), (p5, .inl (K 0, 256, .inl (u_404.2.1 0))), (t0, .inr (9, [.ref t1, k_1, .ref t2, k_3, .int n, k_5, k_6, k_7, k_8, .int ho])), (t1, .inl (K 0, 56, .inl f1)), (t2, .inl (K 0, 6, .inl f2))] H) (hD : va_D A [(p0, .inr (4, [.ref p1, .ref p2, .ref p3, .ref p4, .ref p5])), (p5, .inl (K 0, 256, .inl (u_404.2.1 0))), (t0, .inr (9, [.ref t1, k_1, .ref t2, k_3, .int n, k_5, k_6, k_7, k_8, .int ho])), (t1, .inl (K 0, 56, .inl f1)), (t2, .inl (K 0, 6, .inl f2))]) (hS : va_S A s.heap H locs) (ls : Array Slot) (hl : lv_has ls 9 [(6, .int v_511), (5, .int v_598), (4, .int v_599), (3, .int r_403), (0, .ref p0), (1, .ref t0), (2, .int x)]), W p l e ({ frames := 3, cells := 0, slots := 0, locals := 72 }) s m (([.ref p0, .ref t0, .int x] : List Value).toArray) below meth c H locs 0 0 Q (F0 m 66 ls []) := by
            intro v_598 v_599 hv_599 H locs hP hD hS ls hl
            obtain ⟨x_602, ex_602⟩ : ∃ y : Int32, y = v_511 + Int32.ofInt 1 := ⟨_, rfl⟩
            have hx_602 : x_602.toInt = (v_511.toInt + 1) := by rw [ex_602]; exact i_add rfl (show (Int32.ofInt 1).toInt = 1 from rfl) (by omega)
            refine lv_iinc (v := x_602) (lv' := [(6, .int x_602), (5, .int v_598), (4, .int v_599), (3, .int r_403), (0, .ref p0), (1, .ref t0), (2, .int x)]) hx hb dX4_question_66 hl (k := 0) rfl (by rw [ex_602]) (by decide) rfl (fun ls hl => ?_)
            refine lv_goto (tgt := 18) hx hb dX4_question_69 (by decide) ?_
            exact ih_568 x_602 v_598 v_599 (by rw [hx_602]; omega) (by omega) (by omega) _ _ hP hD hS ls (lv_sub hl [0, 1, 2, 3, 4, 5, 6] rfl)
          refine lv_icmp_ge (tgt := 66) hx hb dX4_question_55 (by decide) (fun c_603 => ?_) (fun c_603 => ?_)
          · have c_603i := i_le (x := v_512.toInt) (y := x_596.toInt) rfl rfl c_603
            exact j_601 v_512 v_513 (by omega) _ _ hP hD hS ls (lv_sub hl [2, 3, 4, 5, 6, 7, 8] rfl)
          · have c_603i := i_nle (x := v_512.toInt) (y := x_596.toInt) rfl rfl c_603
            refine lv_iload hx hb dX4_question_58 (lv_at hl 0 rfl) ?_
            refine lv_istore (lv' := [(5, .int x_596), (8, .int x_596), (7, .int r_594), (6, .int v_511), (4, .int v_513), (3, .int r_403), (0, .ref p0), (1, .ref t0), (2, .int x)]) hx hb dX4_question_60 hl (by decide) rfl (fun ls hl => ?_)
            refine lv_iload hx hb dX4_question_62 (lv_at hl 3 rfl) ?_
            refine lv_istore (lv' := [(4, .int v_511), (5, .int x_596), (8, .int x_596), (7, .int r_594), (6, .int v_511), (3, .int r_403), (0, .ref p0), (1, .ref t0), (2, .int x)]) hx hb dX4_question_64 hl (by decide) rfl (fun ls hl => ?_)
            exact j_601 x_596 v_511 (by omega) _ _ hP hD hS ls (lv_sub hl [4, 1, 0, 5, 6, 7, 8] rfl)
  exact lp_567 ((9 - (0 : Int32).toInt : Int).toNat + 1) 0 x_405 (-1) (by decide) (by decide) (Nat.lt_succ_self _) _ _ hP hD hS ls (lv_sub hl [0, 1, 2, 3, 4, 5, 6] rfl)
set_option maxHeartbeats 4000000 in
set_option maxRecDepth 100000 in
theorem w_muted (l : Launch) (D : va_G) (K : Nat → ClassId) (t0 : Nat) (x : Int32) (y : Int64) (t1 : Nat) (k_1 : Value) (t2 : Nat) (k_3 : Value) (n : Int32) (k_5 : Value) (k_6 : Value) (k_7 : Value) (k_8 : Value) (ho : Int32) (f1 : Nat → Int32) (f2 : Nat → Int32) (sz : Nat) (zn : 0 ≤ n.toInt ∧ n.toInt ≤ 8) : Met l yX4_muted wsX4_muted ({ frames := 2, cells := 0, slots := 0, locals := 44 }) (va_Pc [.ref t0, .int x, .long y] (Pre D K [(t0, .inr (9, [.ref t1, k_1, .ref t2, k_3, .int n, k_5, k_6, k_7, k_8, .int ho])), (t1, .inl (K 0, 56, .inl f1)), (t2, .inl (K 0, 6, .inl f2))] sz)) (vp_Sl (fun r : Int64 => True)) 0 0 (fun _ => False) := by
  refine Met.ofW (cc := cX4_muted) (maxL := 7) (ret := (some .long)) (by decide) rfl ?_
  intro p e s m args below meth c s₁ B hml hv
  obtain ⟨rfl, hsz, hP, hK, hD0, hN⟩ := hv
  have hx := B.exec
  have hb := B.bytes
  have hr := B.returns
  have hts := atoms_spec (ws := wsX4_muted) B.pre
  have hown : s.vm.findClass RX4 = some m.cls := findClass_of_methodNamed B.named
  have hlocks := B.notSynchronized
  subst hsz
  have hD := hD0
  have hP : va_P D vwCl [(t0, .inr (9, [.ref t1, k_1, .ref t2, k_3, .int n, k_5, k_6, k_7, k_8, .int ho])), (t1, .inl (K 0, 56, .inl f1)), (t2, .inl (K 0, 6, .inl f2))] s.heap := hP
  have hl := lv_entry [.ref t0, .int x, .long y] (n := 7) (Nat.le_of_ble_eq_true rfl)
  rw [lg_entry_eq]
  generalize (lg_sl [.ref t0, .int x, .long y] ++ List.replicate (7 - (lg_sl [.ref t0, .int x, .long y]).length) Slot.unset).toArray = ls at hl ⊢
  have hl : lv_has ls 7 [(0, .ref t0), (1, .int x), (2, .long y)] := hl
  have hw9 : ∀ w ∈ wsX90, w ∈ wsX4_muted := fun w h => (List.mem_cons_of_mem _ (List.mem_append_right _ h))
  generalize hQ : MQ below _ _ s _ _ _ = Q
  refine lv_lload_n hx hb dX4_muted_0 rfl (lv_at hl 2 rfl) ?_
  refine lv_lstore (lv' := [(4, .long y), (0, .ref t0), (1, .int x), (2, .long y)]) hx hb dX4_muted_1 hl (by decide) rfl (fun ls hl => ?_)
  refine lv_iconst (v := 0) hx hb dX4_muted_3 (by decide) ?_
  refine lv_istore (lv' := [(6, .int 0), (4, .long y), (0, .ref t0), (1, .int x), (2, .long y)]) hx hb dX4_muted_4 hl (by decide) rfl (fun ls hl => ?_)
  have lp_469 : ∀ (nn_ : Nat) (v_421 : Int32) (v_422 : Int64) (hv_421 : 0 ≤ v_421.toInt ∧ v_421.toInt ≤ 8) (hn : (9 - v_421.toInt : Int).toNat < nn_) (ls : Array Slot) (hl : lv_has ls 7 [(6, .int v_421), (4, .long v_422), (0, .ref t0), (1, .int x)]), W p l e ({ frames := 2, cells := 0, slots := 0, locals := 44 }) s m (([.ref t0, .int x, .long y] : List Value).toArray) below meth c s.heap [] 0 0 Q (F0 m 6 ls []) := by
    intro nn_
    induction nn_ with
    | zero =>
      intro v_421 v_422 hv_421 hn ls hl
      exact absurd hn (Nat.not_lt_zero _)
    | succ nn_ ih_470 =>
      intro v_421 v_422 hv_421 hn ls hl
      refine lv_iload hx hb dX4_muted_6 (lv_at hl 0 rfl) ?_
      refine lv_aload_n hx hb dX4_muted_8 rfl (lv_at hl 2 rfl) ?_
      refine va_getN (ci := 9) (v := .int n) (C := RX9) (T := TX9) (N := 10) hx hb hts hw9 hown hK hP 0 rfl rfl 4 (by decide) (nst_use hN 106 rfl) (fun _ h9 => h9) rfl dX4_muted_9 ?_
      refine lv_icmp_ge (tgt := 57) hx hb dX4_muted_12 (by decide) (fun c_471 => ?_) (fun c_471 => ?_)
      · have c_471i := i_le (x := n.toInt) (y := v_421.toInt) rfl rfl c_471
        refine lv_lload hx hb dX4_muted_57 (lv_at hl 1 rfl) ?_
        subst hQ
        exact W.lret (v := v_422) hx hb hr (fun t ht hW => ⟨_, rfl, trivial, ht⟩) (fun q hq => by cases hq) dX4_muted_59
      · have c_471i := i_nle (x := n.toInt) (y := v_421.toInt) rfl rfl c_471
        refine lv_aload_n hx hb dX4_muted_15 rfl (lv_at hl 2 rfl) ?_
        refine lv_iload hx hb dX4_muted_16 (lv_at hl 0 rfl) ?_
        refine lv_iconst (v := 0) hx hb dX4_muted_18 (by decide) ?_
        refine pci (va_runVN (As := [.int v_421, .int 0]) (rest := []) ⟨hx, hb, hml, hown, hts⟩ (w_fact l D K t0 v_421 0 t1 k_1 (.ref t2) k_3 (.int n) k_5 k_6 k_7 k_8 (.int ho) f1 s.heap.size) ⟨va_cnB 2 hts gX4_muted_X9_fact_n45 rfl rfl rfl (nst_at hN 84 rfl) (hts (.initialized RX9) (List.mem_cons_of_mem _ (List.mem_append_left _ (List.mem_of_getElem? (i := 2) rfl)))) (by decide +kernel) ⟨Nat.le_of_ble_eq_true rfl, Nat.le_of_ble_eq_true rfl⟩, (hts (.instanceMethod yX9_fact) (List.mem_cons_of_mem _ (List.mem_append_left _ (List.mem_of_getElem? (i := 1) rfl)))), (hts (.selects RX9 yX9_fact yX9_fact) (List.mem_cons_of_mem _ (List.mem_append_left _ (List.mem_of_getElem? (i := 3) rfl))))⟩ (mkV hK hN (hP.sub [0, 1] rfl) (hD.sub [0, 1] (by decide) rfl) (ci := 9) (q0 := 0) rfl rfl) rfl rfl hl.1 rfl (lv_room (Nat.le_of_ble_eq_true rfl)) dX4_muted_19 ⟨Nat.le_of_ble_eq_true rfl, Nat.le_of_ble_eq_true rfl⟩) (fun r_472 hw => ?_)
        refine lv_iload_n hx hb dX4_muted_22 rfl (lv_at hl 3 rfl) ?_
        have j_483 : ∀ (v_481 : Int64) (ls : Array Slot) (hl : lv_has ls 7 [(6, .int v_421), (4, .long v_481), (0, .ref t0), (1, .int x)]), W p l e ({ frames := 2, cells := 0, slots := 0, locals := 44 }) s m (([.ref t0, .int x, .long y] : List Value).toArray) below meth c s.heap [] 0 0 Q (F0 m 51 ls []) := by
          intro v_481 ls hl
          obtain ⟨x_484, ex_484⟩ : ∃ y : Int32, y = v_421 + Int32.ofInt 1 := ⟨_, rfl⟩
          have hx_484 : x_484.toInt = (v_421.toInt + 1) := by rw [ex_484]; exact i_add rfl (show (Int32.ofInt 1).toInt = 1 from rfl) (by omega)
          refine lv_iinc (v := x_484) (lv' := [(6, .int x_484), (4, .long v_481), (0, .ref t0), (1, .int x)]) hx hb dX4_muted_51 hl (k := 0) rfl (by rw [ex_484]) (by decide) rfl (fun ls hl => ?_)
          refine lv_goto (tgt := 6) hx hb dX4_muted_54 (by decide) ?_
          exact ih_470 x_484 v_481 (by rw [hx_484]; omega) (by omega) ls (lv_sub hl [0, 1, 2, 3] rfl)
        refine lv_icmp_ne (tgt := 51) hx hb dX4_muted_23 (by decide) (fun c_485 => ?_) (fun c_485 => ?_)
        · have c_485i := i_ne (x := r_472.toInt) (y := x.toInt) rfl rfl c_485
          exact j_483 v_422  ls (lv_sub hl [0, 1, 2, 3] rfl)
        · have c_485i := i_eq (x := r_472.toInt) (y := x.toInt) rfl rfl c_485
          refine lv_aload_n hx hb dX4_muted_26 rfl (lv_at hl 2 rfl) ?_
          refine lv_iload hx hb dX4_muted_27 (lv_at hl 0 rfl) ?_
          refine pci (va_runVN (As := [.int v_421]) (rest := []) ⟨hx, hb, hml, hown, hts⟩ (w_sings l D K t0 v_421 t1 k_1 t2 k_3 (.int n) k_5 k_6 k_7 k_8 (.int ho) f1 f2 s.heap.size) ⟨va_cnB 1 hts gX4_muted_X9_sings_n99 rfl rfl rfl (nst_at hN 91 rfl) (hts (.initialized RX9) (List.mem_cons_of_mem _ (List.mem_append_left _ (List.mem_of_getElem? (i := 2) rfl)))) (by decide +kernel) ⟨Nat.le_of_ble_eq_true rfl, Nat.le_of_ble_eq_true rfl⟩, (hts (.instanceMethod yX9_sings) (List.mem_cons_of_mem _ (List.mem_append_left _ (List.mem_of_getElem? (i := 6) rfl)))), (hts (.selects RX9 yX9_sings yX9_sings) (List.mem_cons_of_mem _ (List.mem_append_left _ (List.mem_of_getElem? (i := 7) rfl))))⟩ (mkV hK hN (hP.sub [0, 1, 2] rfl) (hD.sub [0, 1, 2] (by decide) rfl) (ci := 9) (q0 := 0) rfl rfl) rfl rfl hl.1 rfl (lv_room (Nat.le_of_ble_eq_true rfl)) dX4_muted_29 ⟨Nat.le_of_ble_eq_true rfl, Nat.le_of_ble_eq_true rfl⟩) (fun r_486 hw => ?_)
          obtain ⟨h_487, -⟩ := hw
          refine lv_if_eq (tgt := 51) hx hb dX4_muted_32 (by decide) (fun c_488 => ?_) (fun c_488 => ?_)
          · have c_488i := i_eq (x := r_486.toInt) (y := 0) rfl rfl c_488
            exact j_483 v_422  ls (lv_sub hl [0, 1, 2, 3] rfl)
          · have c_488i := i_ne (x := r_486.toInt) (y := 0) rfl rfl c_488
            refine lv_lload hx hb dX4_muted_35 (lv_at hl 1 rfl) ?_
            refine lv_aload_n hx hb dX4_muted_37 rfl (lv_at hl 2 rfl) ?_
            refine va_getN (ci := 9) (v := .ref t2) (C := RX9) (T := TX9) (N := 10) hx hb hts hw9 hown hK hP 0 rfl rfl 2 (by decide) (nst_use hN 105 rfl) (fun _ h9 => h9) rfl dX4_muted_38 ?_
            refine lv_iconst (v := 4) hx hb dX4_muted_41 (by decide) ?_
            refine va_iald hx hb hK hP 2 0 rfl rfl (i_in (x := 4) rfl (by omega)) dX4_muted_42 ?_
            refine lv_topi (fun x_489 ex_489 => ?_)
            refine lv_i2l hx hb dX4_muted_43 rfl ?_
            refine lv_topl (fun x_490 ex_490 => ?_)
            have hx_490 : x_490.toInt = x_489.toInt := by rw [ex_490]; exact i_wide rfl
            have hbx_490 := i_rng (a := x_489) rfl
            refine lv_lmul hx hb dX4_muted_44 ?_
            refine lv_topl (fun x_491 ex_491 => ?_)
            refine lv_ldc2 (v := 10) hx hb hown (hts (.constantLong RX4 105 (10)) (List.mem_cons_of_mem _ (List.mem_append_left _ (List.mem_of_getElem? (i := 0) rfl)))) dX4_muted_45 ?_
            refine lv_ldiv hx hb dX4_muted_48 (by decide) ?_
            refine lv_topl (fun x_492 ex_492 => ?_)
            refine lv_lstore (lv' := [(4, .long x_492), (6, .int v_421), (0, .ref t0), (1, .int x)]) hx hb dX4_muted_49 hl (by decide) rfl (fun ls hl => ?_)
            exact j_483 x_492  ls (lv_sub hl [1, 0, 2, 3] rfl)
  exact lp_469 ((9 - (0 : Int32).toInt : Int).toNat + 1) 0 y (by decide) (Nat.lt_succ_self _) ls (lv_sub hl [0, 1, 2, 3] rfl)
set_option maxHeartbeats 4000000 in
set_option maxRecDepth 100000 in
theorem w_odds (l : Launch) (D : va_G) (K : Nat → ClassId) (p0 : Nat) (t0 : Nat) (x : Int32) (p1 : Nat) (p2 : Nat) (p3 : Nat) (p4 : Nat) (p5 : Nat) (t1 : Nat) (k_1 : Value) (t2 : Nat) (k_3 : Value) (n : Int32) (k_5 : Value) (k_6 : Value) (k_7 : Value) (k_8 : Value) (ho : Int32) (f1 : Nat → Int32) (f2 : Nat → Int32) (sz : Nat) (zn : 0 ≤ n.toInt ∧ n.toInt ≤ 8) : Met l yX4_odds wsX4_odds ({ frames := 3, cells := 0, slots := 0, locals := 70 }) (va_Pc [.ref p0, .ref t0, .int x] (Pre D K [(p0, .inr (4, [.ref p1, .ref p2, .ref p3, .ref p4, .ref p5])), (t0, .inr (9, [.ref t1, k_1, .ref t2, k_3, .int n, k_5, k_6, k_7, k_8, .int ho])), (t1, .inl (K 0, 56, .inl f1)), (t2, .inl (K 0, 6, .inl f2))] sz)) (vp_Sl (fun r : Int64 => True)) 0 0 (fun _ => False) := by
  refine Met.ofW (cc := cX4_odds) (maxL := 6) (ret := (some .long)) (by decide) rfl ?_
  intro p e s m args below meth c s₁ B hml hv
  obtain ⟨rfl, hsz, hP, hK, hD0, hN⟩ := hv
  have hx := B.exec
  have hb := B.bytes
  have hr := B.returns
  have hts := atoms_spec (ws := wsX4_odds) B.pre
  have hown : s.vm.findClass RX4 = some m.cls := findClass_of_methodNamed B.named
  have hlocks := B.notSynchronized
  subst hsz
  have hD := hD0
  have hP : va_P D vwCl [(p0, .inr (4, [.ref p1, .ref p2, .ref p3, .ref p4, .ref p5])), (t0, .inr (9, [.ref t1, k_1, .ref t2, k_3, .int n, k_5, k_6, k_7, k_8, .int ho])), (t1, .inl (K 0, 56, .inl f1)), (t2, .inl (K 0, 6, .inl f2))] s.heap := hP
  have hl := lv_entry [.ref p0, .ref t0, .int x] (n := 6) (Nat.le_of_ble_eq_true rfl)
  rw [lg_entry_eq]
  generalize (lg_sl [.ref p0, .ref t0, .int x] ++ List.replicate (6 - (lg_sl [.ref p0, .ref t0, .int x]).length) Slot.unset).toArray = ls at hl ⊢
  have hl : lv_has ls 6 [(0, .ref p0), (1, .ref t0), (2, .int x)] := hl
  have hw9 : ∀ w ∈ wsX90, w ∈ wsX4_odds := fun w h => (List.mem_cons_of_mem _ (List.mem_append_right _ h))
  generalize hQ : MQ below _ _ s _ _ _ = Q
  refine lv_ldc2 (v := 1000000000000) hx hb hown (hts (.constantLong RX4 93 (1000000000000)) (List.mem_cons_of_mem _ (List.mem_append_left _ (List.mem_of_getElem? (i := 0) rfl)))) dX4_odds_0 ?_
  refine lv_lstore_n (lv' := [(3, .long 1000000000000), (0, .ref p0), (1, .ref t0), (2, .int x)]) hx hb dX4_odds_3 rfl hl (by decide) rfl (fun ls hl => ?_)
  refine lv_iconst (v := 0) hx hb dX4_odds_4 (by decide) ?_
  refine lv_istore (lv' := [(5, .int 0), (3, .long 1000000000000), (0, .ref p0), (1, .ref t0), (2, .int x)]) hx hb dX4_odds_5 hl (by decide) rfl (fun ls hl => ?_)
  have lp_289 : ∀ (nn_ : Nat) (v_259 : Int32) (v_260 : Int64) (hv_259 : 0 ≤ v_259.toInt ∧ v_259.toInt ≤ 7) (hn : (8 - v_259.toInt : Int).toNat < nn_) (ls : Array Slot) (hl : lv_has ls 6 [(5, .int v_259), (3, .long v_260), (1, .ref t0), (2, .int x)]), W p l e ({ frames := 3, cells := 0, slots := 0, locals := 70 }) s m (([.ref p0, .ref t0, .int x] : List Value).toArray) below meth c s.heap [] 0 0 Q (F0 m 7 ls []) := by
    intro nn_
    induction nn_ with
    | zero =>
      intro v_259 v_260 hv_259 hn ls hl
      exact absurd hn (Nat.not_lt_zero _)
    | succ nn_ ih_290 =>
      intro v_259 v_260 hv_259 hn ls hl
      refine lv_iload hx hb dX4_odds_7 (lv_at hl 0 rfl) ?_
      refine lv_bipush (v := 7) hx hb dX4_odds_9 (by decide) ?_
      refine lv_icmp_ge (tgt := 40) hx hb dX4_odds_11 (by decide) (fun c_291 => ?_) (fun c_291 => ?_)
      · have c_291i := i_le (x := 7) (y := v_259.toInt) rfl rfl c_291
        refine lv_lload_n hx hb dX4_odds_40 rfl (lv_at hl 1 rfl) ?_
        subst hQ
        exact W.lret (v := v_260) hx hb hr (fun t ht hW => ⟨_, rfl, trivial, ht⟩) (fun q hq => by cases hq) dX4_odds_41
      · have c_291i := i_nle (x := 7) (y := v_259.toInt) rfl rfl c_291
        refine lv_iload_n hx hb dX4_odds_14 rfl (lv_at hl 3 rfl) ?_
        refine lv_iload hx hb dX4_odds_15 (lv_at hl 0 rfl) ?_
        refine lv_ishr hx hb dX4_odds_17 ?_
        refine lv_topi (fun x_292 ex_292 => ?_)
        refine lv_iconst (v := 1) hx hb dX4_odds_18 (by decide) ?_
        refine lv_iand hx hb dX4_odds_19 ?_
        refine lv_topi (fun x_293 ex_293 => ?_)
        have hx_293 : 0 ≤ x_293.toInt ∧ x_293.toInt ≤ 1 := by rw [ex_293]; exact i_mask x_292 1 rfl (by decide)
        refine lv_iconst (v := 1) hx hb dX4_odds_20 (by decide) ?_
        have j_299 : ∀ (v_297 : Int64) (ls : Array Slot) (hl : lv_has ls 6 [(5, .int v_259), (3, .long v_297), (1, .ref t0), (2, .int x)]), W p l e ({ frames := 3, cells := 0, slots := 0, locals := 70 }) s m (([.ref p0, .ref t0, .int x] : List Value).toArray) below meth c s.heap [] 0 0 Q (F0 m 34 ls []) := by
          intro v_297 ls hl
          obtain ⟨x_300, ex_300⟩ : ∃ y : Int32, y = v_259 + Int32.ofInt 1 := ⟨_, rfl⟩
          have hx_300 : x_300.toInt = (v_259.toInt + 1) := by rw [ex_300]; exact i_add rfl (show (Int32.ofInt 1).toInt = 1 from rfl) (by omega)
          refine lv_iinc (v := x_300) (lv' := [(5, .int x_300), (3, .long v_297), (1, .ref t0), (2, .int x)]) hx hb dX4_odds_34 hl (k := 0) rfl (by rw [ex_300]) (by decide) rfl (fun ls hl => ?_)
          refine lv_goto (tgt := 7) hx hb dX4_odds_37 (by decide) ?_
          exact ih_290 x_300 v_297 (by rw [hx_300]; omega) (by omega) ls (lv_sub hl [0, 1, 2, 3] rfl)
        refine lv_icmp_ne (tgt := 34) hx hb dX4_odds_21 (by decide) (fun c_301 => ?_) (fun c_301 => ?_)
        · have c_301i := i_ne (x := x_293.toInt) (y := 1) rfl rfl c_301
          exact j_299 v_260  ls (lv_sub hl [0, 1, 2, 3] rfl)
        · have c_301i := i_eq (x := x_293.toInt) (y := 1) rfl rfl c_301
          refine lv_lload_n hx hb dX4_odds_24 rfl (lv_at hl 1 rfl) ?_
          refine lv_aload_n hx hb dX4_odds_25 rfl (lv_at hl 2 rfl) ?_
          refine lv_iload hx hb dX4_odds_26 (lv_at hl 0 rfl) ?_
          refine lv_lload_n hx hb dX4_odds_28 rfl (lv_at hl 1 rfl) ?_
          refine pcl (va_runS (As := [.ref t0, .int v_259, .long v_260]) (rest := [.long v_260]) ⟨hx, hb, hml, hown, hts⟩ (w_muted l D K t0 v_259 v_260 t1 k_1 t2 k_3 n k_5 k_6 k_7 k_8 ho f1 f2 s.heap.size (by first | omega | decide)) (va_cwS 3 hts gX4_odds_X4_muted rfl rfl rfl (by decide +kernel) ⟨Nat.le_of_ble_eq_true rfl, Nat.le_of_ble_eq_true rfl⟩) (mkS hK hN (hP.sub [1, 2, 3] rfl) (hD.sub [1, 2, 3] (by decide) rfl)) rfl rfl hl.1 rfl (lv_room (Nat.le_of_ble_eq_true rfl)) dX4_odds_29 ⟨Nat.le_of_ble_eq_true rfl, Nat.le_of_ble_eq_true rfl⟩) (fun r_302 hw => ?_)
          refine lv_lsub hx hb dX4_odds_32 ?_
          refine lv_topl (fun x_303 ex_303 => ?_)
          refine lv_lstore_n (lv' := [(3, .long x_303), (5, .int v_259), (1, .ref t0), (2, .int x)]) hx hb dX4_odds_33 rfl hl (by decide) rfl (fun ls hl => ?_)
          exact j_299 x_303  ls (lv_sub hl [1, 0, 2, 3] rfl)
  exact lp_289 ((8 - (0 : Int32).toInt : Int).toNat + 1) 0 1000000000000 (by decide) (Nat.lt_succ_self _) ls (lv_sub hl [0, 1, 3, 4] rfl)
