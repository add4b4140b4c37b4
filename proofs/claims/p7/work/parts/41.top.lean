theorem dX11_settle_0 : decode cX11_settle 0 = .ok (.iload_n 2, 1) := by decide +kernel
theorem dX11_settle_1 : decode cX11_settle 1 = .ok (.ifCond .ge 9, 3) := by decide +kernel
theorem dX11_settle_10 : decode cX11_settle 10 = .ok (.aload_n 0, 1) := by decide +kernel
theorem dX11_settle_11 : decode cX11_settle 11 = .ok (.getfield 61, 3) := by decide +kernel
theorem dX11_settle_14 : decode cX11_settle 14 = .ok (.iload_n 1, 1) := by decide +kernel
theorem dX11_settle_15 : decode cX11_settle 15 = .ok (.invokevirtual 300, 3) := by decide +kernel
theorem dX11_settle_18 : decode cX11_settle 18 = .ok (.aload_n 0, 1) := by decide +kernel
theorem dX11_settle_19 : decode cX11_settle 19 = .ok (.iload_n 2, 1) := by decide +kernel
theorem dX11_settle_20 : decode cX11_settle 20 = .ok (.invokevirtual 118, 3) := by decide +kernel
theorem dX11_settle_23 : decode cX11_settle 23 = .ok (.ireturn, 1) := by decide +kernel
theorem dX11_settle_4 : decode cX11_settle 4 = .ok (.aload_n 0, 1) := by decide +kernel
theorem dX11_settle_5 : decode cX11_settle 5 = .ok (.iload_n 2, 1) := by decide +kernel
theorem dX11_settle_6 : decode cX11_settle 6 = .ok (.invokevirtual 101, 3) := by decide +kernel
theorem dX11_settle_9 : decode cX11_settle 9 = .ok (.ireturn, 1) := by decide +kernel
theorem dX11_house_0 : decode cX11_house 0 = .ok (.iload_n 1, 1) := by decide +kernel
theorem dX11_house_1 : decode cX11_house 1 = .ok (.iconst 0, 1) := by decide +kernel
theorem dX11_house_2 : decode cX11_house 2 = .ok (.bipush 6, 2) := by decide +kernel
theorem dX11_house_4 : decode cX11_house 4 = .ok (.invokestatic 97, 3) := by decide +kernel
theorem dX11_house_7 : decode cX11_house 7 = .ok (.ifCond .eq 16, 3) := by decide +kernel
theorem dX11_house_10 : decode cX11_house 10 = .ok (.iload_n 2, 1) := by decide +kernel
theorem dX11_house_11 : decode cX11_house 11 = .ok (.iconst 0, 1) := by decide +kernel
theorem dX11_house_12 : decode cX11_house 12 = .ok (.iconst 3, 1) := by decide +kernel
theorem dX11_house_13 : decode cX11_house 13 = .ok (.invokestatic 97, 3) := by decide +kernel
theorem dX11_house_16 : decode cX11_house 16 = .ok (.ifCond .eq 7, 3) := by decide +kernel
theorem dX11_house_19 : decode cX11_house 19 = .ok (.iconst 1, 1) := by decide +kernel
theorem dX11_house_20 : decode cX11_house 20 = .ok (.goto 4, 3) := by decide +kernel
theorem dX11_house_24 : decode cX11_house 24 = .ok (.istore 6, 2) := by decide +kernel
theorem dX11_house_26 : decode cX11_house 26 = .ok (.iload 4, 2) := by decide +kernel
theorem dX11_house_28 : decode cX11_house 28 = .ok (.iconst 0, 1) := by decide +kernel
theorem dX11_house_29 : decode cX11_house 29 = .ok (.bipush 7, 2) := by decide +kernel
theorem dX11_house_31 : decode cX11_house 31 = .ok (.invokestatic 97, 3) := by decide +kernel
theorem dX11_house_34 : decode cX11_house 34 = .ok (.ifCond .eq 18, 3) := by decide +kernel
theorem dX11_house_37 : decode cX11_house 37 = .ok (.iload 5, 2) := by decide +kernel
theorem dX11_house_39 : decode cX11_house 39 = .ok (.iconst 0, 1) := by decide +kernel
theorem dX11_house_40 : decode cX11_house 40 = .ok (.bipush 7, 2) := by decide +kernel
theorem dX11_house_42 : decode cX11_house 42 = .ok (.invokestatic 97, 3) := by decide +kernel
theorem dX11_house_45 : decode cX11_house 45 = .ok (.ifCond .eq 7, 3) := by decide +kernel
theorem dX11_house_48 : decode cX11_house 48 = .ok (.iconst 1, 1) := by decide +kernel
theorem dX11_house_49 : decode cX11_house 49 = .ok (.goto 4, 3) := by decide +kernel
theorem dX11_house_53 : decode cX11_house 53 = .ok (.istore 7, 2) := by decide +kernel
theorem dX11_house_55 : decode cX11_house 55 = .ok (.iload 6, 2) := by decide +kernel
theorem dX11_house_57 : decode cX11_house 57 = .ok (.ifCond .eq 19, 3) := by decide +kernel
theorem dX11_house_60 : decode cX11_house 60 = .ok (.iload 7, 2) := by decide +kernel
theorem dX11_house_62 : decode cX11_house 62 = .ok (.ifCond .eq 14, 3) := by decide +kernel
theorem dX11_house_65 : decode cX11_house 65 = .ok (.iload_n 3, 1) := by decide +kernel
theorem dX11_house_66 : decode cX11_house 66 = .ok (.iconst 0, 1) := by decide +kernel
theorem dX11_house_67 : decode cX11_house 67 = .ok (.sipush 999, 3) := by decide +kernel
theorem dX11_house_70 : decode cX11_house 70 = .ok (.invokestatic 97, 3) := by decide +kernel
theorem dX11_house_73 : decode cX11_house 73 = .ok (.ifCond .ne 9, 3) := by decide +kernel
theorem dX11_house_82 : decode cX11_house 82 = .ok (.aload_n 0, 1) := by decide +kernel
theorem dX11_house_83 : decode cX11_house 83 = .ok (.getfield 10, 3) := by decide +kernel
theorem dX11_house_86 : decode cX11_house 86 = .ok (.iload 4, 2) := by decide +kernel
theorem dX11_house_88 : decode cX11_house 88 = .ok (.invokevirtual 105, 3) := by decide +kernel
theorem dX11_house_91 : decode cX11_house 91 = .ok (.iconst (-1), 1) := by decide +kernel
theorem dX11_house_92 : decode cX11_house 92 = .ok (.if_icmp .eq 10, 3) := by decide +kernel
theorem dX11_house_102 : decode cX11_house 102 = .ok (.aload_n 0, 1) := by decide +kernel
theorem dX11_house_103 : decode cX11_house 103 = .ok (.getfield 10, 3) := by decide +kernel
theorem dX11_house_106 : decode cX11_house 106 = .ok (.getfield 108, 3) := by decide +kernel
theorem dX11_house_109 : decode cX11_house 109 = .ok (.bipush 8, 2) := by decide +kernel
theorem dX11_house_111 : decode cX11_house 111 = .ok (.if_icmp .lt 10, 3) := by decide +kernel
theorem dX11_house_121 : decode cX11_house 121 = .ok (.aload_n 0, 1) := by decide +kernel
theorem dX11_house_122 : decode cX11_house 122 = .ok (.getfield 61, 3) := by decide +kernel
theorem dX11_house_125 : decode cX11_house 125 = .ok (.invokevirtual 111, 3) := by decide +kernel
theorem dX11_house_128 : decode cX11_house 128 = .ok (.aload_n 0, 1) := by decide +kernel
theorem dX11_house_129 : decode cX11_house 129 = .ok (.aload_n 0, 1) := by decide +kernel
theorem dX11_house_130 : decode cX11_house 130 = .ok (.getfield 10, 3) := by decide +kernel
theorem dX11_house_133 : decode cX11_house 133 = .ok (.iload_n 1, 1) := by decide +kernel
theorem dX11_house_134 : decode cX11_house 134 = .ok (.iload_n 2, 1) := by decide +kernel
theorem dX11_house_135 : decode cX11_house 135 = .ok (.iload_n 3, 1) := by decide +kernel
theorem dX11_house_136 : decode cX11_house 136 = .ok (.iload 4, 2) := by decide +kernel
theorem dX11_house_138 : decode cX11_house 138 = .ok (.iload 5, 2) := by decide +kernel
theorem dX11_house_140 : decode cX11_house 140 = .ok (.invokevirtual 114, 3) := by decide +kernel
theorem dX11_house_143 : decode cX11_house 143 = .ok (.invokevirtual 118, 3) := by decide +kernel
theorem dX11_house_146 : decode cX11_house 146 = .ok (.ireturn, 1) := by decide +kernel
theorem dX11_house_114 : decode cX11_house 114 = .ok (.aload_n 0, 1) := by decide +kernel
theorem dX11_house_115 : decode cX11_house 115 = .ok (.bipush (-5), 2) := by decide +kernel
theorem dX11_house_117 : decode cX11_house 117 = .ok (.invokevirtual 101, 3) := by decide +kernel
theorem dX11_house_120 : decode cX11_house 120 = .ok (.ireturn, 1) := by decide +kernel
theorem dX11_house_95 : decode cX11_house 95 = .ok (.aload_n 0, 1) := by decide +kernel
theorem dX11_house_96 : decode cX11_house 96 = .ok (.bipush (-3), 2) := by decide +kernel
theorem dX11_house_98 : decode cX11_house 98 = .ok (.invokevirtual 101, 3) := by decide +kernel
theorem dX11_house_101 : decode cX11_house 101 = .ok (.ireturn, 1) := by decide +kernel
theorem dX11_house_23 : decode cX11_house 23 = .ok (.iconst 0, 1) := by decide +kernel
theorem dX11_house_52 : decode cX11_house 52 = .ok (.iconst 0, 1) := by decide +kernel
theorem dX11_house_76 : decode cX11_house 76 = .ok (.aload_n 0, 1) := by decide +kernel
theorem dX11_house_77 : decode cX11_house 77 = .ok (.iconst (-1), 1) := by decide +kernel
theorem dX11_house_78 : decode cX11_house 78 = .ok (.invokevirtual 101, 3) := by decide +kernel
theorem dX11_house_81 : decode cX11_house 81 = .ok (.ireturn, 1) := by decide +kernel
theorem dX11_of_0 : decode cX11_of 0 = .ok (.aload_n 0, 1) := by decide +kernel
theorem dX11_of_1 : decode cX11_of 1 = .ok (.getfield 10, 3) := by decide +kernel
theorem dX11_of_4 : decode cX11_of 4 = .ok (.iload_n 1, 1) := by decide +kernel
theorem dX11_of_5 : decode cX11_of 5 = .ok (.invokevirtual 121, 3) := by decide +kernel
theorem dX11_of_8 : decode cX11_of 8 = .ok (.ifCond .ne 5, 3) := by decide +kernel
theorem dX11_of_13 : decode cX11_of 13 = .ok (.iload_n 2, 1) := by decide +kernel
theorem dX11_of_14 : decode cX11_of 14 = .ok (.iconst 0, 1) := by decide +kernel
theorem dX11_of_15 : decode cX11_of 15 = .ok (.bipush 6, 2) := by decide +kernel
theorem dX11_of_17 : decode cX11_of 17 = .ok (.invokestatic 97, 3) := by decide +kernel
theorem dX11_of_20 : decode cX11_of 20 = .ok (.ifCond .eq 13, 3) := by decide +kernel
theorem dX11_of_23 : decode cX11_of 23 = .ok (.aload_n 0, 1) := by decide +kernel
theorem dX11_of_24 : decode cX11_of 24 = .ok (.getfield 10, 3) := by decide +kernel
theorem dX11_of_27 : decode cX11_of 27 = .ok (.iload_n 1, 1) := by decide +kernel
theorem dX11_of_28 : decode cX11_of 28 = .ok (.iload_n 2, 1) := by decide +kernel
theorem dX11_of_29 : decode cX11_of 29 = .ok (.invokevirtual 125, 3) := by decide +kernel
theorem dX11_of_32 : decode cX11_of 32 = .ok (.ireturn, 1) := by decide +kernel
theorem dX11_of_33 : decode cX11_of 33 = .ok (.iload_n 2, 1) := by decide +kernel
theorem dX11_of_34 : decode cX11_of 34 = .ok (.bipush 7, 2) := by decide +kernel
theorem dX11_of_36 : decode cX11_of 36 = .ok (.if_icmp .ne 20, 3) := by decide +kernel
theorem dX11_of_56 : decode cX11_of 56 = .ok (.aload_n 0, 1) := by decide +kernel
theorem dX11_of_57 : decode cX11_of 57 = .ok (.getfield 57, 3) := by decide +kernel
theorem dX11_of_60 : decode cX11_of 60 = .ok (.aload_n 0, 1) := by decide +kernel
theorem dX11_of_61 : decode cX11_of 61 = .ok (.getfield 10, 3) := by decide +kernel
theorem dX11_of_64 : decode cX11_of 64 = .ok (.iload_n 1, 1) := by decide +kernel
theorem dX11_of_65 : decode cX11_of 65 = .ok (.aload_n 0, 1) := by decide +kernel
theorem dX11_of_66 : decode cX11_of 66 = .ok (.getfield 10, 3) := by decide +kernel
theorem dX11_of_69 : decode cX11_of 69 = .ok (.iload_n 1, 1) := by decide +kernel
theorem dX11_of_70 : decode cX11_of 70 = .ok (.iconst 5, 1) := by decide +kernel
theorem dX11_of_71 : decode cX11_of 71 = .ok (.invokevirtual 125, 3) := by decide +kernel
theorem dX11_of_74 : decode cX11_of 74 = .ok (.iconst 0, 1) := by decide +kernel
theorem dX11_of_75 : decode cX11_of 75 = .ok (.invokevirtual 132, 3) := by decide +kernel
theorem dX11_of_78 : decode cX11_of 78 = .ok (.iload_n 2, 1) := by decide +kernel
theorem dX11_of_79 : decode cX11_of 79 = .ok (.tableswitch 73 8 10 #[25, 41, 57], 25) := by decide +kernel
theorem dX11_of_104 : decode cX11_of 104 = .ok (.aload_n 0, 1) := by decide +kernel
theorem dX11_of_105 : decode cX11_of 105 = .ok (.getfield 57, 3) := by decide +kernel
theorem dX11_of_108 : decode cX11_of 108 = .ok (.aload_n 0, 1) := by decide +kernel
theorem dX11_of_109 : decode cX11_of 109 = .ok (.getfield 10, 3) := by decide +kernel
theorem dX11_of_112 : decode cX11_of 112 = .ok (.invokevirtual 138, 3) := by decide +kernel
theorem dX11_of_115 : decode cX11_of 115 = .ok (.iconst 0, 1) := by decide +kernel
theorem dX11_of_116 : decode cX11_of 116 = .ok (.invokevirtual 142, 3) := by decide +kernel
theorem dX11_of_119 : decode cX11_of 119 = .ok (.ireturn, 1) := by decide +kernel
theorem dX11_of_120 : decode cX11_of 120 = .ok (.aload_n 0, 1) := by decide +kernel
theorem dX11_of_121 : decode cX11_of 121 = .ok (.getfield 57, 3) := by decide +kernel
theorem dX11_of_124 : decode cX11_of 124 = .ok (.aload_n 0, 1) := by decide +kernel
theorem dX11_of_125 : decode cX11_of 125 = .ok (.getfield 10, 3) := by decide +kernel
theorem dX11_of_128 : decode cX11_of 128 = .ok (.invokevirtual 138, 3) := by decide +kernel
theorem dX11_of_131 : decode cX11_of 131 = .ok (.iconst 1, 1) := by decide +kernel
theorem dX11_of_132 : decode cX11_of 132 = .ok (.invokevirtual 142, 3) := by decide +kernel
theorem dX11_of_135 : decode cX11_of 135 = .ok (.ireturn, 1) := by decide +kernel
theorem dX11_of_136 : decode cX11_of 136 = .ok (.aload_n 0, 1) := by decide +kernel
theorem dX11_of_137 : decode cX11_of 137 = .ok (.getfield 57, 3) := by decide +kernel
theorem dX11_of_140 : decode cX11_of 140 = .ok (.aload_n 0, 1) := by decide +kernel
theorem dX11_of_141 : decode cX11_of 141 = .ok (.getfield 10, 3) := by decide +kernel
theorem dX11_of_144 : decode cX11_of 144 = .ok (.invokevirtual 138, 3) := by decide +kernel
theorem dX11_of_147 : decode cX11_of 147 = .ok (.iconst 3, 1) := by decide +kernel
theorem dX11_of_148 : decode cX11_of 148 = .ok (.invokevirtual 142, 3) := by decide +kernel
theorem dX11_of_151 : decode cX11_of 151 = .ok (.ireturn, 1) := by decide +kernel
theorem dX11_of_152 : decode cX11_of 152 = .ok (.iconst (-1), 1) := by decide +kernel
theorem dX11_of_153 : decode cX11_of 153 = .ok (.ireturn, 1) := by decide +kernel
theorem dX11_of_39 : decode cX11_of 39 = .ok (.aload_n 0, 1) := by decide +kernel
theorem dX11_of_40 : decode cX11_of 40 = .ok (.getfield 10, 3) := by decide +kernel
theorem dX11_of_43 : decode cX11_of 43 = .ok (.iload_n 1, 1) := by decide +kernel
theorem dX11_of_44 : decode cX11_of 44 = .ok (.invokevirtual 129, 3) := by decide +kernel
theorem dX11_of_47 : decode cX11_of 47 = .ok (.ifCond .eq 7, 3) := by decide +kernel
theorem dX11_of_54 : decode cX11_of 54 = .ok (.iconst 0, 1) := by decide +kernel
theorem dX11_of_55 : decode cX11_of 55 = .ok (.ireturn, 1) := by decide +kernel
theorem dX11_of_50 : decode cX11_of 50 = .ok (.iconst 1, 1) := by decide +kernel
theorem dX11_of_51 : decode cX11_of 51 = .ok (.goto 4, 3) := by decide +kernel
theorem dX11_of_11 : decode cX11_of 11 = .ok (.iconst (-1), 1) := by decide +kernel
theorem dX11_of_12 : decode cX11_of 12 = .ok (.ireturn, 1) := by decide +kernel
theorem dX11_score_0 : decode cX11_score 0 = .ok (.iload_n 1, 1) := by decide +kernel
theorem dX11_score_1 : decode cX11_score 1 = .ok (.iconst 0, 1) := by decide +kernel
theorem dX11_score_2 : decode cX11_score 2 = .ok (.bipush 23, 2) := by decide +kernel
theorem dX11_score_4 : decode cX11_score 4 = .ok (.invokestatic 97, 3) := by decide +kernel
theorem dX11_score_7 : decode cX11_score 7 = .ok (.ifCond .eq 13, 3) := by decide +kernel
theorem dX11_score_10 : decode cX11_score 10 = .ok (.iload_n 2, 1) := by decide +kernel
theorem dX11_score_11 : decode cX11_score 11 = .ok (.iconst 0, 1) := by decide +kernel
theorem dX11_score_12 : decode cX11_score 12 = .ok (.bipush 127, 2) := by decide +kernel
theorem dX11_score_14 : decode cX11_score 14 = .ok (.invokestatic 97, 3) := by decide +kernel
theorem dX11_score_17 : decode cX11_score 17 = .ok (.ifCond .ne 9, 3) := by decide +kernel
theorem dX11_score_26 : decode cX11_score 26 = .ok (.aload_n 0, 1) := by decide +kernel
theorem dX11_score_27 : decode cX11_score 27 = .ok (.getfield 10, 3) := by decide +kernel
theorem dX11_score_30 : decode cX11_score 30 = .ok (.iload_n 1, 1) := by decide +kernel
theorem dX11_score_31 : decode cX11_score 31 = .ok (.invokevirtual 146, 3) := by decide +kernel
theorem dX11_score_34 : decode cX11_score 34 = .ok (.istore_n 3, 1) := by decide +kernel
theorem dX11_score_35 : decode cX11_score 35 = .ok (.aload_n 0, 1) := by decide +kernel
theorem dX11_score_36 : decode cX11_score 36 = .ok (.getfield 10, 3) := by decide +kernel
theorem dX11_score_39 : decode cX11_score 39 = .ok (.getfield 149, 3) := by decide +kernel
theorem dX11_score_42 : decode cX11_score 42 = .ok (.iload_n 1, 1) := by decide +kernel
theorem dX11_score_43 : decode cX11_score 43 = .ok (.iload_n 2, 1) := by decide +kernel
theorem dX11_score_44 : decode cX11_score 44 = .ok (.iastore, 1) := by decide +kernel
theorem dX11_score_45 : decode cX11_score 45 = .ok (.aload_n 0, 1) := by decide +kernel
theorem dX11_score_46 : decode cX11_score 46 = .ok (.iload_n 3, 1) := by decide +kernel
theorem dX11_score_47 : decode cX11_score 47 = .ok (.invokevirtual 118, 3) := by decide +kernel
theorem dX11_score_50 : decode cX11_score 50 = .ok (.ireturn, 1) := by decide +kernel
theorem dX11_score_20 : decode cX11_score 20 = .ok (.aload_n 0, 1) := by decide +kernel
theorem dX11_score_21 : decode cX11_score 21 = .ok (.iconst (-1), 1) := by decide +kernel
theorem dX11_score_22 : decode cX11_score 22 = .ok (.invokevirtual 101, 3) := by decide +kernel
theorem dX11_score_25 : decode cX11_score 25 = .ok (.ireturn, 1) := by decide +kernel
theorem dX11_chord_0 : decode cX11_chord 0 = .ok (.aload_n 0, 1) := by decide +kernel
theorem dX11_chord_1 : decode cX11_chord 1 = .ok (.getfield 10, 3) := by decide +kernel
theorem dX11_chord_4 : decode cX11_chord 4 = .ok (.iload_n 1, 1) := by decide +kernel
theorem dX11_chord_5 : decode cX11_chord 5 = .ok (.invokevirtual 146, 3) := by decide +kernel
theorem dX11_chord_8 : decode cX11_chord 8 = .ok (.ireturn, 1) := by decide +kernel
theorem dX11_terms_0 : decode cX11_terms 0 = .ok (.iload_n 1, 1) := by decide +kernel
theorem dX11_terms_1 : decode cX11_terms 1 = .ok (.iconst 0, 1) := by decide +kernel
theorem dX11_terms_2 : decode cX11_terms 2 = .ok (.iconst 5, 1) := by decide +kernel
theorem dX11_terms_3 : decode cX11_terms 3 = .ok (.invokestatic 97, 3) := by decide +kernel
theorem dX11_terms_6 : decode cX11_terms 6 = .ok (.ifCond .eq 20, 3) := by decide +kernel
theorem dX11_terms_9 : decode cX11_terms 9 = .ok (.iload_n 2, 1) := by decide +kernel
theorem dX11_terms_10 : decode cX11_terms 10 = .ok (.getstatic 152, 3) := by decide +kernel
theorem dX11_terms_13 : decode cX11_terms 13 = .ok (.iload_n 1, 1) := by decide +kernel
theorem dX11_terms_14 : decode cX11_terms 14 = .ok (.iaload, 1) := by decide +kernel
theorem dX11_terms_15 : decode cX11_terms 15 = .ok (.getstatic 155, 3) := by decide +kernel
theorem dX11_terms_18 : decode cX11_terms 18 = .ok (.iload_n 1, 1) := by decide +kernel
theorem dX11_terms_19 : decode cX11_terms 19 = .ok (.iaload, 1) := by decide +kernel
theorem dX11_terms_20 : decode cX11_terms 20 = .ok (.invokestatic 97, 3) := by decide +kernel
theorem dX11_terms_23 : decode cX11_terms 23 = .ok (.ifCond .ne 9, 3) := by decide +kernel
theorem dX11_terms_32 : decode cX11_terms 32 = .ok (.aload_n 0, 1) := by decide +kernel
theorem dX11_terms_33 : decode cX11_terms 33 = .ok (.getfield 10, 3) := by decide +kernel
theorem dX11_terms_36 : decode cX11_terms 36 = .ok (.getfield 158, 3) := by decide +kernel
theorem dX11_terms_39 : decode cX11_terms 39 = .ok (.iload_n 1, 1) := by decide +kernel
theorem dX11_terms_40 : decode cX11_terms 40 = .ok (.iaload, 1) := by decide +kernel
theorem dX11_terms_41 : decode cX11_terms 41 = .ok (.istore_n 3, 1) := by decide +kernel
theorem dX11_terms_42 : decode cX11_terms 42 = .ok (.aload_n 0, 1) := by decide +kernel
theorem dX11_terms_43 : decode cX11_terms 43 = .ok (.getfield 10, 3) := by decide +kernel
theorem dX11_terms_46 : decode cX11_terms 46 = .ok (.getfield 158, 3) := by decide +kernel
theorem dX11_terms_49 : decode cX11_terms 49 = .ok (.iload_n 1, 1) := by decide +kernel
theorem dX11_terms_50 : decode cX11_terms 50 = .ok (.iload_n 2, 1) := by decide +kernel
theorem dX11_terms_51 : decode cX11_terms 51 = .ok (.iastore, 1) := by decide +kernel
theorem dX11_terms_52 : decode cX11_terms 52 = .ok (.aload_n 0, 1) := by decide +kernel
theorem dX11_terms_53 : decode cX11_terms 53 = .ok (.getfield 61, 3) := by decide +kernel
theorem dX11_terms_56 : decode cX11_terms 56 = .ok (.invokevirtual 111, 3) := by decide +kernel
theorem dX11_terms_59 : decode cX11_terms 59 = .ok (.aload_n 0, 1) := by decide +kernel
theorem dX11_terms_60 : decode cX11_terms 60 = .ok (.iload_n 3, 1) := by decide +kernel
theorem dX11_terms_61 : decode cX11_terms 61 = .ok (.invokevirtual 118, 3) := by decide +kernel
theorem dX11_terms_64 : decode cX11_terms 64 = .ok (.ireturn, 1) := by decide +kernel
theorem dX11_terms_26 : decode cX11_terms 26 = .ok (.aload_n 0, 1) := by decide +kernel
theorem dX11_terms_27 : decode cX11_terms 27 = .ok (.iconst (-1), 1) := by decide +kernel
theorem dX11_terms_28 : decode cX11_terms 28 = .ok (.invokevirtual 101, 3) := by decide +kernel
theorem dX11_terms_31 : decode cX11_terms 31 = .ok (.ireturn, 1) := by decide +kernel
theorem dX11_feed_0 : decode cX11_feed 0 = .ok (.aload_n 0, 1) := by decide +kernel
theorem dX11_feed_1 : decode cX11_feed 1 = .ok (.getfield 38, 3) := by decide +kernel
theorem dX11_feed_4 : decode cX11_feed 4 = .ok (.getfield 161, 3) := by decide +kernel
theorem dX11_feed_7 : decode cX11_feed 7 = .ok (.bipush 20, 2) := by decide +kernel
theorem dX11_feed_9 : decode cX11_feed 9 = .ok (.iadd, 1) := by decide +kernel
theorem dX11_feed_10 : decode cX11_feed 10 = .ok (.sipush 400, 3) := by decide +kernel
theorem dX11_feed_13 : decode cX11_feed 13 = .ok (.if_icmp .le 5, 3) := by decide +kernel
theorem dX11_feed_18 : decode cX11_feed 18 = .ok (.aload_n 0, 1) := by decide +kernel
theorem dX11_feed_19 : decode cX11_feed 19 = .ok (.getfield 38, 3) := by decide +kernel
theorem dX11_feed_22 : decode cX11_feed 22 = .ok (.iload_n 1, 1) := by decide +kernel
theorem dX11_feed_23 : decode cX11_feed 23 = .ok (.invokevirtual 166, 3) := by decide +kernel
theorem dX11_feed_26 : decode cX11_feed 26 = .ok (.aload_n 0, 1) := by decide +kernel
theorem dX11_feed_27 : decode cX11_feed 27 = .ok (.getfield 38, 3) := by decide +kernel
theorem dX11_feed_30 : decode cX11_feed 30 = .ok (.iload_n 2, 1) := by decide +kernel
theorem dX11_feed_31 : decode cX11_feed 31 = .ok (.invokevirtual 166, 3) := by decide +kernel
theorem dX11_feed_34 : decode cX11_feed 34 = .ok (.aload_n 0, 1) := by decide +kernel
theorem dX11_feed_35 : decode cX11_feed 35 = .ok (.getfield 38, 3) := by decide +kernel
theorem dX11_feed_38 : decode cX11_feed 38 = .ok (.iload_n 3, 1) := by decide +kernel
theorem dX11_feed_39 : decode cX11_feed 39 = .ok (.invokevirtual 166, 3) := by decide +kernel
theorem dX11_feed_42 : decode cX11_feed 42 = .ok (.aload_n 0, 1) := by decide +kernel
theorem dX11_feed_43 : decode cX11_feed 43 = .ok (.getfield 38, 3) := by decide +kernel
theorem dX11_feed_46 : decode cX11_feed 46 = .ok (.iload 4, 2) := by decide +kernel
theorem dX11_feed_48 : decode cX11_feed 48 = .ok (.invokevirtual 166, 3) := by decide +kernel
theorem dX11_feed_51 : decode cX11_feed 51 = .ok (.aload_n 0, 1) := by decide +kernel
theorem dX11_feed_52 : decode cX11_feed 52 = .ok (.getfield 38, 3) := by decide +kernel
theorem dX11_feed_55 : decode cX11_feed 55 = .ok (.iload 5, 2) := by decide +kernel
theorem dX11_feed_57 : decode cX11_feed 57 = .ok (.invokevirtual 166, 3) := by decide +kernel
theorem dX11_feed_60 : decode cX11_feed 60 = .ok (.aload_n 0, 1) := by decide +kernel
theorem dX11_feed_61 : decode cX11_feed 61 = .ok (.getfield 38, 3) := by decide +kernel
theorem dX11_feed_64 : decode cX11_feed 64 = .ok (.getfield 161, 3) := by decide +kernel
theorem dX11_feed_67 : decode cX11_feed 67 = .ok (.ireturn, 1) := by decide +kernel
theorem dX11_feed_16 : decode cX11_feed 16 = .ok (.iconst (-1), 1) := by decide +kernel
theorem dX11_feed_17 : decode cX11_feed 17 = .ok (.ireturn, 1) := by decide +kernel
theorem dX11_end_0 : decode cX11_end 0 = .ok (.iload_n 1, 1) := by decide +kernel
theorem dX11_end_1 : decode cX11_end 1 = .ok (.iconst 0, 1) := by decide +kernel
theorem dX11_end_2 : decode cX11_end 2 = .ok (.aload_n 0, 1) := by decide +kernel
theorem dX11_end_3 : decode cX11_end 3 = .ok (.getfield 38, 3) := by decide +kernel
theorem dX11_end_6 : decode cX11_end 6 = .ok (.getfield 161, 3) := by decide +kernel
theorem dX11_end_9 : decode cX11_end 9 = .ok (.invokestatic 97, 3) := by decide +kernel
theorem dX11_end_12 : decode cX11_end 12 = .ok (.ifCond .ne 5, 3) := by decide +kernel
theorem dX11_end_17 : decode cX11_end 17 = .ok (.aload_n 0, 1) := by decide +kernel
theorem dX11_end_18 : decode cX11_end 18 = .ok (.getfield 38, 3) := by decide +kernel
theorem dX11_end_21 : decode cX11_end 21 = .ok (.iload_n 1, 1) := by decide +kernel
theorem dX11_end_22 : decode cX11_end 22 = .ok (.putfield 161, 3) := by decide +kernel
theorem dX11_end_25 : decode cX11_end 25 = .ok (.iload_n 1, 1) := by decide +kernel
theorem dX11_end_26 : decode cX11_end 26 = .ok (.ireturn, 1) := by decide +kernel
theorem dX11_end_15 : decode cX11_end 15 = .ok (.iconst (-1), 1) := by decide +kernel
theorem dX11_end_16 : decode cX11_end 16 = .ok (.ireturn, 1) := by decide +kernel
theorem dX11_row_0 : decode cX11_row 0 = .ok (.aload_n 0, 1) := by decide +kernel
theorem dX11_row_1 : decode cX11_row 1 = .ok (.getfield 38, 3) := by decide +kernel
theorem dX11_row_4 : decode cX11_row 4 = .ok (.getfield 161, 3) := by decide +kernel
theorem dX11_row_7 : decode cX11_row 7 = .ok (.ifCond .ne 10, 3) := by decide +kernel
theorem dX11_row_17 : decode cX11_row 17 = .ok (.iconst 0, 1) := by decide +kernel
theorem dX11_row_18 : decode cX11_row 18 = .ok (.istore_n 1, 1) := by decide +kernel
theorem dX11_row_19 : decode cX11_row 19 = .ok (.iconst 0, 1) := by decide +kernel
theorem dX11_row_20 : decode cX11_row 20 = .ok (.istore_n 2, 1) := by decide +kernel
theorem dX11_row_21 : decode cX11_row 21 = .ok (.iload_n 2, 1) := by decide +kernel
theorem dX11_row_22 : decode cX11_row 22 = .ok (.aload_n 0, 1) := by decide +kernel
theorem dX11_row_23 : decode cX11_row 23 = .ok (.getfield 38, 3) := by decide +kernel
theorem dX11_row_26 : decode cX11_row 26 = .ok (.getfield 161, 3) := by decide +kernel
theorem dX11_row_29 : decode cX11_row 29 = .ok (.if_icmp .ge 47, 3) := by decide +kernel
theorem dX11_row_32 : decode cX11_row 32 = .ok (.aload_n 0, 1) := by decide +kernel
theorem dX11_row_33 : decode cX11_row 33 = .ok (.getfield 38, 3) := by decide +kernel
theorem dX11_row_36 : decode cX11_row 36 = .ok (.iload_n 2, 1) := by decide +kernel
theorem dX11_row_37 : decode cX11_row 37 = .ok (.invokevirtual 170, 3) := by decide +kernel
theorem dX11_row_40 : decode cX11_row 40 = .ok (.istore_n 3, 1) := by decide +kernel
theorem dX11_row_41 : decode cX11_row 41 = .ok (.iload_n 2, 1) := by decide +kernel
theorem dX11_row_42 : decode cX11_row 42 = .ok (.bipush 24, 2) := by decide +kernel
theorem dX11_row_44 : decode cX11_row 44 = .ok (.if_icmp .ge 26, 3) := by decide +kernel
theorem dX11_row_47 : decode cX11_row 47 = .ok (.iload_n 3, 1) := by decide +kernel
theorem dX11_row_48 : decode cX11_row 48 = .ok (.iconst 0, 1) := by decide +kernel
theorem dX11_row_49 : decode cX11_row 49 = .ok (.bipush 127, 2) := by decide +kernel
theorem dX11_row_51 : decode cX11_row 51 = .ok (.invokestatic 97, 3) := by decide +kernel
theorem dX11_row_54 : decode cX11_row 54 = .ok (.ifCond .eq 16, 3) := by decide +kernel
theorem dX11_row_57 : decode cX11_row 57 = .ok (.aload_n 0, 1) := by decide +kernel
theorem dX11_row_58 : decode cX11_row 58 = .ok (.getfield 10, 3) := by decide +kernel
theorem dX11_row_61 : decode cX11_row 61 = .ok (.getfield 149, 3) := by decide +kernel
theorem dX11_row_64 : decode cX11_row 64 = .ok (.iload_n 2, 1) := by decide +kernel
theorem dX11_row_65 : decode cX11_row 65 = .ok (.iload_n 3, 1) := by decide +kernel
theorem dX11_row_66 : decode cX11_row 66 = .ok (.iastore, 1) := by decide +kernel
theorem dX11_row_67 : decode cX11_row 67 = .ok (.iinc 1 1, 3) := by decide +kernel
theorem dX11_row_70 : decode cX11_row 70 = .ok (.iinc 2 1, 3) := by decide +kernel
theorem dX11_row_73 : decode cX11_row 73 = .ok (.goto (-52), 3) := by decide +kernel
theorem dX11_row_76 : decode cX11_row 76 = .ok (.aload_n 0, 1) := by decide +kernel
theorem dX11_row_77 : decode cX11_row 77 = .ok (.aload_n 0, 1) := by decide +kernel
theorem dX11_row_78 : decode cX11_row 78 = .ok (.getfield 38, 3) := by decide +kernel
theorem dX11_row_81 : decode cX11_row 81 = .ok (.getfield 161, 3) := by decide +kernel
theorem dX11_row_84 : decode cX11_row 84 = .ok (.iload_n 1, 1) := by decide +kernel
theorem dX11_row_85 : decode cX11_row 85 = .ok (.isub, 1) := by decide +kernel
theorem dX11_row_86 : decode cX11_row 86 = .ok (.putfield 87, 3) := by decide +kernel
theorem dX11_row_89 : decode cX11_row 89 = .ok (.aload_n 0, 1) := by decide +kernel
theorem dX11_row_90 : decode cX11_row 90 = .ok (.getfield 38, 3) := by decide +kernel
theorem dX11_row_93 : decode cX11_row 93 = .ok (.iconst 0, 1) := by decide +kernel
theorem dX11_row_94 : decode cX11_row 94 = .ok (.putfield 161, 3) := by decide +kernel
theorem dX11_row_97 : decode cX11_row 97 = .ok (.aload_n 0, 1) := by decide +kernel
theorem dX11_row_98 : decode cX11_row 98 = .ok (.iload_n 1, 1) := by decide +kernel
theorem dX11_row_99 : decode cX11_row 99 = .ok (.invokevirtual 118, 3) := by decide +kernel
theorem dX11_row_102 : decode cX11_row 102 = .ok (.ireturn, 1) := by decide +kernel
theorem dX11_row_10 : decode cX11_row 10 = .ok (.aload_n 0, 1) := by decide +kernel
theorem dX11_row_11 : decode cX11_row 11 = .ok (.bipush (-6), 2) := by decide +kernel
theorem dX11_row_13 : decode cX11_row 13 = .ok (.invokevirtual 101, 3) := by decide +kernel
theorem dX11_row_16 : decode cX11_row 16 = .ok (.ireturn, 1) := by decide +kernel
theorem dX11_ash_0 : decode cX11_ash 0 = .ok (.aload_n 0, 1) := by decide +kernel
theorem dX11_ash_1 : decode cX11_ash 1 = .ok (.getfield 87, 3) := by decide +kernel
theorem dX11_ash_4 : decode cX11_ash 4 = .ok (.ireturn, 1) := by decide +kernel
set_option maxRecDepth 20000 in
theorem ggX11_settle_X2_keep : GoodIn wsX11_settle wsX2_keep := goodIn_r _ [15, 16, 17, 18, 19, 20, 21, 22, 44, 45, 46] (by decide +kernel) (by decide +kernel)
set_option maxRecDepth 20000 in
theorem gX11_settle_X2_keep_n300 : GoodIn wsX11_settle (wsX2_keep) := ggX11_settle_X2_keep
set_option maxRecDepth 20000 in
theorem ggX11_settle_X11_accept : GoodIn wsX11_settle wsX11_accept := goodIn_r _ [26, 8, 27, 28, 29, 30, 31, 32, 33, 34, 35, 36, 37, 38, 39, 40, 41, 42, 43] (by decide +kernel) (by decide +kernel)
set_option maxRecDepth 20000 in
theorem gX11_settle_X11_accept : GoodIn wsX11_settle (wsV RX11 118 RX11 yX11_accept wsX11_accept) := goodIn_app (goodIn_of _ (by decide +kernel)) ggX11_settle_X11_accept
set_option maxRecDepth 20000 in
theorem ggX11_settle_X11_refuse : GoodIn wsX11_settle wsX11_refuse := goodIn_r _ [6, 7, 8, 9, 10, 5, 11, 27, 28, 29, 30, 31, 32, 33, 34, 35, 36, 37, 38, 39, 40, 41, 42, 43] (by decide +kernel) (by decide +kernel)
set_option maxRecDepth 20000 in
theorem gX11_settle_X11_refuse : GoodIn wsX11_settle (wsV RX11 101 RX11 yX11_refuse wsX11_refuse) := goodIn_app (goodIn_of _ (by decide +kernel)) ggX11_settle_X11_refuse
set_option maxRecDepth 20000 in
theorem ggX11_house_X11_refuse : GoodIn wsX11_house wsX11_refuse := goodIn_r _ [10, 11, 12, 3, 4, 5, 6, 39, 40, 41, 42, 43, 44, 45, 46, 47, 48, 49, 50, 51, 52, 53, 54, 55] (by decide +kernel) (by decide +kernel)
set_option maxRecDepth 20000 in
theorem gX11_house_X11_refuse : GoodIn wsX11_house (wsV RX11 101 RX11 yX11_refuse wsX11_refuse) := goodIn_app (goodIn_of _ (by decide +kernel)) ggX11_house_X11_refuse
set_option maxRecDepth 20000 in
theorem ggX11_house_X11_within : GoodIn wsX11_house wsX11_within := goodIn_r _ [6] (by decide +kernel) (by decide +kernel)
set_option maxRecDepth 20000 in
theorem gX11_house_X11_within : GoodIn wsX11_house (va_wsS RX11 97 yX11_within wsX11_within) := goodIn_app (goodIn_of _ (by decide +kernel)) ggX11_house_X11_within
set_option maxRecDepth 20000 in
theorem ggX11_house_X9_dinerOf : GoodIn wsX11_house wsX9_dinerOf := goodIn_r _ [16, 17, 18, 19, 20, 14, 21, 22, 56, 57, 58, 59, 60, 61, 62, 63, 64, 65] (by decide +kernel) (by decide +kernel)
set_option maxRecDepth 20000 in
theorem gX11_house_X9_dinerOf_n105 : GoodIn wsX11_house (wsX9_dinerOf) := ggX11_house_X9_dinerOf
set_option maxRecDepth 20000 in
theorem ggX11_house_X2_clear : GoodIn wsX11_house wsX2_clear := goodIn_r _ [26, 27, 66, 67, 68] (by decide +kernel) (by decide +kernel)
set_option maxRecDepth 20000 in
theorem gX11_house_X2_clear_n111 : GoodIn wsX11_house (wsX2_clear) := ggX11_house_X2_clear
set_option maxRecDepth 20000 in
theorem ggX11_house_X9_build : GoodIn wsX11_house wsX9_build := goodIn_r _ [30, 17, 31, 32, 33, 14, 34, 22, 4, 5, 6, 56, 57, 58, 59, 60, 61, 62, 63, 64, 65] (by decide +kernel) (by decide +kernel)
set_option maxRecDepth 20000 in
theorem gX11_house_X9_build_n114 : GoodIn wsX11_house (wsX9_build) := ggX11_house_X9_build
set_option maxRecDepth 20000 in
theorem ggX11_house_X11_accept : GoodIn wsX11_house wsX11_accept := goodIn_r _ [38, 12, 39, 40, 41, 42, 43, 44, 45, 46, 47, 48, 49, 50, 51, 52, 53, 54, 55] (by decide +kernel) (by decide +kernel)
set_option maxRecDepth 20000 in
theorem gX11_house_X11_accept : GoodIn wsX11_house (wsV RX11 118 RX11 yX11_accept wsX11_accept) := goodIn_app (goodIn_of _ (by decide +kernel)) ggX11_house_X11_accept
set_option maxRecDepth 20000 in
theorem ggX11_of_X9_has : GoodIn wsX11_of wsX9_has := goodIn_r _ [6, 7, 86, 87, 88, 89, 90, 91, 92, 93, 94, 95] (by decide +kernel) (by decide +kernel)
set_option maxRecDepth 20000 in
theorem gX11_of_X9_has_n121 : GoodIn wsX11_of (wsX9_has) := ggX11_of_X9_has
set_option maxRecDepth 20000 in
theorem ggX11_of_X11_within : GoodIn wsX11_of wsX11_within := goodIn_r _ [11] (by decide +kernel) (by decide +kernel)
set_option maxRecDepth 20000 in
theorem gX11_of_X11_within : GoodIn wsX11_of (va_wsS RX11 97 yX11_within wsX11_within) := goodIn_app (goodIn_of _ (by decide +kernel)) ggX11_of_X11_within
set_option maxRecDepth 20000 in
theorem ggX11_of_X9_fact : GoodIn wsX11_of wsX9_fact := goodIn_r _ [14, 15, 86, 87, 88, 89, 90, 91, 92, 93, 94, 95] (by decide +kernel) (by decide +kernel)
set_option maxRecDepth 20000 in
theorem gX11_of_X9_fact_n125 : GoodIn wsX11_of (wsX9_fact) := ggX11_of_X9_fact
set_option maxRecDepth 20000 in
theorem ggX11_of_X0_face : GoodIn wsX11_of wsX0_face := goodIn_r _ [28, 29, 12, 4, 13, 14, 15, 86, 87, 88, 89, 90, 91, 92, 93, 94, 95, 96, 97] (by decide +kernel) (by decide +kernel)
set_option maxRecDepth 20000 in
theorem gX11_of_X0_face_n132 : GoodIn wsX11_of (wsX0_face) := ggX11_of_X0_face
set_option maxRecDepth 20000 in
theorem ggX11_of_X9_lawInForce : GoodIn wsX11_of wsX9_lawInForce := goodIn_r _ [32, 33, 34, 35, 36, 4, 37, 38, 39, 9, 10, 11, 86, 87, 88, 89, 90, 91, 92, 93, 94, 95] (by decide +kernel) (by decide +kernel)
set_option maxRecDepth 20000 in
theorem gX11_of_X9_lawInForce_n138 : GoodIn wsX11_of (wsX9_lawInForce) := ggX11_of_X9_lawInForce
set_option maxRecDepth 100000 in
set_option maxHeartbeats 4000000 in
theorem ggX11_of_X0_told : GoodIn wsX11_of wsX0_told := goodIn_q _ [42, 47, 50, 54, 59, 66] [43, 29, 44, 45, 46, 48, 49, 51, 52, 53, 55, 56, 57, 58, 60, 61, 62, 63, 64, 65, 67, 68, 98, 99, 100, 101, 96, 97, 102, 103] rfl (by decide +kernel) (by decide +kernel)
set_option maxRecDepth 20000 in
theorem gX11_of_X0_told_n142 : GoodIn wsX11_of (wsX0_told) := ggX11_of_X0_told
set_option maxRecDepth 20000 in
theorem ggX11_of_X9_sings : GoodIn wsX11_of wsX9_sings := goodIn_r _ [18, 19, 12, 13, 4, 14, 15, 20, 21, 22, 23, 24, 86, 87, 88, 89, 90, 91, 92, 93, 94, 95] (by decide +kernel) (by decide +kernel)
set_option maxRecDepth 20000 in
theorem gX11_of_X9_sings_n129 : GoodIn wsX11_of (wsX9_sings) := ggX11_of_X9_sings
set_option maxRecDepth 20000 in
theorem ggX11_score_X11_refuse : GoodIn wsX11_score wsX11_refuse := goodIn_r _ [9, 10, 11, 2, 3, 4, 5, 21, 22, 23, 24, 25, 26, 27, 28, 29, 30, 31, 32, 33, 34, 35, 36, 37] (by decide +kernel) (by decide +kernel)
set_option maxRecDepth 20000 in
theorem gX11_score_X11_refuse : GoodIn wsX11_score (wsV RX11 101 RX11 yX11_refuse wsX11_refuse) := goodIn_app (goodIn_of _ (by decide +kernel)) ggX11_score_X11_refuse
set_option maxRecDepth 20000 in
theorem ggX11_score_X11_within : GoodIn wsX11_score wsX11_within := goodIn_r _ [5] (by decide +kernel) (by decide +kernel)
set_option maxRecDepth 20000 in
theorem gX11_score_X11_within : GoodIn wsX11_score (va_wsS RX11 97 yX11_within wsX11_within) := goodIn_app (goodIn_of _ (by decide +kernel)) ggX11_score_X11_within
set_option maxRecDepth 20000 in
theorem ggX11_score_X9_chordAt : GoodIn wsX11_score wsX9_chordAt := goodIn_r _ [15, 16, 38, 39, 40, 41, 42, 43, 44, 45, 46, 47] (by decide +kernel) (by decide +kernel)
set_option maxRecDepth 20000 in
theorem gX11_score_X9_chordAt_n146 : GoodIn wsX11_score (wsX9_chordAt) := ggX11_score_X9_chordAt
set_option maxRecDepth 20000 in
theorem ggX11_score_X11_accept : GoodIn wsX11_score wsX11_accept := goodIn_r _ [20, 11, 21, 22, 23, 24, 25, 26, 27, 28, 29, 30, 31, 32, 33, 34, 35, 36, 37] (by decide +kernel) (by decide +kernel)
set_option maxRecDepth 20000 in
theorem gX11_score_X11_accept : GoodIn wsX11_score (wsV RX11 118 RX11 yX11_accept wsX11_accept) := goodIn_app (goodIn_of _ (by decide +kernel)) ggX11_score_X11_accept
set_option maxRecDepth 20000 in
theorem ggX11_chord_X9_chordAt : GoodIn wsX11_chord wsX9_chordAt := goodIn_r _ [5, 6, 24, 25, 26, 27, 28, 29, 30, 31, 32, 33] (by decide +kernel) (by decide +kernel)
set_option maxRecDepth 20000 in
theorem gX11_chord_X9_chordAt_n146 : GoodIn wsX11_chord (wsX9_chordAt) := ggX11_chord_X9_chordAt
set_option maxRecDepth 20000 in
theorem ggX11_terms_X11_refuse : GoodIn wsX11_terms wsX11_refuse := goodIn_r _ [12, 13, 14, 5, 6, 7, 8, 24, 25, 26, 27, 28, 29, 30, 31, 32, 33, 34, 35, 36, 37, 38, 39, 40] (by decide +kernel) (by decide +kernel)
set_option maxRecDepth 20000 in
theorem gX11_terms_X11_refuse : GoodIn wsX11_terms (wsV RX11 101 RX11 yX11_refuse wsX11_refuse) := goodIn_app (goodIn_of _ (by decide +kernel)) ggX11_terms_X11_refuse
set_option maxRecDepth 20000 in
theorem ggX11_terms_X11_within : GoodIn wsX11_terms wsX11_within := goodIn_r _ [8] (by decide +kernel) (by decide +kernel)
set_option maxRecDepth 20000 in
theorem gX11_terms_X11_within : GoodIn wsX11_terms (va_wsS RX11 97 yX11_within wsX11_within) := goodIn_app (goodIn_of _ (by decide +kernel)) ggX11_terms_X11_within
set_option maxRecDepth 20000 in
theorem ggX11_terms_X2_clear : GoodIn wsX11_terms wsX2_clear := goodIn_r _ [18, 19, 51, 52, 53] (by decide +kernel) (by decide +kernel)
set_option maxRecDepth 20000 in
theorem gX11_terms_X2_clear_n111 : GoodIn wsX11_terms (wsX2_clear) := ggX11_terms_X2_clear
set_option maxRecDepth 20000 in
theorem ggX11_terms_X11_accept : GoodIn wsX11_terms wsX11_accept := goodIn_r _ [23, 14, 24, 25, 26, 27, 28, 29, 30, 31, 32, 33, 34, 35, 36, 37, 38, 39, 40] (by decide +kernel) (by decide +kernel)
set_option maxRecDepth 20000 in
theorem gX11_terms_X11_accept : GoodIn wsX11_terms (wsV RX11 118 RX11 yX11_accept wsX11_accept) := goodIn_app (goodIn_of _ (by decide +kernel)) ggX11_terms_X11_accept
set_option maxRecDepth 20000 in
theorem ggX11_feed_X8_take : GoodIn wsX11_feed wsX8_take := goodIn_r _ [5, 6, 7, 25, 26, 27, 28, 29, 30] (by decide +kernel) (by decide +kernel)
set_option maxRecDepth 20000 in
theorem gX11_feed_X8_take_n166 : GoodIn wsX11_feed (wsX8_take) := ggX11_feed_X8_take
set_option maxRecDepth 20000 in
theorem ggX11_end_X11_within : GoodIn wsX11_end wsX11_within := goodIn_r _ [5] (by decide +kernel) (by decide +kernel)
set_option maxRecDepth 20000 in
theorem gX11_end_X11_within : GoodIn wsX11_end (va_wsS RX11 97 yX11_within wsX11_within) := goodIn_app (goodIn_of _ (by decide +kernel)) ggX11_end_X11_within
set_option maxRecDepth 20000 in
theorem ggX11_row_X11_accept : GoodIn wsX11_row wsX11_accept := goodIn_r _ [23, 10, 24, 25, 26, 27, 28, 29, 30, 31, 32, 33, 34, 35, 36, 37, 38, 39, 40] (by decide +kernel) (by decide +kernel)
set_option maxRecDepth 20000 in
theorem gX11_row_X11_accept : GoodIn wsX11_row (wsV RX11 118 RX11 yX11_accept wsX11_accept) := goodIn_app (goodIn_of _ (by decide +kernel)) ggX11_row_X11_accept
set_option maxRecDepth 20000 in
theorem ggX11_row_X8_byteAt : GoodIn wsX11_row wsX8_byteAt := goodIn_r _ [17, 18, 19, 41, 42, 43, 44, 45, 46] (by decide +kernel) (by decide +kernel)
set_option maxRecDepth 20000 in
theorem gX11_row_X8_byteAt_n170 : GoodIn wsX11_row (wsX8_byteAt) := ggX11_row_X8_byteAt
set_option maxRecDepth 20000 in
theorem ggX11_row_X11_within : GoodIn wsX11_row wsX11_within := goodIn_r _ [13] (by decide +kernel) (by decide +kernel)
set_option maxRecDepth 20000 in
theorem gX11_row_X11_within : GoodIn wsX11_row (va_wsS RX11 97 yX11_within wsX11_within) := goodIn_app (goodIn_of _ (by decide +kernel)) ggX11_row_X11_within
set_option maxRecDepth 20000 in
theorem ggX11_row_X11_refuse : GoodIn wsX11_row wsX11_refuse := goodIn_r _ [8, 9, 10, 11, 12, 7, 13, 24, 25, 26, 27, 28, 29, 30, 31, 32, 33, 34, 35, 36, 37, 38, 39, 40] (by decide +kernel) (by decide +kernel)
set_option maxRecDepth 20000 in
theorem gX11_row_X11_refuse : GoodIn wsX11_row (wsV RX11 101 RX11 yX11_refuse wsX11_refuse) := goodIn_app (goodIn_of _ (by decide +kernel)) ggX11_row_X11_refuse
set_option maxHeartbeats 4000000 in
set_option maxRecDepth 100000 in
theorem w_accept (l : Launch) (D : va_G) (K : Nat → ClassId) (o0 : Nat) (x : Int32) (o_0 : Value) (o_1 : Value) (o_2 : Value) (o_3 : Value) (o_4 : Value) (o_5 : Value) (o_6 : Value) (o_7 : Value) (o_8 : Value) (o_9 : Value) (o_10 : Value) (o_11 : Value) (o_12 : Value) (rb : Int32) (o_14 : Value) (o_15 : Value) (o_16 : Value) (sz : Nat) : Met l yX11_accept wsX11_accept ({ frames := 0, cells := 0, slots := 0, locals := 0 }) (va_Pc [.ref o0, .int x] (Pre D K [(o0, .inr (11, [o_0, o_1, o_2, o_3, o_4, o_5, o_6, o_7, o_8, o_9, o_10, o_11, o_12, .int rb, o_14, o_15, o_16]))] sz)) (va_Qi (S := Su) (fun (r : Int32) (u : Su) => ((r = x)) ∧ True) (fun u t => Wd D (va_A [(o0, .inr (11, [o_0, o_1, o_2, o_3, o_4, o_5, o_6, o_7, o_8, o_9, o_10, o_11, o_12, .int rb, o_14, o_15, o_16]))] sz) ((fun u => [(o0, .inr (11, [o_0, o_1, o_2, o_3, o_4, o_5, o_6, o_7, o_8, o_9, o_10, o_11, o_12, .int 0, o_14, o_15, o_16]))]) u) t) (va_A [(o0, .inr (11, [o_0, o_1, o_2, o_3, o_4, o_5, o_6, o_7, o_8, o_9, o_10, o_11, o_12, .int rb, o_14, o_15, o_16]))] sz)) 0 0 (va_A [(o0, .inr (11, [o_0, o_1, o_2, o_3, o_4, o_5, o_6, o_7, o_8, o_9, o_10, o_11, o_12, .int rb, o_14, o_15, o_16]))] sz) := by
  refine Met.ofW (cc := cX11_accept) (maxL := 2) (ret := (some .int)) (by decide) rfl ?_
  intro p e s m args below meth c s₁ B hml hv
  obtain ⟨rfl, hsz, hP, hK, hD0, hN⟩ := hv
  have hx := B.exec
  have hb := B.bytes
  have hr := B.returns
  have hts := atoms_spec (ws := wsX11_accept) B.pre
  have hown : s.vm.findClass RX11 = some m.cls := findClass_of_methodNamed B.named
  have hlocks := B.notSynchronized
  subst hsz
  have hD := hD0.self (sz := s.heap.size)
  generalize hAe : va_A [(o0, .inr (11, [o_0, o_1, o_2, o_3, o_4, o_5, o_6, o_7, o_8, o_9, o_10, o_11, o_12, .int rb, o_14, o_15, o_16]))] s.heap.size = A at hD ⊢
  have hA : ∀ q : Nat, s.heap.size ≤ q → A q := fun q h => by rw [← hAe]; exact Or.inr h
  have hS : va_S A s.heap s.heap [] := va_S.rf
  have hP : va_P D vwCl [(o0, .inr (11, [o_0, o_1, o_2, o_3, o_4, o_5, o_6, o_7, o_8, o_9, o_10, o_11, o_12, .int rb, o_14, o_15, o_16]))] s.heap := hP
  have hl := lv_entry [.ref o0, .int x] (n := 2) (Nat.le_of_ble_eq_true rfl)
  rw [lg_entry_eq]
  generalize (lg_sl [.ref o0, .int x] ++ List.replicate (2 - (lg_sl [.ref o0, .int x]).length) Slot.unset).toArray = ls at hl ⊢
  have hl : lv_has ls 2 [(0, .ref o0), (1, .int x)] := hl
  have hw11 : ∀ w ∈ wsX110, w ∈ wsX11_accept := fun w h => (List.mem_cons_of_mem _ (List.mem_append_right _ h))
  generalize hQ : MQ below _ _ s _ _ _ = Q
  refine lv_aload_n hx hb dX11_accept_0 rfl (lv_at hl 0 rfl) ?_
  refine lv_iconst (v := 0) hx hb dX11_accept_1 (by decide) ?_
  refine va_put (ci := 11) (v := .int 0) (ty := .int) (C := RX11) (T := TX11) (N := 17) hx hb hts hw11 tyX11 tyX11_ok nmX11 hown hK hP hD hS 0 rfl rfl 13 (by decide) (hts (.fieldLink RX11 83 "SmokeTune" "refusedBy" "I") (List.mem_cons_of_mem _ (List.mem_append_left _ (List.mem_of_getElem? (i := 0) rfl)))) (fun _ h9 => h9) rfl (by decide +kernel) (by first | rfl | decide) (by first | rfl | decide) (Nat.le_of_ble_eq_true rfl) dX11_accept_2 (fun H locs hP hD hS => ?_)
  have hP : va_P D vwCl [(o0, .inr (11, [o_0, o_1, o_2, o_3, o_4, o_5, o_6, o_7, o_8, o_9, o_10, o_11, o_12, .int 0, o_14, o_15, o_16]))] H := hP
  have hD : va_D A [(o0, .inr (11, [o_0, o_1, o_2, o_3, o_4, o_5, o_6, o_7, o_8, o_9, o_10, o_11, o_12, .int 0, o_14, o_15, o_16]))] := hD
  refine lv_iload_n hx hb dX11_accept_5 rfl (lv_at hl 1 rfl) ?_
  rw [← hQ]
  have hP9 := hP.sub (ws' := [(o0, .inr (11, [o_0, o_1, o_2, o_3, o_4, o_5, o_6, o_7, o_8, o_9, o_10, o_11, o_12, .int 0, o_14, o_15, o_16]))]) [0] rfl
  have hD9 := hD.sub (ws' := [(o0, .inr (11, [o_0, o_1, o_2, o_3, o_4, o_5, o_6, o_7, o_8, o_9, o_10, o_11, o_12, .int 0, o_14, o_15, o_16]))]) [0] (by decide) rfl
  exact W.iret (v := x) hx hb hr (fun t ht hW => ⟨⟨x, ((fun _ => 0, fun _ => fun _ => 0, fun _ => fun _ => 0, fun _ => 0, fun _ => 0, fun _ => fun _ => none) : Su), rfl, ⟨(by first | exact rfl), trivial⟩, (⟨by rw [ht]; exact hP9, hD9⟩ : Wd D A _ t)⟩, hS.F ht⟩) hS.2.2 dX11_accept_6
set_option maxHeartbeats 4000000 in
set_option maxRecDepth 100000 in
theorem w_refuse (l : Launch) (D : va_G) (K : Nat → ClassId) (o0 : Nat) (x : Int32) (o_0 : Value) (o_1 : Value) (o_2 : Value) (o_3 : Value) (o_4 : Value) (o_5 : Value) (o_6 : Value) (o_7 : Value) (o_8 : Value) (o_9 : Value) (o_10 : Value) (o_11 : Value) (rf : Nat) (rb : Int32) (o_14 : Value) (o_15 : Value) (o_16 : Value) (frf : Nat → Int32) (sz : Nat) : Met l yX11_refuse wsX11_refuse ({ frames := 1, cells := 0, slots := 0, locals := 22 }) (va_Pc [.ref o0, .int x] (Pre D K [(o0, .inr (11, [o_0, o_1, o_2, o_3, o_4, o_5, o_6, o_7, o_8, o_9, o_10, o_11, .ref rf, .int rb, o_14, o_15, o_16])), (rf, .inl (K 0, 5, .inl frf))] sz)) (va_Qi (S := Su) (fun (r : Int32) (u : Su) => True) (fun u t => Wd D (va_A [(o0, .inr (11, [o_0, o_1, o_2, o_3, o_4, o_5, o_6, o_7, o_8, o_9, o_10, o_11, .ref rf, .int rb, o_14, o_15, o_16])), (rf, .inl (K 0, 5, .inl frf))] sz) ((fun u => [(o0, .inr (11, [o_0, o_1, o_2, o_3, o_4, o_5, o_6, o_7, o_8, o_9, o_10, o_11, .ref rf, .int (u.2.2.2.1 0), o_14, o_15, o_16])), (rf, .inl (K 0, 5, .inl (u.2.1 0)))]) u) t) (va_A [(o0, .inr (11, [o_0, o_1, o_2, o_3, o_4, o_5, o_6, o_7, o_8, o_9, o_10, o_11, .ref rf, .int rb, o_14, o_15, o_16])), (rf, .inl (K 0, 5, .inl frf))] sz)) 0 0 (va_A [(o0, .inr (11, [o_0, o_1, o_2, o_3, o_4, o_5, o_6, o_7, o_8, o_9, o_10, o_11, .ref rf, .int rb, o_14, o_15, o_16])), (rf, .inl (K 0, 5, .inl frf))] sz) := by
  refine Met.ofW (cc := cX11_refuse) (maxL := 3) (ret := (some .int)) (by decide) rfl ?_
  intro p e s m args below meth c s₁ B hml hv
  obtain ⟨rfl, hsz, hP, hK, hD0, hN⟩ := hv
  have hx := B.exec
  have hb := B.bytes
  have hr := B.returns
  have hts := atoms_spec (ws := wsX11_refuse) B.pre
  have hown : s.vm.findClass RX11 = some m.cls := findClass_of_methodNamed B.named
  have hlocks := B.notSynchronized
  subst hsz
  have hD := hD0.self (sz := s.heap.size)
  generalize hAe : va_A [(o0, .inr (11, [o_0, o_1, o_2, o_3, o_4, o_5, o_6, o_7, o_8, o_9, o_10, o_11, .ref rf, .int rb, o_14, o_15, o_16])), (rf, .inl (K 0, 5, .inl frf))] s.heap.size = A at hD ⊢
  have hA : ∀ q : Nat, s.heap.size ≤ q → A q := fun q h => by rw [← hAe]; exact Or.inr h
  have hS : va_S A s.heap s.heap [] := va_S.rf
  have hP : va_P D vwCl [(o0, .inr (11, [o_0, o_1, o_2, o_3, o_4, o_5, o_6, o_7, o_8, o_9, o_10, o_11, .ref rf, .int rb, o_14, o_15, o_16])), (rf, .inl (K 0, 5, .inl frf))] s.heap := hP
  have hl := lv_entry [.ref o0, .int x] (n := 3) (Nat.le_of_ble_eq_true rfl)
  rw [lg_entry_eq]
  generalize (lg_sl [.ref o0, .int x] ++ List.replicate (3 - (lg_sl [.ref o0, .int x]).length) Slot.unset).toArray = ls at hl ⊢
  have hl : lv_has ls 3 [(0, .ref o0), (1, .int x)] := hl
  have hw11 : ∀ w ∈ wsX110, w ∈ wsX11_refuse := fun w h => (List.mem_cons_of_mem _ (List.mem_append_right _ h))
  generalize hQ : MQ below _ _ s _ _ _ = Q
  refine lv_iload_n hx hb dX11_refuse_0 rfl (lv_at hl 1 rfl) ?_
  refine lv_bipush (v := (-4)) hx hb dX11_refuse_1 (by decide) ?_
  have j_131 : ∀ (f_130 : Nat → Int32) (H : Heap) (locs : List Loc) (hP : va_P D vwCl [(o0, .inr (11, [o_0, o_1, o_2, o_3, o_4, o_5, o_6, o_7, o_8, o_9, o_10, o_11, .ref rf, .int rb, o_14, o_15, o_16])), (rf, .inl (K 0, 5, .inl f_130))] H) (hD : va_D A [(o0, .inr (11, [o_0, o_1, o_2, o_3, o_4, o_5, o_6, o_7, o_8, o_9, o_10, o_11, .ref rf, .int rb, o_14, o_15, o_16])), (rf, .inl (K 0, 5, .inl f_130))]) (hS : va_S A s.heap H locs) (ls : Array Slot) (hl : lv_has ls 3 [(0, .ref o0), (1, .int x)]), W p l e ({ frames := 1, cells := 0, slots := 0, locals := 22 }) s m (([.ref o0, .int x] : List Value).toArray) below meth c H locs 0 0 Q (F0 m 43 ls []) := by
    intro f_130 H locs hP hD hS ls hl
    refine lv_aload_n hx hb dX11_refuse_43 rfl (lv_at hl 0 rfl) ?_
    refine lv_iload_n hx hb dX11_refuse_44 rfl (lv_at hl 1 rfl) ?_
    refine va_put (ci := 11) (v := .int x) (ty := .int) (C := RX11) (T := TX11) (N := 17) hx hb hts hw11 tyX11 tyX11_ok nmX11 hown hK hP hD hS 0 rfl rfl 13 (by decide) (hts (.fieldLink RX11 83 "SmokeTune" "refusedBy" "I") (List.mem_cons_of_mem _ (List.mem_append_left _ (List.mem_of_getElem? (i := 1) rfl)))) (fun _ h9 => h9) rfl (by decide +kernel) (by first | rfl | decide) (by first | rfl | decide) (Nat.le_of_ble_eq_true rfl) dX11_refuse_45 (fun H locs hP hD hS => ?_)
    have hP : va_P D vwCl [(o0, .inr (11, [o_0, o_1, o_2, o_3, o_4, o_5, o_6, o_7, o_8, o_9, o_10, o_11, .ref rf, .int x, o_14, o_15, o_16])), (rf, .inl (K 0, 5, .inl f_130))] H := hP
    have hD : va_D A [(o0, .inr (11, [o_0, o_1, o_2, o_3, o_4, o_5, o_6, o_7, o_8, o_9, o_10, o_11, .ref rf, .int x, o_14, o_15, o_16])), (rf, .inl (K 0, 5, .inl f_130))] := hD
    refine lv_iload_n hx hb dX11_refuse_48 rfl (lv_at hl 1 rfl) ?_
    rw [← hQ]
    have hP9 := hP.sub (ws' := [(o0, .inr (11, [o_0, o_1, o_2, o_3, o_4, o_5, o_6, o_7, o_8, o_9, o_10, o_11, .ref rf, .int x, o_14, o_15, o_16])), (rf, .inl (K 0, 5, .inl f_130))]) [0, 1] rfl
    have hD9 := hD.sub (ws' := [(o0, .inr (11, [o_0, o_1, o_2, o_3, o_4, o_5, o_6, o_7, o_8, o_9, o_10, o_11, .ref rf, .int x, o_14, o_15, o_16])), (rf, .inl (K 0, 5, .inl f_130))]) [0, 1] (by decide) rfl
    exact W.iret (v := x) hx hb hr (fun t ht hW => ⟨⟨x, ((fun _ => 0, fun i => match i with | _ => f_130, fun _ => fun _ => 0, fun i => match i with | _ => x, fun _ => 0, fun _ => fun _ => none) : Su), rfl, trivial, (⟨by rw [ht]; exact hP9, hD9⟩ : Wd D A _ t)⟩, hS.F ht⟩) hS.2.2 dX11_refuse_49
  refine lv_icmp_le (tgt := 13) hx hb dX11_refuse_3 (by decide) (fun c_132 => ?_) (fun c_132 => ?_)
  · have c_132i := i_le (x := x.toInt) (y := (-4)) rfl rfl c_132
    refine lv_iload_n hx hb dX11_refuse_13 rfl (lv_at hl 1 rfl) ?_
    refine lv_ineg hx hb dX11_refuse_14 ?_
    refine lv_topi (fun x_133 ex_133 => ?_)
    refine lv_iconst (v := 2) hx hb dX11_refuse_15 (by decide) ?_
    refine lv_isub hx hb dX11_refuse_16 ?_
    refine lv_topi (fun x_134 ex_134 => ?_)
    refine lv_istore_n (lv' := [(2, .int x_134), (0, .ref o0), (1, .int x)]) hx hb dX11_refuse_17 rfl hl (by decide) rfl (fun ls hl => ?_)
    refine lv_iload_n hx hb dX11_refuse_18 rfl (lv_at hl 0 rfl) ?_
    refine lv_iconst (v := 0) hx hb dX11_refuse_19 (by decide) ?_
    refine lv_aload_n hx hb dX11_refuse_20 rfl (lv_at hl 1 rfl) ?_
    refine va_get (ci := 11) (v := .ref rf) (C := RX11) (T := TX11) (N := 17) hx hb hts hw11 hown hK hP 0 rfl rfl 12 (by decide) (hts (.fieldLink RX11 79 "SmokeTune" "refusals" "[I") (List.mem_cons_of_mem _ (List.mem_append_left _ (List.mem_of_getElem? (i := 0) rfl)))) (fun _ h9 => h9) rfl dX11_refuse_21 ?_
    refine va_alen (v := 5) hx hb hK hP 1 0 rfl rfl rfl dX11_refuse_24 ?_
    refine lv_iconst (v := 1) hx hb dX11_refuse_25 (by decide) ?_
    refine lv_isub hx hb dX11_refuse_26 ?_
    refine lv_topi (fun x_135 ex_135 => ?_)
    obtain rfl : x_135 = 4 := ex_135.trans (by first | rfl | decide)
    refine pci (va_runS (As := [.int x_134, .int 0, .int 4]) (rest := []) ⟨hx, hb, hml, hown, hts⟩ (w_within l D K x_134.toInt 0 4 x_134 0 4 s.heap.size rfl (show (0 : Int32).toInt = 0 from rfl) (show (4 : Int32).toInt = 4 from rfl)) (va_cwS 3 hts gX11_refuse_X11_within rfl rfl rfl (by decide +kernel) ⟨Nat.le_of_ble_eq_true rfl, Nat.le_of_ble_eq_true rfl⟩) (mkS hK hN (va_P.nil) (va_D.nil (A := fun _ => True))) rfl rfl hl.1 rfl (lv_room (Nat.le_of_ble_eq_true rfl)) dX11_refuse_27 ⟨Nat.le_of_ble_eq_true rfl, Nat.le_of_ble_eq_true rfl⟩) (fun r_136 hw => ?_)
    obtain ⟨hw, -⟩ := hw
    rcases hw with ⟨rfl, h_137, h_138⟩ | ⟨rfl, h_139⟩
    · refine lv_if_eq (tgt := 43) hx hb dX11_refuse_30 (by decide) (fun c_140 => absurd c_140 (by decide)) (fun c_140 => ?_)
      refine lv_aload_n hx hb dX11_refuse_33 rfl (lv_at hl 1 rfl) ?_
      refine va_get (ci := 11) (v := .ref rf) (C := RX11) (T := TX11) (N := 17) hx hb hts hw11 hown hK hP 0 rfl rfl 12 (by decide) (hts (.fieldLink RX11 79 "SmokeTune" "refusals" "[I") (List.mem_cons_of_mem _ (List.mem_append_left _ (List.mem_of_getElem? (i := 0) rfl)))) (fun _ h9 => h9) rfl dX11_refuse_34 ?_
      refine lv_iload_n hx hb dX11_refuse_37 rfl (lv_at hl 0 rfl) ?_
      refine lv_dup2_11 hx hb dX11_refuse_38 rfl rfl ?_
      refine va_iald hx hb hK hP 1 0 rfl rfl (i_in rfl (by omega)) dX11_refuse_39 ?_
      refine lv_topi (fun x_141 ex_141 => ?_)
      refine lv_iconst (v := 1) hx hb dX11_refuse_40 (by decide) ?_
      refine lv_iadd hx hb dX11_refuse_41 ?_
      refine lv_topi (fun x_142 ex_142 => ?_)
      refine va_iast hx hb hK hP hD hS 1 0 rfl rfl (i_in rfl (by omega)) dX11_refuse_42 (fun H locs hP hD hS => ?_)
      generalize hf_143 : (upd frf (x_134 : Int32).toNatClampNeg x_142) = f_143 at hP hD
      have hP : va_P D vwCl [(o0, .inr (11, [o_0, o_1, o_2, o_3, o_4, o_5, o_6, o_7, o_8, o_9, o_10, o_11, .ref rf, .int rb, o_14, o_15, o_16])), (rf, .inl (K 0, 5, .inl f_143))] H := hP
      have hD : va_D A [(o0, .inr (11, [o_0, o_1, o_2, o_3, o_4, o_5, o_6, o_7, o_8, o_9, o_10, o_11, .ref rf, .int rb, o_14, o_15, o_16])), (rf, .inl (K 0, 5, .inl f_143))] := hD
      exact j_131 f_143  _ _ hP hD hS ls (lv_sub hl [1, 2] rfl)
    · refine lv_if_eq (tgt := 43) hx hb dX11_refuse_30 (by decide) (fun c_144 => ?_) (fun c_144 => absurd (by decide) c_144)
      exact j_131 frf  _ _ hP hD hS ls (lv_sub hl [1, 2] rfl)
  · have c_132i := i_nle (x := x.toInt) (y := (-4)) rfl rfl c_132
    refine lv_iload_n hx hb dX11_refuse_6 rfl (lv_at hl 1 rfl) ?_
    refine lv_ineg hx hb dX11_refuse_7 ?_
    refine lv_topi (fun x_145 ex_145 => ?_)
    have hx_145 : x_145.toInt = (- x.toInt) := by rw [ex_145]; exact i_neg rfl (by omega)
    refine lv_iconst (v := 1) hx hb dX11_refuse_8 (by decide) ?_
    refine lv_isub hx hb dX11_refuse_9 ?_
    refine lv_topi (fun x_146 ex_146 => ?_)
    have hx_146 : x_146.toInt = ((- x.toInt) - 1) := by rw [ex_146]; exact i_sub hx_145 (show (1 : Int32).toInt = 1 from rfl) (by have q3 := i_rng (a := x) rfl; omega)
    refine lv_goto (tgt := 17) hx hb dX11_refuse_10 (by decide) ?_
    refine lv_istore_n (lv' := [(2, .int x_146), (0, .ref o0), (1, .int x)]) hx hb dX11_refuse_17 rfl hl (by decide) rfl (fun ls hl => ?_)
    refine lv_iload_n hx hb dX11_refuse_18 rfl (lv_at hl 0 rfl) ?_
    refine lv_iconst (v := 0) hx hb dX11_refuse_19 (by decide) ?_
    refine lv_aload_n hx hb dX11_refuse_20 rfl (lv_at hl 1 rfl) ?_
    refine va_get (ci := 11) (v := .ref rf) (C := RX11) (T := TX11) (N := 17) hx hb hts hw11 hown hK hP 0 rfl rfl 12 (by decide) (hts (.fieldLink RX11 79 "SmokeTune" "refusals" "[I") (List.mem_cons_of_mem _ (List.mem_append_left _ (List.mem_of_getElem? (i := 0) rfl)))) (fun _ h9 => h9) rfl dX11_refuse_21 ?_
    refine va_alen (v := 5) hx hb hK hP 1 0 rfl rfl rfl dX11_refuse_24 ?_
    refine lv_iconst (v := 1) hx hb dX11_refuse_25 (by decide) ?_
    refine lv_isub hx hb dX11_refuse_26 ?_
    refine lv_topi (fun x_147 ex_147 => ?_)
    obtain rfl : x_147 = 4 := ex_147.trans (by first | rfl | decide)
    refine pci (va_runS (As := [.int x_146, .int 0, .int 4]) (rest := []) ⟨hx, hb, hml, hown, hts⟩ (w_within l D K ((- x.toInt) - 1) 0 4 x_146 0 4 s.heap.size hx_146 (show (0 : Int32).toInt = 0 from rfl) (show (4 : Int32).toInt = 4 from rfl)) (va_cwS 3 hts gX11_refuse_X11_within rfl rfl rfl (by decide +kernel) ⟨Nat.le_of_ble_eq_true rfl, Nat.le_of_ble_eq_true rfl⟩) (mkS hK hN (va_P.nil) (va_D.nil (A := fun _ => True))) rfl rfl hl.1 rfl (lv_room (Nat.le_of_ble_eq_true rfl)) dX11_refuse_27 ⟨Nat.le_of_ble_eq_true rfl, Nat.le_of_ble_eq_true rfl⟩) (fun r_148 hw => ?_)
    obtain ⟨hw, -⟩ := hw
    rcases hw with ⟨rfl, h_149, h_150⟩ | ⟨rfl, h_151⟩
    · refine lv_if_eq (tgt := 43) hx hb dX11_refuse_30 (by decide) (fun c_152 => absurd c_152 (by decide)) (fun c_152 => ?_)
      refine lv_aload_n hx hb dX11_refuse_33 rfl (lv_at hl 1 rfl) ?_
      refine va_get (ci := 11) (v := .ref rf) (C := RX11) (T := TX11) (N := 17) hx hb hts hw11 hown hK hP 0 rfl rfl 12 (by decide) (hts (.fieldLink RX11 79 "SmokeTune" "refusals" "[I") (List.mem_cons_of_mem _ (List.mem_append_left _ (List.mem_of_getElem? (i := 0) rfl)))) (fun _ h9 => h9) rfl dX11_refuse_34 ?_
      refine lv_iload_n hx hb dX11_refuse_37 rfl (lv_at hl 0 rfl) ?_
      refine lv_dup2_11 hx hb dX11_refuse_38 rfl rfl ?_
      refine va_iald hx hb hK hP 1 0 rfl rfl (i_in hx_146 (by omega)) dX11_refuse_39 ?_
      refine lv_topi (fun x_153 ex_153 => ?_)
      refine lv_iconst (v := 1) hx hb dX11_refuse_40 (by decide) ?_
      refine lv_iadd hx hb dX11_refuse_41 ?_
      refine lv_topi (fun x_154 ex_154 => ?_)
      refine va_iast hx hb hK hP hD hS 1 0 rfl rfl (i_in hx_146 (by omega)) dX11_refuse_42 (fun H locs hP hD hS => ?_)
      generalize hf_155 : (upd frf (x_146 : Int32).toNatClampNeg x_154) = f_155 at hP hD
      have hP : va_P D vwCl [(o0, .inr (11, [o_0, o_1, o_2, o_3, o_4, o_5, o_6, o_7, o_8, o_9, o_10, o_11, .ref rf, .int rb, o_14, o_15, o_16])), (rf, .inl (K 0, 5, .inl f_155))] H := hP
      have hD : va_D A [(o0, .inr (11, [o_0, o_1, o_2, o_3, o_4, o_5, o_6, o_7, o_8, o_9, o_10, o_11, .ref rf, .int rb, o_14, o_15, o_16])), (rf, .inl (K 0, 5, .inl f_155))] := hD
      exact j_131 f_155  _ _ hP hD hS ls (lv_sub hl [1, 2] rfl)
    · refine lv_if_eq (tgt := 43) hx hb dX11_refuse_30 (by decide) (fun c_156 => ?_) (fun c_156 => absurd (by decide) c_156)
      exact j_131 frf  _ _ hP hD hS ls (lv_sub hl [1, 2] rfl)
set_option maxHeartbeats 4000000 in
set_option maxRecDepth 100000 in
theorem w_settle (l : Launch) (D : va_G) (K : Nat → ClassId) (o0 : Nat) (x : Int32) (y : Int32) (o_0 : Value) (o_1 : Value) (o_2 : Value) (o_3 : Value) (o_4 : Value) (o_5 : Value) (o_6 : Value) (o_7 : Value) (o_8 : Value) (h0 : Nat) (o_10 : Value) (o_11 : Value) (rf : Nat) (rb : Int32) (o_14 : Value) (o_15 : Value) (o_16 : Value) (frf : Nat → Int32) (h1 : Nat) (dr : Int32) (kp : Int32) (fs2 : Nat → Int32) (sz : Nat) (zdr : 0 ≤ dr.toInt ∧ dr.toInt ≤ 16) (zkp : 0 ≤ kp.toInt ∧ kp.toInt ≤ 16) : Met l yX11_settle wsX11_settle ({ frames := 2, cells := 0, slots := 0, locals := 44 }) (va_Pc [.ref o0, .int x, .int y] (Pre D K [(o0, .inr (11, [o_0, o_1, o_2, o_3, o_4, o_5, o_6, o_7, o_8, .ref h0, o_10, o_11, .ref rf, .int rb, o_14, o_15, o_16])), (rf, .inl (K 0, 5, .inl frf)), (h0, .inr (2, [.ref h1, .int dr, .int kp])), (h1, .inl (K 0, 476, .inl fs2))] sz)) (va_Qi (S := Su) (fun (r : Int32) (u : Su) => (0 ≤ (u.2.2.2.1 1).toInt ∧ (u.2.2.2.1 1).toInt ≤ 16) ∧ (0 ≤ (u.2.2.2.1 2).toInt ∧ (u.2.2.2.1 2).toInt ≤ 16) ∧ True) (fun u t => Wd D (va_A [(o0, .inr (11, [o_0, o_1, o_2, o_3, o_4, o_5, o_6, o_7, o_8, .ref h0, o_10, o_11, .ref rf, .int rb, o_14, o_15, o_16])), (rf, .inl (K 0, 5, .inl frf)), (h0, .inr (2, [.ref h1, .int dr, .int kp])), (h1, .inl (K 0, 476, .inl fs2))] sz) ((fun u => [(o0, .inr (11, [o_0, o_1, o_2, o_3, o_4, o_5, o_6, o_7, o_8, .ref h0, o_10, o_11, .ref rf, .int (u.2.2.2.1 0), o_14, o_15, o_16])), (rf, .inl (K 0, 5, .inl (u.2.1 0))), (h0, .inr (2, [.ref h1, .int (u.2.2.2.1 1), .int (u.2.2.2.1 2)])), (h1, .inl (K 0, 476, .inl (u.2.1 1)))]) u) t) (va_A [(o0, .inr (11, [o_0, o_1, o_2, o_3, o_4, o_5, o_6, o_7, o_8, .ref h0, o_10, o_11, .ref rf, .int rb, o_14, o_15, o_16])), (rf, .inl (K 0, 5, .inl frf)), (h0, .inr (2, [.ref h1, .int dr, .int kp])), (h1, .inl (K 0, 476, .inl fs2))] sz)) 0 0 (va_A [(o0, .inr (11, [o_0, o_1, o_2, o_3, o_4, o_5, o_6, o_7, o_8, .ref h0, o_10, o_11, .ref rf, .int rb, o_14, o_15, o_16])), (rf, .inl (K 0, 5, .inl frf)), (h0, .inr (2, [.ref h1, .int dr, .int kp])), (h1, .inl (K 0, 476, .inl fs2))] sz) := by
  refine Met.ofW (cc := cX11_settle) (maxL := 3) (ret := (some .int)) (by decide) rfl ?_
  intro p e s m args below meth c s₁ B hml hv
  obtain ⟨rfl, hsz, hP, hK, hD0, hN⟩ := hv
  have hx := B.exec
  have hb := B.bytes
  have hr := B.returns
  have hts := atoms_spec (ws := wsX11_settle) B.pre
  have hown : s.vm.findClass RX11 = some m.cls := findClass_of_methodNamed B.named
  have hlocks := B.notSynchronized
  subst hsz
  have hD := hD0.self (sz := s.heap.size)
  generalize hAe : va_A [(o0, .inr (11, [o_0, o_1, o_2, o_3, o_4, o_5, o_6, o_7, o_8, .ref h0, o_10, o_11, .ref rf, .int rb, o_14, o_15, o_16])), (rf, .inl (K 0, 5, .inl frf)), (h0, .inr (2, [.ref h1, .int dr, .int kp])), (h1, .inl (K 0, 476, .inl fs2))] s.heap.size = A at hD ⊢
  have hA : ∀ q : Nat, s.heap.size ≤ q → A q := fun q h => by rw [← hAe]; exact Or.inr h
  have hS : va_S A s.heap s.heap [] := va_S.rf
  have hP : va_P D vwCl [(o0, .inr (11, [o_0, o_1, o_2, o_3, o_4, o_5, o_6, o_7, o_8, .ref h0, o_10, o_11, .ref rf, .int rb, o_14, o_15, o_16])), (rf, .inl (K 0, 5, .inl frf)), (h0, .inr (2, [.ref h1, .int dr, .int kp])), (h1, .inl (K 0, 476, .inl fs2))] s.heap := hP
  have hl := lv_entry [.ref o0, .int x, .int y] (n := 3) (Nat.le_of_ble_eq_true rfl)
  rw [lg_entry_eq]
  generalize (lg_sl [.ref o0, .int x, .int y] ++ List.replicate (3 - (lg_sl [.ref o0, .int x, .int y]).length) Slot.unset).toArray = ls at hl ⊢
  have hl : lv_has ls 3 [(0, .ref o0), (1, .int x), (2, .int y)] := hl
  have hw2 : ∀ w ∈ wsX20, w ∈ wsX11_settle := fun w h => (List.mem_cons_of_mem _ (List.mem_append_right _ h))
  have hw11 : ∀ w ∈ wsX110, w ∈ wsX11_settle := fun w h => (List.mem_cons_of_mem _ (List.mem_append_left _ (List.mem_append_right _ h)))
  generalize hQ : MQ below _ _ s _ _ _ = Q
  refine lv_iload_n hx hb dX11_settle_0 rfl (lv_at hl 2 rfl) ?_
  refine lv_if_ge (tgt := 10) hx hb dX11_settle_1 (by decide) (fun c_19 => ?_) (fun c_19 => ?_)
  · have c_19i := i_le (x := 0) (y := y.toInt) rfl rfl c_19
    refine lv_aload_n hx hb dX11_settle_10 rfl (lv_at hl 0 rfl) ?_
    refine va_get (ci := 11) (v := .ref h0) (C := RX11) (T := TX11) (N := 17) hx hb hts hw11 hown hK hP 0 rfl rfl 9 (by decide) (hts (.fieldLink RX11 61 "SmokeTune" "history" "LSmokeTune$History;") (List.mem_cons_of_mem _ (List.mem_append_left _ (List.mem_append_left _ (List.mem_append_left _ (List.mem_of_getElem? (i := 0) rfl)))))) (fun _ h9 => h9) rfl dX11_settle_11 ?_
    refine lv_iload_n hx hb dX11_settle_14 rfl (lv_at hl 1 rfl) ?_
    refine kcv (S := Su) (wr := [(o0, .inr (11, [o_0, o_1, o_2, o_3, o_4, o_5, o_6, o_7, o_8, .ref h0, o_10, o_11, .ref rf, .int rb, o_14, o_15, o_16])), (rf, .inl (K 0, 5, .inl frf))]) (va_runVN (As := [.int x]) (rest := []) ⟨hx, hb, hml, hown, hts⟩ (w_keep l D K h0 x h1 dr kp fs2 s.heap.size (by first | omega | decide) (by first | omega | decide)) ⟨va_cnB 1 hts gX11_settle_X2_keep_n300 rfl rfl rfl (nst_at hN 71 rfl) (hts (.initialized RX2) (List.mem_cons_of_mem _ (List.mem_append_left _ (List.mem_append_left _ (List.mem_append_left _ (List.mem_of_getElem? (i := 12) rfl)))))) (by decide +kernel) ⟨Nat.le_of_ble_eq_true rfl, Nat.le_of_ble_eq_true rfl⟩, (hts (.instanceMethod yX2_keep) (List.mem_cons_of_mem _ (List.mem_append_left _ (List.mem_append_left _ (List.mem_append_left _ (List.mem_of_getElem? (i := 11) rfl)))))), (hts (.selects RX2 yX2_keep yX2_keep) (List.mem_cons_of_mem _ (List.mem_append_left _ (List.mem_append_left _ (List.mem_append_left _ (List.mem_of_getElem? (i := 13) rfl))))))⟩ (mkV hK hN (hP.sub [2, 3] rfl) (hD.sub [2, 3] (by decide) rfl) (ci := 2) (q0 := 0) rfl rfl) rfl rfl hl.1 rfl (lv_room (Nat.le_of_ble_eq_true rfl)) dX11_settle_15 ⟨Nat.le_of_ble_eq_true rfl, Nat.le_of_ble_eq_true rfl⟩) hP hD hS hA [2, 3] [0, 1] rfl rfl (by decide) (by decide) (fun u_21 H locs hw hP hD hS => ?_)
    have hP : va_P D vwCl [(o0, .inr (11, [o_0, o_1, o_2, o_3, o_4, o_5, o_6, o_7, o_8, .ref h0, o_10, o_11, .ref rf, .int rb, o_14, o_15, o_16])), (rf, .inl (K 0, 5, .inl frf)), (h0, .inr (2, [.ref h1, .int (u_21.2.2.2.1 0), .int (u_21.2.2.2.1 1)])), (h1, .inl (K 0, 476, .inl (u_21.2.1 0)))] H := hP
    have hD : va_D A [(o0, .inr (11, [o_0, o_1, o_2, o_3, o_4, o_5, o_6, o_7, o_8, .ref h0, o_10, o_11, .ref rf, .int rb, o_14, o_15, o_16])), (rf, .inl (K 0, 5, .inl frf)), (h0, .inr (2, [.ref h1, .int (u_21.2.2.2.1 0), .int (u_21.2.2.2.1 1)])), (h1, .inl (K 0, 476, .inl (u_21.2.1 0)))] := hD
    obtain ⟨k_22, k_23, -⟩ := hw
    refine lv_aload_n hx hb dX11_settle_18 rfl (lv_at hl 0 rfl) ?_
    refine lv_iload_n hx hb dX11_settle_19 rfl (lv_at hl 2 rfl) ?_
    refine kci (S := Su) (wr := [(rf, .inl (K 0, 5, .inl frf)), (h0, .inr (2, [.ref h1, .int (u_21.2.2.2.1 0), .int (u_21.2.2.2.1 1)])), (h1, .inl (K 0, 476, .inl (u_21.2.1 0)))]) (va_runV (As := [.int y]) (rest := []) ⟨hx, hb, hml, hown, hts⟩ (w_accept l D K o0 y o_0 o_1 o_2 o_3 o_4 o_5 o_6 o_7 o_8 (.ref h0) o_10 o_11 (.ref rf) rb o_14 o_15 o_16 H.size) (cwV 1 hts gX11_settle_X11_accept rfl rfl rfl (by decide +kernel) ⟨Nat.le_of_ble_eq_true rfl, Nat.le_of_ble_eq_true rfl⟩) (mkV hK hN (hP.sub [0] rfl) (hD.sub [0] (by decide) rfl) (ci := 11) (q0 := 0) rfl rfl) rfl rfl hl.1 rfl (lv_room (Nat.le_of_ble_eq_true rfl)) dX11_settle_20 ⟨Nat.le_of_ble_eq_true rfl, Nat.le_of_ble_eq_true rfl⟩) hP hD hS hA [0] [1, 2, 3] rfl rfl (by decide) (by decide) (fun r_24 u_25 H locs hw hP hD hS => ?_)
    have hP : va_P D vwCl [(rf, .inl (K 0, 5, .inl frf)), (h0, .inr (2, [.ref h1, .int (u_21.2.2.2.1 0), .int (u_21.2.2.2.1 1)])), (h1, .inl (K 0, 476, .inl (u_21.2.1 0))), (o0, .inr (11, [o_0, o_1, o_2, o_3, o_4, o_5, o_6, o_7, o_8, .ref h0, o_10, o_11, .ref rf, .int 0, o_14, o_15, o_16]))] H := hP
    have hD : va_D A [(rf, .inl (K 0, 5, .inl frf)), (h0, .inr (2, [.ref h1, .int (u_21.2.2.2.1 0), .int (u_21.2.2.2.1 1)])), (h1, .inl (K 0, 476, .inl (u_21.2.1 0))), (o0, .inr (11, [o_0, o_1, o_2, o_3, o_4, o_5, o_6, o_7, o_8, .ref h0, o_10, o_11, .ref rf, .int 0, o_14, o_15, o_16]))] := hD
    obtain ⟨hw, -⟩ := hw
    have er_r_24 := hw
    have hr_r_24 : r_24.toInt = y.toInt := (congrArg Int32.toInt er_r_24).trans rfl
    rw [← hQ]
    have hP9 := hP.sub (ws' := [(o0, .inr (11, [o_0, o_1, o_2, o_3, o_4, o_5, o_6, o_7, o_8, .ref h0, o_10, o_11, .ref rf, .int 0, o_14, o_15, o_16])), (rf, .inl (K 0, 5, .inl frf)), (h0, .inr (2, [.ref h1, .int (u_21.2.2.2.1 0), .int (u_21.2.2.2.1 1)])), (h1, .inl (K 0, 476, .inl (u_21.2.1 0)))]) [3, 0, 1, 2] rfl
    have hD9 := hD.sub (ws' := [(o0, .inr (11, [o_0, o_1, o_2, o_3, o_4, o_5, o_6, o_7, o_8, .ref h0, o_10, o_11, .ref rf, .int 0, o_14, o_15, o_16])), (rf, .inl (K 0, 5, .inl frf)), (h0, .inr (2, [.ref h1, .int (u_21.2.2.2.1 0), .int (u_21.2.2.2.1 1)])), (h1, .inl (K 0, 476, .inl (u_21.2.1 0)))]) [3, 0, 1, 2] (by decide) rfl
    exact W.iret (v := r_24) hx hb hr (fun t ht hW => ⟨⟨r_24, ((fun _ => 0, fun i => match i with | 0 => frf | _ => (u_21.2.1 0), fun _ => fun _ => 0, fun i => match i with | 0 => 0 | 1 => (u_21.2.2.2.1 0) | _ => (u_21.2.2.2.1 1), fun _ => 0, fun _ => fun _ => none) : Su), rfl, ⟨(show 0 ≤ ((u_21.2.2.2.1 0) : Int32).toInt ∧ ((u_21.2.2.2.1 0) : Int32).toInt ≤ 16 by omega), (show 0 ≤ ((u_21.2.2.2.1 1) : Int32).toInt ∧ ((u_21.2.2.2.1 1) : Int32).toInt ≤ 16 by omega), trivial⟩, (⟨by rw [ht]; exact hP9, hD9⟩ : Wd D A _ t)⟩, hS.F ht⟩) hS.2.2 dX11_settle_23
  · have c_19i := i_nle (x := 0) (y := y.toInt) rfl rfl c_19
    refine lv_aload_n hx hb dX11_settle_4 rfl (lv_at hl 0 rfl) ?_
    refine lv_iload_n hx hb dX11_settle_5 rfl (lv_at hl 2 rfl) ?_
    refine kci (S := Su) (wr := [(h0, .inr (2, [.ref h1, .int dr, .int kp])), (h1, .inl (K 0, 476, .inl fs2))]) (va_runV (As := [.int y]) (rest := []) ⟨hx, hb, hml, hown, hts⟩ (w_refuse l D K o0 y o_0 o_1 o_2 o_3 o_4 o_5 o_6 o_7 o_8 (.ref h0) o_10 o_11 rf rb o_14 o_15 o_16 frf s.heap.size) (cwV 1 hts gX11_settle_X11_refuse rfl rfl rfl (by decide +kernel) ⟨Nat.le_of_ble_eq_true rfl, Nat.le_of_ble_eq_true rfl⟩) (mkV hK hN (hP.sub [0, 1] rfl) (hD.sub [0, 1] (by decide) rfl) (ci := 11) (q0 := 0) rfl rfl) rfl rfl hl.1 rfl (lv_room (Nat.le_of_ble_eq_true rfl)) dX11_settle_6 ⟨Nat.le_of_ble_eq_true rfl, Nat.le_of_ble_eq_true rfl⟩) hP hD hS hA [0, 1] [2, 3] rfl rfl (by decide) (by decide) (fun r_26 u_27 H locs hw hP hD hS => ?_)
    have hP : va_P D vwCl [(h0, .inr (2, [.ref h1, .int dr, .int kp])), (h1, .inl (K 0, 476, .inl fs2)), (o0, .inr (11, [o_0, o_1, o_2, o_3, o_4, o_5, o_6, o_7, o_8, .ref h0, o_10, o_11, .ref rf, .int (u_27.2.2.2.1 0), o_14, o_15, o_16])), (rf, .inl (K 0, 5, .inl (u_27.2.1 0)))] H := hP
    have hD : va_D A [(h0, .inr (2, [.ref h1, .int dr, .int kp])), (h1, .inl (K 0, 476, .inl fs2)), (o0, .inr (11, [o_0, o_1, o_2, o_3, o_4, o_5, o_6, o_7, o_8, .ref h0, o_10, o_11, .ref rf, .int (u_27.2.2.2.1 0), o_14, o_15, o_16])), (rf, .inl (K 0, 5, .inl (u_27.2.1 0)))] := hD
    rw [← hQ]
    have hP9 := hP.sub (ws' := [(o0, .inr (11, [o_0, o_1, o_2, o_3, o_4, o_5, o_6, o_7, o_8, .ref h0, o_10, o_11, .ref rf, .int (u_27.2.2.2.1 0), o_14, o_15, o_16])), (rf, .inl (K 0, 5, .inl (u_27.2.1 0))), (h0, .inr (2, [.ref h1, .int dr, .int kp])), (h1, .inl (K 0, 476, .inl fs2))]) [2, 3, 0, 1] rfl
    have hD9 := hD.sub (ws' := [(o0, .inr (11, [o_0, o_1, o_2, o_3, o_4, o_5, o_6, o_7, o_8, .ref h0, o_10, o_11, .ref rf, .int (u_27.2.2.2.1 0), o_14, o_15, o_16])), (rf, .inl (K 0, 5, .inl (u_27.2.1 0))), (h0, .inr (2, [.ref h1, .int dr, .int kp])), (h1, .inl (K 0, 476, .inl fs2))]) [2, 3, 0, 1] (by decide) rfl
    exact W.iret (v := r_26) hx hb hr (fun t ht hW => ⟨⟨r_26, ((fun _ => 0, fun i => match i with | 0 => (u_27.2.1 0) | _ => fs2, fun _ => fun _ => 0, fun i => match i with | 0 => (u_27.2.2.2.1 0) | 1 => dr | _ => kp, fun _ => 0, fun _ => fun _ => none) : Su), rfl, ⟨(show 0 ≤ (dr : Int32).toInt ∧ (dr : Int32).toInt ≤ 16 by omega), (show 0 ≤ (kp : Int32).toInt ∧ (kp : Int32).toInt ≤ 16 by omega), trivial⟩, (⟨by rw [ht]; exact hP9, hD9⟩ : Wd D A _ t)⟩, hS.F ht⟩) hS.2.2 dX11_settle_9
set_option maxHeartbeats 4000000 in
set_option maxRecDepth 100000 in
theorem w_house (l : Launch) (D : va_G) (K : Nat → ClassId) (o0 : Nat) (x0 : Int32) (x1 : Int32) (x2 : Int32) (x3 : Int32) (x4 : Int32) (t0 : Nat) (o_1 : Value) (o_2 : Value) (o_3 : Value) (o_4 : Value) (o_5 : Value) (o_6 : Value) (o_7 : Value) (o_8 : Value) (h0 : Nat) (o_10 : Value) (o_11 : Value) (rf : Nat) (rb : Int32) (o_14 : Value) (o_15 : Value) (o_16 : Value) (frf : Nat → Int32) (h1 : Nat) (dr : Int32) (kp : Int32) (t1 : Nat) (k_1 : Value) (k_2 : Value) (k_3 : Value) (n : Int32) (k_5 : Value) (k_6 : Value) (k_7 : Value) (k_8 : Value) (k_9 : Value) (f : Nat → Int32) (sz : Nat) (zdr : 0 ≤ dr.toInt ∧ dr.toInt ≤ 16) (zkp : 0 ≤ kp.toInt ∧ kp.toInt ≤ 16) (zn : 0 ≤ n.toInt ∧ n.toInt ≤ 8) : Met l yX11_house wsX11_house ({ frames := 3, cells := 0, slots := 0, locals := 71 }) (va_Pc [.ref o0, .int x0, .int x1, .int x2, .int x3, .int x4] (Pre D K [(o0, .inr (11, [.ref t0, o_1, o_2, o_3, o_4, o_5, o_6, o_7, o_8, .ref h0, o_10, o_11, .ref rf, .int rb, o_14, o_15, o_16])), (rf, .inl (K 0, 5, .inl frf)), (h0, .inr (2, [.ref h1, .int dr, .int kp])), (t0, .inr (9, [.ref t1, k_1, k_2, k_3, .int n, k_5, k_6, k_7, k_8, k_9])), (t1, .inl (K 0, 56, .inl f))] sz)) (va_Qi (S := Su) (fun (r : Int32) (u : Su) => (0 ≤ (u.2.2.2.1 1).toInt ∧ (u.2.2.2.1 1).toInt ≤ 16) ∧ (0 ≤ (u.2.2.2.1 2).toInt ∧ (u.2.2.2.1 2).toInt ≤ 8) ∧ True) (fun u t => Wd D (va_A [(o0, .inr (11, [.ref t0, o_1, o_2, o_3, o_4, o_5, o_6, o_7, o_8, .ref h0, o_10, o_11, .ref rf, .int rb, o_14, o_15, o_16])), (rf, .inl (K 0, 5, .inl frf)), (h0, .inr (2, [.ref h1, .int dr, .int kp])), (t0, .inr (9, [.ref t1, k_1, k_2, k_3, .int n, k_5, k_6, k_7, k_8, k_9])), (t1, .inl (K 0, 56, .inl f))] sz) ((fun u => [(o0, .inr (11, [.ref t0, o_1, o_2, o_3, o_4, o_5, o_6, o_7, o_8, .ref h0, o_10, o_11, .ref rf, .int (u.2.2.2.1 0), o_14, o_15, o_16])), (rf, .inl (K 0, 5, .inl (u.2.1 0))), (h0, .inr (2, [.ref h1, .int dr, .int (u.2.2.2.1 1)])), (t0, .inr (9, [.ref t1, k_1, k_2, k_3, .int (u.2.2.2.1 2), k_5, k_6, k_7, k_8, k_9])), (t1, .inl (K 0, 56, .inl (u.2.1 1)))]) u) t) (va_A [(o0, .inr (11, [.ref t0, o_1, o_2, o_3, o_4, o_5, o_6, o_7, o_8, .ref h0, o_10, o_11, .ref rf, .int rb, o_14, o_15, o_16])), (rf, .inl (K 0, 5, .inl frf)), (h0, .inr (2, [.ref h1, .int dr, .int kp])), (t0, .inr (9, [.ref t1, k_1, k_2, k_3, .int n, k_5, k_6, k_7, k_8, k_9])), (t1, .inl (K 0, 56, .inl f))] sz)) 0 0 (va_A [(o0, .inr (11, [.ref t0, o_1, o_2, o_3, o_4, o_5, o_6, o_7, o_8, .ref h0, o_10, o_11, .ref rf, .int rb, o_14, o_15, o_16])), (rf, .inl (K 0, 5, .inl frf)), (h0, .inr (2, [.ref h1, .int dr, .int kp])), (t0, .inr (9, [.ref t1, k_1, k_2, k_3, .int n, k_5, k_6, k_7, k_8, k_9])), (t1, .inl (K 0, 56, .inl f))] sz) := by
  refine Met.ofW (cc := cX11_house) (maxL := 8) (ret := (some .int)) (by decide) rfl ?_
  intro p e s m args below meth c s₁ B hml hv
  obtain ⟨rfl, hsz, hP, hK, hD0, hN⟩ := hv
  have hx := B.exec
  have hb := B.bytes
  have hr := B.returns
  have hts := atoms_spec (ws := wsX11_house) B.pre
  have hown : s.vm.findClass RX11 = some m.cls := findClass_of_methodNamed B.named
  have hlocks := B.notSynchronized
  subst hsz
  have hD := hD0.self (sz := s.heap.size)
  generalize hAe : va_A [(o0, .inr (11, [.ref t0, o_1, o_2, o_3, o_4, o_5, o_6, o_7, o_8, .ref h0, o_10, o_11, .ref rf, .int rb, o_14, o_15, o_16])), (rf, .inl (K 0, 5, .inl frf)), (h0, .inr (2, [.ref h1, .int dr, .int kp])), (t0, .inr (9, [.ref t1, k_1, k_2, k_3, .int n, k_5, k_6, k_7, k_8, k_9])), (t1, .inl (K 0, 56, .inl f))] s.heap.size = A at hD ⊢
  have hA : ∀ q : Nat, s.heap.size ≤ q → A q := fun q h => by rw [← hAe]; exact Or.inr h
  have hS : va_S A s.heap s.heap [] := va_S.rf
  have hP : va_P D vwCl [(o0, .inr (11, [.ref t0, o_1, o_2, o_3, o_4, o_5, o_6, o_7, o_8, .ref h0, o_10, o_11, .ref rf, .int rb, o_14, o_15, o_16])), (rf, .inl (K 0, 5, .inl frf)), (h0, .inr (2, [.ref h1, .int dr, .int kp])), (t0, .inr (9, [.ref t1, k_1, k_2, k_3, .int n, k_5, k_6, k_7, k_8, k_9])), (t1, .inl (K 0, 56, .inl f))] s.heap := hP
  have hl := lv_entry [.ref o0, .int x0, .int x1, .int x2, .int x3, .int x4] (n := 8) (Nat.le_of_ble_eq_true rfl)
  rw [lg_entry_eq]
  generalize (lg_sl [.ref o0, .int x0, .int x1, .int x2, .int x3, .int x4] ++ List.replicate (8 - (lg_sl [.ref o0, .int x0, .int x1, .int x2, .int x3, .int x4]).length) Slot.unset).toArray = ls at hl ⊢
  have hl : lv_has ls 8 [(0, .ref o0), (1, .int x0), (2, .int x1), (3, .int x2), (4, .int x3), (5, .int x4)] := hl
  have hw2 : ∀ w ∈ wsX20, w ∈ wsX11_house := fun w h => (List.mem_cons_of_mem _ (List.mem_append_right _ h))
  have hw9 : ∀ w ∈ wsX90, w ∈ wsX11_house := fun w h => (List.mem_cons_of_mem _ (List.mem_append_left _ (List.mem_append_right _ h)))
  have hw11 : ∀ w ∈ wsX110, w ∈ wsX11_house := fun w h => (List.mem_cons_of_mem _ (List.mem_append_left _ (List.mem_append_left _ (List.mem_append_right _ h))))
  generalize hQ : MQ below _ _ s _ _ _ = Q
  refine lv_iload_n hx hb dX11_house_0 rfl (lv_at hl 1 rfl) ?_
  refine lv_iconst (v := 0) hx hb dX11_house_1 (by decide) ?_
  refine lv_bipush (v := 6) hx hb dX11_house_2 (by decide) ?_
  have j_335 : ∀ (H : Heap) (locs : List Loc) (hP : va_P D vwCl [(o0, .inr (11, [.ref t0, o_1, o_2, o_3, o_4, o_5, o_6, o_7, o_8, .ref h0, o_10, o_11, .ref rf, .int rb, o_14, o_15, o_16])), (rf, .inl (K 0, 5, .inl frf)), (h0, .inr (2, [.ref h1, .int dr, .int kp])), (t0, .inr (9, [.ref t1, k_1, k_2, k_3, .int n, k_5, k_6, k_7, k_8, k_9])), (t1, .inl (K 0, 56, .inl f))] H) (hD : va_D A [(o0, .inr (11, [.ref t0, o_1, o_2, o_3, o_4, o_5, o_6, o_7, o_8, .ref h0, o_10, o_11, .ref rf, .int rb, o_14, o_15, o_16])), (rf, .inl (K 0, 5, .inl frf)), (h0, .inr (2, [.ref h1, .int dr, .int kp])), (t0, .inr (9, [.ref t1, k_1, k_2, k_3, .int n, k_5, k_6, k_7, k_8, k_9])), (t1, .inl (K 0, 56, .inl f))]) (hS : va_S A s.heap H locs) (ls : Array Slot) (hl : lv_has ls 8 [(0, .ref o0)]), W p l e ({ frames := 3, cells := 0, slots := 0, locals := 71 }) s m (([.ref o0, .int x0, .int x1, .int x2, .int x3, .int x4] : List Value).toArray) below meth c H locs 0 0 Q (F0 m 76 ls []) := by
    intro H locs hP hD hS ls hl
    refine lv_aload_n hx hb dX11_house_76 rfl (lv_at hl 0 rfl) ?_
    refine lv_iconst (v := (-1)) hx hb dX11_house_77 (by decide) ?_
    refine kci (S := Su) (wr := [(h0, .inr (2, [.ref h1, .int dr, .int kp])), (t0, .inr (9, [.ref t1, k_1, k_2, k_3, .int n, k_5, k_6, k_7, k_8, k_9])), (t1, .inl (K 0, 56, .inl f))]) (va_runV (As := [.int (-1)]) (rest := []) ⟨hx, hb, hml, hown, hts⟩ (w_refuse l D K o0 (-1) (.ref t0) o_1 o_2 o_3 o_4 o_5 o_6 o_7 o_8 (.ref h0) o_10 o_11 rf rb o_14 o_15 o_16 frf H.size) (cwV 1 hts gX11_house_X11_refuse rfl rfl rfl (by decide +kernel) ⟨Nat.le_of_ble_eq_true rfl, Nat.le_of_ble_eq_true rfl⟩) (mkV hK hN (hP.sub [0, 1] rfl) (hD.sub [0, 1] (by decide) rfl) (ci := 11) (q0 := 0) rfl rfl) rfl rfl hl.1 rfl (lv_room (Nat.le_of_ble_eq_true rfl)) dX11_house_78 ⟨Nat.le_of_ble_eq_true rfl, Nat.le_of_ble_eq_true rfl⟩) hP hD hS hA [0, 1] [2, 3, 4] rfl rfl (by decide) (by decide) (fun r_336 u_337 H locs hw hP hD hS => ?_)
    have hP : va_P D vwCl [(h0, .inr (2, [.ref h1, .int dr, .int kp])), (t0, .inr (9, [.ref t1, k_1, k_2, k_3, .int n, k_5, k_6, k_7, k_8, k_9])), (t1, .inl (K 0, 56, .inl f)), (o0, .inr (11, [.ref t0, o_1, o_2, o_3, o_4, o_5, o_6, o_7, o_8, .ref h0, o_10, o_11, .ref rf, .int (u_337.2.2.2.1 0), o_14, o_15, o_16])), (rf, .inl (K 0, 5, .inl (u_337.2.1 0)))] H := hP
    have hD : va_D A [(h0, .inr (2, [.ref h1, .int dr, .int kp])), (t0, .inr (9, [.ref t1, k_1, k_2, k_3, .int n, k_5, k_6, k_7, k_8, k_9])), (t1, .inl (K 0, 56, .inl f)), (o0, .inr (11, [.ref t0, o_1, o_2, o_3, o_4, o_5, o_6, o_7, o_8, .ref h0, o_10, o_11, .ref rf, .int (u_337.2.2.2.1 0), o_14, o_15, o_16])), (rf, .inl (K 0, 5, .inl (u_337.2.1 0)))] := hD
    rw [← hQ]
    have hP9 := hP.sub (ws' := [(o0, .inr (11, [.ref t0, o_1, o_2, o_3, o_4, o_5, o_6, o_7, o_8, .ref h0, o_10, o_11, .ref rf, .int (u_337.2.2.2.1 0), o_14, o_15, o_16])), (rf, .inl (K 0, 5, .inl (u_337.2.1 0))), (h0, .inr (2, [.ref h1, .int dr, .int kp])), (t0, .inr (9, [.ref t1, k_1, k_2, k_3, .int n, k_5, k_6, k_7, k_8, k_9])), (t1, .inl (K 0, 56, .inl f))]) [3, 4, 0, 1, 2] rfl
    have hD9 := hD.sub (ws' := [(o0, .inr (11, [.ref t0, o_1, o_2, o_3, o_4, o_5, o_6, o_7, o_8, .ref h0, o_10, o_11, .ref rf, .int (u_337.2.2.2.1 0), o_14, o_15, o_16])), (rf, .inl (K 0, 5, .inl (u_337.2.1 0))), (h0, .inr (2, [.ref h1, .int dr, .int kp])), (t0, .inr (9, [.ref t1, k_1, k_2, k_3, .int n, k_5, k_6, k_7, k_8, k_9])), (t1, .inl (K 0, 56, .inl f))]) [3, 4, 0, 1, 2] (by decide) rfl
    exact W.iret (v := r_336) hx hb hr (fun t ht hW => ⟨⟨r_336, ((fun _ => 0, fun i => match i with | 0 => (u_337.2.1 0) | _ => f, fun _ => fun _ => 0, fun i => match i with | 0 => (u_337.2.2.2.1 0) | 1 => kp | _ => n, fun _ => 0, fun _ => fun _ => none) : Su), rfl, ⟨(show 0 ≤ (kp : Int32).toInt ∧ (kp : Int32).toInt ≤ 16 by omega), (show 0 ≤ (n : Int32).toInt ∧ (n : Int32).toInt ≤ 8 by omega), trivial⟩, (⟨by rw [ht]; exact hP9, hD9⟩ : Wd D A _ t)⟩, hS.F ht⟩) hS.2.2 dX11_house_81
  have j_338 : ∀ (v_330 : Int32) (hv_330 : 0 ≤ v_330.toInt ∧ v_330.toInt ≤ 1) (H : Heap) (locs : List Loc) (hP : va_P D vwCl [(o0, .inr (11, [.ref t0, o_1, o_2, o_3, o_4, o_5, o_6, o_7, o_8, .ref h0, o_10, o_11, .ref rf, .int rb, o_14, o_15, o_16])), (rf, .inl (K 0, 5, .inl frf)), (h0, .inr (2, [.ref h1, .int dr, .int kp])), (t0, .inr (9, [.ref t1, k_1, k_2, k_3, .int n, k_5, k_6, k_7, k_8, k_9])), (t1, .inl (K 0, 56, .inl f))] H) (hD : va_D A [(o0, .inr (11, [.ref t0, o_1, o_2, o_3, o_4, o_5, o_6, o_7, o_8, .ref h0, o_10, o_11, .ref rf, .int rb, o_14, o_15, o_16])), (rf, .inl (K 0, 5, .inl frf)), (h0, .inr (2, [.ref h1, .int dr, .int kp])), (t0, .inr (9, [.ref t1, k_1, k_2, k_3, .int n, k_5, k_6, k_7, k_8, k_9])), (t1, .inl (K 0, 56, .inl f))]) (hS : va_S A s.heap H locs) (ls : Array Slot) (hl : lv_has ls 8 [(6, .int v_330), (0, .ref o0), (1, .int x0), (2, .int x1), (3, .int x2), (4, .int x3), (5, .int x4)]), W p l e ({ frames := 3, cells := 0, slots := 0, locals := 71 }) s m (([.ref o0, .int x0, .int x1, .int x2, .int x3, .int x4] : List Value).toArray) below meth c H locs 0 0 Q (F0 m 52 ls []) := by
    intro v_330 hv_330 H locs hP hD hS ls hl
    refine lv_iconst (v := 0) hx hb dX11_house_52 (by decide) ?_
    refine lv_istore (lv' := [(7, .int 0), (6, .int v_330), (0, .ref o0), (1, .int x0), (2, .int x1), (3, .int x2), (4, .int x3), (5, .int x4)]) hx hb dX11_house_53 hl (by decide) rfl (fun ls hl => ?_)
    refine lv_iload hx hb dX11_house_55 (lv_at hl 1 rfl) ?_
    refine lv_if_eq (tgt := 76) hx hb dX11_house_57 (by decide) (fun c_339 => ?_) (fun c_339 => ?_)
    · have c_339i := i_eq (x := v_330.toInt) (y := 0) rfl rfl c_339
      exact j_335   _ _ hP hD hS ls (lv_sub hl [2] rfl)
    · have c_339i := i_ne (x := v_330.toInt) (y := 0) rfl rfl c_339
      refine lv_iload hx hb dX11_house_60 (lv_at hl 0 rfl) ?_
      refine lv_if_eq (tgt := 76) hx hb dX11_house_62 (by decide) (fun c_340 => ?_) (fun c_340 => absurd (by decide) c_340)
      exact j_335   _ _ hP hD hS ls (lv_sub hl [2] rfl)
  have j_341 : ∀ (H : Heap) (locs : List Loc) (hP : va_P D vwCl [(o0, .inr (11, [.ref t0, o_1, o_2, o_3, o_4, o_5, o_6, o_7, o_8, .ref h0, o_10, o_11, .ref rf, .int rb, o_14, o_15, o_16])), (rf, .inl (K 0, 5, .inl frf)), (h0, .inr (2, [.ref h1, .int dr, .int kp])), (t0, .inr (9, [.ref t1, k_1, k_2, k_3, .int n, k_5, k_6, k_7, k_8, k_9])), (t1, .inl (K 0, 56, .inl f))] H) (hD : va_D A [(o0, .inr (11, [.ref t0, o_1, o_2, o_3, o_4, o_5, o_6, o_7, o_8, .ref h0, o_10, o_11, .ref rf, .int rb, o_14, o_15, o_16])), (rf, .inl (K 0, 5, .inl frf)), (h0, .inr (2, [.ref h1, .int dr, .int kp])), (t0, .inr (9, [.ref t1, k_1, k_2, k_3, .int n, k_5, k_6, k_7, k_8, k_9])), (t1, .inl (K 0, 56, .inl f))]) (hS : va_S A s.heap H locs) (ls : Array Slot) (hl : lv_has ls 8 [(0, .ref o0), (1, .int x0), (2, .int x1), (3, .int x2), (4, .int x3), (5, .int x4)]), W p l e ({ frames := 3, cells := 0, slots := 0, locals := 71 }) s m (([.ref o0, .int x0, .int x1, .int x2, .int x3, .int x4] : List Value).toArray) below meth c H locs 0 0 Q (F0 m 23 ls []) := by
    intro H locs hP hD hS ls hl
    refine lv_iconst (v := 0) hx hb dX11_house_23 (by decide) ?_
    refine lv_istore (lv' := [(6, .int 0), (0, .ref o0), (1, .int x0), (2, .int x1), (3, .int x2), (4, .int x3), (5, .int x4)]) hx hb dX11_house_24 hl (by decide) rfl (fun ls hl => ?_)
    refine lv_iload hx hb dX11_house_26 (lv_at hl 5 rfl) ?_
    refine lv_iconst (v := 0) hx hb dX11_house_28 (by decide) ?_
    refine lv_bipush (v := 7) hx hb dX11_house_29 (by decide) ?_
    refine pci (va_runS (As := [.int x3, .int 0, .int 7]) (rest := []) ⟨hx, hb, hml, hown, hts⟩ (w_within l D K x3.toInt 0 7 x3 0 7 H.size rfl (show (0 : Int32).toInt = 0 from rfl) (show (7 : Int32).toInt = 7 from rfl)) (va_cwS 3 hts gX11_house_X11_within rfl rfl rfl (by decide +kernel) ⟨Nat.le_of_ble_eq_true rfl, Nat.le_of_ble_eq_true rfl⟩) (mkS hK hN (va_P.nil) (va_D.nil (A := fun _ => True))) rfl rfl hl.1 rfl (lv_room (Nat.le_of_ble_eq_true rfl)) dX11_house_31 ⟨Nat.le_of_ble_eq_true rfl, Nat.le_of_ble_eq_true rfl⟩) (fun r_342 hw => ?_)
    obtain ⟨hw, -⟩ := hw
    rcases hw with ⟨rfl, h_343, h_344⟩ | ⟨rfl, h_345⟩
    · refine lv_if_eq (tgt := 52) hx hb dX11_house_34 (by decide) (fun c_346 => absurd c_346 (by decide)) (fun c_346 => ?_)
      refine lv_iload hx hb dX11_house_37 (lv_at hl 6 rfl) ?_
      refine lv_iconst (v := 0) hx hb dX11_house_39 (by decide) ?_
      refine lv_bipush (v := 7) hx hb dX11_house_40 (by decide) ?_
      refine pci (va_runS (As := [.int x4, .int 0, .int 7]) (rest := []) ⟨hx, hb, hml, hown, hts⟩ (w_within l D K x4.toInt 0 7 x4 0 7 H.size rfl (show (0 : Int32).toInt = 0 from rfl) (show (7 : Int32).toInt = 7 from rfl)) (va_cwS 3 hts gX11_house_X11_within rfl rfl rfl (by decide +kernel) ⟨Nat.le_of_ble_eq_true rfl, Nat.le_of_ble_eq_true rfl⟩) (mkS hK hN (va_P.nil) (va_D.nil (A := fun _ => True))) rfl rfl hl.1 rfl (lv_room (Nat.le_of_ble_eq_true rfl)) dX11_house_42 ⟨Nat.le_of_ble_eq_true rfl, Nat.le_of_ble_eq_true rfl⟩) (fun r_347 hw => ?_)
      obtain ⟨hw, -⟩ := hw
      rcases hw with ⟨rfl, h_348, h_349⟩ | ⟨rfl, h_350⟩
      · refine lv_if_eq (tgt := 52) hx hb dX11_house_45 (by decide) (fun c_351 => absurd c_351 (by decide)) (fun c_351 => ?_)
        refine lv_iconst (v := 1) hx hb dX11_house_48 (by decide) ?_
        refine lv_goto (tgt := 53) hx hb dX11_house_49 (by decide) ?_
        refine lv_istore (lv' := [(7, .int 1), (6, .int 0), (0, .ref o0), (1, .int x0), (2, .int x1), (3, .int x2), (4, .int x3), (5, .int x4)]) hx hb dX11_house_53 hl (by decide) rfl (fun ls hl => ?_)
        refine lv_iload hx hb dX11_house_55 (lv_at hl 1 rfl) ?_
        refine lv_if_eq (tgt := 76) hx hb dX11_house_57 (by decide) (fun c_352 => ?_) (fun c_352 => absurd (by decide) c_352)
        exact j_335   _ _ hP hD hS ls (lv_sub hl [2] rfl)
      · refine lv_if_eq (tgt := 52) hx hb dX11_house_45 (by decide) (fun c_353 => ?_) (fun c_353 => absurd (by decide) c_353)
        exact j_338 0 (by decide) _ _ hP hD hS ls (lv_sub hl [0, 1, 2, 3, 4, 5, 6] rfl)
    · refine lv_if_eq (tgt := 52) hx hb dX11_house_34 (by decide) (fun c_354 => ?_) (fun c_354 => absurd (by decide) c_354)
      exact j_338 0 (by decide) _ _ hP hD hS ls (lv_sub hl [0, 1, 2, 3, 4, 5, 6] rfl)
  refine pci (va_runS (As := [.int x0, .int 0, .int 6]) (rest := []) ⟨hx, hb, hml, hown, hts⟩ (w_within l D K x0.toInt 0 6 x0 0 6 s.heap.size rfl (show (0 : Int32).toInt = 0 from rfl) (show (6 : Int32).toInt = 6 from rfl)) (va_cwS 3 hts gX11_house_X11_within rfl rfl rfl (by decide +kernel) ⟨Nat.le_of_ble_eq_true rfl, Nat.le_of_ble_eq_true rfl⟩) (mkS hK hN (va_P.nil) (va_D.nil (A := fun _ => True))) rfl rfl hl.1 rfl (lv_room (Nat.le_of_ble_eq_true rfl)) dX11_house_4 ⟨Nat.le_of_ble_eq_true rfl, Nat.le_of_ble_eq_true rfl⟩) (fun r_355 hw => ?_)
  obtain ⟨hw, -⟩ := hw
  rcases hw with ⟨rfl, h_356, h_357⟩ | ⟨rfl, h_358⟩
  · refine lv_if_eq (tgt := 23) hx hb dX11_house_7 (by decide) (fun c_359 => absurd c_359 (by decide)) (fun c_359 => ?_)
    refine lv_iload_n hx hb dX11_house_10 rfl (lv_at hl 2 rfl) ?_
    refine lv_iconst (v := 0) hx hb dX11_house_11 (by decide) ?_
    refine lv_iconst (v := 3) hx hb dX11_house_12 (by decide) ?_
    refine pci (va_runS (As := [.int x1, .int 0, .int 3]) (rest := []) ⟨hx, hb, hml, hown, hts⟩ (w_within l D K x1.toInt 0 3 x1 0 3 s.heap.size rfl (show (0 : Int32).toInt = 0 from rfl) (show (3 : Int32).toInt = 3 from rfl)) (va_cwS 3 hts gX11_house_X11_within rfl rfl rfl (by decide +kernel) ⟨Nat.le_of_ble_eq_true rfl, Nat.le_of_ble_eq_true rfl⟩) (mkS hK hN (va_P.nil) (va_D.nil (A := fun _ => True))) rfl rfl hl.1 rfl (lv_room (Nat.le_of_ble_eq_true rfl)) dX11_house_13 ⟨Nat.le_of_ble_eq_true rfl, Nat.le_of_ble_eq_true rfl⟩) (fun r_360 hw => ?_)
    obtain ⟨hw, -⟩ := hw
    rcases hw with ⟨rfl, h_361, h_362⟩ | ⟨rfl, h_363⟩
    · refine lv_if_eq (tgt := 23) hx hb dX11_house_16 (by decide) (fun c_364 => absurd c_364 (by decide)) (fun c_364 => ?_)
      refine lv_iconst (v := 1) hx hb dX11_house_19 (by decide) ?_
      refine lv_goto (tgt := 24) hx hb dX11_house_20 (by decide) ?_
      refine lv_istore (lv' := [(6, .int 1), (0, .ref o0), (1, .int x0), (2, .int x1), (3, .int x2), (4, .int x3), (5, .int x4)]) hx hb dX11_house_24 hl (by decide) rfl (fun ls hl => ?_)
      refine lv_iload hx hb dX11_house_26 (lv_at hl 5 rfl) ?_
      refine lv_iconst (v := 0) hx hb dX11_house_28 (by decide) ?_
      refine lv_bipush (v := 7) hx hb dX11_house_29 (by decide) ?_
      refine pci (va_runS (As := [.int x3, .int 0, .int 7]) (rest := []) ⟨hx, hb, hml, hown, hts⟩ (w_within l D K x3.toInt 0 7 x3 0 7 s.heap.size rfl (show (0 : Int32).toInt = 0 from rfl) (show (7 : Int32).toInt = 7 from rfl)) (va_cwS 3 hts gX11_house_X11_within rfl rfl rfl (by decide +kernel) ⟨Nat.le_of_ble_eq_true rfl, Nat.le_of_ble_eq_true rfl⟩) (mkS hK hN (va_P.nil) (va_D.nil (A := fun _ => True))) rfl rfl hl.1 rfl (lv_room (Nat.le_of_ble_eq_true rfl)) dX11_house_31 ⟨Nat.le_of_ble_eq_true rfl, Nat.le_of_ble_eq_true rfl⟩) (fun r_365 hw => ?_)
      obtain ⟨hw, -⟩ := hw
      rcases hw with ⟨rfl, h_366, h_367⟩ | ⟨rfl, h_368⟩
      · refine lv_if_eq (tgt := 52) hx hb dX11_house_34 (by decide) (fun c_369 => absurd c_369 (by decide)) (fun c_369 => ?_)
        refine lv_iload hx hb dX11_house_37 (lv_at hl 6 rfl) ?_
        refine lv_iconst (v := 0) hx hb dX11_house_39 (by decide) ?_
        refine lv_bipush (v := 7) hx hb dX11_house_40 (by decide) ?_
        refine pci (va_runS (As := [.int x4, .int 0, .int 7]) (rest := []) ⟨hx, hb, hml, hown, hts⟩ (w_within l D K x4.toInt 0 7 x4 0 7 s.heap.size rfl (show (0 : Int32).toInt = 0 from rfl) (show (7 : Int32).toInt = 7 from rfl)) (va_cwS 3 hts gX11_house_X11_within rfl rfl rfl (by decide +kernel) ⟨Nat.le_of_ble_eq_true rfl, Nat.le_of_ble_eq_true rfl⟩) (mkS hK hN (va_P.nil) (va_D.nil (A := fun _ => True))) rfl rfl hl.1 rfl (lv_room (Nat.le_of_ble_eq_true rfl)) dX11_house_42 ⟨Nat.le_of_ble_eq_true rfl, Nat.le_of_ble_eq_true rfl⟩) (fun r_370 hw => ?_)
        obtain ⟨hw, -⟩ := hw
        rcases hw with ⟨rfl, h_371, h_372⟩ | ⟨rfl, h_373⟩
        · refine lv_if_eq (tgt := 52) hx hb dX11_house_45 (by decide) (fun c_374 => absurd c_374 (by decide)) (fun c_374 => ?_)
          refine lv_iconst (v := 1) hx hb dX11_house_48 (by decide) ?_
          refine lv_goto (tgt := 53) hx hb dX11_house_49 (by decide) ?_
          refine lv_istore (lv' := [(7, .int 1), (6, .int 1), (0, .ref o0), (1, .int x0), (2, .int x1), (3, .int x2), (4, .int x3), (5, .int x4)]) hx hb dX11_house_53 hl (by decide) rfl (fun ls hl => ?_)
          refine lv_iload hx hb dX11_house_55 (lv_at hl 1 rfl) ?_
          refine lv_if_eq (tgt := 76) hx hb dX11_house_57 (by decide) (fun c_375 => absurd c_375 (by decide)) (fun c_375 => ?_)
          refine lv_iload hx hb dX11_house_60 (lv_at hl 0 rfl) ?_
          refine lv_if_eq (tgt := 76) hx hb dX11_house_62 (by decide) (fun c_376 => absurd c_376 (by decide)) (fun c_376 => ?_)
          refine lv_iload_n hx hb dX11_house_65 rfl (lv_at hl 5 rfl) ?_
          refine lv_iconst (v := 0) hx hb dX11_house_66 (by decide) ?_
          refine lv_sipush (v := 999) hx hb dX11_house_67 (by decide) ?_
          refine pci (va_runS (As := [.int x2, .int 0, .int 999]) (rest := []) ⟨hx, hb, hml, hown, hts⟩ (w_within l D K x2.toInt 0 999 x2 0 999 s.heap.size rfl (show (0 : Int32).toInt = 0 from rfl) (show (999 : Int32).toInt = 999 from rfl)) (va_cwS 3 hts gX11_house_X11_within rfl rfl rfl (by decide +kernel) ⟨Nat.le_of_ble_eq_true rfl, Nat.le_of_ble_eq_true rfl⟩) (mkS hK hN (va_P.nil) (va_D.nil (A := fun _ => True))) rfl rfl hl.1 rfl (lv_room (Nat.le_of_ble_eq_true rfl)) dX11_house_70 ⟨Nat.le_of_ble_eq_true rfl, Nat.le_of_ble_eq_true rfl⟩) (fun r_377 hw => ?_)
          obtain ⟨hw, -⟩ := hw
          rcases hw with ⟨rfl, h_378, h_379⟩ | ⟨rfl, h_380⟩
          · refine lv_if_ne (tgt := 82) hx hb dX11_house_73 (by decide) (fun c_381 => ?_) (fun c_381 => absurd c_381 (by decide))
            refine lv_aload_n hx hb dX11_house_82 rfl (lv_at hl 2 rfl) ?_
            refine va_get (ci := 11) (v := .ref t0) (C := RX11) (T := TX11) (N := 17) hx hb hts hw11 hown hK hP 0 rfl rfl 0 (by decide) (hts (.fieldLink RX11 10 "SmokeTune" "town" "LSmokeTune$Town;") (List.mem_cons_of_mem _ (List.mem_append_left _ (List.mem_append_left _ (List.mem_append_left _ (List.mem_append_left _ (List.mem_of_getElem? (i := 0) rfl))))))) (fun _ h9 => h9) rfl dX11_house_83 ?_
            refine lv_iload hx hb dX11_house_86 (lv_at hl 6 rfl) ?_
            refine pci (va_runVN (As := [.int x3]) (rest := []) ⟨hx, hb, hml, hown, hts⟩ (w_dinerOf l D K t0 x3 t1 k_1 k_2 k_3 n k_5 k_6 k_7 k_8 k_9 f s.heap.size (by first | omega | decide)) ⟨va_cnB 1 hts gX11_house_X9_dinerOf_n105 rfl rfl rfl (nst_at hN 15 rfl) (hts (.initialized RX9) (List.mem_cons_of_mem _ (List.mem_append_left _ (List.mem_append_left _ (List.mem_append_left _ (List.mem_append_left _ (List.mem_of_getElem? (i := 13) rfl))))))) (by decide +kernel) ⟨Nat.le_of_ble_eq_true rfl, Nat.le_of_ble_eq_true rfl⟩, (hts (.instanceMethod yX9_dinerOf) (List.mem_cons_of_mem _ (List.mem_append_left _ (List.mem_append_left _ (List.mem_append_left _ (List.mem_append_left _ (List.mem_of_getElem? (i := 12) rfl))))))), (hts (.selects RX9 yX9_dinerOf yX9_dinerOf) (List.mem_cons_of_mem _ (List.mem_append_left _ (List.mem_append_left _ (List.mem_append_left _ (List.mem_append_left _ (List.mem_of_getElem? (i := 14) rfl)))))))⟩ (mkV hK hN (hP.sub [3, 4] rfl) (hD.sub [3, 4] (by decide) rfl) (ci := 9) (q0 := 0) rfl rfl) rfl rfl hl.1 rfl (lv_room (Nat.le_of_ble_eq_true rfl)) dX11_house_88 ⟨Nat.le_of_ble_eq_true rfl, Nat.le_of_ble_eq_true rfl⟩) (fun r_382 hw => ?_)
            obtain ⟨h_383, -⟩ := hw
            refine lv_iconst (v := (-1)) hx hb dX11_house_91 (by decide) ?_
            refine lv_icmp_eq (tgt := 102) hx hb dX11_house_92 (by decide) (fun c_384 => ?_) (fun c_384 => ?_)
            · have c_384i := i_eq (x := r_382.toInt) (y := (-1)) rfl rfl c_384
              refine lv_aload_n hx hb dX11_house_102 rfl (lv_at hl 2 rfl) ?_
              refine va_get (ci := 11) (v := .ref t0) (C := RX11) (T := TX11) (N := 17) hx hb hts hw11 hown hK hP 0 rfl rfl 0 (by decide) (hts (.fieldLink RX11 10 "SmokeTune" "town" "LSmokeTune$Town;") (List.mem_cons_of_mem _ (List.mem_append_left _ (List.mem_append_left _ (List.mem_append_left _ (List.mem_append_left _ (List.mem_of_getElem? (i := 0) rfl))))))) (fun _ h9 => h9) rfl dX11_house_103 ?_
              refine va_getN (ci := 9) (v := .int n) (C := RX9) (T := TX9) (N := 10) hx hb hts hw9 hown hK hP 3 rfl rfl 4 (by decide) (nst_use hN 107 rfl) (fun _ h9 => h9) rfl dX11_house_106 ?_
              refine lv_bipush (v := 8) hx hb dX11_house_109 (by decide) ?_
              refine lv_icmp_lt (tgt := 121) hx hb dX11_house_111 (by decide) (fun c_385 => ?_) (fun c_385 => ?_)
              · have c_385i := i_lt (x := n.toInt) (y := 8) rfl rfl c_385
                refine lv_aload_n hx hb dX11_house_121 rfl (lv_at hl 2 rfl) ?_
                refine va_get (ci := 11) (v := .ref h0) (C := RX11) (T := TX11) (N := 17) hx hb hts hw11 hown hK hP 0 rfl rfl 9 (by decide) (hts (.fieldLink RX11 61 "SmokeTune" "history" "LSmokeTune$History;") (List.mem_cons_of_mem _ (List.mem_append_left _ (List.mem_append_left _ (List.mem_append_left _ (List.mem_append_left _ (List.mem_of_getElem? (i := 1) rfl))))))) (fun _ h9 => h9) rfl dX11_house_122 ?_
                refine kcv (S := Su) (wr := [(o0, .inr (11, [.ref t0, o_1, o_2, o_3, o_4, o_5, o_6, o_7, o_8, .ref h0, o_10, o_11, .ref rf, .int rb, o_14, o_15, o_16])), (rf, .inl (K 0, 5, .inl frf)), (t0, .inr (9, [.ref t1, k_1, k_2, k_3, .int n, k_5, k_6, k_7, k_8, k_9])), (t1, .inl (K 0, 56, .inl f))]) (va_runVN (As := []) (rest := []) ⟨hx, hb, hml, hown, hts⟩ (w_clear l D K h0 h1 dr kp s.heap.size) ⟨va_cnB 0 hts gX11_house_X2_clear_n111 rfl rfl rfl (nst_at hN 16 rfl) (hts (.initialized RX2) (List.mem_cons_of_mem _ (List.mem_append_left _ (List.mem_append_left _ (List.mem_append_left _ (List.mem_append_left _ (List.mem_of_getElem? (i := 23) rfl))))))) (by decide +kernel) ⟨Nat.le_of_ble_eq_true rfl, Nat.le_of_ble_eq_true rfl⟩, (hts (.instanceMethod yX2_clear) (List.mem_cons_of_mem _ (List.mem_append_left _ (List.mem_append_left _ (List.mem_append_left _ (List.mem_append_left _ (List.mem_of_getElem? (i := 22) rfl))))))), (hts (.selects RX2 yX2_clear yX2_clear) (List.mem_cons_of_mem _ (List.mem_append_left _ (List.mem_append_left _ (List.mem_append_left _ (List.mem_append_right _ (List.mem_of_getElem? (i := 0) rfl)))))))⟩ (mkV hK hN (hP.sub [2] rfl) (hD.sub [2] (by decide) rfl) (ci := 2) (q0 := 0) rfl rfl) rfl rfl hl.1 rfl (lv_room (Nat.le_of_ble_eq_true rfl)) dX11_house_125 ⟨Nat.le_of_ble_eq_true rfl, Nat.le_of_ble_eq_true rfl⟩) hP hD hS hA [2] [0, 1, 3, 4] rfl rfl (by decide) (by decide) (fun u_387 H locs hw hP hD hS => ?_)
                have hP : va_P D vwCl [(o0, .inr (11, [.ref t0, o_1, o_2, o_3, o_4, o_5, o_6, o_7, o_8, .ref h0, o_10, o_11, .ref rf, .int rb, o_14, o_15, o_16])), (rf, .inl (K 0, 5, .inl frf)), (t0, .inr (9, [.ref t1, k_1, k_2, k_3, .int n, k_5, k_6, k_7, k_8, k_9])), (t1, .inl (K 0, 56, .inl f)), (h0, .inr (2, [.ref h1, .int dr, .int 0]))] H := hP
                have hD : va_D A [(o0, .inr (11, [.ref t0, o_1, o_2, o_3, o_4, o_5, o_6, o_7, o_8, .ref h0, o_10, o_11, .ref rf, .int rb, o_14, o_15, o_16])), (rf, .inl (K 0, 5, .inl frf)), (t0, .inr (9, [.ref t1, k_1, k_2, k_3, .int n, k_5, k_6, k_7, k_8, k_9])), (t1, .inl (K 0, 56, .inl f)), (h0, .inr (2, [.ref h1, .int dr, .int 0]))] := hD
                refine lv_aload_n hx hb dX11_house_128 rfl (lv_at hl 2 rfl) ?_
                refine lv_aload_n hx hb dX11_house_129 rfl (lv_at hl 2 rfl) ?_
                refine va_get (ci := 11) (v := .ref t0) (C := RX11) (T := TX11) (N := 17) hx hb hts hw11 hown hK hP 0 rfl rfl 0 (by decide) (hts (.fieldLink RX11 10 "SmokeTune" "town" "LSmokeTune$Town;") (List.mem_cons_of_mem _ (List.mem_append_left _ (List.mem_append_left _ (List.mem_append_left _ (List.mem_append_left _ (List.mem_of_getElem? (i := 0) rfl))))))) (fun _ h9 => h9) rfl dX11_house_130 ?_
                refine lv_iload_n hx hb dX11_house_133 rfl (lv_at hl 3 rfl) ?_
                refine lv_iload_n hx hb dX11_house_134 rfl (lv_at hl 4 rfl) ?_
                refine lv_iload_n hx hb dX11_house_135 rfl (lv_at hl 5 rfl) ?_
                refine lv_iload hx hb dX11_house_136 (lv_at hl 6 rfl) ?_
                refine lv_iload hx hb dX11_house_138 (lv_at hl 7 rfl) ?_
                refine kci (S := Su) (wr := [(o0, .inr (11, [.ref t0, o_1, o_2, o_3, o_4, o_5, o_6, o_7, o_8, .ref h0, o_10, o_11, .ref rf, .int rb, o_14, o_15, o_16])), (rf, .inl (K 0, 5, .inl frf)), (h0, .inr (2, [.ref h1, .int dr, .int 0]))]) (va_runVN (As := [.int x0, .int x1, .int x2, .int x3, .int x4]) (rest := [.ref o0]) ⟨hx, hb, hml, hown, hts⟩ (w_build l D K t0 x0 x1 x2 x3 x4 t1 k_1 k_2 k_3 n k_5 k_6 k_7 k_8 k_9 f H.size (by first | omega | decide)) ⟨va_cnB 5 hts gX11_house_X9_build_n114 rfl rfl rfl (nst_at hN 17 rfl) (hts (.initialized RX9) (List.mem_cons_of_mem _ (List.mem_append_left _ (List.mem_append_left _ (List.mem_append_left _ (List.mem_append_left _ (List.mem_of_getElem? (i := 13) rfl))))))) (by decide +kernel) ⟨Nat.le_of_ble_eq_true rfl, Nat.le_of_ble_eq_true rfl⟩, (hts (.instanceMethod yX9_build) (List.mem_cons_of_mem _ (List.mem_append_left _ (List.mem_append_left _ (List.mem_append_left _ (List.mem_append_right _ (List.mem_of_getElem? (i := 3) rfl))))))), (hts (.selects RX9 yX9_build yX9_build) (List.mem_cons_of_mem _ (List.mem_append_left _ (List.mem_append_left _ (List.mem_append_left _ (List.mem_append_right _ (List.mem_of_getElem? (i := 4) rfl)))))))⟩ (mkV hK hN (hP.sub [2, 3] rfl) (hD.sub [2, 3] (by decide) rfl) (ci := 9) (q0 := 0) rfl rfl) rfl rfl hl.1 rfl (lv_room (Nat.le_of_ble_eq_true rfl)) dX11_house_140 ⟨Nat.le_of_ble_eq_true rfl, Nat.le_of_ble_eq_true rfl⟩) hP hD hS hA [2, 3] [0, 1, 4] rfl rfl (by decide) (by decide) (fun r_388 u_389 H locs hw hP hD hS => ?_)
                have hP : va_P D vwCl [(o0, .inr (11, [.ref t0, o_1, o_2, o_3, o_4, o_5, o_6, o_7, o_8, .ref h0, o_10, o_11, .ref rf, .int rb, o_14, o_15, o_16])), (rf, .inl (K 0, 5, .inl frf)), (h0, .inr (2, [.ref h1, .int dr, .int 0])), (t0, .inr (9, [.ref t1, k_1, k_2, k_3, .int (u_389.2.2.2.1 0), k_5, k_6, k_7, k_8, k_9])), (t1, .inl (K 0, 56, .inl (u_389.2.1 0)))] H := hP
                have hD : va_D A [(o0, .inr (11, [.ref t0, o_1, o_2, o_3, o_4, o_5, o_6, o_7, o_8, .ref h0, o_10, o_11, .ref rf, .int rb, o_14, o_15, o_16])), (rf, .inl (K 0, 5, .inl frf)), (h0, .inr (2, [.ref h1, .int dr, .int 0])), (t0, .inr (9, [.ref t1, k_1, k_2, k_3, .int (u_389.2.2.2.1 0), k_5, k_6, k_7, k_8, k_9])), (t1, .inl (K 0, 56, .inl (u_389.2.1 0)))] := hD
                obtain ⟨h_391, k_390, -⟩ := hw
                refine kci (S := Su) (wr := [(rf, .inl (K 0, 5, .inl frf)), (h0, .inr (2, [.ref h1, .int dr, .int 0])), (t0, .inr (9, [.ref t1, k_1, k_2, k_3, .int (u_389.2.2.2.1 0), k_5, k_6, k_7, k_8, k_9])), (t1, .inl (K 0, 56, .inl (u_389.2.1 0)))]) (va_runV (As := [.int r_388]) (rest := []) ⟨hx, hb, hml, hown, hts⟩ (w_accept l D K o0 r_388 (.ref t0) o_1 o_2 o_3 o_4 o_5 o_6 o_7 o_8 (.ref h0) o_10 o_11 (.ref rf) rb o_14 o_15 o_16 H.size) (cwV 1 hts gX11_house_X11_accept rfl rfl rfl (by decide +kernel) ⟨Nat.le_of_ble_eq_true rfl, Nat.le_of_ble_eq_true rfl⟩) (mkV hK hN (hP.sub [0] rfl) (hD.sub [0] (by decide) rfl) (ci := 11) (q0 := 0) rfl rfl) rfl rfl hl.1 rfl (lv_room (Nat.le_of_ble_eq_true rfl)) dX11_house_143 ⟨Nat.le_of_ble_eq_true rfl, Nat.le_of_ble_eq_true rfl⟩) hP hD hS hA [0] [1, 2, 3, 4] rfl rfl (by decide) (by decide) (fun r_392 u_393 H locs hw hP hD hS => ?_)
                have hP : va_P D vwCl [(rf, .inl (K 0, 5, .inl frf)), (h0, .inr (2, [.ref h1, .int dr, .int 0])), (t0, .inr (9, [.ref t1, k_1, k_2, k_3, .int (u_389.2.2.2.1 0), k_5, k_6, k_7, k_8, k_9])), (t1, .inl (K 0, 56, .inl (u_389.2.1 0))), (o0, .inr (11, [.ref t0, o_1, o_2, o_3, o_4, o_5, o_6, o_7, o_8, .ref h0, o_10, o_11, .ref rf, .int 0, o_14, o_15, o_16]))] H := hP
                have hD : va_D A [(rf, .inl (K 0, 5, .inl frf)), (h0, .inr (2, [.ref h1, .int dr, .int 0])), (t0, .inr (9, [.ref t1, k_1, k_2, k_3, .int (u_389.2.2.2.1 0), k_5, k_6, k_7, k_8, k_9])), (t1, .inl (K 0, 56, .inl (u_389.2.1 0))), (o0, .inr (11, [.ref t0, o_1, o_2, o_3, o_4, o_5, o_6, o_7, o_8, .ref h0, o_10, o_11, .ref rf, .int 0, o_14, o_15, o_16]))] := hD
                obtain ⟨hw, -⟩ := hw
                have er_r_392 := hw
                have hr_r_392 : r_392.toInt = r_388.toInt := (congrArg Int32.toInt er_r_392).trans rfl
                rw [← hQ]
                have hP9 := hP.sub (ws' := [(o0, .inr (11, [.ref t0, o_1, o_2, o_3, o_4, o_5, o_6, o_7, o_8, .ref h0, o_10, o_11, .ref rf, .int 0, o_14, o_15, o_16])), (rf, .inl (K 0, 5, .inl frf)), (h0, .inr (2, [.ref h1, .int dr, .int 0])), (t0, .inr (9, [.ref t1, k_1, k_2, k_3, .int (u_389.2.2.2.1 0), k_5, k_6, k_7, k_8, k_9])), (t1, .inl (K 0, 56, .inl (u_389.2.1 0)))]) [4, 0, 1, 2, 3] rfl
                have hD9 := hD.sub (ws' := [(o0, .inr (11, [.ref t0, o_1, o_2, o_3, o_4, o_5, o_6, o_7, o_8, .ref h0, o_10, o_11, .ref rf, .int 0, o_14, o_15, o_16])), (rf, .inl (K 0, 5, .inl frf)), (h0, .inr (2, [.ref h1, .int dr, .int 0])), (t0, .inr (9, [.ref t1, k_1, k_2, k_3, .int (u_389.2.2.2.1 0), k_5, k_6, k_7, k_8, k_9])), (t1, .inl (K 0, 56, .inl (u_389.2.1 0)))]) [4, 0, 1, 2, 3] (by decide) rfl
                exact W.iret (v := r_392) hx hb hr (fun t ht hW => ⟨⟨r_392, ((fun _ => 0, fun i => match i with | 0 => frf | _ => (u_389.2.1 0), fun _ => fun _ => 0, fun i => match i with | 0 => 0 | 1 => 0 | _ => (u_389.2.2.2.1 0), fun _ => 0, fun _ => fun _ => none) : Su), rfl, ⟨(show 0 ≤ (0 : Int32).toInt ∧ (0 : Int32).toInt ≤ 16 by decide), (show 0 ≤ ((u_389.2.2.2.1 0) : Int32).toInt ∧ ((u_389.2.2.2.1 0) : Int32).toInt ≤ 8 by omega), trivial⟩, (⟨by rw [ht]; exact hP9, hD9⟩ : Wd D A _ t)⟩, hS.F ht⟩) hS.2.2 dX11_house_146
              · have c_385i := i_nlt (x := n.toInt) (y := 8) rfl rfl c_385
                refine lv_aload_n hx hb dX11_house_114 rfl (lv_at hl 2 rfl) ?_
                refine lv_bipush (v := (-5)) hx hb dX11_house_115 (by decide) ?_
                refine kci (S := Su) (wr := [(h0, .inr (2, [.ref h1, .int dr, .int kp])), (t0, .inr (9, [.ref t1, k_1, k_2, k_3, .int n, k_5, k_6, k_7, k_8, k_9])), (t1, .inl (K 0, 56, .inl f))]) (va_runV (As := [.int (-5)]) (rest := []) ⟨hx, hb, hml, hown, hts⟩ (w_refuse l D K o0 (-5) (.ref t0) o_1 o_2 o_3 o_4 o_5 o_6 o_7 o_8 (.ref h0) o_10 o_11 rf rb o_14 o_15 o_16 frf s.heap.size) (cwV 1 hts gX11_house_X11_refuse rfl rfl rfl (by decide +kernel) ⟨Nat.le_of_ble_eq_true rfl, Nat.le_of_ble_eq_true rfl⟩) (mkV hK hN (hP.sub [0, 1] rfl) (hD.sub [0, 1] (by decide) rfl) (ci := 11) (q0 := 0) rfl rfl) rfl rfl hl.1 rfl (lv_room (Nat.le_of_ble_eq_true rfl)) dX11_house_117 ⟨Nat.le_of_ble_eq_true rfl, Nat.le_of_ble_eq_true rfl⟩) hP hD hS hA [0, 1] [2, 3, 4] rfl rfl (by decide) (by decide) (fun r_394 u_395 H locs hw hP hD hS => ?_)
                have hP : va_P D vwCl [(h0, .inr (2, [.ref h1, .int dr, .int kp])), (t0, .inr (9, [.ref t1, k_1, k_2, k_3, .int n, k_5, k_6, k_7, k_8, k_9])), (t1, .inl (K 0, 56, .inl f)), (o0, .inr (11, [.ref t0, o_1, o_2, o_3, o_4, o_5, o_6, o_7, o_8, .ref h0, o_10, o_11, .ref rf, .int (u_395.2.2.2.1 0), o_14, o_15, o_16])), (rf, .inl (K 0, 5, .inl (u_395.2.1 0)))] H := hP
                have hD : va_D A [(h0, .inr (2, [.ref h1, .int dr, .int kp])), (t0, .inr (9, [.ref t1, k_1, k_2, k_3, .int n, k_5, k_6, k_7, k_8, k_9])), (t1, .inl (K 0, 56, .inl f)), (o0, .inr (11, [.ref t0, o_1, o_2, o_3, o_4, o_5, o_6, o_7, o_8, .ref h0, o_10, o_11, .ref rf, .int (u_395.2.2.2.1 0), o_14, o_15, o_16])), (rf, .inl (K 0, 5, .inl (u_395.2.1 0)))] := hD
                rw [← hQ]
                have hP9 := hP.sub (ws' := [(o0, .inr (11, [.ref t0, o_1, o_2, o_3, o_4, o_5, o_6, o_7, o_8, .ref h0, o_10, o_11, .ref rf, .int (u_395.2.2.2.1 0), o_14, o_15, o_16])), (rf, .inl (K 0, 5, .inl (u_395.2.1 0))), (h0, .inr (2, [.ref h1, .int dr, .int kp])), (t0, .inr (9, [.ref t1, k_1, k_2, k_3, .int n, k_5, k_6, k_7, k_8, k_9])), (t1, .inl (K 0, 56, .inl f))]) [3, 4, 0, 1, 2] rfl
                have hD9 := hD.sub (ws' := [(o0, .inr (11, [.ref t0, o_1, o_2, o_3, o_4, o_5, o_6, o_7, o_8, .ref h0, o_10, o_11, .ref rf, .int (u_395.2.2.2.1 0), o_14, o_15, o_16])), (rf, .inl (K 0, 5, .inl (u_395.2.1 0))), (h0, .inr (2, [.ref h1, .int dr, .int kp])), (t0, .inr (9, [.ref t1, k_1, k_2, k_3, .int n, k_5, k_6, k_7, k_8, k_9])), (t1, .inl (K 0, 56, .inl f))]) [3, 4, 0, 1, 2] (by decide) rfl
                exact W.iret (v := r_394) hx hb hr (fun t ht hW => ⟨⟨r_394, ((fun _ => 0, fun i => match i with | 0 => (u_395.2.1 0) | _ => f, fun _ => fun _ => 0, fun i => match i with | 0 => (u_395.2.2.2.1 0) | 1 => kp | _ => n, fun _ => 0, fun _ => fun _ => none) : Su), rfl, ⟨(show 0 ≤ (kp : Int32).toInt ∧ (kp : Int32).toInt ≤ 16 by omega), (show 0 ≤ (n : Int32).toInt ∧ (n : Int32).toInt ≤ 8 by omega), trivial⟩, (⟨by rw [ht]; exact hP9, hD9⟩ : Wd D A _ t)⟩, hS.F ht⟩) hS.2.2 dX11_house_120
            · have c_384i := i_ne (x := r_382.toInt) (y := (-1)) rfl rfl c_384
              refine lv_aload_n hx hb dX11_house_95 rfl (lv_at hl 2 rfl) ?_
              refine lv_bipush (v := (-3)) hx hb dX11_house_96 (by decide) ?_
              refine kci (S := Su) (wr := [(h0, .inr (2, [.ref h1, .int dr, .int kp])), (t0, .inr (9, [.ref t1, k_1, k_2, k_3, .int n, k_5, k_6, k_7, k_8, k_9])), (t1, .inl (K 0, 56, .inl f))]) (va_runV (As := [.int (-3)]) (rest := []) ⟨hx, hb, hml, hown, hts⟩ (w_refuse l D K o0 (-3) (.ref t0) o_1 o_2 o_3 o_4 o_5 o_6 o_7 o_8 (.ref h0) o_10 o_11 rf rb o_14 o_15 o_16 frf s.heap.size) (cwV 1 hts gX11_house_X11_refuse rfl rfl rfl (by decide +kernel) ⟨Nat.le_of_ble_eq_true rfl, Nat.le_of_ble_eq_true rfl⟩) (mkV hK hN (hP.sub [0, 1] rfl) (hD.sub [0, 1] (by decide) rfl) (ci := 11) (q0 := 0) rfl rfl) rfl rfl hl.1 rfl (lv_room (Nat.le_of_ble_eq_true rfl)) dX11_house_98 ⟨Nat.le_of_ble_eq_true rfl, Nat.le_of_ble_eq_true rfl⟩) hP hD hS hA [0, 1] [2, 3, 4] rfl rfl (by decide) (by decide) (fun r_396 u_397 H locs hw hP hD hS => ?_)
              have hP : va_P D vwCl [(h0, .inr (2, [.ref h1, .int dr, .int kp])), (t0, .inr (9, [.ref t1, k_1, k_2, k_3, .int n, k_5, k_6, k_7, k_8, k_9])), (t1, .inl (K 0, 56, .inl f)), (o0, .inr (11, [.ref t0, o_1, o_2, o_3, o_4, o_5, o_6, o_7, o_8, .ref h0, o_10, o_11, .ref rf, .int (u_397.2.2.2.1 0), o_14, o_15, o_16])), (rf, .inl (K 0, 5, .inl (u_397.2.1 0)))] H := hP
              have hD : va_D A [(h0, .inr (2, [.ref h1, .int dr, .int kp])), (t0, .inr (9, [.ref t1, k_1, k_2, k_3, .int n, k_5, k_6, k_7, k_8, k_9])), (t1, .inl (K 0, 56, .inl f)), (o0, .inr (11, [.ref t0, o_1, o_2, o_3, o_4, o_5, o_6, o_7, o_8, .ref h0, o_10, o_11, .ref rf, .int (u_397.2.2.2.1 0), o_14, o_15, o_16])), (rf, .inl (K 0, 5, .inl (u_397.2.1 0)))] := hD
              rw [← hQ]
              have hP9 := hP.sub (ws' := [(o0, .inr (11, [.ref t0, o_1, o_2, o_3, o_4, o_5, o_6, o_7, o_8, .ref h0, o_10, o_11, .ref rf, .int (u_397.2.2.2.1 0), o_14, o_15, o_16])), (rf, .inl (K 0, 5, .inl (u_397.2.1 0))), (h0, .inr (2, [.ref h1, .int dr, .int kp])), (t0, .inr (9, [.ref t1, k_1, k_2, k_3, .int n, k_5, k_6, k_7, k_8, k_9])), (t1, .inl (K 0, 56, .inl f))]) [3, 4, 0, 1, 2] rfl
              have hD9 := hD.sub (ws' := [(o0, .inr (11, [.ref t0, o_1, o_2, o_3, o_4, o_5, o_6, o_7, o_8, .ref h0, o_10, o_11, .ref rf, .int (u_397.2.2.2.1 0), o_14, o_15, o_16])), (rf, .inl (K 0, 5, .inl (u_397.2.1 0))), (h0, .inr (2, [.ref h1, .int dr, .int kp])), (t0, .inr (9, [.ref t1, k_1, k_2, k_3, .int n, k_5, k_6, k_7, k_8, k_9])), (t1, .inl (K 0, 56, .inl f))]) [3, 4, 0, 1, 2] (by decide) rfl
              exact W.iret (v := r_396) hx hb hr (fun t ht hW => ⟨⟨r_396, ((fun _ => 0, fun i => match i with | 0 => (u_397.2.1 0) | _ => f, fun _ => fun _ => 0, fun i => match i with | 0 => (u_397.2.2.2.1 0) | 1 => kp | _ => n, fun _ => 0, fun _ => fun _ => none) : Su), rfl, ⟨(show 0 ≤ (kp : Int32).toInt ∧ (kp : Int32).toInt ≤ 16 by omega), (show 0 ≤ (n : Int32).toInt ∧ (n : Int32).toInt ≤ 8 by omega), trivial⟩, (⟨by rw [ht]; exact hP9, hD9⟩ : Wd D A _ t)⟩, hS.F ht⟩) hS.2.2 dX11_house_101
          · refine lv_if_ne (tgt := 82) hx hb dX11_house_73 (by decide) (fun c_398 => absurd (by decide) c_398) (fun c_398 => ?_)
            exact j_335   _ _ hP hD hS ls (lv_sub hl [2] rfl)
        · refine lv_if_eq (tgt := 52) hx hb dX11_house_45 (by decide) (fun c_399 => ?_) (fun c_399 => absurd (by decide) c_399)
          exact j_338 1 (by decide) _ _ hP hD hS ls (lv_sub hl [0, 1, 2, 3, 4, 5, 6] rfl)
      · refine lv_if_eq (tgt := 52) hx hb dX11_house_34 (by decide) (fun c_400 => ?_) (fun c_400 => absurd (by decide) c_400)
        exact j_338 1 (by decide) _ _ hP hD hS ls (lv_sub hl [0, 1, 2, 3, 4, 5, 6] rfl)
    · refine lv_if_eq (tgt := 23) hx hb dX11_house_16 (by decide) (fun c_401 => ?_) (fun c_401 => absurd (by decide) c_401)
      exact j_341   _ _ hP hD hS ls (lv_sub hl [0, 1, 2, 3, 4, 5] rfl)
  · refine lv_if_eq (tgt := 23) hx hb dX11_house_7 (by decide) (fun c_402 => ?_) (fun c_402 => absurd (by decide) c_402)
    exact j_341   _ _ hP hD hS ls (lv_sub hl [0, 1, 2, 3, 4, 5] rfl)
set_option maxHeartbeats 4000000 in
set_option maxRecDepth 100000 in
theorem w_of (l : Launch) (D : va_G) (K : Nat → ClassId) (g : Nat → Nat) (L : Nat → Prop) (o0 : Nat) (x : Int32) (y : Int32) (t0 : Nat) (o_1 : Value) (o_2 : Value) (o_3 : Value) (o_4 : Value) (o_5 : Value) (o_6 : Value) (o_7 : Value) (a0 : Nat) (o_9 : Value) (o_10 : Value) (o_11 : Value) (o_12 : Value) (o_13 : Value) (o_14 : Value) (o_15 : Value) (o_16 : Value) (m0 : Nat) (w0 : Nat) (m1 : Nat) (br : Int32) (fs : Nat → Int32) (fw : Nat → Int32) (t1 : Nat) (t3 : Nat) (t2 : Nat) (l0 : Nat) (n : Int32) (lt : Int32) (nf : Int32) (fi : Int32) (k_8 : Value) (k_9 : Value) (f1 : Nat → Int32) (f2 : Nat → Int32) (f3 : Nat → Int32) (fl : Nat → Option Nat) (sz : Nat) (zn : 0 ≤ n.toInt ∧ n.toInt ≤ 8) (zlt : 0 ≤ lt.toInt ∧ lt.toInt ≤ 6) (zbr : 0 ≤ br.toInt ∧ br.toInt ≤ 1) (zfl : InL L fl) : Met l yX11_of wsX11_of ({ frames := 3, cells := 0, slots := 0, locals := 81 }) (va_Pc [.ref o0, .int x, .int y] (PreY D K [(o0, .inr (11, [.ref t0, o_1, o_2, o_3, o_4, o_5, o_6, o_7, .ref a0, o_9, o_10, o_11, o_12, o_13, o_14, o_15, o_16])), (a0, .inr (0, [.ref m0, .ref w0])), (m0, .inr (3, [.ref m1, .int br])), (m1, .inl (K 0, 64, .inl fs)), (w0, .inl (K 0, 9, .inl fw)), (t0, .inr (9, [.ref t1, .ref t3, .ref t2, .ref l0, .int n, .int lt, .int nf, .int fi, k_8, k_9])), (t1, .inl (K 0, 56, .inl f1)), (t2, .inl (K 0, 6, .inl f2)), (t3, .inl (K 0, 24, .inl f3)), (l0, .inl (K 4, 6, .inr (.inr (.inr (.inr fl)))))] [] sz g L (va_A [(o0, .inr (11, [.ref t0, o_1, o_2, o_3, o_4, o_5, o_6, o_7, .ref a0, o_9, o_10, o_11, o_12, o_13, o_14, o_15, o_16])), (a0, .inr (0, [.ref m0, .ref w0])), (m0, .inr (3, [.ref m1, .int br])), (m1, .inl (K 0, 64, .inl fs)), (w0, .inl (K 0, 9, .inl fw)), (t0, .inr (9, [.ref t1, .ref t3, .ref t2, .ref l0, .int n, .int lt, .int nf, .int fi, k_8, k_9])), (t1, .inl (K 0, 56, .inl f1)), (t2, .inl (K 0, 6, .inl f2)), (t3, .inl (K 0, 24, .inl f3)), (l0, .inl (K 4, 6, .inr (.inr (.inr (.inr fl)))))] sz))) (va_Qi (S := Su) (fun (r : Int32) (u : Su) => (0 ≤ (u.2.2.2.1 0).toInt ∧ (u.2.2.2.1 0).toInt ≤ 1) ∧ True) (fun u t => Wd D (va_A [(o0, .inr (11, [.ref t0, o_1, o_2, o_3, o_4, o_5, o_6, o_7, .ref a0, o_9, o_10, o_11, o_12, o_13, o_14, o_15, o_16])), (a0, .inr (0, [.ref m0, .ref w0])), (m0, .inr (3, [.ref m1, .int br])), (m1, .inl (K 0, 64, .inl fs)), (w0, .inl (K 0, 9, .inl fw)), (t0, .inr (9, [.ref t1, .ref t3, .ref t2, .ref l0, .int n, .int lt, .int nf, .int fi, k_8, k_9])), (t1, .inl (K 0, 56, .inl f1)), (t2, .inl (K 0, 6, .inl f2)), (t3, .inl (K 0, 24, .inl f3)), (l0, .inl (K 4, 6, .inr (.inr (.inr (.inr fl)))))] sz) ((fun u => [(o0, .inr (11, [.ref t0, o_1, o_2, o_3, o_4, o_5, o_6, o_7, .ref a0, o_9, o_10, o_11, o_12, o_13, o_14, o_15, o_16])), (a0, .inr (0, [.ref m0, .ref w0])), (m0, .inr (3, [.ref m1, .int (u.2.2.2.1 0)])), (m1, .inl (K 0, 64, .inl (u.2.1 0))), (w0, .inl (K 0, 9, .inl (u.2.1 1))), (t0, .inr (9, [.ref t1, .ref t3, .ref t2, .ref l0, .int n, .int lt, .int nf, .int fi, k_8, k_9])), (t1, .inl (K 0, 56, .inl f1)), (t2, .inl (K 0, 6, .inl f2)), (t3, .inl (K 0, 24, .inl f3)), (l0, .inl (K 4, 6, .inr (.inr (.inr (.inr fl)))))]) u) t) (va_A [(o0, .inr (11, [.ref t0, o_1, o_2, o_3, o_4, o_5, o_6, o_7, .ref a0, o_9, o_10, o_11, o_12, o_13, o_14, o_15, o_16])), (a0, .inr (0, [.ref m0, .ref w0])), (m0, .inr (3, [.ref m1, .int br])), (m1, .inl (K 0, 64, .inl fs)), (w0, .inl (K 0, 9, .inl fw)), (t0, .inr (9, [.ref t1, .ref t3, .ref t2, .ref l0, .int n, .int lt, .int nf, .int fi, k_8, k_9])), (t1, .inl (K 0, 56, .inl f1)), (t2, .inl (K 0, 6, .inl f2)), (t3, .inl (K 0, 24, .inl f3)), (l0, .inl (K 4, 6, .inr (.inr (.inr (.inr fl)))))] sz)) 0 0 (va_A [(o0, .inr (11, [.ref t0, o_1, o_2, o_3, o_4, o_5, o_6, o_7, .ref a0, o_9, o_10, o_11, o_12, o_13, o_14, o_15, o_16])), (a0, .inr (0, [.ref m0, .ref w0])), (m0, .inr (3, [.ref m1, .int br])), (m1, .inl (K 0, 64, .inl fs)), (w0, .inl (K 0, 9, .inl fw)), (t0, .inr (9, [.ref t1, .ref t3, .ref t2, .ref l0, .int n, .int lt, .int nf, .int fi, k_8, k_9])), (t1, .inl (K 0, 56, .inl f1)), (t2, .inl (K 0, 6, .inl f2)), (t3, .inl (K 0, 24, .inl f3)), (l0, .inl (K 4, 6, .inr (.inr (.inr (.inr fl)))))] sz) := by
  refine Met.ofW (cc := cX11_of) (maxL := 3) (ret := (some .int)) (by decide) rfl ?_
  intro p e s m args below meth c s₁ B hml hv
  obtain ⟨rfl, ⟨hsz, hP, hK, hD0, hN⟩, hG, hPl, hRo⟩ := hv
  have hx := B.exec
  have hb := B.bytes
  have hr := B.returns
  have hts := atoms_spec (ws := wsX11_of) B.pre
  have hown : s.vm.findClass RX11 = some m.cls := findClass_of_methodNamed B.named
  have hlocks := B.notSynchronized
  subst hsz
  have hD := hD0.self (sz := s.heap.size)
  generalize hAe : va_A [(o0, .inr (11, [.ref t0, o_1, o_2, o_3, o_4, o_5, o_6, o_7, .ref a0, o_9, o_10, o_11, o_12, o_13, o_14, o_15, o_16])), (a0, .inr (0, [.ref m0, .ref w0])), (m0, .inr (3, [.ref m1, .int br])), (m1, .inl (K 0, 64, .inl fs)), (w0, .inl (K 0, 9, .inl fw)), (t0, .inr (9, [.ref t1, .ref t3, .ref t2, .ref l0, .int n, .int lt, .int nf, .int fi, k_8, k_9])), (t1, .inl (K 0, 56, .inl f1)), (t2, .inl (K 0, 6, .inl f2)), (t3, .inl (K 0, 24, .inl f3)), (l0, .inl (K 4, 6, .inr (.inr (.inr (.inr fl)))))] s.heap.size = A at hD hG hPl hRo ⊢
  have hA : ∀ q : Nat, s.heap.size ≤ q → A q := fun q h => by rw [← hAe]; exact Or.inr h
  have hS : va_S A s.heap s.heap [] := va_S.rf
  have hP : va_P D vwCl [(o0, .inr (11, [.ref t0, o_1, o_2, o_3, o_4, o_5, o_6, o_7, .ref a0, o_9, o_10, o_11, o_12, o_13, o_14, o_15, o_16])), (a0, .inr (0, [.ref m0, .ref w0])), (m0, .inr (3, [.ref m1, .int br])), (m1, .inl (K 0, 64, .inl fs)), (w0, .inl (K 0, 9, .inl fw)), (t0, .inr (9, [.ref t1, .ref t3, .ref t2, .ref l0, .int n, .int lt, .int nf, .int fi, k_8, k_9])), (t1, .inl (K 0, 56, .inl f1)), (t2, .inl (K 0, 6, .inl f2)), (t3, .inl (K 0, 24, .inl f3)), (l0, .inl (K 4, 6, .inr (.inr (.inr (.inr fl)))))] s.heap := hP
  have hl := lv_entry [.ref o0, .int x, .int y] (n := 3) (Nat.le_of_ble_eq_true rfl)
  rw [lg_entry_eq]
  generalize (lg_sl [.ref o0, .int x, .int y] ++ List.replicate (3 - (lg_sl [.ref o0, .int x, .int y]).length) Slot.unset).toArray = ls at hl ⊢
  have hl : lv_has ls 3 [(0, .ref o0), (1, .int x), (2, .int y)] := hl
  have hw0 : ∀ w ∈ wsX00, w ∈ wsX11_of := fun w h => (List.mem_cons_of_mem _ (List.mem_append_left _ (List.mem_append_left _ (List.mem_append_right _ h))))
  have hw3 : ∀ w ∈ wsX30, w ∈ wsX11_of := fun w h => (List.mem_cons_of_mem _ (List.mem_append_right _ h))
  have hw7 : ∀ w ∈ wsX70, w ∈ wsX11_of := fun w h => (List.mem_cons_of_mem _ (List.mem_append_left _ (List.mem_append_right _ h)))
  have hw9 : ∀ w ∈ wsX90, w ∈ wsX11_of := fun w h => (List.mem_cons_of_mem _ (List.mem_append_left _ (List.mem_append_left _ (List.mem_append_left _ (List.mem_append_right _ h)))))
  have hw11 : ∀ w ∈ wsX110, w ∈ wsX11_of := fun w h => (List.mem_cons_of_mem _ (List.mem_append_left _ (List.mem_append_left _ (List.mem_append_left _ (List.mem_append_left _ (List.mem_append_right _ h))))))
  generalize hQ : MQ below _ _ s _ _ _ = Q
  refine lv_aload_n hx hb dX11_of_0 rfl (lv_at hl 0 rfl) ?_
  refine va_get (ci := 11) (v := .ref t0) (C := RX11) (T := TX11) (N := 17) hx hb hts hw11 hown hK hP 0 rfl rfl 0 (by decide) (hts (.fieldLink RX11 10 "SmokeTune" "town" "LSmokeTune$Town;") (List.mem_cons_of_mem _ (List.mem_append_left _ (List.mem_append_left _ (List.mem_append_left _ (List.mem_append_left _ (List.mem_append_left _ (List.mem_append_left _ (List.mem_of_getElem? (i := 0) rfl))))))))) (fun _ h9 => h9) rfl dX11_of_1 ?_
  refine lv_iload_n hx hb dX11_of_4 rfl (lv_at hl 1 rfl) ?_
  refine pci (va_runVN (As := [.int x]) (rest := []) ⟨hx, hb, hml, hown, hts⟩ (w_has l D K x.toInt n.toInt t0 x (.ref t1) (.ref t3) (.ref t2) (.ref l0) n (.int lt) (.int nf) (.int fi) k_8 k_9 s.heap.size rfl rfl) ⟨va_cnB 1 hts gX11_of_X9_has_n121 rfl rfl rfl (nst_at hN 19 rfl) (hts (.initialized RX9) (List.mem_cons_of_mem _ (List.mem_append_left _ (List.mem_append_left _ (List.mem_append_left _ (List.mem_append_left _ (List.mem_append_left _ (List.mem_append_left _ (List.mem_of_getElem? (i := 3) rfl))))))))) (by decide +kernel) ⟨Nat.le_of_ble_eq_true rfl, Nat.le_of_ble_eq_true rfl⟩, (hts (.instanceMethod yX9_has) (List.mem_cons_of_mem _ (List.mem_append_left _ (List.mem_append_left _ (List.mem_append_left _ (List.mem_append_left _ (List.mem_append_left _ (List.mem_append_left _ (List.mem_of_getElem? (i := 2) rfl))))))))), (hts (.selects RX9 yX9_has yX9_has) (List.mem_cons_of_mem _ (List.mem_append_left _ (List.mem_append_left _ (List.mem_append_left _ (List.mem_append_left _ (List.mem_append_left _ (List.mem_append_left _ (List.mem_of_getElem? (i := 4) rfl)))))))))⟩ (mkV hK hN (hP.sub [5] rfl) (hD.sub [5] (by decide) rfl) (ci := 9) (q0 := 0) rfl rfl) rfl rfl hl.1 rfl (lv_room (Nat.le_of_ble_eq_true rfl)) dX11_of_5 ⟨Nat.le_of_ble_eq_true rfl, Nat.le_of_ble_eq_true rfl⟩) (fun r_97 hw => ?_)
  obtain ⟨hw, -⟩ := hw
  rcases hw with ⟨rfl, h_98, h_99⟩ | ⟨rfl, h_100⟩
  · refine lv_if_ne (tgt := 13) hx hb dX11_of_8 (by decide) (fun c_101 => ?_) (fun c_101 => absurd c_101 (by decide))
    refine lv_iload_n hx hb dX11_of_13 rfl (lv_at hl 2 rfl) ?_
    refine lv_iconst (v := 0) hx hb dX11_of_14 (by decide) ?_
    refine lv_bipush (v := 6) hx hb dX11_of_15 (by decide) ?_
    refine pci (va_runS (As := [.int y, .int 0, .int 6]) (rest := []) ⟨hx, hb, hml, hown, hts⟩ (w_within l D K y.toInt 0 6 y 0 6 s.heap.size rfl (show (0 : Int32).toInt = 0 from rfl) (show (6 : Int32).toInt = 6 from rfl)) (va_cwS 3 hts gX11_of_X11_within rfl rfl rfl (by decide +kernel) ⟨Nat.le_of_ble_eq_true rfl, Nat.le_of_ble_eq_true rfl⟩) (mkS hK hN (va_P.nil) (va_D.nil (A := fun _ => True))) rfl rfl hl.1 rfl (lv_room (Nat.le_of_ble_eq_true rfl)) dX11_of_17 ⟨Nat.le_of_ble_eq_true rfl, Nat.le_of_ble_eq_true rfl⟩) (fun r_102 hw => ?_)
    obtain ⟨hw, -⟩ := hw
    rcases hw with ⟨rfl, h_103, h_104⟩ | ⟨rfl, h_105⟩
    · refine lv_if_eq (tgt := 33) hx hb dX11_of_20 (by decide) (fun c_106 => absurd c_106 (by decide)) (fun c_106 => ?_)
      refine lv_aload_n hx hb dX11_of_23 rfl (lv_at hl 0 rfl) ?_
      refine va_get (ci := 11) (v := .ref t0) (C := RX11) (T := TX11) (N := 17) hx hb hts hw11 hown hK hP 0 rfl rfl 0 (by decide) (hts (.fieldLink RX11 10 "SmokeTune" "town" "LSmokeTune$Town;") (List.mem_cons_of_mem _ (List.mem_append_left _ (List.mem_append_left _ (List.mem_append_left _ (List.mem_append_left _ (List.mem_append_left _ (List.mem_append_left _ (List.mem_of_getElem? (i := 0) rfl))))))))) (fun _ h9 => h9) rfl dX11_of_24 ?_
      refine lv_iload_n hx hb dX11_of_27 rfl (lv_at hl 1 rfl) ?_
      refine lv_iload_n hx hb dX11_of_28 rfl (lv_at hl 2 rfl) ?_
      refine pci (va_runVN (As := [.int x, .int y]) (rest := []) ⟨hx, hb, hml, hown, hts⟩ (w_fact l D K t0 x y t1 (.ref t3) (.ref t2) (.ref l0) (.int n) (.int lt) (.int nf) (.int fi) k_8 k_9 f1 s.heap.size) ⟨va_cnB 2 hts gX11_of_X9_fact_n125 rfl rfl rfl (nst_at hN 20 rfl) (hts (.initialized RX9) (List.mem_cons_of_mem _ (List.mem_append_left _ (List.mem_append_left _ (List.mem_append_left _ (List.mem_append_left _ (List.mem_append_left _ (List.mem_append_left _ (List.mem_of_getElem? (i := 3) rfl))))))))) (by decide +kernel) ⟨Nat.le_of_ble_eq_true rfl, Nat.le_of_ble_eq_true rfl⟩, (hts (.instanceMethod yX9_fact) (List.mem_cons_of_mem _ (List.mem_append_left _ (List.mem_append_left _ (List.mem_append_left _ (List.mem_append_left _ (List.mem_append_left _ (List.mem_append_left _ (List.mem_of_getElem? (i := 11) rfl))))))))), (hts (.selects RX9 yX9_fact yX9_fact) (List.mem_cons_of_mem _ (List.mem_append_left _ (List.mem_append_left _ (List.mem_append_left _ (List.mem_append_left _ (List.mem_append_left _ (List.mem_append_left _ (List.mem_of_getElem? (i := 12) rfl)))))))))⟩ (mkV hK hN (hP.sub [5, 6] rfl) (hD.sub [5, 6] (by decide) rfl) (ci := 9) (q0 := 0) rfl rfl) rfl rfl hl.1 rfl (lv_room (Nat.le_of_ble_eq_true rfl)) dX11_of_29 ⟨Nat.le_of_ble_eq_true rfl, Nat.le_of_ble_eq_true rfl⟩) (fun r_107 hw => ?_)
      rw [← hQ]
      have hP9 := hP.sub (ws' := [(o0, .inr (11, [.ref t0, o_1, o_2, o_3, o_4, o_5, o_6, o_7, .ref a0, o_9, o_10, o_11, o_12, o_13, o_14, o_15, o_16])), (a0, .inr (0, [.ref m0, .ref w0])), (m0, .inr (3, [.ref m1, .int br])), (m1, .inl (K 0, 64, .inl fs)), (w0, .inl (K 0, 9, .inl fw)), (t0, .inr (9, [.ref t1, .ref t3, .ref t2, .ref l0, .int n, .int lt, .int nf, .int fi, k_8, k_9])), (t1, .inl (K 0, 56, .inl f1)), (t2, .inl (K 0, 6, .inl f2)), (t3, .inl (K 0, 24, .inl f3)), (l0, .inl (K 4, 6, .inr (.inr (.inr (.inr fl)))))]) [0, 1, 2, 3, 4, 5, 6, 7, 8, 9] rfl
      have hD9 := hD.sub (ws' := [(o0, .inr (11, [.ref t0, o_1, o_2, o_3, o_4, o_5, o_6, o_7, .ref a0, o_9, o_10, o_11, o_12, o_13, o_14, o_15, o_16])), (a0, .inr (0, [.ref m0, .ref w0])), (m0, .inr (3, [.ref m1, .int br])), (m1, .inl (K 0, 64, .inl fs)), (w0, .inl (K 0, 9, .inl fw)), (t0, .inr (9, [.ref t1, .ref t3, .ref t2, .ref l0, .int n, .int lt, .int nf, .int fi, k_8, k_9])), (t1, .inl (K 0, 56, .inl f1)), (t2, .inl (K 0, 6, .inl f2)), (t3, .inl (K 0, 24, .inl f3)), (l0, .inl (K 4, 6, .inr (.inr (.inr (.inr fl)))))]) [0, 1, 2, 3, 4, 5, 6, 7, 8, 9] (by decide) rfl
      exact W.iret (v := r_107) hx hb hr (fun t ht hW => ⟨⟨r_107, ((fun _ => 0, fun i => match i with | 0 => fs | _ => fw, fun _ => fun _ => 0, fun i => match i with | _ => br, fun _ => 0, fun _ => fun _ => none) : Su), rfl, ⟨(show 0 ≤ (br : Int32).toInt ∧ (br : Int32).toInt ≤ 1 by omega), trivial⟩, (⟨by rw [ht]; exact hP9, hD9⟩ : Wd D A _ t)⟩, hS.F ht⟩) hS.2.2 dX11_of_32
    · refine lv_if_eq (tgt := 33) hx hb dX11_of_20 (by decide) (fun c_108 => ?_) (fun c_108 => absurd (by decide) c_108)
      refine lv_iload_n hx hb dX11_of_33 rfl (lv_at hl 2 rfl) ?_
      refine lv_bipush (v := 7) hx hb dX11_of_34 (by decide) ?_
      refine lv_icmp_ne (tgt := 56) hx hb dX11_of_36 (by decide) (fun c_109 => ?_) (fun c_109 => ?_)
      · have c_109i := i_ne (x := y.toInt) (y := 7) rfl rfl c_109
        refine lv_aload_n hx hb dX11_of_56 rfl (lv_at hl 0 rfl) ?_
        refine va_get (ci := 11) (v := .ref a0) (C := RX11) (T := TX11) (N := 17) hx hb hts hw11 hown hK hP 0 rfl rfl 8 (by decide) (hts (.fieldLink RX11 57 "SmokeTune" "court" "LSmokeTune$Court;") (List.mem_cons_of_mem _ (List.mem_append_left _ (List.mem_append_left _ (List.mem_append_left _ (List.mem_append_left _ (List.mem_append_left _ (List.mem_append_left _ (List.mem_of_getElem? (i := 1) rfl))))))))) (fun _ h9 => h9) rfl dX11_of_57 ?_
        refine lv_aload_n hx hb dX11_of_60 rfl (lv_at hl 0 rfl) ?_
        refine va_get (ci := 11) (v := .ref t0) (C := RX11) (T := TX11) (N := 17) hx hb hts hw11 hown hK hP 0 rfl rfl 0 (by decide) (hts (.fieldLink RX11 10 "SmokeTune" "town" "LSmokeTune$Town;") (List.mem_cons_of_mem _ (List.mem_append_left _ (List.mem_append_left _ (List.mem_append_left _ (List.mem_append_left _ (List.mem_append_left _ (List.mem_append_left _ (List.mem_of_getElem? (i := 0) rfl))))))))) (fun _ h9 => h9) rfl dX11_of_61 ?_
        refine lv_iload_n hx hb dX11_of_64 rfl (lv_at hl 1 rfl) ?_
        refine lv_aload_n hx hb dX11_of_65 rfl (lv_at hl 0 rfl) ?_
        refine va_get (ci := 11) (v := .ref t0) (C := RX11) (T := TX11) (N := 17) hx hb hts hw11 hown hK hP 0 rfl rfl 0 (by decide) (hts (.fieldLink RX11 10 "SmokeTune" "town" "LSmokeTune$Town;") (List.mem_cons_of_mem _ (List.mem_append_left _ (List.mem_append_left _ (List.mem_append_left _ (List.mem_append_left _ (List.mem_append_left _ (List.mem_append_left _ (List.mem_of_getElem? (i := 0) rfl))))))))) (fun _ h9 => h9) rfl dX11_of_66 ?_
        refine lv_iload_n hx hb dX11_of_69 rfl (lv_at hl 1 rfl) ?_
        refine lv_iconst (v := 5) hx hb dX11_of_70 (by decide) ?_
        refine pci (va_runVN (As := [.int x, .int 5]) (rest := [.int x, .ref t0, .ref a0]) ⟨hx, hb, hml, hown, hts⟩ (w_fact l D K t0 x 5 t1 (.ref t3) (.ref t2) (.ref l0) (.int n) (.int lt) (.int nf) (.int fi) k_8 k_9 f1 s.heap.size) ⟨va_cnB 2 hts gX11_of_X9_fact_n125 rfl rfl rfl (nst_at hN 20 rfl) (hts (.initialized RX9) (List.mem_cons_of_mem _ (List.mem_append_left _ (List.mem_append_left _ (List.mem_append_left _ (List.mem_append_left _ (List.mem_append_left _ (List.mem_append_left _ (List.mem_of_getElem? (i := 3) rfl))))))))) (by decide +kernel) ⟨Nat.le_of_ble_eq_true rfl, Nat.le_of_ble_eq_true rfl⟩, (hts (.instanceMethod yX9_fact) (List.mem_cons_of_mem _ (List.mem_append_left _ (List.mem_append_left _ (List.mem_append_left _ (List.mem_append_left _ (List.mem_append_left _ (List.mem_append_left _ (List.mem_of_getElem? (i := 11) rfl))))))))), (hts (.selects RX9 yX9_fact yX9_fact) (List.mem_cons_of_mem _ (List.mem_append_left _ (List.mem_append_left _ (List.mem_append_left _ (List.mem_append_left _ (List.mem_append_left _ (List.mem_append_left _ (List.mem_of_getElem? (i := 12) rfl)))))))))⟩ (mkV hK hN (hP.sub [5, 6] rfl) (hD.sub [5, 6] (by decide) rfl) (ci := 9) (q0 := 0) rfl rfl) rfl rfl hl.1 rfl (lv_room (Nat.le_of_ble_eq_true rfl)) dX11_of_71 ⟨Nat.le_of_ble_eq_true rfl, Nat.le_of_ble_eq_true rfl⟩) (fun r_110 hw => ?_)
        refine lv_iconst (v := 0) hx hb dX11_of_74 (by decide) ?_
        refine kcv (S := Su) (wr := [(o0, .inr (11, [.ref t0, o_1, o_2, o_3, o_4, o_5, o_6, o_7, .ref a0, o_9, o_10, o_11, o_12, o_13, o_14, o_15, o_16])), (m0, .inr (3, [.ref m1, .int br])), (m1, .inl (K 0, 64, .inl fs)), (t3, .inl (K 0, 24, .inl f3)), (l0, .inl (K 4, 6, .inr (.inr (.inr (.inr fl)))))]) (va_runVN (As := [.ref t0, .int x, .int r_110, .int 0]) (rest := []) ⟨hx, hb, hml, hown, hts⟩ (w_face l D K a0 t0 x r_110 0 (.ref m0) w0 fw t1 (.ref t3) t2 (.ref l0) (.int n) (.int lt) (.int nf) (.int fi) k_8 k_9 f1 f2 s.heap.size) ⟨va_cnB 4 hts gX11_of_X0_face_n132 rfl rfl rfl (nst_at hN 22 rfl) (hts (.initialized RX0) (List.mem_cons_of_mem _ (List.mem_append_left _ (List.mem_append_left _ (List.mem_append_left _ (List.mem_append_left _ (List.mem_append_left _ (List.mem_append_right _ (List.mem_append_left _ (List.mem_of_getElem? (i := 1) rfl)))))))))) (by decide +kernel) ⟨Nat.le_of_ble_eq_true rfl, Nat.le_of_ble_eq_true rfl⟩, (hts (.instanceMethod yX0_face) (List.mem_cons_of_mem _ (List.mem_append_left _ (List.mem_append_left _ (List.mem_append_left _ (List.mem_append_left _ (List.mem_append_left _ (List.mem_append_right _ (List.mem_append_left _ (List.mem_of_getElem? (i := 0) rfl)))))))))), (hts (.selects RX0 yX0_face yX0_face) (List.mem_cons_of_mem _ (List.mem_append_left _ (List.mem_append_left _ (List.mem_append_left _ (List.mem_append_left _ (List.mem_append_left _ (List.mem_append_right _ (List.mem_append_left _ (List.mem_of_getElem? (i := 2) rfl))))))))))⟩ (mkV hK hN (hP.sub [1, 4, 5, 6, 7] rfl) (hD.sub [1, 4, 5, 6, 7] (by decide) rfl) (ci := 0) (q0 := 0) rfl rfl) rfl rfl hl.1 rfl (lv_room (Nat.le_of_ble_eq_true rfl)) dX11_of_75 ⟨Nat.le_of_ble_eq_true rfl, Nat.le_of_ble_eq_true rfl⟩) hP hD hS hA [1, 4, 5, 6, 7] [0, 2, 3, 8, 9] rfl rfl (by decide) (by decide) (fun u_112 H locs hw hP hD hS => ?_)
        have hP : va_P D vwCl [(o0, .inr (11, [.ref t0, o_1, o_2, o_3, o_4, o_5, o_6, o_7, .ref a0, o_9, o_10, o_11, o_12, o_13, o_14, o_15, o_16])), (m0, .inr (3, [.ref m1, .int br])), (m1, .inl (K 0, 64, .inl fs)), (t3, .inl (K 0, 24, .inl f3)), (l0, .inl (K 4, 6, .inr (.inr (.inr (.inr fl))))), (a0, .inr (0, [.ref m0, .ref w0])), (w0, .inl (K 0, 9, .inl (u_112.2.1 0))), (t0, .inr (9, [.ref t1, .ref t3, .ref t2, .ref l0, .int n, .int lt, .int nf, .int fi, k_8, k_9])), (t1, .inl (K 0, 56, .inl f1)), (t2, .inl (K 0, 6, .inl f2))] H := hP
        have hD : va_D A [(o0, .inr (11, [.ref t0, o_1, o_2, o_3, o_4, o_5, o_6, o_7, .ref a0, o_9, o_10, o_11, o_12, o_13, o_14, o_15, o_16])), (m0, .inr (3, [.ref m1, .int br])), (m1, .inl (K 0, 64, .inl fs)), (t3, .inl (K 0, 24, .inl f3)), (l0, .inl (K 4, 6, .inr (.inr (.inr (.inr fl))))), (a0, .inr (0, [.ref m0, .ref w0])), (w0, .inl (K 0, 9, .inl (u_112.2.1 0))), (t0, .inr (9, [.ref t1, .ref t3, .ref t2, .ref l0, .int n, .int lt, .int nf, .int fi, k_8, k_9])), (t1, .inl (K 0, 56, .inl f1)), (t2, .inl (K 0, 6, .inl f2))] := hD
        refine lv_iload_n hx hb dX11_of_78 rfl (lv_at hl 2 rfl) ?_
        have w_113 : y.toInt = 8 ∨ y.toInt = 9 ∨ y.toInt = 10 ∨ (y.toInt < 8 ∨ 10 < y.toInt) := by omega
        rcases w_113 with w_113 | w_113 | w_113 | w_113
        · refine lv_tableIn (tgt := 104) hx hb dX11_of_79 (by omega) (by omega) (by rw [w_113]; rfl) (by decide) ?_
          refine lv_aload_n hx hb dX11_of_104 rfl (lv_at hl 0 rfl) ?_
          refine va_get (ci := 11) (v := .ref a0) (C := RX11) (T := TX11) (N := 17) hx hb hts hw11 hown hK hP 0 rfl rfl 8 (by decide) (hts (.fieldLink RX11 57 "SmokeTune" "court" "LSmokeTune$Court;") (List.mem_cons_of_mem _ (List.mem_append_left _ (List.mem_append_left _ (List.mem_append_left _ (List.mem_append_left _ (List.mem_append_left _ (List.mem_append_left _ (List.mem_of_getElem? (i := 1) rfl))))))))) (fun _ h9 => h9) rfl dX11_of_105 ?_
          refine lv_aload_n hx hb dX11_of_108 rfl (lv_at hl 0 rfl) ?_
          refine va_get (ci := 11) (v := .ref t0) (C := RX11) (T := TX11) (N := 17) hx hb hts hw11 hown hK hP 0 rfl rfl 0 (by decide) (hts (.fieldLink RX11 10 "SmokeTune" "town" "LSmokeTune$Town;") (List.mem_cons_of_mem _ (List.mem_append_left _ (List.mem_append_left _ (List.mem_append_left _ (List.mem_append_left _ (List.mem_append_left _ (List.mem_append_left _ (List.mem_of_getElem? (i := 0) rfl))))))))) (fun _ h9 => h9) rfl dX11_of_109 ?_
          refine pcq (va_runVN (As := []) (rest := [.ref a0]) ⟨hx, hb, hml, hown, hts⟩ (w_lawInForce l D K g L t0 (.ref t1) (.ref t3) (.ref t2) l0 (.int n) lt nf (.int fi) k_8 k_9 fl H.size (by first | omega | decide) zfl) ⟨va_cnB 0 hts gX11_of_X9_lawInForce_n138 rfl rfl rfl (nst_at hN 24 rfl) (hts (.initialized RX9) (List.mem_cons_of_mem _ (List.mem_append_left _ (List.mem_append_left _ (List.mem_append_left _ (List.mem_append_left _ (List.mem_append_left _ (List.mem_append_left _ (List.mem_of_getElem? (i := 3) rfl))))))))) (by decide +kernel) ⟨Nat.le_of_ble_eq_true rfl, Nat.le_of_ble_eq_true rfl⟩, (hts (.instanceMethod yX9_lawInForce) (List.mem_cons_of_mem _ (List.mem_append_left _ (List.mem_append_left _ (List.mem_append_left _ (List.mem_append_left _ (List.mem_append_left _ (List.mem_append_right _ (List.mem_append_left _ (List.mem_of_getElem? (i := 5) rfl)))))))))), (hts (.selects RX9 yX9_lawInForce yX9_lawInForce) (List.mem_cons_of_mem _ (List.mem_append_left _ (List.mem_append_left _ (List.mem_append_left _ (List.mem_append_left _ (List.mem_append_left _ (List.mem_append_right _ (List.mem_append_left _ (List.mem_of_getElem? (i := 6) rfl))))))))))⟩ (mkVY hK hN (hP.sub [7, 4] rfl) (hD.sub [7, 4] (by decide) rfl) (ci := 9) (q0 := 0) rfl rfl (fun U hU hW => ⟨Gl.at hG hS hW hU (fun _ h9 => h9.elim), Pool.at hPl hS hU (fun _ h9 => h9.elim), Ro.heap hU (Ro.nil)⟩)) rfl rfl hl.1 rfl (lv_room (Nat.le_of_ble_eq_true rfl)) dX11_of_112 ⟨Nat.le_of_ble_eq_true rfl, Nat.le_of_ble_eq_true rfl⟩) (fun r_114 hw => ?_)
          have hr_114 : InLo L r_114 := hw
          refine lv_iconst (v := 0) hx hb dX11_of_115 (by decide) ?_
          rcases r_114 with _ | q_115
          · have hl : lv_has ls 3 [(0, .ref o0), (1, .int x), (2, .int y)] := hl
            refine W.eq (g2 := F0 m 116 ls [.int 0, .null, .ref a0]) rfl ?_
            refine kci (S := Su) (wr := [(o0, .inr (11, [.ref t0, o_1, o_2, o_3, o_4, o_5, o_6, o_7, .ref a0, o_9, o_10, o_11, o_12, o_13, o_14, o_15, o_16])), (t3, .inl (K 0, 24, .inl f3)), (l0, .inl (K 4, 6, .inr (.inr (.inr (.inr fl))))), (t0, .inr (9, [.ref t1, .ref t3, .ref t2, .ref l0, .int n, .int lt, .int nf, .int fi, k_8, k_9])), (t1, .inl (K 0, 56, .inl f1)), (t2, .inl (K 0, 6, .inl f2))]) (va_runVN (As := [.null, .int 0]) (rest := []) ⟨hx, hb, hml, hown, hts⟩ (w_told_n l D K g L a0 0 m0 w0 m1 br fs (u_112.2.1 0) H.size (by first | omega | decide) (by first | omega | decide)) ⟨va_cnB 2 hts gX11_of_X0_told_n142 rfl rfl rfl (nst_at hN 25 rfl) (hts (.initialized RX0) (List.mem_cons_of_mem _ (List.mem_append_left _ (List.mem_append_left _ (List.mem_append_left _ (List.mem_append_left _ (List.mem_append_left _ (List.mem_append_right _ (List.mem_append_left _ (List.mem_of_getElem? (i := 1) rfl)))))))))) (by decide +kernel) ⟨Nat.le_of_ble_eq_true rfl, Nat.le_of_ble_eq_true rfl⟩, (hts (.instanceMethod yX0_told) (List.mem_cons_of_mem _ (List.mem_append_left _ (List.mem_append_left _ (List.mem_append_left _ (List.mem_append_left _ (List.mem_append_left _ (List.mem_append_right _ (List.mem_append_left _ (List.mem_of_getElem? (i := 15) rfl)))))))))), (hts (.selects RX0 yX0_told yX0_told) (List.mem_cons_of_mem _ (List.mem_append_left _ (List.mem_append_left _ (List.mem_append_left _ (List.mem_append_left _ (List.mem_append_left _ (List.mem_append_right _ (List.mem_append_left _ (List.mem_of_getElem? (i := 16) rfl))))))))))⟩ (mkVY hK hN (hP.sub [5, 1, 2, 6] rfl) (hD.sub [5, 1, 2, 6] (by decide) rfl) (ci := 0) (q0 := 0) rfl rfl (fun U hU hW => ⟨Gl.at hG hS hW hU (fun q h => va_free hD hS hA [5, 1, 2, 6] rfl q h), Pool.at hPl hS hU (fun q h => va_free hD hS hA [5, 1, 2, 6] rfl q h), Ro.heap hU (Ro.nil)⟩)) rfl rfl hl.1 rfl (lv_room (Nat.le_of_ble_eq_true rfl)) dX11_of_116 ⟨Nat.le_of_ble_eq_true rfl, Nat.le_of_ble_eq_true rfl⟩) hP hD hS hA [5, 1, 2, 6] [0, 3, 4, 7, 8, 9] rfl rfl (by decide) (by decide) (fun r_116 u_117 H locs hw hP hD hS => ?_)
            have hP : va_P D vwCl [(o0, .inr (11, [.ref t0, o_1, o_2, o_3, o_4, o_5, o_6, o_7, .ref a0, o_9, o_10, o_11, o_12, o_13, o_14, o_15, o_16])), (t3, .inl (K 0, 24, .inl f3)), (l0, .inl (K 4, 6, .inr (.inr (.inr (.inr fl))))), (t0, .inr (9, [.ref t1, .ref t3, .ref t2, .ref l0, .int n, .int lt, .int nf, .int fi, k_8, k_9])), (t1, .inl (K 0, 56, .inl f1)), (t2, .inl (K 0, 6, .inl f2)), (a0, .inr (0, [.ref m0, .ref w0])), (m0, .inr (3, [.ref m1, .int br])), (m1, .inl (K 0, 64, .inl fs)), (w0, .inl (K 0, 9, .inl (u_112.2.1 0)))] H := hP
            have hD : va_D A [(o0, .inr (11, [.ref t0, o_1, o_2, o_3, o_4, o_5, o_6, o_7, .ref a0, o_9, o_10, o_11, o_12, o_13, o_14, o_15, o_16])), (t3, .inl (K 0, 24, .inl f3)), (l0, .inl (K 4, 6, .inr (.inr (.inr (.inr fl))))), (t0, .inr (9, [.ref t1, .ref t3, .ref t2, .ref l0, .int n, .int lt, .int nf, .int fi, k_8, k_9])), (t1, .inl (K 0, 56, .inl f1)), (t2, .inl (K 0, 6, .inl f2)), (a0, .inr (0, [.ref m0, .ref w0])), (m0, .inr (3, [.ref m1, .int br])), (m1, .inl (K 0, 64, .inl fs)), (w0, .inl (K 0, 9, .inl (u_112.2.1 0)))] := hD
            obtain ⟨h_118, -⟩ := hw
            rw [← hQ]
            have hP9 := hP.sub (ws' := [(o0, .inr (11, [.ref t0, o_1, o_2, o_3, o_4, o_5, o_6, o_7, .ref a0, o_9, o_10, o_11, o_12, o_13, o_14, o_15, o_16])), (a0, .inr (0, [.ref m0, .ref w0])), (m0, .inr (3, [.ref m1, .int br])), (m1, .inl (K 0, 64, .inl fs)), (w0, .inl (K 0, 9, .inl (u_112.2.1 0))), (t0, .inr (9, [.ref t1, .ref t3, .ref t2, .ref l0, .int n, .int lt, .int nf, .int fi, k_8, k_9])), (t1, .inl (K 0, 56, .inl f1)), (t2, .inl (K 0, 6, .inl f2)), (t3, .inl (K 0, 24, .inl f3)), (l0, .inl (K 4, 6, .inr (.inr (.inr (.inr fl)))))]) [0, 6, 7, 8, 9, 3, 4, 5, 1, 2] rfl
            have hD9 := hD.sub (ws' := [(o0, .inr (11, [.ref t0, o_1, o_2, o_3, o_4, o_5, o_6, o_7, .ref a0, o_9, o_10, o_11, o_12, o_13, o_14, o_15, o_16])), (a0, .inr (0, [.ref m0, .ref w0])), (m0, .inr (3, [.ref m1, .int br])), (m1, .inl (K 0, 64, .inl fs)), (w0, .inl (K 0, 9, .inl (u_112.2.1 0))), (t0, .inr (9, [.ref t1, .ref t3, .ref t2, .ref l0, .int n, .int lt, .int nf, .int fi, k_8, k_9])), (t1, .inl (K 0, 56, .inl f1)), (t2, .inl (K 0, 6, .inl f2)), (t3, .inl (K 0, 24, .inl f3)), (l0, .inl (K 4, 6, .inr (.inr (.inr (.inr fl)))))]) [0, 6, 7, 8, 9, 3, 4, 5, 1, 2] (by decide) rfl
            exact W.iret (v := r_116) hx hb hr (fun t ht hW => ⟨⟨r_116, ((fun _ => 0, fun i => match i with | 0 => fs | _ => (u_112.2.1 0), fun _ => fun _ => 0, fun i => match i with | _ => br, fun _ => 0, fun _ => fun _ => none) : Su), rfl, ⟨(show 0 ≤ (br : Int32).toInt ∧ (br : Int32).toInt ≤ 1 by omega), trivial⟩, (⟨by rw [ht]; exact hP9, hD9⟩ : Wd D A _ t)⟩, hS.F ht⟩) hS.2.2 dX11_of_119
          · have hl : lv_has ls 3 [(0, .ref o0), (1, .int x), (2, .int y)] := hl
            refine W.eq (g2 := F0 m 116 ls [.int 0, .ref q_115, .ref a0]) rfl ?_
            refine kci (S := Su) (wr := [(o0, .inr (11, [.ref t0, o_1, o_2, o_3, o_4, o_5, o_6, o_7, .ref a0, o_9, o_10, o_11, o_12, o_13, o_14, o_15, o_16])), (t3, .inl (K 0, 24, .inl f3)), (l0, .inl (K 4, 6, .inr (.inr (.inr (.inr fl))))), (t0, .inr (9, [.ref t1, .ref t3, .ref t2, .ref l0, .int n, .int lt, .int nf, .int fi, k_8, k_9])), (t1, .inl (K 0, 56, .inl f1)), (t2, .inl (K 0, 6, .inl f2))]) (va_runVN (As := [.ref q_115, .int 0]) (rest := []) ⟨hx, hb, hml, hown, hts⟩ (w_told l D K g L a0 q_115 0 m0 w0 m1 br fs (u_112.2.1 0) H.size hr_114 (by first | omega | decide) (by first | omega | decide)) ⟨va_cnB 2 hts gX11_of_X0_told_n142 rfl rfl rfl (nst_at hN 25 rfl) (hts (.initialized RX0) (List.mem_cons_of_mem _ (List.mem_append_left _ (List.mem_append_left _ (List.mem_append_left _ (List.mem_append_left _ (List.mem_append_left _ (List.mem_append_right _ (List.mem_append_left _ (List.mem_of_getElem? (i := 1) rfl)))))))))) (by decide +kernel) ⟨Nat.le_of_ble_eq_true rfl, Nat.le_of_ble_eq_true rfl⟩, (hts (.instanceMethod yX0_told) (List.mem_cons_of_mem _ (List.mem_append_left _ (List.mem_append_left _ (List.mem_append_left _ (List.mem_append_left _ (List.mem_append_left _ (List.mem_append_right _ (List.mem_append_left _ (List.mem_of_getElem? (i := 15) rfl)))))))))), (hts (.selects RX0 yX0_told yX0_told) (List.mem_cons_of_mem _ (List.mem_append_left _ (List.mem_append_left _ (List.mem_append_left _ (List.mem_append_left _ (List.mem_append_left _ (List.mem_append_right _ (List.mem_append_left _ (List.mem_of_getElem? (i := 16) rfl))))))))))⟩ (mkVY hK hN (hP.sub [5, 1, 2, 6] rfl) (hD.sub [5, 1, 2, 6] (by decide) rfl) (ci := 0) (q0 := 0) rfl rfl (fun U hU hW => ⟨Gl.at hG hS hW hU (fun q h => va_free hD hS hA [5, 1, 2, 6] rfl q h), Pool.at hPl hS hU (fun q h => va_free hD hS hA [5, 1, 2, 6] rfl q h), Ro.heap hU (Ro.nil)⟩)) rfl rfl hl.1 rfl (lv_room (Nat.le_of_ble_eq_true rfl)) dX11_of_116 ⟨Nat.le_of_ble_eq_true rfl, Nat.le_of_ble_eq_true rfl⟩) hP hD hS hA [5, 1, 2, 6] [0, 3, 4, 7, 8, 9] rfl rfl (by decide) (by decide) (fun r_119 u_120 H locs hw hP hD hS => ?_)
            have hP : va_P D vwCl [(o0, .inr (11, [.ref t0, o_1, o_2, o_3, o_4, o_5, o_6, o_7, .ref a0, o_9, o_10, o_11, o_12, o_13, o_14, o_15, o_16])), (t3, .inl (K 0, 24, .inl f3)), (l0, .inl (K 4, 6, .inr (.inr (.inr (.inr fl))))), (t0, .inr (9, [.ref t1, .ref t3, .ref t2, .ref l0, .int n, .int lt, .int nf, .int fi, k_8, k_9])), (t1, .inl (K 0, 56, .inl f1)), (t2, .inl (K 0, 6, .inl f2)), (a0, .inr (0, [.ref m0, .ref w0])), (m0, .inr (3, [.ref m1, .int (u_120.2.2.2.1 0)])), (m1, .inl (K 0, 64, .inl (u_120.2.1 0))), (w0, .inl (K 0, 9, .inl (u_112.2.1 0)))] H := hP
            have hD : va_D A [(o0, .inr (11, [.ref t0, o_1, o_2, o_3, o_4, o_5, o_6, o_7, .ref a0, o_9, o_10, o_11, o_12, o_13, o_14, o_15, o_16])), (t3, .inl (K 0, 24, .inl f3)), (l0, .inl (K 4, 6, .inr (.inr (.inr (.inr fl))))), (t0, .inr (9, [.ref t1, .ref t3, .ref t2, .ref l0, .int n, .int lt, .int nf, .int fi, k_8, k_9])), (t1, .inl (K 0, 56, .inl f1)), (t2, .inl (K 0, 6, .inl f2)), (a0, .inr (0, [.ref m0, .ref w0])), (m0, .inr (3, [.ref m1, .int (u_120.2.2.2.1 0)])), (m1, .inl (K 0, 64, .inl (u_120.2.1 0))), (w0, .inl (K 0, 9, .inl (u_112.2.1 0)))] := hD
            obtain ⟨h_122, k_121, -⟩ := hw
            rw [← hQ]
            have hP9 := hP.sub (ws' := [(o0, .inr (11, [.ref t0, o_1, o_2, o_3, o_4, o_5, o_6, o_7, .ref a0, o_9, o_10, o_11, o_12, o_13, o_14, o_15, o_16])), (a0, .inr (0, [.ref m0, .ref w0])), (m0, .inr (3, [.ref m1, .int (u_120.2.2.2.1 0)])), (m1, .inl (K 0, 64, .inl (u_120.2.1 0))), (w0, .inl (K 0, 9, .inl (u_112.2.1 0))), (t0, .inr (9, [.ref t1, .ref t3, .ref t2, .ref l0, .int n, .int lt, .int nf, .int fi, k_8, k_9])), (t1, .inl (K 0, 56, .inl f1)), (t2, .inl (K 0, 6, .inl f2)), (t3, .inl (K 0, 24, .inl f3)), (l0, .inl (K 4, 6, .inr (.inr (.inr (.inr fl)))))]) [0, 6, 7, 8, 9, 3, 4, 5, 1, 2] rfl
            have hD9 := hD.sub (ws' := [(o0, .inr (11, [.ref t0, o_1, o_2, o_3, o_4, o_5, o_6, o_7, .ref a0, o_9, o_10, o_11, o_12, o_13, o_14, o_15, o_16])), (a0, .inr (0, [.ref m0, .ref w0])), (m0, .inr (3, [.ref m1, .int (u_120.2.2.2.1 0)])), (m1, .inl (K 0, 64, .inl (u_120.2.1 0))), (w0, .inl (K 0, 9, .inl (u_112.2.1 0))), (t0, .inr (9, [.ref t1, .ref t3, .ref t2, .ref l0, .int n, .int lt, .int nf, .int fi, k_8, k_9])), (t1, .inl (K 0, 56, .inl f1)), (t2, .inl (K 0, 6, .inl f2)), (t3, .inl (K 0, 24, .inl f3)), (l0, .inl (K 4, 6, .inr (.inr (.inr (.inr fl)))))]) [0, 6, 7, 8, 9, 3, 4, 5, 1, 2] (by decide) rfl
            exact W.iret (v := r_119) hx hb hr (fun t ht hW => ⟨⟨r_119, ((fun _ => 0, fun i => match i with | 0 => (u_120.2.1 0) | _ => (u_112.2.1 0), fun _ => fun _ => 0, fun i => match i with | _ => (u_120.2.2.2.1 0), fun _ => 0, fun _ => fun _ => none) : Su), rfl, ⟨(show 0 ≤ ((u_120.2.2.2.1 0) : Int32).toInt ∧ ((u_120.2.2.2.1 0) : Int32).toInt ≤ 1 by omega), trivial⟩, (⟨by rw [ht]; exact hP9, hD9⟩ : Wd D A _ t)⟩, hS.F ht⟩) hS.2.2 dX11_of_119
        · refine lv_tableIn (tgt := 120) hx hb dX11_of_79 (by omega) (by omega) (by rw [w_113]; rfl) (by decide) ?_
          refine lv_aload_n hx hb dX11_of_120 rfl (lv_at hl 0 rfl) ?_
          refine va_get (ci := 11) (v := .ref a0) (C := RX11) (T := TX11) (N := 17) hx hb hts hw11 hown hK hP 0 rfl rfl 8 (by decide) (hts (.fieldLink RX11 57 "SmokeTune" "court" "LSmokeTune$Court;") (List.mem_cons_of_mem _ (List.mem_append_left _ (List.mem_append_left _ (List.mem_append_left _ (List.mem_append_left _ (List.mem_append_left _ (List.mem_append_left _ (List.mem_of_getElem? (i := 1) rfl))))))))) (fun _ h9 => h9) rfl dX11_of_121 ?_
          refine lv_aload_n hx hb dX11_of_124 rfl (lv_at hl 0 rfl) ?_
          refine va_get (ci := 11) (v := .ref t0) (C := RX11) (T := TX11) (N := 17) hx hb hts hw11 hown hK hP 0 rfl rfl 0 (by decide) (hts (.fieldLink RX11 10 "SmokeTune" "town" "LSmokeTune$Town;") (List.mem_cons_of_mem _ (List.mem_append_left _ (List.mem_append_left _ (List.mem_append_left _ (List.mem_append_left _ (List.mem_append_left _ (List.mem_append_left _ (List.mem_of_getElem? (i := 0) rfl))))))))) (fun _ h9 => h9) rfl dX11_of_125 ?_
          refine pcq (va_runVN (As := []) (rest := [.ref a0]) ⟨hx, hb, hml, hown, hts⟩ (w_lawInForce l D K g L t0 (.ref t1) (.ref t3) (.ref t2) l0 (.int n) lt nf (.int fi) k_8 k_9 fl H.size (by first | omega | decide) zfl) ⟨va_cnB 0 hts gX11_of_X9_lawInForce_n138 rfl rfl rfl (nst_at hN 24 rfl) (hts (.initialized RX9) (List.mem_cons_of_mem _ (List.mem_append_left _ (List.mem_append_left _ (List.mem_append_left _ (List.mem_append_left _ (List.mem_append_left _ (List.mem_append_left _ (List.mem_of_getElem? (i := 3) rfl))))))))) (by decide +kernel) ⟨Nat.le_of_ble_eq_true rfl, Nat.le_of_ble_eq_true rfl⟩, (hts (.instanceMethod yX9_lawInForce) (List.mem_cons_of_mem _ (List.mem_append_left _ (List.mem_append_left _ (List.mem_append_left _ (List.mem_append_left _ (List.mem_append_left _ (List.mem_append_right _ (List.mem_append_left _ (List.mem_of_getElem? (i := 5) rfl)))))))))), (hts (.selects RX9 yX9_lawInForce yX9_lawInForce) (List.mem_cons_of_mem _ (List.mem_append_left _ (List.mem_append_left _ (List.mem_append_left _ (List.mem_append_left _ (List.mem_append_left _ (List.mem_append_right _ (List.mem_append_left _ (List.mem_of_getElem? (i := 6) rfl))))))))))⟩ (mkVY hK hN (hP.sub [7, 4] rfl) (hD.sub [7, 4] (by decide) rfl) (ci := 9) (q0 := 0) rfl rfl (fun U hU hW => ⟨Gl.at hG hS hW hU (fun _ h9 => h9.elim), Pool.at hPl hS hU (fun _ h9 => h9.elim), Ro.heap hU (Ro.nil)⟩)) rfl rfl hl.1 rfl (lv_room (Nat.le_of_ble_eq_true rfl)) dX11_of_128 ⟨Nat.le_of_ble_eq_true rfl, Nat.le_of_ble_eq_true rfl⟩) (fun r_123 hw => ?_)
          have hr_123 : InLo L r_123 := hw
          refine lv_iconst (v := 1) hx hb dX11_of_131 (by decide) ?_
          rcases r_123 with _ | q_124
          · have hl : lv_has ls 3 [(0, .ref o0), (1, .int x), (2, .int y)] := hl
            refine W.eq (g2 := F0 m 132 ls [.int 1, .null, .ref a0]) rfl ?_
            refine kci (S := Su) (wr := [(o0, .inr (11, [.ref t0, o_1, o_2, o_3, o_4, o_5, o_6, o_7, .ref a0, o_9, o_10, o_11, o_12, o_13, o_14, o_15, o_16])), (t3, .inl (K 0, 24, .inl f3)), (l0, .inl (K 4, 6, .inr (.inr (.inr (.inr fl))))), (t0, .inr (9, [.ref t1, .ref t3, .ref t2, .ref l0, .int n, .int lt, .int nf, .int fi, k_8, k_9])), (t1, .inl (K 0, 56, .inl f1)), (t2, .inl (K 0, 6, .inl f2))]) (va_runVN (As := [.null, .int 1]) (rest := []) ⟨hx, hb, hml, hown, hts⟩ (w_told_n l D K g L a0 1 m0 w0 m1 br fs (u_112.2.1 0) H.size (by first | omega | decide) (by first | omega | decide)) ⟨va_cnB 2 hts gX11_of_X0_told_n142 rfl rfl rfl (nst_at hN 25 rfl) (hts (.initialized RX0) (List.mem_cons_of_mem _ (List.mem_append_left _ (List.mem_append_left _ (List.mem_append_left _ (List.mem_append_left _ (List.mem_append_left _ (List.mem_append_right _ (List.mem_append_left _ (List.mem_of_getElem? (i := 1) rfl)))))))))) (by decide +kernel) ⟨Nat.le_of_ble_eq_true rfl, Nat.le_of_ble_eq_true rfl⟩, (hts (.instanceMethod yX0_told) (List.mem_cons_of_mem _ (List.mem_append_left _ (List.mem_append_left _ (List.mem_append_left _ (List.mem_append_left _ (List.mem_append_left _ (List.mem_append_right _ (List.mem_append_left _ (List.mem_of_getElem? (i := 15) rfl)))))))))), (hts (.selects RX0 yX0_told yX0_told) (List.mem_cons_of_mem _ (List.mem_append_left _ (List.mem_append_left _ (List.mem_append_left _ (List.mem_append_left _ (List.mem_append_left _ (List.mem_append_right _ (List.mem_append_left _ (List.mem_of_getElem? (i := 16) rfl))))))))))⟩ (mkVY hK hN (hP.sub [5, 1, 2, 6] rfl) (hD.sub [5, 1, 2, 6] (by decide) rfl) (ci := 0) (q0 := 0) rfl rfl (fun U hU hW => ⟨Gl.at hG hS hW hU (fun q h => va_free hD hS hA [5, 1, 2, 6] rfl q h), Pool.at hPl hS hU (fun q h => va_free hD hS hA [5, 1, 2, 6] rfl q h), Ro.heap hU (Ro.nil)⟩)) rfl rfl hl.1 rfl (lv_room (Nat.le_of_ble_eq_true rfl)) dX11_of_132 ⟨Nat.le_of_ble_eq_true rfl, Nat.le_of_ble_eq_true rfl⟩) hP hD hS hA [5, 1, 2, 6] [0, 3, 4, 7, 8, 9] rfl rfl (by decide) (by decide) (fun r_125 u_126 H locs hw hP hD hS => ?_)
            have hP : va_P D vwCl [(o0, .inr (11, [.ref t0, o_1, o_2, o_3, o_4, o_5, o_6, o_7, .ref a0, o_9, o_10, o_11, o_12, o_13, o_14, o_15, o_16])), (t3, .inl (K 0, 24, .inl f3)), (l0, .inl (K 4, 6, .inr (.inr (.inr (.inr fl))))), (t0, .inr (9, [.ref t1, .ref t3, .ref t2, .ref l0, .int n, .int lt, .int nf, .int fi, k_8, k_9])), (t1, .inl (K 0, 56, .inl f1)), (t2, .inl (K 0, 6, .inl f2)), (a0, .inr (0, [.ref m0, .ref w0])), (m0, .inr (3, [.ref m1, .int br])), (m1, .inl (K 0, 64, .inl fs)), (w0, .inl (K 0, 9, .inl (u_112.2.1 0)))] H := hP
            have hD : va_D A [(o0, .inr (11, [.ref t0, o_1, o_2, o_3, o_4, o_5, o_6, o_7, .ref a0, o_9, o_10, o_11, o_12, o_13, o_14, o_15, o_16])), (t3, .inl (K 0, 24, .inl f3)), (l0, .inl (K 4, 6, .inr (.inr (.inr (.inr fl))))), (t0, .inr (9, [.ref t1, .ref t3, .ref t2, .ref l0, .int n, .int lt, .int nf, .int fi, k_8, k_9])), (t1, .inl (K 0, 56, .inl f1)), (t2, .inl (K 0, 6, .inl f2)), (a0, .inr (0, [.ref m0, .ref w0])), (m0, .inr (3, [.ref m1, .int br])), (m1, .inl (K 0, 64, .inl fs)), (w0, .inl (K 0, 9, .inl (u_112.2.1 0)))] := hD
            obtain ⟨h_127, -⟩ := hw
            rw [← hQ]
            have hP9 := hP.sub (ws' := [(o0, .inr (11, [.ref t0, o_1, o_2, o_3, o_4, o_5, o_6, o_7, .ref a0, o_9, o_10, o_11, o_12, o_13, o_14, o_15, o_16])), (a0, .inr (0, [.ref m0, .ref w0])), (m0, .inr (3, [.ref m1, .int br])), (m1, .inl (K 0, 64, .inl fs)), (w0, .inl (K 0, 9, .inl (u_112.2.1 0))), (t0, .inr (9, [.ref t1, .ref t3, .ref t2, .ref l0, .int n, .int lt, .int nf, .int fi, k_8, k_9])), (t1, .inl (K 0, 56, .inl f1)), (t2, .inl (K 0, 6, .inl f2)), (t3, .inl (K 0, 24, .inl f3)), (l0, .inl (K 4, 6, .inr (.inr (.inr (.inr fl)))))]) [0, 6, 7, 8, 9, 3, 4, 5, 1, 2] rfl
            have hD9 := hD.sub (ws' := [(o0, .inr (11, [.ref t0, o_1, o_2, o_3, o_4, o_5, o_6, o_7, .ref a0, o_9, o_10, o_11, o_12, o_13, o_14, o_15, o_16])), (a0, .inr (0, [.ref m0, .ref w0])), (m0, .inr (3, [.ref m1, .int br])), (m1, .inl (K 0, 64, .inl fs)), (w0, .inl (K 0, 9, .inl (u_112.2.1 0))), (t0, .inr (9, [.ref t1, .ref t3, .ref t2, .ref l0, .int n, .int lt, .int nf, .int fi, k_8, k_9])), (t1, .inl (K 0, 56, .inl f1)), (t2, .inl (K 0, 6, .inl f2)), (t3, .inl (K 0, 24, .inl f3)), (l0, .inl (K 4, 6, .inr (.inr (.inr (.inr fl)))))]) [0, 6, 7, 8, 9, 3, 4, 5, 1, 2] (by decide) rfl
            exact W.iret (v := r_125) hx hb hr (fun t ht hW => ⟨⟨r_125, ((fun _ => 0, fun i => match i with | 0 => fs | _ => (u_112.2.1 0), fun _ => fun _ => 0, fun i => match i with | _ => br, fun _ => 0, fun _ => fun _ => none) : Su), rfl, ⟨(show 0 ≤ (br : Int32).toInt ∧ (br : Int32).toInt ≤ 1 by omega), trivial⟩, (⟨by rw [ht]; exact hP9, hD9⟩ : Wd D A _ t)⟩, hS.F ht⟩) hS.2.2 dX11_of_135
          · have hl : lv_has ls 3 [(0, .ref o0), (1, .int x), (2, .int y)] := hl
            refine W.eq (g2 := F0 m 132 ls [.int 1, .ref q_124, .ref a0]) rfl ?_
            refine kci (S := Su) (wr := [(o0, .inr (11, [.ref t0, o_1, o_2, o_3, o_4, o_5, o_6, o_7, .ref a0, o_9, o_10, o_11, o_12, o_13, o_14, o_15, o_16])), (t3, .inl (K 0, 24, .inl f3)), (l0, .inl (K 4, 6, .inr (.inr (.inr (.inr fl))))), (t0, .inr (9, [.ref t1, .ref t3, .ref t2, .ref l0, .int n, .int lt, .int nf, .int fi, k_8, k_9])), (t1, .inl (K 0, 56, .inl f1)), (t2, .inl (K 0, 6, .inl f2))]) (va_runVN (As := [.ref q_124, .int 1]) (rest := []) ⟨hx, hb, hml, hown, hts⟩ (w_told l D K g L a0 q_124 1 m0 w0 m1 br fs (u_112.2.1 0) H.size hr_123 (by first | omega | decide) (by first | omega | decide)) ⟨va_cnB 2 hts gX11_of_X0_told_n142 rfl rfl rfl (nst_at hN 25 rfl) (hts (.initialized RX0) (List.mem_cons_of_mem _ (List.mem_append_left _ (List.mem_append_left _ (List.mem_append_left _ (List.mem_append_left _ (List.mem_append_left _ (List.mem_append_right _ (List.mem_append_left _ (List.mem_of_getElem? (i := 1) rfl)))))))))) (by decide +kernel) ⟨Nat.le_of_ble_eq_true rfl, Nat.le_of_ble_eq_true rfl⟩, (hts (.instanceMethod yX0_told) (List.mem_cons_of_mem _ (List.mem_append_left _ (List.mem_append_left _ (List.mem_append_left _ (List.mem_append_left _ (List.mem_append_left _ (List.mem_append_right _ (List.mem_append_left _ (List.mem_of_getElem? (i := 15) rfl)))))))))), (hts (.selects RX0 yX0_told yX0_told) (List.mem_cons_of_mem _ (List.mem_append_left _ (List.mem_append_left _ (List.mem_append_left _ (List.mem_append_left _ (List.mem_append_left _ (List.mem_append_right _ (List.mem_append_left _ (List.mem_of_getElem? (i := 16) rfl))))))))))⟩ (mkVY hK hN (hP.sub [5, 1, 2, 6] rfl) (hD.sub [5, 1, 2, 6] (by decide) rfl) (ci := 0) (q0 := 0) rfl rfl (fun U hU hW => ⟨Gl.at hG hS hW hU (fun q h => va_free hD hS hA [5, 1, 2, 6] rfl q h), Pool.at hPl hS hU (fun q h => va_free hD hS hA [5, 1, 2, 6] rfl q h), Ro.heap hU (Ro.nil)⟩)) rfl rfl hl.1 rfl (lv_room (Nat.le_of_ble_eq_true rfl)) dX11_of_132 ⟨Nat.le_of_ble_eq_true rfl, Nat.le_of_ble_eq_true rfl⟩) hP hD hS hA [5, 1, 2, 6] [0, 3, 4, 7, 8, 9] rfl rfl (by decide) (by decide) (fun r_128 u_129 H locs hw hP hD hS => ?_)
            have hP : va_P D vwCl [(o0, .inr (11, [.ref t0, o_1, o_2, o_3, o_4, o_5, o_6, o_7, .ref a0, o_9, o_10, o_11, o_12, o_13, o_14, o_15, o_16])), (t3, .inl (K 0, 24, .inl f3)), (l0, .inl (K 4, 6, .inr (.inr (.inr (.inr fl))))), (t0, .inr (9, [.ref t1, .ref t3, .ref t2, .ref l0, .int n, .int lt, .int nf, .int fi, k_8, k_9])), (t1, .inl (K 0, 56, .inl f1)), (t2, .inl (K 0, 6, .inl f2)), (a0, .inr (0, [.ref m0, .ref w0])), (m0, .inr (3, [.ref m1, .int (u_129.2.2.2.1 0)])), (m1, .inl (K 0, 64, .inl (u_129.2.1 0))), (w0, .inl (K 0, 9, .inl (u_112.2.1 0)))] H := hP
            have hD : va_D A [(o0, .inr (11, [.ref t0, o_1, o_2, o_3, o_4, o_5, o_6, o_7, .ref a0, o_9, o_10, o_11, o_12, o_13, o_14, o_15, o_16])), (t3, .inl (K 0, 24, .inl f3)), (l0, .inl (K 4, 6, .inr (.inr (.inr (.inr fl))))), (t0, .inr (9, [.ref t1, .ref t3, .ref t2, .ref l0, .int n, .int lt, .int nf, .int fi, k_8, k_9])), (t1, .inl (K 0, 56, .inl f1)), (t2, .inl (K 0, 6, .inl f2)), (a0, .inr (0, [.ref m0, .ref w0])), (m0, .inr (3, [.ref m1, .int (u_129.2.2.2.1 0)])), (m1, .inl (K 0, 64, .inl (u_129.2.1 0))), (w0, .inl (K 0, 9, .inl (u_112.2.1 0)))] := hD
            obtain ⟨h_131, k_130, -⟩ := hw
            rw [← hQ]
            have hP9 := hP.sub (ws' := [(o0, .inr (11, [.ref t0, o_1, o_2, o_3, o_4, o_5, o_6, o_7, .ref a0, o_9, o_10, o_11, o_12, o_13, o_14, o_15, o_16])), (a0, .inr (0, [.ref m0, .ref w0])), (m0, .inr (3, [.ref m1, .int (u_129.2.2.2.1 0)])), (m1, .inl (K 0, 64, .inl (u_129.2.1 0))), (w0, .inl (K 0, 9, .inl (u_112.2.1 0))), (t0, .inr (9, [.ref t1, .ref t3, .ref t2, .ref l0, .int n, .int lt, .int nf, .int fi, k_8, k_9])), (t1, .inl (K 0, 56, .inl f1)), (t2, .inl (K 0, 6, .inl f2)), (t3, .inl (K 0, 24, .inl f3)), (l0, .inl (K 4, 6, .inr (.inr (.inr (.inr fl)))))]) [0, 6, 7, 8, 9, 3, 4, 5, 1, 2] rfl
            have hD9 := hD.sub (ws' := [(o0, .inr (11, [.ref t0, o_1, o_2, o_3, o_4, o_5, o_6, o_7, .ref a0, o_9, o_10, o_11, o_12, o_13, o_14, o_15, o_16])), (a0, .inr (0, [.ref m0, .ref w0])), (m0, .inr (3, [.ref m1, .int (u_129.2.2.2.1 0)])), (m1, .inl (K 0, 64, .inl (u_129.2.1 0))), (w0, .inl (K 0, 9, .inl (u_112.2.1 0))), (t0, .inr (9, [.ref t1, .ref t3, .ref t2, .ref l0, .int n, .int lt, .int nf, .int fi, k_8, k_9])), (t1, .inl (K 0, 56, .inl f1)), (t2, .inl (K 0, 6, .inl f2)), (t3, .inl (K 0, 24, .inl f3)), (l0, .inl (K 4, 6, .inr (.inr (.inr (.inr fl)))))]) [0, 6, 7, 8, 9, 3, 4, 5, 1, 2] (by decide) rfl
            exact W.iret (v := r_128) hx hb hr (fun t ht hW => ⟨⟨r_128, ((fun _ => 0, fun i => match i with | 0 => (u_129.2.1 0) | _ => (u_112.2.1 0), fun _ => fun _ => 0, fun i => match i with | _ => (u_129.2.2.2.1 0), fun _ => 0, fun _ => fun _ => none) : Su), rfl, ⟨(show 0 ≤ ((u_129.2.2.2.1 0) : Int32).toInt ∧ ((u_129.2.2.2.1 0) : Int32).toInt ≤ 1 by omega), trivial⟩, (⟨by rw [ht]; exact hP9, hD9⟩ : Wd D A _ t)⟩, hS.F ht⟩) hS.2.2 dX11_of_135
        · refine lv_tableIn (tgt := 136) hx hb dX11_of_79 (by omega) (by omega) (by rw [w_113]; rfl) (by decide) ?_
          refine lv_aload_n hx hb dX11_of_136 rfl (lv_at hl 0 rfl) ?_
          refine va_get (ci := 11) (v := .ref a0) (C := RX11) (T := TX11) (N := 17) hx hb hts hw11 hown hK hP 0 rfl rfl 8 (by decide) (hts (.fieldLink RX11 57 "SmokeTune" "court" "LSmokeTune$Court;") (List.mem_cons_of_mem _ (List.mem_append_left _ (List.mem_append_left _ (List.mem_append_left _ (List.mem_append_left _ (List.mem_append_left _ (List.mem_append_left _ (List.mem_of_getElem? (i := 1) rfl))))))))) (fun _ h9 => h9) rfl dX11_of_137 ?_
          refine lv_aload_n hx hb dX11_of_140 rfl (lv_at hl 0 rfl) ?_
          refine va_get (ci := 11) (v := .ref t0) (C := RX11) (T := TX11) (N := 17) hx hb hts hw11 hown hK hP 0 rfl rfl 0 (by decide) (hts (.fieldLink RX11 10 "SmokeTune" "town" "LSmokeTune$Town;") (List.mem_cons_of_mem _ (List.mem_append_left _ (List.mem_append_left _ (List.mem_append_left _ (List.mem_append_left _ (List.mem_append_left _ (List.mem_append_left _ (List.mem_of_getElem? (i := 0) rfl))))))))) (fun _ h9 => h9) rfl dX11_of_141 ?_
          refine pcq (va_runVN (As := []) (rest := [.ref a0]) ⟨hx, hb, hml, hown, hts⟩ (w_lawInForce l D K g L t0 (.ref t1) (.ref t3) (.ref t2) l0 (.int n) lt nf (.int fi) k_8 k_9 fl H.size (by first | omega | decide) zfl) ⟨va_cnB 0 hts gX11_of_X9_lawInForce_n138 rfl rfl rfl (nst_at hN 24 rfl) (hts (.initialized RX9) (List.mem_cons_of_mem _ (List.mem_append_left _ (List.mem_append_left _ (List.mem_append_left _ (List.mem_append_left _ (List.mem_append_left _ (List.mem_append_left _ (List.mem_of_getElem? (i := 3) rfl))))))))) (by decide +kernel) ⟨Nat.le_of_ble_eq_true rfl, Nat.le_of_ble_eq_true rfl⟩, (hts (.instanceMethod yX9_lawInForce) (List.mem_cons_of_mem _ (List.mem_append_left _ (List.mem_append_left _ (List.mem_append_left _ (List.mem_append_left _ (List.mem_append_left _ (List.mem_append_right _ (List.mem_append_left _ (List.mem_of_getElem? (i := 5) rfl)))))))))), (hts (.selects RX9 yX9_lawInForce yX9_lawInForce) (List.mem_cons_of_mem _ (List.mem_append_left _ (List.mem_append_left _ (List.mem_append_left _ (List.mem_append_left _ (List.mem_append_left _ (List.mem_append_right _ (List.mem_append_left _ (List.mem_of_getElem? (i := 6) rfl))))))))))⟩ (mkVY hK hN (hP.sub [7, 4] rfl) (hD.sub [7, 4] (by decide) rfl) (ci := 9) (q0 := 0) rfl rfl (fun U hU hW => ⟨Gl.at hG hS hW hU (fun _ h9 => h9.elim), Pool.at hPl hS hU (fun _ h9 => h9.elim), Ro.heap hU (Ro.nil)⟩)) rfl rfl hl.1 rfl (lv_room (Nat.le_of_ble_eq_true rfl)) dX11_of_144 ⟨Nat.le_of_ble_eq_true rfl, Nat.le_of_ble_eq_true rfl⟩) (fun r_132 hw => ?_)
          have hr_132 : InLo L r_132 := hw
          refine lv_iconst (v := 3) hx hb dX11_of_147 (by decide) ?_
          rcases r_132 with _ | q_133
          · have hl : lv_has ls 3 [(0, .ref o0), (1, .int x), (2, .int y)] := hl
            refine W.eq (g2 := F0 m 148 ls [.int 3, .null, .ref a0]) rfl ?_
            refine kci (S := Su) (wr := [(o0, .inr (11, [.ref t0, o_1, o_2, o_3, o_4, o_5, o_6, o_7, .ref a0, o_9, o_10, o_11, o_12, o_13, o_14, o_15, o_16])), (t3, .inl (K 0, 24, .inl f3)), (l0, .inl (K 4, 6, .inr (.inr (.inr (.inr fl))))), (t0, .inr (9, [.ref t1, .ref t3, .ref t2, .ref l0, .int n, .int lt, .int nf, .int fi, k_8, k_9])), (t1, .inl (K 0, 56, .inl f1)), (t2, .inl (K 0, 6, .inl f2))]) (va_runVN (As := [.null, .int 3]) (rest := []) ⟨hx, hb, hml, hown, hts⟩ (w_told_n l D K g L a0 3 m0 w0 m1 br fs (u_112.2.1 0) H.size (by first | omega | decide) (by first | omega | decide)) ⟨va_cnB 2 hts gX11_of_X0_told_n142 rfl rfl rfl (nst_at hN 25 rfl) (hts (.initialized RX0) (List.mem_cons_of_mem _ (List.mem_append_left _ (List.mem_append_left _ (List.mem_append_left _ (List.mem_append_left _ (List.mem_append_left _ (List.mem_append_right _ (List.mem_append_left _ (List.mem_of_getElem? (i := 1) rfl)))))))))) (by decide +kernel) ⟨Nat.le_of_ble_eq_true rfl, Nat.le_of_ble_eq_true rfl⟩, (hts (.instanceMethod yX0_told) (List.mem_cons_of_mem _ (List.mem_append_left _ (List.mem_append_left _ (List.mem_append_left _ (List.mem_append_left _ (List.mem_append_left _ (List.mem_append_right _ (List.mem_append_left _ (List.mem_of_getElem? (i := 15) rfl)))))))))), (hts (.selects RX0 yX0_told yX0_told) (List.mem_cons_of_mem _ (List.mem_append_left _ (List.mem_append_left _ (List.mem_append_left _ (List.mem_append_left _ (List.mem_append_left _ (List.mem_append_right _ (List.mem_append_left _ (List.mem_of_getElem? (i := 16) rfl))))))))))⟩ (mkVY hK hN (hP.sub [5, 1, 2, 6] rfl) (hD.sub [5, 1, 2, 6] (by decide) rfl) (ci := 0) (q0 := 0) rfl rfl (fun U hU hW => ⟨Gl.at hG hS hW hU (fun q h => va_free hD hS hA [5, 1, 2, 6] rfl q h), Pool.at hPl hS hU (fun q h => va_free hD hS hA [5, 1, 2, 6] rfl q h), Ro.heap hU (Ro.nil)⟩)) rfl rfl hl.1 rfl (lv_room (Nat.le_of_ble_eq_true rfl)) dX11_of_148 ⟨Nat.le_of_ble_eq_true rfl, Nat.le_of_ble_eq_true rfl⟩) hP hD hS hA [5, 1, 2, 6] [0, 3, 4, 7, 8, 9] rfl rfl (by decide) (by decide) (fun r_134 u_135 H locs hw hP hD hS => ?_)
            have hP : va_P D vwCl [(o0, .inr (11, [.ref t0, o_1, o_2, o_3, o_4, o_5, o_6, o_7, .ref a0, o_9, o_10, o_11, o_12, o_13, o_14, o_15, o_16])), (t3, .inl (K 0, 24, .inl f3)), (l0, .inl (K 4, 6, .inr (.inr (.inr (.inr fl))))), (t0, .inr (9, [.ref t1, .ref t3, .ref t2, .ref l0, .int n, .int lt, .int nf, .int fi, k_8, k_9])), (t1, .inl (K 0, 56, .inl f1)), (t2, .inl (K 0, 6, .inl f2)), (a0, .inr (0, [.ref m0, .ref w0])), (m0, .inr (3, [.ref m1, .int br])), (m1, .inl (K 0, 64, .inl fs)), (w0, .inl (K 0, 9, .inl (u_112.2.1 0)))] H := hP
            have hD : va_D A [(o0, .inr (11, [.ref t0, o_1, o_2, o_3, o_4, o_5, o_6, o_7, .ref a0, o_9, o_10, o_11, o_12, o_13, o_14, o_15, o_16])), (t3, .inl (K 0, 24, .inl f3)), (l0, .inl (K 4, 6, .inr (.inr (.inr (.inr fl))))), (t0, .inr (9, [.ref t1, .ref t3, .ref t2, .ref l0, .int n, .int lt, .int nf, .int fi, k_8, k_9])), (t1, .inl (K 0, 56, .inl f1)), (t2, .inl (K 0, 6, .inl f2)), (a0, .inr (0, [.ref m0, .ref w0])), (m0, .inr (3, [.ref m1, .int br])), (m1, .inl (K 0, 64, .inl fs)), (w0, .inl (K 0, 9, .inl (u_112.2.1 0)))] := hD
            obtain ⟨h_136, -⟩ := hw
            rw [← hQ]
            have hP9 := hP.sub (ws' := [(o0, .inr (11, [.ref t0, o_1, o_2, o_3, o_4, o_5, o_6, o_7, .ref a0, o_9, o_10, o_11, o_12, o_13, o_14, o_15, o_16])), (a0, .inr (0, [.ref m0, .ref w0])), (m0, .inr (3, [.ref m1, .int br])), (m1, .inl (K 0, 64, .inl fs)), (w0, .inl (K 0, 9, .inl (u_112.2.1 0))), (t0, .inr (9, [.ref t1, .ref t3, .ref t2, .ref l0, .int n, .int lt, .int nf, .int fi, k_8, k_9])), (t1, .inl (K 0, 56, .inl f1)), (t2, .inl (K 0, 6, .inl f2)), (t3, .inl (K 0, 24, .inl f3)), (l0, .inl (K 4, 6, .inr (.inr (.inr (.inr fl)))))]) [0, 6, 7, 8, 9, 3, 4, 5, 1, 2] rfl
            have hD9 := hD.sub (ws' := [(o0, .inr (11, [.ref t0, o_1, o_2, o_3, o_4, o_5, o_6, o_7, .ref a0, o_9, o_10, o_11, o_12, o_13, o_14, o_15, o_16])), (a0, .inr (0, [.ref m0, .ref w0])), (m0, .inr (3, [.ref m1, .int br])), (m1, .inl (K 0, 64, .inl fs)), (w0, .inl (K 0, 9, .inl (u_112.2.1 0))), (t0, .inr (9, [.ref t1, .ref t3, .ref t2, .ref l0, .int n, .int lt, .int nf, .int fi, k_8, k_9])), (t1, .inl (K 0, 56, .inl f1)), (t2, .inl (K 0, 6, .inl f2)), (t3, .inl (K 0, 24, .inl f3)), (l0, .inl (K 4, 6, .inr (.inr (.inr (.inr fl)))))]) [0, 6, 7, 8, 9, 3, 4, 5, 1, 2] (by decide) rfl
            exact W.iret (v := r_134) hx hb hr (fun t ht hW => ⟨⟨r_134, ((fun _ => 0, fun i => match i with | 0 => fs | _ => (u_112.2.1 0), fun _ => fun _ => 0, fun i => match i with | _ => br, fun _ => 0, fun _ => fun _ => none) : Su), rfl, ⟨(show 0 ≤ (br : Int32).toInt ∧ (br : Int32).toInt ≤ 1 by omega), trivial⟩, (⟨by rw [ht]; exact hP9, hD9⟩ : Wd D A _ t)⟩, hS.F ht⟩) hS.2.2 dX11_of_151
          · have hl : lv_has ls 3 [(0, .ref o0), (1, .int x), (2, .int y)] := hl
            refine W.eq (g2 := F0 m 148 ls [.int 3, .ref q_133, .ref a0]) rfl ?_
            refine kci (S := Su) (wr := [(o0, .inr (11, [.ref t0, o_1, o_2, o_3, o_4, o_5, o_6, o_7, .ref a0, o_9, o_10, o_11, o_12, o_13, o_14, o_15, o_16])), (t3, .inl (K 0, 24, .inl f3)), (l0, .inl (K 4, 6, .inr (.inr (.inr (.inr fl))))), (t0, .inr (9, [.ref t1, .ref t3, .ref t2, .ref l0, .int n, .int lt, .int nf, .int fi, k_8, k_9])), (t1, .inl (K 0, 56, .inl f1)), (t2, .inl (K 0, 6, .inl f2))]) (va_runVN (As := [.ref q_133, .int 3]) (rest := []) ⟨hx, hb, hml, hown, hts⟩ (w_told l D K g L a0 q_133 3 m0 w0 m1 br fs (u_112.2.1 0) H.size hr_132 (by first | omega | decide) (by first | omega | decide)) ⟨va_cnB 2 hts gX11_of_X0_told_n142 rfl rfl rfl (nst_at hN 25 rfl) (hts (.initialized RX0) (List.mem_cons_of_mem _ (List.mem_append_left _ (List.mem_append_left _ (List.mem_append_left _ (List.mem_append_left _ (List.mem_append_left _ (List.mem_append_right _ (List.mem_append_left _ (List.mem_of_getElem? (i := 1) rfl)))))))))) (by decide +kernel) ⟨Nat.le_of_ble_eq_true rfl, Nat.le_of_ble_eq_true rfl⟩, (hts (.instanceMethod yX0_told) (List.mem_cons_of_mem _ (List.mem_append_left _ (List.mem_append_left _ (List.mem_append_left _ (List.mem_append_left _ (List.mem_append_left _ (List.mem_append_right _ (List.mem_append_left _ (List.mem_of_getElem? (i := 15) rfl)))))))))), (hts (.selects RX0 yX0_told yX0_told) (List.mem_cons_of_mem _ (List.mem_append_left _ (List.mem_append_left _ (List.mem_append_left _ (List.mem_append_left _ (List.mem_append_left _ (List.mem_append_right _ (List.mem_append_left _ (List.mem_of_getElem? (i := 16) rfl))))))))))⟩ (mkVY hK hN (hP.sub [5, 1, 2, 6] rfl) (hD.sub [5, 1, 2, 6] (by decide) rfl) (ci := 0) (q0 := 0) rfl rfl (fun U hU hW => ⟨Gl.at hG hS hW hU (fun q h => va_free hD hS hA [5, 1, 2, 6] rfl q h), Pool.at hPl hS hU (fun q h => va_free hD hS hA [5, 1, 2, 6] rfl q h), Ro.heap hU (Ro.nil)⟩)) rfl rfl hl.1 rfl (lv_room (Nat.le_of_ble_eq_true rfl)) dX11_of_148 ⟨Nat.le_of_ble_eq_true rfl, Nat.le_of_ble_eq_true rfl⟩) hP hD hS hA [5, 1, 2, 6] [0, 3, 4, 7, 8, 9] rfl rfl (by decide) (by decide) (fun r_137 u_138 H locs hw hP hD hS => ?_)
            have hP : va_P D vwCl [(o0, .inr (11, [.ref t0, o_1, o_2, o_3, o_4, o_5, o_6, o_7, .ref a0, o_9, o_10, o_11, o_12, o_13, o_14, o_15, o_16])), (t3, .inl (K 0, 24, .inl f3)), (l0, .inl (K 4, 6, .inr (.inr (.inr (.inr fl))))), (t0, .inr (9, [.ref t1, .ref t3, .ref t2, .ref l0, .int n, .int lt, .int nf, .int fi, k_8, k_9])), (t1, .inl (K 0, 56, .inl f1)), (t2, .inl (K 0, 6, .inl f2)), (a0, .inr (0, [.ref m0, .ref w0])), (m0, .inr (3, [.ref m1, .int (u_138.2.2.2.1 0)])), (m1, .inl (K 0, 64, .inl (u_138.2.1 0))), (w0, .inl (K 0, 9, .inl (u_112.2.1 0)))] H := hP
            have hD : va_D A [(o0, .inr (11, [.ref t0, o_1, o_2, o_3, o_4, o_5, o_6, o_7, .ref a0, o_9, o_10, o_11, o_12, o_13, o_14, o_15, o_16])), (t3, .inl (K 0, 24, .inl f3)), (l0, .inl (K 4, 6, .inr (.inr (.inr (.inr fl))))), (t0, .inr (9, [.ref t1, .ref t3, .ref t2, .ref l0, .int n, .int lt, .int nf, .int fi, k_8, k_9])), (t1, .inl (K 0, 56, .inl f1)), (t2, .inl (K 0, 6, .inl f2)), (a0, .inr (0, [.ref m0, .ref w0])), (m0, .inr (3, [.ref m1, .int (u_138.2.2.2.1 0)])), (m1, .inl (K 0, 64, .inl (u_138.2.1 0))), (w0, .inl (K 0, 9, .inl (u_112.2.1 0)))] := hD
            obtain ⟨h_140, k_139, -⟩ := hw
            rw [← hQ]
            have hP9 := hP.sub (ws' := [(o0, .inr (11, [.ref t0, o_1, o_2, o_3, o_4, o_5, o_6, o_7, .ref a0, o_9, o_10, o_11, o_12, o_13, o_14, o_15, o_16])), (a0, .inr (0, [.ref m0, .ref w0])), (m0, .inr (3, [.ref m1, .int (u_138.2.2.2.1 0)])), (m1, .inl (K 0, 64, .inl (u_138.2.1 0))), (w0, .inl (K 0, 9, .inl (u_112.2.1 0))), (t0, .inr (9, [.ref t1, .ref t3, .ref t2, .ref l0, .int n, .int lt, .int nf, .int fi, k_8, k_9])), (t1, .inl (K 0, 56, .inl f1)), (t2, .inl (K 0, 6, .inl f2)), (t3, .inl (K 0, 24, .inl f3)), (l0, .inl (K 4, 6, .inr (.inr (.inr (.inr fl)))))]) [0, 6, 7, 8, 9, 3, 4, 5, 1, 2] rfl
            have hD9 := hD.sub (ws' := [(o0, .inr (11, [.ref t0, o_1, o_2, o_3, o_4, o_5, o_6, o_7, .ref a0, o_9, o_10, o_11, o_12, o_13, o_14, o_15, o_16])), (a0, .inr (0, [.ref m0, .ref w0])), (m0, .inr (3, [.ref m1, .int (u_138.2.2.2.1 0)])), (m1, .inl (K 0, 64, .inl (u_138.2.1 0))), (w0, .inl (K 0, 9, .inl (u_112.2.1 0))), (t0, .inr (9, [.ref t1, .ref t3, .ref t2, .ref l0, .int n, .int lt, .int nf, .int fi, k_8, k_9])), (t1, .inl (K 0, 56, .inl f1)), (t2, .inl (K 0, 6, .inl f2)), (t3, .inl (K 0, 24, .inl f3)), (l0, .inl (K 4, 6, .inr (.inr (.inr (.inr fl)))))]) [0, 6, 7, 8, 9, 3, 4, 5, 1, 2] (by decide) rfl
            exact W.iret (v := r_137) hx hb hr (fun t ht hW => ⟨⟨r_137, ((fun _ => 0, fun i => match i with | 0 => (u_138.2.1 0) | _ => (u_112.2.1 0), fun _ => fun _ => 0, fun i => match i with | _ => (u_138.2.2.2.1 0), fun _ => 0, fun _ => fun _ => none) : Su), rfl, ⟨(show 0 ≤ ((u_138.2.2.2.1 0) : Int32).toInt ∧ ((u_138.2.2.2.1 0) : Int32).toInt ≤ 1 by omega), trivial⟩, (⟨by rw [ht]; exact hP9, hD9⟩ : Wd D A _ t)⟩, hS.F ht⟩) hS.2.2 dX11_of_151
        · refine lv_tableOut (tgt := 152) hx hb dX11_of_79 (by omega) (by decide) ?_
          refine lv_iconst (v := (-1)) hx hb dX11_of_152 (by decide) ?_
          rw [← hQ]
          have hP9 := hP.sub (ws' := [(o0, .inr (11, [.ref t0, o_1, o_2, o_3, o_4, o_5, o_6, o_7, .ref a0, o_9, o_10, o_11, o_12, o_13, o_14, o_15, o_16])), (a0, .inr (0, [.ref m0, .ref w0])), (m0, .inr (3, [.ref m1, .int br])), (m1, .inl (K 0, 64, .inl fs)), (w0, .inl (K 0, 9, .inl (u_112.2.1 0))), (t0, .inr (9, [.ref t1, .ref t3, .ref t2, .ref l0, .int n, .int lt, .int nf, .int fi, k_8, k_9])), (t1, .inl (K 0, 56, .inl f1)), (t2, .inl (K 0, 6, .inl f2)), (t3, .inl (K 0, 24, .inl f3)), (l0, .inl (K 4, 6, .inr (.inr (.inr (.inr fl)))))]) [0, 5, 1, 2, 6, 7, 8, 9, 3, 4] rfl
          have hD9 := hD.sub (ws' := [(o0, .inr (11, [.ref t0, o_1, o_2, o_3, o_4, o_5, o_6, o_7, .ref a0, o_9, o_10, o_11, o_12, o_13, o_14, o_15, o_16])), (a0, .inr (0, [.ref m0, .ref w0])), (m0, .inr (3, [.ref m1, .int br])), (m1, .inl (K 0, 64, .inl fs)), (w0, .inl (K 0, 9, .inl (u_112.2.1 0))), (t0, .inr (9, [.ref t1, .ref t3, .ref t2, .ref l0, .int n, .int lt, .int nf, .int fi, k_8, k_9])), (t1, .inl (K 0, 56, .inl f1)), (t2, .inl (K 0, 6, .inl f2)), (t3, .inl (K 0, 24, .inl f3)), (l0, .inl (K 4, 6, .inr (.inr (.inr (.inr fl)))))]) [0, 5, 1, 2, 6, 7, 8, 9, 3, 4] (by decide) rfl
          exact W.iret (v := (-1)) hx hb hr (fun t ht hW => ⟨⟨(-1), ((fun _ => 0, fun i => match i with | 0 => fs | _ => (u_112.2.1 0), fun _ => fun _ => 0, fun i => match i with | _ => br, fun _ => 0, fun _ => fun _ => none) : Su), rfl, ⟨(show 0 ≤ (br : Int32).toInt ∧ (br : Int32).toInt ≤ 1 by omega), trivial⟩, (⟨by rw [ht]; exact hP9, hD9⟩ : Wd D A _ t)⟩, hS.F ht⟩) hS.2.2 dX11_of_153
      · have c_109i := i_eq (x := y.toInt) (y := 7) rfl rfl c_109
        refine lv_aload_n hx hb dX11_of_39 rfl (lv_at hl 0 rfl) ?_
        refine va_get (ci := 11) (v := .ref t0) (C := RX11) (T := TX11) (N := 17) hx hb hts hw11 hown hK hP 0 rfl rfl 0 (by decide) (hts (.fieldLink RX11 10 "SmokeTune" "town" "LSmokeTune$Town;") (List.mem_cons_of_mem _ (List.mem_append_left _ (List.mem_append_left _ (List.mem_append_left _ (List.mem_append_left _ (List.mem_append_left _ (List.mem_append_left _ (List.mem_of_getElem? (i := 0) rfl))))))))) (fun _ h9 => h9) rfl dX11_of_40 ?_
        refine lv_iload_n hx hb dX11_of_43 rfl (lv_at hl 1 rfl) ?_
        refine pci (va_runVN (As := [.int x]) (rest := []) ⟨hx, hb, hml, hown, hts⟩ (w_sings l D K t0 x t1 (.ref t3) t2 (.ref l0) (.int n) (.int lt) (.int nf) (.int fi) k_8 k_9 f1 f2 s.heap.size) ⟨va_cnB 1 hts gX11_of_X9_sings_n129 rfl rfl rfl (nst_at hN 21 rfl) (hts (.initialized RX9) (List.mem_cons_of_mem _ (List.mem_append_left _ (List.mem_append_left _ (List.mem_append_left _ (List.mem_append_left _ (List.mem_append_left _ (List.mem_append_left _ (List.mem_of_getElem? (i := 3) rfl))))))))) (by decide +kernel) ⟨Nat.le_of_ble_eq_true rfl, Nat.le_of_ble_eq_true rfl⟩, (hts (.instanceMethod yX9_sings) (List.mem_cons_of_mem _ (List.mem_append_left _ (List.mem_append_left _ (List.mem_append_left _ (List.mem_append_left _ (List.mem_append_left _ (List.mem_append_left _ (List.mem_of_getElem? (i := 15) rfl))))))))), (hts (.selects RX9 yX9_sings yX9_sings) (List.mem_cons_of_mem _ (List.mem_append_left _ (List.mem_append_left _ (List.mem_append_left _ (List.mem_append_left _ (List.mem_append_left _ (List.mem_append_left _ (List.mem_of_getElem? (i := 16) rfl)))))))))⟩ (mkV hK hN (hP.sub [5, 6, 7] rfl) (hD.sub [5, 6, 7] (by decide) rfl) (ci := 9) (q0 := 0) rfl rfl) rfl rfl hl.1 rfl (lv_room (Nat.le_of_ble_eq_true rfl)) dX11_of_44 ⟨Nat.le_of_ble_eq_true rfl, Nat.le_of_ble_eq_true rfl⟩) (fun r_141 hw => ?_)
        obtain ⟨h_142, -⟩ := hw
        refine lv_if_eq (tgt := 54) hx hb dX11_of_47 (by decide) (fun c_143 => ?_) (fun c_143 => ?_)
        · have c_143i := i_eq (x := r_141.toInt) (y := 0) rfl rfl c_143
          refine lv_iconst (v := 0) hx hb dX11_of_54 (by decide) ?_
          rw [← hQ]
          have hP9 := hP.sub (ws' := [(o0, .inr (11, [.ref t0, o_1, o_2, o_3, o_4, o_5, o_6, o_7, .ref a0, o_9, o_10, o_11, o_12, o_13, o_14, o_15, o_16])), (a0, .inr (0, [.ref m0, .ref w0])), (m0, .inr (3, [.ref m1, .int br])), (m1, .inl (K 0, 64, .inl fs)), (w0, .inl (K 0, 9, .inl fw)), (t0, .inr (9, [.ref t1, .ref t3, .ref t2, .ref l0, .int n, .int lt, .int nf, .int fi, k_8, k_9])), (t1, .inl (K 0, 56, .inl f1)), (t2, .inl (K 0, 6, .inl f2)), (t3, .inl (K 0, 24, .inl f3)), (l0, .inl (K 4, 6, .inr (.inr (.inr (.inr fl)))))]) [0, 1, 2, 3, 4, 5, 6, 7, 8, 9] rfl
          have hD9 := hD.sub (ws' := [(o0, .inr (11, [.ref t0, o_1, o_2, o_3, o_4, o_5, o_6, o_7, .ref a0, o_9, o_10, o_11, o_12, o_13, o_14, o_15, o_16])), (a0, .inr (0, [.ref m0, .ref w0])), (m0, .inr (3, [.ref m1, .int br])), (m1, .inl (K 0, 64, .inl fs)), (w0, .inl (K 0, 9, .inl fw)), (t0, .inr (9, [.ref t1, .ref t3, .ref t2, .ref l0, .int n, .int lt, .int nf, .int fi, k_8, k_9])), (t1, .inl (K 0, 56, .inl f1)), (t2, .inl (K 0, 6, .inl f2)), (t3, .inl (K 0, 24, .inl f3)), (l0, .inl (K 4, 6, .inr (.inr (.inr (.inr fl)))))]) [0, 1, 2, 3, 4, 5, 6, 7, 8, 9] (by decide) rfl
          exact W.iret (v := 0) hx hb hr (fun t ht hW => ⟨⟨0, ((fun _ => 0, fun i => match i with | 0 => fs | _ => fw, fun _ => fun _ => 0, fun i => match i with | _ => br, fun _ => 0, fun _ => fun _ => none) : Su), rfl, ⟨(show 0 ≤ (br : Int32).toInt ∧ (br : Int32).toInt ≤ 1 by omega), trivial⟩, (⟨by rw [ht]; exact hP9, hD9⟩ : Wd D A _ t)⟩, hS.F ht⟩) hS.2.2 dX11_of_55
        · have c_143i := i_ne (x := r_141.toInt) (y := 0) rfl rfl c_143
          refine lv_iconst (v := 1) hx hb dX11_of_50 (by decide) ?_
          refine lv_goto (tgt := 55) hx hb dX11_of_51 (by decide) ?_
          rw [← hQ]
          have hP9 := hP.sub (ws' := [(o0, .inr (11, [.ref t0, o_1, o_2, o_3, o_4, o_5, o_6, o_7, .ref a0, o_9, o_10, o_11, o_12, o_13, o_14, o_15, o_16])), (a0, .inr (0, [.ref m0, .ref w0])), (m0, .inr (3, [.ref m1, .int br])), (m1, .inl (K 0, 64, .inl fs)), (w0, .inl (K 0, 9, .inl fw)), (t0, .inr (9, [.ref t1, .ref t3, .ref t2, .ref l0, .int n, .int lt, .int nf, .int fi, k_8, k_9])), (t1, .inl (K 0, 56, .inl f1)), (t2, .inl (K 0, 6, .inl f2)), (t3, .inl (K 0, 24, .inl f3)), (l0, .inl (K 4, 6, .inr (.inr (.inr (.inr fl)))))]) [0, 1, 2, 3, 4, 5, 6, 7, 8, 9] rfl
          have hD9 := hD.sub (ws' := [(o0, .inr (11, [.ref t0, o_1, o_2, o_3, o_4, o_5, o_6, o_7, .ref a0, o_9, o_10, o_11, o_12, o_13, o_14, o_15, o_16])), (a0, .inr (0, [.ref m0, .ref w0])), (m0, .inr (3, [.ref m1, .int br])), (m1, .inl (K 0, 64, .inl fs)), (w0, .inl (K 0, 9, .inl fw)), (t0, .inr (9, [.ref t1, .ref t3, .ref t2, .ref l0, .int n, .int lt, .int nf, .int fi, k_8, k_9])), (t1, .inl (K 0, 56, .inl f1)), (t2, .inl (K 0, 6, .inl f2)), (t3, .inl (K 0, 24, .inl f3)), (l0, .inl (K 4, 6, .inr (.inr (.inr (.inr fl)))))]) [0, 1, 2, 3, 4, 5, 6, 7, 8, 9] (by decide) rfl
          exact W.iret (v := 1) hx hb hr (fun t ht hW => ⟨⟨1, ((fun _ => 0, fun i => match i with | 0 => fs | _ => fw, fun _ => fun _ => 0, fun i => match i with | _ => br, fun _ => 0, fun _ => fun _ => none) : Su), rfl, ⟨(show 0 ≤ (br : Int32).toInt ∧ (br : Int32).toInt ≤ 1 by omega), trivial⟩, (⟨by rw [ht]; exact hP9, hD9⟩ : Wd D A _ t)⟩, hS.F ht⟩) hS.2.2 dX11_of_55
  · refine lv_if_ne (tgt := 13) hx hb dX11_of_8 (by decide) (fun c_144 => absurd (by decide) c_144) (fun c_144 => ?_)
    refine lv_iconst (v := (-1)) hx hb dX11_of_11 (by decide) ?_
    rw [← hQ]
    have hP9 := hP.sub (ws' := [(o0, .inr (11, [.ref t0, o_1, o_2, o_3, o_4, o_5, o_6, o_7, .ref a0, o_9, o_10, o_11, o_12, o_13, o_14, o_15, o_16])), (a0, .inr (0, [.ref m0, .ref w0])), (m0, .inr (3, [.ref m1, .int br])), (m1, .inl (K 0, 64, .inl fs)), (w0, .inl (K 0, 9, .inl fw)), (t0, .inr (9, [.ref t1, .ref t3, .ref t2, .ref l0, .int n, .int lt, .int nf, .int fi, k_8, k_9])), (t1, .inl (K 0, 56, .inl f1)), (t2, .inl (K 0, 6, .inl f2)), (t3, .inl (K 0, 24, .inl f3)), (l0, .inl (K 4, 6, .inr (.inr (.inr (.inr fl)))))]) [0, 1, 2, 3, 4, 5, 6, 7, 8, 9] rfl
    have hD9 := hD.sub (ws' := [(o0, .inr (11, [.ref t0, o_1, o_2, o_3, o_4, o_5, o_6, o_7, .ref a0, o_9, o_10, o_11, o_12, o_13, o_14, o_15, o_16])), (a0, .inr (0, [.ref m0, .ref w0])), (m0, .inr (3, [.ref m1, .int br])), (m1, .inl (K 0, 64, .inl fs)), (w0, .inl (K 0, 9, .inl fw)), (t0, .inr (9, [.ref t1, .ref t3, .ref t2, .ref l0, .int n, .int lt, .int nf, .int fi, k_8, k_9])), (t1, .inl (K 0, 56, .inl f1)), (t2, .inl (K 0, 6, .inl f2)), (t3, .inl (K 0, 24, .inl f3)), (l0, .inl (K 4, 6, .inr (.inr (.inr (.inr fl)))))]) [0, 1, 2, 3, 4, 5, 6, 7, 8, 9] (by decide) rfl
    exact W.iret (v := (-1)) hx hb hr (fun t ht hW => ⟨⟨(-1), ((fun _ => 0, fun i => match i with | 0 => fs | _ => fw, fun _ => fun _ => 0, fun i => match i with | _ => br, fun _ => 0, fun _ => fun _ => none) : Su), rfl, ⟨(show 0 ≤ (br : Int32).toInt ∧ (br : Int32).toInt ≤ 1 by omega), trivial⟩, (⟨by rw [ht]; exact hP9, hD9⟩ : Wd D A _ t)⟩, hS.F ht⟩) hS.2.2 dX11_of_12
set_option maxHeartbeats 4000000 in
set_option maxRecDepth 100000 in
theorem w_score (l : Launch) (D : va_G) (K : Nat → ClassId) (o0 : Nat) (x : Int32) (y : Int32) (t0 : Nat) (o_1 : Value) (o_2 : Value) (o_3 : Value) (o_4 : Value) (o_5 : Value) (o_6 : Value) (o_7 : Value) (o_8 : Value) (o_9 : Value) (o_10 : Value) (o_11 : Value) (rf : Nat) (rb : Int32) (o_14 : Value) (o_15 : Value) (o_16 : Value) (frf : Nat → Int32) (k_0 : Value) (t3 : Nat) (k_2 : Value) (k_3 : Value) (k_4 : Value) (k_5 : Value) (k_6 : Value) (k_7 : Value) (k_8 : Value) (k_9 : Value) (f3 : Nat → Int32) (sz : Nat) : Met l yX11_score wsX11_score ({ frames := 2, cells := 0, slots := 0, locals := 44 }) (va_Pc [.ref o0, .int x, .int y] (Pre D K [(o0, .inr (11, [.ref t0, o_1, o_2, o_3, o_4, o_5, o_6, o_7, o_8, o_9, o_10, o_11, .ref rf, .int rb, o_14, o_15, o_16])), (rf, .inl (K 0, 5, .inl frf)), (t0, .inr (9, [k_0, .ref t3, k_2, k_3, k_4, k_5, k_6, k_7, k_8, k_9])), (t3, .inl (K 0, 24, .inl f3))] sz)) (va_Qi (S := Su) (fun (r : Int32) (u : Su) => True) (fun u t => Wd D (va_A [(o0, .inr (11, [.ref t0, o_1, o_2, o_3, o_4, o_5, o_6, o_7, o_8, o_9, o_10, o_11, .ref rf, .int rb, o_14, o_15, o_16])), (rf, .inl (K 0, 5, .inl frf)), (t0, .inr (9, [k_0, .ref t3, k_2, k_3, k_4, k_5, k_6, k_7, k_8, k_9])), (t3, .inl (K 0, 24, .inl f3))] sz) ((fun u => [(o0, .inr (11, [.ref t0, o_1, o_2, o_3, o_4, o_5, o_6, o_7, o_8, o_9, o_10, o_11, .ref rf, .int (u.2.2.2.1 0), o_14, o_15, o_16])), (rf, .inl (K 0, 5, .inl (u.2.1 0))), (t0, .inr (9, [k_0, .ref t3, k_2, k_3, k_4, k_5, k_6, k_7, k_8, k_9])), (t3, .inl (K 0, 24, .inl (u.2.1 1)))]) u) t) (va_A [(o0, .inr (11, [.ref t0, o_1, o_2, o_3, o_4, o_5, o_6, o_7, o_8, o_9, o_10, o_11, .ref rf, .int rb, o_14, o_15, o_16])), (rf, .inl (K 0, 5, .inl frf)), (t0, .inr (9, [k_0, .ref t3, k_2, k_3, k_4, k_5, k_6, k_7, k_8, k_9])), (t3, .inl (K 0, 24, .inl f3))] sz)) 0 0 (va_A [(o0, .inr (11, [.ref t0, o_1, o_2, o_3, o_4, o_5, o_6, o_7, o_8, o_9, o_10, o_11, .ref rf, .int rb, o_14, o_15, o_16])), (rf, .inl (K 0, 5, .inl frf)), (t0, .inr (9, [k_0, .ref t3, k_2, k_3, k_4, k_5, k_6, k_7, k_8, k_9])), (t3, .inl (K 0, 24, .inl f3))] sz) := by
  refine Met.ofW (cc := cX11_score) (maxL := 4) (ret := (some .int)) (by decide) rfl ?_
  intro p e s m args below meth c s₁ B hml hv
  obtain ⟨rfl, hsz, hP, hK, hD0, hN⟩ := hv
  have hx := B.exec
  have hb := B.bytes
  have hr := B.returns
  have hts := atoms_spec (ws := wsX11_score) B.pre
  have hown : s.vm.findClass RX11 = some m.cls := findClass_of_methodNamed B.named
  have hlocks := B.notSynchronized
  subst hsz
  have hD := hD0.self (sz := s.heap.size)
  generalize hAe : va_A [(o0, .inr (11, [.ref t0, o_1, o_2, o_3, o_4, o_5, o_6, o_7, o_8, o_9, o_10, o_11, .ref rf, .int rb, o_14, o_15, o_16])), (rf, .inl (K 0, 5, .inl frf)), (t0, .inr (9, [k_0, .ref t3, k_2, k_3, k_4, k_5, k_6, k_7, k_8, k_9])), (t3, .inl (K 0, 24, .inl f3))] s.heap.size = A at hD ⊢
  have hA : ∀ q : Nat, s.heap.size ≤ q → A q := fun q h => by rw [← hAe]; exact Or.inr h
  have hS : va_S A s.heap s.heap [] := va_S.rf
  have hP : va_P D vwCl [(o0, .inr (11, [.ref t0, o_1, o_2, o_3, o_4, o_5, o_6, o_7, o_8, o_9, o_10, o_11, .ref rf, .int rb, o_14, o_15, o_16])), (rf, .inl (K 0, 5, .inl frf)), (t0, .inr (9, [k_0, .ref t3, k_2, k_3, k_4, k_5, k_6, k_7, k_8, k_9])), (t3, .inl (K 0, 24, .inl f3))] s.heap := hP
  have hl := lv_entry [.ref o0, .int x, .int y] (n := 4) (Nat.le_of_ble_eq_true rfl)
  rw [lg_entry_eq]
  generalize (lg_sl [.ref o0, .int x, .int y] ++ List.replicate (4 - (lg_sl [.ref o0, .int x, .int y]).length) Slot.unset).toArray = ls at hl ⊢
  have hl : lv_has ls 4 [(0, .ref o0), (1, .int x), (2, .int y)] := hl
  have hw9 : ∀ w ∈ wsX90, w ∈ wsX11_score := fun w h => (List.mem_cons_of_mem _ (List.mem_append_right _ h))
  have hw11 : ∀ w ∈ wsX110, w ∈ wsX11_score := fun w h => (List.mem_cons_of_mem _ (List.mem_append_left _ (List.mem_append_right _ h)))
  generalize hQ : MQ below _ _ s _ _ _ = Q
  refine lv_iload_n hx hb dX11_score_0 rfl (lv_at hl 1 rfl) ?_
  refine lv_iconst (v := 0) hx hb dX11_score_1 (by decide) ?_
  refine lv_bipush (v := 23) hx hb dX11_score_2 (by decide) ?_
  have j_93 : ∀ (H : Heap) (locs : List Loc) (hP : va_P D vwCl [(o0, .inr (11, [.ref t0, o_1, o_2, o_3, o_4, o_5, o_6, o_7, o_8, o_9, o_10, o_11, .ref rf, .int rb, o_14, o_15, o_16])), (rf, .inl (K 0, 5, .inl frf)), (t0, .inr (9, [k_0, .ref t3, k_2, k_3, k_4, k_5, k_6, k_7, k_8, k_9])), (t3, .inl (K 0, 24, .inl f3))] H) (hD : va_D A [(o0, .inr (11, [.ref t0, o_1, o_2, o_3, o_4, o_5, o_6, o_7, o_8, o_9, o_10, o_11, .ref rf, .int rb, o_14, o_15, o_16])), (rf, .inl (K 0, 5, .inl frf)), (t0, .inr (9, [k_0, .ref t3, k_2, k_3, k_4, k_5, k_6, k_7, k_8, k_9])), (t3, .inl (K 0, 24, .inl f3))]) (hS : va_S A s.heap H locs) (ls : Array Slot) (hl : lv_has ls 4 [(0, .ref o0)]), W p l e ({ frames := 2, cells := 0, slots := 0, locals := 44 }) s m (([.ref o0, .int x, .int y] : List Value).toArray) below meth c H locs 0 0 Q (F0 m 20 ls []) := by
    intro H locs hP hD hS ls hl
    refine lv_aload_n hx hb dX11_score_20 rfl (lv_at hl 0 rfl) ?_
    refine lv_iconst (v := (-1)) hx hb dX11_score_21 (by decide) ?_
    refine kci (S := Su) (wr := [(t0, .inr (9, [k_0, .ref t3, k_2, k_3, k_4, k_5, k_6, k_7, k_8, k_9])), (t3, .inl (K 0, 24, .inl f3))]) (va_runV (As := [.int (-1)]) (rest := []) ⟨hx, hb, hml, hown, hts⟩ (w_refuse l D K o0 (-1) (.ref t0) o_1 o_2 o_3 o_4 o_5 o_6 o_7 o_8 o_9 o_10 o_11 rf rb o_14 o_15 o_16 frf H.size) (cwV 1 hts gX11_score_X11_refuse rfl rfl rfl (by decide +kernel) ⟨Nat.le_of_ble_eq_true rfl, Nat.le_of_ble_eq_true rfl⟩) (mkV hK hN (hP.sub [0, 1] rfl) (hD.sub [0, 1] (by decide) rfl) (ci := 11) (q0 := 0) rfl rfl) rfl rfl hl.1 rfl (lv_room (Nat.le_of_ble_eq_true rfl)) dX11_score_22 ⟨Nat.le_of_ble_eq_true rfl, Nat.le_of_ble_eq_true rfl⟩) hP hD hS hA [0, 1] [2, 3] rfl rfl (by decide) (by decide) (fun r_94 u_95 H locs hw hP hD hS => ?_)
    have hP : va_P D vwCl [(t0, .inr (9, [k_0, .ref t3, k_2, k_3, k_4, k_5, k_6, k_7, k_8, k_9])), (t3, .inl (K 0, 24, .inl f3)), (o0, .inr (11, [.ref t0, o_1, o_2, o_3, o_4, o_5, o_6, o_7, o_8, o_9, o_10, o_11, .ref rf, .int (u_95.2.2.2.1 0), o_14, o_15, o_16])), (rf, .inl (K 0, 5, .inl (u_95.2.1 0)))] H := hP
    have hD : va_D A [(t0, .inr (9, [k_0, .ref t3, k_2, k_3, k_4, k_5, k_6, k_7, k_8, k_9])), (t3, .inl (K 0, 24, .inl f3)), (o0, .inr (11, [.ref t0, o_1, o_2, o_3, o_4, o_5, o_6, o_7, o_8, o_9, o_10, o_11, .ref rf, .int (u_95.2.2.2.1 0), o_14, o_15, o_16])), (rf, .inl (K 0, 5, .inl (u_95.2.1 0)))] := hD
    rw [← hQ]
    have hP9 := hP.sub (ws' := [(o0, .inr (11, [.ref t0, o_1, o_2, o_3, o_4, o_5, o_6, o_7, o_8, o_9, o_10, o_11, .ref rf, .int (u_95.2.2.2.1 0), o_14, o_15, o_16])), (rf, .inl (K 0, 5, .inl (u_95.2.1 0))), (t0, .inr (9, [k_0, .ref t3, k_2, k_3, k_4, k_5, k_6, k_7, k_8, k_9])), (t3, .inl (K 0, 24, .inl f3))]) [2, 3, 0, 1] rfl
    have hD9 := hD.sub (ws' := [(o0, .inr (11, [.ref t0, o_1, o_2, o_3, o_4, o_5, o_6, o_7, o_8, o_9, o_10, o_11, .ref rf, .int (u_95.2.2.2.1 0), o_14, o_15, o_16])), (rf, .inl (K 0, 5, .inl (u_95.2.1 0))), (t0, .inr (9, [k_0, .ref t3, k_2, k_3, k_4, k_5, k_6, k_7, k_8, k_9])), (t3, .inl (K 0, 24, .inl f3))]) [2, 3, 0, 1] (by decide) rfl
    exact W.iret (v := r_94) hx hb hr (fun t ht hW => ⟨⟨r_94, ((fun _ => 0, fun i => match i with | 0 => (u_95.2.1 0) | _ => f3, fun _ => fun _ => 0, fun i => match i with | _ => (u_95.2.2.2.1 0), fun _ => 0, fun _ => fun _ => none) : Su), rfl, trivial, (⟨by rw [ht]; exact hP9, hD9⟩ : Wd D A _ t)⟩, hS.F ht⟩) hS.2.2 dX11_score_25
  refine pci (va_runS (As := [.int x, .int 0, .int 23]) (rest := []) ⟨hx, hb, hml, hown, hts⟩ (w_within l D K x.toInt 0 23 x 0 23 s.heap.size rfl (show (0 : Int32).toInt = 0 from rfl) (show (23 : Int32).toInt = 23 from rfl)) (va_cwS 3 hts gX11_score_X11_within rfl rfl rfl (by decide +kernel) ⟨Nat.le_of_ble_eq_true rfl, Nat.le_of_ble_eq_true rfl⟩) (mkS hK hN (va_P.nil) (va_D.nil (A := fun _ => True))) rfl rfl hl.1 rfl (lv_room (Nat.le_of_ble_eq_true rfl)) dX11_score_4 ⟨Nat.le_of_ble_eq_true rfl, Nat.le_of_ble_eq_true rfl⟩) (fun r_96 hw => ?_)
  obtain ⟨hw, -⟩ := hw
  rcases hw with ⟨rfl, h_97, h_98⟩ | ⟨rfl, h_99⟩
  · refine lv_if_eq (tgt := 20) hx hb dX11_score_7 (by decide) (fun c_100 => absurd c_100 (by decide)) (fun c_100 => ?_)
    refine lv_iload_n hx hb dX11_score_10 rfl (lv_at hl 2 rfl) ?_
    refine lv_iconst (v := 0) hx hb dX11_score_11 (by decide) ?_
    refine lv_bipush (v := 127) hx hb dX11_score_12 (by decide) ?_
    refine pci (va_runS (As := [.int y, .int 0, .int 127]) (rest := []) ⟨hx, hb, hml, hown, hts⟩ (w_within l D K y.toInt 0 127 y 0 127 s.heap.size rfl (show (0 : Int32).toInt = 0 from rfl) (show (127 : Int32).toInt = 127 from rfl)) (va_cwS 3 hts gX11_score_X11_within rfl rfl rfl (by decide +kernel) ⟨Nat.le_of_ble_eq_true rfl, Nat.le_of_ble_eq_true rfl⟩) (mkS hK hN (va_P.nil) (va_D.nil (A := fun _ => True))) rfl rfl hl.1 rfl (lv_room (Nat.le_of_ble_eq_true rfl)) dX11_score_14 ⟨Nat.le_of_ble_eq_true rfl, Nat.le_of_ble_eq_true rfl⟩) (fun r_101 hw => ?_)
    obtain ⟨hw, -⟩ := hw
    rcases hw with ⟨rfl, h_102, h_103⟩ | ⟨rfl, h_104⟩
    · refine lv_if_ne (tgt := 26) hx hb dX11_score_17 (by decide) (fun c_105 => ?_) (fun c_105 => absurd c_105 (by decide))
      refine lv_aload_n hx hb dX11_score_26 rfl (lv_at hl 0 rfl) ?_
      refine va_get (ci := 11) (v := .ref t0) (C := RX11) (T := TX11) (N := 17) hx hb hts hw11 hown hK hP 0 rfl rfl 0 (by decide) (hts (.fieldLink RX11 10 "SmokeTune" "town" "LSmokeTune$Town;") (List.mem_cons_of_mem _ (List.mem_append_left _ (List.mem_append_left _ (List.mem_of_getElem? (i := 0) rfl))))) (fun _ h9 => h9) rfl dX11_score_27 ?_
      refine lv_iload_n hx hb dX11_score_30 rfl (lv_at hl 1 rfl) ?_
      refine pci (va_runVN (As := [.int x]) (rest := []) ⟨hx, hb, hml, hown, hts⟩ (w_chordAt l D K t0 x k_0 t3 k_2 k_3 k_4 k_5 k_6 k_7 k_8 k_9 f3 s.heap.size) ⟨va_cnB 1 hts gX11_score_X9_chordAt_n146 rfl rfl rfl (nst_at hN 28 rfl) (hts (.initialized RX9) (List.mem_cons_of_mem _ (List.mem_append_left _ (List.mem_append_left _ (List.mem_of_getElem? (i := 12) rfl))))) (by decide +kernel) ⟨Nat.le_of_ble_eq_true rfl, Nat.le_of_ble_eq_true rfl⟩, (hts (.instanceMethod yX9_chordAt) (List.mem_cons_of_mem _ (List.mem_append_left _ (List.mem_append_left _ (List.mem_of_getElem? (i := 11) rfl))))), (hts (.selects RX9 yX9_chordAt yX9_chordAt) (List.mem_cons_of_mem _ (List.mem_append_left _ (List.mem_append_left _ (List.mem_of_getElem? (i := 13) rfl)))))⟩ (mkV hK hN (hP.sub [2, 3] rfl) (hD.sub [2, 3] (by decide) rfl) (ci := 9) (q0 := 0) rfl rfl) rfl rfl hl.1 rfl (lv_room (Nat.le_of_ble_eq_true rfl)) dX11_score_31 ⟨Nat.le_of_ble_eq_true rfl, Nat.le_of_ble_eq_true rfl⟩) (fun r_106 hw => ?_)
      refine lv_istore_n (lv' := [(3, .int r_106), (0, .ref o0), (1, .int x), (2, .int y)]) hx hb dX11_score_34 rfl hl (by decide) rfl (fun ls hl => ?_)
      refine lv_aload_n hx hb dX11_score_35 rfl (lv_at hl 1 rfl) ?_
      refine va_get (ci := 11) (v := .ref t0) (C := RX11) (T := TX11) (N := 17) hx hb hts hw11 hown hK hP 0 rfl rfl 0 (by decide) (hts (.fieldLink RX11 10 "SmokeTune" "town" "LSmokeTune$Town;") (List.mem_cons_of_mem _ (List.mem_append_left _ (List.mem_append_left _ (List.mem_of_getElem? (i := 0) rfl))))) (fun _ h9 => h9) rfl dX11_score_36 ?_
      refine va_getN (ci := 9) (v := .ref t3) (C := RX9) (T := TX9) (N := 10) hx hb hts hw9 hown hK hP 2 rfl rfl 1 (by decide) (nst_use hN 98 rfl) (fun _ h9 => h9) rfl dX11_score_39 ?_
      refine lv_iload_n hx hb dX11_score_42 rfl (lv_at hl 2 rfl) ?_
      refine lv_iload_n hx hb dX11_score_43 rfl (lv_at hl 3 rfl) ?_
      refine va_iast hx hb hK hP hD hS 3 0 rfl rfl (i_in rfl (by omega)) dX11_score_44 (fun H locs hP hD hS => ?_)
      generalize hf_107 : (upd f3 (x : Int32).toNatClampNeg y) = f_107 at hP hD
      have hP : va_P D vwCl [(o0, .inr (11, [.ref t0, o_1, o_2, o_3, o_4, o_5, o_6, o_7, o_8, o_9, o_10, o_11, .ref rf, .int rb, o_14, o_15, o_16])), (rf, .inl (K 0, 5, .inl frf)), (t0, .inr (9, [k_0, .ref t3, k_2, k_3, k_4, k_5, k_6, k_7, k_8, k_9])), (t3, .inl (K 0, 24, .inl f_107))] H := hP
      have hD : va_D A [(o0, .inr (11, [.ref t0, o_1, o_2, o_3, o_4, o_5, o_6, o_7, o_8, o_9, o_10, o_11, .ref rf, .int rb, o_14, o_15, o_16])), (rf, .inl (K 0, 5, .inl frf)), (t0, .inr (9, [k_0, .ref t3, k_2, k_3, k_4, k_5, k_6, k_7, k_8, k_9])), (t3, .inl (K 0, 24, .inl f_107))] := hD
      refine lv_aload_n hx hb dX11_score_45 rfl (lv_at hl 1 rfl) ?_
      refine lv_iload_n hx hb dX11_score_46 rfl (lv_at hl 0 rfl) ?_
      refine kci (S := Su) (wr := [(rf, .inl (K 0, 5, .inl frf)), (t0, .inr (9, [k_0, .ref t3, k_2, k_3, k_4, k_5, k_6, k_7, k_8, k_9])), (t3, .inl (K 0, 24, .inl f_107))]) (va_runV (As := [.int r_106]) (rest := []) ⟨hx, hb, hml, hown, hts⟩ (w_accept l D K o0 r_106 (.ref t0) o_1 o_2 o_3 o_4 o_5 o_6 o_7 o_8 o_9 o_10 o_11 (.ref rf) rb o_14 o_15 o_16 H.size) (cwV 1 hts gX11_score_X11_accept rfl rfl rfl (by decide +kernel) ⟨Nat.le_of_ble_eq_true rfl, Nat.le_of_ble_eq_true rfl⟩) (mkV hK hN (hP.sub [0] rfl) (hD.sub [0] (by decide) rfl) (ci := 11) (q0 := 0) rfl rfl) rfl rfl hl.1 rfl (lv_room (Nat.le_of_ble_eq_true rfl)) dX11_score_47 ⟨Nat.le_of_ble_eq_true rfl, Nat.le_of_ble_eq_true rfl⟩) hP hD hS hA [0] [1, 2, 3] rfl rfl (by decide) (by decide) (fun r_108 u_109 H locs hw hP hD hS => ?_)
      have hP : va_P D vwCl [(rf, .inl (K 0, 5, .inl frf)), (t0, .inr (9, [k_0, .ref t3, k_2, k_3, k_4, k_5, k_6, k_7, k_8, k_9])), (t3, .inl (K 0, 24, .inl f_107)), (o0, .inr (11, [.ref t0, o_1, o_2, o_3, o_4, o_5, o_6, o_7, o_8, o_9, o_10, o_11, .ref rf, .int 0, o_14, o_15, o_16]))] H := hP
      have hD : va_D A [(rf, .inl (K 0, 5, .inl frf)), (t0, .inr (9, [k_0, .ref t3, k_2, k_3, k_4, k_5, k_6, k_7, k_8, k_9])), (t3, .inl (K 0, 24, .inl f_107)), (o0, .inr (11, [.ref t0, o_1, o_2, o_3, o_4, o_5, o_6, o_7, o_8, o_9, o_10, o_11, .ref rf, .int 0, o_14, o_15, o_16]))] := hD
      obtain ⟨hw, -⟩ := hw
      have er_r_108 := hw
      have hr_r_108 : r_108.toInt = r_106.toInt := (congrArg Int32.toInt er_r_108).trans rfl
      rw [← hQ]
      have hP9 := hP.sub (ws' := [(o0, .inr (11, [.ref t0, o_1, o_2, o_3, o_4, o_5, o_6, o_7, o_8, o_9, o_10, o_11, .ref rf, .int 0, o_14, o_15, o_16])), (rf, .inl (K 0, 5, .inl frf)), (t0, .inr (9, [k_0, .ref t3, k_2, k_3, k_4, k_5, k_6, k_7, k_8, k_9])), (t3, .inl (K 0, 24, .inl f_107))]) [3, 0, 1, 2] rfl
      have hD9 := hD.sub (ws' := [(o0, .inr (11, [.ref t0, o_1, o_2, o_3, o_4, o_5, o_6, o_7, o_8, o_9, o_10, o_11, .ref rf, .int 0, o_14, o_15, o_16])), (rf, .inl (K 0, 5, .inl frf)), (t0, .inr (9, [k_0, .ref t3, k_2, k_3, k_4, k_5, k_6, k_7, k_8, k_9])), (t3, .inl (K 0, 24, .inl f_107))]) [3, 0, 1, 2] (by decide) rfl
      exact W.iret (v := r_108) hx hb hr (fun t ht hW => ⟨⟨r_108, ((fun _ => 0, fun i => match i with | 0 => frf | _ => f_107, fun _ => fun _ => 0, fun i => match i with | _ => 0, fun _ => 0, fun _ => fun _ => none) : Su), rfl, trivial, (⟨by rw [ht]; exact hP9, hD9⟩ : Wd D A _ t)⟩, hS.F ht⟩) hS.2.2 dX11_score_50
    · refine lv_if_ne (tgt := 26) hx hb dX11_score_17 (by decide) (fun c_110 => absurd (by decide) c_110) (fun c_110 => ?_)
      exact j_93   _ _ hP hD hS ls (lv_sub hl [0] rfl)
  · refine lv_if_eq (tgt := 20) hx hb dX11_score_7 (by decide) (fun c_111 => ?_) (fun c_111 => absurd (by decide) c_111)
    exact j_93   _ _ hP hD hS ls (lv_sub hl [0] rfl)
set_option maxHeartbeats 4000000 in
set_option maxRecDepth 100000 in
theorem w_chord (l : Launch) (D : va_G) (K : Nat → ClassId) (o0 : Nat) (x : Int32) (t0 : Nat) (o_1 : Value) (o_2 : Value) (o_3 : Value) (o_4 : Value) (o_5 : Value) (o_6 : Value) (o_7 : Value) (o_8 : Value) (o_9 : Value) (o_10 : Value) (o_11 : Value) (o_12 : Value) (o_13 : Value) (o_14 : Value) (o_15 : Value) (o_16 : Value) (k_0 : Value) (t3 : Nat) (k_2 : Value) (k_3 : Value) (k_4 : Value) (k_5 : Value) (k_6 : Value) (k_7 : Value) (k_8 : Value) (k_9 : Value) (f3 : Nat → Int32) (sz : Nat) : Met l yX11_chord wsX11_chord ({ frames := 1, cells := 0, slots := 0, locals := 21 }) (va_Pc [.ref o0, .int x] (Pre D K [(o0, .inr (11, [.ref t0, o_1, o_2, o_3, o_4, o_5, o_6, o_7, o_8, o_9, o_10, o_11, o_12, o_13, o_14, o_15, o_16])), (t0, .inr (9, [k_0, .ref t3, k_2, k_3, k_4, k_5, k_6, k_7, k_8, k_9])), (t3, .inl (K 0, 24, .inl f3))] sz)) (vp_Si (fun r : Int32 => True)) 0 0 (fun _ => False) := by
  refine Met.ofW (cc := cX11_chord) (maxL := 2) (ret := (some .int)) (by decide) rfl ?_
  intro p e s m args below meth c s₁ B hml hv
  obtain ⟨rfl, hsz, hP, hK, hD0, hN⟩ := hv
  have hx := B.exec
  have hb := B.bytes
  have hr := B.returns
  have hts := atoms_spec (ws := wsX11_chord) B.pre
  have hown : s.vm.findClass RX11 = some m.cls := findClass_of_methodNamed B.named
  have hlocks := B.notSynchronized
  subst hsz
  have hD := hD0
  have hP : va_P D vwCl [(o0, .inr (11, [.ref t0, o_1, o_2, o_3, o_4, o_5, o_6, o_7, o_8, o_9, o_10, o_11, o_12, o_13, o_14, o_15, o_16])), (t0, .inr (9, [k_0, .ref t3, k_2, k_3, k_4, k_5, k_6, k_7, k_8, k_9])), (t3, .inl (K 0, 24, .inl f3))] s.heap := hP
  have hl := lv_entry [.ref o0, .int x] (n := 2) (Nat.le_of_ble_eq_true rfl)
  rw [lg_entry_eq]
  generalize (lg_sl [.ref o0, .int x] ++ List.replicate (2 - (lg_sl [.ref o0, .int x]).length) Slot.unset).toArray = ls at hl ⊢
  have hl : lv_has ls 2 [(0, .ref o0), (1, .int x)] := hl
  have hw9 : ∀ w ∈ wsX90, w ∈ wsX11_chord := fun w h => (List.mem_cons_of_mem _ (List.mem_append_right _ h))
  have hw11 : ∀ w ∈ wsX110, w ∈ wsX11_chord := fun w h => (List.mem_cons_of_mem _ (List.mem_append_left _ (List.mem_append_right _ h)))
  generalize hQ : MQ below _ _ s _ _ _ = Q
  refine lv_aload_n hx hb dX11_chord_0 rfl (lv_at hl 0 rfl) ?_
  refine va_get (ci := 11) (v := .ref t0) (C := RX11) (T := TX11) (N := 17) hx hb hts hw11 hown hK hP 0 rfl rfl 0 (by decide) (hts (.fieldLink RX11 10 "SmokeTune" "town" "LSmokeTune$Town;") (List.mem_cons_of_mem _ (List.mem_append_left _ (List.mem_append_left _ (List.mem_of_getElem? (i := 0) rfl))))) (fun _ h9 => h9) rfl dX11_chord_1 ?_
  refine lv_iload_n hx hb dX11_chord_4 rfl (lv_at hl 1 rfl) ?_
  refine pci (va_runVN (As := [.int x]) (rest := []) ⟨hx, hb, hml, hown, hts⟩ (w_chordAt l D K t0 x k_0 t3 k_2 k_3 k_4 k_5 k_6 k_7 k_8 k_9 f3 s.heap.size) ⟨va_cnB 1 hts gX11_chord_X9_chordAt_n146 rfl rfl rfl (nst_at hN 28 rfl) (hts (.initialized RX9) (List.mem_cons_of_mem _ (List.mem_append_left _ (List.mem_append_left _ (List.mem_of_getElem? (i := 2) rfl))))) (by decide +kernel) ⟨Nat.le_of_ble_eq_true rfl, Nat.le_of_ble_eq_true rfl⟩, (hts (.instanceMethod yX9_chordAt) (List.mem_cons_of_mem _ (List.mem_append_left _ (List.mem_append_left _ (List.mem_of_getElem? (i := 1) rfl))))), (hts (.selects RX9 yX9_chordAt yX9_chordAt) (List.mem_cons_of_mem _ (List.mem_append_left _ (List.mem_append_left _ (List.mem_of_getElem? (i := 3) rfl)))))⟩ (mkV hK hN (hP.sub [1, 2] rfl) (hD.sub [1, 2] (by decide) rfl) (ci := 9) (q0 := 0) rfl rfl) rfl rfl hl.1 rfl (lv_room (Nat.le_of_ble_eq_true rfl)) dX11_chord_5 ⟨Nat.le_of_ble_eq_true rfl, Nat.le_of_ble_eq_true rfl⟩) (fun r_3 hw => ?_)
  rw [← hQ]
  exact W.iret (v := r_3) hx hb hr (fun t ht hW => ⟨_, rfl, trivial, ht⟩) (fun q hq => by cases hq) dX11_chord_8
set_option maxHeartbeats 4000000 in
set_option maxRecDepth 100000 in
theorem w_terms (l : Launch) (D : va_G) (K : Nat → ClassId) (g : Nat → Nat) (L : Nat → Prop) (o0 : Nat) (x : Int32) (y : Int32) (t0 : Nat) (o_1 : Value) (o_2 : Value) (o_3 : Value) (o_4 : Value) (o_5 : Value) (o_6 : Value) (o_7 : Value) (o_8 : Value) (h0 : Nat) (o_10 : Value) (o_11 : Value) (rf : Nat) (rb : Int32) (o_14 : Value) (o_15 : Value) (o_16 : Value) (frf : Nat → Int32) (h1 : Nat) (dr : Int32) (kp : Int32) (k_0 : Value) (k_1 : Value) (t2 : Nat) (k_3 : Value) (k_4 : Value) (k_5 : Value) (k_6 : Value) (k_7 : Value) (k_8 : Value) (k_9 : Value) (f2 : Nat → Int32) (sz : Nat) (zdr : 0 ≤ dr.toInt ∧ dr.toInt ≤ 16) (zkp : 0 ≤ kp.toInt ∧ kp.toInt ≤ 16) : Met l yX11_terms wsX11_terms ({ frames := 2, cells := 0, slots := 0, locals := 44 }) (va_Pc [.ref o0, .int x, .int y] (PreY D K [(o0, .inr (11, [.ref t0, o_1, o_2, o_3, o_4, o_5, o_6, o_7, o_8, .ref h0, o_10, o_11, .ref rf, .int rb, o_14, o_15, o_16])), (rf, .inl (K 0, 5, .inl frf)), (h0, .inr (2, [.ref h1, .int dr, .int kp])), (t0, .inr (9, [k_0, k_1, .ref t2, k_3, k_4, k_5, k_6, k_7, k_8, k_9])), (t2, .inl (K 0, 6, .inl f2))] [] sz g L (va_A [(o0, .inr (11, [.ref t0, o_1, o_2, o_3, o_4, o_5, o_6, o_7, o_8, .ref h0, o_10, o_11, .ref rf, .int rb, o_14, o_15, o_16])), (rf, .inl (K 0, 5, .inl frf)), (h0, .inr (2, [.ref h1, .int dr, .int kp])), (t0, .inr (9, [k_0, k_1, .ref t2, k_3, k_4, k_5, k_6, k_7, k_8, k_9])), (t2, .inl (K 0, 6, .inl f2))] sz))) (va_Qi (S := Su) (fun (r : Int32) (u : Su) => (0 ≤ (u.2.2.2.1 1).toInt ∧ (u.2.2.2.1 1).toInt ≤ 16) ∧ True) (fun u t => Wd D (va_A [(o0, .inr (11, [.ref t0, o_1, o_2, o_3, o_4, o_5, o_6, o_7, o_8, .ref h0, o_10, o_11, .ref rf, .int rb, o_14, o_15, o_16])), (rf, .inl (K 0, 5, .inl frf)), (h0, .inr (2, [.ref h1, .int dr, .int kp])), (t0, .inr (9, [k_0, k_1, .ref t2, k_3, k_4, k_5, k_6, k_7, k_8, k_9])), (t2, .inl (K 0, 6, .inl f2))] sz) ((fun u => [(o0, .inr (11, [.ref t0, o_1, o_2, o_3, o_4, o_5, o_6, o_7, o_8, .ref h0, o_10, o_11, .ref rf, .int (u.2.2.2.1 0), o_14, o_15, o_16])), (rf, .inl (K 0, 5, .inl (u.2.1 0))), (h0, .inr (2, [.ref h1, .int dr, .int (u.2.2.2.1 1)])), (t0, .inr (9, [k_0, k_1, .ref t2, k_3, k_4, k_5, k_6, k_7, k_8, k_9])), (t2, .inl (K 0, 6, .inl (u.2.1 1)))]) u) t) (va_A [(o0, .inr (11, [.ref t0, o_1, o_2, o_3, o_4, o_5, o_6, o_7, o_8, .ref h0, o_10, o_11, .ref rf, .int rb, o_14, o_15, o_16])), (rf, .inl (K 0, 5, .inl frf)), (h0, .inr (2, [.ref h1, .int dr, .int kp])), (t0, .inr (9, [k_0, k_1, .ref t2, k_3, k_4, k_5, k_6, k_7, k_8, k_9])), (t2, .inl (K 0, 6, .inl f2))] sz)) 0 0 (va_A [(o0, .inr (11, [.ref t0, o_1, o_2, o_3, o_4, o_5, o_6, o_7, o_8, .ref h0, o_10, o_11, .ref rf, .int rb, o_14, o_15, o_16])), (rf, .inl (K 0, 5, .inl frf)), (h0, .inr (2, [.ref h1, .int dr, .int kp])), (t0, .inr (9, [k_0, k_1, .ref t2, k_3, k_4, k_5, k_6, k_7, k_8, k_9])), (t2, .inl (K 0, 6, .inl f2))] sz) := by
  refine Met.ofW (cc := cX11_terms) (maxL := 4) (ret := (some .int)) (by decide) rfl ?_
  intro p e s m args below meth c s₁ B hml hv
  obtain ⟨rfl, ⟨hsz, hP, hK, hD0, hN⟩, hG, hPl, hRo⟩ := hv
  have hx := B.exec
  have hb := B.bytes
  have hr := B.returns
  have hts := atoms_spec (ws := wsX11_terms) B.pre
  have hown : s.vm.findClass RX11 = some m.cls := findClass_of_methodNamed B.named
  have hlocks := B.notSynchronized
  subst hsz
  have hD := hD0.self (sz := s.heap.size)
  generalize hAe : va_A [(o0, .inr (11, [.ref t0, o_1, o_2, o_3, o_4, o_5, o_6, o_7, o_8, .ref h0, o_10, o_11, .ref rf, .int rb, o_14, o_15, o_16])), (rf, .inl (K 0, 5, .inl frf)), (h0, .inr (2, [.ref h1, .int dr, .int kp])), (t0, .inr (9, [k_0, k_1, .ref t2, k_3, k_4, k_5, k_6, k_7, k_8, k_9])), (t2, .inl (K 0, 6, .inl f2))] s.heap.size = A at hD hG hPl hRo ⊢
  have hA : ∀ q : Nat, s.heap.size ≤ q → A q := fun q h => by rw [← hAe]; exact Or.inr h
  have hS : va_S A s.heap s.heap [] := va_S.rf
  have hP : va_P D vwCl [(o0, .inr (11, [.ref t0, o_1, o_2, o_3, o_4, o_5, o_6, o_7, o_8, .ref h0, o_10, o_11, .ref rf, .int rb, o_14, o_15, o_16])), (rf, .inl (K 0, 5, .inl frf)), (h0, .inr (2, [.ref h1, .int dr, .int kp])), (t0, .inr (9, [k_0, k_1, .ref t2, k_3, k_4, k_5, k_6, k_7, k_8, k_9])), (t2, .inl (K 0, 6, .inl f2))] s.heap := hP
  have hl := lv_entry [.ref o0, .int x, .int y] (n := 4) (Nat.le_of_ble_eq_true rfl)
  rw [lg_entry_eq]
  generalize (lg_sl [.ref o0, .int x, .int y] ++ List.replicate (4 - (lg_sl [.ref o0, .int x, .int y]).length) Slot.unset).toArray = ls at hl ⊢
  have hl : lv_has ls 4 [(0, .ref o0), (1, .int x), (2, .int y)] := hl
  have hw2 : ∀ w ∈ wsX20, w ∈ wsX11_terms := fun w h => (List.mem_cons_of_mem _ (List.mem_append_right _ h))
  have hw9 : ∀ w ∈ wsX90, w ∈ wsX11_terms := fun w h => (List.mem_cons_of_mem _ (List.mem_append_left _ (List.mem_append_right _ h)))
  have hw11 : ∀ w ∈ wsX110, w ∈ wsX11_terms := fun w h => (List.mem_cons_of_mem _ (List.mem_append_left _ (List.mem_append_left _ (List.mem_append_right _ h))))
  generalize hQ : MQ below _ _ s _ _ _ = Q
  refine lv_iload_n hx hb dX11_terms_0 rfl (lv_at hl 1 rfl) ?_
  refine lv_iconst (v := 0) hx hb dX11_terms_1 (by decide) ?_
  refine lv_iconst (v := 5) hx hb dX11_terms_2 (by decide) ?_
  have j_113 : ∀ (H : Heap) (locs : List Loc) (hP : va_P D vwCl [(o0, .inr (11, [.ref t0, o_1, o_2, o_3, o_4, o_5, o_6, o_7, o_8, .ref h0, o_10, o_11, .ref rf, .int rb, o_14, o_15, o_16])), (rf, .inl (K 0, 5, .inl frf)), (h0, .inr (2, [.ref h1, .int dr, .int kp])), (t0, .inr (9, [k_0, k_1, .ref t2, k_3, k_4, k_5, k_6, k_7, k_8, k_9])), (t2, .inl (K 0, 6, .inl f2))] H) (hD : va_D A [(o0, .inr (11, [.ref t0, o_1, o_2, o_3, o_4, o_5, o_6, o_7, o_8, .ref h0, o_10, o_11, .ref rf, .int rb, o_14, o_15, o_16])), (rf, .inl (K 0, 5, .inl frf)), (h0, .inr (2, [.ref h1, .int dr, .int kp])), (t0, .inr (9, [k_0, k_1, .ref t2, k_3, k_4, k_5, k_6, k_7, k_8, k_9])), (t2, .inl (K 0, 6, .inl f2))]) (hS : va_S A s.heap H locs) (ls : Array Slot) (hl : lv_has ls 4 [(0, .ref o0)]), W p l e ({ frames := 2, cells := 0, slots := 0, locals := 44 }) s m (([.ref o0, .int x, .int y] : List Value).toArray) below meth c H locs 0 0 Q (F0 m 26 ls []) := by
    intro H locs hP hD hS ls hl
    refine lv_aload_n hx hb dX11_terms_26 rfl (lv_at hl 0 rfl) ?_
    refine lv_iconst (v := (-1)) hx hb dX11_terms_27 (by decide) ?_
    refine kci (S := Su) (wr := [(h0, .inr (2, [.ref h1, .int dr, .int kp])), (t0, .inr (9, [k_0, k_1, .ref t2, k_3, k_4, k_5, k_6, k_7, k_8, k_9])), (t2, .inl (K 0, 6, .inl f2))]) (va_runV (As := [.int (-1)]) (rest := []) ⟨hx, hb, hml, hown, hts⟩ (w_refuse l D K o0 (-1) (.ref t0) o_1 o_2 o_3 o_4 o_5 o_6 o_7 o_8 (.ref h0) o_10 o_11 rf rb o_14 o_15 o_16 frf H.size) (cwV 1 hts gX11_terms_X11_refuse rfl rfl rfl (by decide +kernel) ⟨Nat.le_of_ble_eq_true rfl, Nat.le_of_ble_eq_true rfl⟩) (mkV hK hN (hP.sub [0, 1] rfl) (hD.sub [0, 1] (by decide) rfl) (ci := 11) (q0 := 0) rfl rfl) rfl rfl hl.1 rfl (lv_room (Nat.le_of_ble_eq_true rfl)) dX11_terms_28 ⟨Nat.le_of_ble_eq_true rfl, Nat.le_of_ble_eq_true rfl⟩) hP hD hS hA [0, 1] [2, 3, 4] rfl rfl (by decide) (by decide) (fun r_114 u_115 H locs hw hP hD hS => ?_)
    have hP : va_P D vwCl [(h0, .inr (2, [.ref h1, .int dr, .int kp])), (t0, .inr (9, [k_0, k_1, .ref t2, k_3, k_4, k_5, k_6, k_7, k_8, k_9])), (t2, .inl (K 0, 6, .inl f2)), (o0, .inr (11, [.ref t0, o_1, o_2, o_3, o_4, o_5, o_6, o_7, o_8, .ref h0, o_10, o_11, .ref rf, .int (u_115.2.2.2.1 0), o_14, o_15, o_16])), (rf, .inl (K 0, 5, .inl (u_115.2.1 0)))] H := hP
    have hD : va_D A [(h0, .inr (2, [.ref h1, .int dr, .int kp])), (t0, .inr (9, [k_0, k_1, .ref t2, k_3, k_4, k_5, k_6, k_7, k_8, k_9])), (t2, .inl (K 0, 6, .inl f2)), (o0, .inr (11, [.ref t0, o_1, o_2, o_3, o_4, o_5, o_6, o_7, o_8, .ref h0, o_10, o_11, .ref rf, .int (u_115.2.2.2.1 0), o_14, o_15, o_16])), (rf, .inl (K 0, 5, .inl (u_115.2.1 0)))] := hD
    rw [← hQ]
    have hP9 := hP.sub (ws' := [(o0, .inr (11, [.ref t0, o_1, o_2, o_3, o_4, o_5, o_6, o_7, o_8, .ref h0, o_10, o_11, .ref rf, .int (u_115.2.2.2.1 0), o_14, o_15, o_16])), (rf, .inl (K 0, 5, .inl (u_115.2.1 0))), (h0, .inr (2, [.ref h1, .int dr, .int kp])), (t0, .inr (9, [k_0, k_1, .ref t2, k_3, k_4, k_5, k_6, k_7, k_8, k_9])), (t2, .inl (K 0, 6, .inl f2))]) [3, 4, 0, 1, 2] rfl
    have hD9 := hD.sub (ws' := [(o0, .inr (11, [.ref t0, o_1, o_2, o_3, o_4, o_5, o_6, o_7, o_8, .ref h0, o_10, o_11, .ref rf, .int (u_115.2.2.2.1 0), o_14, o_15, o_16])), (rf, .inl (K 0, 5, .inl (u_115.2.1 0))), (h0, .inr (2, [.ref h1, .int dr, .int kp])), (t0, .inr (9, [k_0, k_1, .ref t2, k_3, k_4, k_5, k_6, k_7, k_8, k_9])), (t2, .inl (K 0, 6, .inl f2))]) [3, 4, 0, 1, 2] (by decide) rfl
    exact W.iret (v := r_114) hx hb hr (fun t ht hW => ⟨⟨r_114, ((fun _ => 0, fun i => match i with | 0 => (u_115.2.1 0) | _ => f2, fun _ => fun _ => 0, fun i => match i with | 0 => (u_115.2.2.2.1 0) | _ => kp, fun _ => 0, fun _ => fun _ => none) : Su), rfl, ⟨(show 0 ≤ (kp : Int32).toInt ∧ (kp : Int32).toInt ≤ 16 by omega), trivial⟩, (⟨by rw [ht]; exact hP9, hD9⟩ : Wd D A _ t)⟩, hS.F ht⟩) hS.2.2 dX11_terms_31
  refine pci (va_runS (As := [.int x, .int 0, .int 5]) (rest := []) ⟨hx, hb, hml, hown, hts⟩ (w_within l D K x.toInt 0 5 x 0 5 s.heap.size rfl (show (0 : Int32).toInt = 0 from rfl) (show (5 : Int32).toInt = 5 from rfl)) (va_cwS 3 hts gX11_terms_X11_within rfl rfl rfl (by decide +kernel) ⟨Nat.le_of_ble_eq_true rfl, Nat.le_of_ble_eq_true rfl⟩) (mkS hK hN (va_P.nil) (va_D.nil (A := fun _ => True))) rfl rfl hl.1 rfl (lv_room (Nat.le_of_ble_eq_true rfl)) dX11_terms_3 ⟨Nat.le_of_ble_eq_true rfl, Nat.le_of_ble_eq_true rfl⟩) (fun r_116 hw => ?_)
  obtain ⟨hw, -⟩ := hw
  rcases hw with ⟨rfl, h_117, h_118⟩ | ⟨rfl, h_119⟩
  · refine lv_if_eq (tgt := 26) hx hb dX11_terms_6 (by decide) (fun c_120 => absurd c_120 (by decide)) (fun c_120 => ?_)
    refine lv_iload_n hx hb dX11_terms_9 rfl (lv_at hl 2 rfl) ?_
    refine va_gets (C := "SmokeTune") (n := "TERM_LEAST") (d := "[I") (v := .ref (g 0)) hx hb (hG.arr 0 (by decide)).1 hS hown (hts (.fieldLink RX11 152 "SmokeTune" "TERM_LEAST" "[I") (List.mem_cons_of_mem _ (List.mem_append_left _ (List.mem_append_left _ (List.mem_append_left _ (List.mem_of_getElem? (i := 0) rfl)))))) (fun _ h9 => h9) dX11_terms_10 ?_
    refine lv_iload_n hx hb dX11_terms_13 rfl (lv_at hl 1 rfl) ?_
    refine va_ti hx hb (hG.arr 0 (by decide)).2 hS (show vp_in _ 6 from (i_in rfl (by omega))) rfl dX11_terms_14 ?_
    refine lv_topi (fun x_121 ex_121 => ?_)
    have hx_121 : 0 ≤ x_121.toInt ∧ x_121.toInt ≤ 1 := by rw [ex_121]; exact Rg.at sr_0 rfl (show 0 ≤ x.toInt ∧ x.toInt < _ by omega)
    refine va_gets (C := "SmokeTune") (n := "TERM_MOST") (d := "[I") (v := .ref (g 1)) hx hb (hG.arr 1 (by decide)).1 hS hown (hts (.fieldLink RX11 155 "SmokeTune" "TERM_MOST" "[I") (List.mem_cons_of_mem _ (List.mem_append_left _ (List.mem_append_left _ (List.mem_append_left _ (List.mem_of_getElem? (i := 1) rfl)))))) (fun _ h9 => h9) dX11_terms_15 ?_
    refine lv_iload_n hx hb dX11_terms_18 rfl (lv_at hl 1 rfl) ?_
    refine va_ti hx hb (hG.arr 1 (by decide)).2 hS (show vp_in _ 6 from (i_in rfl (by omega))) rfl dX11_terms_19 ?_
    refine lv_topi (fun x_122 ex_122 => ?_)
    have hx_122 : 9 ≤ x_122.toInt ∧ x_122.toInt ≤ 999 := by rw [ex_122]; exact Rg.at sr_1 rfl (show 0 ≤ x.toInt ∧ x.toInt < _ by omega)
    refine pci (va_runS (As := [.int y, .int x_121, .int x_122]) (rest := []) ⟨hx, hb, hml, hown, hts⟩ (w_within l D K y.toInt x_121.toInt x_122.toInt y x_121 x_122 s.heap.size rfl rfl rfl) (va_cwS 3 hts gX11_terms_X11_within rfl rfl rfl (by decide +kernel) ⟨Nat.le_of_ble_eq_true rfl, Nat.le_of_ble_eq_true rfl⟩) (mkS hK hN (va_P.nil) (va_D.nil (A := fun _ => True))) rfl rfl hl.1 rfl (lv_room (Nat.le_of_ble_eq_true rfl)) dX11_terms_20 ⟨Nat.le_of_ble_eq_true rfl, Nat.le_of_ble_eq_true rfl⟩) (fun r_123 hw => ?_)
    obtain ⟨hw, -⟩ := hw
    rcases hw with ⟨rfl, h_124, h_125⟩ | ⟨rfl, h_126⟩
    · refine lv_if_ne (tgt := 32) hx hb dX11_terms_23 (by decide) (fun c_127 => ?_) (fun c_127 => absurd c_127 (by decide))
      refine lv_aload_n hx hb dX11_terms_32 rfl (lv_at hl 0 rfl) ?_
      refine va_get (ci := 11) (v := .ref t0) (C := RX11) (T := TX11) (N := 17) hx hb hts hw11 hown hK hP 0 rfl rfl 0 (by decide) (hts (.fieldLink RX11 10 "SmokeTune" "town" "LSmokeTune$Town;") (List.mem_cons_of_mem _ (List.mem_append_left _ (List.mem_append_left _ (List.mem_append_left _ (List.mem_of_getElem? (i := 2) rfl)))))) (fun _ h9 => h9) rfl dX11_terms_33 ?_
      refine va_getN (ci := 9) (v := .ref t2) (C := RX9) (T := TX9) (N := 10) hx hb hts hw9 hown hK hP 3 rfl rfl 2 (by decide) (nst_use hN 104 rfl) (fun _ h9 => h9) rfl dX11_terms_36 ?_
      refine lv_iload_n hx hb dX11_terms_39 rfl (lv_at hl 1 rfl) ?_
      refine va_iald hx hb hK hP 4 0 rfl rfl (i_in rfl (by omega)) dX11_terms_40 ?_
      refine lv_topi (fun x_128 ex_128 => ?_)
      refine lv_istore_n (lv' := [(3, .int x_128), (0, .ref o0), (1, .int x), (2, .int y)]) hx hb dX11_terms_41 rfl hl (by decide) rfl (fun ls hl => ?_)
      refine lv_aload_n hx hb dX11_terms_42 rfl (lv_at hl 1 rfl) ?_
      refine va_get (ci := 11) (v := .ref t0) (C := RX11) (T := TX11) (N := 17) hx hb hts hw11 hown hK hP 0 rfl rfl 0 (by decide) (hts (.fieldLink RX11 10 "SmokeTune" "town" "LSmokeTune$Town;") (List.mem_cons_of_mem _ (List.mem_append_left _ (List.mem_append_left _ (List.mem_append_left _ (List.mem_of_getElem? (i := 2) rfl)))))) (fun _ h9 => h9) rfl dX11_terms_43 ?_
      refine va_getN (ci := 9) (v := .ref t2) (C := RX9) (T := TX9) (N := 10) hx hb hts hw9 hown hK hP 3 rfl rfl 2 (by decide) (nst_use hN 104 rfl) (fun _ h9 => h9) rfl dX11_terms_46 ?_
      refine lv_iload_n hx hb dX11_terms_49 rfl (lv_at hl 2 rfl) ?_
      refine lv_iload_n hx hb dX11_terms_50 rfl (lv_at hl 3 rfl) ?_
      refine va_iast hx hb hK hP hD hS 4 0 rfl rfl (i_in rfl (by omega)) dX11_terms_51 (fun H locs hP hD hS => ?_)
      generalize hf_129 : (upd f2 (x : Int32).toNatClampNeg y) = f_129 at hP hD
      have hP : va_P D vwCl [(o0, .inr (11, [.ref t0, o_1, o_2, o_3, o_4, o_5, o_6, o_7, o_8, .ref h0, o_10, o_11, .ref rf, .int rb, o_14, o_15, o_16])), (rf, .inl (K 0, 5, .inl frf)), (h0, .inr (2, [.ref h1, .int dr, .int kp])), (t0, .inr (9, [k_0, k_1, .ref t2, k_3, k_4, k_5, k_6, k_7, k_8, k_9])), (t2, .inl (K 0, 6, .inl f_129))] H := hP
      have hD : va_D A [(o0, .inr (11, [.ref t0, o_1, o_2, o_3, o_4, o_5, o_6, o_7, o_8, .ref h0, o_10, o_11, .ref rf, .int rb, o_14, o_15, o_16])), (rf, .inl (K 0, 5, .inl frf)), (h0, .inr (2, [.ref h1, .int dr, .int kp])), (t0, .inr (9, [k_0, k_1, .ref t2, k_3, k_4, k_5, k_6, k_7, k_8, k_9])), (t2, .inl (K 0, 6, .inl f_129))] := hD
      refine lv_aload_n hx hb dX11_terms_52 rfl (lv_at hl 1 rfl) ?_
      refine va_get (ci := 11) (v := .ref h0) (C := RX11) (T := TX11) (N := 17) hx hb hts hw11 hown hK hP 0 rfl rfl 9 (by decide) (hts (.fieldLink RX11 61 "SmokeTune" "history" "LSmokeTune$History;") (List.mem_cons_of_mem _ (List.mem_append_left _ (List.mem_append_left _ (List.mem_append_left _ (List.mem_of_getElem? (i := 3) rfl)))))) (fun _ h9 => h9) rfl dX11_terms_53 ?_
      refine kcv (S := Su) (wr := [(o0, .inr (11, [.ref t0, o_1, o_2, o_3, o_4, o_5, o_6, o_7, o_8, .ref h0, o_10, o_11, .ref rf, .int rb, o_14, o_15, o_16])), (rf, .inl (K 0, 5, .inl frf)), (t0, .inr (9, [k_0, k_1, .ref t2, k_3, k_4, k_5, k_6, k_7, k_8, k_9])), (t2, .inl (K 0, 6, .inl f_129))]) (va_runVN (As := []) (rest := []) ⟨hx, hb, hml, hown, hts⟩ (w_clear l D K h0 h1 dr kp H.size) ⟨va_cnB 0 hts gX11_terms_X2_clear_n111 rfl rfl rfl (nst_at hN 16 rfl) (hts (.initialized RX2) (List.mem_cons_of_mem _ (List.mem_append_left _ (List.mem_append_left _ (List.mem_append_left _ (List.mem_of_getElem? (i := 15) rfl)))))) (by decide +kernel) ⟨Nat.le_of_ble_eq_true rfl, Nat.le_of_ble_eq_true rfl⟩, (hts (.instanceMethod yX2_clear) (List.mem_cons_of_mem _ (List.mem_append_left _ (List.mem_append_left _ (List.mem_append_left _ (List.mem_of_getElem? (i := 14) rfl)))))), (hts (.selects RX2 yX2_clear yX2_clear) (List.mem_cons_of_mem _ (List.mem_append_left _ (List.mem_append_left _ (List.mem_append_left _ (List.mem_of_getElem? (i := 16) rfl))))))⟩ (mkV hK hN (hP.sub [2] rfl) (hD.sub [2] (by decide) rfl) (ci := 2) (q0 := 0) rfl rfl) rfl rfl hl.1 rfl (lv_room (Nat.le_of_ble_eq_true rfl)) dX11_terms_56 ⟨Nat.le_of_ble_eq_true rfl, Nat.le_of_ble_eq_true rfl⟩) hP hD hS hA [2] [0, 1, 3, 4] rfl rfl (by decide) (by decide) (fun u_131 H locs hw hP hD hS => ?_)
      have hP : va_P D vwCl [(o0, .inr (11, [.ref t0, o_1, o_2, o_3, o_4, o_5, o_6, o_7, o_8, .ref h0, o_10, o_11, .ref rf, .int rb, o_14, o_15, o_16])), (rf, .inl (K 0, 5, .inl frf)), (t0, .inr (9, [k_0, k_1, .ref t2, k_3, k_4, k_5, k_6, k_7, k_8, k_9])), (t2, .inl (K 0, 6, .inl f_129)), (h0, .inr (2, [.ref h1, .int dr, .int 0]))] H := hP
      have hD : va_D A [(o0, .inr (11, [.ref t0, o_1, o_2, o_3, o_4, o_5, o_6, o_7, o_8, .ref h0, o_10, o_11, .ref rf, .int rb, o_14, o_15, o_16])), (rf, .inl (K 0, 5, .inl frf)), (t0, .inr (9, [k_0, k_1, .ref t2, k_3, k_4, k_5, k_6, k_7, k_8, k_9])), (t2, .inl (K 0, 6, .inl f_129)), (h0, .inr (2, [.ref h1, .int dr, .int 0]))] := hD
      refine lv_aload_n hx hb dX11_terms_59 rfl (lv_at hl 1 rfl) ?_
      refine lv_iload_n hx hb dX11_terms_60 rfl (lv_at hl 0 rfl) ?_
      refine kci (S := Su) (wr := [(rf, .inl (K 0, 5, .inl frf)), (t0, .inr (9, [k_0, k_1, .ref t2, k_3, k_4, k_5, k_6, k_7, k_8, k_9])), (t2, .inl (K 0, 6, .inl f_129)), (h0, .inr (2, [.ref h1, .int dr, .int 0]))]) (va_runV (As := [.int x_128]) (rest := []) ⟨hx, hb, hml, hown, hts⟩ (w_accept l D K o0 x_128 (.ref t0) o_1 o_2 o_3 o_4 o_5 o_6 o_7 o_8 (.ref h0) o_10 o_11 (.ref rf) rb o_14 o_15 o_16 H.size) (cwV 1 hts gX11_terms_X11_accept rfl rfl rfl (by decide +kernel) ⟨Nat.le_of_ble_eq_true rfl, Nat.le_of_ble_eq_true rfl⟩) (mkV hK hN (hP.sub [0] rfl) (hD.sub [0] (by decide) rfl) (ci := 11) (q0 := 0) rfl rfl) rfl rfl hl.1 rfl (lv_room (Nat.le_of_ble_eq_true rfl)) dX11_terms_61 ⟨Nat.le_of_ble_eq_true rfl, Nat.le_of_ble_eq_true rfl⟩) hP hD hS hA [0] [1, 2, 3, 4] rfl rfl (by decide) (by decide) (fun r_132 u_133 H locs hw hP hD hS => ?_)
      have hP : va_P D vwCl [(rf, .inl (K 0, 5, .inl frf)), (t0, .inr (9, [k_0, k_1, .ref t2, k_3, k_4, k_5, k_6, k_7, k_8, k_9])), (t2, .inl (K 0, 6, .inl f_129)), (h0, .inr (2, [.ref h1, .int dr, .int 0])), (o0, .inr (11, [.ref t0, o_1, o_2, o_3, o_4, o_5, o_6, o_7, o_8, .ref h0, o_10, o_11, .ref rf, .int 0, o_14, o_15, o_16]))] H := hP
      have hD : va_D A [(rf, .inl (K 0, 5, .inl frf)), (t0, .inr (9, [k_0, k_1, .ref t2, k_3, k_4, k_5, k_6, k_7, k_8, k_9])), (t2, .inl (K 0, 6, .inl f_129)), (h0, .inr (2, [.ref h1, .int dr, .int 0])), (o0, .inr (11, [.ref t0, o_1, o_2, o_3, o_4, o_5, o_6, o_7, o_8, .ref h0, o_10, o_11, .ref rf, .int 0, o_14, o_15, o_16]))] := hD
      obtain ⟨hw, -⟩ := hw
      have er_r_132 := hw
      have hr_r_132 : r_132.toInt = x_128.toInt := (congrArg Int32.toInt er_r_132).trans rfl
      rw [← hQ]
      have hP9 := hP.sub (ws' := [(o0, .inr (11, [.ref t0, o_1, o_2, o_3, o_4, o_5, o_6, o_7, o_8, .ref h0, o_10, o_11, .ref rf, .int 0, o_14, o_15, o_16])), (rf, .inl (K 0, 5, .inl frf)), (h0, .inr (2, [.ref h1, .int dr, .int 0])), (t0, .inr (9, [k_0, k_1, .ref t2, k_3, k_4, k_5, k_6, k_7, k_8, k_9])), (t2, .inl (K 0, 6, .inl f_129))]) [4, 0, 3, 1, 2] rfl
      have hD9 := hD.sub (ws' := [(o0, .inr (11, [.ref t0, o_1, o_2, o_3, o_4, o_5, o_6, o_7, o_8, .ref h0, o_10, o_11, .ref rf, .int 0, o_14, o_15, o_16])), (rf, .inl (K 0, 5, .inl frf)), (h0, .inr (2, [.ref h1, .int dr, .int 0])), (t0, .inr (9, [k_0, k_1, .ref t2, k_3, k_4, k_5, k_6, k_7, k_8, k_9])), (t2, .inl (K 0, 6, .inl f_129))]) [4, 0, 3, 1, 2] (by decide) rfl
      exact W.iret (v := r_132) hx hb hr (fun t ht hW => ⟨⟨r_132, ((fun _ => 0, fun i => match i with | 0 => frf | _ => f_129, fun _ => fun _ => 0, fun i => match i with | 0 => 0 | _ => 0, fun _ => 0, fun _ => fun _ => none) : Su), rfl, ⟨(show 0 ≤ (0 : Int32).toInt ∧ (0 : Int32).toInt ≤ 16 by decide), trivial⟩, (⟨by rw [ht]; exact hP9, hD9⟩ : Wd D A _ t)⟩, hS.F ht⟩) hS.2.2 dX11_terms_64
    · refine lv_if_ne (tgt := 32) hx hb dX11_terms_23 (by decide) (fun c_134 => absurd (by decide) c_134) (fun c_134 => ?_)
      exact j_113   _ _ hP hD hS ls (lv_sub hl [0] rfl)
  · refine lv_if_eq (tgt := 26) hx hb dX11_terms_6 (by decide) (fun c_135 => ?_) (fun c_135 => absurd (by decide) c_135)
    exact j_113   _ _ hP hD hS ls (lv_sub hl [0] rfl)
set_option maxHeartbeats 4000000 in
set_option maxRecDepth 100000 in
theorem w_take4 (l : Launch) (D : va_G) (K : Nat → ClassId) (a0 : Nat) (x : Int32) (a1 : Nat) (ln : Int32) (p_2 : Value) (p_3 : Value) (p_4 : Value) (p_5 : Value) (f : Nat → Int32) (sz : Nat) (zln : 0 ≤ ln.toInt ∧ ln.toInt ≤ 396) : Met l yX8_take wsX8_take ({ frames := 0, cells := 0, slots := 0, locals := 0 }) (va_Pc [.ref a0, .int x] (Pre D K [(a0, .inr (8, [.ref a1, .int ln, p_2, p_3, p_4, p_5])), (a1, .inl (K 0, 400, .inl f))] sz)) (va_Qv (S := Su) (fun (u : Su) => (0 ≤ (u.2.2.2.1 0).toInt ∧ (u.2.2.2.1 0).toInt ≤ 400) ∧ ((u.2.2.2.1 0).toInt = ln.toInt + 4) ∧ True) (fun u t => Wd D (va_A [(a0, .inr (8, [.ref a1, .int ln, p_2, p_3, p_4, p_5])), (a1, .inl (K 0, 400, .inl f))] sz) ((fun u => [(a0, .inr (8, [.ref a1, .int (u.2.2.2.1 0), p_2, p_3, p_4, p_5])), (a1, .inl (K 0, 400, .inl (u.2.1 0)))]) u) t) (va_A [(a0, .inr (8, [.ref a1, .int ln, p_2, p_3, p_4, p_5])), (a1, .inl (K 0, 400, .inl f))] sz)) 0 0 (va_A [(a0, .inr (8, [.ref a1, .int ln, p_2, p_3, p_4, p_5])), (a1, .inl (K 0, 400, .inl f))] sz) := by
  refine Met.ofW (cc := cX8_take) (maxL := 3) (ret := none) (by decide) rfl ?_
  intro p e s m args below meth c s₁ B hml hv
  obtain ⟨rfl, hsz, hP, hK, hD0, hN⟩ := hv
  have hx := B.exec
  have hb := B.bytes
  have hr := B.returns
  have hts := atoms_spec (ws := wsX8_take) B.pre
  have hown : s.vm.findClass RX8 = some m.cls := findClass_of_methodNamed B.named
  have hlocks := B.notSynchronized
  subst hsz
  have hD := hD0.self (sz := s.heap.size)
  generalize hAe : va_A [(a0, .inr (8, [.ref a1, .int ln, p_2, p_3, p_4, p_5])), (a1, .inl (K 0, 400, .inl f))] s.heap.size = A at hD ⊢
  have hA : ∀ q : Nat, s.heap.size ≤ q → A q := fun q h => by rw [← hAe]; exact Or.inr h
  have hS : va_S A s.heap s.heap [] := va_S.rf
  have hP : va_P D vwCl [(a0, .inr (8, [.ref a1, .int ln, p_2, p_3, p_4, p_5])), (a1, .inl (K 0, 400, .inl f))] s.heap := hP
  have hl := lv_entry [.ref a0, .int x] (n := 3) (Nat.le_of_ble_eq_true rfl)
  rw [lg_entry_eq]
  generalize (lg_sl [.ref a0, .int x] ++ List.replicate (3 - (lg_sl [.ref a0, .int x]).length) Slot.unset).toArray = ls at hl ⊢
  have hl : lv_has ls 3 [(0, .ref a0), (1, .int x)] := hl
  have hw8 : ∀ w ∈ wsX80, w ∈ wsX8_take := fun w h => (List.mem_cons_of_mem _ (List.mem_append_right _ h))
  generalize hQ : MQ below _ _ s _ _ _ = Q
  refine lv_bipush (v := 24) hx hb dX8_take_0 (by decide) ?_
  refine lv_istore_n (lv' := [(2, .int 24), (0, .ref a0), (1, .int x)]) hx hb dX8_take_2 rfl hl (by decide) rfl (fun ls hl => ?_)
  have lp_189 : ∀ (nn_ : Nat) (v_169 : Int32) (v_170 : Int32) (f_171 : Nat → Int32) (hv_169 : (-8) ≤ v_169.toInt ∧ v_169.toInt ≤ 24) (hv_170 : 0 ≤ v_170.toInt ∧ v_170.toInt ≤ 400) (hr0_lp_189 : 8 * (v_170.toInt - ln.toInt) = 24 - v_169.toInt ∧ -8 ≤ v_169.toInt) (hn : (v_169.toInt - (-9) : Int).toNat < nn_) (H : Heap) (locs : List Loc) (hP : va_P D vwCl [(a0, .inr (8, [.ref a1, .int v_170, p_2, p_3, p_4, p_5])), (a1, .inl (K 0, 400, .inl f_171))] H) (hD : va_D A [(a0, .inr (8, [.ref a1, .int v_170, p_2, p_3, p_4, p_5])), (a1, .inl (K 0, 400, .inl f_171))]) (hS : va_S A s.heap H locs) (ls : Array Slot) (hl : lv_has ls 3 [(2, .int v_169), (0, .ref a0), (1, .int x)]), W p l e ({ frames := 0, cells := 0, slots := 0, locals := 0 }) s m (([.ref a0, .int x] : List Value).toArray) below meth c H locs 0 0 Q (F0 m 3 ls []) := by
    intro nn_
    induction nn_ with
    | zero =>
      intro v_169 v_170 f_171 hv_169 hv_170 hr0_lp_189 hn H locs hP hD hS ls hl
      exact absurd hn (Nat.not_lt_zero _)
    | succ nn_ ih_190 =>
      intro v_169 v_170 f_171 hv_169 hv_170 hr0_lp_189 hn H locs hP hD hS ls hl
      refine lv_iload_n hx hb dX8_take_3 rfl (lv_at hl 0 rfl) ?_
      refine lv_if_lt (tgt := 49) hx hb dX8_take_4 (by decide) (fun c_191 => ?_) (fun c_191 => ?_)
      · have c_191i := i_lt (x := v_169.toInt) (y := 0) rfl rfl c_191
        rw [← hQ]
        have hP9 := hP.sub (ws' := [(a0, .inr (8, [.ref a1, .int v_170, p_2, p_3, p_4, p_5])), (a1, .inl (K 0, 400, .inl f_171))]) [0, 1] rfl
        have hD9 := hD.sub (ws' := [(a0, .inr (8, [.ref a1, .int v_170, p_2, p_3, p_4, p_5])), (a1, .inl (K 0, 400, .inl f_171))]) [0, 1] (by decide) rfl
        exact W.vret hx hb hr (fun t ht hW => ⟨⟨((fun _ => 0, fun i => match i with | _ => f_171, fun _ => fun _ => 0, fun i => match i with | _ => v_170, fun _ => 0, fun _ => fun _ => none) : Su), rfl, ⟨(show 0 ≤ (v_170 : Int32).toInt ∧ (v_170 : Int32).toInt ≤ 400 by omega), (show (v_170 : Int32).toInt = ln.toInt + 4 by omega), trivial⟩, (⟨by rw [ht]; exact hP9, hD9⟩ : Wd D A _ t)⟩, hS.F ht⟩) hS.2.2 dX8_take_49
      · have c_191i := i_nlt (x := v_169.toInt) (y := 0) rfl rfl c_191
        refine lv_aload_n hx hb dX8_take_7 rfl (lv_at hl 1 rfl) ?_
        refine va_get (ci := 8) (v := .int v_170) (C := RX8) (T := TX8) (N := 6) hx hb hts hw8 hown hK hP 0 rfl rfl 1 (by decide) (hts (.fieldLink RX8 15 "SmokeTune$Tape" "length" "I") (List.mem_cons_of_mem _ (List.mem_append_left _ (List.mem_of_getElem? (i := 0) rfl)))) (fun _ h9 => h9) rfl dX8_take_8 ?_
        refine lv_sipush (v := 400) hx hb dX8_take_11 (by decide) ?_
        refine lv_icmp_ge (tgt := 49) hx hb dX8_take_14 (by decide) (fun c_192 => ?_) (fun c_192 => ?_)
        · have c_192i := i_le (x := 400) (y := v_170.toInt) rfl rfl c_192
          rw [← hQ]
          have hP9 := hP.sub (ws' := [(a0, .inr (8, [.ref a1, .int v_170, p_2, p_3, p_4, p_5])), (a1, .inl (K 0, 400, .inl f_171))]) [0, 1] rfl
          have hD9 := hD.sub (ws' := [(a0, .inr (8, [.ref a1, .int v_170, p_2, p_3, p_4, p_5])), (a1, .inl (K 0, 400, .inl f_171))]) [0, 1] (by decide) rfl
          exact W.vret hx hb hr (fun t ht hW => ⟨⟨((fun _ => 0, fun i => match i with | _ => f_171, fun _ => fun _ => 0, fun i => match i with | _ => v_170, fun _ => 0, fun _ => fun _ => none) : Su), rfl, ⟨(show 0 ≤ (v_170 : Int32).toInt ∧ (v_170 : Int32).toInt ≤ 400 by omega), (show (v_170 : Int32).toInt = ln.toInt + 4 by omega), trivial⟩, (⟨by rw [ht]; exact hP9, hD9⟩ : Wd D A _ t)⟩, hS.F ht⟩) hS.2.2 dX8_take_49
        · have c_192i := i_nle (x := 400) (y := v_170.toInt) rfl rfl c_192
          refine lv_aload_n hx hb dX8_take_17 rfl (lv_at hl 1 rfl) ?_
          refine va_get (ci := 8) (v := .ref a1) (C := RX8) (T := TX8) (N := 6) hx hb hts hw8 hown hK hP 0 rfl rfl 0 (by decide) (hts (.fieldLink RX8 11 "SmokeTune$Tape" "bytes" "[I") (List.mem_cons_of_mem _ (List.mem_append_left _ (List.mem_of_getElem? (i := 1) rfl)))) (fun _ h9 => h9) rfl dX8_take_18 ?_
          refine lv_aload_n hx hb dX8_take_21 rfl (lv_at hl 1 rfl) ?_
          refine va_get (ci := 8) (v := .int v_170) (C := RX8) (T := TX8) (N := 6) hx hb hts hw8 hown hK hP 0 rfl rfl 1 (by decide) (hts (.fieldLink RX8 15 "SmokeTune$Tape" "length" "I") (List.mem_cons_of_mem _ (List.mem_append_left _ (List.mem_of_getElem? (i := 0) rfl)))) (fun _ h9 => h9) rfl dX8_take_22 ?_
          refine lv_iload_n hx hb dX8_take_25 rfl (lv_at hl 2 rfl) ?_
          refine lv_iload_n hx hb dX8_take_26 rfl (lv_at hl 0 rfl) ?_
          refine lv_ishr hx hb dX8_take_27 ?_
          refine lv_topi (fun x_193 ex_193 => ?_)
          refine lv_sipush (v := 255) hx hb dX8_take_28 (by decide) ?_
          refine lv_iand hx hb dX8_take_31 ?_
          refine lv_topi (fun x_194 ex_194 => ?_)
          have hx_194 : 0 ≤ x_194.toInt ∧ x_194.toInt ≤ 255 := by rw [ex_194]; exact i_mask x_193 8 rfl (by decide)
          refine va_iast hx hb hK hP hD hS 1 0 rfl rfl (i_in rfl (by omega)) dX8_take_32 (fun H locs hP hD hS => ?_)
          generalize hf_195 : (upd f_171 (v_170 : Int32).toNatClampNeg x_194) = f_195 at hP hD
          have hP : va_P D vwCl [(a0, .inr (8, [.ref a1, .int v_170, p_2, p_3, p_4, p_5])), (a1, .inl (K 0, 400, .inl f_195))] H := hP
          have hD : va_D A [(a0, .inr (8, [.ref a1, .int v_170, p_2, p_3, p_4, p_5])), (a1, .inl (K 0, 400, .inl f_195))] := hD
          refine lv_aload_n hx hb dX8_take_33 rfl (lv_at hl 1 rfl) ?_
          refine lv_dup hx hb dX8_take_34 rfl ?_
          refine va_get (ci := 8) (v := .int v_170) (C := RX8) (T := TX8) (N := 6) hx hb hts hw8 hown hK hP 0 rfl rfl 1 (by decide) (hts (.fieldLink RX8 15 "SmokeTune$Tape" "length" "I") (List.mem_cons_of_mem _ (List.mem_append_left _ (List.mem_of_getElem? (i := 0) rfl)))) (fun _ h9 => h9) rfl dX8_take_35 ?_
          refine lv_iconst (v := 1) hx hb dX8_take_38 (by decide) ?_
          refine lv_iadd hx hb dX8_take_39 ?_
          refine lv_topi (fun x_196 ex_196 => ?_)
          have hx_196 : x_196.toInt = (v_170.toInt + 1) := by rw [ex_196]; exact i_add rfl (show (1 : Int32).toInt = 1 from rfl) (by omega)
          refine va_put (ci := 8) (v := .int x_196) (ty := .int) (C := RX8) (T := TX8) (N := 6) hx hb hts hw8 tyX8 tyX8_ok nmX8 hown hK hP hD hS 0 rfl rfl 1 (by decide) (hts (.fieldLink RX8 15 "SmokeTune$Tape" "length" "I") (List.mem_cons_of_mem _ (List.mem_append_left _ (List.mem_of_getElem? (i := 0) rfl)))) (fun _ h9 => h9) rfl (by decide +kernel) (by first | rfl | decide) (by first | rfl | decide) (Nat.le_of_ble_eq_true rfl) dX8_take_40 (fun H locs hP hD hS => ?_)
          have hP : va_P D vwCl [(a0, .inr (8, [.ref a1, .int x_196, p_2, p_3, p_4, p_5])), (a1, .inl (K 0, 400, .inl f_195))] H := hP
          have hD : va_D A [(a0, .inr (8, [.ref a1, .int x_196, p_2, p_3, p_4, p_5])), (a1, .inl (K 0, 400, .inl f_195))] := hD
          obtain ⟨x_197, ex_197⟩ : ∃ y : Int32, y = v_169 + Int32.ofInt (-8) := ⟨_, rfl⟩
          have hx_197 : x_197.toInt = (v_169.toInt + (-8)) := by rw [ex_197]; exact i_add rfl (show (Int32.ofInt (-8)).toInt = (-8) from rfl) (by omega)
          refine lv_iinc (v := x_197) (lv' := [(2, .int x_197), (0, .ref a0), (1, .int x)]) hx hb dX8_take_43 hl (k := 0) rfl (by rw [ex_197]) (by decide) rfl (fun ls hl => ?_)
          refine lv_goto (tgt := 3) hx hb dX8_take_46 (by decide) ?_
          exact ih_190 x_197 x_196 f_195 (by rw [hx_197]; omega) (by rw [hx_196]; omega) (show 8 * ((x_196 : Int32).toInt - ln.toInt) = 24 - (x_197 : Int32).toInt ∧ -8 ≤ (x_197 : Int32).toInt by omega) (by omega) _ _ hP hD hS ls (lv_sub hl [0, 1, 2] rfl)
  have hz_198 : (24 : Int32).toInt = 24 := rfl
  exact lp_189 (((24 : Int32).toInt - (-9) : Int).toNat + 1) 24 ln f (by decide) (by omega) (show 8 * ((ln : Int32).toInt - ln.toInt) = 24 - (24 : Int32).toInt ∧ -8 ≤ (24 : Int32).toInt by omega) (Nat.lt_succ_self _) _ _ hP hD hS ls (lv_sub hl [0, 1, 2] rfl)
set_option maxHeartbeats 4000000 in
set_option maxRecDepth 100000 in
theorem w_feed (l : Launch) (D : va_G) (K : Nat → ClassId) (o0 : Nat) (x0 : Int32) (x1 : Int32) (x2 : Int32) (x3 : Int32) (x4 : Int32) (o_0 : Value) (o_1 : Value) (o_2 : Value) (o_3 : Value) (o_4 : Value) (p0 : Nat) (o_6 : Value) (o_7 : Value) (o_8 : Value) (o_9 : Value) (o_10 : Value) (o_11 : Value) (o_12 : Value) (o_13 : Value) (o_14 : Value) (o_15 : Value) (o_16 : Value) (p1 : Nat) (ln : Int32) (p_2 : Value) (p_3 : Value) (p_4 : Value) (p_5 : Value) (fb : Nat → Int32) (sz : Nat) (zln : 0 ≤ ln.toInt ∧ ln.toInt ≤ 400) : Met l yX11_feed wsX11_feed ({ frames := 1, cells := 0, slots := 0, locals := 22 }) (va_Pc [.ref o0, .int x0, .int x1, .int x2, .int x3, .int x4] (Pre D K [(o0, .inr (11, [o_0, o_1, o_2, o_3, o_4, .ref p0, o_6, o_7, o_8, o_9, o_10, o_11, o_12, o_13, o_14, o_15, o_16])), (p0, .inr (8, [.ref p1, .int ln, p_2, p_3, p_4, p_5])), (p1, .inl (K 0, 400, .inl fb))] sz)) (va_Qi (S := Su) (fun (r : Int32) (u : Su) => ((-1) ≤ r.toInt ∧ r.toInt ≤ 400) ∧ (0 ≤ (u.2.2.2.1 0).toInt ∧ (u.2.2.2.1 0).toInt ≤ 400) ∧ (((400 < ln.toInt + 20 ∧ (u.2.2.2.1 0).toInt = ln.toInt) ∨ (ln.toInt + 20 ≤ 400 ∧ (u.2.2.2.1 0).toInt = ln.toInt + 20))) ∧ True) (fun u t => Wd D (va_A [(o0, .inr (11, [o_0, o_1, o_2, o_3, o_4, .ref p0, o_6, o_7, o_8, o_9, o_10, o_11, o_12, o_13, o_14, o_15, o_16])), (p0, .inr (8, [.ref p1, .int ln, p_2, p_3, p_4, p_5])), (p1, .inl (K 0, 400, .inl fb))] sz) ((fun u => [(o0, .inr (11, [o_0, o_1, o_2, o_3, o_4, .ref p0, o_6, o_7, o_8, o_9, o_10, o_11, o_12, o_13, o_14, o_15, o_16])), (p0, .inr (8, [.ref p1, .int (u.2.2.2.1 0), p_2, p_3, p_4, p_5])), (p1, .inl (K 0, 400, .inl (u.2.1 0)))]) u) t) (va_A [(o0, .inr (11, [o_0, o_1, o_2, o_3, o_4, .ref p0, o_6, o_7, o_8, o_9, o_10, o_11, o_12, o_13, o_14, o_15, o_16])), (p0, .inr (8, [.ref p1, .int ln, p_2, p_3, p_4, p_5])), (p1, .inl (K 0, 400, .inl fb))] sz)) 0 0 (va_A [(o0, .inr (11, [o_0, o_1, o_2, o_3, o_4, .ref p0, o_6, o_7, o_8, o_9, o_10, o_11, o_12, o_13, o_14, o_15, o_16])), (p0, .inr (8, [.ref p1, .int ln, p_2, p_3, p_4, p_5])), (p1, .inl (K 0, 400, .inl fb))] sz) := by
  refine Met.ofW (cc := cX11_feed) (maxL := 6) (ret := (some .int)) (by decide) rfl ?_
  intro p e s m args below meth c s₁ B hml hv
  obtain ⟨rfl, hsz, hP, hK, hD0, hN⟩ := hv
  have hx := B.exec
  have hb := B.bytes
  have hr := B.returns
  have hts := atoms_spec (ws := wsX11_feed) B.pre
  have hown : s.vm.findClass RX11 = some m.cls := findClass_of_methodNamed B.named
  have hlocks := B.notSynchronized
  subst hsz
  have hD := hD0.self (sz := s.heap.size)
  generalize hAe : va_A [(o0, .inr (11, [o_0, o_1, o_2, o_3, o_4, .ref p0, o_6, o_7, o_8, o_9, o_10, o_11, o_12, o_13, o_14, o_15, o_16])), (p0, .inr (8, [.ref p1, .int ln, p_2, p_3, p_4, p_5])), (p1, .inl (K 0, 400, .inl fb))] s.heap.size = A at hD ⊢
  have hA : ∀ q : Nat, s.heap.size ≤ q → A q := fun q h => by rw [← hAe]; exact Or.inr h
  have hS : va_S A s.heap s.heap [] := va_S.rf
  have hP : va_P D vwCl [(o0, .inr (11, [o_0, o_1, o_2, o_3, o_4, .ref p0, o_6, o_7, o_8, o_9, o_10, o_11, o_12, o_13, o_14, o_15, o_16])), (p0, .inr (8, [.ref p1, .int ln, p_2, p_3, p_4, p_5])), (p1, .inl (K 0, 400, .inl fb))] s.heap := hP
  have hl := lv_entry [.ref o0, .int x0, .int x1, .int x2, .int x3, .int x4] (n := 6) (Nat.le_of_ble_eq_true rfl)
  rw [lg_entry_eq]
  generalize (lg_sl [.ref o0, .int x0, .int x1, .int x2, .int x3, .int x4] ++ List.replicate (6 - (lg_sl [.ref o0, .int x0, .int x1, .int x2, .int x3, .int x4]).length) Slot.unset).toArray = ls at hl ⊢
  have hl : lv_has ls 6 [(0, .ref o0), (1, .int x0), (2, .int x1), (3, .int x2), (4, .int x3), (5, .int x4)] := hl
  have hw8 : ∀ w ∈ wsX80, w ∈ wsX11_feed := fun w h => (List.mem_cons_of_mem _ (List.mem_append_right _ h))
  have hw11 : ∀ w ∈ wsX110, w ∈ wsX11_feed := fun w h => (List.mem_cons_of_mem _ (List.mem_append_left _ (List.mem_append_right _ h)))
  generalize hQ : MQ below _ _ s _ _ _ = Q
  refine lv_aload_n hx hb dX11_feed_0 rfl (lv_at hl 0 rfl) ?_
  refine va_get (ci := 11) (v := .ref p0) (C := RX11) (T := TX11) (N := 17) hx hb hts hw11 hown hK hP 0 rfl rfl 5 (by decide) (hts (.fieldLink RX11 38 "SmokeTune" "tape" "LSmokeTune$Tape;") (List.mem_cons_of_mem _ (List.mem_append_left _ (List.mem_append_left _ (List.mem_of_getElem? (i := 0) rfl))))) (fun _ h9 => h9) rfl dX11_feed_1 ?_
  refine va_getN (ci := 8) (v := .int ln) (C := RX8) (T := TX8) (N := 6) hx hb hts hw8 hown hK hP 1 rfl rfl 1 (by decide) (nst_use hN 120 rfl) (fun _ h9 => h9) rfl dX11_feed_4 ?_
  refine lv_bipush (v := 20) hx hb dX11_feed_7 (by decide) ?_
  refine lv_iadd hx hb dX11_feed_9 ?_
  refine lv_topi (fun x_45 ex_45 => ?_)
  have hx_45 : x_45.toInt = (ln.toInt + 20) := by rw [ex_45]; exact i_add rfl (show (20 : Int32).toInt = 20 from rfl) (by omega)
  refine lv_sipush (v := 400) hx hb dX11_feed_10 (by decide) ?_
  refine lv_icmp_le (tgt := 18) hx hb dX11_feed_13 (by decide) (fun c_46 => ?_) (fun c_46 => ?_)
  · have c_46i := i_le (x := (ln.toInt + 20)) (y := 400) hx_45 rfl c_46
    refine lv_aload_n hx hb dX11_feed_18 rfl (lv_at hl 0 rfl) ?_
    refine va_get (ci := 11) (v := .ref p0) (C := RX11) (T := TX11) (N := 17) hx hb hts hw11 hown hK hP 0 rfl rfl 5 (by decide) (hts (.fieldLink RX11 38 "SmokeTune" "tape" "LSmokeTune$Tape;") (List.mem_cons_of_mem _ (List.mem_append_left _ (List.mem_append_left _ (List.mem_of_getElem? (i := 0) rfl))))) (fun _ h9 => h9) rfl dX11_feed_19 ?_
    refine lv_iload_n hx hb dX11_feed_22 rfl (lv_at hl 1 rfl) ?_
    refine kcv (S := Su) (wr := [(o0, .inr (11, [o_0, o_1, o_2, o_3, o_4, .ref p0, o_6, o_7, o_8, o_9, o_10, o_11, o_12, o_13, o_14, o_15, o_16]))]) (va_runVN (As := [.int x0]) (rest := []) ⟨hx, hb, hml, hown, hts⟩ (w_take4 l D K p0 x0 p1 ln p_2 p_3 p_4 p_5 fb s.heap.size (by first | omega | decide)) ⟨va_cnB 1 hts gX11_feed_X8_take_n166 rfl rfl rfl (nst_at hN 29 rfl) (hts (.initialized RX8) (List.mem_cons_of_mem _ (List.mem_append_left _ (List.mem_append_left _ (List.mem_of_getElem? (i := 2) rfl))))) (by decide +kernel) ⟨Nat.le_of_ble_eq_true rfl, Nat.le_of_ble_eq_true rfl⟩, (hts (.instanceMethod yX8_take) (List.mem_cons_of_mem _ (List.mem_append_left _ (List.mem_append_left _ (List.mem_of_getElem? (i := 1) rfl))))), (hts (.selects RX8 yX8_take yX8_take) (List.mem_cons_of_mem _ (List.mem_append_left _ (List.mem_append_left _ (List.mem_of_getElem? (i := 3) rfl)))))⟩ (mkV hK hN (hP.sub [1, 2] rfl) (hD.sub [1, 2] (by decide) rfl) (ci := 8) (q0 := 0) rfl rfl) rfl rfl hl.1 rfl (lv_room (Nat.le_of_ble_eq_true rfl)) dX11_feed_23 ⟨Nat.le_of_ble_eq_true rfl, Nat.le_of_ble_eq_true rfl⟩) hP hD hS hA [1, 2] [0] rfl rfl (by decide) (by decide) (fun u_48 H locs hw hP hD hS => ?_)
    have hP : va_P D vwCl [(o0, .inr (11, [o_0, o_1, o_2, o_3, o_4, .ref p0, o_6, o_7, o_8, o_9, o_10, o_11, o_12, o_13, o_14, o_15, o_16])), (p0, .inr (8, [.ref p1, .int (u_48.2.2.2.1 0), p_2, p_3, p_4, p_5])), (p1, .inl (K 0, 400, .inl (u_48.2.1 0)))] H := hP
    have hD : va_D A [(o0, .inr (11, [o_0, o_1, o_2, o_3, o_4, .ref p0, o_6, o_7, o_8, o_9, o_10, o_11, o_12, o_13, o_14, o_15, o_16])), (p0, .inr (8, [.ref p1, .int (u_48.2.2.2.1 0), p_2, p_3, p_4, p_5])), (p1, .inl (K 0, 400, .inl (u_48.2.1 0)))] := hD
    obtain ⟨k_49, k_50, -⟩ := hw
    refine lv_aload_n hx hb dX11_feed_26 rfl (lv_at hl 0 rfl) ?_
    refine va_get (ci := 11) (v := .ref p0) (C := RX11) (T := TX11) (N := 17) hx hb hts hw11 hown hK hP 0 rfl rfl 5 (by decide) (hts (.fieldLink RX11 38 "SmokeTune" "tape" "LSmokeTune$Tape;") (List.mem_cons_of_mem _ (List.mem_append_left _ (List.mem_append_left _ (List.mem_of_getElem? (i := 0) rfl))))) (fun _ h9 => h9) rfl dX11_feed_27 ?_
    refine lv_iload_n hx hb dX11_feed_30 rfl (lv_at hl 2 rfl) ?_
    refine kcv (S := Su) (wr := [(o0, .inr (11, [o_0, o_1, o_2, o_3, o_4, .ref p0, o_6, o_7, o_8, o_9, o_10, o_11, o_12, o_13, o_14, o_15, o_16]))]) (va_runVN (As := [.int x1]) (rest := []) ⟨hx, hb, hml, hown, hts⟩ (w_take4 l D K p0 x1 p1 (u_48.2.2.2.1 0) p_2 p_3 p_4 p_5 (u_48.2.1 0) H.size (by first | omega | decide)) ⟨va_cnB 1 hts gX11_feed_X8_take_n166 rfl rfl rfl (nst_at hN 29 rfl) (hts (.initialized RX8) (List.mem_cons_of_mem _ (List.mem_append_left _ (List.mem_append_left _ (List.mem_of_getElem? (i := 2) rfl))))) (by decide +kernel) ⟨Nat.le_of_ble_eq_true rfl, Nat.le_of_ble_eq_true rfl⟩, (hts (.instanceMethod yX8_take) (List.mem_cons_of_mem _ (List.mem_append_left _ (List.mem_append_left _ (List.mem_of_getElem? (i := 1) rfl))))), (hts (.selects RX8 yX8_take yX8_take) (List.mem_cons_of_mem _ (List.mem_append_left _ (List.mem_append_left _ (List.mem_of_getElem? (i := 3) rfl)))))⟩ (mkV hK hN (hP.sub [1, 2] rfl) (hD.sub [1, 2] (by decide) rfl) (ci := 8) (q0 := 0) rfl rfl) rfl rfl hl.1 rfl (lv_room (Nat.le_of_ble_eq_true rfl)) dX11_feed_31 ⟨Nat.le_of_ble_eq_true rfl, Nat.le_of_ble_eq_true rfl⟩) hP hD hS hA [1, 2] [0] rfl rfl (by decide) (by decide) (fun u_52 H locs hw hP hD hS => ?_)
    have hP : va_P D vwCl [(o0, .inr (11, [o_0, o_1, o_2, o_3, o_4, .ref p0, o_6, o_7, o_8, o_9, o_10, o_11, o_12, o_13, o_14, o_15, o_16])), (p0, .inr (8, [.ref p1, .int (u_52.2.2.2.1 0), p_2, p_3, p_4, p_5])), (p1, .inl (K 0, 400, .inl (u_52.2.1 0)))] H := hP
    have hD : va_D A [(o0, .inr (11, [o_0, o_1, o_2, o_3, o_4, .ref p0, o_6, o_7, o_8, o_9, o_10, o_11, o_12, o_13, o_14, o_15, o_16])), (p0, .inr (8, [.ref p1, .int (u_52.2.2.2.1 0), p_2, p_3, p_4, p_5])), (p1, .inl (K 0, 400, .inl (u_52.2.1 0)))] := hD
    obtain ⟨k_53, k_54, -⟩ := hw
    refine lv_aload_n hx hb dX11_feed_34 rfl (lv_at hl 0 rfl) ?_
    refine va_get (ci := 11) (v := .ref p0) (C := RX11) (T := TX11) (N := 17) hx hb hts hw11 hown hK hP 0 rfl rfl 5 (by decide) (hts (.fieldLink RX11 38 "SmokeTune" "tape" "LSmokeTune$Tape;") (List.mem_cons_of_mem _ (List.mem_append_left _ (List.mem_append_left _ (List.mem_of_getElem? (i := 0) rfl))))) (fun _ h9 => h9) rfl dX11_feed_35 ?_
    refine lv_iload_n hx hb dX11_feed_38 rfl (lv_at hl 3 rfl) ?_
    refine kcv (S := Su) (wr := [(o0, .inr (11, [o_0, o_1, o_2, o_3, o_4, .ref p0, o_6, o_7, o_8, o_9, o_10, o_11, o_12, o_13, o_14, o_15, o_16]))]) (va_runVN (As := [.int x2]) (rest := []) ⟨hx, hb, hml, hown, hts⟩ (w_take4 l D K p0 x2 p1 (u_52.2.2.2.1 0) p_2 p_3 p_4 p_5 (u_52.2.1 0) H.size (by first | omega | decide)) ⟨va_cnB 1 hts gX11_feed_X8_take_n166 rfl rfl rfl (nst_at hN 29 rfl) (hts (.initialized RX8) (List.mem_cons_of_mem _ (List.mem_append_left _ (List.mem_append_left _ (List.mem_of_getElem? (i := 2) rfl))))) (by decide +kernel) ⟨Nat.le_of_ble_eq_true rfl, Nat.le_of_ble_eq_true rfl⟩, (hts (.instanceMethod yX8_take) (List.mem_cons_of_mem _ (List.mem_append_left _ (List.mem_append_left _ (List.mem_of_getElem? (i := 1) rfl))))), (hts (.selects RX8 yX8_take yX8_take) (List.mem_cons_of_mem _ (List.mem_append_left _ (List.mem_append_left _ (List.mem_of_getElem? (i := 3) rfl)))))⟩ (mkV hK hN (hP.sub [1, 2] rfl) (hD.sub [1, 2] (by decide) rfl) (ci := 8) (q0 := 0) rfl rfl) rfl rfl hl.1 rfl (lv_room (Nat.le_of_ble_eq_true rfl)) dX11_feed_39 ⟨Nat.le_of_ble_eq_true rfl, Nat.le_of_ble_eq_true rfl⟩) hP hD hS hA [1, 2] [0] rfl rfl (by decide) (by decide) (fun u_56 H locs hw hP hD hS => ?_)
    have hP : va_P D vwCl [(o0, .inr (11, [o_0, o_1, o_2, o_3, o_4, .ref p0, o_6, o_7, o_8, o_9, o_10, o_11, o_12, o_13, o_14, o_15, o_16])), (p0, .inr (8, [.ref p1, .int (u_56.2.2.2.1 0), p_2, p_3, p_4, p_5])), (p1, .inl (K 0, 400, .inl (u_56.2.1 0)))] H := hP
    have hD : va_D A [(o0, .inr (11, [o_0, o_1, o_2, o_3, o_4, .ref p0, o_6, o_7, o_8, o_9, o_10, o_11, o_12, o_13, o_14, o_15, o_16])), (p0, .inr (8, [.ref p1, .int (u_56.2.2.2.1 0), p_2, p_3, p_4, p_5])), (p1, .inl (K 0, 400, .inl (u_56.2.1 0)))] := hD
    obtain ⟨k_57, k_58, -⟩ := hw
    refine lv_aload_n hx hb dX11_feed_42 rfl (lv_at hl 0 rfl) ?_
    refine va_get (ci := 11) (v := .ref p0) (C := RX11) (T := TX11) (N := 17) hx hb hts hw11 hown hK hP 0 rfl rfl 5 (by decide) (hts (.fieldLink RX11 38 "SmokeTune" "tape" "LSmokeTune$Tape;") (List.mem_cons_of_mem _ (List.mem_append_left _ (List.mem_append_left _ (List.mem_of_getElem? (i := 0) rfl))))) (fun _ h9 => h9) rfl dX11_feed_43 ?_
    refine lv_iload hx hb dX11_feed_46 (lv_at hl 4 rfl) ?_
    refine kcv (S := Su) (wr := [(o0, .inr (11, [o_0, o_1, o_2, o_3, o_4, .ref p0, o_6, o_7, o_8, o_9, o_10, o_11, o_12, o_13, o_14, o_15, o_16]))]) (va_runVN (As := [.int x3]) (rest := []) ⟨hx, hb, hml, hown, hts⟩ (w_take4 l D K p0 x3 p1 (u_56.2.2.2.1 0) p_2 p_3 p_4 p_5 (u_56.2.1 0) H.size (by first | omega | decide)) ⟨va_cnB 1 hts gX11_feed_X8_take_n166 rfl rfl rfl (nst_at hN 29 rfl) (hts (.initialized RX8) (List.mem_cons_of_mem _ (List.mem_append_left _ (List.mem_append_left _ (List.mem_of_getElem? (i := 2) rfl))))) (by decide +kernel) ⟨Nat.le_of_ble_eq_true rfl, Nat.le_of_ble_eq_true rfl⟩, (hts (.instanceMethod yX8_take) (List.mem_cons_of_mem _ (List.mem_append_left _ (List.mem_append_left _ (List.mem_of_getElem? (i := 1) rfl))))), (hts (.selects RX8 yX8_take yX8_take) (List.mem_cons_of_mem _ (List.mem_append_left _ (List.mem_append_left _ (List.mem_of_getElem? (i := 3) rfl)))))⟩ (mkV hK hN (hP.sub [1, 2] rfl) (hD.sub [1, 2] (by decide) rfl) (ci := 8) (q0 := 0) rfl rfl) rfl rfl hl.1 rfl (lv_room (Nat.le_of_ble_eq_true rfl)) dX11_feed_48 ⟨Nat.le_of_ble_eq_true rfl, Nat.le_of_ble_eq_true rfl⟩) hP hD hS hA [1, 2] [0] rfl rfl (by decide) (by decide) (fun u_60 H locs hw hP hD hS => ?_)
    have hP : va_P D vwCl [(o0, .inr (11, [o_0, o_1, o_2, o_3, o_4, .ref p0, o_6, o_7, o_8, o_9, o_10, o_11, o_12, o_13, o_14, o_15, o_16])), (p0, .inr (8, [.ref p1, .int (u_60.2.2.2.1 0), p_2, p_3, p_4, p_5])), (p1, .inl (K 0, 400, .inl (u_60.2.1 0)))] H := hP
    have hD : va_D A [(o0, .inr (11, [o_0, o_1, o_2, o_3, o_4, .ref p0, o_6, o_7, o_8, o_9, o_10, o_11, o_12, o_13, o_14, o_15, o_16])), (p0, .inr (8, [.ref p1, .int (u_60.2.2.2.1 0), p_2, p_3, p_4, p_5])), (p1, .inl (K 0, 400, .inl (u_60.2.1 0)))] := hD
    obtain ⟨k_61, k_62, -⟩ := hw
    refine lv_aload_n hx hb dX11_feed_51 rfl (lv_at hl 0 rfl) ?_
    refine va_get (ci := 11) (v := .ref p0) (C := RX11) (T := TX11) (N := 17) hx hb hts hw11 hown hK hP 0 rfl rfl 5 (by decide) (hts (.fieldLink RX11 38 "SmokeTune" "tape" "LSmokeTune$Tape;") (List.mem_cons_of_mem _ (List.mem_append_left _ (List.mem_append_left _ (List.mem_of_getElem? (i := 0) rfl))))) (fun _ h9 => h9) rfl dX11_feed_52 ?_
    refine lv_iload hx hb dX11_feed_55 (lv_at hl 5 rfl) ?_
    refine kcv (S := Su) (wr := [(o0, .inr (11, [o_0, o_1, o_2, o_3, o_4, .ref p0, o_6, o_7, o_8, o_9, o_10, o_11, o_12, o_13, o_14, o_15, o_16]))]) (va_runVN (As := [.int x4]) (rest := []) ⟨hx, hb, hml, hown, hts⟩ (w_take4 l D K p0 x4 p1 (u_60.2.2.2.1 0) p_2 p_3 p_4 p_5 (u_60.2.1 0) H.size (by first | omega | decide)) ⟨va_cnB 1 hts gX11_feed_X8_take_n166 rfl rfl rfl (nst_at hN 29 rfl) (hts (.initialized RX8) (List.mem_cons_of_mem _ (List.mem_append_left _ (List.mem_append_left _ (List.mem_of_getElem? (i := 2) rfl))))) (by decide +kernel) ⟨Nat.le_of_ble_eq_true rfl, Nat.le_of_ble_eq_true rfl⟩, (hts (.instanceMethod yX8_take) (List.mem_cons_of_mem _ (List.mem_append_left _ (List.mem_append_left _ (List.mem_of_getElem? (i := 1) rfl))))), (hts (.selects RX8 yX8_take yX8_take) (List.mem_cons_of_mem _ (List.mem_append_left _ (List.mem_append_left _ (List.mem_of_getElem? (i := 3) rfl)))))⟩ (mkV hK hN (hP.sub [1, 2] rfl) (hD.sub [1, 2] (by decide) rfl) (ci := 8) (q0 := 0) rfl rfl) rfl rfl hl.1 rfl (lv_room (Nat.le_of_ble_eq_true rfl)) dX11_feed_57 ⟨Nat.le_of_ble_eq_true rfl, Nat.le_of_ble_eq_true rfl⟩) hP hD hS hA [1, 2] [0] rfl rfl (by decide) (by decide) (fun u_64 H locs hw hP hD hS => ?_)
    have hP : va_P D vwCl [(o0, .inr (11, [o_0, o_1, o_2, o_3, o_4, .ref p0, o_6, o_7, o_8, o_9, o_10, o_11, o_12, o_13, o_14, o_15, o_16])), (p0, .inr (8, [.ref p1, .int (u_64.2.2.2.1 0), p_2, p_3, p_4, p_5])), (p1, .inl (K 0, 400, .inl (u_64.2.1 0)))] H := hP
    have hD : va_D A [(o0, .inr (11, [o_0, o_1, o_2, o_3, o_4, .ref p0, o_6, o_7, o_8, o_9, o_10, o_11, o_12, o_13, o_14, o_15, o_16])), (p0, .inr (8, [.ref p1, .int (u_64.2.2.2.1 0), p_2, p_3, p_4, p_5])), (p1, .inl (K 0, 400, .inl (u_64.2.1 0)))] := hD
    obtain ⟨k_65, k_66, -⟩ := hw
    refine lv_aload_n hx hb dX11_feed_60 rfl (lv_at hl 0 rfl) ?_
    refine va_get (ci := 11) (v := .ref p0) (C := RX11) (T := TX11) (N := 17) hx hb hts hw11 hown hK hP 0 rfl rfl 5 (by decide) (hts (.fieldLink RX11 38 "SmokeTune" "tape" "LSmokeTune$Tape;") (List.mem_cons_of_mem _ (List.mem_append_left _ (List.mem_append_left _ (List.mem_of_getElem? (i := 0) rfl))))) (fun _ h9 => h9) rfl dX11_feed_61 ?_
    refine va_getN (ci := 8) (v := .int (u_64.2.2.2.1 0)) (C := RX8) (T := TX8) (N := 6) hx hb hts hw8 hown hK hP 1 rfl rfl 1 (by decide) (nst_use hN 120 rfl) (fun _ h9 => h9) rfl dX11_feed_64 ?_
    rw [← hQ]
    have hP9 := hP.sub (ws' := [(o0, .inr (11, [o_0, o_1, o_2, o_3, o_4, .ref p0, o_6, o_7, o_8, o_9, o_10, o_11, o_12, o_13, o_14, o_15, o_16])), (p0, .inr (8, [.ref p1, .int (u_64.2.2.2.1 0), p_2, p_3, p_4, p_5])), (p1, .inl (K 0, 400, .inl (u_64.2.1 0)))]) [0, 1, 2] rfl
    have hD9 := hD.sub (ws' := [(o0, .inr (11, [o_0, o_1, o_2, o_3, o_4, .ref p0, o_6, o_7, o_8, o_9, o_10, o_11, o_12, o_13, o_14, o_15, o_16])), (p0, .inr (8, [.ref p1, .int (u_64.2.2.2.1 0), p_2, p_3, p_4, p_5])), (p1, .inl (K 0, 400, .inl (u_64.2.1 0)))]) [0, 1, 2] (by decide) rfl
    exact W.iret (v := (u_64.2.2.2.1 0)) hx hb hr (fun t ht hW => ⟨⟨(u_64.2.2.2.1 0), ((fun _ => 0, fun i => match i with | _ => (u_64.2.1 0), fun _ => fun _ => 0, fun i => match i with | _ => (u_64.2.2.2.1 0), fun _ => 0, fun _ => fun _ => none) : Su), rfl, ⟨(show (-1) ≤ (u_64.2.2.2.1 0).toInt ∧ (u_64.2.2.2.1 0).toInt ≤ 400 by omega), (show 0 ≤ ((u_64.2.2.2.1 0) : Int32).toInt ∧ ((u_64.2.2.2.1 0) : Int32).toInt ≤ 400 by omega), (show ((400 < ln.toInt + 20 ∧ ((u_64.2.2.2.1 0) : Int32).toInt = ln.toInt) ∨ (ln.toInt + 20 ≤ 400 ∧ ((u_64.2.2.2.1 0) : Int32).toInt = ln.toInt + 20)) by omega), trivial⟩, (⟨by rw [ht]; exact hP9, hD9⟩ : Wd D A _ t)⟩, hS.F ht⟩) hS.2.2 dX11_feed_67
  · have c_46i := i_nle (x := (ln.toInt + 20)) (y := 400) hx_45 rfl c_46
    refine lv_iconst (v := (-1)) hx hb dX11_feed_16 (by decide) ?_
    rw [← hQ]
    have hP9 := hP.sub (ws' := [(o0, .inr (11, [o_0, o_1, o_2, o_3, o_4, .ref p0, o_6, o_7, o_8, o_9, o_10, o_11, o_12, o_13, o_14, o_15, o_16])), (p0, .inr (8, [.ref p1, .int ln, p_2, p_3, p_4, p_5])), (p1, .inl (K 0, 400, .inl fb))]) [0, 1, 2] rfl
    have hD9 := hD.sub (ws' := [(o0, .inr (11, [o_0, o_1, o_2, o_3, o_4, .ref p0, o_6, o_7, o_8, o_9, o_10, o_11, o_12, o_13, o_14, o_15, o_16])), (p0, .inr (8, [.ref p1, .int ln, p_2, p_3, p_4, p_5])), (p1, .inl (K 0, 400, .inl fb))]) [0, 1, 2] (by decide) rfl
    exact W.iret (v := (-1)) hx hb hr (fun t ht hW => ⟨⟨(-1), ((fun _ => 0, fun i => match i with | _ => fb, fun _ => fun _ => 0, fun i => match i with | _ => ln, fun _ => 0, fun _ => fun _ => none) : Su), rfl, ⟨(show (-1) ≤ ((-1) : Int32).toInt ∧ ((-1) : Int32).toInt ≤ 400 by decide), (show 0 ≤ (ln : Int32).toInt ∧ (ln : Int32).toInt ≤ 400 by omega), (show ((400 < ln.toInt + 20 ∧ (ln : Int32).toInt = ln.toInt) ∨ (ln.toInt + 20 ≤ 400 ∧ (ln : Int32).toInt = ln.toInt + 20)) by omega), trivial⟩, (⟨by rw [ht]; exact hP9, hD9⟩ : Wd D A _ t)⟩, hS.F ht⟩) hS.2.2 dX11_feed_17
set_option maxHeartbeats 4000000 in
set_option maxRecDepth 100000 in
theorem w_end (l : Launch) (D : va_G) (K : Nat → ClassId) (o0 : Nat) (x : Int32) (o_0 : Value) (o_1 : Value) (o_2 : Value) (o_3 : Value) (o_4 : Value) (p0 : Nat) (o_6 : Value) (o_7 : Value) (o_8 : Value) (o_9 : Value) (o_10 : Value) (o_11 : Value) (o_12 : Value) (o_13 : Value) (o_14 : Value) (o_15 : Value) (o_16 : Value) (p1 : Nat) (ln : Int32) (p_2 : Value) (p_3 : Value) (p_4 : Value) (p_5 : Value) (sz : Nat) (zln : 0 ≤ ln.toInt ∧ ln.toInt ≤ 400) : Met l yX11_end wsX11_end ({ frames := 1, cells := 0, slots := 0, locals := 22 }) (va_Pc [.ref o0, .int x] (Pre D K [(o0, .inr (11, [o_0, o_1, o_2, o_3, o_4, .ref p0, o_6, o_7, o_8, o_9, o_10, o_11, o_12, o_13, o_14, o_15, o_16])), (p0, .inr (8, [.ref p1, .int ln, p_2, p_3, p_4, p_5]))] sz)) (va_Qi (S := Su) (fun (r : Int32) (u : Su) => ((-1) ≤ r.toInt ∧ r.toInt ≤ 400) ∧ (0 ≤ (u.2.2.2.1 0).toInt ∧ (u.2.2.2.1 0).toInt ≤ 400) ∧ (((r = (-1) ∧ (x.toInt < 0 ∨ ln.toInt < x.toInt) ∧ (u.2.2.2.1 0) = ln) ∨ (r = x ∧ 0 ≤ x.toInt ∧ x.toInt ≤ ln.toInt ∧ (u.2.2.2.1 0) = x))) ∧ True) (fun u t => Wd D (va_A [(o0, .inr (11, [o_0, o_1, o_2, o_3, o_4, .ref p0, o_6, o_7, o_8, o_9, o_10, o_11, o_12, o_13, o_14, o_15, o_16])), (p0, .inr (8, [.ref p1, .int ln, p_2, p_3, p_4, p_5]))] sz) ((fun u => [(o0, .inr (11, [o_0, o_1, o_2, o_3, o_4, .ref p0, o_6, o_7, o_8, o_9, o_10, o_11, o_12, o_13, o_14, o_15, o_16])), (p0, .inr (8, [.ref p1, .int (u.2.2.2.1 0), p_2, p_3, p_4, p_5]))]) u) t) (va_A [(o0, .inr (11, [o_0, o_1, o_2, o_3, o_4, .ref p0, o_6, o_7, o_8, o_9, o_10, o_11, o_12, o_13, o_14, o_15, o_16])), (p0, .inr (8, [.ref p1, .int ln, p_2, p_3, p_4, p_5]))] sz)) 0 0 (va_A [(o0, .inr (11, [o_0, o_1, o_2, o_3, o_4, .ref p0, o_6, o_7, o_8, o_9, o_10, o_11, o_12, o_13, o_14, o_15, o_16])), (p0, .inr (8, [.ref p1, .int ln, p_2, p_3, p_4, p_5]))] sz) := by
  refine Met.ofW (cc := cX11_end) (maxL := 2) (ret := (some .int)) (by decide) rfl ?_
  intro p e s m args below meth c s₁ B hml hv
  obtain ⟨rfl, hsz, hP, hK, hD0, hN⟩ := hv
  have hx := B.exec
  have hb := B.bytes
  have hr := B.returns
  have hts := atoms_spec (ws := wsX11_end) B.pre
  have hown : s.vm.findClass RX11 = some m.cls := findClass_of_methodNamed B.named
  have hlocks := B.notSynchronized
  subst hsz
  have hD := hD0.self (sz := s.heap.size)
  generalize hAe : va_A [(o0, .inr (11, [o_0, o_1, o_2, o_3, o_4, .ref p0, o_6, o_7, o_8, o_9, o_10, o_11, o_12, o_13, o_14, o_15, o_16])), (p0, .inr (8, [.ref p1, .int ln, p_2, p_3, p_4, p_5]))] s.heap.size = A at hD ⊢
  have hA : ∀ q : Nat, s.heap.size ≤ q → A q := fun q h => by rw [← hAe]; exact Or.inr h
  have hS : va_S A s.heap s.heap [] := va_S.rf
  have hP : va_P D vwCl [(o0, .inr (11, [o_0, o_1, o_2, o_3, o_4, .ref p0, o_6, o_7, o_8, o_9, o_10, o_11, o_12, o_13, o_14, o_15, o_16])), (p0, .inr (8, [.ref p1, .int ln, p_2, p_3, p_4, p_5]))] s.heap := hP
  have hl := lv_entry [.ref o0, .int x] (n := 2) (Nat.le_of_ble_eq_true rfl)
  rw [lg_entry_eq]
  generalize (lg_sl [.ref o0, .int x] ++ List.replicate (2 - (lg_sl [.ref o0, .int x]).length) Slot.unset).toArray = ls at hl ⊢
  have hl : lv_has ls 2 [(0, .ref o0), (1, .int x)] := hl
  have hw8 : ∀ w ∈ wsX80, w ∈ wsX11_end := fun w h => (List.mem_cons_of_mem _ (List.mem_append_right _ h))
  have hw11 : ∀ w ∈ wsX110, w ∈ wsX11_end := fun w h => (List.mem_cons_of_mem _ (List.mem_append_left _ (List.mem_append_right _ h)))
  generalize hQ : MQ below _ _ s _ _ _ = Q
  refine lv_iload_n hx hb dX11_end_0 rfl (lv_at hl 1 rfl) ?_
  refine lv_iconst (v := 0) hx hb dX11_end_1 (by decide) ?_
  refine lv_aload_n hx hb dX11_end_2 rfl (lv_at hl 0 rfl) ?_
  refine va_get (ci := 11) (v := .ref p0) (C := RX11) (T := TX11) (N := 17) hx hb hts hw11 hown hK hP 0 rfl rfl 5 (by decide) (hts (.fieldLink RX11 38 "SmokeTune" "tape" "LSmokeTune$Tape;") (List.mem_cons_of_mem _ (List.mem_append_left _ (List.mem_append_left _ (List.mem_of_getElem? (i := 0) rfl))))) (fun _ h9 => h9) rfl dX11_end_3 ?_
  refine va_getN (ci := 8) (v := .int ln) (C := RX8) (T := TX8) (N := 6) hx hb hts hw8 hown hK hP 1 rfl rfl 1 (by decide) (nst_use hN 120 rfl) (fun _ h9 => h9) rfl dX11_end_6 ?_
  refine pci (va_runS (As := [.int x, .int 0, .int ln]) (rest := []) ⟨hx, hb, hml, hown, hts⟩ (w_within l D K x.toInt 0 ln.toInt x 0 ln s.heap.size rfl (show (0 : Int32).toInt = 0 from rfl) rfl) (va_cwS 3 hts gX11_end_X11_within rfl rfl rfl (by decide +kernel) ⟨Nat.le_of_ble_eq_true rfl, Nat.le_of_ble_eq_true rfl⟩) (mkS hK hN (va_P.nil) (va_D.nil (A := fun _ => True))) rfl rfl hl.1 rfl (lv_room (Nat.le_of_ble_eq_true rfl)) dX11_end_9 ⟨Nat.le_of_ble_eq_true rfl, Nat.le_of_ble_eq_true rfl⟩) (fun r_13 hw => ?_)
  obtain ⟨hw, -⟩ := hw
  rcases hw with ⟨rfl, h_14, h_15⟩ | ⟨rfl, h_16⟩
  · refine lv_if_ne (tgt := 17) hx hb dX11_end_12 (by decide) (fun c_17 => ?_) (fun c_17 => absurd c_17 (by decide))
    refine lv_aload_n hx hb dX11_end_17 rfl (lv_at hl 0 rfl) ?_
    refine va_get (ci := 11) (v := .ref p0) (C := RX11) (T := TX11) (N := 17) hx hb hts hw11 hown hK hP 0 rfl rfl 5 (by decide) (hts (.fieldLink RX11 38 "SmokeTune" "tape" "LSmokeTune$Tape;") (List.mem_cons_of_mem _ (List.mem_append_left _ (List.mem_append_left _ (List.mem_of_getElem? (i := 0) rfl))))) (fun _ h9 => h9) rfl dX11_end_18 ?_
    refine lv_iload_n hx hb dX11_end_21 rfl (lv_at hl 1 rfl) ?_
    refine va_putN (ci := 8) (v := .int x) (ty := .int) (C := RX8) (T := TX8) (N := 6) hx hb hts hw8 tyX8 tyX8_ok nmX8 hown hK hP hD hS 1 rfl rfl 1 (by decide) (nst_use hN 120 rfl) (fun _ h9 => h9) rfl (by decide +kernel) (by first | rfl | decide) (by first | rfl | decide) (Nat.le_of_ble_eq_true rfl) dX11_end_22 (fun H locs hP hD hS => ?_)
    have hP : va_P D vwCl [(o0, .inr (11, [o_0, o_1, o_2, o_3, o_4, .ref p0, o_6, o_7, o_8, o_9, o_10, o_11, o_12, o_13, o_14, o_15, o_16])), (p0, .inr (8, [.ref p1, .int x, p_2, p_3, p_4, p_5]))] H := hP
    have hD : va_D A [(o0, .inr (11, [o_0, o_1, o_2, o_3, o_4, .ref p0, o_6, o_7, o_8, o_9, o_10, o_11, o_12, o_13, o_14, o_15, o_16])), (p0, .inr (8, [.ref p1, .int x, p_2, p_3, p_4, p_5]))] := hD
    refine lv_iload_n hx hb dX11_end_25 rfl (lv_at hl 1 rfl) ?_
    rw [← hQ]
    have hP9 := hP.sub (ws' := [(o0, .inr (11, [o_0, o_1, o_2, o_3, o_4, .ref p0, o_6, o_7, o_8, o_9, o_10, o_11, o_12, o_13, o_14, o_15, o_16])), (p0, .inr (8, [.ref p1, .int x, p_2, p_3, p_4, p_5]))]) [0, 1] rfl
    have hD9 := hD.sub (ws' := [(o0, .inr (11, [o_0, o_1, o_2, o_3, o_4, .ref p0, o_6, o_7, o_8, o_9, o_10, o_11, o_12, o_13, o_14, o_15, o_16])), (p0, .inr (8, [.ref p1, .int x, p_2, p_3, p_4, p_5]))]) [0, 1] (by decide) rfl
    exact W.iret (v := x) hx hb hr (fun t ht hW => ⟨⟨x, ((fun _ => 0, fun _ => fun _ => 0, fun _ => fun _ => 0, fun i => match i with | _ => x, fun _ => 0, fun _ => fun _ => none) : Su), rfl, ⟨(show (-1) ≤ x.toInt ∧ x.toInt ≤ 400 by omega), (show 0 ≤ (x : Int32).toInt ∧ (x : Int32).toInt ≤ 400 by omega), Or.inr ⟨rfl, by omega, by omega, rfl⟩, trivial⟩, (⟨by rw [ht]; exact hP9, hD9⟩ : Wd D A _ t)⟩, hS.F ht⟩) hS.2.2 dX11_end_26
  · refine lv_if_ne (tgt := 17) hx hb dX11_end_12 (by decide) (fun c_18 => absurd (by decide) c_18) (fun c_18 => ?_)
    refine lv_iconst (v := (-1)) hx hb dX11_end_15 (by decide) ?_
    rw [← hQ]
    have hP9 := hP.sub (ws' := [(o0, .inr (11, [o_0, o_1, o_2, o_3, o_4, .ref p0, o_6, o_7, o_8, o_9, o_10, o_11, o_12, o_13, o_14, o_15, o_16])), (p0, .inr (8, [.ref p1, .int ln, p_2, p_3, p_4, p_5]))]) [0, 1] rfl
    have hD9 := hD.sub (ws' := [(o0, .inr (11, [o_0, o_1, o_2, o_3, o_4, .ref p0, o_6, o_7, o_8, o_9, o_10, o_11, o_12, o_13, o_14, o_15, o_16])), (p0, .inr (8, [.ref p1, .int ln, p_2, p_3, p_4, p_5]))]) [0, 1] (by decide) rfl
    exact W.iret (v := (-1)) hx hb hr (fun t ht hW => ⟨⟨(-1), ((fun _ => 0, fun _ => fun _ => 0, fun _ => fun _ => 0, fun i => match i with | _ => ln, fun _ => 0, fun _ => fun _ => none) : Su), rfl, ⟨(show (-1) ≤ ((-1) : Int32).toInt ∧ ((-1) : Int32).toInt ≤ 400 by decide), (show 0 ≤ (ln : Int32).toInt ∧ (ln : Int32).toInt ≤ 400 by omega), Or.inl ⟨rfl, by omega, rfl⟩, trivial⟩, (⟨by rw [ht]; exact hP9, hD9⟩ : Wd D A _ t)⟩, hS.F ht⟩) hS.2.2 dX11_end_16
set_option maxHeartbeats 4000000 in
set_option maxRecDepth 100000 in
theorem w_row (l : Launch) (D : va_G) (K : Nat → ClassId) (o0 : Nat) (t0 : Nat) (o_1 : Value) (o_2 : Value) (o_3 : Value) (o_4 : Value) (p0 : Nat) (o_6 : Value) (o_7 : Value) (o_8 : Value) (o_9 : Value) (o_10 : Value) (o_11 : Value) (rf : Nat) (rb : Int32) (ato : Int32) (o_15 : Value) (o_16 : Value) (frf : Nat → Int32) (p1 : Nat) (ln : Int32) (p_2 : Value) (p_3 : Value) (p_4 : Value) (p_5 : Value) (fb : Nat → Int32) (k_0 : Value) (t3 : Nat) (k_2 : Value) (k_3 : Value) (k_4 : Value) (k_5 : Value) (k_6 : Value) (k_7 : Value) (k_8 : Value) (k_9 : Value) (f3 : Nat → Int32) (sz : Nat) (zln : 0 ≤ ln.toInt ∧ ln.toInt ≤ 400) : Met l yX11_row wsX11_row ({ frames := 2, cells := 0, slots := 0, locals := 44 }) (va_Pc [.ref o0] (Pre D K [(o0, .inr (11, [.ref t0, o_1, o_2, o_3, o_4, .ref p0, o_6, o_7, o_8, o_9, o_10, o_11, .ref rf, .int rb, .int ato, o_15, o_16])), (rf, .inl (K 0, 5, .inl frf)), (p0, .inr (8, [.ref p1, .int ln, p_2, p_3, p_4, p_5])), (p1, .inl (K 0, 400, .inl fb)), (t0, .inr (9, [k_0, .ref t3, k_2, k_3, k_4, k_5, k_6, k_7, k_8, k_9])), (t3, .inl (K 0, 24, .inl f3))] sz)) (va_Qi (S := Su) (fun (r : Int32) (u : Su) => (0 ≤ (u.2.2.2.1 2).toInt ∧ (u.2.2.2.1 2).toInt ≤ 0) ∧ True) (fun u t => Wd D (va_A [(o0, .inr (11, [.ref t0, o_1, o_2, o_3, o_4, .ref p0, o_6, o_7, o_8, o_9, o_10, o_11, .ref rf, .int rb, .int ato, o_15, o_16])), (rf, .inl (K 0, 5, .inl frf)), (p0, .inr (8, [.ref p1, .int ln, p_2, p_3, p_4, p_5])), (p1, .inl (K 0, 400, .inl fb)), (t0, .inr (9, [k_0, .ref t3, k_2, k_3, k_4, k_5, k_6, k_7, k_8, k_9])), (t3, .inl (K 0, 24, .inl f3))] sz) ((fun u => [(o0, .inr (11, [.ref t0, o_1, o_2, o_3, o_4, .ref p0, o_6, o_7, o_8, o_9, o_10, o_11, .ref rf, .int (u.2.2.2.1 0), .int (u.2.2.2.1 1), o_15, o_16])), (rf, .inl (K 0, 5, .inl (u.2.1 0))), (p0, .inr (8, [.ref p1, .int (u.2.2.2.1 2), p_2, p_3, p_4, p_5])), (p1, .inl (K 0, 400, .inl fb)), (t0, .inr (9, [k_0, .ref t3, k_2, k_3, k_4, k_5, k_6, k_7, k_8, k_9])), (t3, .inl (K 0, 24, .inl (u.2.1 1)))]) u) t) (va_A [(o0, .inr (11, [.ref t0, o_1, o_2, o_3, o_4, .ref p0, o_6, o_7, o_8, o_9, o_10, o_11, .ref rf, .int rb, .int ato, o_15, o_16])), (rf, .inl (K 0, 5, .inl frf)), (p0, .inr (8, [.ref p1, .int ln, p_2, p_3, p_4, p_5])), (p1, .inl (K 0, 400, .inl fb)), (t0, .inr (9, [k_0, .ref t3, k_2, k_3, k_4, k_5, k_6, k_7, k_8, k_9])), (t3, .inl (K 0, 24, .inl f3))] sz)) 0 0 (va_A [(o0, .inr (11, [.ref t0, o_1, o_2, o_3, o_4, .ref p0, o_6, o_7, o_8, o_9, o_10, o_11, .ref rf, .int rb, .int ato, o_15, o_16])), (rf, .inl (K 0, 5, .inl frf)), (p0, .inr (8, [.ref p1, .int ln, p_2, p_3, p_4, p_5])), (p1, .inl (K 0, 400, .inl fb)), (t0, .inr (9, [k_0, .ref t3, k_2, k_3, k_4, k_5, k_6, k_7, k_8, k_9])), (t3, .inl (K 0, 24, .inl f3))] sz) := by
  refine Met.ofW (cc := cX11_row) (maxL := 4) (ret := (some .int)) (by decide) rfl ?_
  intro p e s m args below meth c s₁ B hml hv
  obtain ⟨rfl, hsz, hP, hK, hD0, hN⟩ := hv
  have hx := B.exec
  have hb := B.bytes
  have hr := B.returns
  have hts := atoms_spec (ws := wsX11_row) B.pre
  have hown : s.vm.findClass RX11 = some m.cls := findClass_of_methodNamed B.named
  have hlocks := B.notSynchronized
  subst hsz
  have hD := hD0.self (sz := s.heap.size)
  generalize hAe : va_A [(o0, .inr (11, [.ref t0, o_1, o_2, o_3, o_4, .ref p0, o_6, o_7, o_8, o_9, o_10, o_11, .ref rf, .int rb, .int ato, o_15, o_16])), (rf, .inl (K 0, 5, .inl frf)), (p0, .inr (8, [.ref p1, .int ln, p_2, p_3, p_4, p_5])), (p1, .inl (K 0, 400, .inl fb)), (t0, .inr (9, [k_0, .ref t3, k_2, k_3, k_4, k_5, k_6, k_7, k_8, k_9])), (t3, .inl (K 0, 24, .inl f3))] s.heap.size = A at hD ⊢
  have hA : ∀ q : Nat, s.heap.size ≤ q → A q := fun q h => by rw [← hAe]; exact Or.inr h
  have hS : va_S A s.heap s.heap [] := va_S.rf
  have hP : va_P D vwCl [(o0, .inr (11, [.ref t0, o_1, o_2, o_3, o_4, .ref p0, o_6, o_7, o_8, o_9, o_10, o_11, .ref rf, .int rb, .int ato, o_15, o_16])), (rf, .inl (K 0, 5, .inl frf)), (p0, .inr (8, [.ref p1, .int ln, p_2, p_3, p_4, p_5])), (p1, .inl (K 0, 400, .inl fb)), (t0, .inr (9, [k_0, .ref t3, k_2, k_3, k_4, k_5, k_6, k_7, k_8, k_9])), (t3, .inl (K 0, 24, .inl f3))] s.heap := hP
  have hl := lv_entry [.ref o0] (n := 4) (Nat.le_of_ble_eq_true rfl)
  rw [lg_entry_eq]
  generalize (lg_sl [.ref o0] ++ List.replicate (4 - (lg_sl [.ref o0]).length) Slot.unset).toArray = ls at hl ⊢
  have hl : lv_has ls 4 [(0, .ref o0)] := hl
  have hw8 : ∀ w ∈ wsX80, w ∈ wsX11_row := fun w h => (List.mem_cons_of_mem _ (List.mem_append_left _ (List.mem_append_right _ h)))
  have hw9 : ∀ w ∈ wsX90, w ∈ wsX11_row := fun w h => (List.mem_cons_of_mem _ (List.mem_append_right _ h))
  have hw11 : ∀ w ∈ wsX110, w ∈ wsX11_row := fun w h => (List.mem_cons_of_mem _ (List.mem_append_left _ (List.mem_append_left _ (List.mem_append_right _ h))))
  generalize hQ : MQ below _ _ s _ _ _ = Q
  refine lv_aload_n hx hb dX11_row_0 rfl (lv_at hl 0 rfl) ?_
  refine va_get (ci := 11) (v := .ref p0) (C := RX11) (T := TX11) (N := 17) hx hb hts hw11 hown hK hP 0 rfl rfl 5 (by decide) (hts (.fieldLink RX11 38 "SmokeTune" "tape" "LSmokeTune$Tape;") (List.mem_cons_of_mem _ (List.mem_append_left _ (List.mem_append_left _ (List.mem_append_left _ (List.mem_of_getElem? (i := 0) rfl)))))) (fun _ h9 => h9) rfl dX11_row_1 ?_
  refine va_getN (ci := 8) (v := .int ln) (C := RX8) (T := TX8) (N := 6) hx hb hts hw8 hown hK hP 2 rfl rfl 1 (by decide) (nst_use hN 120 rfl) (fun _ h9 => h9) rfl dX11_row_4 ?_
  refine lv_if_ne (tgt := 17) hx hb dX11_row_7 (by decide) (fun c_445 => ?_) (fun c_445 => ?_)
  · have c_445i := i_ne (x := ln.toInt) (y := 0) rfl rfl c_445
    refine lv_iconst (v := 0) hx hb dX11_row_17 (by decide) ?_
    refine lv_istore_n (lv' := [(1, .int 0), (0, .ref o0)]) hx hb dX11_row_18 rfl hl (by decide) rfl (fun ls hl => ?_)
    refine lv_iconst (v := 0) hx hb dX11_row_19 (by decide) ?_
    refine lv_istore_n (lv' := [(2, .int 0), (1, .int 0), (0, .ref o0)]) hx hb dX11_row_20 rfl hl (by decide) rfl (fun ls hl => ?_)
    have lp_635 : ∀ (nn_ : Nat) (v_579 : Int32) (v_580 : Int32) (f_581 : Nat → Int32) (hv_579 : 0 ≤ v_579.toInt ∧ v_579.toInt ≤ 400) (hn : (401 - v_579.toInt : Int).toNat < nn_) (H : Heap) (locs : List Loc) (hP : va_P D vwCl [(o0, .inr (11, [.ref t0, o_1, o_2, o_3, o_4, .ref p0, o_6, o_7, o_8, o_9, o_10, o_11, .ref rf, .int rb, .int ato, o_15, o_16])), (rf, .inl (K 0, 5, .inl frf)), (p0, .inr (8, [.ref p1, .int ln, p_2, p_3, p_4, p_5])), (p1, .inl (K 0, 400, .inl fb)), (t0, .inr (9, [k_0, .ref t3, k_2, k_3, k_4, k_5, k_6, k_7, k_8, k_9])), (t3, .inl (K 0, 24, .inl f_581))] H) (hD : va_D A [(o0, .inr (11, [.ref t0, o_1, o_2, o_3, o_4, .ref p0, o_6, o_7, o_8, o_9, o_10, o_11, .ref rf, .int rb, .int ato, o_15, o_16])), (rf, .inl (K 0, 5, .inl frf)), (p0, .inr (8, [.ref p1, .int ln, p_2, p_3, p_4, p_5])), (p1, .inl (K 0, 400, .inl fb)), (t0, .inr (9, [k_0, .ref t3, k_2, k_3, k_4, k_5, k_6, k_7, k_8, k_9])), (t3, .inl (K 0, 24, .inl f_581))]) (hS : va_S A s.heap H locs) (ls : Array Slot) (hl : lv_has ls 4 [(2, .int v_579), (1, .int v_580), (0, .ref o0)]), W p l e ({ frames := 2, cells := 0, slots := 0, locals := 44 }) s m (([.ref o0] : List Value).toArray) below meth c H locs 0 0 Q (F0 m 21 ls []) := by
      intro nn_
      induction nn_ with
      | zero =>
        intro v_579 v_580 f_581 hv_579 hn H locs hP hD hS ls hl
        exact absurd hn (Nat.not_lt_zero _)
      | succ nn_ ih_636 =>
        intro v_579 v_580 f_581 hv_579 hn H locs hP hD hS ls hl
        refine lv_iload_n hx hb dX11_row_21 rfl (lv_at hl 0 rfl) ?_
        refine lv_aload_n hx hb dX11_row_22 rfl (lv_at hl 2 rfl) ?_
        refine va_get (ci := 11) (v := .ref p0) (C := RX11) (T := TX11) (N := 17) hx hb hts hw11 hown hK hP 0 rfl rfl 5 (by decide) (hts (.fieldLink RX11 38 "SmokeTune" "tape" "LSmokeTune$Tape;") (List.mem_cons_of_mem _ (List.mem_append_left _ (List.mem_append_left _ (List.mem_append_left _ (List.mem_of_getElem? (i := 0) rfl)))))) (fun _ h9 => h9) rfl dX11_row_23 ?_
        refine va_getN (ci := 8) (v := .int ln) (C := RX8) (T := TX8) (N := 6) hx hb hts hw8 hown hK hP 2 rfl rfl 1 (by decide) (nst_use hN 120 rfl) (fun _ h9 => h9) rfl dX11_row_26 ?_
        refine lv_icmp_ge (tgt := 76) hx hb dX11_row_29 (by decide) (fun c_637 => ?_) (fun c_637 => ?_)
        · have c_637i := i_le (x := ln.toInt) (y := v_579.toInt) rfl rfl c_637
          refine lv_aload_n hx hb dX11_row_76 rfl (lv_at hl 2 rfl) ?_
          refine lv_aload_n hx hb dX11_row_77 rfl (lv_at hl 2 rfl) ?_
          refine va_get (ci := 11) (v := .ref p0) (C := RX11) (T := TX11) (N := 17) hx hb hts hw11 hown hK hP 0 rfl rfl 5 (by decide) (hts (.fieldLink RX11 38 "SmokeTune" "tape" "LSmokeTune$Tape;") (List.mem_cons_of_mem _ (List.mem_append_left _ (List.mem_append_left _ (List.mem_append_left _ (List.mem_of_getElem? (i := 0) rfl)))))) (fun _ h9 => h9) rfl dX11_row_78 ?_
          refine va_getN (ci := 8) (v := .int ln) (C := RX8) (T := TX8) (N := 6) hx hb hts hw8 hown hK hP 2 rfl rfl 1 (by decide) (nst_use hN 120 rfl) (fun _ h9 => h9) rfl dX11_row_81 ?_
          refine lv_iload_n hx hb dX11_row_84 rfl (lv_at hl 1 rfl) ?_
          refine lv_isub hx hb dX11_row_85 ?_
          refine lv_topi (fun x_638 ex_638 => ?_)
          refine va_put (ci := 11) (v := .int x_638) (ty := .int) (C := RX11) (T := TX11) (N := 17) hx hb hts hw11 tyX11 tyX11_ok nmX11 hown hK hP hD hS 0 rfl rfl 14 (by decide) (hts (.fieldLink RX11 87 "SmokeTune" "ashTold" "I") (List.mem_cons_of_mem _ (List.mem_append_left _ (List.mem_append_left _ (List.mem_append_left _ (List.mem_of_getElem? (i := 2) rfl)))))) (fun _ h9 => h9) rfl (by decide +kernel) (by first | rfl | decide) (by first | rfl | decide) (Nat.le_of_ble_eq_true rfl) dX11_row_86 (fun H locs hP hD hS => ?_)
          have hP : va_P D vwCl [(o0, .inr (11, [.ref t0, o_1, o_2, o_3, o_4, .ref p0, o_6, o_7, o_8, o_9, o_10, o_11, .ref rf, .int rb, .int x_638, o_15, o_16])), (rf, .inl (K 0, 5, .inl frf)), (p0, .inr (8, [.ref p1, .int ln, p_2, p_3, p_4, p_5])), (p1, .inl (K 0, 400, .inl fb)), (t0, .inr (9, [k_0, .ref t3, k_2, k_3, k_4, k_5, k_6, k_7, k_8, k_9])), (t3, .inl (K 0, 24, .inl f_581))] H := hP
          have hD : va_D A [(o0, .inr (11, [.ref t0, o_1, o_2, o_3, o_4, .ref p0, o_6, o_7, o_8, o_9, o_10, o_11, .ref rf, .int rb, .int x_638, o_15, o_16])), (rf, .inl (K 0, 5, .inl frf)), (p0, .inr (8, [.ref p1, .int ln, p_2, p_3, p_4, p_5])), (p1, .inl (K 0, 400, .inl fb)), (t0, .inr (9, [k_0, .ref t3, k_2, k_3, k_4, k_5, k_6, k_7, k_8, k_9])), (t3, .inl (K 0, 24, .inl f_581))] := hD
          refine lv_aload_n hx hb dX11_row_89 rfl (lv_at hl 2 rfl) ?_
          refine va_get (ci := 11) (v := .ref p0) (C := RX11) (T := TX11) (N := 17) hx hb hts hw11 hown hK hP 0 rfl rfl 5 (by decide) (hts (.fieldLink RX11 38 "SmokeTune" "tape" "LSmokeTune$Tape;") (List.mem_cons_of_mem _ (List.mem_append_left _ (List.mem_append_left _ (List.mem_append_left _ (List.mem_of_getElem? (i := 0) rfl)))))) (fun _ h9 => h9) rfl dX11_row_90 ?_
          refine lv_iconst (v := 0) hx hb dX11_row_93 (by decide) ?_
          refine va_putN (ci := 8) (v := .int 0) (ty := .int) (C := RX8) (T := TX8) (N := 6) hx hb hts hw8 tyX8 tyX8_ok nmX8 hown hK hP hD hS 2 rfl rfl 1 (by decide) (nst_use hN 120 rfl) (fun _ h9 => h9) rfl (by decide +kernel) (by first | rfl | decide) (by first | rfl | decide) (Nat.le_of_ble_eq_true rfl) dX11_row_94 (fun H locs hP hD hS => ?_)
          have hP : va_P D vwCl [(o0, .inr (11, [.ref t0, o_1, o_2, o_3, o_4, .ref p0, o_6, o_7, o_8, o_9, o_10, o_11, .ref rf, .int rb, .int x_638, o_15, o_16])), (rf, .inl (K 0, 5, .inl frf)), (p0, .inr (8, [.ref p1, .int 0, p_2, p_3, p_4, p_5])), (p1, .inl (K 0, 400, .inl fb)), (t0, .inr (9, [k_0, .ref t3, k_2, k_3, k_4, k_5, k_6, k_7, k_8, k_9])), (t3, .inl (K 0, 24, .inl f_581))] H := hP
          have hD : va_D A [(o0, .inr (11, [.ref t0, o_1, o_2, o_3, o_4, .ref p0, o_6, o_7, o_8, o_9, o_10, o_11, .ref rf, .int rb, .int x_638, o_15, o_16])), (rf, .inl (K 0, 5, .inl frf)), (p0, .inr (8, [.ref p1, .int 0, p_2, p_3, p_4, p_5])), (p1, .inl (K 0, 400, .inl fb)), (t0, .inr (9, [k_0, .ref t3, k_2, k_3, k_4, k_5, k_6, k_7, k_8, k_9])), (t3, .inl (K 0, 24, .inl f_581))] := hD
          refine lv_aload_n hx hb dX11_row_97 rfl (lv_at hl 2 rfl) ?_
          refine lv_iload_n hx hb dX11_row_98 rfl (lv_at hl 1 rfl) ?_
          refine kci (S := Su) (wr := [(rf, .inl (K 0, 5, .inl frf)), (p0, .inr (8, [.ref p1, .int 0, p_2, p_3, p_4, p_5])), (p1, .inl (K 0, 400, .inl fb)), (t0, .inr (9, [k_0, .ref t3, k_2, k_3, k_4, k_5, k_6, k_7, k_8, k_9])), (t3, .inl (K 0, 24, .inl f_581))]) (va_runV (As := [.int v_580]) (rest := []) ⟨hx, hb, hml, hown, hts⟩ (w_accept l D K o0 v_580 (.ref t0) o_1 o_2 o_3 o_4 (.ref p0) o_6 o_7 o_8 o_9 o_10 o_11 (.ref rf) rb (.int x_638) o_15 o_16 H.size) (cwV 1 hts gX11_row_X11_accept rfl rfl rfl (by decide +kernel) ⟨Nat.le_of_ble_eq_true rfl, Nat.le_of_ble_eq_true rfl⟩) (mkV hK hN (hP.sub [0] rfl) (hD.sub [0] (by decide) rfl) (ci := 11) (q0 := 0) rfl rfl) rfl rfl hl.1 rfl (lv_room (Nat.le_of_ble_eq_true rfl)) dX11_row_99 ⟨Nat.le_of_ble_eq_true rfl, Nat.le_of_ble_eq_true rfl⟩) hP hD hS hA [0] [1, 2, 3, 4, 5] rfl rfl (by decide) (by decide) (fun r_639 u_640 H locs hw hP hD hS => ?_)
          have hP : va_P D vwCl [(rf, .inl (K 0, 5, .inl frf)), (p0, .inr (8, [.ref p1, .int 0, p_2, p_3, p_4, p_5])), (p1, .inl (K 0, 400, .inl fb)), (t0, .inr (9, [k_0, .ref t3, k_2, k_3, k_4, k_5, k_6, k_7, k_8, k_9])), (t3, .inl (K 0, 24, .inl f_581)), (o0, .inr (11, [.ref t0, o_1, o_2, o_3, o_4, .ref p0, o_6, o_7, o_8, o_9, o_10, o_11, .ref rf, .int 0, .int x_638, o_15, o_16]))] H := hP
          have hD : va_D A [(rf, .inl (K 0, 5, .inl frf)), (p0, .inr (8, [.ref p1, .int 0, p_2, p_3, p_4, p_5])), (p1, .inl (K 0, 400, .inl fb)), (t0, .inr (9, [k_0, .ref t3, k_2, k_3, k_4, k_5, k_6, k_7, k_8, k_9])), (t3, .inl (K 0, 24, .inl f_581)), (o0, .inr (11, [.ref t0, o_1, o_2, o_3, o_4, .ref p0, o_6, o_7, o_8, o_9, o_10, o_11, .ref rf, .int 0, .int x_638, o_15, o_16]))] := hD
          obtain ⟨hw, -⟩ := hw
          have er_r_639 := hw
          have hr_r_639 : r_639.toInt = v_580.toInt := (congrArg Int32.toInt er_r_639).trans rfl
          rw [← hQ]
          have hP9 := hP.sub (ws' := [(o0, .inr (11, [.ref t0, o_1, o_2, o_3, o_4, .ref p0, o_6, o_7, o_8, o_9, o_10, o_11, .ref rf, .int 0, .int x_638, o_15, o_16])), (rf, .inl (K 0, 5, .inl frf)), (p0, .inr (8, [.ref p1, .int 0, p_2, p_3, p_4, p_5])), (p1, .inl (K 0, 400, .inl fb)), (t0, .inr (9, [k_0, .ref t3, k_2, k_3, k_4, k_5, k_6, k_7, k_8, k_9])), (t3, .inl (K 0, 24, .inl f_581))]) [5, 0, 1, 2, 3, 4] rfl
          have hD9 := hD.sub (ws' := [(o0, .inr (11, [.ref t0, o_1, o_2, o_3, o_4, .ref p0, o_6, o_7, o_8, o_9, o_10, o_11, .ref rf, .int 0, .int x_638, o_15, o_16])), (rf, .inl (K 0, 5, .inl frf)), (p0, .inr (8, [.ref p1, .int 0, p_2, p_3, p_4, p_5])), (p1, .inl (K 0, 400, .inl fb)), (t0, .inr (9, [k_0, .ref t3, k_2, k_3, k_4, k_5, k_6, k_7, k_8, k_9])), (t3, .inl (K 0, 24, .inl f_581))]) [5, 0, 1, 2, 3, 4] (by decide) rfl
          exact W.iret (v := r_639) hx hb hr (fun t ht hW => ⟨⟨r_639, ((fun _ => 0, fun i => match i with | 0 => frf | _ => f_581, fun _ => fun _ => 0, fun i => match i with | 0 => 0 | 1 => x_638 | _ => 0, fun _ => 0, fun _ => fun _ => none) : Su), rfl, ⟨(show 0 ≤ (0 : Int32).toInt ∧ (0 : Int32).toInt ≤ 0 by decide), trivial⟩, (⟨by rw [ht]; exact hP9, hD9⟩ : Wd D A _ t)⟩, hS.F ht⟩) hS.2.2 dX11_row_102
        · have c_637i := i_nle (x := ln.toInt) (y := v_579.toInt) rfl rfl c_637
          refine lv_aload_n hx hb dX11_row_32 rfl (lv_at hl 2 rfl) ?_
          refine va_get (ci := 11) (v := .ref p0) (C := RX11) (T := TX11) (N := 17) hx hb hts hw11 hown hK hP 0 rfl rfl 5 (by decide) (hts (.fieldLink RX11 38 "SmokeTune" "tape" "LSmokeTune$Tape;") (List.mem_cons_of_mem _ (List.mem_append_left _ (List.mem_append_left _ (List.mem_append_left _ (List.mem_of_getElem? (i := 0) rfl)))))) (fun _ h9 => h9) rfl dX11_row_33 ?_
          refine lv_iload_n hx hb dX11_row_36 rfl (lv_at hl 0 rfl) ?_
          refine pci (va_runVN (As := [.int v_579]) (rest := []) ⟨hx, hb, hml, hown, hts⟩ (w_byteAt l D K p0 v_579 p1 ln p_2 p_3 p_4 p_5 fb H.size) ⟨va_cnB 1 hts gX11_row_X8_byteAt_n170 rfl rfl rfl (nst_at hN 30 rfl) (hts (.initialized RX8) (List.mem_cons_of_mem _ (List.mem_append_left _ (List.mem_append_left _ (List.mem_append_left _ (List.mem_of_getElem? (i := 14) rfl)))))) (by decide +kernel) ⟨Nat.le_of_ble_eq_true rfl, Nat.le_of_ble_eq_true rfl⟩, (hts (.instanceMethod yX8_byteAt) (List.mem_cons_of_mem _ (List.mem_append_left _ (List.mem_append_left _ (List.mem_append_left _ (List.mem_of_getElem? (i := 13) rfl)))))), (hts (.selects RX8 yX8_byteAt yX8_byteAt) (List.mem_cons_of_mem _ (List.mem_append_left _ (List.mem_append_left _ (List.mem_append_left _ (List.mem_of_getElem? (i := 15) rfl))))))⟩ (mkV hK hN (hP.sub [2, 3] rfl) (hD.sub [2, 3] (by decide) rfl) (ci := 8) (q0 := 0) rfl rfl) rfl rfl hl.1 rfl (lv_room (Nat.le_of_ble_eq_true rfl)) dX11_row_37 ⟨Nat.le_of_ble_eq_true rfl, Nat.le_of_ble_eq_true rfl⟩) (fun r_641 hw => ?_)
          refine lv_istore_n (lv' := [(3, .int r_641), (2, .int v_579), (1, .int v_580), (0, .ref o0)]) hx hb dX11_row_40 rfl hl (by decide) rfl (fun ls hl => ?_)
          refine lv_iload_n hx hb dX11_row_41 rfl (lv_at hl 1 rfl) ?_
          refine lv_bipush (v := 24) hx hb dX11_row_42 (by decide) ?_
          have j_654 : ∀ (v_651 : Int32) (f_652 : Nat → Int32) (H : Heap) (locs : List Loc) (hP : va_P D vwCl [(o0, .inr (11, [.ref t0, o_1, o_2, o_3, o_4, .ref p0, o_6, o_7, o_8, o_9, o_10, o_11, .ref rf, .int rb, .int ato, o_15, o_16])), (rf, .inl (K 0, 5, .inl frf)), (p0, .inr (8, [.ref p1, .int ln, p_2, p_3, p_4, p_5])), (p1, .inl (K 0, 400, .inl fb)), (t0, .inr (9, [k_0, .ref t3, k_2, k_3, k_4, k_5, k_6, k_7, k_8, k_9])), (t3, .inl (K 0, 24, .inl f_652))] H) (hD : va_D A [(o0, .inr (11, [.ref t0, o_1, o_2, o_3, o_4, .ref p0, o_6, o_7, o_8, o_9, o_10, o_11, .ref rf, .int rb, .int ato, o_15, o_16])), (rf, .inl (K 0, 5, .inl frf)), (p0, .inr (8, [.ref p1, .int ln, p_2, p_3, p_4, p_5])), (p1, .inl (K 0, 400, .inl fb)), (t0, .inr (9, [k_0, .ref t3, k_2, k_3, k_4, k_5, k_6, k_7, k_8, k_9])), (t3, .inl (K 0, 24, .inl f_652))]) (hS : va_S A s.heap H locs) (ls : Array Slot) (hl : lv_has ls 4 [(2, .int v_579), (1, .int v_651), (0, .ref o0)]), W p l e ({ frames := 2, cells := 0, slots := 0, locals := 44 }) s m (([.ref o0] : List Value).toArray) below meth c H locs 0 0 Q (F0 m 70 ls []) := by
            intro v_651 f_652 H locs hP hD hS ls hl
            obtain ⟨x_655, ex_655⟩ : ∃ y : Int32, y = v_579 + Int32.ofInt 1 := ⟨_, rfl⟩
            have hx_655 : x_655.toInt = (v_579.toInt + 1) := by rw [ex_655]; exact i_add rfl (show (Int32.ofInt 1).toInt = 1 from rfl) (by omega)
            refine lv_iinc (v := x_655) (lv' := [(2, .int x_655), (1, .int v_651), (0, .ref o0)]) hx hb dX11_row_70 hl (k := 0) rfl (by rw [ex_655]) (by decide) rfl (fun ls hl => ?_)
            refine lv_goto (tgt := 21) hx hb dX11_row_73 (by decide) ?_
            exact ih_636 x_655 v_651 f_652 (by rw [hx_655]; omega) (by omega) _ _ hP hD hS ls (lv_sub hl [0, 1, 2] rfl)
          refine lv_icmp_ge (tgt := 70) hx hb dX11_row_44 (by decide) (fun c_656 => ?_) (fun c_656 => ?_)
          · have c_656i := i_le (x := 24) (y := v_579.toInt) rfl rfl c_656
            exact j_654 v_580 f_581  _ _ hP hD hS ls (lv_sub hl [1, 2, 3] rfl)
          · have c_656i := i_nle (x := 24) (y := v_579.toInt) rfl rfl c_656
            refine lv_iload_n hx hb dX11_row_47 rfl (lv_at hl 0 rfl) ?_
            refine lv_iconst (v := 0) hx hb dX11_row_48 (by decide) ?_
            refine lv_bipush (v := 127) hx hb dX11_row_49 (by decide) ?_
            refine pci (va_runS (As := [.int r_641, .int 0, .int 127]) (rest := []) ⟨hx, hb, hml, hown, hts⟩ (w_within l D K r_641.toInt 0 127 r_641 0 127 H.size rfl (show (0 : Int32).toInt = 0 from rfl) (show (127 : Int32).toInt = 127 from rfl)) (va_cwS 3 hts gX11_row_X11_within rfl rfl rfl (by decide +kernel) ⟨Nat.le_of_ble_eq_true rfl, Nat.le_of_ble_eq_true rfl⟩) (mkS hK hN (va_P.nil) (va_D.nil (A := fun _ => True))) rfl rfl hl.1 rfl (lv_room (Nat.le_of_ble_eq_true rfl)) dX11_row_51 ⟨Nat.le_of_ble_eq_true rfl, Nat.le_of_ble_eq_true rfl⟩) (fun r_657 hw => ?_)
            obtain ⟨hw, -⟩ := hw
            rcases hw with ⟨rfl, h_658, h_659⟩ | ⟨rfl, h_660⟩
            · refine lv_if_eq (tgt := 70) hx hb dX11_row_54 (by decide) (fun c_661 => absurd c_661 (by decide)) (fun c_661 => ?_)
              refine lv_aload_n hx hb dX11_row_57 rfl (lv_at hl 3 rfl) ?_
              refine va_get (ci := 11) (v := .ref t0) (C := RX11) (T := TX11) (N := 17) hx hb hts hw11 hown hK hP 0 rfl rfl 0 (by decide) (hts (.fieldLink RX11 10 "SmokeTune" "town" "LSmokeTune$Town;") (List.mem_cons_of_mem _ (List.mem_append_left _ (List.mem_append_left _ (List.mem_append_left _ (List.mem_of_getElem? (i := 1) rfl)))))) (fun _ h9 => h9) rfl dX11_row_58 ?_
              refine va_getN (ci := 9) (v := .ref t3) (C := RX9) (T := TX9) (N := 10) hx hb hts hw9 hown hK hP 4 rfl rfl 1 (by decide) (nst_use hN 98 rfl) (fun _ h9 => h9) rfl dX11_row_61 ?_
              refine lv_iload_n hx hb dX11_row_64 rfl (lv_at hl 1 rfl) ?_
              refine lv_iload_n hx hb dX11_row_65 rfl (lv_at hl 0 rfl) ?_
              refine va_iast hx hb hK hP hD hS 5 0 rfl rfl (i_in rfl (by omega)) dX11_row_66 (fun H locs hP hD hS => ?_)
              generalize hf_662 : (upd f_581 (v_579 : Int32).toNatClampNeg r_641) = f_662 at hP hD
              have hP : va_P D vwCl [(o0, .inr (11, [.ref t0, o_1, o_2, o_3, o_4, .ref p0, o_6, o_7, o_8, o_9, o_10, o_11, .ref rf, .int rb, .int ato, o_15, o_16])), (rf, .inl (K 0, 5, .inl frf)), (p0, .inr (8, [.ref p1, .int ln, p_2, p_3, p_4, p_5])), (p1, .inl (K 0, 400, .inl fb)), (t0, .inr (9, [k_0, .ref t3, k_2, k_3, k_4, k_5, k_6, k_7, k_8, k_9])), (t3, .inl (K 0, 24, .inl f_662))] H := hP
              have hD : va_D A [(o0, .inr (11, [.ref t0, o_1, o_2, o_3, o_4, .ref p0, o_6, o_7, o_8, o_9, o_10, o_11, .ref rf, .int rb, .int ato, o_15, o_16])), (rf, .inl (K 0, 5, .inl frf)), (p0, .inr (8, [.ref p1, .int ln, p_2, p_3, p_4, p_5])), (p1, .inl (K 0, 400, .inl fb)), (t0, .inr (9, [k_0, .ref t3, k_2, k_3, k_4, k_5, k_6, k_7, k_8, k_9])), (t3, .inl (K 0, 24, .inl f_662))] := hD
              obtain ⟨x_663, ex_663⟩ : ∃ y : Int32, y = v_580 + Int32.ofInt 1 := ⟨_, rfl⟩
              refine lv_iinc (v := x_663) (lv' := [(1, .int x_663), (3, .int r_641), (2, .int v_579), (0, .ref o0)]) hx hb dX11_row_67 hl (k := 2) rfl (by rw [ex_663]) (by decide) rfl (fun ls hl => ?_)
              exact j_654 x_663 f_662  _ _ hP hD hS ls (lv_sub hl [2, 0, 3] rfl)
            · refine lv_if_eq (tgt := 70) hx hb dX11_row_54 (by decide) (fun c_664 => ?_) (fun c_664 => absurd (by decide) c_664)
              exact j_654 v_580 f_581  _ _ hP hD hS ls (lv_sub hl [1, 2, 3] rfl)
    exact lp_635 ((401 - (0 : Int32).toInt : Int).toNat + 1) 0 0 f3 (by decide) (Nat.lt_succ_self _) _ _ hP hD hS ls (lv_sub hl [0, 1, 2] rfl)
  · have c_445i := i_eq (x := ln.toInt) (y := 0) rfl rfl c_445
    refine lv_aload_n hx hb dX11_row_10 rfl (lv_at hl 0 rfl) ?_
    refine lv_bipush (v := (-6)) hx hb dX11_row_11 (by decide) ?_
    refine kci (S := Su) (wr := [(p0, .inr (8, [.ref p1, .int ln, p_2, p_3, p_4, p_5])), (p1, .inl (K 0, 400, .inl fb)), (t0, .inr (9, [k_0, .ref t3, k_2, k_3, k_4, k_5, k_6, k_7, k_8, k_9])), (t3, .inl (K 0, 24, .inl f3))]) (va_runV (As := [.int (-6)]) (rest := []) ⟨hx, hb, hml, hown, hts⟩ (w_refuse l D K o0 (-6) (.ref t0) o_1 o_2 o_3 o_4 (.ref p0) o_6 o_7 o_8 o_9 o_10 o_11 rf rb (.int ato) o_15 o_16 frf s.heap.size) (cwV 1 hts gX11_row_X11_refuse rfl rfl rfl (by decide +kernel) ⟨Nat.le_of_ble_eq_true rfl, Nat.le_of_ble_eq_true rfl⟩) (mkV hK hN (hP.sub [0, 1] rfl) (hD.sub [0, 1] (by decide) rfl) (ci := 11) (q0 := 0) rfl rfl) rfl rfl hl.1 rfl (lv_room (Nat.le_of_ble_eq_true rfl)) dX11_row_13 ⟨Nat.le_of_ble_eq_true rfl, Nat.le_of_ble_eq_true rfl⟩) hP hD hS hA [0, 1] [2, 3, 4, 5] rfl rfl (by decide) (by decide) (fun r_665 u_666 H locs hw hP hD hS => ?_)
    have hP : va_P D vwCl [(p0, .inr (8, [.ref p1, .int ln, p_2, p_3, p_4, p_5])), (p1, .inl (K 0, 400, .inl fb)), (t0, .inr (9, [k_0, .ref t3, k_2, k_3, k_4, k_5, k_6, k_7, k_8, k_9])), (t3, .inl (K 0, 24, .inl f3)), (o0, .inr (11, [.ref t0, o_1, o_2, o_3, o_4, .ref p0, o_6, o_7, o_8, o_9, o_10, o_11, .ref rf, .int (u_666.2.2.2.1 0), .int ato, o_15, o_16])), (rf, .inl (K 0, 5, .inl (u_666.2.1 0)))] H := hP
    have hD : va_D A [(p0, .inr (8, [.ref p1, .int ln, p_2, p_3, p_4, p_5])), (p1, .inl (K 0, 400, .inl fb)), (t0, .inr (9, [k_0, .ref t3, k_2, k_3, k_4, k_5, k_6, k_7, k_8, k_9])), (t3, .inl (K 0, 24, .inl f3)), (o0, .inr (11, [.ref t0, o_1, o_2, o_3, o_4, .ref p0, o_6, o_7, o_8, o_9, o_10, o_11, .ref rf, .int (u_666.2.2.2.1 0), .int ato, o_15, o_16])), (rf, .inl (K 0, 5, .inl (u_666.2.1 0)))] := hD
    rw [← hQ]
    have hP9 := hP.sub (ws' := [(o0, .inr (11, [.ref t0, o_1, o_2, o_3, o_4, .ref p0, o_6, o_7, o_8, o_9, o_10, o_11, .ref rf, .int (u_666.2.2.2.1 0), .int ato, o_15, o_16])), (rf, .inl (K 0, 5, .inl (u_666.2.1 0))), (p0, .inr (8, [.ref p1, .int ln, p_2, p_3, p_4, p_5])), (p1, .inl (K 0, 400, .inl fb)), (t0, .inr (9, [k_0, .ref t3, k_2, k_3, k_4, k_5, k_6, k_7, k_8, k_9])), (t3, .inl (K 0, 24, .inl f3))]) [4, 5, 0, 1, 2, 3] rfl
    have hD9 := hD.sub (ws' := [(o0, .inr (11, [.ref t0, o_1, o_2, o_3, o_4, .ref p0, o_6, o_7, o_8, o_9, o_10, o_11, .ref rf, .int (u_666.2.2.2.1 0), .int ato, o_15, o_16])), (rf, .inl (K 0, 5, .inl (u_666.2.1 0))), (p0, .inr (8, [.ref p1, .int ln, p_2, p_3, p_4, p_5])), (p1, .inl (K 0, 400, .inl fb)), (t0, .inr (9, [k_0, .ref t3, k_2, k_3, k_4, k_5, k_6, k_7, k_8, k_9])), (t3, .inl (K 0, 24, .inl f3))]) [4, 5, 0, 1, 2, 3] (by decide) rfl
    exact W.iret (v := r_665) hx hb hr (fun t ht hW => ⟨⟨r_665, ((fun _ => 0, fun i => match i with | 0 => (u_666.2.1 0) | _ => f3, fun _ => fun _ => 0, fun i => match i with | 0 => (u_666.2.2.2.1 0) | 1 => ato | _ => ln, fun _ => 0, fun _ => fun _ => none) : Su), rfl, ⟨(show 0 ≤ (ln : Int32).toInt ∧ (ln : Int32).toInt ≤ 0 by omega), trivial⟩, (⟨by rw [ht]; exact hP9, hD9⟩ : Wd D A _ t)⟩, hS.F ht⟩) hS.2.2 dX11_row_16
set_option maxHeartbeats 4000000 in
set_option maxRecDepth 100000 in
theorem w_ash (l : Launch) (D : va_G) (K : Nat → ClassId) (o0 : Nat) (o_0 : Value) (o_1 : Value) (o_2 : Value) (o_3 : Value) (o_4 : Value) (o_5 : Value) (o_6 : Value) (o_7 : Value) (o_8 : Value) (o_9 : Value) (o_10 : Value) (o_11 : Value) (o_12 : Value) (o_13 : Value) (ato : Int32) (o_15 : Value) (o_16 : Value) (sz : Nat) : Met l yX11_ash wsX11_ash ({ frames := 0, cells := 0, slots := 0, locals := 0 }) (va_Pc [.ref o0] (Pre D K [(o0, .inr (11, [o_0, o_1, o_2, o_3, o_4, o_5, o_6, o_7, o_8, o_9, o_10, o_11, o_12, o_13, .int ato, o_15, o_16]))] sz)) (vp_Si (fun r : Int32 => True)) 0 0 (fun _ => False) := by
  refine Met.ofW (cc := cX11_ash) (maxL := 1) (ret := (some .int)) (by decide) rfl ?_
  intro p e s m args below meth c s₁ B hml hv
  obtain ⟨rfl, hsz, hP, hK, hD0, hN⟩ := hv
  have hx := B.exec
  have hb := B.bytes
  have hr := B.returns
  have hts := atoms_spec (ws := wsX11_ash) B.pre
  have hown : s.vm.findClass RX11 = some m.cls := findClass_of_methodNamed B.named
  have hlocks := B.notSynchronized
  subst hsz
  have hD := hD0
  have hP : va_P D vwCl [(o0, .inr (11, [o_0, o_1, o_2, o_3, o_4, o_5, o_6, o_7, o_8, o_9, o_10, o_11, o_12, o_13, .int ato, o_15, o_16]))] s.heap := hP
  have hl := lv_entry [.ref o0] (n := 1) (Nat.le_of_ble_eq_true rfl)
  rw [lg_entry_eq]
  generalize (lg_sl [.ref o0] ++ List.replicate (1 - (lg_sl [.ref o0]).length) Slot.unset).toArray = ls at hl ⊢
  have hl : lv_has ls 1 [(0, .ref o0)] := hl
  have hw11 : ∀ w ∈ wsX110, w ∈ wsX11_ash := fun w h => (List.mem_cons_of_mem _ (List.mem_append_right _ h))
  generalize hQ : MQ below _ _ s _ _ _ = Q
  refine lv_aload_n hx hb dX11_ash_0 rfl (lv_at hl 0 rfl) ?_
  refine va_get (ci := 11) (v := .int ato) (C := RX11) (T := TX11) (N := 17) hx hb hts hw11 hown hK hP 0 rfl rfl 14 (by decide) (hts (.fieldLink RX11 87 "SmokeTune" "ashTold" "I") (List.mem_cons_of_mem _ (List.mem_append_left _ (List.mem_of_getElem? (i := 0) rfl)))) (fun _ h9 => h9) rfl dX11_ash_1 ?_
  rw [← hQ]
  exact W.iret (v := ato) hx hb hr (fun t ht hW => ⟨_, rfl, trivial, ht⟩) (fun q hq => by cases hq) dX11_ash_4
