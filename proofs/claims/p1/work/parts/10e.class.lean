theorem dX11_stoke_0 : decode cX11_stoke 0 = .ok (.aload_n 0, 1) := by decide +kernel
theorem dX11_stoke_1 : decode cX11_stoke 1 = .ok (.getfield 61, 3) := by decide +kernel
theorem dX11_stoke_4 : decode cX11_stoke 4 = .ok (.aload_n 0, 1) := by decide +kernel
theorem dX11_stoke_5 : decode cX11_stoke 5 = .ok (.getfield 10, 3) := by decide +kernel
theorem dX11_stoke_8 : decode cX11_stoke 8 = .ok (.invokevirtual 221, 3) := by decide +kernel
theorem dX11_stoke_11 : decode cX11_stoke 11 = .ok (.aload_n 0, 1) := by decide +kernel
theorem dX11_stoke_12 : decode cX11_stoke 12 = .ok (.iconst 0, 1) := by decide +kernel
theorem dX11_stoke_13 : decode cX11_stoke 13 = .ok (.aload_n 0, 1) := by decide +kernel
theorem dX11_stoke_14 : decode cX11_stoke 14 = .ok (.getfield 50, 3) := by decide +kernel
theorem dX11_stoke_17 : decode cX11_stoke 17 = .ok (.aload_n 0, 1) := by decide +kernel
theorem dX11_stoke_18 : decode cX11_stoke 18 = .ok (.getfield 10, 3) := by decide +kernel
theorem dX11_stoke_21 : decode cX11_stoke 21 = .ok (.iload_n 1, 1) := by decide +kernel
theorem dX11_stoke_22 : decode cX11_stoke 22 = .ok (.invokevirtual 225, 3) := by decide +kernel
theorem dX11_stoke_25 : decode cX11_stoke 25 = .ok (.invokevirtual 229, 3) := by decide +kernel
theorem dX11_stoke_28 : decode cX11_stoke 28 = .ok (.ireturn, 1) := by decide +kernel
theorem dX11_damp_0 : decode cX11_damp 0 = .ok (.aload_n 0, 1) := by decide +kernel
theorem dX11_damp_1 : decode cX11_damp 1 = .ok (.getfield 61, 3) := by decide +kernel
theorem dX11_damp_4 : decode cX11_damp 4 = .ok (.aload_n 0, 1) := by decide +kernel
theorem dX11_damp_5 : decode cX11_damp 5 = .ok (.getfield 10, 3) := by decide +kernel
theorem dX11_damp_8 : decode cX11_damp 8 = .ok (.invokevirtual 221, 3) := by decide +kernel
theorem dX11_damp_11 : decode cX11_damp 11 = .ok (.aload_n 0, 1) := by decide +kernel
theorem dX11_damp_12 : decode cX11_damp 12 = .ok (.iconst 1, 1) := by decide +kernel
theorem dX11_damp_13 : decode cX11_damp 13 = .ok (.aload_n 0, 1) := by decide +kernel
theorem dX11_damp_14 : decode cX11_damp 14 = .ok (.getfield 50, 3) := by decide +kernel
theorem dX11_damp_17 : decode cX11_damp 17 = .ok (.aload_n 0, 1) := by decide +kernel
theorem dX11_damp_18 : decode cX11_damp 18 = .ok (.getfield 10, 3) := by decide +kernel
theorem dX11_damp_21 : decode cX11_damp 21 = .ok (.iload_n 1, 1) := by decide +kernel
theorem dX11_damp_22 : decode cX11_damp 22 = .ok (.iload_n 2, 1) := by decide +kernel
theorem dX11_damp_23 : decode cX11_damp 23 = .ok (.invokevirtual 232, 3) := by decide +kernel
theorem dX11_damp_26 : decode cX11_damp 26 = .ok (.invokevirtual 229, 3) := by decide +kernel
theorem dX11_damp_29 : decode cX11_damp 29 = .ok (.ireturn, 1) := by decide +kernel
theorem dX11_buy_0 : decode cX11_buy 0 = .ok (.aload_n 0, 1) := by decide +kernel
theorem dX11_buy_1 : decode cX11_buy 1 = .ok (.getfield 61, 3) := by decide +kernel
theorem dX11_buy_4 : decode cX11_buy 4 = .ok (.aload_n 0, 1) := by decide +kernel
theorem dX11_buy_5 : decode cX11_buy 5 = .ok (.getfield 10, 3) := by decide +kernel
theorem dX11_buy_8 : decode cX11_buy 8 = .ok (.invokevirtual 221, 3) := by decide +kernel
theorem dX11_buy_11 : decode cX11_buy 11 = .ok (.aload_n 0, 1) := by decide +kernel
theorem dX11_buy_12 : decode cX11_buy 12 = .ok (.iconst 2, 1) := by decide +kernel
theorem dX11_buy_13 : decode cX11_buy 13 = .ok (.aload_n 0, 1) := by decide +kernel
theorem dX11_buy_14 : decode cX11_buy 14 = .ok (.getfield 50, 3) := by decide +kernel
theorem dX11_buy_17 : decode cX11_buy 17 = .ok (.aload_n 0, 1) := by decide +kernel
theorem dX11_buy_18 : decode cX11_buy 18 = .ok (.getfield 10, 3) := by decide +kernel
theorem dX11_buy_21 : decode cX11_buy 21 = .ok (.iload_n 1, 1) := by decide +kernel
theorem dX11_buy_22 : decode cX11_buy 22 = .ok (.iload_n 2, 1) := by decide +kernel
theorem dX11_buy_23 : decode cX11_buy 23 = .ok (.invokevirtual 236, 3) := by decide +kernel
theorem dX11_buy_26 : decode cX11_buy 26 = .ok (.invokevirtual 229, 3) := by decide +kernel
theorem dX11_buy_29 : decode cX11_buy 29 = .ok (.ireturn, 1) := by decide +kernel
theorem dX11_pass_0 : decode cX11_pass 0 = .ok (.aload_n 0, 1) := by decide +kernel
theorem dX11_pass_1 : decode cX11_pass 1 = .ok (.getfield 61, 3) := by decide +kernel
theorem dX11_pass_4 : decode cX11_pass 4 = .ok (.aload_n 0, 1) := by decide +kernel
theorem dX11_pass_5 : decode cX11_pass 5 = .ok (.getfield 10, 3) := by decide +kernel
theorem dX11_pass_8 : decode cX11_pass 8 = .ok (.invokevirtual 221, 3) := by decide +kernel
theorem dX11_pass_11 : decode cX11_pass 11 = .ok (.aload_n 0, 1) := by decide +kernel
theorem dX11_pass_12 : decode cX11_pass 12 = .ok (.iconst 3, 1) := by decide +kernel
theorem dX11_pass_13 : decode cX11_pass 13 = .ok (.aload_n 0, 1) := by decide +kernel
theorem dX11_pass_14 : decode cX11_pass 14 = .ok (.getfield 50, 3) := by decide +kernel
theorem dX11_pass_17 : decode cX11_pass 17 = .ok (.aload_n 0, 1) := by decide +kernel
theorem dX11_pass_18 : decode cX11_pass 18 = .ok (.getfield 10, 3) := by decide +kernel
theorem dX11_pass_21 : decode cX11_pass 21 = .ok (.invokevirtual 239, 3) := by decide +kernel
theorem dX11_pass_24 : decode cX11_pass 24 = .ok (.invokevirtual 229, 3) := by decide +kernel
theorem dX11_pass_27 : decode cX11_pass 27 = .ok (.ireturn, 1) := by decide +kernel
theorem dX2_takeBack_0 : decode cX2_takeBack 0 = .ok (.aload_n 0, 1) := by decide +kernel
theorem dX2_takeBack_1 : decode cX2_takeBack 1 = .ok (.getfield 19, 3) := by decide +kernel
theorem dX2_takeBack_4 : decode cX2_takeBack 4 = .ok (.ifCond .ne 5, 3) := by decide +kernel
theorem dX2_takeBack_7 : decode cX2_takeBack 7 = .ok (.iconst (-1), 1) := by decide +kernel
theorem dX2_takeBack_8 : decode cX2_takeBack 8 = .ok (.ireturn, 1) := by decide +kernel
theorem dX11_undo_0 : decode cX11_undo 0 = .ok (.aload_n 0, 1) := by decide +kernel
theorem dX11_undo_1 : decode cX11_undo 1 = .ok (.getfield 61, 3) := by decide +kernel
theorem dX11_undo_4 : decode cX11_undo 4 = .ok (.aload_n 0, 1) := by decide +kernel
theorem dX11_undo_5 : decode cX11_undo 5 = .ok (.getfield 10, 3) := by decide +kernel
theorem dX11_undo_8 : decode cX11_undo 8 = .ok (.invokevirtual 242, 3) := by decide +kernel
theorem dX11_undo_11 : decode cX11_undo 11 = .ok (.istore_n 1, 1) := by decide +kernel
theorem dX11_undo_12 : decode cX11_undo 12 = .ok (.iload_n 1, 1) := by decide +kernel
theorem dX11_undo_13 : decode cX11_undo 13 = .ok (.iconst (-1), 1) := by decide +kernel
theorem dX11_undo_14 : decode cX11_undo 14 = .ok (.if_icmp .ne 12, 3) := by decide +kernel
theorem dX11_undo_17 : decode cX11_undo 17 = .ok (.aload_n 0, 1) := by decide +kernel
theorem dX11_undo_18 : decode cX11_undo 18 = .ok (.bipush (-3), 2) := by decide +kernel
theorem dX11_undo_20 : decode cX11_undo 20 = .ok (.invokevirtual 101, 3) := by decide +kernel
theorem dX11_undo_23 : decode cX11_undo 23 = .ok (.goto 8, 3) := by decide +kernel
theorem dX11_undo_31 : decode cX11_undo 31 = .ok (.ireturn, 1) := by decide +kernel
theorem dX11_sounds_0 : decode cX11_sounds 0 = .ok (.iload_n 1, 1) := by decide +kernel
theorem dX11_sounds_1 : decode cX11_sounds 1 = .ok (.tableswitch 59 0 2 #[27, 35, 43], 27) := by decide +kernel
theorem dX11_sounds_28 : decode cX11_sounds 28 = .ok (.aload_n 0, 1) := by decide +kernel
theorem dX11_sounds_29 : decode cX11_sounds 29 = .ok (.getfield 10, 3) := by decide +kernel
theorem dX11_sounds_32 : decode cX11_sounds 32 = .ok (.invokevirtual 210, 3) := by decide +kernel
theorem dX11_sounds_35 : decode cX11_sounds 35 = .ok (.ireturn, 1) := by decide +kernel
theorem dX11_sounds_36 : decode cX11_sounds 36 = .ok (.aload_n 0, 1) := by decide +kernel
theorem dX11_sounds_37 : decode cX11_sounds 37 = .ok (.getfield 10, 3) := by decide +kernel
theorem dX11_sounds_40 : decode cX11_sounds 40 = .ok (.invokevirtual 214, 3) := by decide +kernel
theorem dX11_sounds_43 : decode cX11_sounds 43 = .ok (.ireturn, 1) := by decide +kernel
theorem dX11_sounds_44 : decode cX11_sounds 44 = .ok (.aload_n 0, 1) := by decide +kernel
theorem dX11_sounds_45 : decode cX11_sounds 45 = .ok (.getfield 10, 3) := by decide +kernel
theorem dX11_sounds_48 : decode cX11_sounds 48 = .ok (.invokevirtual 217, 3) := by decide +kernel
theorem dX11_sounds_51 : decode cX11_sounds 51 = .ok (.ifCond .eq 7, 3) := by decide +kernel
theorem dX11_sounds_54 : decode cX11_sounds 54 = .ok (.iconst 1, 1) := by decide +kernel
theorem dX11_sounds_55 : decode cX11_sounds 55 = .ok (.goto 4, 3) := by decide +kernel
theorem dX11_sounds_59 : decode cX11_sounds 59 = .ok (.ireturn, 1) := by decide +kernel
theorem dX11_sounds_60 : decode cX11_sounds 60 = .ok (.iconst (-1), 1) := by decide +kernel
theorem dX11_sounds_61 : decode cX11_sounds 61 = .ok (.ireturn, 1) := by decide +kernel
theorem dX11_drawn_0 : decode cX11_drawn 0 = .ok (.aload_n 0, 1) := by decide +kernel
theorem dX11_drawn_1 : decode cX11_drawn 1 = .ok (.getfield 90, 3) := by decide +kernel
theorem dX11_drawn_4 : decode cX11_drawn 4 = .ok (.ifCond .ne 5, 3) := by decide +kernel
theorem dX11_drawn_7 : decode cX11_drawn 7 = .ok (.iconst (-1), 1) := by decide +kernel
theorem dX11_drawn_8 : decode cX11_drawn 8 = .ok (.ireturn, 1) := by decide +kernel
theorem dX11_back_0 : decode cX11_back 0 = .ok (.iload_n 1, 1) := by decide +kernel
theorem dX11_back_1 : decode cX11_back 1 = .ok (.iconst 0, 1) := by decide +kernel
theorem dX11_back_2 : decode cX11_back 2 = .ok (.iconst 1, 1) := by decide +kernel
theorem dX11_back_3 : decode cX11_back 3 = .ok (.invokestatic 97, 3) := by decide +kernel
theorem dX11_back_6 : decode cX11_back 6 = .ok (.ifCond .ne 9, 3) := by decide +kernel
theorem dX11_back_15 : decode cX11_back 15 = .ok (.aload_n 0, 1) := by decide +kernel
theorem dX11_back_16 : decode cX11_back 16 = .ok (.getfield 20, 3) := by decide +kernel
theorem dX11_back_19 : decode cX11_back 19 = .ok (.iload_n 1, 1) := by decide +kernel
theorem dX11_back_20 : decode cX11_back 20 = .ok (.baload, 1) := by decide +kernel
theorem dX11_back_21 : decode cX11_back 21 = .ok (.ifCond .ne 10, 3) := by decide +kernel
theorem dX11_back_24 : decode cX11_back 24 = .ok (.aload_n 0, 1) := by decide +kernel
theorem dX11_back_25 : decode cX11_back 25 = .ok (.bipush (-2), 2) := by decide +kernel
theorem dX11_back_27 : decode cX11_back 27 = .ok (.invokevirtual 101, 3) := by decide +kernel
theorem dX11_back_30 : decode cX11_back 30 = .ok (.ireturn, 1) := by decide +kernel
theorem dX11_back_9 : decode cX11_back 9 = .ok (.aload_n 0, 1) := by decide +kernel
theorem dX11_back_10 : decode cX11_back 10 = .ok (.iconst (-1), 1) := by decide +kernel
theorem dX11_back_11 : decode cX11_back 11 = .ok (.invokevirtual 101, 3) := by decide +kernel
theorem dX11_back_14 : decode cX11_back 14 = .ok (.ireturn, 1) := by decide +kernel
theorem dX9_singing_0 : decode cX9_singing 0 = .ok (.iconst 0, 1) := by decide +kernel
theorem dX9_singing_1 : decode cX9_singing 1 = .ok (.istore_n 1, 1) := by decide +kernel
theorem dX9_singing_2 : decode cX9_singing 2 = .ok (.iconst 0, 1) := by decide +kernel
theorem dX9_singing_3 : decode cX9_singing 3 = .ok (.istore_n 2, 1) := by decide +kernel
theorem dX9_singing_4 : decode cX9_singing 4 = .ok (.iload_n 2, 1) := by decide +kernel
theorem dX9_singing_5 : decode cX9_singing 5 = .ok (.aload_n 0, 1) := by decide +kernel
theorem dX9_singing_6 : decode cX9_singing 6 = .ok (.getfield 27, 3) := by decide +kernel
theorem dX9_singing_9 : decode cX9_singing 9 = .ok (.if_icmp .ge 25, 3) := by decide +kernel
theorem dX9_singing_34 : decode cX9_singing 34 = .ok (.iload_n 1, 1) := by decide +kernel
theorem dX9_singing_35 : decode cX9_singing 35 = .ok (.ireturn, 1) := by decide +kernel
theorem dX11_count_0 : decode cX11_count 0 = .ok (.iload_n 1, 1) := by decide +kernel
theorem dX11_count_1 : decode cX11_count 1 = .ok (.bipush 6, 2) := by decide +kernel
theorem dX11_count_3 : decode cX11_count 3 = .ok (.bipush 10, 2) := by decide +kernel
theorem dX11_count_5 : decode cX11_count 5 = .ok (.invokestatic 97, 3) := by decide +kernel
theorem dX11_count_8 : decode cX11_count 8 = .ok (.ifCond .eq 13, 3) := by decide +kernel
theorem dX11_count_21 : decode cX11_count 21 = .ok (.iload_n 1, 1) := by decide +kernel
theorem dX11_count_22 : decode cX11_count 22 = .ok (.bipush 13, 2) := by decide +kernel
theorem dX11_count_24 : decode cX11_count 24 = .ok (.bipush 18, 2) := by decide +kernel
theorem dX11_count_26 : decode cX11_count 26 = .ok (.invokestatic 97, 3) := by decide +kernel
theorem dX11_count_29 : decode cX11_count 29 = .ok (.ifCond .eq 16, 3) := by decide +kernel
theorem dX11_count_45 : decode cX11_count 45 = .ok (.iload_n 1, 1) := by decide +kernel
theorem dX11_count_46 : decode cX11_count 46 = .ok (.tableswitch 130 0 12 #[66, 74, 82, 90, 98, 106, 130, 130, 130, 130, 130, 114, 122], 66) := by decide +kernel
theorem dX11_count_112 : decode cX11_count 112 = .ok (.aload_n 0, 1) := by decide +kernel
theorem dX11_count_113 : decode cX11_count 113 = .ok (.getfield 10, 3) := by decide +kernel
theorem dX11_count_116 : decode cX11_count 116 = .ok (.getfield 108, 3) := by decide +kernel
theorem dX11_count_119 : decode cX11_count 119 = .ok (.ireturn, 1) := by decide +kernel
theorem dX11_count_120 : decode cX11_count 120 = .ok (.aload_n 0, 1) := by decide +kernel
theorem dX11_count_121 : decode cX11_count 121 = .ok (.getfield 10, 3) := by decide +kernel
theorem dX11_count_124 : decode cX11_count 124 = .ok (.invokevirtual 294, 3) := by decide +kernel
theorem dX11_count_127 : decode cX11_count 127 = .ok (.ireturn, 1) := by decide +kernel
theorem dX11_count_128 : decode cX11_count 128 = .ok (.aload_n 0, 1) := by decide +kernel
theorem dX11_count_129 : decode cX11_count 129 = .ok (.getfield 10, 3) := by decide +kernel
theorem dX11_count_132 : decode cX11_count 132 = .ok (.getfield 258, 3) := by decide +kernel
theorem dX11_count_135 : decode cX11_count 135 = .ok (.ireturn, 1) := by decide +kernel
theorem dX11_count_136 : decode cX11_count 136 = .ok (.aload_n 0, 1) := by decide +kernel
theorem dX11_count_137 : decode cX11_count 137 = .ok (.getfield 10, 3) := by decide +kernel
theorem dX11_count_140 : decode cX11_count 140 = .ok (.getfield 173, 3) := by decide +kernel
theorem dX11_count_143 : decode cX11_count 143 = .ok (.ireturn, 1) := by decide +kernel
theorem dX11_count_144 : decode cX11_count 144 = .ok (.aload_n 0, 1) := by decide +kernel
theorem dX11_count_145 : decode cX11_count 145 = .ok (.getfield 61, 3) := by decide +kernel
theorem dX11_count_148 : decode cX11_count 148 = .ok (.getfield 297, 3) := by decide +kernel
theorem dX11_count_151 : decode cX11_count 151 = .ok (.ireturn, 1) := by decide +kernel
theorem dX11_count_152 : decode cX11_count 152 = .ok (.aload_n 0, 1) := by decide +kernel
theorem dX11_count_153 : decode cX11_count 153 = .ok (.getfield 38, 3) := by decide +kernel
theorem dX11_count_156 : decode cX11_count 156 = .ok (.getfield 161, 3) := by decide +kernel
theorem dX11_count_159 : decode cX11_count 159 = .ok (.ireturn, 1) := by decide +kernel
theorem dX11_count_11 : decode cX11_count 11 = .ok (.aload_n 0, 1) := by decide +kernel
theorem dX11_count_12 : decode cX11_count 12 = .ok (.getfield 79, 3) := by decide +kernel
theorem dX11_count_15 : decode cX11_count 15 = .ok (.iload_n 1, 1) := by decide +kernel
theorem dX11_count_16 : decode cX11_count 16 = .ok (.bipush 6, 2) := by decide +kernel
theorem dX11_count_18 : decode cX11_count 18 = .ok (.isub, 1) := by decide +kernel
theorem dX11_count_19 : decode cX11_count 19 = .ok (.iaload, 1) := by decide +kernel
theorem dX11_count_20 : decode cX11_count 20 = .ok (.ireturn, 1) := by decide +kernel
theorem dX11_count_160 : decode cX11_count 160 = .ok (.aload_n 0, 1) := by decide +kernel
theorem dX11_count_161 : decode cX11_count 161 = .ok (.getfield 10, 3) := by decide +kernel
theorem dX11_count_164 : decode cX11_count 164 = .ok (.getfield 203, 3) := by decide +kernel
theorem dX11_count_167 : decode cX11_count 167 = .ok (.ireturn, 1) := by decide +kernel
theorem dX11_count_168 : decode cX11_count 168 = .ok (.aload_n 0, 1) := by decide +kernel
theorem dX11_count_169 : decode cX11_count 169 = .ok (.getfield 10, 3) := by decide +kernel
theorem dX11_count_172 : decode cX11_count 172 = .ok (.getfield 291, 3) := by decide +kernel
theorem dX11_count_175 : decode cX11_count 175 = .ok (.ireturn, 1) := by decide +kernel
theorem dX11_count_32 : decode cX11_count 32 = .ok (.aload_n 0, 1) := by decide +kernel
theorem dX11_count_33 : decode cX11_count 33 = .ok (.getfield 10, 3) := by decide +kernel
theorem dX11_count_36 : decode cX11_count 36 = .ok (.getfield 158, 3) := by decide +kernel
theorem dX11_count_39 : decode cX11_count 39 = .ok (.iload_n 1, 1) := by decide +kernel
theorem dX11_count_40 : decode cX11_count 40 = .ok (.bipush 13, 2) := by decide +kernel
theorem dX11_count_42 : decode cX11_count 42 = .ok (.isub, 1) := by decide +kernel
theorem dX11_count_43 : decode cX11_count 43 = .ok (.iaload, 1) := by decide +kernel
theorem dX11_count_44 : decode cX11_count 44 = .ok (.ireturn, 1) := by decide +kernel
theorem dX11_count_176 : decode cX11_count 176 = .ok (.iconst (-1), 1) := by decide +kernel
theorem dX11_count_177 : decode cX11_count 177 = .ok (.ireturn, 1) := by decide +kernel
theorem dX4_mapSets_0 : decode cX4_mapSets 0 = .ok (.iconst 1, 1) := by decide +kernel
theorem dX4_mapSets_1 : decode cX4_mapSets 1 = .ok (.istore_n 2, 1) := by decide +kernel
theorem dX4_mapSets_2 : decode cX4_mapSets 2 = .ok (.iconst 0, 1) := by decide +kernel
theorem dX4_mapSets_3 : decode cX4_mapSets 3 = .ok (.istore_n 3, 1) := by decide +kernel
theorem dX4_mapSets_4 : decode cX4_mapSets 4 = .ok (.iload_n 3, 1) := by decide +kernel
theorem dX4_mapSets_5 : decode cX4_mapSets 5 = .ok (.aload_n 1, 1) := by decide +kernel
theorem dX4_mapSets_6 : decode cX4_mapSets 6 = .ok (.getfield 27, 3) := by decide +kernel
theorem dX4_mapSets_9 : decode cX4_mapSets 9 = .ok (.if_icmp .ge 59, 3) := by decide +kernel
theorem dX4_mapSets_68 : decode cX4_mapSets 68 = .ok (.iload_n 2, 1) := by decide +kernel
theorem dX4_mapSets_69 : decode cX4_mapSets 69 = .ok (.ireturn, 1) := by decide +kernel
theorem dX4_hillSet_0 : decode cX4_hillSet 0 = .ok (.aload_n 0, 1) := by decide +kernel
theorem dX4_hillSet_1 : decode cX4_hillSet 1 = .ok (.aload_n 1, 1) := by decide +kernel
theorem dX4_hillSet_2 : decode cX4_hillSet 2 = .ok (.invokevirtual 77, 3) := by decide +kernel
theorem dX4_hillSet_5 : decode cX4_hillSet 5 = .ok (.istore_n 3, 1) := by decide +kernel
theorem dX4_hillSet_6 : decode cX4_hillSet 6 = .ok (.iconst 0, 1) := by decide +kernel
theorem dX4_hillSet_7 : decode cX4_hillSet 7 = .ok (.istore 4, 2) := by decide +kernel
theorem dX4_hillSet_9 : decode cX4_hillSet 9 = .ok (.iconst 0, 1) := by decide +kernel
theorem dX4_hillSet_10 : decode cX4_hillSet 10 = .ok (.istore 5, 2) := by decide +kernel
theorem dX4_hillSet_12 : decode cX4_hillSet 12 = .ok (.iload 5, 2) := by decide +kernel
theorem dX4_hillSet_14 : decode cX4_hillSet 14 = .ok (.iload_n 3, 1) := by decide +kernel
theorem dX4_hillSet_15 : decode cX4_hillSet 15 = .ok (.if_icmp .ge 35, 3) := by decide +kernel
theorem dX4_hillSet_18 : decode cX4_hillSet 18 = .ok (.aload_n 0, 1) := by decide +kernel
theorem dX4_hillSet_19 : decode cX4_hillSet 19 = .ok (.getfield 24, 3) := by decide +kernel
theorem dX4_hillSet_22 : decode cX4_hillSet 22 = .ok (.iload 5, 2) := by decide +kernel
theorem dX4_hillSet_24 : decode cX4_hillSet 24 = .ok (.iaload, 1) := by decide +kernel
theorem dX4_hillSet_25 : decode cX4_hillSet 25 = .ok (.aload_n 1, 1) := by decide +kernel
theorem dX4_hillSet_26 : decode cX4_hillSet 26 = .ok (.getfield 81, 3) := by decide +kernel
theorem dX4_hillSet_29 : decode cX4_hillSet 29 = .ok (.if_icmp .ne 15, 3) := by decide +kernel
theorem dX4_hillSet_32 : decode cX4_hillSet 32 = .ok (.iload 4, 2) := by decide +kernel
theorem dX4_hillSet_34 : decode cX4_hillSet 34 = .ok (.iload_n 2, 1) := by decide +kernel
theorem dX4_hillSet_35 : decode cX4_hillSet 35 = .ok (.if_icmp .ne 6, 3) := by decide +kernel
theorem dX4_hillSet_41 : decode cX4_hillSet 41 = .ok (.iinc 4 1, 3) := by decide +kernel
theorem dX4_hillSet_44 : decode cX4_hillSet 44 = .ok (.iinc 5 1, 3) := by decide +kernel
theorem dX4_hillSet_47 : decode cX4_hillSet 47 = .ok (.goto (-35), 3) := by decide +kernel
theorem dX4_hillSet_50 : decode cX4_hillSet 50 = .ok (.iload_n 2, 1) := by decide +kernel
theorem dX4_hillSet_51 : decode cX4_hillSet 51 = .ok (.iconst (-1), 1) := by decide +kernel
theorem dX4_hillSet_52 : decode cX4_hillSet 52 = .ok (.if_icmp .ne 8, 3) := by decide +kernel
theorem dX4_hillSet_60 : decode cX4_hillSet 60 = .ok (.iconst (-1), 1) := by decide +kernel
theorem dX4_hillSet_61 : decode cX4_hillSet 61 = .ok (.ireturn, 1) := by decide +kernel
theorem dX4_hillSet_55 : decode cX4_hillSet 55 = .ok (.iload 4, 2) := by decide +kernel
theorem dX4_hillSet_57 : decode cX4_hillSet 57 = .ok (.goto 4, 3) := by decide +kernel
theorem dX4_hillSet_38 : decode cX4_hillSet 38 = .ok (.iload 5, 2) := by decide +kernel
theorem dX4_hillSet_40 : decode cX4_hillSet 40 = .ok (.ireturn, 1) := by decide +kernel
theorem dX11_hill_0 : decode cX11_hill 0 = .ok (.aload_n 0, 1) := by decide +kernel
theorem dX11_hill_1 : decode cX11_hill 1 = .ok (.getfield 75, 3) := by decide +kernel
theorem dX11_hill_4 : decode cX11_hill 4 = .ok (.aload_n 0, 1) := by decide +kernel
theorem dX11_hill_5 : decode cX11_hill 5 = .ok (.getfield 10, 3) := by decide +kernel
theorem dX11_hill_8 : decode cX11_hill 8 = .ok (.iload_n 1, 1) := by decide +kernel
theorem dX11_hill_9 : decode cX11_hill 9 = .ok (.invokevirtual 264, 3) := by decide +kernel
theorem dX11_hill_12 : decode cX11_hill 12 = .ok (.ireturn, 1) := by decide +kernel
set_option maxRecDepth 20000 in
theorem ggX11_stoke_X2_draft : GoodIn wsX11_stoke wsX2_draft := goodIn_r _ [7, 8, 9, 10, 11, 12, 13, 14, 15, 5, 16, 119, 120, 121, 122, 123, 124, 125, 126, 127, 128, 129, 130, 131] (by decide +kernel) (by decide +kernel)
set_option maxRecDepth 20000 in
theorem gX11_stoke_X2_draft_n221 : GoodIn wsX11_stoke (wsX2_draft) := ggX11_stoke_X2_draft
set_option maxRecDepth 20000 in
theorem ggX11_stoke_X10_kindle : GoodIn wsX11_stoke wsX10_kindle := goodIn_r _ [20, 21, 22, 23, 24, 25, 26, 27, 28, 29, 30, 31, 32, 33, 34, 35, 36, 37, 38, 39, 40, 41, 42, 43, 44, 45, 46, 47, 48, 49, 50, 51, 52, 53, 54, 55, 56, 57, 58, 59, 60, 61, 62, 63, 64, 65, 66, 67, 68, 69, 70, 71, 72, 73, 74, 75, 76, 77, 78, 79, 80, 81, 132, 122, 123, 124, 125, 126, 127, 128, 129, 130, 131, 133, 134, 135, 136, 137, 138, 139, 140] (by decide +kernel) (by decide +kernel)
set_option maxRecDepth 20000 in
theorem gX11_stoke_X10_kindle_n225 : GoodIn wsX11_stoke (wsX10_kindle) := ggX11_stoke_X10_kindle
set_option maxRecDepth 20000 in
theorem ggX11_stoke_X11_settle : GoodIn wsX11_stoke wsX11_settle := goodIn_r _ [85, 1, 86, 87, 88, 51, 89, 90, 91, 92, 50, 52, 93, 5, 94, 95, 9, 8, 96, 97, 23, 24, 25, 98, 99, 100, 101, 102, 103, 104, 105, 106, 107, 108, 109, 110, 111, 112, 113, 114, 115, 116, 117, 118, 119, 120, 121] (by decide +kernel) (by decide +kernel)
set_option maxRecDepth 20000 in
theorem gX11_stoke_X11_settle : GoodIn wsX11_stoke (wsV RX11 229 RX11 yX11_settle wsX11_settle) := goodIn_app (goodIn_of _ (by decide +kernel)) ggX11_stoke_X11_settle
set_option maxRecDepth 20000 in
theorem ggX11_damp_X2_draft : GoodIn wsX11_damp wsX2_draft := goodIn_r _ [7, 8, 9, 10, 11, 12, 13, 14, 15, 5, 16, 79, 80, 81, 82, 83, 84, 85, 86, 87, 88, 89, 90, 91] (by decide +kernel) (by decide +kernel)
set_option maxRecDepth 20000 in
theorem gX11_damp_X2_draft_n221 : GoodIn wsX11_damp (wsX2_draft) := ggX11_damp_X2_draft
set_option maxRecDepth 20000 in
theorem ggX11_damp_X10_quench : GoodIn wsX11_damp wsX10_quench := goodIn_r _ [20, 21, 22, 23, 24, 25, 26, 27, 28, 29, 30, 31, 32, 33, 34, 35, 36, 37, 38, 39, 82, 83, 84, 85, 86, 87, 88, 89, 90, 91] (by decide +kernel) (by decide +kernel)
set_option maxRecDepth 20000 in
theorem gX11_damp_X10_quench_n232 : GoodIn wsX11_damp (wsX10_quench) := ggX11_damp_X10_quench
set_option maxRecDepth 20000 in
theorem ggX11_damp_X11_settle : GoodIn wsX11_damp wsX11_settle := goodIn_r _ [43, 1, 44, 45, 46, 26, 47, 48, 49, 50, 25, 27, 51, 5, 52, 53, 9, 8, 54, 55, 56, 23, 57, 58, 59, 60, 61, 62, 63, 64, 65, 66, 67, 68, 69, 70, 71, 72, 73, 74, 75, 76, 77, 78, 79, 80, 81] (by decide +kernel) (by decide +kernel)
set_option maxRecDepth 20000 in
theorem gX11_damp_X11_settle : GoodIn wsX11_damp (wsV RX11 229 RX11 yX11_settle wsX11_settle) := goodIn_app (goodIn_of _ (by decide +kernel)) ggX11_damp_X11_settle
set_option maxRecDepth 20000 in
theorem ggX11_buy_X2_draft : GoodIn wsX11_buy wsX2_draft := goodIn_r _ [7, 8, 9, 10, 11, 12, 13, 14, 15, 5, 16, 77, 78, 79, 80, 81, 82, 83, 84, 85, 86, 87, 88, 89] (by decide +kernel) (by decide +kernel)
set_option maxRecDepth 20000 in
theorem gX11_buy_X2_draft_n221 : GoodIn wsX11_buy (wsX2_draft) := ggX11_buy_X2_draft
set_option maxRecDepth 20000 in
theorem ggX11_buy_X10_supply : GoodIn wsX11_buy wsX10_supply := goodIn_r _ [20, 21, 22, 23, 24, 25, 26, 27, 28, 29, 30, 31, 32, 33, 34, 35, 36, 37, 38, 39, 80, 81, 82, 83, 84, 85, 86, 87, 88, 89] (by decide +kernel) (by decide +kernel)
set_option maxRecDepth 20000 in
theorem gX11_buy_X10_supply_n236 : GoodIn wsX11_buy (wsX10_supply) := ggX11_buy_X10_supply
set_option maxRecDepth 20000 in
theorem ggX11_buy_X11_settle : GoodIn wsX11_buy wsX11_settle := goodIn_r _ [43, 1, 44, 45, 46, 26, 47, 48, 49, 50, 25, 27, 51, 5, 52, 53, 9, 8, 54, 55, 22, 23, 24, 56, 57, 58, 59, 60, 61, 62, 63, 64, 65, 66, 67, 68, 69, 70, 71, 72, 73, 74, 75, 76, 77, 78, 79] (by decide +kernel) (by decide +kernel)
set_option maxRecDepth 20000 in
theorem gX11_buy_X11_settle : GoodIn wsX11_buy (wsV RX11 229 RX11 yX11_settle wsX11_settle) := goodIn_app (goodIn_of _ (by decide +kernel)) ggX11_buy_X11_settle
set_option maxRecDepth 20000 in
theorem ggX11_pass_X2_draft : GoodIn wsX11_pass wsX2_draft := goodIn_r _ [7, 8, 9, 10, 11, 12, 13, 14, 15, 5, 16, 157, 158, 159, 160, 161, 162, 163, 164, 165, 166, 167, 168, 169] (by decide +kernel) (by decide +kernel)
set_option maxRecDepth 20000 in
theorem gX11_pass_X2_draft_n221 : GoodIn wsX11_pass (wsX2_draft) := ggX11_pass_X2_draft
set_option maxRecDepth 20000 in
theorem ggX11_pass_X10_nextHour : GoodIn wsX11_pass wsX10_nextHour := goodIn_r _ [20, 21, 22, 23, 24, 25, 26, 27, 28, 29, 30, 31, 32, 33, 34, 35, 36, 37, 38, 39, 40, 41, 42, 43, 44, 45, 46, 47, 48, 49, 50, 51, 52, 53, 54, 55, 56, 18, 57, 58, 59, 60, 61, 62, 63, 64, 65, 66, 67, 68, 69, 70, 71, 72, 73, 74, 75, 76, 77, 78, 79, 80, 81, 82, 83, 84, 85, 86, 87, 88, 89, 90, 91, 92, 93, 94, 95, 96, 97, 98, 99, 100, 101, 102, 103, 104, 105, 106, 107, 108, 109, 110, 111, 112, 113, 114, 115, 116, 117, 118, 119, 160, 161, 162, 163, 164, 165, 166, 167, 168, 169, 170, 171, 172, 173, 174, 175, 176, 177, 178] (by decide +kernel) (by decide +kernel)
set_option maxRecDepth 20000 in
theorem gX11_pass_X10_nextHour_n239 : GoodIn wsX11_pass (wsX10_nextHour) := ggX11_pass_X10_nextHour
set_option maxRecDepth 20000 in
theorem ggX11_pass_X11_settle : GoodIn wsX11_pass wsX11_settle := goodIn_r _ [123, 1, 124, 125, 126, 84, 127, 128, 129, 130, 83, 85, 131, 5, 132, 133, 9, 8, 134, 135, 23, 24, 25, 136, 137, 138, 139, 140, 141, 142, 143, 144, 145, 146, 147, 148, 149, 150, 151, 152, 153, 154, 155, 156, 157, 158, 159] (by decide +kernel) (by decide +kernel)
set_option maxRecDepth 20000 in
theorem gX11_pass_X11_settle : GoodIn wsX11_pass (wsV RX11 229 RX11 yX11_settle wsX11_settle) := goodIn_app (goodIn_of _ (by decide +kernel)) ggX11_pass_X11_settle
set_option maxRecDepth 20000 in
theorem ggX11_undo_X2_takeBack : GoodIn wsX11_undo wsX2_takeBack := goodIn_r _ [6, 7, 8, 9, 10, 11, 12, 13, 14, 15, 4, 16, 48, 49, 50, 51, 52, 53, 54, 55, 56, 57, 58, 59, 60] (by decide +kernel) (by decide +kernel)
set_option maxRecDepth 20000 in
theorem gX11_undo_X2_takeBack_n242 : GoodIn wsX11_undo (wsX2_takeBack) := ggX11_undo_X2_takeBack
set_option maxRecDepth 20000 in
theorem ggX11_undo_X11_refuse : GoodIn wsX11_undo wsX11_refuse := goodIn_r _ [21, 22, 23, 24, 25, 20, 26, 31, 32, 33, 34, 35, 36, 37, 38, 39, 40, 41, 42, 43, 44, 45, 46, 47] (by decide +kernel) (by decide +kernel)
set_option maxRecDepth 20000 in
theorem gX11_undo_X11_refuse : GoodIn wsX11_undo (wsV RX11 101 RX11 yX11_refuse wsX11_refuse) := goodIn_app (goodIn_of _ (by decide +kernel)) ggX11_undo_X11_refuse
set_option maxRecDepth 20000 in
theorem ggX11_sounds_X9_notesNow : GoodIn wsX11_sounds wsX9_notesNow := goodIn_r _ [5, 6, 7, 8, 9, 3, 10, 11, 12, 13, 14, 15, 16, 17, 18, 19, 20, 50, 51, 52, 53, 54, 55, 56, 57, 58, 59] (by decide +kernel) (by decide +kernel)
set_option maxRecDepth 20000 in
theorem gX11_sounds_X9_notesNow_n210 : GoodIn wsX11_sounds (wsX9_notesNow) := ggX11_sounds_X9_notesNow
set_option maxRecDepth 20000 in
theorem ggX11_sounds_X9_thirdsNow : GoodIn wsX11_sounds wsX9_thirdsNow := goodIn_r _ [23, 24, 2, 4, 3, 5, 6, 7, 8, 9, 10, 11, 12, 13, 14, 15, 16, 17, 18, 19, 20, 50, 51, 52, 53, 54, 55, 56, 57, 58, 59] (by decide +kernel) (by decide +kernel)
set_option maxRecDepth 20000 in
theorem gX11_sounds_X9_thirdsNow_n214 : GoodIn wsX11_sounds (wsX9_thirdsNow) := ggX11_sounds_X9_thirdsNow
set_option maxRecDepth 20000 in
theorem ggX11_sounds_X9_meetsChord : GoodIn wsX11_sounds wsX9_meetsChord := goodIn_r _ [27, 20, 28, 29, 30, 3, 31, 32, 24, 2, 4, 5, 6, 7, 8, 9, 10, 11, 12, 13, 14, 15, 16, 17, 18, 19, 50, 51, 52, 53, 54, 55, 56, 57, 58, 59] (by decide +kernel) (by decide +kernel)
set_option maxRecDepth 20000 in
theorem gX11_sounds_X9_meetsChord_n217 : GoodIn wsX11_sounds (wsX9_meetsChord) := ggX11_sounds_X9_meetsChord
set_option maxRecDepth 20000 in
theorem ggX11_back_X11_within : GoodIn wsX11_back wsX11_within := goodIn_r _ [8] (by decide +kernel) (by decide +kernel)
set_option maxRecDepth 20000 in
theorem gX11_back_X11_within : GoodIn wsX11_back (va_wsS RX11 97 yX11_within wsX11_within) := goodIn_app (goodIn_of _ (by decide +kernel)) ggX11_back_X11_within
set_option maxRecDepth 20000 in
theorem ggX11_back_X11_refuse : GoodIn wsX11_back wsX11_refuse := goodIn_r _ [12, 13, 14, 5, 6, 7, 8, 42, 43, 44, 45, 46, 47, 48, 49, 50, 51, 52, 53, 54, 55, 56, 57, 58] (by decide +kernel) (by decide +kernel)
set_option maxRecDepth 20000 in
theorem gX11_back_X11_refuse : GoodIn wsX11_back (wsV RX11 101 RX11 yX11_refuse wsX11_refuse) := goodIn_app (goodIn_of _ (by decide +kernel)) ggX11_back_X11_refuse
set_option maxRecDepth 20000 in
theorem ggX11_count_X11_within : GoodIn wsX11_count wsX11_within := goodIn_r _ [8] (by decide +kernel) (by decide +kernel)
set_option maxRecDepth 20000 in
theorem gX11_count_X11_within : GoodIn wsX11_count (va_wsS RX11 97 yX11_within wsX11_within) := goodIn_app (goodIn_of _ (by decide +kernel)) ggX11_count_X11_within
set_option maxRecDepth 20000 in
theorem ggX11_count_X9_singing : GoodIn wsX11_count wsX9_singing := goodIn_r _ [12, 13, 14, 15, 16, 10, 17, 18, 19, 20, 21, 22, 23, 24, 25, 26, 27, 45, 46, 47, 48, 49, 50, 51, 52, 53, 54] (by decide +kernel) (by decide +kernel)
set_option maxRecDepth 20000 in
theorem gX11_count_X9_singing_n294 : GoodIn wsX11_count (wsX9_singing) := ggX11_count_X9_singing
set_option maxRecDepth 20000 in
theorem ggX4_hillSet_X4_mapSets : GoodIn wsX4_hillSet wsX4_mapSets := goodIn_r _ [6, 1, 7, 8, 9, 10, 11, 17, 18, 19, 20, 21, 22, 23, 24, 25, 26, 12, 13, 14, 15, 16] (by decide +kernel) (by decide +kernel)
set_option maxRecDepth 20000 in
theorem gX4_hillSet_X4_mapSets : GoodIn wsX4_hillSet (wsV RX4 77 RX4 yX4_mapSets wsX4_mapSets) := goodIn_app (goodIn_of _ (by decide +kernel)) ggX4_hillSet_X4_mapSets
set_option maxRecDepth 20000 in
theorem ggX11_hill_X4_hillSet : GoodIn wsX11_hill wsX4_hillSet := goodIn_r _ [6, 7, 8, 9, 10, 4, 11, 12, 13, 14, 15, 16, 34, 35, 36, 37, 38, 39, 40, 41, 42, 43, 44, 45, 46, 47, 48] (by decide +kernel) (by decide +kernel)
set_option maxRecDepth 20000 in
theorem gX11_hill_X4_hillSet_n264 : GoodIn wsX11_hill (wsX4_hillSet) := ggX11_hill_X4_hillSet
set_option maxHeartbeats 4000000 in
set_option maxRecDepth 100000 in
theorem t_stoke (l : Launch) (D : va_G) (K : Nat → ClassId) (a0 : Nat) (x : Int32) (a2 : Nat) (g1 : Value) (g2 : Value) (g3 : Value) (g4 : Value) (g5 : Value) (g6 : Value) (a8 : Nat) (g8 : Value) (a3 : Nat) (g10 : Value) (g11 : Value) (a1 : Nat) (g13 : Value) (g14 : Value) (g15 : Value) (g16 : Value) (f : Nat → Int32) (a5 : Nat) (a6 : Nat) (k1 : Value) (a7 : Nat) (k3 : Value) (k5 : Value) (k6 : Value) (k8 : Value) (k9 : Value) (r0 : Value) (sz : Nat) : Met l yX11_stoke wsX11_stoke ({ frames := 3, cells := 0, slots := 0, locals := 66 }) (va_Pc [.ref a0, .int x] (Pre D K [(a0, .inr (11, [.ref a2, g1, g2, g3, g4, g5, g6, .ref a8, g8, .ref a3, g10, g11, .ref a1, g13, g14, g15, g16])), (a1, .inl (K 0, 5, .inl f)), (a3, .inr (2, [.ref a5, .int 0, .int 0])), (a2, .inr (9, [.ref a6, k1, .ref a7, k3, .int 0, k5, k6, .int 0, k8, k9])), (a5, .inl (K 0, 476, .inl (fun _ => 0))), (a6, .inl (K 0, 56, .inl (fun _ => 0))), (a7, .inl (K 0, 6, .inl tm0)), (a8, .inr (10, [r0]))] sz)) (va_Qi (S := Unit) (fun (r : Int32) (_ : Unit) => (r = (-2))) (fun u t => Wd D (va_A [(a0, .inr (11, [.ref a2, g1, g2, g3, g4, g5, g6, .ref a8, g8, .ref a3, g10, g11, .ref a1, g13, g14, g15, g16])), (a1, .inl (K 0, 5, .inl f)), (a3, .inr (2, [.ref a5, .int 0, .int 0])), (a2, .inr (9, [.ref a6, k1, .ref a7, k3, .int 0, k5, k6, .int 0, k8, k9])), (a5, .inl (K 0, 476, .inl (fun _ => 0))), (a6, .inl (K 0, 56, .inl (fun _ => 0))), (a7, .inl (K 0, 6, .inl tm0)), (a8, .inr (10, [r0]))] sz) ((fun _ => []) u) t) (va_A [(a0, .inr (11, [.ref a2, g1, g2, g3, g4, g5, g6, .ref a8, g8, .ref a3, g10, g11, .ref a1, g13, g14, g15, g16])), (a1, .inl (K 0, 5, .inl f)), (a3, .inr (2, [.ref a5, .int 0, .int 0])), (a2, .inr (9, [.ref a6, k1, .ref a7, k3, .int 0, k5, k6, .int 0, k8, k9])), (a5, .inl (K 0, 476, .inl (fun _ => 0))), (a6, .inl (K 0, 56, .inl (fun _ => 0))), (a7, .inl (K 0, 6, .inl tm0)), (a8, .inr (10, [r0]))] sz)) 0 0 (va_A [(a0, .inr (11, [.ref a2, g1, g2, g3, g4, g5, g6, .ref a8, g8, .ref a3, g10, g11, .ref a1, g13, g14, g15, g16])), (a1, .inl (K 0, 5, .inl f)), (a3, .inr (2, [.ref a5, .int 0, .int 0])), (a2, .inr (9, [.ref a6, k1, .ref a7, k3, .int 0, k5, k6, .int 0, k8, k9])), (a5, .inl (K 0, 476, .inl (fun _ => 0))), (a6, .inl (K 0, 56, .inl (fun _ => 0))), (a7, .inl (K 0, 6, .inl tm0)), (a8, .inr (10, [r0]))] sz) := by
  refine Met.ofW (cc := cX11_stoke) (maxL := 2) (ret := (some .int)) (by decide) rfl ?_
  intro p e s m args below meth c s₁ B hml hv
  obtain ⟨rfl, hsz, hP, hK, hD0, hN⟩ := hv
  have hx := B.exec
  have hb := B.bytes
  have hr := B.returns
  have hts := atoms_spec (ws := wsX11_stoke) B.pre
  have hown : s.vm.findClass RX11 = some m.cls := findClass_of_methodNamed B.named
  have hlocks := B.notSynchronized
  subst hsz
  have hD := hD0.self (sz := s.heap.size)
  generalize hAe : va_A [(a0, .inr (11, [.ref a2, g1, g2, g3, g4, g5, g6, .ref a8, g8, .ref a3, g10, g11, .ref a1, g13, g14, g15, g16])), (a1, .inl (K 0, 5, .inl f)), (a3, .inr (2, [.ref a5, .int 0, .int 0])), (a2, .inr (9, [.ref a6, k1, .ref a7, k3, .int 0, k5, k6, .int 0, k8, k9])), (a5, .inl (K 0, 476, .inl (fun _ => 0))), (a6, .inl (K 0, 56, .inl (fun _ => 0))), (a7, .inl (K 0, 6, .inl tm0)), (a8, .inr (10, [r0]))] s.heap.size = A at hD ⊢
  have hA : ∀ q : Nat, s.heap.size ≤ q → A q := fun q h => by rw [← hAe]; exact Or.inr h
  have hS : va_S A s.heap s.heap [] := va_S.rf
  have hP : va_P D vwCl [(a0, .inr (11, [.ref a2, g1, g2, g3, g4, g5, g6, .ref a8, g8, .ref a3, g10, g11, .ref a1, g13, g14, g15, g16])), (a1, .inl (K 0, 5, .inl f)), (a3, .inr (2, [.ref a5, .int 0, .int 0])), (a2, .inr (9, [.ref a6, k1, .ref a7, k3, .int 0, k5, k6, .int 0, k8, k9])), (a5, .inl (K 0, 476, .inl (fun _ => 0))), (a6, .inl (K 0, 56, .inl (fun _ => 0))), (a7, .inl (K 0, 6, .inl tm0)), (a8, .inr (10, [r0]))] s.heap := hP
  have hl := lv_entry [.ref a0, .int x] (n := 2) (Nat.le_of_ble_eq_true rfl)
  rw [lg_entry_eq]
  generalize (lg_sl [.ref a0, .int x] ++ List.replicate (2 - (lg_sl [.ref a0, .int x]).length) Slot.unset).toArray = ls at hl ⊢
  have hl : lv_has ls 2 [(0, .ref a0), (1, .int x)] := hl
  have hw0 : ∀ w ∈ wsX00, w ∈ wsX11_stoke := fun w h => (List.mem_cons_of_mem _ (List.mem_append_left _ (List.mem_append_left _ (List.mem_append_right _ h))))
  have hw2 : ∀ w ∈ wsX20, w ∈ wsX11_stoke := fun w h => (List.mem_cons_of_mem _ (List.mem_append_left _ (List.mem_append_left _ (List.mem_append_left _ (List.mem_append_left _ (List.mem_append_left _ (List.mem_append_right _ h)))))))
  have hw3 : ∀ w ∈ wsX30, w ∈ wsX11_stoke := fun w h => (List.mem_cons_of_mem _ (List.mem_append_right _ h))
  have hw7 : ∀ w ∈ wsX70, w ∈ wsX11_stoke := fun w h => (List.mem_cons_of_mem _ (List.mem_append_left _ (List.mem_append_right _ h)))
  have hw9 : ∀ w ∈ wsX90, w ∈ wsX11_stoke := fun w h => (List.mem_cons_of_mem _ (List.mem_append_left _ (List.mem_append_left _ (List.mem_append_left _ (List.mem_append_left _ (List.mem_append_right _ h))))))
  have hw10 : ∀ w ∈ wsX100, w ∈ wsX11_stoke := fun w h => (List.mem_cons_of_mem _ (List.mem_append_left _ (List.mem_append_left _ (List.mem_append_left _ (List.mem_append_right _ h)))))
  have hw11 : ∀ w ∈ wsX110, w ∈ wsX11_stoke := fun w h => (List.mem_cons_of_mem _ (List.mem_append_left _ (List.mem_append_left _ (List.mem_append_left _ (List.mem_append_left _ (List.mem_append_left _ (List.mem_append_left _ (List.mem_append_right _ h))))))))
  refine lv_aload_n hx hb dX11_stoke_0 rfl (lv_at hl 0 rfl) ?_
  refine va_get (ci := 11) (v := .ref a3) (C := RX11) (T := TX11) (N := 17) hx hb hts hw11 hown hK hP 0 rfl rfl 9 (by decide) (hts (.fieldLink RX11 61 "SmokeTune" "history" "LSmokeTune$History;") (List.mem_cons_of_mem _ (List.mem_append_left _ (List.mem_append_left _ (List.mem_append_left _ (List.mem_append_left _ (List.mem_append_left _ (List.mem_append_left _ (List.mem_append_left _ (List.mem_append_left _ (List.mem_of_getElem? (i := 0) rfl))))))))))) (fun _ h9 => h9) rfl dX11_stoke_1 ?_
  refine lv_aload_n hx hb dX11_stoke_4 rfl (lv_at hl 0 rfl) ?_
  refine va_get (ci := 11) (v := .ref a2) (C := RX11) (T := TX11) (N := 17) hx hb hts hw11 hown hK hP 0 rfl rfl 0 (by decide) (hts (.fieldLink RX11 10 "SmokeTune" "town" "LSmokeTune$Town;") (List.mem_cons_of_mem _ (List.mem_append_left _ (List.mem_append_left _ (List.mem_append_left _ (List.mem_append_left _ (List.mem_append_left _ (List.mem_append_left _ (List.mem_append_left _ (List.mem_append_left _ (List.mem_of_getElem? (i := 1) rfl))))))))))) (fun _ h9 => h9) rfl dX11_stoke_5 ?_
  refine kcv (wr := [(a0, .inr (11, [.ref a2, g1, g2, g3, g4, g5, g6, .ref a8, g8, .ref a3, g10, g11, .ref a1, g13, g14, g15, g16])), (a1, .inl (K 0, 5, .inl f)), (a8, .inr (10, [r0]))]) (va_runVN (As := [.ref a2]) (rest := []) ⟨hx, hb, hml, hown, hts⟩ (c_draft l D K a3 a2 a5 (.int 0) a6 k1 a7 k3 (.int 0) k5 k6 k8 k9 (fun _ => 0) (fun _ => 0) tm0 s.heap.size) ⟨va_cnB 1 hts gX11_stoke_X2_draft_n221 rfl rfl rfl (nst_at hN 69 rfl) (hts (.initialized RX2) (List.mem_cons_of_mem _ (List.mem_append_left _ (List.mem_append_left _ (List.mem_append_left _ (List.mem_append_left _ (List.mem_append_left _ (List.mem_append_left _ (List.mem_append_left _ (List.mem_append_left _ (List.mem_of_getElem? (i := 4) rfl))))))))))) (by decide +kernel) ⟨Nat.le_of_ble_eq_true rfl, Nat.le_of_ble_eq_true rfl⟩, (hts (.instanceMethod yX2_draft) (List.mem_cons_of_mem _ (List.mem_append_left _ (List.mem_append_left _ (List.mem_append_left _ (List.mem_append_left _ (List.mem_append_left _ (List.mem_append_left _ (List.mem_append_left _ (List.mem_append_left _ (List.mem_of_getElem? (i := 3) rfl))))))))))), (hts (.selects RX2 yX2_draft yX2_draft) (List.mem_cons_of_mem _ (List.mem_append_left _ (List.mem_append_left _ (List.mem_append_left _ (List.mem_append_left _ (List.mem_append_left _ (List.mem_append_left _ (List.mem_append_left _ (List.mem_append_left _ (List.mem_of_getElem? (i := 5) rfl)))))))))))⟩ (mkV hK hN (hP.sub [2, 3, 4, 5, 6] rfl) (hD.sub [2, 3, 4, 5, 6] (by decide) rfl) (ci := 2) (q0 := 0) rfl rfl) rfl rfl hl.1 rfl (lv_room (Nat.le_of_ble_eq_true rfl)) dX11_stoke_8 ⟨Nat.le_of_ble_eq_true rfl, Nat.le_of_ble_eq_true rfl⟩) hP hD hS hA [2, 3, 4, 5, 6] [0, 1, 7] rfl rfl (by decide) (by decide) (fun u_2 H locs hw hP hD hS => ?_)
  have hP : va_P D vwCl [(a0, .inr (11, [.ref a2, g1, g2, g3, g4, g5, g6, .ref a8, g8, .ref a3, g10, g11, .ref a1, g13, g14, g15, g16])), (a1, .inl (K 0, 5, .inl f)), (a8, .inr (10, [r0])), (a3, .inr (2, [.ref a5, .int 0, .int 0])), (a2, .inr (9, [.ref a6, k1, .ref a7, k3, .int 0, k5, k6, .int 0, k8, k9])), (a5, .inl (K 0, 476, .inl ((u_2.2.1 0)))), (a6, .inl (K 0, 56, .inl (fun _ => 0))), (a7, .inl (K 0, 6, .inl tm0))] H := hP
  have hD : va_D A [(a0, .inr (11, [.ref a2, g1, g2, g3, g4, g5, g6, .ref a8, g8, .ref a3, g10, g11, .ref a1, g13, g14, g15, g16])), (a1, .inl (K 0, 5, .inl f)), (a8, .inr (10, [r0])), (a3, .inr (2, [.ref a5, .int 0, .int 0])), (a2, .inr (9, [.ref a6, k1, .ref a7, k3, .int 0, k5, k6, .int 0, k8, k9])), (a5, .inl (K 0, 476, .inl ((u_2.2.1 0)))), (a6, .inl (K 0, 56, .inl (fun _ => 0))), (a7, .inl (K 0, 6, .inl tm0))] := hD
  refine lv_aload_n hx hb dX11_stoke_11 rfl (lv_at hl 0 rfl) ?_
  refine lv_iconst (v := 0) hx hb dX11_stoke_12 (by decide) ?_
  refine lv_aload_n hx hb dX11_stoke_13 rfl (lv_at hl 0 rfl) ?_
  refine va_get (ci := 11) (v := .ref a8) (C := RX11) (T := TX11) (N := 17) hx hb hts hw11 hown hK hP 0 rfl rfl 7 (by decide) (hts (.fieldLink RX11 50 "SmokeTune" "works" "LSmokeTune$Works;") (List.mem_cons_of_mem _ (List.mem_append_left _ (List.mem_append_left _ (List.mem_append_left _ (List.mem_append_left _ (List.mem_append_left _ (List.mem_append_left _ (List.mem_append_left _ (List.mem_append_left _ (List.mem_of_getElem? (i := 2) rfl))))))))))) (fun _ h9 => h9) rfl dX11_stoke_14 ?_
  refine lv_aload_n hx hb dX11_stoke_17 rfl (lv_at hl 0 rfl) ?_
  refine va_get (ci := 11) (v := .ref a2) (C := RX11) (T := TX11) (N := 17) hx hb hts hw11 hown hK hP 0 rfl rfl 0 (by decide) (hts (.fieldLink RX11 10 "SmokeTune" "town" "LSmokeTune$Town;") (List.mem_cons_of_mem _ (List.mem_append_left _ (List.mem_append_left _ (List.mem_append_left _ (List.mem_append_left _ (List.mem_append_left _ (List.mem_append_left _ (List.mem_append_left _ (List.mem_append_left _ (List.mem_of_getElem? (i := 1) rfl))))))))))) (fun _ h9 => h9) rfl dX11_stoke_18 ?_
  refine lv_iload_n hx hb dX11_stoke_21 rfl (lv_at hl 1 rfl) ?_
  refine pci (va_runVN (As := [.ref a2, .int x]) (rest := [.int 0, .ref a0]) ⟨hx, hb, hml, hown, hts⟩ (c_kindle l D K a8 a2 x r0 (.ref a6) k1 (.ref a7) k3 k5 k6 (.int 0) k8 k9 H.size) ⟨va_cnB 2 hts gX11_stoke_X10_kindle_n225 rfl rfl rfl (nst_at hN 70 rfl) (hts (.initialized RX10) (List.mem_cons_of_mem _ (List.mem_append_left _ (List.mem_append_left _ (List.mem_append_left _ (List.mem_append_left _ (List.mem_append_left _ (List.mem_append_left _ (List.mem_append_left _ (List.mem_append_left _ (List.mem_of_getElem? (i := 17) rfl))))))))))) (by decide +kernel) ⟨Nat.le_of_ble_eq_true rfl, Nat.le_of_ble_eq_true rfl⟩, (hts (.instanceMethod yX10_kindle) (List.mem_cons_of_mem _ (List.mem_append_left _ (List.mem_append_left _ (List.mem_append_left _ (List.mem_append_left _ (List.mem_append_left _ (List.mem_append_left _ (List.mem_append_left _ (List.mem_append_left _ (List.mem_of_getElem? (i := 16) rfl))))))))))), (hts (.selects RX10 yX10_kindle yX10_kindle) (List.mem_cons_of_mem _ (List.mem_append_left _ (List.mem_append_left _ (List.mem_append_left _ (List.mem_append_left _ (List.mem_append_left _ (List.mem_append_left _ (List.mem_append_left _ (List.mem_append_left _ (List.mem_of_getElem? (i := 18) rfl)))))))))))⟩ (mkV hK hN (hP.sub [2, 4] rfl) (hD.sub [2, 4] (by decide) rfl) (ci := 10) (q0 := 0) rfl rfl) rfl rfl hl.1 rfl (lv_room (Nat.le_of_ble_eq_true rfl)) dX11_stoke_22 ⟨Nat.le_of_ble_eq_true rfl, Nat.le_of_ble_eq_true rfl⟩) (fun r_3 hw => ?_)
  obtain rfl : r_3 = (-2) := hw
  refine kci (wr := [(a8, .inr (10, [r0])), (a3, .inr (2, [.ref a5, .int 0, .int 0])), (a2, .inr (9, [.ref a6, k1, .ref a7, k3, .int 0, k5, k6, .int 0, k8, k9])), (a5, .inl (K 0, 476, .inl ((u_2.2.1 0)))), (a6, .inl (K 0, 56, .inl (fun _ => 0))), (a7, .inl (K 0, 6, .inl tm0))]) (va_runV (As := [.int 0, .int (-2)]) (rest := []) ⟨hx, hb, hml, hown, hts⟩ (c_settle_2 l D K a0 0 (.ref a2) g1 g2 g3 g4 g5 g6 (.ref a8) g8 (.ref a3) g10 g11 a1 g13 g14 g15 g16 f H.size) (cwV 2 hts gX11_stoke_X11_settle rfl rfl rfl (by decide +kernel) ⟨Nat.le_of_ble_eq_true rfl, Nat.le_of_ble_eq_true rfl⟩) (mkV hK hN (hP.sub [0, 1] rfl) (hD.sub [0, 1] (by decide) rfl) (ci := 11) (q0 := 0) rfl rfl) rfl rfl hl.1 rfl (lv_room (Nat.le_of_ble_eq_true rfl)) dX11_stoke_25 ⟨Nat.le_of_ble_eq_true rfl, Nat.le_of_ble_eq_true rfl⟩) hP hD hS hA [0, 1] [2, 3, 4, 5, 6, 7] rfl rfl (by decide) (by decide) (fun r_4 u_5 H locs hw hP hD hS => ?_)
  have hP : va_P D vwCl [(a8, .inr (10, [r0])), (a3, .inr (2, [.ref a5, .int 0, .int 0])), (a2, .inr (9, [.ref a6, k1, .ref a7, k3, .int 0, k5, k6, .int 0, k8, k9])), (a5, .inl (K 0, 476, .inl ((u_2.2.1 0)))), (a6, .inl (K 0, 56, .inl (fun _ => 0))), (a7, .inl (K 0, 6, .inl tm0))] H := hP
  have hD : va_D A [(a8, .inr (10, [r0])), (a3, .inr (2, [.ref a5, .int 0, .int 0])), (a2, .inr (9, [.ref a6, k1, .ref a7, k3, .int 0, k5, k6, .int 0, k8, k9])), (a5, .inl (K 0, 476, .inl ((u_2.2.1 0)))), (a6, .inl (K 0, 56, .inl (fun _ => 0))), (a7, .inl (K 0, 6, .inl tm0))] := hD
  obtain rfl : r_4 = (-2) := hw
  exact W.iret (v := (-2)) hx hb hr (fun t ht hW => ⟨⟨(-2), (), rfl, (by first | exact rfl), Wd.nil⟩, hS.F ht⟩) hS.2.2 dX11_stoke_28
set_option maxHeartbeats 4000000 in
set_option maxRecDepth 100000 in
theorem t_damp (l : Launch) (D : va_G) (K : Nat → ClassId) (a0 : Nat) (x : Int32) (y : Int32) (a2 : Nat) (g1 : Value) (g2 : Value) (g3 : Value) (g4 : Value) (g5 : Value) (g6 : Value) (a8 : Nat) (g8 : Value) (a3 : Nat) (g10 : Value) (g11 : Value) (a1 : Nat) (g13 : Value) (g14 : Value) (g15 : Value) (g16 : Value) (f : Nat → Int32) (a5 : Nat) (a6 : Nat) (k1 : Value) (a7 : Nat) (k3 : Value) (k5 : Value) (k6 : Value) (k8 : Value) (k9 : Value) (r0 : Value) (sz : Nat) : Met l yX11_damp wsX11_damp ({ frames := 3, cells := 0, slots := 0, locals := 66 }) (va_Pc [.ref a0, .int x, .int y] (Pre D K [(a0, .inr (11, [.ref a2, g1, g2, g3, g4, g5, g6, .ref a8, g8, .ref a3, g10, g11, .ref a1, g13, g14, g15, g16])), (a1, .inl (K 0, 5, .inl f)), (a3, .inr (2, [.ref a5, .int 0, .int 0])), (a2, .inr (9, [.ref a6, k1, .ref a7, k3, .int 0, k5, k6, .int 0, k8, k9])), (a5, .inl (K 0, 476, .inl (fun _ => 0))), (a6, .inl (K 0, 56, .inl (fun _ => 0))), (a7, .inl (K 0, 6, .inl tm0)), (a8, .inr (10, [r0]))] sz)) (va_Qi (S := Unit) (fun (r : Int32) (_ : Unit) => (r = (-2) ∧ 1 ≤ y.toInt ∧ y.toInt ≤ 20) ∨ (r = (-1) ∧ (y.toInt < 1 ∨ 20 < y.toInt))) (fun u t => Wd D (va_A [(a0, .inr (11, [.ref a2, g1, g2, g3, g4, g5, g6, .ref a8, g8, .ref a3, g10, g11, .ref a1, g13, g14, g15, g16])), (a1, .inl (K 0, 5, .inl f)), (a3, .inr (2, [.ref a5, .int 0, .int 0])), (a2, .inr (9, [.ref a6, k1, .ref a7, k3, .int 0, k5, k6, .int 0, k8, k9])), (a5, .inl (K 0, 476, .inl (fun _ => 0))), (a6, .inl (K 0, 56, .inl (fun _ => 0))), (a7, .inl (K 0, 6, .inl tm0)), (a8, .inr (10, [r0]))] sz) ((fun _ => []) u) t) (va_A [(a0, .inr (11, [.ref a2, g1, g2, g3, g4, g5, g6, .ref a8, g8, .ref a3, g10, g11, .ref a1, g13, g14, g15, g16])), (a1, .inl (K 0, 5, .inl f)), (a3, .inr (2, [.ref a5, .int 0, .int 0])), (a2, .inr (9, [.ref a6, k1, .ref a7, k3, .int 0, k5, k6, .int 0, k8, k9])), (a5, .inl (K 0, 476, .inl (fun _ => 0))), (a6, .inl (K 0, 56, .inl (fun _ => 0))), (a7, .inl (K 0, 6, .inl tm0)), (a8, .inr (10, [r0]))] sz)) 0 0 (va_A [(a0, .inr (11, [.ref a2, g1, g2, g3, g4, g5, g6, .ref a8, g8, .ref a3, g10, g11, .ref a1, g13, g14, g15, g16])), (a1, .inl (K 0, 5, .inl f)), (a3, .inr (2, [.ref a5, .int 0, .int 0])), (a2, .inr (9, [.ref a6, k1, .ref a7, k3, .int 0, k5, k6, .int 0, k8, k9])), (a5, .inl (K 0, 476, .inl (fun _ => 0))), (a6, .inl (K 0, 56, .inl (fun _ => 0))), (a7, .inl (K 0, 6, .inl tm0)), (a8, .inr (10, [r0]))] sz) := by
  refine Met.ofW (cc := cX11_damp) (maxL := 3) (ret := (some .int)) (by decide) rfl ?_
  intro p e s m args below meth c s₁ B hml hv
  obtain ⟨rfl, hsz, hP, hK, hD0, hN⟩ := hv
  have hx := B.exec
  have hb := B.bytes
  have hr := B.returns
  have hts := atoms_spec (ws := wsX11_damp) B.pre
  have hown : s.vm.findClass RX11 = some m.cls := findClass_of_methodNamed B.named
  have hlocks := B.notSynchronized
  subst hsz
  have hD := hD0.self (sz := s.heap.size)
  generalize hAe : va_A [(a0, .inr (11, [.ref a2, g1, g2, g3, g4, g5, g6, .ref a8, g8, .ref a3, g10, g11, .ref a1, g13, g14, g15, g16])), (a1, .inl (K 0, 5, .inl f)), (a3, .inr (2, [.ref a5, .int 0, .int 0])), (a2, .inr (9, [.ref a6, k1, .ref a7, k3, .int 0, k5, k6, .int 0, k8, k9])), (a5, .inl (K 0, 476, .inl (fun _ => 0))), (a6, .inl (K 0, 56, .inl (fun _ => 0))), (a7, .inl (K 0, 6, .inl tm0)), (a8, .inr (10, [r0]))] s.heap.size = A at hD ⊢
  have hA : ∀ q : Nat, s.heap.size ≤ q → A q := fun q h => by rw [← hAe]; exact Or.inr h
  have hS : va_S A s.heap s.heap [] := va_S.rf
  have hP : va_P D vwCl [(a0, .inr (11, [.ref a2, g1, g2, g3, g4, g5, g6, .ref a8, g8, .ref a3, g10, g11, .ref a1, g13, g14, g15, g16])), (a1, .inl (K 0, 5, .inl f)), (a3, .inr (2, [.ref a5, .int 0, .int 0])), (a2, .inr (9, [.ref a6, k1, .ref a7, k3, .int 0, k5, k6, .int 0, k8, k9])), (a5, .inl (K 0, 476, .inl (fun _ => 0))), (a6, .inl (K 0, 56, .inl (fun _ => 0))), (a7, .inl (K 0, 6, .inl tm0)), (a8, .inr (10, [r0]))] s.heap := hP
  have hl := lv_entry [.ref a0, .int x, .int y] (n := 3) (Nat.le_of_ble_eq_true rfl)
  rw [lg_entry_eq]
  generalize (lg_sl [.ref a0, .int x, .int y] ++ List.replicate (3 - (lg_sl [.ref a0, .int x, .int y]).length) Slot.unset).toArray = ls at hl ⊢
  have hl : lv_has ls 3 [(0, .ref a0), (1, .int x), (2, .int y)] := hl
  have hw2 : ∀ w ∈ wsX20, w ∈ wsX11_damp := fun w h => (List.mem_cons_of_mem _ (List.mem_append_left _ (List.mem_append_right _ h)))
  have hw9 : ∀ w ∈ wsX90, w ∈ wsX11_damp := fun w h => (List.mem_cons_of_mem _ (List.mem_append_right _ h))
  have hw11 : ∀ w ∈ wsX110, w ∈ wsX11_damp := fun w h => (List.mem_cons_of_mem _ (List.mem_append_left _ (List.mem_append_left _ (List.mem_append_right _ h))))
  refine lv_aload_n hx hb dX11_damp_0 rfl (lv_at hl 0 rfl) ?_
  refine va_get (ci := 11) (v := .ref a3) (C := RX11) (T := TX11) (N := 17) hx hb hts hw11 hown hK hP 0 rfl rfl 9 (by decide) (hts (.fieldLink RX11 61 "SmokeTune" "history" "LSmokeTune$History;") (List.mem_cons_of_mem _ (List.mem_append_left _ (List.mem_append_left _ (List.mem_append_left _ (List.mem_append_left _ (List.mem_of_getElem? (i := 0) rfl))))))) (fun _ h9 => h9) rfl dX11_damp_1 ?_
  refine lv_aload_n hx hb dX11_damp_4 rfl (lv_at hl 0 rfl) ?_
  refine va_get (ci := 11) (v := .ref a2) (C := RX11) (T := TX11) (N := 17) hx hb hts hw11 hown hK hP 0 rfl rfl 0 (by decide) (hts (.fieldLink RX11 10 "SmokeTune" "town" "LSmokeTune$Town;") (List.mem_cons_of_mem _ (List.mem_append_left _ (List.mem_append_left _ (List.mem_append_left _ (List.mem_append_left _ (List.mem_of_getElem? (i := 1) rfl))))))) (fun _ h9 => h9) rfl dX11_damp_5 ?_
  refine kcv (wr := [(a0, .inr (11, [.ref a2, g1, g2, g3, g4, g5, g6, .ref a8, g8, .ref a3, g10, g11, .ref a1, g13, g14, g15, g16])), (a1, .inl (K 0, 5, .inl f)), (a8, .inr (10, [r0]))]) (va_runVN (As := [.ref a2]) (rest := []) ⟨hx, hb, hml, hown, hts⟩ (c_draft l D K a3 a2 a5 (.int 0) a6 k1 a7 k3 (.int 0) k5 k6 k8 k9 (fun _ => 0) (fun _ => 0) tm0 s.heap.size) ⟨va_cnB 1 hts gX11_damp_X2_draft_n221 rfl rfl rfl (nst_at hN 69 rfl) (hts (.initialized RX2) (List.mem_cons_of_mem _ (List.mem_append_left _ (List.mem_append_left _ (List.mem_append_left _ (List.mem_append_left _ (List.mem_of_getElem? (i := 4) rfl))))))) (by decide +kernel) ⟨Nat.le_of_ble_eq_true rfl, Nat.le_of_ble_eq_true rfl⟩, (hts (.instanceMethod yX2_draft) (List.mem_cons_of_mem _ (List.mem_append_left _ (List.mem_append_left _ (List.mem_append_left _ (List.mem_append_left _ (List.mem_of_getElem? (i := 3) rfl))))))), (hts (.selects RX2 yX2_draft yX2_draft) (List.mem_cons_of_mem _ (List.mem_append_left _ (List.mem_append_left _ (List.mem_append_left _ (List.mem_append_left _ (List.mem_of_getElem? (i := 5) rfl)))))))⟩ (mkV hK hN (hP.sub [2, 3, 4, 5, 6] rfl) (hD.sub [2, 3, 4, 5, 6] (by decide) rfl) (ci := 2) (q0 := 0) rfl rfl) rfl rfl hl.1 rfl (lv_room (Nat.le_of_ble_eq_true rfl)) dX11_damp_8 ⟨Nat.le_of_ble_eq_true rfl, Nat.le_of_ble_eq_true rfl⟩) hP hD hS hA [2, 3, 4, 5, 6] [0, 1, 7] rfl rfl (by decide) (by decide) (fun u_2 H locs hw hP hD hS => ?_)
  have hP : va_P D vwCl [(a0, .inr (11, [.ref a2, g1, g2, g3, g4, g5, g6, .ref a8, g8, .ref a3, g10, g11, .ref a1, g13, g14, g15, g16])), (a1, .inl (K 0, 5, .inl f)), (a8, .inr (10, [r0])), (a3, .inr (2, [.ref a5, .int 0, .int 0])), (a2, .inr (9, [.ref a6, k1, .ref a7, k3, .int 0, k5, k6, .int 0, k8, k9])), (a5, .inl (K 0, 476, .inl ((u_2.2.1 0)))), (a6, .inl (K 0, 56, .inl (fun _ => 0))), (a7, .inl (K 0, 6, .inl tm0))] H := hP
  have hD : va_D A [(a0, .inr (11, [.ref a2, g1, g2, g3, g4, g5, g6, .ref a8, g8, .ref a3, g10, g11, .ref a1, g13, g14, g15, g16])), (a1, .inl (K 0, 5, .inl f)), (a8, .inr (10, [r0])), (a3, .inr (2, [.ref a5, .int 0, .int 0])), (a2, .inr (9, [.ref a6, k1, .ref a7, k3, .int 0, k5, k6, .int 0, k8, k9])), (a5, .inl (K 0, 476, .inl ((u_2.2.1 0)))), (a6, .inl (K 0, 56, .inl (fun _ => 0))), (a7, .inl (K 0, 6, .inl tm0))] := hD
  refine lv_aload_n hx hb dX11_damp_11 rfl (lv_at hl 0 rfl) ?_
  refine lv_iconst (v := 1) hx hb dX11_damp_12 (by decide) ?_
  refine lv_aload_n hx hb dX11_damp_13 rfl (lv_at hl 0 rfl) ?_
  refine va_get (ci := 11) (v := .ref a8) (C := RX11) (T := TX11) (N := 17) hx hb hts hw11 hown hK hP 0 rfl rfl 7 (by decide) (hts (.fieldLink RX11 50 "SmokeTune" "works" "LSmokeTune$Works;") (List.mem_cons_of_mem _ (List.mem_append_left _ (List.mem_append_left _ (List.mem_append_left _ (List.mem_append_left _ (List.mem_of_getElem? (i := 2) rfl))))))) (fun _ h9 => h9) rfl dX11_damp_14 ?_
  refine lv_aload_n hx hb dX11_damp_17 rfl (lv_at hl 0 rfl) ?_
  refine va_get (ci := 11) (v := .ref a2) (C := RX11) (T := TX11) (N := 17) hx hb hts hw11 hown hK hP 0 rfl rfl 0 (by decide) (hts (.fieldLink RX11 10 "SmokeTune" "town" "LSmokeTune$Town;") (List.mem_cons_of_mem _ (List.mem_append_left _ (List.mem_append_left _ (List.mem_append_left _ (List.mem_append_left _ (List.mem_of_getElem? (i := 1) rfl))))))) (fun _ h9 => h9) rfl dX11_damp_18 ?_
  refine lv_iload_n hx hb dX11_damp_21 rfl (lv_at hl 1 rfl) ?_
  refine lv_iload_n hx hb dX11_damp_22 rfl (lv_at hl 2 rfl) ?_
  refine pci (va_runVN (As := [.ref a2, .int x, .int y]) (rest := [.int 1, .ref a0]) ⟨hx, hb, hml, hown, hts⟩ (c_quench l D K a8 a2 x y r0 (.ref a6) k1 (.ref a7) k3 k5 k6 (.int 0) k8 k9 y.toInt H.size rfl) ⟨va_cnB 3 hts gX11_damp_X10_quench_n232 rfl rfl rfl (nst_at hN 72 rfl) (hts (.initialized RX10) (List.mem_cons_of_mem _ (List.mem_append_left _ (List.mem_append_left _ (List.mem_append_left _ (List.mem_append_left _ (List.mem_of_getElem? (i := 17) rfl))))))) (by decide +kernel) ⟨Nat.le_of_ble_eq_true rfl, Nat.le_of_ble_eq_true rfl⟩, (hts (.instanceMethod yX10_quench) (List.mem_cons_of_mem _ (List.mem_append_left _ (List.mem_append_left _ (List.mem_append_left _ (List.mem_append_left _ (List.mem_of_getElem? (i := 16) rfl))))))), (hts (.selects RX10 yX10_quench yX10_quench) (List.mem_cons_of_mem _ (List.mem_append_left _ (List.mem_append_left _ (List.mem_append_left _ (List.mem_append_left _ (List.mem_of_getElem? (i := 18) rfl)))))))⟩ (mkV hK hN (hP.sub [2, 4] rfl) (hD.sub [2, 4] (by decide) rfl) (ci := 10) (q0 := 0) rfl rfl) rfl rfl hl.1 rfl (lv_room (Nat.le_of_ble_eq_true rfl)) dX11_damp_23 ⟨Nat.le_of_ble_eq_true rfl, Nat.le_of_ble_eq_true rfl⟩) (fun r_3 hw => ?_)
  rcases hw with ⟨rfl, h_4, h_5⟩ | ⟨rfl, h_6⟩
  · refine kci (wr := [(a8, .inr (10, [r0])), (a3, .inr (2, [.ref a5, .int 0, .int 0])), (a2, .inr (9, [.ref a6, k1, .ref a7, k3, .int 0, k5, k6, .int 0, k8, k9])), (a5, .inl (K 0, 476, .inl ((u_2.2.1 0)))), (a6, .inl (K 0, 56, .inl (fun _ => 0))), (a7, .inl (K 0, 6, .inl tm0))]) (va_runV (As := [.int 1, .int (-2)]) (rest := []) ⟨hx, hb, hml, hown, hts⟩ (c_settle_2 l D K a0 1 (.ref a2) g1 g2 g3 g4 g5 g6 (.ref a8) g8 (.ref a3) g10 g11 a1 g13 g14 g15 g16 f H.size) (cwV 2 hts gX11_damp_X11_settle rfl rfl rfl (by decide +kernel) ⟨Nat.le_of_ble_eq_true rfl, Nat.le_of_ble_eq_true rfl⟩) (mkV hK hN (hP.sub [0, 1] rfl) (hD.sub [0, 1] (by decide) rfl) (ci := 11) (q0 := 0) rfl rfl) rfl rfl hl.1 rfl (lv_room (Nat.le_of_ble_eq_true rfl)) dX11_damp_26 ⟨Nat.le_of_ble_eq_true rfl, Nat.le_of_ble_eq_true rfl⟩) hP hD hS hA [0, 1] [2, 3, 4, 5, 6, 7] rfl rfl (by decide) (by decide) (fun r_7 u_8 H locs hw hP hD hS => ?_)
    have hP : va_P D vwCl [(a8, .inr (10, [r0])), (a3, .inr (2, [.ref a5, .int 0, .int 0])), (a2, .inr (9, [.ref a6, k1, .ref a7, k3, .int 0, k5, k6, .int 0, k8, k9])), (a5, .inl (K 0, 476, .inl ((u_2.2.1 0)))), (a6, .inl (K 0, 56, .inl (fun _ => 0))), (a7, .inl (K 0, 6, .inl tm0))] H := hP
    have hD : va_D A [(a8, .inr (10, [r0])), (a3, .inr (2, [.ref a5, .int 0, .int 0])), (a2, .inr (9, [.ref a6, k1, .ref a7, k3, .int 0, k5, k6, .int 0, k8, k9])), (a5, .inl (K 0, 476, .inl ((u_2.2.1 0)))), (a6, .inl (K 0, 56, .inl (fun _ => 0))), (a7, .inl (K 0, 6, .inl tm0))] := hD
    obtain rfl : r_7 = (-2) := hw
    exact W.iret (v := (-2)) hx hb hr (fun t ht hW => ⟨⟨(-2), (), rfl, (by first | exact Or.inl (⟨rfl, by first | omega | decide | (subst_vars; assumption) | (subst_vars; symm; assumption), by first | omega | decide | (subst_vars; assumption) | (subst_vars; symm; assumption)⟩)), Wd.nil⟩, hS.F ht⟩) hS.2.2 dX11_damp_29
  · refine kci (wr := [(a8, .inr (10, [r0])), (a3, .inr (2, [.ref a5, .int 0, .int 0])), (a2, .inr (9, [.ref a6, k1, .ref a7, k3, .int 0, k5, k6, .int 0, k8, k9])), (a5, .inl (K 0, 476, .inl ((u_2.2.1 0)))), (a6, .inl (K 0, 56, .inl (fun _ => 0))), (a7, .inl (K 0, 6, .inl tm0))]) (va_runV (As := [.int 1, .int (-1)]) (rest := []) ⟨hx, hb, hml, hown, hts⟩ (c_settle_1 l D K a0 1 (.ref a2) g1 g2 g3 g4 g5 g6 (.ref a8) g8 (.ref a3) g10 g11 a1 g13 g14 g15 g16 f H.size) (cwV 2 hts gX11_damp_X11_settle rfl rfl rfl (by decide +kernel) ⟨Nat.le_of_ble_eq_true rfl, Nat.le_of_ble_eq_true rfl⟩) (mkV hK hN (hP.sub [0, 1] rfl) (hD.sub [0, 1] (by decide) rfl) (ci := 11) (q0 := 0) rfl rfl) rfl rfl hl.1 rfl (lv_room (Nat.le_of_ble_eq_true rfl)) dX11_damp_26 ⟨Nat.le_of_ble_eq_true rfl, Nat.le_of_ble_eq_true rfl⟩) hP hD hS hA [0, 1] [2, 3, 4, 5, 6, 7] rfl rfl (by decide) (by decide) (fun r_9 u_10 H locs hw hP hD hS => ?_)
    have hP : va_P D vwCl [(a8, .inr (10, [r0])), (a3, .inr (2, [.ref a5, .int 0, .int 0])), (a2, .inr (9, [.ref a6, k1, .ref a7, k3, .int 0, k5, k6, .int 0, k8, k9])), (a5, .inl (K 0, 476, .inl ((u_2.2.1 0)))), (a6, .inl (K 0, 56, .inl (fun _ => 0))), (a7, .inl (K 0, 6, .inl tm0))] H := hP
    have hD : va_D A [(a8, .inr (10, [r0])), (a3, .inr (2, [.ref a5, .int 0, .int 0])), (a2, .inr (9, [.ref a6, k1, .ref a7, k3, .int 0, k5, k6, .int 0, k8, k9])), (a5, .inl (K 0, 476, .inl ((u_2.2.1 0)))), (a6, .inl (K 0, 56, .inl (fun _ => 0))), (a7, .inl (K 0, 6, .inl tm0))] := hD
    obtain rfl : r_9 = (-1) := hw
    exact W.iret (v := (-1)) hx hb hr (fun t ht hW => ⟨⟨(-1), (), rfl, (by first | exact Or.inr (⟨rfl, by first | omega | decide | (subst_vars; assumption) | (subst_vars; symm; assumption)⟩)), Wd.nil⟩, hS.F ht⟩) hS.2.2 dX11_damp_29
set_option maxHeartbeats 4000000 in
set_option maxRecDepth 100000 in
theorem t_buy (l : Launch) (D : va_G) (K : Nat → ClassId) (a0 : Nat) (x : Int32) (y : Int32) (a2 : Nat) (g1 : Value) (g2 : Value) (g3 : Value) (g4 : Value) (g5 : Value) (g6 : Value) (a8 : Nat) (g8 : Value) (a3 : Nat) (g10 : Value) (g11 : Value) (a1 : Nat) (g13 : Value) (g14 : Value) (g15 : Value) (g16 : Value) (f : Nat → Int32) (a5 : Nat) (a6 : Nat) (k1 : Value) (a7 : Nat) (k3 : Value) (k5 : Value) (k6 : Value) (k8 : Value) (k9 : Value) (r0 : Value) (sz : Nat) : Met l yX11_buy wsX11_buy ({ frames := 3, cells := 0, slots := 0, locals := 66 }) (va_Pc [.ref a0, .int x, .int y] (Pre D K [(a0, .inr (11, [.ref a2, g1, g2, g3, g4, g5, g6, .ref a8, g8, .ref a3, g10, g11, .ref a1, g13, g14, g15, g16])), (a1, .inl (K 0, 5, .inl f)), (a3, .inr (2, [.ref a5, .int 0, .int 0])), (a2, .inr (9, [.ref a6, k1, .ref a7, k3, .int 0, k5, k6, .int 0, k8, k9])), (a5, .inl (K 0, 476, .inl (fun _ => 0))), (a6, .inl (K 0, 56, .inl (fun _ => 0))), (a7, .inl (K 0, 6, .inl tm0)), (a8, .inr (10, [r0]))] sz)) (va_Qi (S := Unit) (fun (r : Int32) (_ : Unit) => (r = (-2) ∧ 1 ≤ y.toInt ∧ y.toInt ≤ 999) ∨ (r = (-1) ∧ (y.toInt < 1 ∨ 999 < y.toInt))) (fun u t => Wd D (va_A [(a0, .inr (11, [.ref a2, g1, g2, g3, g4, g5, g6, .ref a8, g8, .ref a3, g10, g11, .ref a1, g13, g14, g15, g16])), (a1, .inl (K 0, 5, .inl f)), (a3, .inr (2, [.ref a5, .int 0, .int 0])), (a2, .inr (9, [.ref a6, k1, .ref a7, k3, .int 0, k5, k6, .int 0, k8, k9])), (a5, .inl (K 0, 476, .inl (fun _ => 0))), (a6, .inl (K 0, 56, .inl (fun _ => 0))), (a7, .inl (K 0, 6, .inl tm0)), (a8, .inr (10, [r0]))] sz) ((fun _ => []) u) t) (va_A [(a0, .inr (11, [.ref a2, g1, g2, g3, g4, g5, g6, .ref a8, g8, .ref a3, g10, g11, .ref a1, g13, g14, g15, g16])), (a1, .inl (K 0, 5, .inl f)), (a3, .inr (2, [.ref a5, .int 0, .int 0])), (a2, .inr (9, [.ref a6, k1, .ref a7, k3, .int 0, k5, k6, .int 0, k8, k9])), (a5, .inl (K 0, 476, .inl (fun _ => 0))), (a6, .inl (K 0, 56, .inl (fun _ => 0))), (a7, .inl (K 0, 6, .inl tm0)), (a8, .inr (10, [r0]))] sz)) 0 0 (va_A [(a0, .inr (11, [.ref a2, g1, g2, g3, g4, g5, g6, .ref a8, g8, .ref a3, g10, g11, .ref a1, g13, g14, g15, g16])), (a1, .inl (K 0, 5, .inl f)), (a3, .inr (2, [.ref a5, .int 0, .int 0])), (a2, .inr (9, [.ref a6, k1, .ref a7, k3, .int 0, k5, k6, .int 0, k8, k9])), (a5, .inl (K 0, 476, .inl (fun _ => 0))), (a6, .inl (K 0, 56, .inl (fun _ => 0))), (a7, .inl (K 0, 6, .inl tm0)), (a8, .inr (10, [r0]))] sz) := by
  refine Met.ofW (cc := cX11_buy) (maxL := 3) (ret := (some .int)) (by decide) rfl ?_
  intro p e s m args below meth c s₁ B hml hv
  obtain ⟨rfl, hsz, hP, hK, hD0, hN⟩ := hv
  have hx := B.exec
  have hb := B.bytes
  have hr := B.returns
  have hts := atoms_spec (ws := wsX11_buy) B.pre
  have hown : s.vm.findClass RX11 = some m.cls := findClass_of_methodNamed B.named
  have hlocks := B.notSynchronized
  subst hsz
  have hD := hD0.self (sz := s.heap.size)
  generalize hAe : va_A [(a0, .inr (11, [.ref a2, g1, g2, g3, g4, g5, g6, .ref a8, g8, .ref a3, g10, g11, .ref a1, g13, g14, g15, g16])), (a1, .inl (K 0, 5, .inl f)), (a3, .inr (2, [.ref a5, .int 0, .int 0])), (a2, .inr (9, [.ref a6, k1, .ref a7, k3, .int 0, k5, k6, .int 0, k8, k9])), (a5, .inl (K 0, 476, .inl (fun _ => 0))), (a6, .inl (K 0, 56, .inl (fun _ => 0))), (a7, .inl (K 0, 6, .inl tm0)), (a8, .inr (10, [r0]))] s.heap.size = A at hD ⊢
  have hA : ∀ q : Nat, s.heap.size ≤ q → A q := fun q h => by rw [← hAe]; exact Or.inr h
  have hS : va_S A s.heap s.heap [] := va_S.rf
  have hP : va_P D vwCl [(a0, .inr (11, [.ref a2, g1, g2, g3, g4, g5, g6, .ref a8, g8, .ref a3, g10, g11, .ref a1, g13, g14, g15, g16])), (a1, .inl (K 0, 5, .inl f)), (a3, .inr (2, [.ref a5, .int 0, .int 0])), (a2, .inr (9, [.ref a6, k1, .ref a7, k3, .int 0, k5, k6, .int 0, k8, k9])), (a5, .inl (K 0, 476, .inl (fun _ => 0))), (a6, .inl (K 0, 56, .inl (fun _ => 0))), (a7, .inl (K 0, 6, .inl tm0)), (a8, .inr (10, [r0]))] s.heap := hP
  have hl := lv_entry [.ref a0, .int x, .int y] (n := 3) (Nat.le_of_ble_eq_true rfl)
  rw [lg_entry_eq]
  generalize (lg_sl [.ref a0, .int x, .int y] ++ List.replicate (3 - (lg_sl [.ref a0, .int x, .int y]).length) Slot.unset).toArray = ls at hl ⊢
  have hl : lv_has ls 3 [(0, .ref a0), (1, .int x), (2, .int y)] := hl
  have hw2 : ∀ w ∈ wsX20, w ∈ wsX11_buy := fun w h => (List.mem_cons_of_mem _ (List.mem_append_left _ (List.mem_append_right _ h)))
  have hw9 : ∀ w ∈ wsX90, w ∈ wsX11_buy := fun w h => (List.mem_cons_of_mem _ (List.mem_append_right _ h))
  have hw11 : ∀ w ∈ wsX110, w ∈ wsX11_buy := fun w h => (List.mem_cons_of_mem _ (List.mem_append_left _ (List.mem_append_left _ (List.mem_append_right _ h))))
  refine lv_aload_n hx hb dX11_buy_0 rfl (lv_at hl 0 rfl) ?_
  refine va_get (ci := 11) (v := .ref a3) (C := RX11) (T := TX11) (N := 17) hx hb hts hw11 hown hK hP 0 rfl rfl 9 (by decide) (hts (.fieldLink RX11 61 "SmokeTune" "history" "LSmokeTune$History;") (List.mem_cons_of_mem _ (List.mem_append_left _ (List.mem_append_left _ (List.mem_append_left _ (List.mem_append_left _ (List.mem_of_getElem? (i := 0) rfl))))))) (fun _ h9 => h9) rfl dX11_buy_1 ?_
  refine lv_aload_n hx hb dX11_buy_4 rfl (lv_at hl 0 rfl) ?_
  refine va_get (ci := 11) (v := .ref a2) (C := RX11) (T := TX11) (N := 17) hx hb hts hw11 hown hK hP 0 rfl rfl 0 (by decide) (hts (.fieldLink RX11 10 "SmokeTune" "town" "LSmokeTune$Town;") (List.mem_cons_of_mem _ (List.mem_append_left _ (List.mem_append_left _ (List.mem_append_left _ (List.mem_append_left _ (List.mem_of_getElem? (i := 1) rfl))))))) (fun _ h9 => h9) rfl dX11_buy_5 ?_
  refine kcv (wr := [(a0, .inr (11, [.ref a2, g1, g2, g3, g4, g5, g6, .ref a8, g8, .ref a3, g10, g11, .ref a1, g13, g14, g15, g16])), (a1, .inl (K 0, 5, .inl f)), (a8, .inr (10, [r0]))]) (va_runVN (As := [.ref a2]) (rest := []) ⟨hx, hb, hml, hown, hts⟩ (c_draft l D K a3 a2 a5 (.int 0) a6 k1 a7 k3 (.int 0) k5 k6 k8 k9 (fun _ => 0) (fun _ => 0) tm0 s.heap.size) ⟨va_cnB 1 hts gX11_buy_X2_draft_n221 rfl rfl rfl (nst_at hN 69 rfl) (hts (.initialized RX2) (List.mem_cons_of_mem _ (List.mem_append_left _ (List.mem_append_left _ (List.mem_append_left _ (List.mem_append_left _ (List.mem_of_getElem? (i := 4) rfl))))))) (by decide +kernel) ⟨Nat.le_of_ble_eq_true rfl, Nat.le_of_ble_eq_true rfl⟩, (hts (.instanceMethod yX2_draft) (List.mem_cons_of_mem _ (List.mem_append_left _ (List.mem_append_left _ (List.mem_append_left _ (List.mem_append_left _ (List.mem_of_getElem? (i := 3) rfl))))))), (hts (.selects RX2 yX2_draft yX2_draft) (List.mem_cons_of_mem _ (List.mem_append_left _ (List.mem_append_left _ (List.mem_append_left _ (List.mem_append_left _ (List.mem_of_getElem? (i := 5) rfl)))))))⟩ (mkV hK hN (hP.sub [2, 3, 4, 5, 6] rfl) (hD.sub [2, 3, 4, 5, 6] (by decide) rfl) (ci := 2) (q0 := 0) rfl rfl) rfl rfl hl.1 rfl (lv_room (Nat.le_of_ble_eq_true rfl)) dX11_buy_8 ⟨Nat.le_of_ble_eq_true rfl, Nat.le_of_ble_eq_true rfl⟩) hP hD hS hA [2, 3, 4, 5, 6] [0, 1, 7] rfl rfl (by decide) (by decide) (fun u_2 H locs hw hP hD hS => ?_)
  have hP : va_P D vwCl [(a0, .inr (11, [.ref a2, g1, g2, g3, g4, g5, g6, .ref a8, g8, .ref a3, g10, g11, .ref a1, g13, g14, g15, g16])), (a1, .inl (K 0, 5, .inl f)), (a8, .inr (10, [r0])), (a3, .inr (2, [.ref a5, .int 0, .int 0])), (a2, .inr (9, [.ref a6, k1, .ref a7, k3, .int 0, k5, k6, .int 0, k8, k9])), (a5, .inl (K 0, 476, .inl ((u_2.2.1 0)))), (a6, .inl (K 0, 56, .inl (fun _ => 0))), (a7, .inl (K 0, 6, .inl tm0))] H := hP
  have hD : va_D A [(a0, .inr (11, [.ref a2, g1, g2, g3, g4, g5, g6, .ref a8, g8, .ref a3, g10, g11, .ref a1, g13, g14, g15, g16])), (a1, .inl (K 0, 5, .inl f)), (a8, .inr (10, [r0])), (a3, .inr (2, [.ref a5, .int 0, .int 0])), (a2, .inr (9, [.ref a6, k1, .ref a7, k3, .int 0, k5, k6, .int 0, k8, k9])), (a5, .inl (K 0, 476, .inl ((u_2.2.1 0)))), (a6, .inl (K 0, 56, .inl (fun _ => 0))), (a7, .inl (K 0, 6, .inl tm0))] := hD
  refine lv_aload_n hx hb dX11_buy_11 rfl (lv_at hl 0 rfl) ?_
  refine lv_iconst (v := 2) hx hb dX11_buy_12 (by decide) ?_
  refine lv_aload_n hx hb dX11_buy_13 rfl (lv_at hl 0 rfl) ?_
  refine va_get (ci := 11) (v := .ref a8) (C := RX11) (T := TX11) (N := 17) hx hb hts hw11 hown hK hP 0 rfl rfl 7 (by decide) (hts (.fieldLink RX11 50 "SmokeTune" "works" "LSmokeTune$Works;") (List.mem_cons_of_mem _ (List.mem_append_left _ (List.mem_append_left _ (List.mem_append_left _ (List.mem_append_left _ (List.mem_of_getElem? (i := 2) rfl))))))) (fun _ h9 => h9) rfl dX11_buy_14 ?_
  refine lv_aload_n hx hb dX11_buy_17 rfl (lv_at hl 0 rfl) ?_
  refine va_get (ci := 11) (v := .ref a2) (C := RX11) (T := TX11) (N := 17) hx hb hts hw11 hown hK hP 0 rfl rfl 0 (by decide) (hts (.fieldLink RX11 10 "SmokeTune" "town" "LSmokeTune$Town;") (List.mem_cons_of_mem _ (List.mem_append_left _ (List.mem_append_left _ (List.mem_append_left _ (List.mem_append_left _ (List.mem_of_getElem? (i := 1) rfl))))))) (fun _ h9 => h9) rfl dX11_buy_18 ?_
  refine lv_iload_n hx hb dX11_buy_21 rfl (lv_at hl 1 rfl) ?_
  refine lv_iload_n hx hb dX11_buy_22 rfl (lv_at hl 2 rfl) ?_
  refine pci (va_runVN (As := [.ref a2, .int x, .int y]) (rest := [.int 2, .ref a0]) ⟨hx, hb, hml, hown, hts⟩ (c_supply l D K a8 a2 x y r0 (.ref a6) k1 (.ref a7) k3 k5 k6 (.int 0) k8 k9 y.toInt H.size rfl) ⟨va_cnB 3 hts gX11_buy_X10_supply_n236 rfl rfl rfl (nst_at hN 73 rfl) (hts (.initialized RX10) (List.mem_cons_of_mem _ (List.mem_append_left _ (List.mem_append_left _ (List.mem_append_left _ (List.mem_append_left _ (List.mem_of_getElem? (i := 17) rfl))))))) (by decide +kernel) ⟨Nat.le_of_ble_eq_true rfl, Nat.le_of_ble_eq_true rfl⟩, (hts (.instanceMethod yX10_supply) (List.mem_cons_of_mem _ (List.mem_append_left _ (List.mem_append_left _ (List.mem_append_left _ (List.mem_append_left _ (List.mem_of_getElem? (i := 16) rfl))))))), (hts (.selects RX10 yX10_supply yX10_supply) (List.mem_cons_of_mem _ (List.mem_append_left _ (List.mem_append_left _ (List.mem_append_left _ (List.mem_append_left _ (List.mem_of_getElem? (i := 18) rfl)))))))⟩ (mkV hK hN (hP.sub [2, 4] rfl) (hD.sub [2, 4] (by decide) rfl) (ci := 10) (q0 := 0) rfl rfl) rfl rfl hl.1 rfl (lv_room (Nat.le_of_ble_eq_true rfl)) dX11_buy_23 ⟨Nat.le_of_ble_eq_true rfl, Nat.le_of_ble_eq_true rfl⟩) (fun r_3 hw => ?_)
  rcases hw with ⟨rfl, h_4, h_5⟩ | ⟨rfl, h_6⟩
  · refine kci (wr := [(a8, .inr (10, [r0])), (a3, .inr (2, [.ref a5, .int 0, .int 0])), (a2, .inr (9, [.ref a6, k1, .ref a7, k3, .int 0, k5, k6, .int 0, k8, k9])), (a5, .inl (K 0, 476, .inl ((u_2.2.1 0)))), (a6, .inl (K 0, 56, .inl (fun _ => 0))), (a7, .inl (K 0, 6, .inl tm0))]) (va_runV (As := [.int 2, .int (-2)]) (rest := []) ⟨hx, hb, hml, hown, hts⟩ (c_settle_2 l D K a0 2 (.ref a2) g1 g2 g3 g4 g5 g6 (.ref a8) g8 (.ref a3) g10 g11 a1 g13 g14 g15 g16 f H.size) (cwV 2 hts gX11_buy_X11_settle rfl rfl rfl (by decide +kernel) ⟨Nat.le_of_ble_eq_true rfl, Nat.le_of_ble_eq_true rfl⟩) (mkV hK hN (hP.sub [0, 1] rfl) (hD.sub [0, 1] (by decide) rfl) (ci := 11) (q0 := 0) rfl rfl) rfl rfl hl.1 rfl (lv_room (Nat.le_of_ble_eq_true rfl)) dX11_buy_26 ⟨Nat.le_of_ble_eq_true rfl, Nat.le_of_ble_eq_true rfl⟩) hP hD hS hA [0, 1] [2, 3, 4, 5, 6, 7] rfl rfl (by decide) (by decide) (fun r_7 u_8 H locs hw hP hD hS => ?_)
    have hP : va_P D vwCl [(a8, .inr (10, [r0])), (a3, .inr (2, [.ref a5, .int 0, .int 0])), (a2, .inr (9, [.ref a6, k1, .ref a7, k3, .int 0, k5, k6, .int 0, k8, k9])), (a5, .inl (K 0, 476, .inl ((u_2.2.1 0)))), (a6, .inl (K 0, 56, .inl (fun _ => 0))), (a7, .inl (K 0, 6, .inl tm0))] H := hP
    have hD : va_D A [(a8, .inr (10, [r0])), (a3, .inr (2, [.ref a5, .int 0, .int 0])), (a2, .inr (9, [.ref a6, k1, .ref a7, k3, .int 0, k5, k6, .int 0, k8, k9])), (a5, .inl (K 0, 476, .inl ((u_2.2.1 0)))), (a6, .inl (K 0, 56, .inl (fun _ => 0))), (a7, .inl (K 0, 6, .inl tm0))] := hD
    obtain rfl : r_7 = (-2) := hw
    exact W.iret (v := (-2)) hx hb hr (fun t ht hW => ⟨⟨(-2), (), rfl, (by first | exact Or.inl (⟨rfl, by first | omega | decide | (subst_vars; assumption) | (subst_vars; symm; assumption), by first | omega | decide | (subst_vars; assumption) | (subst_vars; symm; assumption)⟩)), Wd.nil⟩, hS.F ht⟩) hS.2.2 dX11_buy_29
  · refine kci (wr := [(a8, .inr (10, [r0])), (a3, .inr (2, [.ref a5, .int 0, .int 0])), (a2, .inr (9, [.ref a6, k1, .ref a7, k3, .int 0, k5, k6, .int 0, k8, k9])), (a5, .inl (K 0, 476, .inl ((u_2.2.1 0)))), (a6, .inl (K 0, 56, .inl (fun _ => 0))), (a7, .inl (K 0, 6, .inl tm0))]) (va_runV (As := [.int 2, .int (-1)]) (rest := []) ⟨hx, hb, hml, hown, hts⟩ (c_settle_1 l D K a0 2 (.ref a2) g1 g2 g3 g4 g5 g6 (.ref a8) g8 (.ref a3) g10 g11 a1 g13 g14 g15 g16 f H.size) (cwV 2 hts gX11_buy_X11_settle rfl rfl rfl (by decide +kernel) ⟨Nat.le_of_ble_eq_true rfl, Nat.le_of_ble_eq_true rfl⟩) (mkV hK hN (hP.sub [0, 1] rfl) (hD.sub [0, 1] (by decide) rfl) (ci := 11) (q0 := 0) rfl rfl) rfl rfl hl.1 rfl (lv_room (Nat.le_of_ble_eq_true rfl)) dX11_buy_26 ⟨Nat.le_of_ble_eq_true rfl, Nat.le_of_ble_eq_true rfl⟩) hP hD hS hA [0, 1] [2, 3, 4, 5, 6, 7] rfl rfl (by decide) (by decide) (fun r_9 u_10 H locs hw hP hD hS => ?_)
    have hP : va_P D vwCl [(a8, .inr (10, [r0])), (a3, .inr (2, [.ref a5, .int 0, .int 0])), (a2, .inr (9, [.ref a6, k1, .ref a7, k3, .int 0, k5, k6, .int 0, k8, k9])), (a5, .inl (K 0, 476, .inl ((u_2.2.1 0)))), (a6, .inl (K 0, 56, .inl (fun _ => 0))), (a7, .inl (K 0, 6, .inl tm0))] H := hP
    have hD : va_D A [(a8, .inr (10, [r0])), (a3, .inr (2, [.ref a5, .int 0, .int 0])), (a2, .inr (9, [.ref a6, k1, .ref a7, k3, .int 0, k5, k6, .int 0, k8, k9])), (a5, .inl (K 0, 476, .inl ((u_2.2.1 0)))), (a6, .inl (K 0, 56, .inl (fun _ => 0))), (a7, .inl (K 0, 6, .inl tm0))] := hD
    obtain rfl : r_9 = (-1) := hw
    exact W.iret (v := (-1)) hx hb hr (fun t ht hW => ⟨⟨(-1), (), rfl, (by first | exact Or.inr (⟨rfl, by first | omega | decide | (subst_vars; assumption) | (subst_vars; symm; assumption)⟩)), Wd.nil⟩, hS.F ht⟩) hS.2.2 dX11_buy_29
set_option maxHeartbeats 4000000 in
set_option maxRecDepth 100000 in
theorem t_pass (l : Launch) (D : va_G) (K : Nat → ClassId) (a0 : Nat) (a2 : Nat) (g1 : Value) (g2 : Value) (g3 : Value) (g4 : Value) (g5 : Value) (g6 : Value) (a8 : Nat) (g8 : Value) (a3 : Nat) (g10 : Value) (g11 : Value) (g12 : Value) (g13 : Value) (g14 : Value) (g15 : Value) (g16 : Value) (a5 : Nat) (a6 : Nat) (a9 : Nat) (a7 : Nat) (k3 : Value) (k5 : Value) (k6 : Value) (k8 : Value) (k9 : Value) (r0 : Value) (sz : Nat) : Met l yX11_pass wsX11_pass ({ frames := 3, cells := 0, slots := 0, locals := 66 }) (va_Pc [.ref a0] (Pre D K [(a0, .inr (11, [.ref a2, g1, g2, g3, g4, g5, g6, .ref a8, g8, .ref a3, g10, g11, g12, g13, g14, g15, g16])), (a3, .inr (2, [.ref a5, .int 0, .int 0])), (a2, .inr (9, [.ref a6, .ref a9, .ref a7, k3, .int 0, k5, k6, .int 0, k8, k9])), (a5, .inl (K 0, 476, .inl (fun _ => 0))), (a6, .inl (K 0, 56, .inl (fun _ => 0))), (a7, .inl (K 0, 6, .inl tm0)), (a8, .inr (10, [r0])), (a9, .inl (K 0, 24, .inl (fun _ => 0)))] sz)) (va_Qi (S := Unit) (fun (r : Int32) (_ : Unit) => (r = 1)) (fun u t => Wd D (va_A [(a0, .inr (11, [.ref a2, g1, g2, g3, g4, g5, g6, .ref a8, g8, .ref a3, g10, g11, g12, g13, g14, g15, g16])), (a3, .inr (2, [.ref a5, .int 0, .int 0])), (a2, .inr (9, [.ref a6, .ref a9, .ref a7, k3, .int 0, k5, k6, .int 0, k8, k9])), (a5, .inl (K 0, 476, .inl (fun _ => 0))), (a6, .inl (K 0, 56, .inl (fun _ => 0))), (a7, .inl (K 0, 6, .inl tm0)), (a8, .inr (10, [r0])), (a9, .inl (K 0, 24, .inl (fun _ => 0)))] sz) ((fun _ => []) u) t) (va_A [(a0, .inr (11, [.ref a2, g1, g2, g3, g4, g5, g6, .ref a8, g8, .ref a3, g10, g11, g12, g13, g14, g15, g16])), (a3, .inr (2, [.ref a5, .int 0, .int 0])), (a2, .inr (9, [.ref a6, .ref a9, .ref a7, k3, .int 0, k5, k6, .int 0, k8, k9])), (a5, .inl (K 0, 476, .inl (fun _ => 0))), (a6, .inl (K 0, 56, .inl (fun _ => 0))), (a7, .inl (K 0, 6, .inl tm0)), (a8, .inr (10, [r0])), (a9, .inl (K 0, 24, .inl (fun _ => 0)))] sz)) 0 0 (va_A [(a0, .inr (11, [.ref a2, g1, g2, g3, g4, g5, g6, .ref a8, g8, .ref a3, g10, g11, g12, g13, g14, g15, g16])), (a3, .inr (2, [.ref a5, .int 0, .int 0])), (a2, .inr (9, [.ref a6, .ref a9, .ref a7, k3, .int 0, k5, k6, .int 0, k8, k9])), (a5, .inl (K 0, 476, .inl (fun _ => 0))), (a6, .inl (K 0, 56, .inl (fun _ => 0))), (a7, .inl (K 0, 6, .inl tm0)), (a8, .inr (10, [r0])), (a9, .inl (K 0, 24, .inl (fun _ => 0)))] sz) := by
  refine Met.ofW (cc := cX11_pass) (maxL := 1) (ret := (some .int)) (by decide) rfl ?_
  intro p e s m args below meth c s₁ B hml hv
  obtain ⟨rfl, hsz, hP, hK, hD0, hN⟩ := hv
  have hx := B.exec
  have hb := B.bytes
  have hr := B.returns
  have hts := atoms_spec (ws := wsX11_pass) B.pre
  have hown : s.vm.findClass RX11 = some m.cls := findClass_of_methodNamed B.named
  have hlocks := B.notSynchronized
  subst hsz
  have hD := hD0.self (sz := s.heap.size)
  generalize hAe : va_A [(a0, .inr (11, [.ref a2, g1, g2, g3, g4, g5, g6, .ref a8, g8, .ref a3, g10, g11, g12, g13, g14, g15, g16])), (a3, .inr (2, [.ref a5, .int 0, .int 0])), (a2, .inr (9, [.ref a6, .ref a9, .ref a7, k3, .int 0, k5, k6, .int 0, k8, k9])), (a5, .inl (K 0, 476, .inl (fun _ => 0))), (a6, .inl (K 0, 56, .inl (fun _ => 0))), (a7, .inl (K 0, 6, .inl tm0)), (a8, .inr (10, [r0])), (a9, .inl (K 0, 24, .inl (fun _ => 0)))] s.heap.size = A at hD ⊢
  have hA : ∀ q : Nat, s.heap.size ≤ q → A q := fun q h => by rw [← hAe]; exact Or.inr h
  have hS : va_S A s.heap s.heap [] := va_S.rf
  have hP : va_P D vwCl [(a0, .inr (11, [.ref a2, g1, g2, g3, g4, g5, g6, .ref a8, g8, .ref a3, g10, g11, g12, g13, g14, g15, g16])), (a3, .inr (2, [.ref a5, .int 0, .int 0])), (a2, .inr (9, [.ref a6, .ref a9, .ref a7, k3, .int 0, k5, k6, .int 0, k8, k9])), (a5, .inl (K 0, 476, .inl (fun _ => 0))), (a6, .inl (K 0, 56, .inl (fun _ => 0))), (a7, .inl (K 0, 6, .inl tm0)), (a8, .inr (10, [r0])), (a9, .inl (K 0, 24, .inl (fun _ => 0)))] s.heap := hP
  have hl := lv_entry [.ref a0] (n := 1) (Nat.le_of_ble_eq_true rfl)
  rw [lg_entry_eq]
  generalize (lg_sl [.ref a0] ++ List.replicate (1 - (lg_sl [.ref a0]).length) Slot.unset).toArray = ls at hl ⊢
  have hl : lv_has ls 1 [(0, .ref a0)] := hl
  have hw0 : ∀ w ∈ wsX00, w ∈ wsX11_pass := fun w h => (List.mem_cons_of_mem _ (List.mem_append_left _ (List.mem_append_left _ (List.mem_append_right _ h))))
  have hw2 : ∀ w ∈ wsX20, w ∈ wsX11_pass := fun w h => (List.mem_cons_of_mem _ (List.mem_append_left _ (List.mem_append_left _ (List.mem_append_left _ (List.mem_append_left _ (List.mem_append_left _ (List.mem_append_right _ h)))))))
  have hw3 : ∀ w ∈ wsX30, w ∈ wsX11_pass := fun w h => (List.mem_cons_of_mem _ (List.mem_append_right _ h))
  have hw7 : ∀ w ∈ wsX70, w ∈ wsX11_pass := fun w h => (List.mem_cons_of_mem _ (List.mem_append_left _ (List.mem_append_right _ h)))
  have hw9 : ∀ w ∈ wsX90, w ∈ wsX11_pass := fun w h => (List.mem_cons_of_mem _ (List.mem_append_left _ (List.mem_append_left _ (List.mem_append_left _ (List.mem_append_left _ (List.mem_append_right _ h))))))
  have hw10 : ∀ w ∈ wsX100, w ∈ wsX11_pass := fun w h => (List.mem_cons_of_mem _ (List.mem_append_left _ (List.mem_append_left _ (List.mem_append_left _ (List.mem_append_right _ h)))))
  have hw11 : ∀ w ∈ wsX110, w ∈ wsX11_pass := fun w h => (List.mem_cons_of_mem _ (List.mem_append_left _ (List.mem_append_left _ (List.mem_append_left _ (List.mem_append_left _ (List.mem_append_left _ (List.mem_append_left _ (List.mem_append_right _ h))))))))
  refine lv_aload_n hx hb dX11_pass_0 rfl (lv_at hl 0 rfl) ?_
  refine va_get (ci := 11) (v := .ref a3) (C := RX11) (T := TX11) (N := 17) hx hb hts hw11 hown hK hP 0 rfl rfl 9 (by decide) (hts (.fieldLink RX11 61 "SmokeTune" "history" "LSmokeTune$History;") (List.mem_cons_of_mem _ (List.mem_append_left _ (List.mem_append_left _ (List.mem_append_left _ (List.mem_append_left _ (List.mem_append_left _ (List.mem_append_left _ (List.mem_append_left _ (List.mem_append_left _ (List.mem_of_getElem? (i := 0) rfl))))))))))) (fun _ h9 => h9) rfl dX11_pass_1 ?_
  refine lv_aload_n hx hb dX11_pass_4 rfl (lv_at hl 0 rfl) ?_
  refine va_get (ci := 11) (v := .ref a2) (C := RX11) (T := TX11) (N := 17) hx hb hts hw11 hown hK hP 0 rfl rfl 0 (by decide) (hts (.fieldLink RX11 10 "SmokeTune" "town" "LSmokeTune$Town;") (List.mem_cons_of_mem _ (List.mem_append_left _ (List.mem_append_left _ (List.mem_append_left _ (List.mem_append_left _ (List.mem_append_left _ (List.mem_append_left _ (List.mem_append_left _ (List.mem_append_left _ (List.mem_of_getElem? (i := 1) rfl))))))))))) (fun _ h9 => h9) rfl dX11_pass_5 ?_
  refine kcv (wr := [(a0, .inr (11, [.ref a2, g1, g2, g3, g4, g5, g6, .ref a8, g8, .ref a3, g10, g11, g12, g13, g14, g15, g16])), (a8, .inr (10, [r0])), (a9, .inl (K 0, 24, .inl (fun _ => 0)))]) (va_runVN (As := [.ref a2]) (rest := []) ⟨hx, hb, hml, hown, hts⟩ (c_draft l D K a3 a2 a5 (.int 0) a6 (.ref a9) a7 k3 (.int 0) k5 k6 k8 k9 (fun _ => 0) (fun _ => 0) tm0 s.heap.size) ⟨va_cnB 1 hts gX11_pass_X2_draft_n221 rfl rfl rfl (nst_at hN 69 rfl) (hts (.initialized RX2) (List.mem_cons_of_mem _ (List.mem_append_left _ (List.mem_append_left _ (List.mem_append_left _ (List.mem_append_left _ (List.mem_append_left _ (List.mem_append_left _ (List.mem_append_left _ (List.mem_append_left _ (List.mem_of_getElem? (i := 4) rfl))))))))))) (by decide +kernel) ⟨Nat.le_of_ble_eq_true rfl, Nat.le_of_ble_eq_true rfl⟩, (hts (.instanceMethod yX2_draft) (List.mem_cons_of_mem _ (List.mem_append_left _ (List.mem_append_left _ (List.mem_append_left _ (List.mem_append_left _ (List.mem_append_left _ (List.mem_append_left _ (List.mem_append_left _ (List.mem_append_left _ (List.mem_of_getElem? (i := 3) rfl))))))))))), (hts (.selects RX2 yX2_draft yX2_draft) (List.mem_cons_of_mem _ (List.mem_append_left _ (List.mem_append_left _ (List.mem_append_left _ (List.mem_append_left _ (List.mem_append_left _ (List.mem_append_left _ (List.mem_append_left _ (List.mem_append_left _ (List.mem_of_getElem? (i := 5) rfl)))))))))))⟩ (mkV hK hN (hP.sub [1, 2, 3, 4, 5] rfl) (hD.sub [1, 2, 3, 4, 5] (by decide) rfl) (ci := 2) (q0 := 0) rfl rfl) rfl rfl hl.1 rfl (lv_room (Nat.le_of_ble_eq_true rfl)) dX11_pass_8 ⟨Nat.le_of_ble_eq_true rfl, Nat.le_of_ble_eq_true rfl⟩) hP hD hS hA [1, 2, 3, 4, 5] [0, 6, 7] rfl rfl (by decide) (by decide) (fun u_2 H locs hw hP hD hS => ?_)
  have hP : va_P D vwCl [(a0, .inr (11, [.ref a2, g1, g2, g3, g4, g5, g6, .ref a8, g8, .ref a3, g10, g11, g12, g13, g14, g15, g16])), (a8, .inr (10, [r0])), (a9, .inl (K 0, 24, .inl (fun _ => 0))), (a3, .inr (2, [.ref a5, .int 0, .int 0])), (a2, .inr (9, [.ref a6, .ref a9, .ref a7, k3, .int 0, k5, k6, .int 0, k8, k9])), (a5, .inl (K 0, 476, .inl ((u_2.2.1 0)))), (a6, .inl (K 0, 56, .inl (fun _ => 0))), (a7, .inl (K 0, 6, .inl tm0))] H := hP
  have hD : va_D A [(a0, .inr (11, [.ref a2, g1, g2, g3, g4, g5, g6, .ref a8, g8, .ref a3, g10, g11, g12, g13, g14, g15, g16])), (a8, .inr (10, [r0])), (a9, .inl (K 0, 24, .inl (fun _ => 0))), (a3, .inr (2, [.ref a5, .int 0, .int 0])), (a2, .inr (9, [.ref a6, .ref a9, .ref a7, k3, .int 0, k5, k6, .int 0, k8, k9])), (a5, .inl (K 0, 476, .inl ((u_2.2.1 0)))), (a6, .inl (K 0, 56, .inl (fun _ => 0))), (a7, .inl (K 0, 6, .inl tm0))] := hD
  refine lv_aload_n hx hb dX11_pass_11 rfl (lv_at hl 0 rfl) ?_
  refine lv_iconst (v := 3) hx hb dX11_pass_12 (by decide) ?_
  refine lv_aload_n hx hb dX11_pass_13 rfl (lv_at hl 0 rfl) ?_
  refine va_get (ci := 11) (v := .ref a8) (C := RX11) (T := TX11) (N := 17) hx hb hts hw11 hown hK hP 0 rfl rfl 7 (by decide) (hts (.fieldLink RX11 50 "SmokeTune" "works" "LSmokeTune$Works;") (List.mem_cons_of_mem _ (List.mem_append_left _ (List.mem_append_left _ (List.mem_append_left _ (List.mem_append_left _ (List.mem_append_left _ (List.mem_append_left _ (List.mem_append_left _ (List.mem_append_left _ (List.mem_of_getElem? (i := 2) rfl))))))))))) (fun _ h9 => h9) rfl dX11_pass_14 ?_
  refine lv_aload_n hx hb dX11_pass_17 rfl (lv_at hl 0 rfl) ?_
  refine va_get (ci := 11) (v := .ref a2) (C := RX11) (T := TX11) (N := 17) hx hb hts hw11 hown hK hP 0 rfl rfl 0 (by decide) (hts (.fieldLink RX11 10 "SmokeTune" "town" "LSmokeTune$Town;") (List.mem_cons_of_mem _ (List.mem_append_left _ (List.mem_append_left _ (List.mem_append_left _ (List.mem_append_left _ (List.mem_append_left _ (List.mem_append_left _ (List.mem_append_left _ (List.mem_append_left _ (List.mem_of_getElem? (i := 1) rfl))))))))))) (fun _ h9 => h9) rfl dX11_pass_18 ?_
  refine kci (wr := [(a0, .inr (11, [.ref a2, g1, g2, g3, g4, g5, g6, .ref a8, g8, .ref a3, g10, g11, g12, g13, g14, g15, g16])), (a3, .inr (2, [.ref a5, .int 0, .int 0])), (a5, .inl (K 0, 476, .inl ((u_2.2.1 0)))), (a6, .inl (K 0, 56, .inl (fun _ => 0)))]) (va_runVN (As := [.ref a2]) (rest := [.int 3, .ref a0]) ⟨hx, hb, hml, hown, hts⟩ (c_nextHour l D K a8 a2 r0 (.ref a6) a9 a7 k3 k5 k6 k8 k9 (fun _ => 0) tm0 0 0 H.size rfl rfl (by omega) (by omega) (fun _ _ => rfl)) ⟨va_cnB 1 hts gX11_pass_X10_nextHour_n239 rfl rfl rfl (nst_at hN 74 rfl) (hts (.initialized RX10) (List.mem_cons_of_mem _ (List.mem_append_left _ (List.mem_append_left _ (List.mem_append_left _ (List.mem_append_left _ (List.mem_append_left _ (List.mem_append_left _ (List.mem_append_left _ (List.mem_append_left _ (List.mem_of_getElem? (i := 17) rfl))))))))))) (by decide +kernel) ⟨Nat.le_of_ble_eq_true rfl, Nat.le_of_ble_eq_true rfl⟩, (hts (.instanceMethod yX10_nextHour) (List.mem_cons_of_mem _ (List.mem_append_left _ (List.mem_append_left _ (List.mem_append_left _ (List.mem_append_left _ (List.mem_append_left _ (List.mem_append_left _ (List.mem_append_left _ (List.mem_append_left _ (List.mem_of_getElem? (i := 16) rfl))))))))))), (hts (.selects RX10 yX10_nextHour yX10_nextHour) (List.mem_cons_of_mem _ (List.mem_append_left _ (List.mem_append_left _ (List.mem_append_left _ (List.mem_append_left _ (List.mem_append_left _ (List.mem_append_left _ (List.mem_append_left _ (List.mem_append_left _ (List.mem_of_getElem? (i := 18) rfl)))))))))))⟩ (mkV hK hN (hP.sub [1, 4, 2, 7] rfl) (hD.sub [1, 4, 2, 7] (by decide) rfl) (ci := 10) (q0 := 0) rfl rfl) rfl rfl hl.1 rfl (lv_room (Nat.le_of_ble_eq_true rfl)) dX11_pass_21 ⟨Nat.le_of_ble_eq_true rfl, Nat.le_of_ble_eq_true rfl⟩) hP hD hS hA [1, 4, 2, 7] [0, 3, 5, 6] rfl rfl (by decide) (by decide) (fun r_3 u_4 H locs hw hP hD hS => ?_)
  have hP : va_P D vwCl [(a0, .inr (11, [.ref a2, g1, g2, g3, g4, g5, g6, .ref a8, g8, .ref a3, g10, g11, g12, g13, g14, g15, g16])), (a3, .inr (2, [.ref a5, .int 0, .int 0])), (a5, .inl (K 0, 476, .inl ((u_2.2.1 0)))), (a6, .inl (K 0, 56, .inl (fun _ => 0))), (a8, .inr (10, [r0])), (a2, .inr (9, [.ref a6, .ref a9, .ref a7, k3, .int 0, k5, k6, .int 0, k8, k9])), (a9, .inl (K 0, 24, .inl (fun _ => 0))), (a7, .inl (K 0, 6, .inl ((u_4.2.1 0))))] H := hP
  have hD : va_D A [(a0, .inr (11, [.ref a2, g1, g2, g3, g4, g5, g6, .ref a8, g8, .ref a3, g10, g11, g12, g13, g14, g15, g16])), (a3, .inr (2, [.ref a5, .int 0, .int 0])), (a5, .inl (K 0, 476, .inl ((u_2.2.1 0)))), (a6, .inl (K 0, 56, .inl (fun _ => 0))), (a8, .inr (10, [r0])), (a2, .inr (9, [.ref a6, .ref a9, .ref a7, k3, .int 0, k5, k6, .int 0, k8, k9])), (a9, .inl (K 0, 24, .inl (fun _ => 0))), (a7, .inl (K 0, 6, .inl ((u_4.2.1 0))))] := hD
  obtain ⟨rfl, hu0, hu1⟩ := hw
  refine kci (wr := [(a6, .inl (K 0, 56, .inl (fun _ => 0))), (a8, .inr (10, [r0])), (a2, .inr (9, [.ref a6, .ref a9, .ref a7, k3, .int 0, k5, k6, .int 0, k8, k9])), (a9, .inl (K 0, 24, .inl (fun _ => 0))), (a7, .inl (K 0, 6, .inl ((u_4.2.1 0))))]) (va_runV (As := [.int 3, .int 1]) (rest := []) ⟨hx, hb, hml, hown, hts⟩ (c_settle_pass l D K a0 (.ref a2) g1 g2 g3 g4 g5 g6 (.ref a8) g8 a3 g10 g11 g12 g13 g14 g15 g16 a5 (u_2.2.1 0) H.size) (cwV 2 hts gX11_pass_X11_settle rfl rfl rfl (by decide +kernel) ⟨Nat.le_of_ble_eq_true rfl, Nat.le_of_ble_eq_true rfl⟩) (mkV hK hN (hP.sub [0, 1, 2] rfl) (hD.sub [0, 1, 2] (by decide) rfl) (ci := 11) (q0 := 0) rfl rfl) rfl rfl hl.1 rfl (lv_room (Nat.le_of_ble_eq_true rfl)) dX11_pass_24 ⟨Nat.le_of_ble_eq_true rfl, Nat.le_of_ble_eq_true rfl⟩) hP hD hS hA [0, 1, 2] [3, 4, 5, 6, 7] rfl rfl (by decide) (by decide) (fun r_5 u_6 H locs hw hP hD hS => ?_)
  have hP : va_P D vwCl [(a6, .inl (K 0, 56, .inl (fun _ => 0))), (a8, .inr (10, [r0])), (a2, .inr (9, [.ref a6, .ref a9, .ref a7, k3, .int 0, k5, k6, .int 0, k8, k9])), (a9, .inl (K 0, 24, .inl (fun _ => 0))), (a7, .inl (K 0, 6, .inl ((u_4.2.1 0))))] H := hP
  have hD : va_D A [(a6, .inl (K 0, 56, .inl (fun _ => 0))), (a8, .inr (10, [r0])), (a2, .inr (9, [.ref a6, .ref a9, .ref a7, k3, .int 0, k5, k6, .int 0, k8, k9])), (a9, .inl (K 0, 24, .inl (fun _ => 0))), (a7, .inl (K 0, 6, .inl ((u_4.2.1 0))))] := hD
  obtain rfl : r_5 = 1 := hw
  exact W.iret (v := 1) hx hb hr (fun t ht hW => ⟨⟨1, (), rfl, (by first | exact rfl), Wd.nil⟩, hS.F ht⟩) hS.2.2 dX11_pass_27
set_option maxHeartbeats 4000000 in
set_option maxRecDepth 100000 in
theorem c_takeBack (l : Launch) (D : va_G) (K : Nat → ClassId) (a0 : Nat) (a1 : Nat) (g0 : Value) (g1 : Value) (sz : Nat) : Met l yX2_takeBack wsX2_takeBack ({ frames := 0, cells := 0, slots := 0, locals := 0 }) (va_Pc [.ref a0, .ref a1] (Pre D K [(a0, .inr (2, [g0, g1, .int 0]))] sz)) (vp_Si (fun r : Int32 => (r = (-1)))) 0 0 (fun _ => False) := by
  refine Met.ofW (cc := cX2_takeBack) (maxL := 4) (ret := (some .int)) (by decide) rfl ?_
  intro p e s m args below meth c s₁ B hml hv
  obtain ⟨rfl, hsz, hP, hK, hD0, hN⟩ := hv
  have hx := B.exec
  have hb := B.bytes
  have hr := B.returns
  have hts := atoms_spec (ws := wsX2_takeBack) B.pre
  have hown : s.vm.findClass RX2 = some m.cls := findClass_of_methodNamed B.named
  have hlocks := B.notSynchronized
  subst hsz
  have hD := hD0
  have hP : va_P D vwCl [(a0, .inr (2, [g0, g1, .int 0]))] s.heap := hP
  have hl := lv_entry [.ref a0, .ref a1] (n := 4) (Nat.le_of_ble_eq_true rfl)
  rw [lg_entry_eq]
  generalize (lg_sl [.ref a0, .ref a1] ++ List.replicate (4 - (lg_sl [.ref a0, .ref a1]).length) Slot.unset).toArray = ls at hl ⊢
  have hl : lv_has ls 4 [(0, .ref a0), (1, .ref a1)] := hl
  have hw2 : ∀ w ∈ wsX20, w ∈ wsX2_takeBack := fun w h => (List.mem_cons_of_mem _ (List.mem_append_left _ (List.mem_append_right _ h)))
  have hw9 : ∀ w ∈ wsX90, w ∈ wsX2_takeBack := fun w h => (List.mem_cons_of_mem _ (List.mem_append_right _ h))
  refine lv_aload_n hx hb dX2_takeBack_0 rfl (lv_at hl 0 rfl) ?_
  refine va_get (ci := 2) (v := .int 0) (C := RX2) (T := TX2) (N := 3) hx hb hts hw2 hown hK hP 0 rfl rfl 2 (by decide) (hts (.fieldLink RX2 19 "SmokeTune$History" "kept" "I") (List.mem_cons_of_mem _ (List.mem_append_left _ (List.mem_append_left _ (List.mem_of_getElem? (i := 0) rfl))))) (fun _ h9 => h9) rfl dX2_takeBack_1 ?_
  refine lv_if_ne (tgt := 9) hx hb dX2_takeBack_4 (by decide) (fun c_1 => absurd (by decide) c_1) (fun c_1 => ?_)
  refine lv_iconst (v := (-1)) hx hb dX2_takeBack_7 (by decide) ?_
  exact W.iret (v := (-1)) hx hb hr (fun t ht hW => ⟨_, rfl, (by first | exact rfl), ht⟩) (fun q hq => by cases hq) dX2_takeBack_8
set_option maxHeartbeats 4000000 in
set_option maxRecDepth 100000 in
theorem t_undo (l : Launch) (D : va_G) (K : Nat → ClassId) (a0 : Nat) (a2 : Nat) (g1 : Value) (g2 : Value) (g3 : Value) (g4 : Value) (g5 : Value) (g6 : Value) (g7 : Value) (g8 : Value) (a3 : Nat) (g10 : Value) (g11 : Value) (a1 : Nat) (g13 : Value) (g14 : Value) (g15 : Value) (g16 : Value) (f : Nat → Int32) (p0 : Value) (p1 : Value) (sz : Nat) : Met l yX11_undo wsX11_undo ({ frames := 2, cells := 0, slots := 0, locals := 44 }) (va_Pc [.ref a0] (Pre D K [(a0, .inr (11, [.ref a2, g1, g2, g3, g4, g5, g6, g7, g8, .ref a3, g10, g11, .ref a1, g13, g14, g15, g16])), (a1, .inl (K 0, 5, .inl f)), (a3, .inr (2, [p0, p1, .int 0]))] sz)) (va_Qi (S := Unit) (fun (r : Int32) (_ : Unit) => (r = (-3))) (fun u t => Wd D (va_A [(a0, .inr (11, [.ref a2, g1, g2, g3, g4, g5, g6, g7, g8, .ref a3, g10, g11, .ref a1, g13, g14, g15, g16])), (a1, .inl (K 0, 5, .inl f)), (a3, .inr (2, [p0, p1, .int 0]))] sz) ((fun _ => []) u) t) (va_A [(a0, .inr (11, [.ref a2, g1, g2, g3, g4, g5, g6, g7, g8, .ref a3, g10, g11, .ref a1, g13, g14, g15, g16])), (a1, .inl (K 0, 5, .inl f)), (a3, .inr (2, [p0, p1, .int 0]))] sz)) 0 0 (va_A [(a0, .inr (11, [.ref a2, g1, g2, g3, g4, g5, g6, g7, g8, .ref a3, g10, g11, .ref a1, g13, g14, g15, g16])), (a1, .inl (K 0, 5, .inl f)), (a3, .inr (2, [p0, p1, .int 0]))] sz) := by
  refine Met.ofW (cc := cX11_undo) (maxL := 2) (ret := (some .int)) (by decide) rfl ?_
  intro p e s m args below meth c s₁ B hml hv
  obtain ⟨rfl, hsz, hP, hK, hD0, hN⟩ := hv
  have hx := B.exec
  have hb := B.bytes
  have hr := B.returns
  have hts := atoms_spec (ws := wsX11_undo) B.pre
  have hown : s.vm.findClass RX11 = some m.cls := findClass_of_methodNamed B.named
  have hlocks := B.notSynchronized
  subst hsz
  have hD := hD0.self (sz := s.heap.size)
  generalize hAe : va_A [(a0, .inr (11, [.ref a2, g1, g2, g3, g4, g5, g6, g7, g8, .ref a3, g10, g11, .ref a1, g13, g14, g15, g16])), (a1, .inl (K 0, 5, .inl f)), (a3, .inr (2, [p0, p1, .int 0]))] s.heap.size = A at hD ⊢
  have hA : ∀ q : Nat, s.heap.size ≤ q → A q := fun q h => by rw [← hAe]; exact Or.inr h
  have hS : va_S A s.heap s.heap [] := va_S.rf
  have hP : va_P D vwCl [(a0, .inr (11, [.ref a2, g1, g2, g3, g4, g5, g6, g7, g8, .ref a3, g10, g11, .ref a1, g13, g14, g15, g16])), (a1, .inl (K 0, 5, .inl f)), (a3, .inr (2, [p0, p1, .int 0]))] s.heap := hP
  have hl := lv_entry [.ref a0] (n := 2) (Nat.le_of_ble_eq_true rfl)
  rw [lg_entry_eq]
  generalize (lg_sl [.ref a0] ++ List.replicate (2 - (lg_sl [.ref a0]).length) Slot.unset).toArray = ls at hl ⊢
  have hl : lv_has ls 2 [(0, .ref a0)] := hl
  have hw2 : ∀ w ∈ wsX20, w ∈ wsX11_undo := fun w h => (List.mem_cons_of_mem _ (List.mem_append_left _ (List.mem_append_right _ h)))
  have hw9 : ∀ w ∈ wsX90, w ∈ wsX11_undo := fun w h => (List.mem_cons_of_mem _ (List.mem_append_right _ h))
  have hw11 : ∀ w ∈ wsX110, w ∈ wsX11_undo := fun w h => (List.mem_cons_of_mem _ (List.mem_append_left _ (List.mem_append_left _ (List.mem_append_right _ h))))
  refine lv_aload_n hx hb dX11_undo_0 rfl (lv_at hl 0 rfl) ?_
  refine va_get (ci := 11) (v := .ref a3) (C := RX11) (T := TX11) (N := 17) hx hb hts hw11 hown hK hP 0 rfl rfl 9 (by decide) (hts (.fieldLink RX11 61 "SmokeTune" "history" "LSmokeTune$History;") (List.mem_cons_of_mem _ (List.mem_append_left _ (List.mem_append_left _ (List.mem_append_left _ (List.mem_append_left _ (List.mem_of_getElem? (i := 0) rfl))))))) (fun _ h9 => h9) rfl dX11_undo_1 ?_
  refine lv_aload_n hx hb dX11_undo_4 rfl (lv_at hl 0 rfl) ?_
  refine va_get (ci := 11) (v := .ref a2) (C := RX11) (T := TX11) (N := 17) hx hb hts hw11 hown hK hP 0 rfl rfl 0 (by decide) (hts (.fieldLink RX11 10 "SmokeTune" "town" "LSmokeTune$Town;") (List.mem_cons_of_mem _ (List.mem_append_left _ (List.mem_append_left _ (List.mem_append_left _ (List.mem_append_left _ (List.mem_of_getElem? (i := 1) rfl))))))) (fun _ h9 => h9) rfl dX11_undo_5 ?_
  refine pci (va_runVN (As := [.ref a2]) (rest := []) ⟨hx, hb, hml, hown, hts⟩ (c_takeBack l D K a3 a2 p0 p1 s.heap.size) ⟨va_cnB 1 hts gX11_undo_X2_takeBack_n242 rfl rfl rfl (nst_at hN 75 rfl) (hts (.initialized RX2) (List.mem_cons_of_mem _ (List.mem_append_left _ (List.mem_append_left _ (List.mem_append_left _ (List.mem_append_left _ (List.mem_of_getElem? (i := 3) rfl))))))) (by decide +kernel) ⟨Nat.le_of_ble_eq_true rfl, Nat.le_of_ble_eq_true rfl⟩, (hts (.instanceMethod yX2_takeBack) (List.mem_cons_of_mem _ (List.mem_append_left _ (List.mem_append_left _ (List.mem_append_left _ (List.mem_append_left _ (List.mem_of_getElem? (i := 2) rfl))))))), (hts (.selects RX2 yX2_takeBack yX2_takeBack) (List.mem_cons_of_mem _ (List.mem_append_left _ (List.mem_append_left _ (List.mem_append_left _ (List.mem_append_left _ (List.mem_of_getElem? (i := 4) rfl)))))))⟩ (mkV hK hN (hP.sub [2] rfl) (hD.sub [2] (by decide) rfl) (ci := 2) (q0 := 0) rfl rfl) rfl rfl hl.1 rfl (lv_room (Nat.le_of_ble_eq_true rfl)) dX11_undo_8 ⟨Nat.le_of_ble_eq_true rfl, Nat.le_of_ble_eq_true rfl⟩) (fun r_1 hw => ?_)
  obtain rfl : r_1 = (-1) := hw
  refine lv_istore_n (lv' := [(1, .int (-1)), (0, .ref a0)]) hx hb dX11_undo_11 rfl hl (by decide) rfl (fun ls hl => ?_)
  refine lv_iload_n hx hb dX11_undo_12 rfl (lv_at hl 0 rfl) ?_
  refine lv_iconst (v := (-1)) hx hb dX11_undo_13 (by decide) ?_
  refine lv_icmp_ne (tgt := 26) hx hb dX11_undo_14 (by decide) (fun c_2 => absurd (by decide) c_2) (fun c_2 => ?_)
  refine lv_aload_n hx hb dX11_undo_17 rfl (lv_at hl 1 rfl) ?_
  refine lv_bipush (v := (-3)) hx hb dX11_undo_18 (by decide) ?_
  refine kci (wr := [(a3, .inr (2, [p0, p1, .int 0]))]) (va_runV (As := [.int (-3)]) (rest := []) ⟨hx, hb, hml, hown, hts⟩ (c_refuse_3 l D K a0 (.ref a2) g1 g2 g3 g4 g5 g6 g7 g8 (.ref a3) g10 g11 a1 g13 g14 g15 g16 f s.heap.size) (cwV 1 hts gX11_undo_X11_refuse rfl rfl rfl (by decide +kernel) ⟨Nat.le_of_ble_eq_true rfl, Nat.le_of_ble_eq_true rfl⟩) (mkV hK hN (hP.sub [0, 1] rfl) (hD.sub [0, 1] (by decide) rfl) (ci := 11) (q0 := 0) rfl rfl) rfl rfl hl.1 rfl (lv_room (Nat.le_of_ble_eq_true rfl)) dX11_undo_20 ⟨Nat.le_of_ble_eq_true rfl, Nat.le_of_ble_eq_true rfl⟩) hP hD hS hA [0, 1] [2] rfl rfl (by decide) (by decide) (fun r_3 u_4 H locs hw hP hD hS => ?_)
  have hP : va_P D vwCl [(a3, .inr (2, [p0, p1, .int 0]))] H := hP
  have hD : va_D A [(a3, .inr (2, [p0, p1, .int 0]))] := hD
  obtain rfl : r_3 = (-3) := hw
  refine lv_goto (tgt := 31) hx hb dX11_undo_23 (by decide) ?_
  exact W.iret (v := (-3)) hx hb hr (fun t ht hW => ⟨⟨(-3), (), rfl, (by first | exact rfl), Wd.nil⟩, hS.F ht⟩) hS.2.2 dX11_undo_31
set_option maxHeartbeats 4000000 in
set_option maxRecDepth 100000 in
theorem t_sounds (l : Launch) (D : va_G) (K : Nat → ClassId) (a0 : Nat) (x : Int32) (a2 : Nat) (g1 : Value) (g2 : Value) (g3 : Value) (g4 : Value) (g5 : Value) (g6 : Value) (g7 : Value) (g8 : Value) (g9 : Value) (g10 : Value) (g11 : Value) (g12 : Value) (g13 : Value) (g14 : Value) (g15 : Value) (g16 : Value) (k0 : Value) (a3 : Nat) (a4 : Nat) (k3 : Value) (k5 : Value) (k6 : Value) (k7 : Value) (k8 : Value) (k9 : Value) (sz : Nat) : Met l yX11_sounds wsX11_sounds ({ frames := 2, cells := 0, slots := 0, locals := 46 }) (va_Pc [.ref a0, .int x] (Pre D K [(a0, .inr (11, [.ref a2, g1, g2, g3, g4, g5, g6, g7, g8, g9, g10, g11, g12, g13, g14, g15, g16])), (a2, .inr (9, [k0, .ref a3, .ref a4, k3, .int 0, k5, k6, k7, k8, k9])), (a3, .inl (K 0, 24, .inl (fun _ => 0))), (a4, .inl (K 0, 6, .inl tm0))] sz)) (vp_Si (fun r : Int32 => (r = 0 ∧ x.toInt = 0) ∨ (r = 0 ∧ x.toInt = 1) ∨ (r = 1 ∧ x.toInt = 2) ∨ (r = (-1) ∧ (x.toInt < 0 ∨ 2 < x.toInt)))) 0 0 (fun _ => False) := by
  refine Met.ofW (cc := cX11_sounds) (maxL := 2) (ret := (some .int)) (by decide) rfl ?_
  intro p e s m args below meth c s₁ B hml hv
  obtain ⟨rfl, hsz, hP, hK, hD0, hN⟩ := hv
  have hx := B.exec
  have hb := B.bytes
  have hr := B.returns
  have hts := atoms_spec (ws := wsX11_sounds) B.pre
  have hown : s.vm.findClass RX11 = some m.cls := findClass_of_methodNamed B.named
  have hlocks := B.notSynchronized
  subst hsz
  have hD := hD0
  have hP : va_P D vwCl [(a0, .inr (11, [.ref a2, g1, g2, g3, g4, g5, g6, g7, g8, g9, g10, g11, g12, g13, g14, g15, g16])), (a2, .inr (9, [k0, .ref a3, .ref a4, k3, .int 0, k5, k6, k7, k8, k9])), (a3, .inl (K 0, 24, .inl (fun _ => 0))), (a4, .inl (K 0, 6, .inl tm0))] s.heap := hP
  have hl := lv_entry [.ref a0, .int x] (n := 2) (Nat.le_of_ble_eq_true rfl)
  rw [lg_entry_eq]
  generalize (lg_sl [.ref a0, .int x] ++ List.replicate (2 - (lg_sl [.ref a0, .int x]).length) Slot.unset).toArray = ls at hl ⊢
  have hl : lv_has ls 2 [(0, .ref a0), (1, .int x)] := hl
  have hw9 : ∀ w ∈ wsX90, w ∈ wsX11_sounds := fun w h => (List.mem_cons_of_mem _ (List.mem_append_right _ h))
  have hw11 : ∀ w ∈ wsX110, w ∈ wsX11_sounds := fun w h => (List.mem_cons_of_mem _ (List.mem_append_left _ (List.mem_append_right _ h)))
  have hsp : (x = 0 ∨ x = 1 ∨ x = 2) ∨ (x.toInt < 0 ∨ 2 < x.toInt) := by
    by_cases q1 : x.toInt < 0
    · exact Or.inr (Or.inl q1)
    · by_cases q2 : 2 < x.toInt
      · exact Or.inr (Or.inr q2)
      · refine Or.inl ?_
        have q3 : x.toInt = 0 ∨ x.toInt = 1 ∨ x.toInt = 2 := by omega
        rcases q3 with q3 | q3 | q3
        · exact Or.inl (i_lit q3 rfl)
        · exact Or.inr (Or.inl (i_lit q3 rfl))
        · exact Or.inr (Or.inr (i_lit q3 rfl))
  rcases hsp with (rfl | rfl | rfl) | hsp
  · refine lv_iload_n hx hb dX11_sounds_0 rfl (lv_at hl 1 rfl) ?_
    refine lv_tableIn (tgt := 28) hx hb dX11_sounds_1 (by decide) (by decide) rfl (by decide) ?_
    refine lv_aload_n hx hb dX11_sounds_28 rfl (lv_at hl 0 rfl) ?_
    refine va_get (ci := 11) (v := .ref a2) (C := RX11) (T := TX11) (N := 17) hx hb hts hw11 hown hK hP 0 rfl rfl 0 (by decide) (hts (.fieldLink RX11 10 "SmokeTune" "town" "LSmokeTune$Town;") (List.mem_cons_of_mem _ (List.mem_append_left _ (List.mem_append_left _ (List.mem_append_left _ (List.mem_of_getElem? (i := 0) rfl)))))) (fun _ h9 => h9) rfl dX11_sounds_29 ?_
    refine pci (va_runVN (As := []) (rest := []) ⟨hx, hb, hml, hown, hts⟩ (c_notesNow l D K a2 k0 (.ref a3) (.ref a4) k3 k5 k6 k7 k8 k9 s.heap.size) ⟨va_cnB 0 hts gX11_sounds_X9_notesNow_n210 rfl rfl rfl (nst_at hN 66 rfl) (hts (.initialized RX9) (List.mem_cons_of_mem _ (List.mem_append_left _ (List.mem_append_left _ (List.mem_append_left _ (List.mem_of_getElem? (i := 2) rfl)))))) (by decide +kernel) ⟨Nat.le_of_ble_eq_true rfl, Nat.le_of_ble_eq_true rfl⟩, (hts (.instanceMethod yX9_notesNow) (List.mem_cons_of_mem _ (List.mem_append_left _ (List.mem_append_left _ (List.mem_append_left _ (List.mem_of_getElem? (i := 1) rfl)))))), (hts (.selects RX9 yX9_notesNow yX9_notesNow) (List.mem_cons_of_mem _ (List.mem_append_left _ (List.mem_append_left _ (List.mem_append_left _ (List.mem_of_getElem? (i := 3) rfl))))))⟩ (mkV hK hN (hP.sub [1] rfl) (hD.sub [1] (by decide) rfl) (ci := 9) (q0 := 0) rfl rfl) rfl rfl hl.1 rfl (lv_room (Nat.le_of_ble_eq_true rfl)) dX11_sounds_32 ⟨Nat.le_of_ble_eq_true rfl, Nat.le_of_ble_eq_true rfl⟩) (fun r_1 hw => ?_)
    obtain rfl : r_1 = 0 := hw
    exact W.iret (v := 0) hx hb hr (fun t ht hW => ⟨_, rfl, (by first | exact Or.inl (⟨rfl, by first | omega | decide | (subst_vars; assumption) | (subst_vars; symm; assumption)⟩) | exact Or.inr (Or.inl (⟨rfl, by first | omega | decide | (subst_vars; assumption) | (subst_vars; symm; assumption)⟩))), ht⟩) (fun q hq => by cases hq) dX11_sounds_35
  · refine lv_iload_n hx hb dX11_sounds_0 rfl (lv_at hl 1 rfl) ?_
    refine lv_tableIn (tgt := 36) hx hb dX11_sounds_1 (by decide) (by decide) rfl (by decide) ?_
    refine lv_aload_n hx hb dX11_sounds_36 rfl (lv_at hl 0 rfl) ?_
    refine va_get (ci := 11) (v := .ref a2) (C := RX11) (T := TX11) (N := 17) hx hb hts hw11 hown hK hP 0 rfl rfl 0 (by decide) (hts (.fieldLink RX11 10 "SmokeTune" "town" "LSmokeTune$Town;") (List.mem_cons_of_mem _ (List.mem_append_left _ (List.mem_append_left _ (List.mem_append_left _ (List.mem_of_getElem? (i := 0) rfl)))))) (fun _ h9 => h9) rfl dX11_sounds_37 ?_
    refine pci (va_runVN (As := []) (rest := []) ⟨hx, hb, hml, hown, hts⟩ (c_thirdsNow l D K a2 k0 (.ref a3) (.ref a4) k3 k5 k6 k7 k8 k9 s.heap.size) ⟨va_cnB 0 hts gX11_sounds_X9_thirdsNow_n214 rfl rfl rfl (nst_at hN 67 rfl) (hts (.initialized RX9) (List.mem_cons_of_mem _ (List.mem_append_left _ (List.mem_append_left _ (List.mem_append_left _ (List.mem_of_getElem? (i := 2) rfl)))))) (by decide +kernel) ⟨Nat.le_of_ble_eq_true rfl, Nat.le_of_ble_eq_true rfl⟩, (hts (.instanceMethod yX9_thirdsNow) (List.mem_cons_of_mem _ (List.mem_append_left _ (List.mem_append_left _ (List.mem_append_left _ (List.mem_of_getElem? (i := 20) rfl)))))), (hts (.selects RX9 yX9_thirdsNow yX9_thirdsNow) (List.mem_cons_of_mem _ (List.mem_append_left _ (List.mem_append_left _ (List.mem_append_left _ (List.mem_of_getElem? (i := 21) rfl))))))⟩ (mkV hK hN (hP.sub [1] rfl) (hD.sub [1] (by decide) rfl) (ci := 9) (q0 := 0) rfl rfl) rfl rfl hl.1 rfl (lv_room (Nat.le_of_ble_eq_true rfl)) dX11_sounds_40 ⟨Nat.le_of_ble_eq_true rfl, Nat.le_of_ble_eq_true rfl⟩) (fun r_2 hw => ?_)
    obtain rfl : r_2 = 0 := hw
    exact W.iret (v := 0) hx hb hr (fun t ht hW => ⟨_, rfl, (by first | exact Or.inl (⟨rfl, by first | omega | decide | (subst_vars; assumption) | (subst_vars; symm; assumption)⟩) | exact Or.inr (Or.inl (⟨rfl, by first | omega | decide | (subst_vars; assumption) | (subst_vars; symm; assumption)⟩))), ht⟩) (fun q hq => by cases hq) dX11_sounds_43
  · refine lv_iload_n hx hb dX11_sounds_0 rfl (lv_at hl 1 rfl) ?_
    refine lv_tableIn (tgt := 44) hx hb dX11_sounds_1 (by decide) (by decide) rfl (by decide) ?_
    refine lv_aload_n hx hb dX11_sounds_44 rfl (lv_at hl 0 rfl) ?_
    refine va_get (ci := 11) (v := .ref a2) (C := RX11) (T := TX11) (N := 17) hx hb hts hw11 hown hK hP 0 rfl rfl 0 (by decide) (hts (.fieldLink RX11 10 "SmokeTune" "town" "LSmokeTune$Town;") (List.mem_cons_of_mem _ (List.mem_append_left _ (List.mem_append_left _ (List.mem_append_left _ (List.mem_of_getElem? (i := 0) rfl)))))) (fun _ h9 => h9) rfl dX11_sounds_45 ?_
    refine pci (va_runVN (As := []) (rest := []) ⟨hx, hb, hml, hown, hts⟩ (c_meetsChord l D K a2 k0 a3 a4 k3 k5 k6 k7 k8 k9 (fun _ => 0) tm0 0 0 s.heap.size rfl rfl (by omega) (by omega) (fun _ _ => rfl)) ⟨va_cnB 0 hts gX11_sounds_X9_meetsChord_n217 rfl rfl rfl (nst_at hN 68 rfl) (hts (.initialized RX9) (List.mem_cons_of_mem _ (List.mem_append_left _ (List.mem_append_left _ (List.mem_append_left _ (List.mem_of_getElem? (i := 2) rfl)))))) (by decide +kernel) ⟨Nat.le_of_ble_eq_true rfl, Nat.le_of_ble_eq_true rfl⟩, (hts (.instanceMethod yX9_meetsChord) (List.mem_cons_of_mem _ (List.mem_append_left _ (List.mem_append_left _ (List.mem_append_right _ (List.mem_of_getElem? (i := 0) rfl)))))), (hts (.selects RX9 yX9_meetsChord yX9_meetsChord) (List.mem_cons_of_mem _ (List.mem_append_left _ (List.mem_append_left _ (List.mem_append_right _ (List.mem_of_getElem? (i := 1) rfl))))))⟩ (mkV hK hN (hP.sub [1, 2, 3] rfl) (hD.sub [1, 2, 3] (by decide) rfl) (ci := 9) (q0 := 0) rfl rfl) rfl rfl hl.1 rfl (lv_room (Nat.le_of_ble_eq_true rfl)) dX11_sounds_48 ⟨Nat.le_of_ble_eq_true rfl, Nat.le_of_ble_eq_true rfl⟩) (fun r_3 hw => ?_)
    obtain rfl : r_3 = 1 := hw
    refine lv_if_eq (tgt := 58) hx hb dX11_sounds_51 (by decide) (fun c_4 => absurd c_4 (by decide)) (fun c_4 => ?_)
    refine lv_iconst (v := 1) hx hb dX11_sounds_54 (by decide) ?_
    refine lv_goto (tgt := 59) hx hb dX11_sounds_55 (by decide) ?_
    exact W.iret (v := 1) hx hb hr (fun t ht hW => ⟨_, rfl, (by first | exact Or.inr (Or.inr (Or.inl (⟨rfl, by first | omega | decide | (subst_vars; assumption) | (subst_vars; symm; assumption)⟩)))), ht⟩) (fun q hq => by cases hq) dX11_sounds_59
  · refine lv_iload_n hx hb dX11_sounds_0 rfl (lv_at hl 1 rfl) ?_
    refine lv_tableOut (tgt := 60) hx hb dX11_sounds_1 (by omega) (by decide) ?_
    refine lv_iconst (v := (-1)) hx hb dX11_sounds_60 (by decide) ?_
    exact W.iret (v := (-1)) hx hb hr (fun t ht hW => ⟨_, rfl, (by first | exact Or.inr (Or.inr (Or.inr (⟨rfl, by first | omega | decide | (subst_vars; assumption) | (subst_vars; symm; assumption)⟩)))), ht⟩) (fun q hq => by cases hq) dX11_sounds_61
set_option maxHeartbeats 4000000 in
set_option maxRecDepth 100000 in
theorem t_drawn (l : Launch) (D : va_G) (K : Nat → ClassId) (a0 : Nat) (x : Int32) (y : Int32) (g0 : Value) (g1 : Value) (g2 : Value) (g3 : Value) (g4 : Value) (g5 : Value) (g6 : Value) (g7 : Value) (g8 : Value) (g9 : Value) (g10 : Value) (g11 : Value) (g12 : Value) (g13 : Value) (g14 : Value) (g16 : Value) (sz : Nat) : Met l yX11_drawn wsX11_drawn ({ frames := 0, cells := 0, slots := 0, locals := 0 }) (va_Pc [.ref a0, .int x, .int y] (Pre D K [(a0, .inr (11, [g0, g1, g2, g3, g4, g5, g6, g7, g8, g9, g10, g11, g12, g13, g14, .int 0, g16]))] sz)) (vp_Si (fun r : Int32 => (r = (-1)))) 0 0 (fun _ => False) := by
  refine Met.ofW (cc := cX11_drawn) (maxL := 3) (ret := (some .int)) (by decide) rfl ?_
  intro p e s m args below meth c s₁ B hml hv
  obtain ⟨rfl, hsz, hP, hK, hD0, hN⟩ := hv
  have hx := B.exec
  have hb := B.bytes
  have hr := B.returns
  have hts := atoms_spec (ws := wsX11_drawn) B.pre
  have hown : s.vm.findClass RX11 = some m.cls := findClass_of_methodNamed B.named
  have hlocks := B.notSynchronized
  subst hsz
  have hD := hD0
  have hP : va_P D vwCl [(a0, .inr (11, [g0, g1, g2, g3, g4, g5, g6, g7, g8, g9, g10, g11, g12, g13, g14, .int 0, g16]))] s.heap := hP
  have hl := lv_entry [.ref a0, .int x, .int y] (n := 3) (Nat.le_of_ble_eq_true rfl)
  rw [lg_entry_eq]
  generalize (lg_sl [.ref a0, .int x, .int y] ++ List.replicate (3 - (lg_sl [.ref a0, .int x, .int y]).length) Slot.unset).toArray = ls at hl ⊢
  have hl : lv_has ls 3 [(0, .ref a0), (1, .int x), (2, .int y)] := hl
  have hw9 : ∀ w ∈ wsX90, w ∈ wsX11_drawn := fun w h => (List.mem_cons_of_mem _ (List.mem_append_right _ h))
  have hw11 : ∀ w ∈ wsX110, w ∈ wsX11_drawn := fun w h => (List.mem_cons_of_mem _ (List.mem_append_left _ (List.mem_append_right _ h)))
  refine lv_aload_n hx hb dX11_drawn_0 rfl (lv_at hl 0 rfl) ?_
  refine va_get (ci := 11) (v := .int 0) (C := RX11) (T := TX11) (N := 17) hx hb hts hw11 hown hK hP 0 rfl rfl 15 (by decide) (hts (.fieldLink RX11 90 "SmokeTune" "daysKept" "Z") (List.mem_cons_of_mem _ (List.mem_append_left _ (List.mem_append_left _ (List.mem_of_getElem? (i := 0) rfl))))) (fun _ h9 => h9) rfl dX11_drawn_1 ?_
  refine lv_if_ne (tgt := 9) hx hb dX11_drawn_4 (by decide) (fun c_1 => absurd (by decide) c_1) (fun c_1 => ?_)
  refine lv_iconst (v := (-1)) hx hb dX11_drawn_7 (by decide) ?_
  exact W.iret (v := (-1)) hx hb hr (fun t ht hW => ⟨_, rfl, (by first | exact rfl), ht⟩) (fun q hq => by cases hq) dX11_drawn_8
set_option maxHeartbeats 4000000 in
set_option maxRecDepth 100000 in
theorem t_back (l : Launch) (D : va_G) (K : Nat → ClassId) (a0 : Nat) (x : Int32) (g0 : Value) (g1 : Value) (a2 : Nat) (g3 : Value) (g4 : Value) (g5 : Value) (g6 : Value) (g7 : Value) (g8 : Value) (g9 : Value) (g10 : Value) (g11 : Value) (a1 : Nat) (g13 : Value) (g14 : Value) (g15 : Value) (g16 : Value) (f : Nat → Int32) (sz : Nat) : Met l yX11_back wsX11_back ({ frames := 2, cells := 0, slots := 0, locals := 44 }) (va_Pc [.ref a0, .int x] (Pre D K [(a0, .inr (11, [g0, g1, .ref a2, g3, g4, g5, g6, g7, g8, g9, g10, g11, .ref a1, g13, g14, g15, g16])), (a1, .inl (K 0, 5, .inl f)), (a2, .inl (K 1, 2, .inl (fun _ => 0)))] sz)) (va_Qi (S := Unit) (fun (r : Int32) (_ : Unit) => (r = (-2) ∧ 0 ≤ x.toInt ∧ x.toInt ≤ 1) ∨ (r = (-1) ∧ (x.toInt < 0 ∨ 1 < x.toInt))) (fun u t => Wd D (va_A [(a0, .inr (11, [g0, g1, .ref a2, g3, g4, g5, g6, g7, g8, g9, g10, g11, .ref a1, g13, g14, g15, g16])), (a1, .inl (K 0, 5, .inl f)), (a2, .inl (K 1, 2, .inl (fun _ => 0)))] sz) ((fun _ => []) u) t) (va_A [(a0, .inr (11, [g0, g1, .ref a2, g3, g4, g5, g6, g7, g8, g9, g10, g11, .ref a1, g13, g14, g15, g16])), (a1, .inl (K 0, 5, .inl f)), (a2, .inl (K 1, 2, .inl (fun _ => 0)))] sz)) 0 0 (va_A [(a0, .inr (11, [g0, g1, .ref a2, g3, g4, g5, g6, g7, g8, g9, g10, g11, .ref a1, g13, g14, g15, g16])), (a1, .inl (K 0, 5, .inl f)), (a2, .inl (K 1, 2, .inl (fun _ => 0)))] sz) := by
  refine Met.ofW (cc := cX11_back) (maxL := 2) (ret := (some .int)) (by decide) rfl ?_
  intro p e s m args below meth c s₁ B hml hv
  obtain ⟨rfl, hsz, hP, hK, hD0, hN⟩ := hv
  have hx := B.exec
  have hb := B.bytes
  have hr := B.returns
  have hts := atoms_spec (ws := wsX11_back) B.pre
  have hown : s.vm.findClass RX11 = some m.cls := findClass_of_methodNamed B.named
  have hlocks := B.notSynchronized
  subst hsz
  have hD := hD0.self (sz := s.heap.size)
  generalize hAe : va_A [(a0, .inr (11, [g0, g1, .ref a2, g3, g4, g5, g6, g7, g8, g9, g10, g11, .ref a1, g13, g14, g15, g16])), (a1, .inl (K 0, 5, .inl f)), (a2, .inl (K 1, 2, .inl (fun _ => 0)))] s.heap.size = A at hD ⊢
  have hA : ∀ q : Nat, s.heap.size ≤ q → A q := fun q h => by rw [← hAe]; exact Or.inr h
  have hS : va_S A s.heap s.heap [] := va_S.rf
  have hP : va_P D vwCl [(a0, .inr (11, [g0, g1, .ref a2, g3, g4, g5, g6, g7, g8, g9, g10, g11, .ref a1, g13, g14, g15, g16])), (a1, .inl (K 0, 5, .inl f)), (a2, .inl (K 1, 2, .inl (fun _ => 0)))] s.heap := hP
  have hl := lv_entry [.ref a0, .int x] (n := 2) (Nat.le_of_ble_eq_true rfl)
  rw [lg_entry_eq]
  generalize (lg_sl [.ref a0, .int x] ++ List.replicate (2 - (lg_sl [.ref a0, .int x]).length) Slot.unset).toArray = ls at hl ⊢
  have hl : lv_has ls 2 [(0, .ref a0), (1, .int x)] := hl
  have hw2 : ∀ w ∈ wsX20, w ∈ wsX11_back := fun w h => (List.mem_cons_of_mem _ (List.mem_append_right _ h))
  have hw9 : ∀ w ∈ wsX90, w ∈ wsX11_back := fun w h => (List.mem_cons_of_mem _ (List.mem_append_left _ (List.mem_append_right _ h)))
  have hw11 : ∀ w ∈ wsX110, w ∈ wsX11_back := fun w h => (List.mem_cons_of_mem _ (List.mem_append_left _ (List.mem_append_left _ (List.mem_append_right _ h))))
  refine lv_iload_n hx hb dX11_back_0 rfl (lv_at hl 1 rfl) ?_
  refine lv_iconst (v := 0) hx hb dX11_back_1 (by decide) ?_
  refine lv_iconst (v := 1) hx hb dX11_back_2 (by decide) ?_
  refine pci (va_runS (As := [.int x, .int 0, .int 1]) (rest := []) ⟨hx, hb, hml, hown, hts⟩ (c_within l D K x 0 1 x.toInt 0 1 s.heap.size rfl rfl rfl) (va_cwS 3 hts gX11_back_X11_within rfl rfl rfl (by decide +kernel) ⟨Nat.le_of_ble_eq_true rfl, Nat.le_of_ble_eq_true rfl⟩) (mkS hK hN (hP.sub [] rfl) (hD.sub [] (by decide) rfl)) rfl rfl hl.1 rfl (lv_room (Nat.le_of_ble_eq_true rfl)) dX11_back_3 ⟨Nat.le_of_ble_eq_true rfl, Nat.le_of_ble_eq_true rfl⟩) (fun r_1 hw => ?_)
  rcases hw with ⟨rfl, h_2, h_3⟩ | ⟨rfl, h_4⟩
  · refine lv_if_ne (tgt := 15) hx hb dX11_back_6 (by decide) (fun c_5 => ?_) (fun c_5 => absurd c_5 (by decide))
    refine lv_aload_n hx hb dX11_back_15 rfl (lv_at hl 0 rfl) ?_
    refine va_get (ci := 11) (v := .ref a2) (C := RX11) (T := TX11) (N := 17) hx hb hts hw11 hown hK hP 0 rfl rfl 2 (by decide) (hts (.fieldLink RX11 20 "SmokeTune" "imageKept" "[Z") (List.mem_cons_of_mem _ (List.mem_append_left _ (List.mem_append_left _ (List.mem_append_left _ (List.mem_append_left _ (List.mem_of_getElem? (i := 0) rfl))))))) (fun _ h9 => h9) rfl dX11_back_16 ?_
    refine lv_iload_n hx hb dX11_back_19 rfl (lv_at hl 1 rfl) ?_
    refine va_zald hx hb hK hP 2 1 rfl rfl (i_in rfl (by omega)) dX11_back_20 ?_
    refine lv_topi (fun x_6 ex_6 => ?_)
    obtain rfl : x_6 = 0 := ex_6.trans (by first | rfl | decide | exact rfl)
    refine lv_if_ne (tgt := 31) hx hb dX11_back_21 (by decide) (fun c_7 => absurd (by decide) c_7) (fun c_7 => ?_)
    refine lv_aload_n hx hb dX11_back_24 rfl (lv_at hl 0 rfl) ?_
    refine lv_bipush (v := (-2)) hx hb dX11_back_25 (by decide) ?_
    refine kci (wr := [(a2, .inl (K 1, 2, .inl (fun _ => 0)))]) (va_runV (As := [.int (-2)]) (rest := []) ⟨hx, hb, hml, hown, hts⟩ (c_refuse_2 l D K a0 g0 g1 (.ref a2) g3 g4 g5 g6 g7 g8 g9 g10 g11 a1 g13 g14 g15 g16 f s.heap.size) (cwV 1 hts gX11_back_X11_refuse rfl rfl rfl (by decide +kernel) ⟨Nat.le_of_ble_eq_true rfl, Nat.le_of_ble_eq_true rfl⟩) (mkV hK hN (hP.sub [0, 1] rfl) (hD.sub [0, 1] (by decide) rfl) (ci := 11) (q0 := 0) rfl rfl) rfl rfl hl.1 rfl (lv_room (Nat.le_of_ble_eq_true rfl)) dX11_back_27 ⟨Nat.le_of_ble_eq_true rfl, Nat.le_of_ble_eq_true rfl⟩) hP hD hS hA [0, 1] [2] rfl rfl (by decide) (by decide) (fun r_8 u_9 H locs hw hP hD hS => ?_)
    have hP : va_P D vwCl [(a2, .inl (K 1, 2, .inl (fun _ => 0)))] H := hP
    have hD : va_D A [(a2, .inl (K 1, 2, .inl (fun _ => 0)))] := hD
    obtain rfl : r_8 = (-2) := hw
    exact W.iret (v := (-2)) hx hb hr (fun t ht hW => ⟨⟨(-2), (), rfl, (by first | exact Or.inl (⟨rfl, by first | omega | decide | (subst_vars; assumption) | (subst_vars; symm; assumption), by first | omega | decide | (subst_vars; assumption) | (subst_vars; symm; assumption)⟩)), Wd.nil⟩, hS.F ht⟩) hS.2.2 dX11_back_30
  · refine lv_if_ne (tgt := 15) hx hb dX11_back_6 (by decide) (fun c_10 => absurd (by decide) c_10) (fun c_10 => ?_)
    refine lv_aload_n hx hb dX11_back_9 rfl (lv_at hl 0 rfl) ?_
    refine lv_iconst (v := (-1)) hx hb dX11_back_10 (by decide) ?_
    refine kci (wr := [(a2, .inl (K 1, 2, .inl (fun _ => 0)))]) (va_runV (As := [.int (-1)]) (rest := []) ⟨hx, hb, hml, hown, hts⟩ (c_refuse_1 l D K a0 g0 g1 (.ref a2) g3 g4 g5 g6 g7 g8 g9 g10 g11 a1 g13 g14 g15 g16 f s.heap.size) (cwV 1 hts gX11_back_X11_refuse rfl rfl rfl (by decide +kernel) ⟨Nat.le_of_ble_eq_true rfl, Nat.le_of_ble_eq_true rfl⟩) (mkV hK hN (hP.sub [0, 1] rfl) (hD.sub [0, 1] (by decide) rfl) (ci := 11) (q0 := 0) rfl rfl) rfl rfl hl.1 rfl (lv_room (Nat.le_of_ble_eq_true rfl)) dX11_back_11 ⟨Nat.le_of_ble_eq_true rfl, Nat.le_of_ble_eq_true rfl⟩) hP hD hS hA [0, 1] [2] rfl rfl (by decide) (by decide) (fun r_11 u_12 H locs hw hP hD hS => ?_)
    have hP : va_P D vwCl [(a2, .inl (K 1, 2, .inl (fun _ => 0)))] H := hP
    have hD : va_D A [(a2, .inl (K 1, 2, .inl (fun _ => 0)))] := hD
    obtain rfl : r_11 = (-1) := hw
    exact W.iret (v := (-1)) hx hb hr (fun t ht hW => ⟨⟨(-1), (), rfl, (by first | exact Or.inr (⟨rfl, by first | omega | decide | (subst_vars; assumption) | (subst_vars; symm; assumption)⟩)), Wd.nil⟩, hS.F ht⟩) hS.2.2 dX11_back_14
set_option maxHeartbeats 4000000 in
set_option maxRecDepth 100000 in
theorem c_singing (l : Launch) (D : va_G) (K : Nat → ClassId) (a0 : Nat) (k0 : Value) (k1 : Value) (k2 : Value) (k3 : Value) (k5 : Value) (k6 : Value) (k7 : Value) (k8 : Value) (k9 : Value) (sz : Nat) : Met l yX9_singing wsX9_singing ({ frames := 0, cells := 0, slots := 0, locals := 0 }) (va_Pc [.ref a0] (Pre D K [(a0, .inr (9, [k0, k1, k2, k3, .int 0, k5, k6, k7, k8, k9]))] sz)) (vp_Si (fun r : Int32 => (r = 0))) 0 0 (fun _ => False) := by
  refine Met.ofW (cc := cX9_singing) (maxL := 3) (ret := (some .int)) (by decide) rfl ?_
  intro p e s m args below meth c s₁ B hml hv
  obtain ⟨rfl, hsz, hP, hK, hD0, hN⟩ := hv
  have hx := B.exec
  have hb := B.bytes
  have hr := B.returns
  have hts := atoms_spec (ws := wsX9_singing) B.pre
  have hown : s.vm.findClass RX9 = some m.cls := findClass_of_methodNamed B.named
  have hlocks := B.notSynchronized
  subst hsz
  have hD := hD0
  have hP : va_P D vwCl [(a0, .inr (9, [k0, k1, k2, k3, .int 0, k5, k6, k7, k8, k9]))] s.heap := hP
  have hl := lv_entry [.ref a0] (n := 3) (Nat.le_of_ble_eq_true rfl)
  rw [lg_entry_eq]
  generalize (lg_sl [.ref a0] ++ List.replicate (3 - (lg_sl [.ref a0]).length) Slot.unset).toArray = ls at hl ⊢
  have hl : lv_has ls 3 [(0, .ref a0)] := hl
  have hw9 : ∀ w ∈ wsX90, w ∈ wsX9_singing := fun w h => (List.mem_cons_of_mem _ (List.mem_append_right _ h))
  refine lv_iconst (v := 0) hx hb dX9_singing_0 (by decide) ?_
  refine lv_istore_n (lv' := [(1, .int 0), (0, .ref a0)]) hx hb dX9_singing_1 rfl hl (by decide) rfl (fun ls hl => ?_)
  refine lv_iconst (v := 0) hx hb dX9_singing_2 (by decide) ?_
  refine lv_istore_n (lv' := [(2, .int 0), (1, .int 0), (0, .ref a0)]) hx hb dX9_singing_3 rfl hl (by decide) rfl (fun ls hl => ?_)
  refine lv_iload_n hx hb dX9_singing_4 rfl (lv_at hl 0 rfl) ?_
  refine lv_aload_n hx hb dX9_singing_5 rfl (lv_at hl 2 rfl) ?_
  refine va_get (ci := 9) (v := .int 0) (C := RX9) (T := TX9) (N := 10) hx hb hts hw9 hown hK hP 0 rfl rfl 4 (by decide) (hts (.fieldLink RX9 27 "SmokeTune$Town" "houses" "I") (List.mem_cons_of_mem _ (List.mem_append_left _ (List.mem_of_getElem? (i := 0) rfl)))) (fun _ h9 => h9) rfl dX9_singing_6 ?_
  refine lv_icmp_ge (tgt := 34) hx hb dX9_singing_9 (by decide) (fun c_1 => ?_) (fun c_1 => absurd (by decide) c_1)
  refine lv_iload_n hx hb dX9_singing_34 rfl (lv_at hl 1 rfl) ?_
  exact W.iret (v := 0) hx hb hr (fun t ht hW => ⟨_, rfl, (by first | exact rfl), ht⟩) (fun q hq => by cases hq) dX9_singing_35
set_option maxHeartbeats 4000000 in
set_option maxRecDepth 100000 in
theorem t_count (l : Launch) (D : va_G) (K : Nat → ClassId) (a0 : Nat) (x : Int32) (a2 : Nat) (g1 : Value) (g2 : Value) (g3 : Value) (g4 : Value) (a3 : Nat) (g6 : Value) (g7 : Value) (g8 : Value) (a4 : Nat) (g10 : Value) (g11 : Value) (a1 : Nat) (g13 : Value) (g14 : Value) (g15 : Value) (g16 : Value) (k0 : Value) (k1 : Value) (a5 : Nat) (k3 : Value) (k9 : Value) (p0 : Value) (p2 : Value) (p3 : Value) (p4 : Value) (p5 : Value) (q0 : Value) (q1 : Value) (sz : Nat) : Met l yX11_count wsX11_count ({ frames := 1, cells := 0, slots := 0, locals := 22 }) (va_Pc [.ref a0, .int x] (Pre D K [(a0, .inr (11, [.ref a2, g1, g2, g3, g4, .ref a3, g6, g7, g8, .ref a4, g10, g11, .ref a1, g13, g14, g15, g16])), (a1, .inl (K 0, 5, .inl (fun _ => 0))), (a2, .inr (9, [k0, k1, .ref a5, k3, .int 0, .int 0, .int (-1), .int 0, .int 0, k9])), (a3, .inr (8, [p0, .int 0, p2, p3, p4, p5])), (a4, .inr (2, [q0, q1, .int 0])), (a5, .inl (K 0, 6, .inl tm0))] sz)) (vp_Si (fun r : Int32 => (r = 0 ∧ (x.toInt = 0 ∨ x.toInt = 1 ∨ x.toInt = 2 ∨ x.toInt = 3 ∨ x.toInt = 4 ∨ x.toInt = 5 ∨ x.toInt = 6 ∨ x.toInt = 7 ∨ x.toInt = 8 ∨ x.toInt = 9 ∨ x.toInt = 10 ∨ x.toInt = 12 ∨ x.toInt = 13 ∨ x.toInt = 14 ∨ x.toInt = 18)) ∨ (r = 3 ∧ (x.toInt = 15 ∨ x.toInt = 17)) ∨ (r = 12 ∧ x.toInt = 16) ∨ (r = (-1) ∧ (x.toInt < 0 ∨ x.toInt = 11 ∨ 18 < x.toInt)))) 0 0 (fun _ => False) := by
  refine Met.ofW (cc := cX11_count) (maxL := 2) (ret := (some .int)) (by decide) rfl ?_
  intro p e s m args below meth c s₁ B hml hv
  obtain ⟨rfl, hsz, hP, hK, hD0, hN⟩ := hv
  have hx := B.exec
  have hb := B.bytes
  have hr := B.returns
  have hts := atoms_spec (ws := wsX11_count) B.pre
  have hown : s.vm.findClass RX11 = some m.cls := findClass_of_methodNamed B.named
  have hlocks := B.notSynchronized
  subst hsz
  have hD := hD0
  have hP : va_P D vwCl [(a0, .inr (11, [.ref a2, g1, g2, g3, g4, .ref a3, g6, g7, g8, .ref a4, g10, g11, .ref a1, g13, g14, g15, g16])), (a1, .inl (K 0, 5, .inl (fun _ => 0))), (a2, .inr (9, [k0, k1, .ref a5, k3, .int 0, .int 0, .int (-1), .int 0, .int 0, k9])), (a3, .inr (8, [p0, .int 0, p2, p3, p4, p5])), (a4, .inr (2, [q0, q1, .int 0])), (a5, .inl (K 0, 6, .inl tm0))] s.heap := hP
  have hl := lv_entry [.ref a0, .int x] (n := 2) (Nat.le_of_ble_eq_true rfl)
  rw [lg_entry_eq]
  generalize (lg_sl [.ref a0, .int x] ++ List.replicate (2 - (lg_sl [.ref a0, .int x]).length) Slot.unset).toArray = ls at hl ⊢
  have hl : lv_has ls 2 [(0, .ref a0), (1, .int x)] := hl
  have hw2 : ∀ w ∈ wsX20, w ∈ wsX11_count := fun w h => (List.mem_cons_of_mem _ (List.mem_append_left _ (List.mem_append_right _ h)))
  have hw8 : ∀ w ∈ wsX80, w ∈ wsX11_count := fun w h => (List.mem_cons_of_mem _ (List.mem_append_right _ h))
  have hw9 : ∀ w ∈ wsX90, w ∈ wsX11_count := fun w h => (List.mem_cons_of_mem _ (List.mem_append_left _ (List.mem_append_left _ (List.mem_append_right _ h))))
  have hw11 : ∀ w ∈ wsX110, w ∈ wsX11_count := fun w h => (List.mem_cons_of_mem _ (List.mem_append_left _ (List.mem_append_left _ (List.mem_append_left _ (List.mem_append_right _ h)))))
  have hsp : (x = 0 ∨ x = 1 ∨ x = 2 ∨ x = 3 ∨ x = 4 ∨ x = 5 ∨ x = 6 ∨ x = 7 ∨ x = 8 ∨ x = 9 ∨ x = 10 ∨ x = 11 ∨ x = 12 ∨ x = 13 ∨ x = 14 ∨ x = 15 ∨ x = 16 ∨ x = 17 ∨ x = 18) ∨ (x.toInt < 0 ∨ 18 < x.toInt) := by
    by_cases q1 : x.toInt < 0
    · exact Or.inr (Or.inl q1)
    · by_cases q2 : 18 < x.toInt
      · exact Or.inr (Or.inr q2)
      · refine Or.inl ?_
        have q3 : x.toInt = 0 ∨ x.toInt = 1 ∨ x.toInt = 2 ∨ x.toInt = 3 ∨ x.toInt = 4 ∨ x.toInt = 5 ∨ x.toInt = 6 ∨ x.toInt = 7 ∨ x.toInt = 8 ∨ x.toInt = 9 ∨ x.toInt = 10 ∨ x.toInt = 11 ∨ x.toInt = 12 ∨ x.toInt = 13 ∨ x.toInt = 14 ∨ x.toInt = 15 ∨ x.toInt = 16 ∨ x.toInt = 17 ∨ x.toInt = 18 := by omega
        rcases q3 with q3 | q3 | q3 | q3 | q3 | q3 | q3 | q3 | q3 | q3 | q3 | q3 | q3 | q3 | q3 | q3 | q3 | q3 | q3
        · exact Or.inl (i_lit q3 rfl)
        · exact Or.inr (Or.inl (i_lit q3 rfl))
        · exact Or.inr (Or.inr (Or.inl (i_lit q3 rfl)))
        · exact Or.inr (Or.inr (Or.inr (Or.inl (i_lit q3 rfl))))
        · exact Or.inr (Or.inr (Or.inr (Or.inr (Or.inl (i_lit q3 rfl)))))
        · exact Or.inr (Or.inr (Or.inr (Or.inr (Or.inr (Or.inl (i_lit q3 rfl))))))
        · exact Or.inr (Or.inr (Or.inr (Or.inr (Or.inr (Or.inr (Or.inl (i_lit q3 rfl)))))))
        · exact Or.inr (Or.inr (Or.inr (Or.inr (Or.inr (Or.inr (Or.inr (Or.inl (i_lit q3 rfl))))))))
        · exact Or.inr (Or.inr (Or.inr (Or.inr (Or.inr (Or.inr (Or.inr (Or.inr (Or.inl (i_lit q3 rfl)))))))))
        · exact Or.inr (Or.inr (Or.inr (Or.inr (Or.inr (Or.inr (Or.inr (Or.inr (Or.inr (Or.inl (i_lit q3 rfl))))))))))
        · exact Or.inr (Or.inr (Or.inr (Or.inr (Or.inr (Or.inr (Or.inr (Or.inr (Or.inr (Or.inr (Or.inl (i_lit q3 rfl)))))))))))
        · exact Or.inr (Or.inr (Or.inr (Or.inr (Or.inr (Or.inr (Or.inr (Or.inr (Or.inr (Or.inr (Or.inr (Or.inl (i_lit q3 rfl))))))))))))
        · exact Or.inr (Or.inr (Or.inr (Or.inr (Or.inr (Or.inr (Or.inr (Or.inr (Or.inr (Or.inr (Or.inr (Or.inr (Or.inl (i_lit q3 rfl)))))))))))))
        · exact Or.inr (Or.inr (Or.inr (Or.inr (Or.inr (Or.inr (Or.inr (Or.inr (Or.inr (Or.inr (Or.inr (Or.inr (Or.inr (Or.inl (i_lit q3 rfl))))))))))))))
        · exact Or.inr (Or.inr (Or.inr (Or.inr (Or.inr (Or.inr (Or.inr (Or.inr (Or.inr (Or.inr (Or.inr (Or.inr (Or.inr (Or.inr (Or.inl (i_lit q3 rfl)))))))))))))))
        · exact Or.inr (Or.inr (Or.inr (Or.inr (Or.inr (Or.inr (Or.inr (Or.inr (Or.inr (Or.inr (Or.inr (Or.inr (Or.inr (Or.inr (Or.inr (Or.inl (i_lit q3 rfl))))))))))))))))
        · exact Or.inr (Or.inr (Or.inr (Or.inr (Or.inr (Or.inr (Or.inr (Or.inr (Or.inr (Or.inr (Or.inr (Or.inr (Or.inr (Or.inr (Or.inr (Or.inr (Or.inl (i_lit q3 rfl)))))))))))))))))
        · exact Or.inr (Or.inr (Or.inr (Or.inr (Or.inr (Or.inr (Or.inr (Or.inr (Or.inr (Or.inr (Or.inr (Or.inr (Or.inr (Or.inr (Or.inr (Or.inr (Or.inr (Or.inl (i_lit q3 rfl))))))))))))))))))
        · exact Or.inr (Or.inr (Or.inr (Or.inr (Or.inr (Or.inr (Or.inr (Or.inr (Or.inr (Or.inr (Or.inr (Or.inr (Or.inr (Or.inr (Or.inr (Or.inr (Or.inr (Or.inr (i_lit q3 rfl))))))))))))))))))
  rcases hsp with (rfl | rfl | rfl | rfl | rfl | rfl | rfl | rfl | rfl | rfl | rfl | rfl | rfl | rfl | rfl | rfl | rfl | rfl | rfl) | hsp
  · refine lv_iload_n hx hb dX11_count_0 rfl (lv_at hl 1 rfl) ?_
    refine lv_bipush (v := 6) hx hb dX11_count_1 (by decide) ?_
    refine lv_bipush (v := 10) hx hb dX11_count_3 (by decide) ?_
    refine pci (va_runS (As := [.int 0, .int 6, .int 10]) (rest := []) ⟨hx, hb, hml, hown, hts⟩ (c_within l D K 0 6 10 0 6 10 s.heap.size rfl rfl rfl) (va_cwS 3 hts gX11_count_X11_within rfl rfl rfl (by decide +kernel) ⟨Nat.le_of_ble_eq_true rfl, Nat.le_of_ble_eq_true rfl⟩) (mkS hK hN (hP.sub [] rfl) (hD.sub [] (by decide) rfl)) rfl rfl hl.1 rfl (lv_room (Nat.le_of_ble_eq_true rfl)) dX11_count_5 ⟨Nat.le_of_ble_eq_true rfl, Nat.le_of_ble_eq_true rfl⟩) (fun r_1 hw => ?_)
    rcases hw with ⟨rfl, h_2, h_3⟩ | ⟨rfl, h_4⟩
    · exfalso; omega
    · refine lv_if_eq (tgt := 21) hx hb dX11_count_8 (by decide) (fun c_5 => ?_) (fun c_5 => absurd (by decide) c_5)
      refine lv_iload_n hx hb dX11_count_21 rfl (lv_at hl 1 rfl) ?_
      refine lv_bipush (v := 13) hx hb dX11_count_22 (by decide) ?_
      refine lv_bipush (v := 18) hx hb dX11_count_24 (by decide) ?_
      refine pci (va_runS (As := [.int 0, .int 13, .int 18]) (rest := []) ⟨hx, hb, hml, hown, hts⟩ (c_within l D K 0 13 18 0 13 18 s.heap.size rfl rfl rfl) (va_cwS 3 hts gX11_count_X11_within rfl rfl rfl (by decide +kernel) ⟨Nat.le_of_ble_eq_true rfl, Nat.le_of_ble_eq_true rfl⟩) (mkS hK hN (hP.sub [] rfl) (hD.sub [] (by decide) rfl)) rfl rfl hl.1 rfl (lv_room (Nat.le_of_ble_eq_true rfl)) dX11_count_26 ⟨Nat.le_of_ble_eq_true rfl, Nat.le_of_ble_eq_true rfl⟩) (fun r_6 hw => ?_)
      rcases hw with ⟨rfl, h_7, h_8⟩ | ⟨rfl, h_9⟩
      · exfalso; omega
      · refine lv_if_eq (tgt := 45) hx hb dX11_count_29 (by decide) (fun c_10 => ?_) (fun c_10 => absurd (by decide) c_10)
        refine lv_iload_n hx hb dX11_count_45 rfl (lv_at hl 1 rfl) ?_
        refine lv_tableIn (tgt := 112) hx hb dX11_count_46 (by decide) (by decide) rfl (by decide) ?_
        refine lv_aload_n hx hb dX11_count_112 rfl (lv_at hl 0 rfl) ?_
        refine va_get (ci := 11) (v := .ref a2) (C := RX11) (T := TX11) (N := 17) hx hb hts hw11 hown hK hP 0 rfl rfl 0 (by decide) (hts (.fieldLink RX11 10 "SmokeTune" "town" "LSmokeTune$Town;") (List.mem_cons_of_mem _ (List.mem_append_left _ (List.mem_append_left _ (List.mem_append_left _ (List.mem_append_left _ (List.mem_append_left _ (List.mem_of_getElem? (i := 1) rfl)))))))) (fun _ h9 => h9) rfl dX11_count_113 ?_
        refine va_getN (ci := 9) (v := .int 0) (C := RX9) (T := TX9) (N := 10) hx hb hts hw9 hown hK hP 2 rfl rfl 4 (by decide) (nst_use hN 107 rfl) (fun _ h9 => h9) rfl dX11_count_116 ?_
        exact W.iret (v := 0) hx hb hr (fun t ht hW => ⟨_, rfl, (by first | exact Or.inl (⟨rfl, by first | omega | decide | (subst_vars; assumption) | (subst_vars; symm; assumption)⟩)), ht⟩) (fun q hq => by cases hq) dX11_count_119
  · refine lv_iload_n hx hb dX11_count_0 rfl (lv_at hl 1 rfl) ?_
    refine lv_bipush (v := 6) hx hb dX11_count_1 (by decide) ?_
    refine lv_bipush (v := 10) hx hb dX11_count_3 (by decide) ?_
    refine pci (va_runS (As := [.int 1, .int 6, .int 10]) (rest := []) ⟨hx, hb, hml, hown, hts⟩ (c_within l D K 1 6 10 1 6 10 s.heap.size rfl rfl rfl) (va_cwS 3 hts gX11_count_X11_within rfl rfl rfl (by decide +kernel) ⟨Nat.le_of_ble_eq_true rfl, Nat.le_of_ble_eq_true rfl⟩) (mkS hK hN (hP.sub [] rfl) (hD.sub [] (by decide) rfl)) rfl rfl hl.1 rfl (lv_room (Nat.le_of_ble_eq_true rfl)) dX11_count_5 ⟨Nat.le_of_ble_eq_true rfl, Nat.le_of_ble_eq_true rfl⟩) (fun r_11 hw => ?_)
    rcases hw with ⟨rfl, h_12, h_13⟩ | ⟨rfl, h_14⟩
    · exfalso; omega
    · refine lv_if_eq (tgt := 21) hx hb dX11_count_8 (by decide) (fun c_15 => ?_) (fun c_15 => absurd (by decide) c_15)
      refine lv_iload_n hx hb dX11_count_21 rfl (lv_at hl 1 rfl) ?_
      refine lv_bipush (v := 13) hx hb dX11_count_22 (by decide) ?_
      refine lv_bipush (v := 18) hx hb dX11_count_24 (by decide) ?_
      refine pci (va_runS (As := [.int 1, .int 13, .int 18]) (rest := []) ⟨hx, hb, hml, hown, hts⟩ (c_within l D K 1 13 18 1 13 18 s.heap.size rfl rfl rfl) (va_cwS 3 hts gX11_count_X11_within rfl rfl rfl (by decide +kernel) ⟨Nat.le_of_ble_eq_true rfl, Nat.le_of_ble_eq_true rfl⟩) (mkS hK hN (hP.sub [] rfl) (hD.sub [] (by decide) rfl)) rfl rfl hl.1 rfl (lv_room (Nat.le_of_ble_eq_true rfl)) dX11_count_26 ⟨Nat.le_of_ble_eq_true rfl, Nat.le_of_ble_eq_true rfl⟩) (fun r_16 hw => ?_)
      rcases hw with ⟨rfl, h_17, h_18⟩ | ⟨rfl, h_19⟩
      · exfalso; omega
      · refine lv_if_eq (tgt := 45) hx hb dX11_count_29 (by decide) (fun c_20 => ?_) (fun c_20 => absurd (by decide) c_20)
        refine lv_iload_n hx hb dX11_count_45 rfl (lv_at hl 1 rfl) ?_
        refine lv_tableIn (tgt := 120) hx hb dX11_count_46 (by decide) (by decide) rfl (by decide) ?_
        refine lv_aload_n hx hb dX11_count_120 rfl (lv_at hl 0 rfl) ?_
        refine va_get (ci := 11) (v := .ref a2) (C := RX11) (T := TX11) (N := 17) hx hb hts hw11 hown hK hP 0 rfl rfl 0 (by decide) (hts (.fieldLink RX11 10 "SmokeTune" "town" "LSmokeTune$Town;") (List.mem_cons_of_mem _ (List.mem_append_left _ (List.mem_append_left _ (List.mem_append_left _ (List.mem_append_left _ (List.mem_append_left _ (List.mem_of_getElem? (i := 1) rfl)))))))) (fun _ h9 => h9) rfl dX11_count_121 ?_
        refine pci (va_runVN (As := []) (rest := []) ⟨hx, hb, hml, hown, hts⟩ (c_singing l D K a2 k0 k1 (.ref a5) k3 (.int 0) (.int (-1)) (.int 0) (.int 0) k9 s.heap.size) ⟨va_cnB 0 hts gX11_count_X9_singing_n294 rfl rfl rfl (nst_at hN 96 rfl) (hts (.initialized RX9) (List.mem_cons_of_mem _ (List.mem_append_left _ (List.mem_append_left _ (List.mem_append_left _ (List.mem_append_left _ (List.mem_append_left _ (List.mem_of_getElem? (i := 9) rfl)))))))) (by decide +kernel) ⟨Nat.le_of_ble_eq_true rfl, Nat.le_of_ble_eq_true rfl⟩, (hts (.instanceMethod yX9_singing) (List.mem_cons_of_mem _ (List.mem_append_left _ (List.mem_append_left _ (List.mem_append_left _ (List.mem_append_left _ (List.mem_append_left _ (List.mem_of_getElem? (i := 8) rfl)))))))), (hts (.selects RX9 yX9_singing yX9_singing) (List.mem_cons_of_mem _ (List.mem_append_left _ (List.mem_append_left _ (List.mem_append_left _ (List.mem_append_left _ (List.mem_append_left _ (List.mem_of_getElem? (i := 10) rfl))))))))⟩ (mkV hK hN (hP.sub [2] rfl) (hD.sub [2] (by decide) rfl) (ci := 9) (q0 := 0) rfl rfl) rfl rfl hl.1 rfl (lv_room (Nat.le_of_ble_eq_true rfl)) dX11_count_124 ⟨Nat.le_of_ble_eq_true rfl, Nat.le_of_ble_eq_true rfl⟩) (fun r_21 hw => ?_)
        obtain rfl : r_21 = 0 := hw
        exact W.iret (v := 0) hx hb hr (fun t ht hW => ⟨_, rfl, (by first | exact Or.inl (⟨rfl, by first | omega | decide | (subst_vars; assumption) | (subst_vars; symm; assumption)⟩)), ht⟩) (fun q hq => by cases hq) dX11_count_127
  · refine lv_iload_n hx hb dX11_count_0 rfl (lv_at hl 1 rfl) ?_
    refine lv_bipush (v := 6) hx hb dX11_count_1 (by decide) ?_
    refine lv_bipush (v := 10) hx hb dX11_count_3 (by decide) ?_
    refine pci (va_runS (As := [.int 2, .int 6, .int 10]) (rest := []) ⟨hx, hb, hml, hown, hts⟩ (c_within l D K 2 6 10 2 6 10 s.heap.size rfl rfl rfl) (va_cwS 3 hts gX11_count_X11_within rfl rfl rfl (by decide +kernel) ⟨Nat.le_of_ble_eq_true rfl, Nat.le_of_ble_eq_true rfl⟩) (mkS hK hN (hP.sub [] rfl) (hD.sub [] (by decide) rfl)) rfl rfl hl.1 rfl (lv_room (Nat.le_of_ble_eq_true rfl)) dX11_count_5 ⟨Nat.le_of_ble_eq_true rfl, Nat.le_of_ble_eq_true rfl⟩) (fun r_22 hw => ?_)
    rcases hw with ⟨rfl, h_23, h_24⟩ | ⟨rfl, h_25⟩
    · exfalso; omega
    · refine lv_if_eq (tgt := 21) hx hb dX11_count_8 (by decide) (fun c_26 => ?_) (fun c_26 => absurd (by decide) c_26)
      refine lv_iload_n hx hb dX11_count_21 rfl (lv_at hl 1 rfl) ?_
      refine lv_bipush (v := 13) hx hb dX11_count_22 (by decide) ?_
      refine lv_bipush (v := 18) hx hb dX11_count_24 (by decide) ?_
      refine pci (va_runS (As := [.int 2, .int 13, .int 18]) (rest := []) ⟨hx, hb, hml, hown, hts⟩ (c_within l D K 2 13 18 2 13 18 s.heap.size rfl rfl rfl) (va_cwS 3 hts gX11_count_X11_within rfl rfl rfl (by decide +kernel) ⟨Nat.le_of_ble_eq_true rfl, Nat.le_of_ble_eq_true rfl⟩) (mkS hK hN (hP.sub [] rfl) (hD.sub [] (by decide) rfl)) rfl rfl hl.1 rfl (lv_room (Nat.le_of_ble_eq_true rfl)) dX11_count_26 ⟨Nat.le_of_ble_eq_true rfl, Nat.le_of_ble_eq_true rfl⟩) (fun r_27 hw => ?_)
      rcases hw with ⟨rfl, h_28, h_29⟩ | ⟨rfl, h_30⟩
      · exfalso; omega
      · refine lv_if_eq (tgt := 45) hx hb dX11_count_29 (by decide) (fun c_31 => ?_) (fun c_31 => absurd (by decide) c_31)
        refine lv_iload_n hx hb dX11_count_45 rfl (lv_at hl 1 rfl) ?_
        refine lv_tableIn (tgt := 128) hx hb dX11_count_46 (by decide) (by decide) rfl (by decide) ?_
        refine lv_aload_n hx hb dX11_count_128 rfl (lv_at hl 0 rfl) ?_
        refine va_get (ci := 11) (v := .ref a2) (C := RX11) (T := TX11) (N := 17) hx hb hts hw11 hown hK hP 0 rfl rfl 0 (by decide) (hts (.fieldLink RX11 10 "SmokeTune" "town" "LSmokeTune$Town;") (List.mem_cons_of_mem _ (List.mem_append_left _ (List.mem_append_left _ (List.mem_append_left _ (List.mem_append_left _ (List.mem_append_left _ (List.mem_of_getElem? (i := 1) rfl)))))))) (fun _ h9 => h9) rfl dX11_count_129 ?_
        refine va_getN (ci := 9) (v := .int 0) (C := RX9) (T := TX9) (N := 10) hx hb hts hw9 hown hK hP 2 rfl rfl 8 (by decide) (nst_use hN 116 rfl) (fun _ h9 => h9) rfl dX11_count_132 ?_
        exact W.iret (v := 0) hx hb hr (fun t ht hW => ⟨_, rfl, (by first | exact Or.inl (⟨rfl, by first | omega | decide | (subst_vars; assumption) | (subst_vars; symm; assumption)⟩)), ht⟩) (fun q hq => by cases hq) dX11_count_135
  · refine lv_iload_n hx hb dX11_count_0 rfl (lv_at hl 1 rfl) ?_
    refine lv_bipush (v := 6) hx hb dX11_count_1 (by decide) ?_
    refine lv_bipush (v := 10) hx hb dX11_count_3 (by decide) ?_
    refine pci (va_runS (As := [.int 3, .int 6, .int 10]) (rest := []) ⟨hx, hb, hml, hown, hts⟩ (c_within l D K 3 6 10 3 6 10 s.heap.size rfl rfl rfl) (va_cwS 3 hts gX11_count_X11_within rfl rfl rfl (by decide +kernel) ⟨Nat.le_of_ble_eq_true rfl, Nat.le_of_ble_eq_true rfl⟩) (mkS hK hN (hP.sub [] rfl) (hD.sub [] (by decide) rfl)) rfl rfl hl.1 rfl (lv_room (Nat.le_of_ble_eq_true rfl)) dX11_count_5 ⟨Nat.le_of_ble_eq_true rfl, Nat.le_of_ble_eq_true rfl⟩) (fun r_32 hw => ?_)
    rcases hw with ⟨rfl, h_33, h_34⟩ | ⟨rfl, h_35⟩
    · exfalso; omega
    · refine lv_if_eq (tgt := 21) hx hb dX11_count_8 (by decide) (fun c_36 => ?_) (fun c_36 => absurd (by decide) c_36)
      refine lv_iload_n hx hb dX11_count_21 rfl (lv_at hl 1 rfl) ?_
      refine lv_bipush (v := 13) hx hb dX11_count_22 (by decide) ?_
      refine lv_bipush (v := 18) hx hb dX11_count_24 (by decide) ?_
      refine pci (va_runS (As := [.int 3, .int 13, .int 18]) (rest := []) ⟨hx, hb, hml, hown, hts⟩ (c_within l D K 3 13 18 3 13 18 s.heap.size rfl rfl rfl) (va_cwS 3 hts gX11_count_X11_within rfl rfl rfl (by decide +kernel) ⟨Nat.le_of_ble_eq_true rfl, Nat.le_of_ble_eq_true rfl⟩) (mkS hK hN (hP.sub [] rfl) (hD.sub [] (by decide) rfl)) rfl rfl hl.1 rfl (lv_room (Nat.le_of_ble_eq_true rfl)) dX11_count_26 ⟨Nat.le_of_ble_eq_true rfl, Nat.le_of_ble_eq_true rfl⟩) (fun r_37 hw => ?_)
      rcases hw with ⟨rfl, h_38, h_39⟩ | ⟨rfl, h_40⟩
      · exfalso; omega
      · refine lv_if_eq (tgt := 45) hx hb dX11_count_29 (by decide) (fun c_41 => ?_) (fun c_41 => absurd (by decide) c_41)
        refine lv_iload_n hx hb dX11_count_45 rfl (lv_at hl 1 rfl) ?_
        refine lv_tableIn (tgt := 136) hx hb dX11_count_46 (by decide) (by decide) rfl (by decide) ?_
        refine lv_aload_n hx hb dX11_count_136 rfl (lv_at hl 0 rfl) ?_
        refine va_get (ci := 11) (v := .ref a2) (C := RX11) (T := TX11) (N := 17) hx hb hts hw11 hown hK hP 0 rfl rfl 0 (by decide) (hts (.fieldLink RX11 10 "SmokeTune" "town" "LSmokeTune$Town;") (List.mem_cons_of_mem _ (List.mem_append_left _ (List.mem_append_left _ (List.mem_append_left _ (List.mem_append_left _ (List.mem_append_left _ (List.mem_of_getElem? (i := 1) rfl)))))))) (fun _ h9 => h9) rfl dX11_count_137 ?_
        refine va_getN (ci := 9) (v := .int 0) (C := RX9) (T := TX9) (N := 10) hx hb hts hw9 hown hK hP 2 rfl rfl 5 (by decide) (nst_use hN 110 rfl) (fun _ h9 => h9) rfl dX11_count_140 ?_
        exact W.iret (v := 0) hx hb hr (fun t ht hW => ⟨_, rfl, (by first | exact Or.inl (⟨rfl, by first | omega | decide | (subst_vars; assumption) | (subst_vars; symm; assumption)⟩)), ht⟩) (fun q hq => by cases hq) dX11_count_143
  · refine lv_iload_n hx hb dX11_count_0 rfl (lv_at hl 1 rfl) ?_
    refine lv_bipush (v := 6) hx hb dX11_count_1 (by decide) ?_
    refine lv_bipush (v := 10) hx hb dX11_count_3 (by decide) ?_
    refine pci (va_runS (As := [.int 4, .int 6, .int 10]) (rest := []) ⟨hx, hb, hml, hown, hts⟩ (c_within l D K 4 6 10 4 6 10 s.heap.size rfl rfl rfl) (va_cwS 3 hts gX11_count_X11_within rfl rfl rfl (by decide +kernel) ⟨Nat.le_of_ble_eq_true rfl, Nat.le_of_ble_eq_true rfl⟩) (mkS hK hN (hP.sub [] rfl) (hD.sub [] (by decide) rfl)) rfl rfl hl.1 rfl (lv_room (Nat.le_of_ble_eq_true rfl)) dX11_count_5 ⟨Nat.le_of_ble_eq_true rfl, Nat.le_of_ble_eq_true rfl⟩) (fun r_42 hw => ?_)
    rcases hw with ⟨rfl, h_43, h_44⟩ | ⟨rfl, h_45⟩
    · exfalso; omega
    · refine lv_if_eq (tgt := 21) hx hb dX11_count_8 (by decide) (fun c_46 => ?_) (fun c_46 => absurd (by decide) c_46)
      refine lv_iload_n hx hb dX11_count_21 rfl (lv_at hl 1 rfl) ?_
      refine lv_bipush (v := 13) hx hb dX11_count_22 (by decide) ?_
      refine lv_bipush (v := 18) hx hb dX11_count_24 (by decide) ?_
      refine pci (va_runS (As := [.int 4, .int 13, .int 18]) (rest := []) ⟨hx, hb, hml, hown, hts⟩ (c_within l D K 4 13 18 4 13 18 s.heap.size rfl rfl rfl) (va_cwS 3 hts gX11_count_X11_within rfl rfl rfl (by decide +kernel) ⟨Nat.le_of_ble_eq_true rfl, Nat.le_of_ble_eq_true rfl⟩) (mkS hK hN (hP.sub [] rfl) (hD.sub [] (by decide) rfl)) rfl rfl hl.1 rfl (lv_room (Nat.le_of_ble_eq_true rfl)) dX11_count_26 ⟨Nat.le_of_ble_eq_true rfl, Nat.le_of_ble_eq_true rfl⟩) (fun r_47 hw => ?_)
      rcases hw with ⟨rfl, h_48, h_49⟩ | ⟨rfl, h_50⟩
      · exfalso; omega
      · refine lv_if_eq (tgt := 45) hx hb dX11_count_29 (by decide) (fun c_51 => ?_) (fun c_51 => absurd (by decide) c_51)
        refine lv_iload_n hx hb dX11_count_45 rfl (lv_at hl 1 rfl) ?_
        refine lv_tableIn (tgt := 144) hx hb dX11_count_46 (by decide) (by decide) rfl (by decide) ?_
        refine lv_aload_n hx hb dX11_count_144 rfl (lv_at hl 0 rfl) ?_
        refine va_get (ci := 11) (v := .ref a4) (C := RX11) (T := TX11) (N := 17) hx hb hts hw11 hown hK hP 0 rfl rfl 9 (by decide) (hts (.fieldLink RX11 61 "SmokeTune" "history" "LSmokeTune$History;") (List.mem_cons_of_mem _ (List.mem_append_left _ (List.mem_append_left _ (List.mem_append_left _ (List.mem_append_left _ (List.mem_append_left _ (List.mem_of_getElem? (i := 2) rfl)))))))) (fun _ h9 => h9) rfl dX11_count_145 ?_
        refine va_getN (ci := 2) (v := .int 0) (C := RX2) (T := TX2) (N := 3) hx hb hts hw2 hown hK hP 4 rfl rfl 2 (by decide) (nst_use hN 137 rfl) (fun _ h9 => h9) rfl dX11_count_148 ?_
        exact W.iret (v := 0) hx hb hr (fun t ht hW => ⟨_, rfl, (by first | exact Or.inl (⟨rfl, by first | omega | decide | (subst_vars; assumption) | (subst_vars; symm; assumption)⟩)), ht⟩) (fun q hq => by cases hq) dX11_count_151
  · refine lv_iload_n hx hb dX11_count_0 rfl (lv_at hl 1 rfl) ?_
    refine lv_bipush (v := 6) hx hb dX11_count_1 (by decide) ?_
    refine lv_bipush (v := 10) hx hb dX11_count_3 (by decide) ?_
    refine pci (va_runS (As := [.int 5, .int 6, .int 10]) (rest := []) ⟨hx, hb, hml, hown, hts⟩ (c_within l D K 5 6 10 5 6 10 s.heap.size rfl rfl rfl) (va_cwS 3 hts gX11_count_X11_within rfl rfl rfl (by decide +kernel) ⟨Nat.le_of_ble_eq_true rfl, Nat.le_of_ble_eq_true rfl⟩) (mkS hK hN (hP.sub [] rfl) (hD.sub [] (by decide) rfl)) rfl rfl hl.1 rfl (lv_room (Nat.le_of_ble_eq_true rfl)) dX11_count_5 ⟨Nat.le_of_ble_eq_true rfl, Nat.le_of_ble_eq_true rfl⟩) (fun r_52 hw => ?_)
    rcases hw with ⟨rfl, h_53, h_54⟩ | ⟨rfl, h_55⟩
    · exfalso; omega
    · refine lv_if_eq (tgt := 21) hx hb dX11_count_8 (by decide) (fun c_56 => ?_) (fun c_56 => absurd (by decide) c_56)
      refine lv_iload_n hx hb dX11_count_21 rfl (lv_at hl 1 rfl) ?_
      refine lv_bipush (v := 13) hx hb dX11_count_22 (by decide) ?_
      refine lv_bipush (v := 18) hx hb dX11_count_24 (by decide) ?_
      refine pci (va_runS (As := [.int 5, .int 13, .int 18]) (rest := []) ⟨hx, hb, hml, hown, hts⟩ (c_within l D K 5 13 18 5 13 18 s.heap.size rfl rfl rfl) (va_cwS 3 hts gX11_count_X11_within rfl rfl rfl (by decide +kernel) ⟨Nat.le_of_ble_eq_true rfl, Nat.le_of_ble_eq_true rfl⟩) (mkS hK hN (hP.sub [] rfl) (hD.sub [] (by decide) rfl)) rfl rfl hl.1 rfl (lv_room (Nat.le_of_ble_eq_true rfl)) dX11_count_26 ⟨Nat.le_of_ble_eq_true rfl, Nat.le_of_ble_eq_true rfl⟩) (fun r_57 hw => ?_)
      rcases hw with ⟨rfl, h_58, h_59⟩ | ⟨rfl, h_60⟩
      · exfalso; omega
      · refine lv_if_eq (tgt := 45) hx hb dX11_count_29 (by decide) (fun c_61 => ?_) (fun c_61 => absurd (by decide) c_61)
        refine lv_iload_n hx hb dX11_count_45 rfl (lv_at hl 1 rfl) ?_
        refine lv_tableIn (tgt := 152) hx hb dX11_count_46 (by decide) (by decide) rfl (by decide) ?_
        refine lv_aload_n hx hb dX11_count_152 rfl (lv_at hl 0 rfl) ?_
        refine va_get (ci := 11) (v := .ref a3) (C := RX11) (T := TX11) (N := 17) hx hb hts hw11 hown hK hP 0 rfl rfl 5 (by decide) (hts (.fieldLink RX11 38 "SmokeTune" "tape" "LSmokeTune$Tape;") (List.mem_cons_of_mem _ (List.mem_append_left _ (List.mem_append_left _ (List.mem_append_left _ (List.mem_append_left _ (List.mem_append_left _ (List.mem_of_getElem? (i := 3) rfl)))))))) (fun _ h9 => h9) rfl dX11_count_153 ?_
        refine va_getN (ci := 8) (v := .int 0) (C := RX8) (T := TX8) (N := 6) hx hb hts hw8 hown hK hP 3 rfl rfl 1 (by decide) (nst_use hN 120 rfl) (fun _ h9 => h9) rfl dX11_count_156 ?_
        exact W.iret (v := 0) hx hb hr (fun t ht hW => ⟨_, rfl, (by first | exact Or.inl (⟨rfl, by first | omega | decide | (subst_vars; assumption) | (subst_vars; symm; assumption)⟩)), ht⟩) (fun q hq => by cases hq) dX11_count_159
  · refine lv_iload_n hx hb dX11_count_0 rfl (lv_at hl 1 rfl) ?_
    refine lv_bipush (v := 6) hx hb dX11_count_1 (by decide) ?_
    refine lv_bipush (v := 10) hx hb dX11_count_3 (by decide) ?_
    refine pci (va_runS (As := [.int 6, .int 6, .int 10]) (rest := []) ⟨hx, hb, hml, hown, hts⟩ (c_within l D K 6 6 10 6 6 10 s.heap.size rfl rfl rfl) (va_cwS 3 hts gX11_count_X11_within rfl rfl rfl (by decide +kernel) ⟨Nat.le_of_ble_eq_true rfl, Nat.le_of_ble_eq_true rfl⟩) (mkS hK hN (hP.sub [] rfl) (hD.sub [] (by decide) rfl)) rfl rfl hl.1 rfl (lv_room (Nat.le_of_ble_eq_true rfl)) dX11_count_5 ⟨Nat.le_of_ble_eq_true rfl, Nat.le_of_ble_eq_true rfl⟩) (fun r_62 hw => ?_)
    rcases hw with ⟨rfl, h_63, h_64⟩ | ⟨rfl, h_65⟩
    · refine lv_if_eq (tgt := 21) hx hb dX11_count_8 (by decide) (fun c_66 => absurd c_66 (by decide)) (fun c_66 => ?_)
      refine lv_aload_n hx hb dX11_count_11 rfl (lv_at hl 0 rfl) ?_
      refine va_get (ci := 11) (v := .ref a1) (C := RX11) (T := TX11) (N := 17) hx hb hts hw11 hown hK hP 0 rfl rfl 12 (by decide) (hts (.fieldLink RX11 79 "SmokeTune" "refusals" "[I") (List.mem_cons_of_mem _ (List.mem_append_left _ (List.mem_append_left _ (List.mem_append_left _ (List.mem_append_left _ (List.mem_append_left _ (List.mem_of_getElem? (i := 0) rfl)))))))) (fun _ h9 => h9) rfl dX11_count_12 ?_
      refine lv_iload_n hx hb dX11_count_15 rfl (lv_at hl 1 rfl) ?_
      refine lv_bipush (v := 6) hx hb dX11_count_16 (by decide) ?_
      refine lv_isub hx hb dX11_count_18 ?_
      refine lv_topi (fun x_67 ex_67 => ?_)
      obtain rfl : x_67 = 0 := ex_67.trans (by first | rfl | decide)
      refine va_iald hx hb hK hP 1 0 rfl rfl (i_in (x := 0) rfl (by omega)) dX11_count_19 ?_
      refine lv_topi (fun x_68 ex_68 => ?_)
      obtain rfl : x_68 = 0 := ex_68.trans (by first | rfl | decide | exact rfl)
      exact W.iret (v := 0) hx hb hr (fun t ht hW => ⟨_, rfl, (by first | exact Or.inl (⟨rfl, by first | omega | decide | (subst_vars; assumption) | (subst_vars; symm; assumption)⟩)), ht⟩) (fun q hq => by cases hq) dX11_count_20
    · exfalso; omega
  · refine lv_iload_n hx hb dX11_count_0 rfl (lv_at hl 1 rfl) ?_
    refine lv_bipush (v := 6) hx hb dX11_count_1 (by decide) ?_
    refine lv_bipush (v := 10) hx hb dX11_count_3 (by decide) ?_
    refine pci (va_runS (As := [.int 7, .int 6, .int 10]) (rest := []) ⟨hx, hb, hml, hown, hts⟩ (c_within l D K 7 6 10 7 6 10 s.heap.size rfl rfl rfl) (va_cwS 3 hts gX11_count_X11_within rfl rfl rfl (by decide +kernel) ⟨Nat.le_of_ble_eq_true rfl, Nat.le_of_ble_eq_true rfl⟩) (mkS hK hN (hP.sub [] rfl) (hD.sub [] (by decide) rfl)) rfl rfl hl.1 rfl (lv_room (Nat.le_of_ble_eq_true rfl)) dX11_count_5 ⟨Nat.le_of_ble_eq_true rfl, Nat.le_of_ble_eq_true rfl⟩) (fun r_69 hw => ?_)
    rcases hw with ⟨rfl, h_70, h_71⟩ | ⟨rfl, h_72⟩
    · refine lv_if_eq (tgt := 21) hx hb dX11_count_8 (by decide) (fun c_73 => absurd c_73 (by decide)) (fun c_73 => ?_)
      refine lv_aload_n hx hb dX11_count_11 rfl (lv_at hl 0 rfl) ?_
      refine va_get (ci := 11) (v := .ref a1) (C := RX11) (T := TX11) (N := 17) hx hb hts hw11 hown hK hP 0 rfl rfl 12 (by decide) (hts (.fieldLink RX11 79 "SmokeTune" "refusals" "[I") (List.mem_cons_of_mem _ (List.mem_append_left _ (List.mem_append_left _ (List.mem_append_left _ (List.mem_append_left _ (List.mem_append_left _ (List.mem_of_getElem? (i := 0) rfl)))))))) (fun _ h9 => h9) rfl dX11_count_12 ?_
      refine lv_iload_n hx hb dX11_count_15 rfl (lv_at hl 1 rfl) ?_
      refine lv_bipush (v := 6) hx hb dX11_count_16 (by decide) ?_
      refine lv_isub hx hb dX11_count_18 ?_
      refine lv_topi (fun x_74 ex_74 => ?_)
      obtain rfl : x_74 = 1 := ex_74.trans (by first | rfl | decide)
      refine va_iald hx hb hK hP 1 0 rfl rfl (i_in (x := 1) rfl (by omega)) dX11_count_19 ?_
      refine lv_topi (fun x_75 ex_75 => ?_)
      obtain rfl : x_75 = 0 := ex_75.trans (by first | rfl | decide | exact rfl)
      exact W.iret (v := 0) hx hb hr (fun t ht hW => ⟨_, rfl, (by first | exact Or.inl (⟨rfl, by first | omega | decide | (subst_vars; assumption) | (subst_vars; symm; assumption)⟩)), ht⟩) (fun q hq => by cases hq) dX11_count_20
    · exfalso; omega
  · refine lv_iload_n hx hb dX11_count_0 rfl (lv_at hl 1 rfl) ?_
    refine lv_bipush (v := 6) hx hb dX11_count_1 (by decide) ?_
    refine lv_bipush (v := 10) hx hb dX11_count_3 (by decide) ?_
    refine pci (va_runS (As := [.int 8, .int 6, .int 10]) (rest := []) ⟨hx, hb, hml, hown, hts⟩ (c_within l D K 8 6 10 8 6 10 s.heap.size rfl rfl rfl) (va_cwS 3 hts gX11_count_X11_within rfl rfl rfl (by decide +kernel) ⟨Nat.le_of_ble_eq_true rfl, Nat.le_of_ble_eq_true rfl⟩) (mkS hK hN (hP.sub [] rfl) (hD.sub [] (by decide) rfl)) rfl rfl hl.1 rfl (lv_room (Nat.le_of_ble_eq_true rfl)) dX11_count_5 ⟨Nat.le_of_ble_eq_true rfl, Nat.le_of_ble_eq_true rfl⟩) (fun r_76 hw => ?_)
    rcases hw with ⟨rfl, h_77, h_78⟩ | ⟨rfl, h_79⟩
    · refine lv_if_eq (tgt := 21) hx hb dX11_count_8 (by decide) (fun c_80 => absurd c_80 (by decide)) (fun c_80 => ?_)
      refine lv_aload_n hx hb dX11_count_11 rfl (lv_at hl 0 rfl) ?_
      refine va_get (ci := 11) (v := .ref a1) (C := RX11) (T := TX11) (N := 17) hx hb hts hw11 hown hK hP 0 rfl rfl 12 (by decide) (hts (.fieldLink RX11 79 "SmokeTune" "refusals" "[I") (List.mem_cons_of_mem _ (List.mem_append_left _ (List.mem_append_left _ (List.mem_append_left _ (List.mem_append_left _ (List.mem_append_left _ (List.mem_of_getElem? (i := 0) rfl)))))))) (fun _ h9 => h9) rfl dX11_count_12 ?_
      refine lv_iload_n hx hb dX11_count_15 rfl (lv_at hl 1 rfl) ?_
      refine lv_bipush (v := 6) hx hb dX11_count_16 (by decide) ?_
      refine lv_isub hx hb dX11_count_18 ?_
      refine lv_topi (fun x_81 ex_81 => ?_)
      obtain rfl : x_81 = 2 := ex_81.trans (by first | rfl | decide)
      refine va_iald hx hb hK hP 1 0 rfl rfl (i_in (x := 2) rfl (by omega)) dX11_count_19 ?_
      refine lv_topi (fun x_82 ex_82 => ?_)
      obtain rfl : x_82 = 0 := ex_82.trans (by first | rfl | decide | exact rfl)
      exact W.iret (v := 0) hx hb hr (fun t ht hW => ⟨_, rfl, (by first | exact Or.inl (⟨rfl, by first | omega | decide | (subst_vars; assumption) | (subst_vars; symm; assumption)⟩)), ht⟩) (fun q hq => by cases hq) dX11_count_20
    · exfalso; omega
  · refine lv_iload_n hx hb dX11_count_0 rfl (lv_at hl 1 rfl) ?_
    refine lv_bipush (v := 6) hx hb dX11_count_1 (by decide) ?_
    refine lv_bipush (v := 10) hx hb dX11_count_3 (by decide) ?_
    refine pci (va_runS (As := [.int 9, .int 6, .int 10]) (rest := []) ⟨hx, hb, hml, hown, hts⟩ (c_within l D K 9 6 10 9 6 10 s.heap.size rfl rfl rfl) (va_cwS 3 hts gX11_count_X11_within rfl rfl rfl (by decide +kernel) ⟨Nat.le_of_ble_eq_true rfl, Nat.le_of_ble_eq_true rfl⟩) (mkS hK hN (hP.sub [] rfl) (hD.sub [] (by decide) rfl)) rfl rfl hl.1 rfl (lv_room (Nat.le_of_ble_eq_true rfl)) dX11_count_5 ⟨Nat.le_of_ble_eq_true rfl, Nat.le_of_ble_eq_true rfl⟩) (fun r_83 hw => ?_)
    rcases hw with ⟨rfl, h_84, h_85⟩ | ⟨rfl, h_86⟩
    · refine lv_if_eq (tgt := 21) hx hb dX11_count_8 (by decide) (fun c_87 => absurd c_87 (by decide)) (fun c_87 => ?_)
      refine lv_aload_n hx hb dX11_count_11 rfl (lv_at hl 0 rfl) ?_
      refine va_get (ci := 11) (v := .ref a1) (C := RX11) (T := TX11) (N := 17) hx hb hts hw11 hown hK hP 0 rfl rfl 12 (by decide) (hts (.fieldLink RX11 79 "SmokeTune" "refusals" "[I") (List.mem_cons_of_mem _ (List.mem_append_left _ (List.mem_append_left _ (List.mem_append_left _ (List.mem_append_left _ (List.mem_append_left _ (List.mem_of_getElem? (i := 0) rfl)))))))) (fun _ h9 => h9) rfl dX11_count_12 ?_
      refine lv_iload_n hx hb dX11_count_15 rfl (lv_at hl 1 rfl) ?_
      refine lv_bipush (v := 6) hx hb dX11_count_16 (by decide) ?_
      refine lv_isub hx hb dX11_count_18 ?_
      refine lv_topi (fun x_88 ex_88 => ?_)
      obtain rfl : x_88 = 3 := ex_88.trans (by first | rfl | decide)
      refine va_iald hx hb hK hP 1 0 rfl rfl (i_in (x := 3) rfl (by omega)) dX11_count_19 ?_
      refine lv_topi (fun x_89 ex_89 => ?_)
      obtain rfl : x_89 = 0 := ex_89.trans (by first | rfl | decide | exact rfl)
      exact W.iret (v := 0) hx hb hr (fun t ht hW => ⟨_, rfl, (by first | exact Or.inl (⟨rfl, by first | omega | decide | (subst_vars; assumption) | (subst_vars; symm; assumption)⟩)), ht⟩) (fun q hq => by cases hq) dX11_count_20
    · exfalso; omega
  · refine lv_iload_n hx hb dX11_count_0 rfl (lv_at hl 1 rfl) ?_
    refine lv_bipush (v := 6) hx hb dX11_count_1 (by decide) ?_
    refine lv_bipush (v := 10) hx hb dX11_count_3 (by decide) ?_
    refine pci (va_runS (As := [.int 10, .int 6, .int 10]) (rest := []) ⟨hx, hb, hml, hown, hts⟩ (c_within l D K 10 6 10 10 6 10 s.heap.size rfl rfl rfl) (va_cwS 3 hts gX11_count_X11_within rfl rfl rfl (by decide +kernel) ⟨Nat.le_of_ble_eq_true rfl, Nat.le_of_ble_eq_true rfl⟩) (mkS hK hN (hP.sub [] rfl) (hD.sub [] (by decide) rfl)) rfl rfl hl.1 rfl (lv_room (Nat.le_of_ble_eq_true rfl)) dX11_count_5 ⟨Nat.le_of_ble_eq_true rfl, Nat.le_of_ble_eq_true rfl⟩) (fun r_90 hw => ?_)
    rcases hw with ⟨rfl, h_91, h_92⟩ | ⟨rfl, h_93⟩
    · refine lv_if_eq (tgt := 21) hx hb dX11_count_8 (by decide) (fun c_94 => absurd c_94 (by decide)) (fun c_94 => ?_)
      refine lv_aload_n hx hb dX11_count_11 rfl (lv_at hl 0 rfl) ?_
      refine va_get (ci := 11) (v := .ref a1) (C := RX11) (T := TX11) (N := 17) hx hb hts hw11 hown hK hP 0 rfl rfl 12 (by decide) (hts (.fieldLink RX11 79 "SmokeTune" "refusals" "[I") (List.mem_cons_of_mem _ (List.mem_append_left _ (List.mem_append_left _ (List.mem_append_left _ (List.mem_append_left _ (List.mem_append_left _ (List.mem_of_getElem? (i := 0) rfl)))))))) (fun _ h9 => h9) rfl dX11_count_12 ?_
      refine lv_iload_n hx hb dX11_count_15 rfl (lv_at hl 1 rfl) ?_
      refine lv_bipush (v := 6) hx hb dX11_count_16 (by decide) ?_
      refine lv_isub hx hb dX11_count_18 ?_
      refine lv_topi (fun x_95 ex_95 => ?_)
      obtain rfl : x_95 = 4 := ex_95.trans (by first | rfl | decide)
      refine va_iald hx hb hK hP 1 0 rfl rfl (i_in (x := 4) rfl (by omega)) dX11_count_19 ?_
      refine lv_topi (fun x_96 ex_96 => ?_)
      obtain rfl : x_96 = 0 := ex_96.trans (by first | rfl | decide | exact rfl)
      exact W.iret (v := 0) hx hb hr (fun t ht hW => ⟨_, rfl, (by first | exact Or.inl (⟨rfl, by first | omega | decide | (subst_vars; assumption) | (subst_vars; symm; assumption)⟩)), ht⟩) (fun q hq => by cases hq) dX11_count_20
    · exfalso; omega
  · refine lv_iload_n hx hb dX11_count_0 rfl (lv_at hl 1 rfl) ?_
    refine lv_bipush (v := 6) hx hb dX11_count_1 (by decide) ?_
    refine lv_bipush (v := 10) hx hb dX11_count_3 (by decide) ?_
    refine pci (va_runS (As := [.int 11, .int 6, .int 10]) (rest := []) ⟨hx, hb, hml, hown, hts⟩ (c_within l D K 11 6 10 11 6 10 s.heap.size rfl rfl rfl) (va_cwS 3 hts gX11_count_X11_within rfl rfl rfl (by decide +kernel) ⟨Nat.le_of_ble_eq_true rfl, Nat.le_of_ble_eq_true rfl⟩) (mkS hK hN (hP.sub [] rfl) (hD.sub [] (by decide) rfl)) rfl rfl hl.1 rfl (lv_room (Nat.le_of_ble_eq_true rfl)) dX11_count_5 ⟨Nat.le_of_ble_eq_true rfl, Nat.le_of_ble_eq_true rfl⟩) (fun r_97 hw => ?_)
    rcases hw with ⟨rfl, h_98, h_99⟩ | ⟨rfl, h_100⟩
    · exfalso; omega
    · refine lv_if_eq (tgt := 21) hx hb dX11_count_8 (by decide) (fun c_101 => ?_) (fun c_101 => absurd (by decide) c_101)
      refine lv_iload_n hx hb dX11_count_21 rfl (lv_at hl 1 rfl) ?_
      refine lv_bipush (v := 13) hx hb dX11_count_22 (by decide) ?_
      refine lv_bipush (v := 18) hx hb dX11_count_24 (by decide) ?_
      refine pci (va_runS (As := [.int 11, .int 13, .int 18]) (rest := []) ⟨hx, hb, hml, hown, hts⟩ (c_within l D K 11 13 18 11 13 18 s.heap.size rfl rfl rfl) (va_cwS 3 hts gX11_count_X11_within rfl rfl rfl (by decide +kernel) ⟨Nat.le_of_ble_eq_true rfl, Nat.le_of_ble_eq_true rfl⟩) (mkS hK hN (hP.sub [] rfl) (hD.sub [] (by decide) rfl)) rfl rfl hl.1 rfl (lv_room (Nat.le_of_ble_eq_true rfl)) dX11_count_26 ⟨Nat.le_of_ble_eq_true rfl, Nat.le_of_ble_eq_true rfl⟩) (fun r_102 hw => ?_)
      rcases hw with ⟨rfl, h_103, h_104⟩ | ⟨rfl, h_105⟩
      · exfalso; omega
      · refine lv_if_eq (tgt := 45) hx hb dX11_count_29 (by decide) (fun c_106 => ?_) (fun c_106 => absurd (by decide) c_106)
        refine lv_iload_n hx hb dX11_count_45 rfl (lv_at hl 1 rfl) ?_
        refine lv_tableIn (tgt := 160) hx hb dX11_count_46 (by decide) (by decide) rfl (by decide) ?_
        refine lv_aload_n hx hb dX11_count_160 rfl (lv_at hl 0 rfl) ?_
        refine va_get (ci := 11) (v := .ref a2) (C := RX11) (T := TX11) (N := 17) hx hb hts hw11 hown hK hP 0 rfl rfl 0 (by decide) (hts (.fieldLink RX11 10 "SmokeTune" "town" "LSmokeTune$Town;") (List.mem_cons_of_mem _ (List.mem_append_left _ (List.mem_append_left _ (List.mem_append_left _ (List.mem_append_left _ (List.mem_append_left _ (List.mem_of_getElem? (i := 1) rfl)))))))) (fun _ h9 => h9) rfl dX11_count_161 ?_
        refine va_getN (ci := 9) (v := .int (-1)) (C := RX9) (T := TX9) (N := 10) hx hb hts hw9 hown hK hP 2 rfl rfl 6 (by decide) (nst_use hN 111 rfl) (fun _ h9 => h9) rfl dX11_count_164 ?_
        exact W.iret (v := (-1)) hx hb hr (fun t ht hW => ⟨_, rfl, (by first | exact Or.inr (Or.inr (Or.inr (⟨rfl, by first | omega | decide | (subst_vars; assumption) | (subst_vars; symm; assumption)⟩)))), ht⟩) (fun q hq => by cases hq) dX11_count_167
  · refine lv_iload_n hx hb dX11_count_0 rfl (lv_at hl 1 rfl) ?_
    refine lv_bipush (v := 6) hx hb dX11_count_1 (by decide) ?_
    refine lv_bipush (v := 10) hx hb dX11_count_3 (by decide) ?_
    refine pci (va_runS (As := [.int 12, .int 6, .int 10]) (rest := []) ⟨hx, hb, hml, hown, hts⟩ (c_within l D K 12 6 10 12 6 10 s.heap.size rfl rfl rfl) (va_cwS 3 hts gX11_count_X11_within rfl rfl rfl (by decide +kernel) ⟨Nat.le_of_ble_eq_true rfl, Nat.le_of_ble_eq_true rfl⟩) (mkS hK hN (hP.sub [] rfl) (hD.sub [] (by decide) rfl)) rfl rfl hl.1 rfl (lv_room (Nat.le_of_ble_eq_true rfl)) dX11_count_5 ⟨Nat.le_of_ble_eq_true rfl, Nat.le_of_ble_eq_true rfl⟩) (fun r_107 hw => ?_)
    rcases hw with ⟨rfl, h_108, h_109⟩ | ⟨rfl, h_110⟩
    · exfalso; omega
    · refine lv_if_eq (tgt := 21) hx hb dX11_count_8 (by decide) (fun c_111 => ?_) (fun c_111 => absurd (by decide) c_111)
      refine lv_iload_n hx hb dX11_count_21 rfl (lv_at hl 1 rfl) ?_
      refine lv_bipush (v := 13) hx hb dX11_count_22 (by decide) ?_
      refine lv_bipush (v := 18) hx hb dX11_count_24 (by decide) ?_
      refine pci (va_runS (As := [.int 12, .int 13, .int 18]) (rest := []) ⟨hx, hb, hml, hown, hts⟩ (c_within l D K 12 13 18 12 13 18 s.heap.size rfl rfl rfl) (va_cwS 3 hts gX11_count_X11_within rfl rfl rfl (by decide +kernel) ⟨Nat.le_of_ble_eq_true rfl, Nat.le_of_ble_eq_true rfl⟩) (mkS hK hN (hP.sub [] rfl) (hD.sub [] (by decide) rfl)) rfl rfl hl.1 rfl (lv_room (Nat.le_of_ble_eq_true rfl)) dX11_count_26 ⟨Nat.le_of_ble_eq_true rfl, Nat.le_of_ble_eq_true rfl⟩) (fun r_112 hw => ?_)
      rcases hw with ⟨rfl, h_113, h_114⟩ | ⟨rfl, h_115⟩
      · exfalso; omega
      · refine lv_if_eq (tgt := 45) hx hb dX11_count_29 (by decide) (fun c_116 => ?_) (fun c_116 => absurd (by decide) c_116)
        refine lv_iload_n hx hb dX11_count_45 rfl (lv_at hl 1 rfl) ?_
        refine lv_tableIn (tgt := 168) hx hb dX11_count_46 (by decide) (by decide) rfl (by decide) ?_
        refine lv_aload_n hx hb dX11_count_168 rfl (lv_at hl 0 rfl) ?_
        refine va_get (ci := 11) (v := .ref a2) (C := RX11) (T := TX11) (N := 17) hx hb hts hw11 hown hK hP 0 rfl rfl 0 (by decide) (hts (.fieldLink RX11 10 "SmokeTune" "town" "LSmokeTune$Town;") (List.mem_cons_of_mem _ (List.mem_append_left _ (List.mem_append_left _ (List.mem_append_left _ (List.mem_append_left _ (List.mem_append_left _ (List.mem_of_getElem? (i := 1) rfl)))))))) (fun _ h9 => h9) rfl dX11_count_169 ?_
        refine va_getN (ci := 9) (v := .int 0) (C := RX9) (T := TX9) (N := 10) hx hb hts hw9 hown hK hP 2 rfl rfl 7 (by decide) (nst_use hN 115 rfl) (fun _ h9 => h9) rfl dX11_count_172 ?_
        exact W.iret (v := 0) hx hb hr (fun t ht hW => ⟨_, rfl, (by first | exact Or.inl (⟨rfl, by first | omega | decide | (subst_vars; assumption) | (subst_vars; symm; assumption)⟩)), ht⟩) (fun q hq => by cases hq) dX11_count_175
  · refine lv_iload_n hx hb dX11_count_0 rfl (lv_at hl 1 rfl) ?_
    refine lv_bipush (v := 6) hx hb dX11_count_1 (by decide) ?_
    refine lv_bipush (v := 10) hx hb dX11_count_3 (by decide) ?_
    refine pci (va_runS (As := [.int 13, .int 6, .int 10]) (rest := []) ⟨hx, hb, hml, hown, hts⟩ (c_within l D K 13 6 10 13 6 10 s.heap.size rfl rfl rfl) (va_cwS 3 hts gX11_count_X11_within rfl rfl rfl (by decide +kernel) ⟨Nat.le_of_ble_eq_true rfl, Nat.le_of_ble_eq_true rfl⟩) (mkS hK hN (hP.sub [] rfl) (hD.sub [] (by decide) rfl)) rfl rfl hl.1 rfl (lv_room (Nat.le_of_ble_eq_true rfl)) dX11_count_5 ⟨Nat.le_of_ble_eq_true rfl, Nat.le_of_ble_eq_true rfl⟩) (fun r_117 hw => ?_)
    rcases hw with ⟨rfl, h_118, h_119⟩ | ⟨rfl, h_120⟩
    · exfalso; omega
    · refine lv_if_eq (tgt := 21) hx hb dX11_count_8 (by decide) (fun c_121 => ?_) (fun c_121 => absurd (by decide) c_121)
      refine lv_iload_n hx hb dX11_count_21 rfl (lv_at hl 1 rfl) ?_
      refine lv_bipush (v := 13) hx hb dX11_count_22 (by decide) ?_
      refine lv_bipush (v := 18) hx hb dX11_count_24 (by decide) ?_
      refine pci (va_runS (As := [.int 13, .int 13, .int 18]) (rest := []) ⟨hx, hb, hml, hown, hts⟩ (c_within l D K 13 13 18 13 13 18 s.heap.size rfl rfl rfl) (va_cwS 3 hts gX11_count_X11_within rfl rfl rfl (by decide +kernel) ⟨Nat.le_of_ble_eq_true rfl, Nat.le_of_ble_eq_true rfl⟩) (mkS hK hN (hP.sub [] rfl) (hD.sub [] (by decide) rfl)) rfl rfl hl.1 rfl (lv_room (Nat.le_of_ble_eq_true rfl)) dX11_count_26 ⟨Nat.le_of_ble_eq_true rfl, Nat.le_of_ble_eq_true rfl⟩) (fun r_122 hw => ?_)
      rcases hw with ⟨rfl, h_123, h_124⟩ | ⟨rfl, h_125⟩
      · refine lv_if_eq (tgt := 45) hx hb dX11_count_29 (by decide) (fun c_126 => absurd c_126 (by decide)) (fun c_126 => ?_)
        refine lv_aload_n hx hb dX11_count_32 rfl (lv_at hl 0 rfl) ?_
        refine va_get (ci := 11) (v := .ref a2) (C := RX11) (T := TX11) (N := 17) hx hb hts hw11 hown hK hP 0 rfl rfl 0 (by decide) (hts (.fieldLink RX11 10 "SmokeTune" "town" "LSmokeTune$Town;") (List.mem_cons_of_mem _ (List.mem_append_left _ (List.mem_append_left _ (List.mem_append_left _ (List.mem_append_left _ (List.mem_append_left _ (List.mem_of_getElem? (i := 1) rfl)))))))) (fun _ h9 => h9) rfl dX11_count_33 ?_
        refine va_getN (ci := 9) (v := .ref a5) (C := RX9) (T := TX9) (N := 10) hx hb hts hw9 hown hK hP 2 rfl rfl 2 (by decide) (nst_use hN 104 rfl) (fun _ h9 => h9) rfl dX11_count_36 ?_
        refine lv_iload_n hx hb dX11_count_39 rfl (lv_at hl 1 rfl) ?_
        refine lv_bipush (v := 13) hx hb dX11_count_40 (by decide) ?_
        refine lv_isub hx hb dX11_count_42 ?_
        refine lv_topi (fun x_127 ex_127 => ?_)
        obtain rfl : x_127 = 0 := ex_127.trans (by first | rfl | decide)
        refine va_iald hx hb hK hP 5 0 rfl rfl (i_in (x := 0) rfl (by omega)) dX11_count_43 ?_
        refine lv_topi (fun x_128 ex_128 => ?_)
        obtain rfl : x_128 = 0 := ex_128.trans (by first | rfl | decide | exact rfl)
        exact W.iret (v := 0) hx hb hr (fun t ht hW => ⟨_, rfl, (by first | exact Or.inl (⟨rfl, by first | omega | decide | (subst_vars; assumption) | (subst_vars; symm; assumption)⟩)), ht⟩) (fun q hq => by cases hq) dX11_count_44
      · exfalso; omega
  · refine lv_iload_n hx hb dX11_count_0 rfl (lv_at hl 1 rfl) ?_
    refine lv_bipush (v := 6) hx hb dX11_count_1 (by decide) ?_
    refine lv_bipush (v := 10) hx hb dX11_count_3 (by decide) ?_
    refine pci (va_runS (As := [.int 14, .int 6, .int 10]) (rest := []) ⟨hx, hb, hml, hown, hts⟩ (c_within l D K 14 6 10 14 6 10 s.heap.size rfl rfl rfl) (va_cwS 3 hts gX11_count_X11_within rfl rfl rfl (by decide +kernel) ⟨Nat.le_of_ble_eq_true rfl, Nat.le_of_ble_eq_true rfl⟩) (mkS hK hN (hP.sub [] rfl) (hD.sub [] (by decide) rfl)) rfl rfl hl.1 rfl (lv_room (Nat.le_of_ble_eq_true rfl)) dX11_count_5 ⟨Nat.le_of_ble_eq_true rfl, Nat.le_of_ble_eq_true rfl⟩) (fun r_129 hw => ?_)
    rcases hw with ⟨rfl, h_130, h_131⟩ | ⟨rfl, h_132⟩
    · exfalso; omega
    · refine lv_if_eq (tgt := 21) hx hb dX11_count_8 (by decide) (fun c_133 => ?_) (fun c_133 => absurd (by decide) c_133)
      refine lv_iload_n hx hb dX11_count_21 rfl (lv_at hl 1 rfl) ?_
      refine lv_bipush (v := 13) hx hb dX11_count_22 (by decide) ?_
      refine lv_bipush (v := 18) hx hb dX11_count_24 (by decide) ?_
      refine pci (va_runS (As := [.int 14, .int 13, .int 18]) (rest := []) ⟨hx, hb, hml, hown, hts⟩ (c_within l D K 14 13 18 14 13 18 s.heap.size rfl rfl rfl) (va_cwS 3 hts gX11_count_X11_within rfl rfl rfl (by decide +kernel) ⟨Nat.le_of_ble_eq_true rfl, Nat.le_of_ble_eq_true rfl⟩) (mkS hK hN (hP.sub [] rfl) (hD.sub [] (by decide) rfl)) rfl rfl hl.1 rfl (lv_room (Nat.le_of_ble_eq_true rfl)) dX11_count_26 ⟨Nat.le_of_ble_eq_true rfl, Nat.le_of_ble_eq_true rfl⟩) (fun r_134 hw => ?_)
      rcases hw with ⟨rfl, h_135, h_136⟩ | ⟨rfl, h_137⟩
      · refine lv_if_eq (tgt := 45) hx hb dX11_count_29 (by decide) (fun c_138 => absurd c_138 (by decide)) (fun c_138 => ?_)
        refine lv_aload_n hx hb dX11_count_32 rfl (lv_at hl 0 rfl) ?_
        refine va_get (ci := 11) (v := .ref a2) (C := RX11) (T := TX11) (N := 17) hx hb hts hw11 hown hK hP 0 rfl rfl 0 (by decide) (hts (.fieldLink RX11 10 "SmokeTune" "town" "LSmokeTune$Town;") (List.mem_cons_of_mem _ (List.mem_append_left _ (List.mem_append_left _ (List.mem_append_left _ (List.mem_append_left _ (List.mem_append_left _ (List.mem_of_getElem? (i := 1) rfl)))))))) (fun _ h9 => h9) rfl dX11_count_33 ?_
        refine va_getN (ci := 9) (v := .ref a5) (C := RX9) (T := TX9) (N := 10) hx hb hts hw9 hown hK hP 2 rfl rfl 2 (by decide) (nst_use hN 104 rfl) (fun _ h9 => h9) rfl dX11_count_36 ?_
        refine lv_iload_n hx hb dX11_count_39 rfl (lv_at hl 1 rfl) ?_
        refine lv_bipush (v := 13) hx hb dX11_count_40 (by decide) ?_
        refine lv_isub hx hb dX11_count_42 ?_
        refine lv_topi (fun x_139 ex_139 => ?_)
        obtain rfl : x_139 = 1 := ex_139.trans (by first | rfl | decide)
        refine va_iald hx hb hK hP 5 0 rfl rfl (i_in (x := 1) rfl (by omega)) dX11_count_43 ?_
        refine lv_topi (fun x_140 ex_140 => ?_)
        obtain rfl : x_140 = 0 := ex_140.trans (by first | rfl | decide | exact rfl)
        exact W.iret (v := 0) hx hb hr (fun t ht hW => ⟨_, rfl, (by first | exact Or.inl (⟨rfl, by first | omega | decide | (subst_vars; assumption) | (subst_vars; symm; assumption)⟩)), ht⟩) (fun q hq => by cases hq) dX11_count_44
      · exfalso; omega
  · refine lv_iload_n hx hb dX11_count_0 rfl (lv_at hl 1 rfl) ?_
    refine lv_bipush (v := 6) hx hb dX11_count_1 (by decide) ?_
    refine lv_bipush (v := 10) hx hb dX11_count_3 (by decide) ?_
    refine pci (va_runS (As := [.int 15, .int 6, .int 10]) (rest := []) ⟨hx, hb, hml, hown, hts⟩ (c_within l D K 15 6 10 15 6 10 s.heap.size rfl rfl rfl) (va_cwS 3 hts gX11_count_X11_within rfl rfl rfl (by decide +kernel) ⟨Nat.le_of_ble_eq_true rfl, Nat.le_of_ble_eq_true rfl⟩) (mkS hK hN (hP.sub [] rfl) (hD.sub [] (by decide) rfl)) rfl rfl hl.1 rfl (lv_room (Nat.le_of_ble_eq_true rfl)) dX11_count_5 ⟨Nat.le_of_ble_eq_true rfl, Nat.le_of_ble_eq_true rfl⟩) (fun r_141 hw => ?_)
    rcases hw with ⟨rfl, h_142, h_143⟩ | ⟨rfl, h_144⟩
    · exfalso; omega
    · refine lv_if_eq (tgt := 21) hx hb dX11_count_8 (by decide) (fun c_145 => ?_) (fun c_145 => absurd (by decide) c_145)
      refine lv_iload_n hx hb dX11_count_21 rfl (lv_at hl 1 rfl) ?_
      refine lv_bipush (v := 13) hx hb dX11_count_22 (by decide) ?_
      refine lv_bipush (v := 18) hx hb dX11_count_24 (by decide) ?_
      refine pci (va_runS (As := [.int 15, .int 13, .int 18]) (rest := []) ⟨hx, hb, hml, hown, hts⟩ (c_within l D K 15 13 18 15 13 18 s.heap.size rfl rfl rfl) (va_cwS 3 hts gX11_count_X11_within rfl rfl rfl (by decide +kernel) ⟨Nat.le_of_ble_eq_true rfl, Nat.le_of_ble_eq_true rfl⟩) (mkS hK hN (hP.sub [] rfl) (hD.sub [] (by decide) rfl)) rfl rfl hl.1 rfl (lv_room (Nat.le_of_ble_eq_true rfl)) dX11_count_26 ⟨Nat.le_of_ble_eq_true rfl, Nat.le_of_ble_eq_true rfl⟩) (fun r_146 hw => ?_)
      rcases hw with ⟨rfl, h_147, h_148⟩ | ⟨rfl, h_149⟩
      · refine lv_if_eq (tgt := 45) hx hb dX11_count_29 (by decide) (fun c_150 => absurd c_150 (by decide)) (fun c_150 => ?_)
        refine lv_aload_n hx hb dX11_count_32 rfl (lv_at hl 0 rfl) ?_
        refine va_get (ci := 11) (v := .ref a2) (C := RX11) (T := TX11) (N := 17) hx hb hts hw11 hown hK hP 0 rfl rfl 0 (by decide) (hts (.fieldLink RX11 10 "SmokeTune" "town" "LSmokeTune$Town;") (List.mem_cons_of_mem _ (List.mem_append_left _ (List.mem_append_left _ (List.mem_append_left _ (List.mem_append_left _ (List.mem_append_left _ (List.mem_of_getElem? (i := 1) rfl)))))))) (fun _ h9 => h9) rfl dX11_count_33 ?_
        refine va_getN (ci := 9) (v := .ref a5) (C := RX9) (T := TX9) (N := 10) hx hb hts hw9 hown hK hP 2 rfl rfl 2 (by decide) (nst_use hN 104 rfl) (fun _ h9 => h9) rfl dX11_count_36 ?_
        refine lv_iload_n hx hb dX11_count_39 rfl (lv_at hl 1 rfl) ?_
        refine lv_bipush (v := 13) hx hb dX11_count_40 (by decide) ?_
        refine lv_isub hx hb dX11_count_42 ?_
        refine lv_topi (fun x_151 ex_151 => ?_)
        obtain rfl : x_151 = 2 := ex_151.trans (by first | rfl | decide)
        refine va_iald hx hb hK hP 5 0 rfl rfl (i_in (x := 2) rfl (by omega)) dX11_count_43 ?_
        refine lv_topi (fun x_152 ex_152 => ?_)
        obtain rfl : x_152 = 3 := ex_152.trans (by first | rfl | decide | exact rfl)
        exact W.iret (v := 3) hx hb hr (fun t ht hW => ⟨_, rfl, (by first | exact Or.inr (Or.inl (⟨rfl, by first | omega | decide | (subst_vars; assumption) | (subst_vars; symm; assumption)⟩))), ht⟩) (fun q hq => by cases hq) dX11_count_44
      · exfalso; omega
  · refine lv_iload_n hx hb dX11_count_0 rfl (lv_at hl 1 rfl) ?_
    refine lv_bipush (v := 6) hx hb dX11_count_1 (by decide) ?_
    refine lv_bipush (v := 10) hx hb dX11_count_3 (by decide) ?_
    refine pci (va_runS (As := [.int 16, .int 6, .int 10]) (rest := []) ⟨hx, hb, hml, hown, hts⟩ (c_within l D K 16 6 10 16 6 10 s.heap.size rfl rfl rfl) (va_cwS 3 hts gX11_count_X11_within rfl rfl rfl (by decide +kernel) ⟨Nat.le_of_ble_eq_true rfl, Nat.le_of_ble_eq_true rfl⟩) (mkS hK hN (hP.sub [] rfl) (hD.sub [] (by decide) rfl)) rfl rfl hl.1 rfl (lv_room (Nat.le_of_ble_eq_true rfl)) dX11_count_5 ⟨Nat.le_of_ble_eq_true rfl, Nat.le_of_ble_eq_true rfl⟩) (fun r_153 hw => ?_)
    rcases hw with ⟨rfl, h_154, h_155⟩ | ⟨rfl, h_156⟩
    · exfalso; omega
    · refine lv_if_eq (tgt := 21) hx hb dX11_count_8 (by decide) (fun c_157 => ?_) (fun c_157 => absurd (by decide) c_157)
      refine lv_iload_n hx hb dX11_count_21 rfl (lv_at hl 1 rfl) ?_
      refine lv_bipush (v := 13) hx hb dX11_count_22 (by decide) ?_
      refine lv_bipush (v := 18) hx hb dX11_count_24 (by decide) ?_
      refine pci (va_runS (As := [.int 16, .int 13, .int 18]) (rest := []) ⟨hx, hb, hml, hown, hts⟩ (c_within l D K 16 13 18 16 13 18 s.heap.size rfl rfl rfl) (va_cwS 3 hts gX11_count_X11_within rfl rfl rfl (by decide +kernel) ⟨Nat.le_of_ble_eq_true rfl, Nat.le_of_ble_eq_true rfl⟩) (mkS hK hN (hP.sub [] rfl) (hD.sub [] (by decide) rfl)) rfl rfl hl.1 rfl (lv_room (Nat.le_of_ble_eq_true rfl)) dX11_count_26 ⟨Nat.le_of_ble_eq_true rfl, Nat.le_of_ble_eq_true rfl⟩) (fun r_158 hw => ?_)
      rcases hw with ⟨rfl, h_159, h_160⟩ | ⟨rfl, h_161⟩
      · refine lv_if_eq (tgt := 45) hx hb dX11_count_29 (by decide) (fun c_162 => absurd c_162 (by decide)) (fun c_162 => ?_)
        refine lv_aload_n hx hb dX11_count_32 rfl (lv_at hl 0 rfl) ?_
        refine va_get (ci := 11) (v := .ref a2) (C := RX11) (T := TX11) (N := 17) hx hb hts hw11 hown hK hP 0 rfl rfl 0 (by decide) (hts (.fieldLink RX11 10 "SmokeTune" "town" "LSmokeTune$Town;") (List.mem_cons_of_mem _ (List.mem_append_left _ (List.mem_append_left _ (List.mem_append_left _ (List.mem_append_left _ (List.mem_append_left _ (List.mem_of_getElem? (i := 1) rfl)))))))) (fun _ h9 => h9) rfl dX11_count_33 ?_
        refine va_getN (ci := 9) (v := .ref a5) (C := RX9) (T := TX9) (N := 10) hx hb hts hw9 hown hK hP 2 rfl rfl 2 (by decide) (nst_use hN 104 rfl) (fun _ h9 => h9) rfl dX11_count_36 ?_
        refine lv_iload_n hx hb dX11_count_39 rfl (lv_at hl 1 rfl) ?_
        refine lv_bipush (v := 13) hx hb dX11_count_40 (by decide) ?_
        refine lv_isub hx hb dX11_count_42 ?_
        refine lv_topi (fun x_163 ex_163 => ?_)
        obtain rfl : x_163 = 3 := ex_163.trans (by first | rfl | decide)
        refine va_iald hx hb hK hP 5 0 rfl rfl (i_in (x := 3) rfl (by omega)) dX11_count_43 ?_
        refine lv_topi (fun x_164 ex_164 => ?_)
        obtain rfl : x_164 = 12 := ex_164.trans (by first | rfl | decide | exact rfl)
        exact W.iret (v := 12) hx hb hr (fun t ht hW => ⟨_, rfl, (by first | exact Or.inr (Or.inr (Or.inl (⟨rfl, by first | omega | decide | (subst_vars; assumption) | (subst_vars; symm; assumption)⟩)))), ht⟩) (fun q hq => by cases hq) dX11_count_44
      · exfalso; omega
  · refine lv_iload_n hx hb dX11_count_0 rfl (lv_at hl 1 rfl) ?_
    refine lv_bipush (v := 6) hx hb dX11_count_1 (by decide) ?_
    refine lv_bipush (v := 10) hx hb dX11_count_3 (by decide) ?_
    refine pci (va_runS (As := [.int 17, .int 6, .int 10]) (rest := []) ⟨hx, hb, hml, hown, hts⟩ (c_within l D K 17 6 10 17 6 10 s.heap.size rfl rfl rfl) (va_cwS 3 hts gX11_count_X11_within rfl rfl rfl (by decide +kernel) ⟨Nat.le_of_ble_eq_true rfl, Nat.le_of_ble_eq_true rfl⟩) (mkS hK hN (hP.sub [] rfl) (hD.sub [] (by decide) rfl)) rfl rfl hl.1 rfl (lv_room (Nat.le_of_ble_eq_true rfl)) dX11_count_5 ⟨Nat.le_of_ble_eq_true rfl, Nat.le_of_ble_eq_true rfl⟩) (fun r_165 hw => ?_)
    rcases hw with ⟨rfl, h_166, h_167⟩ | ⟨rfl, h_168⟩
    · exfalso; omega
    · refine lv_if_eq (tgt := 21) hx hb dX11_count_8 (by decide) (fun c_169 => ?_) (fun c_169 => absurd (by decide) c_169)
      refine lv_iload_n hx hb dX11_count_21 rfl (lv_at hl 1 rfl) ?_
      refine lv_bipush (v := 13) hx hb dX11_count_22 (by decide) ?_
      refine lv_bipush (v := 18) hx hb dX11_count_24 (by decide) ?_
      refine pci (va_runS (As := [.int 17, .int 13, .int 18]) (rest := []) ⟨hx, hb, hml, hown, hts⟩ (c_within l D K 17 13 18 17 13 18 s.heap.size rfl rfl rfl) (va_cwS 3 hts gX11_count_X11_within rfl rfl rfl (by decide +kernel) ⟨Nat.le_of_ble_eq_true rfl, Nat.le_of_ble_eq_true rfl⟩) (mkS hK hN (hP.sub [] rfl) (hD.sub [] (by decide) rfl)) rfl rfl hl.1 rfl (lv_room (Nat.le_of_ble_eq_true rfl)) dX11_count_26 ⟨Nat.le_of_ble_eq_true rfl, Nat.le_of_ble_eq_true rfl⟩) (fun r_170 hw => ?_)
      rcases hw with ⟨rfl, h_171, h_172⟩ | ⟨rfl, h_173⟩
      · refine lv_if_eq (tgt := 45) hx hb dX11_count_29 (by decide) (fun c_174 => absurd c_174 (by decide)) (fun c_174 => ?_)
        refine lv_aload_n hx hb dX11_count_32 rfl (lv_at hl 0 rfl) ?_
        refine va_get (ci := 11) (v := .ref a2) (C := RX11) (T := TX11) (N := 17) hx hb hts hw11 hown hK hP 0 rfl rfl 0 (by decide) (hts (.fieldLink RX11 10 "SmokeTune" "town" "LSmokeTune$Town;") (List.mem_cons_of_mem _ (List.mem_append_left _ (List.mem_append_left _ (List.mem_append_left _ (List.mem_append_left _ (List.mem_append_left _ (List.mem_of_getElem? (i := 1) rfl)))))))) (fun _ h9 => h9) rfl dX11_count_33 ?_
        refine va_getN (ci := 9) (v := .ref a5) (C := RX9) (T := TX9) (N := 10) hx hb hts hw9 hown hK hP 2 rfl rfl 2 (by decide) (nst_use hN 104 rfl) (fun _ h9 => h9) rfl dX11_count_36 ?_
        refine lv_iload_n hx hb dX11_count_39 rfl (lv_at hl 1 rfl) ?_
        refine lv_bipush (v := 13) hx hb dX11_count_40 (by decide) ?_
        refine lv_isub hx hb dX11_count_42 ?_
        refine lv_topi (fun x_175 ex_175 => ?_)
        obtain rfl : x_175 = 4 := ex_175.trans (by first | rfl | decide)
        refine va_iald hx hb hK hP 5 0 rfl rfl (i_in (x := 4) rfl (by omega)) dX11_count_43 ?_
        refine lv_topi (fun x_176 ex_176 => ?_)
        obtain rfl : x_176 = 3 := ex_176.trans (by first | rfl | decide | exact rfl)
        exact W.iret (v := 3) hx hb hr (fun t ht hW => ⟨_, rfl, (by first | exact Or.inr (Or.inl (⟨rfl, by first | omega | decide | (subst_vars; assumption) | (subst_vars; symm; assumption)⟩))), ht⟩) (fun q hq => by cases hq) dX11_count_44
      · exfalso; omega
  · refine lv_iload_n hx hb dX11_count_0 rfl (lv_at hl 1 rfl) ?_
    refine lv_bipush (v := 6) hx hb dX11_count_1 (by decide) ?_
    refine lv_bipush (v := 10) hx hb dX11_count_3 (by decide) ?_
    refine pci (va_runS (As := [.int 18, .int 6, .int 10]) (rest := []) ⟨hx, hb, hml, hown, hts⟩ (c_within l D K 18 6 10 18 6 10 s.heap.size rfl rfl rfl) (va_cwS 3 hts gX11_count_X11_within rfl rfl rfl (by decide +kernel) ⟨Nat.le_of_ble_eq_true rfl, Nat.le_of_ble_eq_true rfl⟩) (mkS hK hN (hP.sub [] rfl) (hD.sub [] (by decide) rfl)) rfl rfl hl.1 rfl (lv_room (Nat.le_of_ble_eq_true rfl)) dX11_count_5 ⟨Nat.le_of_ble_eq_true rfl, Nat.le_of_ble_eq_true rfl⟩) (fun r_177 hw => ?_)
    rcases hw with ⟨rfl, h_178, h_179⟩ | ⟨rfl, h_180⟩
    · exfalso; omega
    · refine lv_if_eq (tgt := 21) hx hb dX11_count_8 (by decide) (fun c_181 => ?_) (fun c_181 => absurd (by decide) c_181)
      refine lv_iload_n hx hb dX11_count_21 rfl (lv_at hl 1 rfl) ?_
      refine lv_bipush (v := 13) hx hb dX11_count_22 (by decide) ?_
      refine lv_bipush (v := 18) hx hb dX11_count_24 (by decide) ?_
      refine pci (va_runS (As := [.int 18, .int 13, .int 18]) (rest := []) ⟨hx, hb, hml, hown, hts⟩ (c_within l D K 18 13 18 18 13 18 s.heap.size rfl rfl rfl) (va_cwS 3 hts gX11_count_X11_within rfl rfl rfl (by decide +kernel) ⟨Nat.le_of_ble_eq_true rfl, Nat.le_of_ble_eq_true rfl⟩) (mkS hK hN (hP.sub [] rfl) (hD.sub [] (by decide) rfl)) rfl rfl hl.1 rfl (lv_room (Nat.le_of_ble_eq_true rfl)) dX11_count_26 ⟨Nat.le_of_ble_eq_true rfl, Nat.le_of_ble_eq_true rfl⟩) (fun r_182 hw => ?_)
      rcases hw with ⟨rfl, h_183, h_184⟩ | ⟨rfl, h_185⟩
      · refine lv_if_eq (tgt := 45) hx hb dX11_count_29 (by decide) (fun c_186 => absurd c_186 (by decide)) (fun c_186 => ?_)
        refine lv_aload_n hx hb dX11_count_32 rfl (lv_at hl 0 rfl) ?_
        refine va_get (ci := 11) (v := .ref a2) (C := RX11) (T := TX11) (N := 17) hx hb hts hw11 hown hK hP 0 rfl rfl 0 (by decide) (hts (.fieldLink RX11 10 "SmokeTune" "town" "LSmokeTune$Town;") (List.mem_cons_of_mem _ (List.mem_append_left _ (List.mem_append_left _ (List.mem_append_left _ (List.mem_append_left _ (List.mem_append_left _ (List.mem_of_getElem? (i := 1) rfl)))))))) (fun _ h9 => h9) rfl dX11_count_33 ?_
        refine va_getN (ci := 9) (v := .ref a5) (C := RX9) (T := TX9) (N := 10) hx hb hts hw9 hown hK hP 2 rfl rfl 2 (by decide) (nst_use hN 104 rfl) (fun _ h9 => h9) rfl dX11_count_36 ?_
        refine lv_iload_n hx hb dX11_count_39 rfl (lv_at hl 1 rfl) ?_
        refine lv_bipush (v := 13) hx hb dX11_count_40 (by decide) ?_
        refine lv_isub hx hb dX11_count_42 ?_
        refine lv_topi (fun x_187 ex_187 => ?_)
        obtain rfl : x_187 = 5 := ex_187.trans (by first | rfl | decide)
        refine va_iald hx hb hK hP 5 0 rfl rfl (i_in (x := 5) rfl (by omega)) dX11_count_43 ?_
        refine lv_topi (fun x_188 ex_188 => ?_)
        obtain rfl : x_188 = 0 := ex_188.trans (by first | rfl | decide | exact rfl)
        exact W.iret (v := 0) hx hb hr (fun t ht hW => ⟨_, rfl, (by first | exact Or.inl (⟨rfl, by first | omega | decide | (subst_vars; assumption) | (subst_vars; symm; assumption)⟩)), ht⟩) (fun q hq => by cases hq) dX11_count_44
      · exfalso; omega
  · refine lv_iload_n hx hb dX11_count_0 rfl (lv_at hl 1 rfl) ?_
    refine lv_bipush (v := 6) hx hb dX11_count_1 (by decide) ?_
    refine lv_bipush (v := 10) hx hb dX11_count_3 (by decide) ?_
    refine pci (va_runS (As := [.int x, .int 6, .int 10]) (rest := []) ⟨hx, hb, hml, hown, hts⟩ (c_within l D K x 6 10 x.toInt 6 10 s.heap.size rfl rfl rfl) (va_cwS 3 hts gX11_count_X11_within rfl rfl rfl (by decide +kernel) ⟨Nat.le_of_ble_eq_true rfl, Nat.le_of_ble_eq_true rfl⟩) (mkS hK hN (hP.sub [] rfl) (hD.sub [] (by decide) rfl)) rfl rfl hl.1 rfl (lv_room (Nat.le_of_ble_eq_true rfl)) dX11_count_5 ⟨Nat.le_of_ble_eq_true rfl, Nat.le_of_ble_eq_true rfl⟩) (fun r_189 hw => ?_)
    rcases hw with ⟨rfl, h_190, h_191⟩ | ⟨rfl, h_192⟩
    · exfalso; omega
    · refine lv_if_eq (tgt := 21) hx hb dX11_count_8 (by decide) (fun c_193 => ?_) (fun c_193 => absurd (by decide) c_193)
      refine lv_iload_n hx hb dX11_count_21 rfl (lv_at hl 1 rfl) ?_
      refine lv_bipush (v := 13) hx hb dX11_count_22 (by decide) ?_
      refine lv_bipush (v := 18) hx hb dX11_count_24 (by decide) ?_
      refine pci (va_runS (As := [.int x, .int 13, .int 18]) (rest := []) ⟨hx, hb, hml, hown, hts⟩ (c_within l D K x 13 18 x.toInt 13 18 s.heap.size rfl rfl rfl) (va_cwS 3 hts gX11_count_X11_within rfl rfl rfl (by decide +kernel) ⟨Nat.le_of_ble_eq_true rfl, Nat.le_of_ble_eq_true rfl⟩) (mkS hK hN (hP.sub [] rfl) (hD.sub [] (by decide) rfl)) rfl rfl hl.1 rfl (lv_room (Nat.le_of_ble_eq_true rfl)) dX11_count_26 ⟨Nat.le_of_ble_eq_true rfl, Nat.le_of_ble_eq_true rfl⟩) (fun r_194 hw => ?_)
      rcases hw with ⟨rfl, h_195, h_196⟩ | ⟨rfl, h_197⟩
      · exfalso; omega
      · refine lv_if_eq (tgt := 45) hx hb dX11_count_29 (by decide) (fun c_198 => ?_) (fun c_198 => absurd (by decide) c_198)
        refine lv_iload_n hx hb dX11_count_45 rfl (lv_at hl 1 rfl) ?_
        refine lv_tableOut (tgt := 176) hx hb dX11_count_46 (by omega) (by decide) ?_
        refine lv_iconst (v := (-1)) hx hb dX11_count_176 (by decide) ?_
        exact W.iret (v := (-1)) hx hb hr (fun t ht hW => ⟨_, rfl, (by first | exact Or.inr (Or.inr (Or.inr (⟨rfl, by first | omega | decide | (subst_vars; assumption) | (subst_vars; symm; assumption)⟩)))), ht⟩) (fun q hq => by cases hq) dX11_count_177
set_option maxHeartbeats 4000000 in
set_option maxRecDepth 100000 in
theorem c_mapSets (l : Launch) (D : va_G) (K : Nat → ClassId) (a0 : Nat) (a1 : Nat) (g0 : Value) (g1 : Value) (g2 : Value) (g3 : Value) (g4 : Value) (k0 : Value) (k1 : Value) (k2 : Value) (k3 : Value) (k5 : Value) (k6 : Value) (k7 : Value) (k8 : Value) (k9 : Value) (sz : Nat) : Met l yX4_mapSets wsX4_mapSets ({ frames := 0, cells := 0, slots := 0, locals := 0 }) (va_Pc [.ref a0, .ref a1] (Pre D K [(a0, .inr (4, [g0, g1, g2, g3, g4])), (a1, .inr (9, [k0, k1, k2, k3, .int 0, k5, k6, k7, k8, k9]))] sz)) (vp_Si (fun r : Int32 => (r = 1))) 0 0 (fun _ => False) := by
  refine Met.ofW (cc := cX4_mapSets) (maxL := 5) (ret := (some .int)) (by decide) rfl ?_
  intro p e s m args below meth c s₁ B hml hv
  obtain ⟨rfl, hsz, hP, hK, hD0, hN⟩ := hv
  have hx := B.exec
  have hb := B.bytes
  have hr := B.returns
  have hts := atoms_spec (ws := wsX4_mapSets) B.pre
  have hown : s.vm.findClass RX4 = some m.cls := findClass_of_methodNamed B.named
  have hlocks := B.notSynchronized
  subst hsz
  have hD := hD0
  have hP : va_P D vwCl [(a0, .inr (4, [g0, g1, g2, g3, g4])), (a1, .inr (9, [k0, k1, k2, k3, .int 0, k5, k6, k7, k8, k9]))] s.heap := hP
  have hl := lv_entry [.ref a0, .ref a1] (n := 5) (Nat.le_of_ble_eq_true rfl)
  rw [lg_entry_eq]
  generalize (lg_sl [.ref a0, .ref a1] ++ List.replicate (5 - (lg_sl [.ref a0, .ref a1]).length) Slot.unset).toArray = ls at hl ⊢
  have hl : lv_has ls 5 [(0, .ref a0), (1, .ref a1)] := hl
  have hw4 : ∀ w ∈ wsX40, w ∈ wsX4_mapSets := fun w h => (List.mem_cons_of_mem _ (List.mem_append_right _ h))
  have hw9 : ∀ w ∈ wsX90, w ∈ wsX4_mapSets := fun w h => (List.mem_cons_of_mem _ (List.mem_append_left _ (List.mem_append_right _ h)))
  refine lv_iconst (v := 1) hx hb dX4_mapSets_0 (by decide) ?_
  refine lv_istore_n (lv' := [(2, .int 1), (0, .ref a0), (1, .ref a1)]) hx hb dX4_mapSets_1 rfl hl (by decide) rfl (fun ls hl => ?_)
  refine lv_iconst (v := 0) hx hb dX4_mapSets_2 (by decide) ?_
  refine lv_istore_n (lv' := [(3, .int 0), (2, .int 1), (0, .ref a0), (1, .ref a1)]) hx hb dX4_mapSets_3 rfl hl (by decide) rfl (fun ls hl => ?_)
  refine lv_iload_n hx hb dX4_mapSets_4 rfl (lv_at hl 0 rfl) ?_
  refine lv_aload_n hx hb dX4_mapSets_5 rfl (lv_at hl 3 rfl) ?_
  refine va_getN (ci := 9) (v := .int 0) (C := RX9) (T := TX9) (N := 10) hx hb hts hw9 hown hK hP 1 rfl rfl 4 (by decide) (nst_use hN 106 rfl) (fun _ h9 => h9) rfl dX4_mapSets_6 ?_
  refine lv_icmp_ge (tgt := 68) hx hb dX4_mapSets_9 (by decide) (fun c_1 => ?_) (fun c_1 => absurd (by decide) c_1)
  refine lv_iload_n hx hb dX4_mapSets_68 rfl (lv_at hl 1 rfl) ?_
  exact W.iret (v := 1) hx hb hr (fun t ht hW => ⟨_, rfl, (by first | exact rfl), ht⟩) (fun q hq => by cases hq) dX4_mapSets_69
set_option maxHeartbeats 4000000 in
set_option maxRecDepth 100000 in
theorem c_hillSet (l : Launch) (D : va_G) (K : Nat → ClassId) (a0 : Nat) (a1 : Nat) (x : Int32) (g0 : Value) (g1 : Value) (g2 : Value) (g3 : Value) (a2 : Nat) (k0 : Value) (k1 : Value) (k2 : Value) (k3 : Value) (k5 : Value) (k6 : Value) (k7 : Value) (k8 : Value) (X : Int) (sz : Nat) (qx : x.toInt = X) : Met l yX4_hillSet wsX4_hillSet ({ frames := 1, cells := 0, slots := 0, locals := 24 }) (va_Pc [.ref a0, .ref a1, .int x] (Pre D K [(a0, .inr (4, [g0, g1, g2, g3, .ref a2])), (a1, .inr (9, [k0, k1, k2, k3, .int 0, k5, k6, k7, k8, .int 0])), (a2, .inl (K 0, 256, .inl (fun _ => 0)))] sz)) (vp_Si (fun r : Int32 => (r = 1 ∧ X = -1) ∨ (r = 0 ∧ X = 0) ∨ (r = (-1) ∧ X ≠ 0 ∧ X ≠ -1))) 0 0 (fun _ => False) := by
  refine Met.ofW (cc := cX4_hillSet) (maxL := 6) (ret := (some .int)) (by decide) rfl ?_
  intro p e s m args below meth c s₁ B hml hv
  obtain ⟨rfl, hsz, hP, hK, hD0, hN⟩ := hv
  have hx := B.exec
  have hb := B.bytes
  have hr := B.returns
  have hts := atoms_spec (ws := wsX4_hillSet) B.pre
  have hown : s.vm.findClass RX4 = some m.cls := findClass_of_methodNamed B.named
  have hlocks := B.notSynchronized
  subst hsz
  have hD := hD0
  have hP : va_P D vwCl [(a0, .inr (4, [g0, g1, g2, g3, .ref a2])), (a1, .inr (9, [k0, k1, k2, k3, .int 0, k5, k6, k7, k8, .int 0])), (a2, .inl (K 0, 256, .inl (fun _ => 0)))] s.heap := hP
  have hl := lv_entry [.ref a0, .ref a1, .int x] (n := 6) (Nat.le_of_ble_eq_true rfl)
  rw [lg_entry_eq]
  generalize (lg_sl [.ref a0, .ref a1, .int x] ++ List.replicate (6 - (lg_sl [.ref a0, .ref a1, .int x]).length) Slot.unset).toArray = ls at hl ⊢
  have hl : lv_has ls 6 [(0, .ref a0), (1, .ref a1), (2, .int x)] := hl
  have hw4 : ∀ w ∈ wsX40, w ∈ wsX4_hillSet := fun w h => (List.mem_cons_of_mem _ (List.mem_append_left _ (List.mem_append_right _ h)))
  have hw9 : ∀ w ∈ wsX90, w ∈ wsX4_hillSet := fun w h => (List.mem_cons_of_mem _ (List.mem_append_right _ h))
  refine lv_aload_n hx hb dX4_hillSet_0 rfl (lv_at hl 0 rfl) ?_
  refine lv_aload_n hx hb dX4_hillSet_1 rfl (lv_at hl 1 rfl) ?_
  refine pci (va_runV (As := [.ref a1]) (rest := []) ⟨hx, hb, hml, hown, hts⟩ (c_mapSets l D K a0 a1 g0 g1 g2 g3 (.ref a2) k0 k1 k2 k3 k5 k6 k7 k8 (.int 0) s.heap.size) (cwV 1 hts gX4_hillSet_X4_mapSets rfl rfl rfl (by decide +kernel) ⟨Nat.le_of_ble_eq_true rfl, Nat.le_of_ble_eq_true rfl⟩) (mkV hK hN (hP.sub [0, 1] rfl) (hD.sub [0, 1] (by decide) rfl) (ci := 4) (q0 := 0) rfl rfl) rfl rfl hl.1 rfl (lv_room (Nat.le_of_ble_eq_true rfl)) dX4_hillSet_2 ⟨Nat.le_of_ble_eq_true rfl, Nat.le_of_ble_eq_true rfl⟩) (fun r_1 hw => ?_)
  obtain rfl : r_1 = 1 := hw
  refine lv_istore_n (lv' := [(3, .int 1), (0, .ref a0), (1, .ref a1), (2, .int x)]) hx hb dX4_hillSet_5 rfl hl (by decide) rfl (fun ls hl => ?_)
  refine lv_iconst (v := 0) hx hb dX4_hillSet_6 (by decide) ?_
  refine lv_istore (lv' := [(4, .int 0), (3, .int 1), (0, .ref a0), (1, .ref a1), (2, .int x)]) hx hb dX4_hillSet_7 hl (by decide) rfl (fun ls hl => ?_)
  refine lv_iconst (v := 0) hx hb dX4_hillSet_9 (by decide) ?_
  refine lv_istore (lv' := [(5, .int 0), (4, .int 0), (3, .int 1), (0, .ref a0), (1, .ref a1), (2, .int x)]) hx hb dX4_hillSet_10 hl (by decide) rfl (fun ls hl => ?_)
  refine lv_iload hx hb dX4_hillSet_12 (lv_at hl 0 rfl) ?_
  refine lv_iload_n hx hb dX4_hillSet_14 rfl (lv_at hl 2 rfl) ?_
  refine lv_icmp_ge (tgt := 50) hx hb dX4_hillSet_15 (by decide) (fun c_2 => absurd c_2 (by decide)) (fun c_2 => ?_)
  refine lv_aload_n hx hb dX4_hillSet_18 rfl (lv_at hl 3 rfl) ?_
  refine va_get (ci := 4) (v := .ref a2) (C := RX4) (T := TX4) (N := 5) hx hb hts hw4 hown hK hP 0 rfl rfl 4 (by decide) (hts (.fieldLink RX4 24 "SmokeTune$Paper" "setNotes" "[I") (List.mem_cons_of_mem _ (List.mem_append_left _ (List.mem_append_left _ (List.mem_of_getElem? (i := 0) rfl))))) (fun _ h9 => h9) rfl dX4_hillSet_19 ?_
  refine lv_iload hx hb dX4_hillSet_22 (lv_at hl 0 rfl) ?_
  refine va_iald hx hb hK hP 2 0 rfl rfl (i_in (x := 0) rfl (by omega)) dX4_hillSet_24 ?_
  refine lv_topi (fun x_3 ex_3 => ?_)
  obtain rfl : x_3 = 0 := ex_3.trans (by first | rfl | decide | exact rfl)
  refine lv_aload_n hx hb dX4_hillSet_25 rfl (lv_at hl 4 rfl) ?_
  refine va_getN (ci := 9) (v := .int 0) (C := RX9) (T := TX9) (N := 10) hx hb hts hw9 hown hK hP 1 rfl rfl 9 (by decide) (nst_use hN 117 rfl) (fun _ h9 => h9) rfl dX4_hillSet_26 ?_
  refine lv_icmp_ne (tgt := 44) hx hb dX4_hillSet_29 (by decide) (fun c_4 => absurd (by decide) c_4) (fun c_4 => ?_)
  refine lv_iload hx hb dX4_hillSet_32 (lv_at hl 1 rfl) ?_
  refine lv_iload_n hx hb dX4_hillSet_34 rfl (lv_at hl 5 rfl) ?_
  refine lv_icmp_ne (tgt := 41) hx hb dX4_hillSet_35 (by decide) (fun c_5 => ?_) (fun c_5 => ?_)
  · have c_5i := i_ne (x := 0) (y := X) rfl qx c_5
    refine lv_iinc (v := 1) (lv' := [(4, .int 1), (5, .int 0), (3, .int 1), (0, .ref a0), (1, .ref a1), (2, .int x)]) hx hb dX4_hillSet_41 hl (k := 1) rfl (by decide) (by decide) rfl (fun ls hl => ?_)
    refine lv_iinc (v := 1) (lv' := [(5, .int 1), (4, .int 1), (3, .int 1), (0, .ref a0), (1, .ref a1), (2, .int x)]) hx hb dX4_hillSet_44 hl (k := 1) rfl (by decide) (by decide) rfl (fun ls hl => ?_)
    refine lv_goto (tgt := 12) hx hb dX4_hillSet_47 (by decide) ?_
    refine lv_iload hx hb dX4_hillSet_12 (lv_at hl 0 rfl) ?_
    refine lv_iload_n hx hb dX4_hillSet_14 rfl (lv_at hl 2 rfl) ?_
    refine lv_icmp_ge (tgt := 50) hx hb dX4_hillSet_15 (by decide) (fun c_6 => ?_) (fun c_6 => absurd (by decide) c_6)
    refine lv_iload_n hx hb dX4_hillSet_50 rfl (lv_at hl 5 rfl) ?_
    refine lv_iconst (v := (-1)) hx hb dX4_hillSet_51 (by decide) ?_
    refine lv_icmp_ne (tgt := 60) hx hb dX4_hillSet_52 (by decide) (fun c_7 => ?_) (fun c_7 => ?_)
    · have c_7i := i_ne (x := X) (y := (-1)) qx rfl c_7
      refine lv_iconst (v := (-1)) hx hb dX4_hillSet_60 (by decide) ?_
      exact W.iret (v := (-1)) hx hb hr (fun t ht hW => ⟨_, rfl, (by first | exact Or.inr (Or.inr (⟨rfl, by first | omega | decide | (subst_vars; assumption) | (subst_vars; symm; assumption), by first | omega | decide | (subst_vars; assumption) | (subst_vars; symm; assumption)⟩))), ht⟩) (fun q hq => by cases hq) dX4_hillSet_61
    · have c_7i := i_eq (x := X) (y := (-1)) qx rfl c_7
      refine lv_iload hx hb dX4_hillSet_55 (lv_at hl 1 rfl) ?_
      refine lv_goto (tgt := 61) hx hb dX4_hillSet_57 (by decide) ?_
      exact W.iret (v := 1) hx hb hr (fun t ht hW => ⟨_, rfl, (by first | exact Or.inl (⟨rfl, by first | omega | decide | (subst_vars; assumption) | (subst_vars; symm; assumption)⟩)), ht⟩) (fun q hq => by cases hq) dX4_hillSet_61
  · have c_5i := i_eq (x := 0) (y := X) rfl qx c_5
    refine lv_iload hx hb dX4_hillSet_38 (lv_at hl 0 rfl) ?_
    exact W.iret (v := 0) hx hb hr (fun t ht hW => ⟨_, rfl, (by first | exact Or.inr (Or.inl (⟨rfl, by first | omega | decide | (subst_vars; assumption) | (subst_vars; symm; assumption)⟩))), ht⟩) (fun q hq => by cases hq) dX4_hillSet_40
set_option maxHeartbeats 4000000 in
set_option maxRecDepth 100000 in
theorem t_hill (l : Launch) (D : va_G) (K : Nat → ClassId) (a0 : Nat) (x : Int32) (a1 : Nat) (g1 : Value) (g2 : Value) (g3 : Value) (g4 : Value) (g5 : Value) (g6 : Value) (g7 : Value) (g8 : Value) (g9 : Value) (g10 : Value) (a3 : Nat) (g12 : Value) (g13 : Value) (g14 : Value) (g15 : Value) (g16 : Value) (p0 : Value) (p1 : Value) (p2 : Value) (p3 : Value) (a2 : Nat) (k0 : Value) (k1 : Value) (k2 : Value) (k3 : Value) (k5 : Value) (k6 : Value) (k7 : Value) (k8 : Value) (sz : Nat) : Met l yX11_hill wsX11_hill ({ frames := 2, cells := 0, slots := 0, locals := 49 }) (va_Pc [.ref a0, .int x] (Pre D K [(a0, .inr (11, [.ref a1, g1, g2, g3, g4, g5, g6, g7, g8, g9, g10, .ref a3, g12, g13, g14, g15, g16])), (a3, .inr (4, [p0, p1, p2, p3, .ref a2])), (a1, .inr (9, [k0, k1, k2, k3, .int 0, k5, k6, k7, k8, .int 0])), (a2, .inl (K 0, 256, .inl (fun _ => 0)))] sz)) (vp_Si (fun r : Int32 => (r = 1 ∧ x.toInt = -1) ∨ (r = 0 ∧ x.toInt = 0) ∨ (r = (-1) ∧ x.toInt ≠ 0 ∧ x.toInt ≠ -1))) 0 0 (fun _ => False) := by
  refine Met.ofW (cc := cX11_hill) (maxL := 2) (ret := (some .int)) (by decide) rfl ?_
  intro p e s m args below meth c s₁ B hml hv
  obtain ⟨rfl, hsz, hP, hK, hD0, hN⟩ := hv
  have hx := B.exec
  have hb := B.bytes
  have hr := B.returns
  have hts := atoms_spec (ws := wsX11_hill) B.pre
  have hown : s.vm.findClass RX11 = some m.cls := findClass_of_methodNamed B.named
  have hlocks := B.notSynchronized
  subst hsz
  have hD := hD0
  have hP : va_P D vwCl [(a0, .inr (11, [.ref a1, g1, g2, g3, g4, g5, g6, g7, g8, g9, g10, .ref a3, g12, g13, g14, g15, g16])), (a3, .inr (4, [p0, p1, p2, p3, .ref a2])), (a1, .inr (9, [k0, k1, k2, k3, .int 0, k5, k6, k7, k8, .int 0])), (a2, .inl (K 0, 256, .inl (fun _ => 0)))] s.heap := hP
  have hl := lv_entry [.ref a0, .int x] (n := 2) (Nat.le_of_ble_eq_true rfl)
  rw [lg_entry_eq]
  generalize (lg_sl [.ref a0, .int x] ++ List.replicate (2 - (lg_sl [.ref a0, .int x]).length) Slot.unset).toArray = ls at hl ⊢
  have hl : lv_has ls 2 [(0, .ref a0), (1, .int x)] := hl
  have hw4 : ∀ w ∈ wsX40, w ∈ wsX11_hill := fun w h => (List.mem_cons_of_mem _ (List.mem_append_left _ (List.mem_append_right _ h)))
  have hw9 : ∀ w ∈ wsX90, w ∈ wsX11_hill := fun w h => (List.mem_cons_of_mem _ (List.mem_append_right _ h))
  have hw11 : ∀ w ∈ wsX110, w ∈ wsX11_hill := fun w h => (List.mem_cons_of_mem _ (List.mem_append_left _ (List.mem_append_left _ (List.mem_append_right _ h))))
  refine lv_aload_n hx hb dX11_hill_0 rfl (lv_at hl 0 rfl) ?_
  refine va_get (ci := 11) (v := .ref a3) (C := RX11) (T := TX11) (N := 17) hx hb hts hw11 hown hK hP 0 rfl rfl 11 (by decide) (hts (.fieldLink RX11 75 "SmokeTune" "paper" "LSmokeTune$Paper;") (List.mem_cons_of_mem _ (List.mem_append_left _ (List.mem_append_left _ (List.mem_append_left _ (List.mem_of_getElem? (i := 0) rfl)))))) (fun _ h9 => h9) rfl dX11_hill_1 ?_
  refine lv_aload_n hx hb dX11_hill_4 rfl (lv_at hl 0 rfl) ?_
  refine va_get (ci := 11) (v := .ref a1) (C := RX11) (T := TX11) (N := 17) hx hb hts hw11 hown hK hP 0 rfl rfl 0 (by decide) (hts (.fieldLink RX11 10 "SmokeTune" "town" "LSmokeTune$Town;") (List.mem_cons_of_mem _ (List.mem_append_left _ (List.mem_append_left _ (List.mem_append_left _ (List.mem_of_getElem? (i := 1) rfl)))))) (fun _ h9 => h9) rfl dX11_hill_5 ?_
  refine lv_iload_n hx hb dX11_hill_8 rfl (lv_at hl 1 rfl) ?_
  refine pci (va_runVN (As := [.ref a1, .int x]) (rest := []) ⟨hx, hb, hml, hown, hts⟩ (c_hillSet l D K a3 a1 x p0 p1 p2 p3 a2 k0 k1 k2 k3 k5 k6 k7 k8 x.toInt s.heap.size rfl) ⟨va_cnB 2 hts gX11_hill_X4_hillSet_n264 rfl rfl rfl (nst_at hN 88 rfl) (hts (.initialized RX4) (List.mem_cons_of_mem _ (List.mem_append_left _ (List.mem_append_left _ (List.mem_append_left _ (List.mem_of_getElem? (i := 3) rfl)))))) (by decide +kernel) ⟨Nat.le_of_ble_eq_true rfl, Nat.le_of_ble_eq_true rfl⟩, (hts (.instanceMethod yX4_hillSet) (List.mem_cons_of_mem _ (List.mem_append_left _ (List.mem_append_left _ (List.mem_append_left _ (List.mem_of_getElem? (i := 2) rfl)))))), (hts (.selects RX4 yX4_hillSet yX4_hillSet) (List.mem_cons_of_mem _ (List.mem_append_left _ (List.mem_append_left _ (List.mem_append_left _ (List.mem_of_getElem? (i := 4) rfl))))))⟩ (mkV hK hN (hP.sub [1, 2, 3] rfl) (hD.sub [1, 2, 3] (by decide) rfl) (ci := 4) (q0 := 0) rfl rfl) rfl rfl hl.1 rfl (lv_room (Nat.le_of_ble_eq_true rfl)) dX11_hill_9 ⟨Nat.le_of_ble_eq_true rfl, Nat.le_of_ble_eq_true rfl⟩) (fun r_1 hw => ?_)
  rcases hw with ⟨rfl, h_2⟩ | ⟨rfl, h_3⟩ | ⟨rfl, h_4, h_5⟩
  · exact W.iret (v := 1) hx hb hr (fun t ht hW => ⟨_, rfl, (by first | exact Or.inl (⟨rfl, by first | omega | decide | (subst_vars; assumption) | (subst_vars; symm; assumption)⟩)), ht⟩) (fun q hq => by cases hq) dX11_hill_12
  · exact W.iret (v := 0) hx hb hr (fun t ht hW => ⟨_, rfl, (by first | exact Or.inr (Or.inl (⟨rfl, by first | omega | decide | (subst_vars; assumption) | (subst_vars; symm; assumption)⟩))), ht⟩) (fun q hq => by cases hq) dX11_hill_12
  · exact W.iret (v := (-1)) hx hb hr (fun t ht hW => ⟨_, rfl, (by first | exact Or.inr (Or.inr (⟨rfl, by first | omega | decide | (subst_vars; assumption) | (subst_vars; symm; assumption), by first | omega | decide | (subst_vars; assumption) | (subst_vars; symm; assumption)⟩))), ht⟩) (fun q hq => by cases hq) dX11_hill_12
