theorem dX11_house_0 : decode cX11_house 0 = .ok (.iload_n 1, 1) := by decide +kernel
theorem dX11_house_1 : decode cX11_house 1 = .ok (.iconst 0, 1) := by decide +kernel
theorem dX11_house_2 : decode cX11_house 2 = .ok (.bipush 6, 2) := by decide +kernel
theorem dX11_house_4 : decode cX11_house 4 = .ok (.invokestatic 97, 3) := by decide +kernel
theorem dX11_house_7 : decode cX11_house 7 = .ok (.ifCond .eq 16, 3) := by decide +kernel
theorem dX11_house_10 : decode cX11_house 10 = .ok (.iload_n 2, 1) := by decide +kernel
theorem dX11_house_11 : decode cX11_house 11 = .ok (.iconst 0, 1) := by decide +kernel
theorem dX11_house_12 : decode cX11_house 12 = .ok (.iconst 3, 1) := by decide +kernel
theorem dX11_house_13 : decode cX11_house 13 = .ok (.invokestatic 97, 3) := by decide +kernel
theorem dX11_house_16 : decode cX11_house 16 = .ok (.ifCond .eq 7, 3) := by decide +kernel
theorem dX11_house_19 : decode cX11_house 19 = .ok (.iconst 1, 1) := by decide +kernel
theorem dX11_house_20 : decode cX11_house 20 = .ok (.goto 4, 3) := by decide +kernel
theorem dX11_house_24 : decode cX11_house 24 = .ok (.istore 6, 2) := by decide +kernel
theorem dX11_house_26 : decode cX11_house 26 = .ok (.iload 4, 2) := by decide +kernel
theorem dX11_house_28 : decode cX11_house 28 = .ok (.iconst 0, 1) := by decide +kernel
theorem dX11_house_29 : decode cX11_house 29 = .ok (.bipush 7, 2) := by decide +kernel
theorem dX11_house_31 : decode cX11_house 31 = .ok (.invokestatic 97, 3) := by decide +kernel
theorem dX11_house_34 : decode cX11_house 34 = .ok (.ifCond .eq 18, 3) := by decide +kernel
theorem dX11_house_37 : decode cX11_house 37 = .ok (.iload 5, 2) := by decide +kernel
theorem dX11_house_39 : decode cX11_house 39 = .ok (.iconst 0, 1) := by decide +kernel
theorem dX11_house_40 : decode cX11_house 40 = .ok (.bipush 7, 2) := by decide +kernel
theorem dX11_house_42 : decode cX11_house 42 = .ok (.invokestatic 97, 3) := by decide +kernel
theorem dX11_house_45 : decode cX11_house 45 = .ok (.ifCond .eq 7, 3) := by decide +kernel
theorem dX11_house_48 : decode cX11_house 48 = .ok (.iconst 1, 1) := by decide +kernel
theorem dX11_house_49 : decode cX11_house 49 = .ok (.goto 4, 3) := by decide +kernel
theorem dX11_house_53 : decode cX11_house 53 = .ok (.istore 7, 2) := by decide +kernel
theorem dX11_house_55 : decode cX11_house 55 = .ok (.iload 6, 2) := by decide +kernel
theorem dX11_house_57 : decode cX11_house 57 = .ok (.ifCond .eq 19, 3) := by decide +kernel
theorem dX11_house_60 : decode cX11_house 60 = .ok (.iload 7, 2) := by decide +kernel
theorem dX11_house_62 : decode cX11_house 62 = .ok (.ifCond .eq 14, 3) := by decide +kernel
theorem dX11_house_65 : decode cX11_house 65 = .ok (.iload_n 3, 1) := by decide +kernel
theorem dX11_house_66 : decode cX11_house 66 = .ok (.iconst 0, 1) := by decide +kernel
theorem dX11_house_67 : decode cX11_house 67 = .ok (.sipush 999, 3) := by decide +kernel
theorem dX11_house_70 : decode cX11_house 70 = .ok (.invokestatic 97, 3) := by decide +kernel
theorem dX11_house_73 : decode cX11_house 73 = .ok (.ifCond .ne 9, 3) := by decide +kernel
theorem dX11_house_82 : decode cX11_house 82 = .ok (.aload_n 0, 1) := by decide +kernel
theorem dX11_house_83 : decode cX11_house 83 = .ok (.getfield 10, 3) := by decide +kernel
theorem dX11_house_86 : decode cX11_house 86 = .ok (.iload 4, 2) := by decide +kernel
theorem dX11_house_88 : decode cX11_house 88 = .ok (.invokevirtual 105, 3) := by decide +kernel
theorem dX11_house_91 : decode cX11_house 91 = .ok (.iconst (-1), 1) := by decide +kernel
theorem dX11_house_92 : decode cX11_house 92 = .ok (.if_icmp .eq 10, 3) := by decide +kernel
theorem dX11_house_102 : decode cX11_house 102 = .ok (.aload_n 0, 1) := by decide +kernel
theorem dX11_house_103 : decode cX11_house 103 = .ok (.getfield 10, 3) := by decide +kernel
theorem dX11_house_106 : decode cX11_house 106 = .ok (.getfield 108, 3) := by decide +kernel
theorem dX11_house_109 : decode cX11_house 109 = .ok (.bipush 8, 2) := by decide +kernel
theorem dX11_house_111 : decode cX11_house 111 = .ok (.if_icmp .lt 10, 3) := by decide +kernel
theorem dX11_house_121 : decode cX11_house 121 = .ok (.aload_n 0, 1) := by decide +kernel
theorem dX11_house_122 : decode cX11_house 122 = .ok (.getfield 61, 3) := by decide +kernel
theorem dX11_house_125 : decode cX11_house 125 = .ok (.invokevirtual 111, 3) := by decide +kernel
theorem dX11_house_128 : decode cX11_house 128 = .ok (.aload_n 0, 1) := by decide +kernel
theorem dX11_house_129 : decode cX11_house 129 = .ok (.aload_n 0, 1) := by decide +kernel
theorem dX11_house_130 : decode cX11_house 130 = .ok (.getfield 10, 3) := by decide +kernel
theorem dX11_house_133 : decode cX11_house 133 = .ok (.iload_n 1, 1) := by decide +kernel
theorem dX11_house_134 : decode cX11_house 134 = .ok (.iload_n 2, 1) := by decide +kernel
theorem dX11_house_135 : decode cX11_house 135 = .ok (.iload_n 3, 1) := by decide +kernel
theorem dX11_house_136 : decode cX11_house 136 = .ok (.iload 4, 2) := by decide +kernel
theorem dX11_house_138 : decode cX11_house 138 = .ok (.iload 5, 2) := by decide +kernel
theorem dX11_house_140 : decode cX11_house 140 = .ok (.invokevirtual 114, 3) := by decide +kernel
theorem dX11_house_143 : decode cX11_house 143 = .ok (.invokevirtual 118, 3) := by decide +kernel
theorem dX11_house_146 : decode cX11_house 146 = .ok (.ireturn, 1) := by decide +kernel
theorem dX11_house_76 : decode cX11_house 76 = .ok (.aload_n 0, 1) := by decide +kernel
theorem dX11_house_77 : decode cX11_house 77 = .ok (.iconst (-1), 1) := by decide +kernel
theorem dX11_house_78 : decode cX11_house 78 = .ok (.invokevirtual 101, 3) := by decide +kernel
theorem dX11_house_81 : decode cX11_house 81 = .ok (.ireturn, 1) := by decide +kernel
theorem dX11_house_52 : decode cX11_house 52 = .ok (.iconst 0, 1) := by decide +kernel
theorem dX11_house_23 : decode cX11_house 23 = .ok (.iconst 0, 1) := by decide +kernel
theorem dX8_take_0 : decode cX8_take 0 = .ok (.bipush 24, 2) := by decide +kernel
theorem dX8_take_2 : decode cX8_take 2 = .ok (.istore_n 2, 1) := by decide +kernel
theorem dX8_take_3 : decode cX8_take 3 = .ok (.iload_n 2, 1) := by decide +kernel
theorem dX8_take_4 : decode cX8_take 4 = .ok (.ifCond .lt 45, 3) := by decide +kernel
theorem dX8_take_7 : decode cX8_take 7 = .ok (.aload_n 0, 1) := by decide +kernel
theorem dX8_take_8 : decode cX8_take 8 = .ok (.getfield 15, 3) := by decide +kernel
theorem dX8_take_11 : decode cX8_take 11 = .ok (.sipush 400, 3) := by decide +kernel
theorem dX8_take_14 : decode cX8_take 14 = .ok (.if_icmp .ge 35, 3) := by decide +kernel
theorem dX8_take_17 : decode cX8_take 17 = .ok (.aload_n 0, 1) := by decide +kernel
theorem dX8_take_18 : decode cX8_take 18 = .ok (.getfield 11, 3) := by decide +kernel
theorem dX8_take_21 : decode cX8_take 21 = .ok (.aload_n 0, 1) := by decide +kernel
theorem dX8_take_22 : decode cX8_take 22 = .ok (.getfield 15, 3) := by decide +kernel
theorem dX8_take_25 : decode cX8_take 25 = .ok (.iload_n 1, 1) := by decide +kernel
theorem dX8_take_26 : decode cX8_take 26 = .ok (.iload_n 2, 1) := by decide +kernel
theorem dX8_take_27 : decode cX8_take 27 = .ok (.ishr, 1) := by decide +kernel
theorem dX8_take_28 : decode cX8_take 28 = .ok (.sipush 255, 3) := by decide +kernel
theorem dX8_take_31 : decode cX8_take 31 = .ok (.iand, 1) := by decide +kernel
theorem dX8_take_32 : decode cX8_take 32 = .ok (.iastore, 1) := by decide +kernel
theorem dX8_take_33 : decode cX8_take 33 = .ok (.aload_n 0, 1) := by decide +kernel
theorem dX8_take_34 : decode cX8_take 34 = .ok (.dup, 1) := by decide +kernel
theorem dX8_take_35 : decode cX8_take 35 = .ok (.getfield 15, 3) := by decide +kernel
theorem dX8_take_38 : decode cX8_take 38 = .ok (.iconst 1, 1) := by decide +kernel
theorem dX8_take_39 : decode cX8_take 39 = .ok (.iadd, 1) := by decide +kernel
theorem dX8_take_40 : decode cX8_take 40 = .ok (.putfield 15, 3) := by decide +kernel
theorem dX8_take_43 : decode cX8_take 43 = .ok (.iinc 2 (-8), 3) := by decide +kernel
theorem dX8_take_46 : decode cX8_take 46 = .ok (.goto (-43), 3) := by decide +kernel
theorem dX8_take_49 : decode cX8_take 49 = .ok (.return_, 1) := by decide +kernel
theorem dX11_feed_0 : decode cX11_feed 0 = .ok (.aload_n 0, 1) := by decide +kernel
theorem dX11_feed_1 : decode cX11_feed 1 = .ok (.getfield 38, 3) := by decide +kernel
theorem dX11_feed_4 : decode cX11_feed 4 = .ok (.getfield 161, 3) := by decide +kernel
theorem dX11_feed_7 : decode cX11_feed 7 = .ok (.bipush 20, 2) := by decide +kernel
theorem dX11_feed_9 : decode cX11_feed 9 = .ok (.iadd, 1) := by decide +kernel
theorem dX11_feed_10 : decode cX11_feed 10 = .ok (.sipush 400, 3) := by decide +kernel
theorem dX11_feed_13 : decode cX11_feed 13 = .ok (.if_icmp .le 5, 3) := by decide +kernel
theorem dX11_feed_18 : decode cX11_feed 18 = .ok (.aload_n 0, 1) := by decide +kernel
theorem dX11_feed_19 : decode cX11_feed 19 = .ok (.getfield 38, 3) := by decide +kernel
theorem dX11_feed_22 : decode cX11_feed 22 = .ok (.iload_n 1, 1) := by decide +kernel
theorem dX11_feed_23 : decode cX11_feed 23 = .ok (.invokevirtual 166, 3) := by decide +kernel
theorem dX11_feed_26 : decode cX11_feed 26 = .ok (.aload_n 0, 1) := by decide +kernel
theorem dX11_feed_27 : decode cX11_feed 27 = .ok (.getfield 38, 3) := by decide +kernel
theorem dX11_feed_30 : decode cX11_feed 30 = .ok (.iload_n 2, 1) := by decide +kernel
theorem dX11_feed_31 : decode cX11_feed 31 = .ok (.invokevirtual 166, 3) := by decide +kernel
theorem dX11_feed_34 : decode cX11_feed 34 = .ok (.aload_n 0, 1) := by decide +kernel
theorem dX11_feed_35 : decode cX11_feed 35 = .ok (.getfield 38, 3) := by decide +kernel
theorem dX11_feed_38 : decode cX11_feed 38 = .ok (.iload_n 3, 1) := by decide +kernel
theorem dX11_feed_39 : decode cX11_feed 39 = .ok (.invokevirtual 166, 3) := by decide +kernel
theorem dX11_feed_42 : decode cX11_feed 42 = .ok (.aload_n 0, 1) := by decide +kernel
theorem dX11_feed_43 : decode cX11_feed 43 = .ok (.getfield 38, 3) := by decide +kernel
theorem dX11_feed_46 : decode cX11_feed 46 = .ok (.iload 4, 2) := by decide +kernel
theorem dX11_feed_48 : decode cX11_feed 48 = .ok (.invokevirtual 166, 3) := by decide +kernel
theorem dX11_feed_51 : decode cX11_feed 51 = .ok (.aload_n 0, 1) := by decide +kernel
theorem dX11_feed_52 : decode cX11_feed 52 = .ok (.getfield 38, 3) := by decide +kernel
theorem dX11_feed_55 : decode cX11_feed 55 = .ok (.iload 5, 2) := by decide +kernel
theorem dX11_feed_57 : decode cX11_feed 57 = .ok (.invokevirtual 166, 3) := by decide +kernel
theorem dX11_feed_60 : decode cX11_feed 60 = .ok (.aload_n 0, 1) := by decide +kernel
theorem dX11_feed_61 : decode cX11_feed 61 = .ok (.getfield 38, 3) := by decide +kernel
theorem dX11_feed_64 : decode cX11_feed 64 = .ok (.getfield 161, 3) := by decide +kernel
theorem dX11_feed_67 : decode cX11_feed 67 = .ok (.ireturn, 1) := by decide +kernel
theorem dX11_end_0 : decode cX11_end 0 = .ok (.iload_n 1, 1) := by decide +kernel
theorem dX11_end_1 : decode cX11_end 1 = .ok (.iconst 0, 1) := by decide +kernel
theorem dX11_end_2 : decode cX11_end 2 = .ok (.aload_n 0, 1) := by decide +kernel
theorem dX11_end_3 : decode cX11_end 3 = .ok (.getfield 38, 3) := by decide +kernel
theorem dX11_end_6 : decode cX11_end 6 = .ok (.getfield 161, 3) := by decide +kernel
theorem dX11_end_9 : decode cX11_end 9 = .ok (.invokestatic 97, 3) := by decide +kernel
theorem dX11_end_12 : decode cX11_end 12 = .ok (.ifCond .ne 5, 3) := by decide +kernel
theorem dX11_end_17 : decode cX11_end 17 = .ok (.aload_n 0, 1) := by decide +kernel
theorem dX11_end_18 : decode cX11_end 18 = .ok (.getfield 38, 3) := by decide +kernel
theorem dX11_end_21 : decode cX11_end 21 = .ok (.iload_n 1, 1) := by decide +kernel
theorem dX11_end_22 : decode cX11_end 22 = .ok (.putfield 161, 3) := by decide +kernel
theorem dX11_end_25 : decode cX11_end 25 = .ok (.iload_n 1, 1) := by decide +kernel
theorem dX11_end_26 : decode cX11_end 26 = .ok (.ireturn, 1) := by decide +kernel
theorem dX11_end_15 : decode cX11_end 15 = .ok (.iconst (-1), 1) := by decide +kernel
theorem dX11_end_16 : decode cX11_end 16 = .ok (.ireturn, 1) := by decide +kernel
theorem dX11_row_0 : decode cX11_row 0 = .ok (.aload_n 0, 1) := by decide +kernel
theorem dX11_row_1 : decode cX11_row 1 = .ok (.getfield 38, 3) := by decide +kernel
theorem dX11_row_4 : decode cX11_row 4 = .ok (.getfield 161, 3) := by decide +kernel
theorem dX11_row_7 : decode cX11_row 7 = .ok (.ifCond .ne 10, 3) := by decide +kernel
theorem dX11_row_10 : decode cX11_row 10 = .ok (.aload_n 0, 1) := by decide +kernel
theorem dX11_row_11 : decode cX11_row 11 = .ok (.bipush (-6), 2) := by decide +kernel
theorem dX11_row_13 : decode cX11_row 13 = .ok (.invokevirtual 101, 3) := by decide +kernel
theorem dX11_row_16 : decode cX11_row 16 = .ok (.ireturn, 1) := by decide +kernel
theorem dX11_force_0 : decode cX11_force 0 = .ok (.iload_n 1, 1) := by decide +kernel
theorem dX11_force_1 : decode cX11_force 1 = .ok (.iconst (-1), 1) := by decide +kernel
theorem dX11_force_2 : decode cX11_force 2 = .ok (.if_icmp .eq 27, 3) := by decide +kernel
theorem dX11_force_29 : decode cX11_force 29 = .ok (.aload_n 0, 1) := by decide +kernel
theorem dX11_force_30 : decode cX11_force 30 = .ok (.getfield 10, 3) := by decide +kernel
theorem dX11_force_33 : decode cX11_force 33 = .ok (.getfield 203, 3) := by decide +kernel
theorem dX11_force_36 : decode cX11_force 36 = .ok (.istore_n 2, 1) := by decide +kernel
theorem dX11_force_37 : decode cX11_force 37 = .ok (.aload_n 0, 1) := by decide +kernel
theorem dX11_force_38 : decode cX11_force 38 = .ok (.getfield 10, 3) := by decide +kernel
theorem dX11_force_41 : decode cX11_force 41 = .ok (.iload_n 1, 1) := by decide +kernel
theorem dX11_force_42 : decode cX11_force 42 = .ok (.putfield 203, 3) := by decide +kernel
theorem dX11_force_45 : decode cX11_force 45 = .ok (.aload_n 0, 1) := by decide +kernel
theorem dX11_force_46 : decode cX11_force 46 = .ok (.iload_n 2, 1) := by decide +kernel
theorem dX11_force_47 : decode cX11_force 47 = .ok (.invokevirtual 118, 3) := by decide +kernel
theorem dX11_force_50 : decode cX11_force 50 = .ok (.ireturn, 1) := by decide +kernel
theorem dX11_force_5 : decode cX11_force 5 = .ok (.iload_n 1, 1) := by decide +kernel
theorem dX11_force_6 : decode cX11_force 6 = .ok (.iconst 0, 1) := by decide +kernel
theorem dX11_force_7 : decode cX11_force 7 = .ok (.aload_n 0, 1) := by decide +kernel
theorem dX11_force_8 : decode cX11_force 8 = .ok (.getfield 10, 3) := by decide +kernel
theorem dX11_force_11 : decode cX11_force 11 = .ok (.getfield 173, 3) := by decide +kernel
theorem dX11_force_14 : decode cX11_force 14 = .ok (.iconst 1, 1) := by decide +kernel
theorem dX11_force_15 : decode cX11_force 15 = .ok (.isub, 1) := by decide +kernel
theorem dX11_force_16 : decode cX11_force 16 = .ok (.invokestatic 97, 3) := by decide +kernel
theorem dX11_force_19 : decode cX11_force 19 = .ok (.ifCond .ne 10, 3) := by decide +kernel
theorem dX11_force_22 : decode cX11_force 22 = .ok (.aload_n 0, 1) := by decide +kernel
theorem dX11_force_23 : decode cX11_force 23 = .ok (.bipush (-2), 2) := by decide +kernel
theorem dX11_force_25 : decode cX11_force 25 = .ok (.invokevirtual 101, 3) := by decide +kernel
theorem dX11_force_28 : decode cX11_force 28 = .ok (.ireturn, 1) := by decide +kernel
theorem dX10_discords_0 : decode cX10_discords 0 = .ok (.iconst 0, 1) := by decide +kernel
theorem dX10_discords_1 : decode cX10_discords 1 = .ok (.istore_n 2, 1) := by decide +kernel
theorem dX10_discords_2 : decode cX10_discords 2 = .ok (.iconst 0, 1) := by decide +kernel
theorem dX10_discords_3 : decode cX10_discords 3 = .ok (.istore_n 3, 1) := by decide +kernel
theorem dX10_discords_4 : decode cX10_discords 4 = .ok (.iload_n 3, 1) := by decide +kernel
theorem dX10_discords_5 : decode cX10_discords 5 = .ok (.aload_n 1, 1) := by decide +kernel
theorem dX10_discords_6 : decode cX10_discords 6 = .ok (.getfield 77, 3) := by decide +kernel
theorem dX10_discords_9 : decode cX10_discords 9 = .ok (.if_icmp .ge 101, 3) := by decide +kernel
theorem dX10_discords_110 : decode cX10_discords 110 = .ok (.iload_n 2, 1) := by decide +kernel
theorem dX10_discords_111 : decode cX10_discords 111 = .ok (.ireturn, 1) := by decide +kernel
theorem dX11_discord_0 : decode cX11_discord 0 = .ok (.aload_n 0, 1) := by decide +kernel
theorem dX11_discord_1 : decode cX11_discord 1 = .ok (.getfield 50, 3) := by decide +kernel
theorem dX11_discord_4 : decode cX11_discord 4 = .ok (.aload_n 0, 1) := by decide +kernel
theorem dX11_discord_5 : decode cX11_discord 5 = .ok (.getfield 10, 3) := by decide +kernel
theorem dX11_discord_8 : decode cX11_discord 8 = .ok (.invokevirtual 206, 3) := by decide +kernel
theorem dX11_discord_11 : decode cX11_discord 11 = .ok (.ireturn, 1) := by decide +kernel
theorem dX9_notesNow_0 : decode cX9_notesNow 0 = .ok (.iconst 0, 1) := by decide +kernel
theorem dX9_notesNow_1 : decode cX9_notesNow 1 = .ok (.istore_n 1, 1) := by decide +kernel
theorem dX9_notesNow_2 : decode cX9_notesNow 2 = .ok (.iconst 0, 1) := by decide +kernel
theorem dX9_notesNow_3 : decode cX9_notesNow 3 = .ok (.istore_n 2, 1) := by decide +kernel
theorem dX9_notesNow_4 : decode cX9_notesNow 4 = .ok (.iload_n 2, 1) := by decide +kernel
theorem dX9_notesNow_5 : decode cX9_notesNow 5 = .ok (.aload_n 0, 1) := by decide +kernel
theorem dX9_notesNow_6 : decode cX9_notesNow 6 = .ok (.getfield 27, 3) := by decide +kernel
theorem dX9_notesNow_9 : decode cX9_notesNow 9 = .ok (.if_icmp .ge 32, 3) := by decide +kernel
theorem dX9_notesNow_41 : decode cX9_notesNow 41 = .ok (.iload_n 1, 1) := by decide +kernel
theorem dX9_notesNow_42 : decode cX9_notesNow 42 = .ok (.ireturn, 1) := by decide +kernel
theorem dX9_thirdsNow_0 : decode cX9_thirdsNow 0 = .ok (.aload_n 0, 1) := by decide +kernel
theorem dX9_thirdsNow_1 : decode cX9_thirdsNow 1 = .ok (.invokevirtual 81, 3) := by decide +kernel
theorem dX9_thirdsNow_4 : decode cX9_thirdsNow 4 = .ok (.istore_n 1, 1) := by decide +kernel
theorem dX9_thirdsNow_5 : decode cX9_thirdsNow 5 = .ok (.iconst 0, 1) := by decide +kernel
theorem dX9_thirdsNow_6 : decode cX9_thirdsNow 6 = .ok (.istore_n 2, 1) := by decide +kernel
theorem dX9_thirdsNow_7 : decode cX9_thirdsNow 7 = .ok (.iconst 0, 1) := by decide +kernel
theorem dX9_thirdsNow_8 : decode cX9_thirdsNow 8 = .ok (.istore_n 3, 1) := by decide +kernel
theorem dX9_thirdsNow_9 : decode cX9_thirdsNow 9 = .ok (.iload_n 3, 1) := by decide +kernel
theorem dX9_thirdsNow_10 : decode cX9_thirdsNow 10 = .ok (.bipush 7, 2) := by decide +kernel
theorem dX9_thirdsNow_12 : decode cX9_thirdsNow 12 = .ok (.if_icmp .ge 49, 3) := by decide +kernel
theorem dX9_thirdsNow_15 : decode cX9_thirdsNow 15 = .ok (.iconst 1, 1) := by decide +kernel
theorem dX9_thirdsNow_16 : decode cX9_thirdsNow 16 = .ok (.iload_n 3, 1) := by decide +kernel
theorem dX9_thirdsNow_17 : decode cX9_thirdsNow 17 = .ok (.ishl, 1) := by decide +kernel
theorem dX9_thirdsNow_18 : decode cX9_thirdsNow 18 = .ok (.iconst 1, 1) := by decide +kernel
theorem dX9_thirdsNow_19 : decode cX9_thirdsNow 19 = .ok (.iload_n 3, 1) := by decide +kernel
theorem dX9_thirdsNow_20 : decode cX9_thirdsNow 20 = .ok (.iconst 2, 1) := by decide +kernel
theorem dX9_thirdsNow_21 : decode cX9_thirdsNow 21 = .ok (.iadd, 1) := by decide +kernel
theorem dX9_thirdsNow_22 : decode cX9_thirdsNow 22 = .ok (.bipush 7, 2) := by decide +kernel
theorem dX9_thirdsNow_24 : decode cX9_thirdsNow 24 = .ok (.irem, 1) := by decide +kernel
theorem dX9_thirdsNow_25 : decode cX9_thirdsNow 25 = .ok (.ishl, 1) := by decide +kernel
theorem dX9_thirdsNow_26 : decode cX9_thirdsNow 26 = .ok (.ior, 1) := by decide +kernel
theorem dX9_thirdsNow_27 : decode cX9_thirdsNow 27 = .ok (.iconst 1, 1) := by decide +kernel
theorem dX9_thirdsNow_28 : decode cX9_thirdsNow 28 = .ok (.iload_n 3, 1) := by decide +kernel
theorem dX9_thirdsNow_29 : decode cX9_thirdsNow 29 = .ok (.iconst 4, 1) := by decide +kernel
theorem dX9_thirdsNow_30 : decode cX9_thirdsNow 30 = .ok (.iadd, 1) := by decide +kernel
theorem dX9_thirdsNow_31 : decode cX9_thirdsNow 31 = .ok (.bipush 7, 2) := by decide +kernel
theorem dX9_thirdsNow_33 : decode cX9_thirdsNow 33 = .ok (.irem, 1) := by decide +kernel
theorem dX9_thirdsNow_34 : decode cX9_thirdsNow 34 = .ok (.ishl, 1) := by decide +kernel
theorem dX9_thirdsNow_35 : decode cX9_thirdsNow 35 = .ok (.ior, 1) := by decide +kernel
theorem dX9_thirdsNow_36 : decode cX9_thirdsNow 36 = .ok (.istore 4, 2) := by decide +kernel
theorem dX9_thirdsNow_38 : decode cX9_thirdsNow 38 = .ok (.iload_n 2, 1) := by decide +kernel
theorem dX9_thirdsNow_39 : decode cX9_thirdsNow 39 = .ok (.iload_n 1, 1) := by decide +kernel
theorem dX9_thirdsNow_40 : decode cX9_thirdsNow 40 = .ok (.iload 4, 2) := by decide +kernel
theorem dX9_thirdsNow_42 : decode cX9_thirdsNow 42 = .ok (.iand, 1) := by decide +kernel
theorem dX9_thirdsNow_43 : decode cX9_thirdsNow 43 = .ok (.iload 4, 2) := by decide +kernel
theorem dX9_thirdsNow_45 : decode cX9_thirdsNow 45 = .ok (.if_icmp .ne 7, 3) := by decide +kernel
theorem dX9_thirdsNow_52 : decode cX9_thirdsNow 52 = .ok (.iconst 0, 1) := by decide +kernel
theorem dX9_thirdsNow_53 : decode cX9_thirdsNow 53 = .ok (.iadd, 1) := by decide +kernel
theorem dX9_thirdsNow_54 : decode cX9_thirdsNow 54 = .ok (.istore_n 2, 1) := by decide +kernel
theorem dX9_thirdsNow_55 : decode cX9_thirdsNow 55 = .ok (.iinc 3 1, 3) := by decide +kernel
theorem dX9_thirdsNow_58 : decode cX9_thirdsNow 58 = .ok (.goto (-49), 3) := by decide +kernel
theorem dX9_thirdsNow_61 : decode cX9_thirdsNow 61 = .ok (.iload_n 2, 1) := by decide +kernel
theorem dX9_thirdsNow_62 : decode cX9_thirdsNow 62 = .ok (.ireturn, 1) := by decide +kernel
set_option maxRecDepth 20000 in
theorem ggX11_house_X11_within : GoodIn wsX11_house wsX11_within := goodIn_r _ [6] (by decide +kernel) (by decide +kernel)
set_option maxRecDepth 20000 in
theorem gX11_house_X11_within : GoodIn wsX11_house (va_wsS RX11 97 yX11_within wsX11_within) := goodIn_app (goodIn_of _ (by decide +kernel)) ggX11_house_X11_within
set_option maxRecDepth 20000 in
theorem ggX11_house_X9_dinerOf : GoodIn wsX11_house wsX9_dinerOf := goodIn_r _ [16, 17, 18, 19, 20, 14, 21, 22, 56, 57, 58, 59, 60, 61, 62, 63, 64, 65] (by decide +kernel) (by decide +kernel)
set_option maxRecDepth 20000 in
theorem gX11_house_X9_dinerOf_n105 : GoodIn wsX11_house (wsX9_dinerOf) := ggX11_house_X9_dinerOf
set_option maxRecDepth 20000 in
theorem ggX11_house_X2_clear : GoodIn wsX11_house wsX2_clear := goodIn_r _ [26, 27, 66, 67, 68] (by decide +kernel) (by decide +kernel)
set_option maxRecDepth 20000 in
theorem gX11_house_X2_clear_n111 : GoodIn wsX11_house (wsX2_clear) := ggX11_house_X2_clear
set_option maxRecDepth 20000 in
theorem ggX11_house_X9_build : GoodIn wsX11_house wsX9_build := goodIn_r _ [30, 17, 31, 32, 33, 14, 34, 22, 4, 5, 6, 56, 57, 58, 59, 60, 61, 62, 63, 64, 65] (by decide +kernel) (by decide +kernel)
set_option maxRecDepth 20000 in
theorem gX11_house_X9_build_n114 : GoodIn wsX11_house (wsX9_build) := ggX11_house_X9_build
set_option maxRecDepth 20000 in
theorem ggX11_house_X11_accept : GoodIn wsX11_house wsX11_accept := goodIn_r _ [38, 12, 39, 40, 41, 42, 43, 44, 45, 46, 47, 48, 49, 50, 51, 52, 53, 54, 55] (by decide +kernel) (by decide +kernel)
set_option maxRecDepth 20000 in
theorem gX11_house_X11_accept : GoodIn wsX11_house (wsV RX11 118 RX11 yX11_accept wsX11_accept) := goodIn_app (goodIn_of _ (by decide +kernel)) ggX11_house_X11_accept
set_option maxRecDepth 20000 in
theorem ggX11_house_X11_refuse : GoodIn wsX11_house wsX11_refuse := goodIn_r _ [10, 11, 12, 3, 4, 5, 6, 39, 40, 41, 42, 43, 44, 45, 46, 47, 48, 49, 50, 51, 52, 53, 54, 55] (by decide +kernel) (by decide +kernel)
set_option maxRecDepth 20000 in
theorem gX11_house_X11_refuse : GoodIn wsX11_house (wsV RX11 101 RX11 yX11_refuse wsX11_refuse) := goodIn_app (goodIn_of _ (by decide +kernel)) ggX11_house_X11_refuse
set_option maxRecDepth 20000 in
theorem ggX11_feed_X8_take : GoodIn wsX11_feed wsX8_take := goodIn_r _ [5, 6, 7, 25, 26, 27, 28, 29, 30] (by decide +kernel) (by decide +kernel)
set_option maxRecDepth 20000 in
theorem gX11_feed_X8_take_n166 : GoodIn wsX11_feed (wsX8_take) := ggX11_feed_X8_take
set_option maxRecDepth 20000 in
theorem ggX11_end_X11_within : GoodIn wsX11_end wsX11_within := goodIn_r _ [5] (by decide +kernel) (by decide +kernel)
set_option maxRecDepth 20000 in
theorem gX11_end_X11_within : GoodIn wsX11_end (va_wsS RX11 97 yX11_within wsX11_within) := goodIn_app (goodIn_of _ (by decide +kernel)) ggX11_end_X11_within
set_option maxRecDepth 20000 in
theorem ggX11_row_X11_refuse : GoodIn wsX11_row wsX11_refuse := goodIn_r _ [8, 9, 10, 11, 12, 7, 13, 24, 25, 26, 27, 28, 29, 30, 31, 32, 33, 34, 35, 36, 37, 38, 39, 40] (by decide +kernel) (by decide +kernel)
set_option maxRecDepth 20000 in
theorem gX11_row_X11_refuse : GoodIn wsX11_row (wsV RX11 101 RX11 yX11_refuse wsX11_refuse) := goodIn_app (goodIn_of _ (by decide +kernel)) ggX11_row_X11_refuse
set_option maxRecDepth 20000 in
theorem ggX11_force_X11_accept : GoodIn wsX11_force wsX11_accept := goodIn_r _ [15, 11, 16, 17, 18, 19, 20, 21, 22, 23, 24, 25, 26, 27, 28, 29, 30, 31, 32] (by decide +kernel) (by decide +kernel)
set_option maxRecDepth 20000 in
theorem gX11_force_X11_accept : GoodIn wsX11_force (wsV RX11 118 RX11 yX11_accept wsX11_accept) := goodIn_app (goodIn_of _ (by decide +kernel)) ggX11_force_X11_accept
set_option maxRecDepth 20000 in
theorem ggX11_force_X11_within : GoodIn wsX11_force wsX11_within := goodIn_r _ [5] (by decide +kernel) (by decide +kernel)
set_option maxRecDepth 20000 in
theorem gX11_force_X11_within : GoodIn wsX11_force (va_wsS RX11 97 yX11_within wsX11_within) := goodIn_app (goodIn_of _ (by decide +kernel)) ggX11_force_X11_within
set_option maxRecDepth 20000 in
theorem ggX11_force_X11_refuse : GoodIn wsX11_force wsX11_refuse := goodIn_r _ [9, 10, 11, 2, 3, 4, 5, 16, 17, 18, 19, 20, 21, 22, 23, 24, 25, 26, 27, 28, 29, 30, 31, 32] (by decide +kernel) (by decide +kernel)
set_option maxRecDepth 20000 in
theorem gX11_force_X11_refuse : GoodIn wsX11_force (wsV RX11 101 RX11 yX11_refuse wsX11_refuse) := goodIn_app (goodIn_of _ (by decide +kernel)) ggX11_force_X11_refuse
set_option maxRecDepth 20000 in
theorem ggX11_discord_X10_discords : GoodIn wsX11_discord wsX10_discords := goodIn_r _ [6, 7, 8, 9, 10, 11, 12, 13, 14, 15, 16, 17, 18, 19, 20, 21, 22, 23, 24, 25, 26, 27, 28, 29, 30, 31, 32, 33, 34, 35, 36, 37, 38, 39, 40, 41, 42, 43, 44, 45, 46, 47, 48, 49, 50, 51, 52, 53, 54, 55, 56, 57, 58, 59, 60, 61, 62, 63, 64, 65, 66, 67, 68, 69, 70, 71, 72, 73, 74, 75, 76, 77, 95, 96, 97, 98, 99, 100, 101, 102, 103, 104, 105, 106, 107, 108, 109, 110, 111, 112, 113] (by decide +kernel) (by decide +kernel)
set_option maxRecDepth 20000 in
theorem gX11_discord_X10_discords_n206 : GoodIn wsX11_discord (wsX10_discords) := ggX11_discord_X10_discords
set_option maxRecDepth 20000 in
theorem ggX9_thirdsNow_X9_notesNow : GoodIn wsX9_thirdsNow wsX9_notesNow := goodIn_r _ [5, 6, 7, 8, 9, 4, 10, 11, 12, 13, 14, 15, 16, 17, 18, 19, 20, 21, 22, 23, 24, 25, 26, 27, 28, 29, 30] (by decide +kernel) (by decide +kernel)
set_option maxRecDepth 20000 in
theorem gX9_thirdsNow_X9_notesNow : GoodIn wsX9_thirdsNow (wsV RX9 81 RX9 yX9_notesNow wsX9_notesNow) := goodIn_app (goodIn_of _ (by decide +kernel)) ggX9_thirdsNow_X9_notesNow
set_option maxHeartbeats 4000000 in
set_option maxRecDepth 100000 in
theorem t_house (l : Launch) (D : va_G) (K : Nat → ClassId) (a0 : Nat) (x0 : Int32) (x1 : Int32) (x2 : Int32) (x3 : Int32) (x4 : Int32) (a2 : Nat) (g1 : Value) (g2 : Value) (g3 : Value) (g4 : Value) (g5 : Value) (g6 : Value) (g7 : Value) (g8 : Value) (a3 : Nat) (g10 : Value) (g11 : Value) (a1 : Nat) (g13 : Value) (g14 : Value) (g15 : Value) (g16 : Value) (f : Nat → Int32) (a4 : Nat) (k1 : Value) (k2 : Value) (k3 : Value) (k5 : Value) (k6 : Value) (k7 : Value) (k8 : Value) (k9 : Value) (p0 : Value) (p1 : Value) (p2 : Value) (sz : Nat) : Met l yX11_house wsX11_house ({ frames := 3, cells := 0, slots := 0, locals := 71 }) (va_Pc [.ref a0, .int x0, .int x1, .int x2, .int x3, .int x4] (Pre D K [(a0, .inr (11, [.ref a2, g1, g2, g3, g4, g5, g6, g7, g8, .ref a3, g10, g11, .ref a1, g13, g14, g15, g16])), (a1, .inl (K 0, 5, .inl f)), (a2, .inr (9, [.ref a4, k1, k2, k3, .int 0, k5, k6, k7, k8, k9])), (a3, .inr (2, [p0, p1, p2])), (a4, .inl (K 0, 56, .inl (fun _ => 0)))] sz)) (va_Qi (S := Unit) (fun (r : Int32) (_ : Unit) => (r = 0 ∧ 0 ≤ x0.toInt ∧ x0.toInt ≤ 6 ∧ 0 ≤ x1.toInt ∧ x1.toInt ≤ 3 ∧ 0 ≤ x2.toInt ∧ x2.toInt ≤ 999 ∧ 0 ≤ x3.toInt ∧ x3.toInt ≤ 7 ∧ 0 ≤ x4.toInt ∧ x4.toInt ≤ 7) ∨ (r = (-1) ∧ (x0.toInt < 0 ∨ 6 < x0.toInt ∨ x1.toInt < 0 ∨ 3 < x1.toInt ∨ x2.toInt < 0 ∨ 999 < x2.toInt ∨ x3.toInt < 0 ∨ 7 < x3.toInt ∨ x4.toInt < 0 ∨ 7 < x4.toInt))) (fun u t => Wd D (va_A [(a0, .inr (11, [.ref a2, g1, g2, g3, g4, g5, g6, g7, g8, .ref a3, g10, g11, .ref a1, g13, g14, g15, g16])), (a1, .inl (K 0, 5, .inl f)), (a2, .inr (9, [.ref a4, k1, k2, k3, .int 0, k5, k6, k7, k8, k9])), (a3, .inr (2, [p0, p1, p2])), (a4, .inl (K 0, 56, .inl (fun _ => 0)))] sz) ((fun _ => []) u) t) (va_A [(a0, .inr (11, [.ref a2, g1, g2, g3, g4, g5, g6, g7, g8, .ref a3, g10, g11, .ref a1, g13, g14, g15, g16])), (a1, .inl (K 0, 5, .inl f)), (a2, .inr (9, [.ref a4, k1, k2, k3, .int 0, k5, k6, k7, k8, k9])), (a3, .inr (2, [p0, p1, p2])), (a4, .inl (K 0, 56, .inl (fun _ => 0)))] sz)) 0 0 (va_A [(a0, .inr (11, [.ref a2, g1, g2, g3, g4, g5, g6, g7, g8, .ref a3, g10, g11, .ref a1, g13, g14, g15, g16])), (a1, .inl (K 0, 5, .inl f)), (a2, .inr (9, [.ref a4, k1, k2, k3, .int 0, k5, k6, k7, k8, k9])), (a3, .inr (2, [p0, p1, p2])), (a4, .inl (K 0, 56, .inl (fun _ => 0)))] sz) := by
  refine Met.ofW (cc := cX11_house) (maxL := 8) (ret := (some .int)) (by decide) rfl ?_
  intro p e s m args below meth c s₁ B hml hv
  obtain ⟨rfl, hsz, hP, hK, hD0, hN⟩ := hv
  have hx := B.exec
  have hb := B.bytes
  have hr := B.returns
  have hts := atoms_spec (ws := wsX11_house) B.pre
  have hown : s.vm.findClass RX11 = some m.cls := findClass_of_methodNamed B.named
  have hlocks := B.notSynchronized
  subst hsz
  have hD := hD0.self (sz := s.heap.size)
  generalize hAe : va_A [(a0, .inr (11, [.ref a2, g1, g2, g3, g4, g5, g6, g7, g8, .ref a3, g10, g11, .ref a1, g13, g14, g15, g16])), (a1, .inl (K 0, 5, .inl f)), (a2, .inr (9, [.ref a4, k1, k2, k3, .int 0, k5, k6, k7, k8, k9])), (a3, .inr (2, [p0, p1, p2])), (a4, .inl (K 0, 56, .inl (fun _ => 0)))] s.heap.size = A at hD ⊢
  have hA : ∀ q : Nat, s.heap.size ≤ q → A q := fun q h => by rw [← hAe]; exact Or.inr h
  have hS : va_S A s.heap s.heap [] := va_S.rf
  have hP : va_P D vwCl [(a0, .inr (11, [.ref a2, g1, g2, g3, g4, g5, g6, g7, g8, .ref a3, g10, g11, .ref a1, g13, g14, g15, g16])), (a1, .inl (K 0, 5, .inl f)), (a2, .inr (9, [.ref a4, k1, k2, k3, .int 0, k5, k6, k7, k8, k9])), (a3, .inr (2, [p0, p1, p2])), (a4, .inl (K 0, 56, .inl (fun _ => 0)))] s.heap := hP
  have hl := lv_entry [.ref a0, .int x0, .int x1, .int x2, .int x3, .int x4] (n := 8) (Nat.le_of_ble_eq_true rfl)
  rw [lg_entry_eq]
  generalize (lg_sl [.ref a0, .int x0, .int x1, .int x2, .int x3, .int x4] ++ List.replicate (8 - (lg_sl [.ref a0, .int x0, .int x1, .int x2, .int x3, .int x4]).length) Slot.unset).toArray = ls at hl ⊢
  have hl : lv_has ls 8 [(0, .ref a0), (1, .int x0), (2, .int x1), (3, .int x2), (4, .int x3), (5, .int x4)] := hl
  have hw2 : ∀ w ∈ wsX20, w ∈ wsX11_house := fun w h => (List.mem_cons_of_mem _ (List.mem_append_right _ h))
  have hw9 : ∀ w ∈ wsX90, w ∈ wsX11_house := fun w h => (List.mem_cons_of_mem _ (List.mem_append_left _ (List.mem_append_right _ h)))
  have hw11 : ∀ w ∈ wsX110, w ∈ wsX11_house := fun w h => (List.mem_cons_of_mem _ (List.mem_append_left _ (List.mem_append_left _ (List.mem_append_right _ h))))
  refine lv_iload_n hx hb dX11_house_0 rfl (lv_at hl 1 rfl) ?_
  refine lv_iconst (v := 0) hx hb dX11_house_1 (by decide) ?_
  refine lv_bipush (v := 6) hx hb dX11_house_2 (by decide) ?_
  refine pci (va_runS (As := [.int x0, .int 0, .int 6]) (rest := []) ⟨hx, hb, hml, hown, hts⟩ (c_within l D K x0 0 6 x0.toInt 0 6 s.heap.size rfl rfl rfl) (va_cwS 3 hts gX11_house_X11_within rfl rfl rfl (by decide +kernel) ⟨Nat.le_of_ble_eq_true rfl, Nat.le_of_ble_eq_true rfl⟩) (mkS hK hN (hP.sub [] rfl) (hD.sub [] (by decide) rfl)) rfl rfl hl.1 rfl (lv_room (Nat.le_of_ble_eq_true rfl)) dX11_house_4 ⟨Nat.le_of_ble_eq_true rfl, Nat.le_of_ble_eq_true rfl⟩) (fun r_1 hw => ?_)
  rcases hw with ⟨rfl, h_2, h_3⟩ | ⟨rfl, h_4⟩
  · refine lv_if_eq (tgt := 23) hx hb dX11_house_7 (by decide) (fun c_5 => absurd c_5 (by decide)) (fun c_5 => ?_)
    refine lv_iload_n hx hb dX11_house_10 rfl (lv_at hl 2 rfl) ?_
    refine lv_iconst (v := 0) hx hb dX11_house_11 (by decide) ?_
    refine lv_iconst (v := 3) hx hb dX11_house_12 (by decide) ?_
    refine pci (va_runS (As := [.int x1, .int 0, .int 3]) (rest := []) ⟨hx, hb, hml, hown, hts⟩ (c_within l D K x1 0 3 x1.toInt 0 3 s.heap.size rfl rfl rfl) (va_cwS 3 hts gX11_house_X11_within rfl rfl rfl (by decide +kernel) ⟨Nat.le_of_ble_eq_true rfl, Nat.le_of_ble_eq_true rfl⟩) (mkS hK hN (hP.sub [] rfl) (hD.sub [] (by decide) rfl)) rfl rfl hl.1 rfl (lv_room (Nat.le_of_ble_eq_true rfl)) dX11_house_13 ⟨Nat.le_of_ble_eq_true rfl, Nat.le_of_ble_eq_true rfl⟩) (fun r_6 hw => ?_)
    rcases hw with ⟨rfl, h_7, h_8⟩ | ⟨rfl, h_9⟩
    · refine lv_if_eq (tgt := 23) hx hb dX11_house_16 (by decide) (fun c_10 => absurd c_10 (by decide)) (fun c_10 => ?_)
      refine lv_iconst (v := 1) hx hb dX11_house_19 (by decide) ?_
      refine lv_goto (tgt := 24) hx hb dX11_house_20 (by decide) ?_
      refine lv_istore (lv' := [(6, .int 1), (0, .ref a0), (1, .int x0), (2, .int x1), (3, .int x2), (4, .int x3), (5, .int x4)]) hx hb dX11_house_24 hl (by decide) rfl (fun ls hl => ?_)
      refine lv_iload hx hb dX11_house_26 (lv_at hl 5 rfl) ?_
      refine lv_iconst (v := 0) hx hb dX11_house_28 (by decide) ?_
      refine lv_bipush (v := 7) hx hb dX11_house_29 (by decide) ?_
      refine pci (va_runS (As := [.int x3, .int 0, .int 7]) (rest := []) ⟨hx, hb, hml, hown, hts⟩ (c_within l D K x3 0 7 x3.toInt 0 7 s.heap.size rfl rfl rfl) (va_cwS 3 hts gX11_house_X11_within rfl rfl rfl (by decide +kernel) ⟨Nat.le_of_ble_eq_true rfl, Nat.le_of_ble_eq_true rfl⟩) (mkS hK hN (hP.sub [] rfl) (hD.sub [] (by decide) rfl)) rfl rfl hl.1 rfl (lv_room (Nat.le_of_ble_eq_true rfl)) dX11_house_31 ⟨Nat.le_of_ble_eq_true rfl, Nat.le_of_ble_eq_true rfl⟩) (fun r_11 hw => ?_)
      rcases hw with ⟨rfl, h_12, h_13⟩ | ⟨rfl, h_14⟩
      · refine lv_if_eq (tgt := 52) hx hb dX11_house_34 (by decide) (fun c_15 => absurd c_15 (by decide)) (fun c_15 => ?_)
        refine lv_iload hx hb dX11_house_37 (lv_at hl 6 rfl) ?_
        refine lv_iconst (v := 0) hx hb dX11_house_39 (by decide) ?_
        refine lv_bipush (v := 7) hx hb dX11_house_40 (by decide) ?_
        refine pci (va_runS (As := [.int x4, .int 0, .int 7]) (rest := []) ⟨hx, hb, hml, hown, hts⟩ (c_within l D K x4 0 7 x4.toInt 0 7 s.heap.size rfl rfl rfl) (va_cwS 3 hts gX11_house_X11_within rfl rfl rfl (by decide +kernel) ⟨Nat.le_of_ble_eq_true rfl, Nat.le_of_ble_eq_true rfl⟩) (mkS hK hN (hP.sub [] rfl) (hD.sub [] (by decide) rfl)) rfl rfl hl.1 rfl (lv_room (Nat.le_of_ble_eq_true rfl)) dX11_house_42 ⟨Nat.le_of_ble_eq_true rfl, Nat.le_of_ble_eq_true rfl⟩) (fun r_16 hw => ?_)
        rcases hw with ⟨rfl, h_17, h_18⟩ | ⟨rfl, h_19⟩
        · refine lv_if_eq (tgt := 52) hx hb dX11_house_45 (by decide) (fun c_20 => absurd c_20 (by decide)) (fun c_20 => ?_)
          refine lv_iconst (v := 1) hx hb dX11_house_48 (by decide) ?_
          refine lv_goto (tgt := 53) hx hb dX11_house_49 (by decide) ?_
          refine lv_istore (lv' := [(7, .int 1), (6, .int 1), (0, .ref a0), (1, .int x0), (2, .int x1), (3, .int x2), (4, .int x3), (5, .int x4)]) hx hb dX11_house_53 hl (by decide) rfl (fun ls hl => ?_)
          refine lv_iload hx hb dX11_house_55 (lv_at hl 1 rfl) ?_
          refine lv_if_eq (tgt := 76) hx hb dX11_house_57 (by decide) (fun c_21 => absurd c_21 (by decide)) (fun c_21 => ?_)
          refine lv_iload hx hb dX11_house_60 (lv_at hl 0 rfl) ?_
          refine lv_if_eq (tgt := 76) hx hb dX11_house_62 (by decide) (fun c_22 => absurd c_22 (by decide)) (fun c_22 => ?_)
          refine lv_iload_n hx hb dX11_house_65 rfl (lv_at hl 5 rfl) ?_
          refine lv_iconst (v := 0) hx hb dX11_house_66 (by decide) ?_
          refine lv_sipush (v := 999) hx hb dX11_house_67 (by decide) ?_
          refine pci (va_runS (As := [.int x2, .int 0, .int 999]) (rest := []) ⟨hx, hb, hml, hown, hts⟩ (c_within l D K x2 0 999 x2.toInt 0 999 s.heap.size rfl rfl rfl) (va_cwS 3 hts gX11_house_X11_within rfl rfl rfl (by decide +kernel) ⟨Nat.le_of_ble_eq_true rfl, Nat.le_of_ble_eq_true rfl⟩) (mkS hK hN (hP.sub [] rfl) (hD.sub [] (by decide) rfl)) rfl rfl hl.1 rfl (lv_room (Nat.le_of_ble_eq_true rfl)) dX11_house_70 ⟨Nat.le_of_ble_eq_true rfl, Nat.le_of_ble_eq_true rfl⟩) (fun r_23 hw => ?_)
          rcases hw with ⟨rfl, h_24, h_25⟩ | ⟨rfl, h_26⟩
          · refine lv_if_ne (tgt := 82) hx hb dX11_house_73 (by decide) (fun c_27 => ?_) (fun c_27 => absurd c_27 (by decide))
            refine lv_aload_n hx hb dX11_house_82 rfl (lv_at hl 2 rfl) ?_
            refine va_get (ci := 11) (v := .ref a2) (C := RX11) (T := TX11) (N := 17) hx hb hts hw11 hown hK hP 0 rfl rfl 0 (by decide) (hts (.fieldLink RX11 10 "SmokeTune" "town" "LSmokeTune$Town;") (List.mem_cons_of_mem _ (List.mem_append_left _ (List.mem_append_left _ (List.mem_append_left _ (List.mem_append_left _ (List.mem_of_getElem? (i := 0) rfl))))))) (fun _ h9 => h9) rfl dX11_house_83 ?_
            refine lv_iload hx hb dX11_house_86 (lv_at hl 6 rfl) ?_
            refine pci (va_runVN (As := [.int x3]) (rest := []) ⟨hx, hb, hml, hown, hts⟩ (c_dinerOf l D K a2 x3 (.ref a4) k1 k2 k3 k5 k6 k7 k8 k9 s.heap.size) ⟨va_cnB 1 hts gX11_house_X9_dinerOf_n105 rfl rfl rfl (nst_at hN 15 rfl) (hts (.initialized RX9) (List.mem_cons_of_mem _ (List.mem_append_left _ (List.mem_append_left _ (List.mem_append_left _ (List.mem_append_left _ (List.mem_of_getElem? (i := 13) rfl))))))) (by decide +kernel) ⟨Nat.le_of_ble_eq_true rfl, Nat.le_of_ble_eq_true rfl⟩, (hts (.instanceMethod yX9_dinerOf) (List.mem_cons_of_mem _ (List.mem_append_left _ (List.mem_append_left _ (List.mem_append_left _ (List.mem_append_left _ (List.mem_of_getElem? (i := 12) rfl))))))), (hts (.selects RX9 yX9_dinerOf yX9_dinerOf) (List.mem_cons_of_mem _ (List.mem_append_left _ (List.mem_append_left _ (List.mem_append_left _ (List.mem_append_left _ (List.mem_of_getElem? (i := 14) rfl)))))))⟩ (mkV hK hN (hP.sub [2] rfl) (hD.sub [2] (by decide) rfl) (ci := 9) (q0 := 0) rfl rfl) rfl rfl hl.1 rfl (lv_room (Nat.le_of_ble_eq_true rfl)) dX11_house_88 ⟨Nat.le_of_ble_eq_true rfl, Nat.le_of_ble_eq_true rfl⟩) (fun r_28 hw => ?_)
            obtain rfl : r_28 = (-1) := hw
            refine lv_iconst (v := (-1)) hx hb dX11_house_91 (by decide) ?_
            refine lv_icmp_eq (tgt := 102) hx hb dX11_house_92 (by decide) (fun c_29 => ?_) (fun c_29 => absurd (by decide) c_29)
            refine lv_aload_n hx hb dX11_house_102 rfl (lv_at hl 2 rfl) ?_
            refine va_get (ci := 11) (v := .ref a2) (C := RX11) (T := TX11) (N := 17) hx hb hts hw11 hown hK hP 0 rfl rfl 0 (by decide) (hts (.fieldLink RX11 10 "SmokeTune" "town" "LSmokeTune$Town;") (List.mem_cons_of_mem _ (List.mem_append_left _ (List.mem_append_left _ (List.mem_append_left _ (List.mem_append_left _ (List.mem_of_getElem? (i := 0) rfl))))))) (fun _ h9 => h9) rfl dX11_house_103 ?_
            refine va_getN (ci := 9) (v := .int 0) (C := RX9) (T := TX9) (N := 10) hx hb hts hw9 hown hK hP 2 rfl rfl 4 (by decide) (nst_use hN 107 rfl) (fun _ h9 => h9) rfl dX11_house_106 ?_
            refine lv_bipush (v := 8) hx hb dX11_house_109 (by decide) ?_
            refine lv_icmp_lt (tgt := 121) hx hb dX11_house_111 (by decide) (fun c_30 => ?_) (fun c_30 => absurd (by decide) c_30)
            refine lv_aload_n hx hb dX11_house_121 rfl (lv_at hl 2 rfl) ?_
            refine va_get (ci := 11) (v := .ref a3) (C := RX11) (T := TX11) (N := 17) hx hb hts hw11 hown hK hP 0 rfl rfl 9 (by decide) (hts (.fieldLink RX11 61 "SmokeTune" "history" "LSmokeTune$History;") (List.mem_cons_of_mem _ (List.mem_append_left _ (List.mem_append_left _ (List.mem_append_left _ (List.mem_append_left _ (List.mem_of_getElem? (i := 1) rfl))))))) (fun _ h9 => h9) rfl dX11_house_122 ?_
            refine kcv (wr := [(a0, .inr (11, [.ref a2, g1, g2, g3, g4, g5, g6, g7, g8, .ref a3, g10, g11, .ref a1, g13, g14, g15, g16])), (a1, .inl (K 0, 5, .inl f)), (a2, .inr (9, [.ref a4, k1, k2, k3, .int 0, k5, k6, k7, k8, k9])), (a4, .inl (K 0, 56, .inl (fun _ => 0)))]) (va_runVN (As := []) (rest := []) ⟨hx, hb, hml, hown, hts⟩ (c_clear l D K a3 p0 p1 p2 s.heap.size) ⟨va_cnB 0 hts gX11_house_X2_clear_n111 rfl rfl rfl (nst_at hN 16 rfl) (hts (.initialized RX2) (List.mem_cons_of_mem _ (List.mem_append_left _ (List.mem_append_left _ (List.mem_append_left _ (List.mem_append_left _ (List.mem_of_getElem? (i := 23) rfl))))))) (by decide +kernel) ⟨Nat.le_of_ble_eq_true rfl, Nat.le_of_ble_eq_true rfl⟩, (hts (.instanceMethod yX2_clear) (List.mem_cons_of_mem _ (List.mem_append_left _ (List.mem_append_left _ (List.mem_append_left _ (List.mem_append_left _ (List.mem_of_getElem? (i := 22) rfl))))))), (hts (.selects RX2 yX2_clear yX2_clear) (List.mem_cons_of_mem _ (List.mem_append_left _ (List.mem_append_left _ (List.mem_append_left _ (List.mem_append_right _ (List.mem_of_getElem? (i := 0) rfl)))))))⟩ (mkV hK hN (hP.sub [3] rfl) (hD.sub [3] (by decide) rfl) (ci := 2) (q0 := 0) rfl rfl) rfl rfl hl.1 rfl (lv_room (Nat.le_of_ble_eq_true rfl)) dX11_house_125 ⟨Nat.le_of_ble_eq_true rfl, Nat.le_of_ble_eq_true rfl⟩) hP hD hS hA [3] [0, 1, 2, 4] rfl rfl (by decide) (by decide) (fun u_32 H locs hw hP hD hS => ?_)
            have hP : va_P D vwCl [(a0, .inr (11, [.ref a2, g1, g2, g3, g4, g5, g6, g7, g8, .ref a3, g10, g11, .ref a1, g13, g14, g15, g16])), (a1, .inl (K 0, 5, .inl f)), (a2, .inr (9, [.ref a4, k1, k2, k3, .int 0, k5, k6, k7, k8, k9])), (a4, .inl (K 0, 56, .inl (fun _ => 0)))] H := hP
            have hD : va_D A [(a0, .inr (11, [.ref a2, g1, g2, g3, g4, g5, g6, g7, g8, .ref a3, g10, g11, .ref a1, g13, g14, g15, g16])), (a1, .inl (K 0, 5, .inl f)), (a2, .inr (9, [.ref a4, k1, k2, k3, .int 0, k5, k6, k7, k8, k9])), (a4, .inl (K 0, 56, .inl (fun _ => 0)))] := hD
            refine lv_aload_n hx hb dX11_house_128 rfl (lv_at hl 2 rfl) ?_
            refine lv_aload_n hx hb dX11_house_129 rfl (lv_at hl 2 rfl) ?_
            refine va_get (ci := 11) (v := .ref a2) (C := RX11) (T := TX11) (N := 17) hx hb hts hw11 hown hK hP 0 rfl rfl 0 (by decide) (hts (.fieldLink RX11 10 "SmokeTune" "town" "LSmokeTune$Town;") (List.mem_cons_of_mem _ (List.mem_append_left _ (List.mem_append_left _ (List.mem_append_left _ (List.mem_append_left _ (List.mem_of_getElem? (i := 0) rfl))))))) (fun _ h9 => h9) rfl dX11_house_130 ?_
            refine lv_iload_n hx hb dX11_house_133 rfl (lv_at hl 3 rfl) ?_
            refine lv_iload_n hx hb dX11_house_134 rfl (lv_at hl 4 rfl) ?_
            refine lv_iload_n hx hb dX11_house_135 rfl (lv_at hl 5 rfl) ?_
            refine lv_iload hx hb dX11_house_136 (lv_at hl 6 rfl) ?_
            refine lv_iload hx hb dX11_house_138 (lv_at hl 7 rfl) ?_
            refine kci (wr := [(a0, .inr (11, [.ref a2, g1, g2, g3, g4, g5, g6, g7, g8, .ref a3, g10, g11, .ref a1, g13, g14, g15, g16])), (a1, .inl (K 0, 5, .inl f))]) (va_runVN (As := [.int x0, .int x1, .int x2, .int x3, .int x4]) (rest := [.ref a0]) ⟨hx, hb, hml, hown, hts⟩ (c_build l D K a2 x0 x1 x2 x3 x4 a4 k1 k2 k3 k5 k6 k7 k8 k9 (fun _ => 0) H.size) ⟨va_cnB 5 hts gX11_house_X9_build_n114 rfl rfl rfl (nst_at hN 17 rfl) (hts (.initialized RX9) (List.mem_cons_of_mem _ (List.mem_append_left _ (List.mem_append_left _ (List.mem_append_left _ (List.mem_append_left _ (List.mem_of_getElem? (i := 13) rfl))))))) (by decide +kernel) ⟨Nat.le_of_ble_eq_true rfl, Nat.le_of_ble_eq_true rfl⟩, (hts (.instanceMethod yX9_build) (List.mem_cons_of_mem _ (List.mem_append_left _ (List.mem_append_left _ (List.mem_append_left _ (List.mem_append_right _ (List.mem_of_getElem? (i := 3) rfl))))))), (hts (.selects RX9 yX9_build yX9_build) (List.mem_cons_of_mem _ (List.mem_append_left _ (List.mem_append_left _ (List.mem_append_left _ (List.mem_append_right _ (List.mem_of_getElem? (i := 4) rfl)))))))⟩ (mkV hK hN (hP.sub [2, 3] rfl) (hD.sub [2, 3] (by decide) rfl) (ci := 9) (q0 := 0) rfl rfl) rfl rfl hl.1 rfl (lv_room (Nat.le_of_ble_eq_true rfl)) dX11_house_140 ⟨Nat.le_of_ble_eq_true rfl, Nat.le_of_ble_eq_true rfl⟩) hP hD hS hA [2, 3] [0, 1] rfl rfl (by decide) (by decide) (fun r_33 u_34 H locs hw hP hD hS => ?_)
            have hP : va_P D vwCl [(a0, .inr (11, [.ref a2, g1, g2, g3, g4, g5, g6, g7, g8, .ref a3, g10, g11, .ref a1, g13, g14, g15, g16])), (a1, .inl (K 0, 5, .inl f))] H := hP
            have hD : va_D A [(a0, .inr (11, [.ref a2, g1, g2, g3, g4, g5, g6, g7, g8, .ref a3, g10, g11, .ref a1, g13, g14, g15, g16])), (a1, .inl (K 0, 5, .inl f))] := hD
            obtain rfl : r_33 = 0 := hw
            refine kci (wr := [(a1, .inl (K 0, 5, .inl f))]) (va_runV (As := [.int 0]) (rest := []) ⟨hx, hb, hml, hown, hts⟩ (c_accept l D K a0 0 (.ref a2) g1 g2 g3 g4 g5 g6 g7 g8 (.ref a3) g10 g11 (.ref a1) g13 g14 g15 g16 H.size) (cwV 1 hts gX11_house_X11_accept rfl rfl rfl (by decide +kernel) ⟨Nat.le_of_ble_eq_true rfl, Nat.le_of_ble_eq_true rfl⟩) (mkV hK hN (hP.sub [0] rfl) (hD.sub [0] (by decide) rfl) (ci := 11) (q0 := 0) rfl rfl) rfl rfl hl.1 rfl (lv_room (Nat.le_of_ble_eq_true rfl)) dX11_house_143 ⟨Nat.le_of_ble_eq_true rfl, Nat.le_of_ble_eq_true rfl⟩) hP hD hS hA [0] [1] rfl rfl (by decide) (by decide) (fun r_35 u_36 H locs hw hP hD hS => ?_)
            have hP : va_P D vwCl [(a1, .inl (K 0, 5, .inl f))] H := hP
            have hD : va_D A [(a1, .inl (K 0, 5, .inl f))] := hD
            obtain rfl : r_35 = 0 := hw
            exact W.iret (v := 0) hx hb hr (fun t ht hW => ⟨⟨0, (), rfl, (by first | exact Or.inl (⟨rfl, by first | omega | decide | (subst_vars; assumption) | (subst_vars; symm; assumption), by first | omega | decide | (subst_vars; assumption) | (subst_vars; symm; assumption), by first | omega | decide | (subst_vars; assumption) | (subst_vars; symm; assumption), by first | omega | decide | (subst_vars; assumption) | (subst_vars; symm; assumption), by first | omega | decide | (subst_vars; assumption) | (subst_vars; symm; assumption), by first | omega | decide | (subst_vars; assumption) | (subst_vars; symm; assumption), by first | omega | decide | (subst_vars; assumption) | (subst_vars; symm; assumption), by first | omega | decide | (subst_vars; assumption) | (subst_vars; symm; assumption), by first | omega | decide | (subst_vars; assumption) | (subst_vars; symm; assumption), by first | omega | decide | (subst_vars; assumption) | (subst_vars; symm; assumption)⟩)), Wd.nil⟩, hS.F ht⟩) hS.2.2 dX11_house_146
          · refine lv_if_ne (tgt := 82) hx hb dX11_house_73 (by decide) (fun c_37 => absurd (by decide) c_37) (fun c_37 => ?_)
            refine lv_aload_n hx hb dX11_house_76 rfl (lv_at hl 2 rfl) ?_
            refine lv_iconst (v := (-1)) hx hb dX11_house_77 (by decide) ?_
            refine kci (wr := [(a2, .inr (9, [.ref a4, k1, k2, k3, .int 0, k5, k6, k7, k8, k9])), (a3, .inr (2, [p0, p1, p2])), (a4, .inl (K 0, 56, .inl (fun _ => 0)))]) (va_runV (As := [.int (-1)]) (rest := []) ⟨hx, hb, hml, hown, hts⟩ (c_refuse_1 l D K a0 (.ref a2) g1 g2 g3 g4 g5 g6 g7 g8 (.ref a3) g10 g11 a1 g13 g14 g15 g16 f s.heap.size) (cwV 1 hts gX11_house_X11_refuse rfl rfl rfl (by decide +kernel) ⟨Nat.le_of_ble_eq_true rfl, Nat.le_of_ble_eq_true rfl⟩) (mkV hK hN (hP.sub [0, 1] rfl) (hD.sub [0, 1] (by decide) rfl) (ci := 11) (q0 := 0) rfl rfl) rfl rfl hl.1 rfl (lv_room (Nat.le_of_ble_eq_true rfl)) dX11_house_78 ⟨Nat.le_of_ble_eq_true rfl, Nat.le_of_ble_eq_true rfl⟩) hP hD hS hA [0, 1] [2, 3, 4] rfl rfl (by decide) (by decide) (fun r_38 u_39 H locs hw hP hD hS => ?_)
            have hP : va_P D vwCl [(a2, .inr (9, [.ref a4, k1, k2, k3, .int 0, k5, k6, k7, k8, k9])), (a3, .inr (2, [p0, p1, p2])), (a4, .inl (K 0, 56, .inl (fun _ => 0)))] H := hP
            have hD : va_D A [(a2, .inr (9, [.ref a4, k1, k2, k3, .int 0, k5, k6, k7, k8, k9])), (a3, .inr (2, [p0, p1, p2])), (a4, .inl (K 0, 56, .inl (fun _ => 0)))] := hD
            obtain rfl : r_38 = (-1) := hw
            exact W.iret (v := (-1)) hx hb hr (fun t ht hW => ⟨⟨(-1), (), rfl, (by first | exact Or.inr (⟨rfl, by first | omega | decide | (subst_vars; assumption) | (subst_vars; symm; assumption)⟩)), Wd.nil⟩, hS.F ht⟩) hS.2.2 dX11_house_81
        · refine lv_if_eq (tgt := 52) hx hb dX11_house_45 (by decide) (fun c_40 => ?_) (fun c_40 => absurd (by decide) c_40)
          refine lv_iconst (v := 0) hx hb dX11_house_52 (by decide) ?_
          refine lv_istore (lv' := [(7, .int 0), (6, .int 1), (0, .ref a0), (1, .int x0), (2, .int x1), (3, .int x2), (4, .int x3), (5, .int x4)]) hx hb dX11_house_53 hl (by decide) rfl (fun ls hl => ?_)
          refine lv_iload hx hb dX11_house_55 (lv_at hl 1 rfl) ?_
          refine lv_if_eq (tgt := 76) hx hb dX11_house_57 (by decide) (fun c_41 => absurd c_41 (by decide)) (fun c_41 => ?_)
          refine lv_iload hx hb dX11_house_60 (lv_at hl 0 rfl) ?_
          refine lv_if_eq (tgt := 76) hx hb dX11_house_62 (by decide) (fun c_42 => ?_) (fun c_42 => absurd (by decide) c_42)
          refine lv_aload_n hx hb dX11_house_76 rfl (lv_at hl 2 rfl) ?_
          refine lv_iconst (v := (-1)) hx hb dX11_house_77 (by decide) ?_
          refine kci (wr := [(a2, .inr (9, [.ref a4, k1, k2, k3, .int 0, k5, k6, k7, k8, k9])), (a3, .inr (2, [p0, p1, p2])), (a4, .inl (K 0, 56, .inl (fun _ => 0)))]) (va_runV (As := [.int (-1)]) (rest := []) ⟨hx, hb, hml, hown, hts⟩ (c_refuse_1 l D K a0 (.ref a2) g1 g2 g3 g4 g5 g6 g7 g8 (.ref a3) g10 g11 a1 g13 g14 g15 g16 f s.heap.size) (cwV 1 hts gX11_house_X11_refuse rfl rfl rfl (by decide +kernel) ⟨Nat.le_of_ble_eq_true rfl, Nat.le_of_ble_eq_true rfl⟩) (mkV hK hN (hP.sub [0, 1] rfl) (hD.sub [0, 1] (by decide) rfl) (ci := 11) (q0 := 0) rfl rfl) rfl rfl hl.1 rfl (lv_room (Nat.le_of_ble_eq_true rfl)) dX11_house_78 ⟨Nat.le_of_ble_eq_true rfl, Nat.le_of_ble_eq_true rfl⟩) hP hD hS hA [0, 1] [2, 3, 4] rfl rfl (by decide) (by decide) (fun r_43 u_44 H locs hw hP hD hS => ?_)
          have hP : va_P D vwCl [(a2, .inr (9, [.ref a4, k1, k2, k3, .int 0, k5, k6, k7, k8, k9])), (a3, .inr (2, [p0, p1, p2])), (a4, .inl (K 0, 56, .inl (fun _ => 0)))] H := hP
          have hD : va_D A [(a2, .inr (9, [.ref a4, k1, k2, k3, .int 0, k5, k6, k7, k8, k9])), (a3, .inr (2, [p0, p1, p2])), (a4, .inl (K 0, 56, .inl (fun _ => 0)))] := hD
          obtain rfl : r_43 = (-1) := hw
          exact W.iret (v := (-1)) hx hb hr (fun t ht hW => ⟨⟨(-1), (), rfl, (by first | exact Or.inr (⟨rfl, by first | omega | decide | (subst_vars; assumption) | (subst_vars; symm; assumption)⟩)), Wd.nil⟩, hS.F ht⟩) hS.2.2 dX11_house_81
      · refine lv_if_eq (tgt := 52) hx hb dX11_house_34 (by decide) (fun c_45 => ?_) (fun c_45 => absurd (by decide) c_45)
        refine lv_iconst (v := 0) hx hb dX11_house_52 (by decide) ?_
        refine lv_istore (lv' := [(7, .int 0), (6, .int 1), (0, .ref a0), (1, .int x0), (2, .int x1), (3, .int x2), (4, .int x3), (5, .int x4)]) hx hb dX11_house_53 hl (by decide) rfl (fun ls hl => ?_)
        refine lv_iload hx hb dX11_house_55 (lv_at hl 1 rfl) ?_
        refine lv_if_eq (tgt := 76) hx hb dX11_house_57 (by decide) (fun c_46 => absurd c_46 (by decide)) (fun c_46 => ?_)
        refine lv_iload hx hb dX11_house_60 (lv_at hl 0 rfl) ?_
        refine lv_if_eq (tgt := 76) hx hb dX11_house_62 (by decide) (fun c_47 => ?_) (fun c_47 => absurd (by decide) c_47)
        refine lv_aload_n hx hb dX11_house_76 rfl (lv_at hl 2 rfl) ?_
        refine lv_iconst (v := (-1)) hx hb dX11_house_77 (by decide) ?_
        refine kci (wr := [(a2, .inr (9, [.ref a4, k1, k2, k3, .int 0, k5, k6, k7, k8, k9])), (a3, .inr (2, [p0, p1, p2])), (a4, .inl (K 0, 56, .inl (fun _ => 0)))]) (va_runV (As := [.int (-1)]) (rest := []) ⟨hx, hb, hml, hown, hts⟩ (c_refuse_1 l D K a0 (.ref a2) g1 g2 g3 g4 g5 g6 g7 g8 (.ref a3) g10 g11 a1 g13 g14 g15 g16 f s.heap.size) (cwV 1 hts gX11_house_X11_refuse rfl rfl rfl (by decide +kernel) ⟨Nat.le_of_ble_eq_true rfl, Nat.le_of_ble_eq_true rfl⟩) (mkV hK hN (hP.sub [0, 1] rfl) (hD.sub [0, 1] (by decide) rfl) (ci := 11) (q0 := 0) rfl rfl) rfl rfl hl.1 rfl (lv_room (Nat.le_of_ble_eq_true rfl)) dX11_house_78 ⟨Nat.le_of_ble_eq_true rfl, Nat.le_of_ble_eq_true rfl⟩) hP hD hS hA [0, 1] [2, 3, 4] rfl rfl (by decide) (by decide) (fun r_48 u_49 H locs hw hP hD hS => ?_)
        have hP : va_P D vwCl [(a2, .inr (9, [.ref a4, k1, k2, k3, .int 0, k5, k6, k7, k8, k9])), (a3, .inr (2, [p0, p1, p2])), (a4, .inl (K 0, 56, .inl (fun _ => 0)))] H := hP
        have hD : va_D A [(a2, .inr (9, [.ref a4, k1, k2, k3, .int 0, k5, k6, k7, k8, k9])), (a3, .inr (2, [p0, p1, p2])), (a4, .inl (K 0, 56, .inl (fun _ => 0)))] := hD
        obtain rfl : r_48 = (-1) := hw
        exact W.iret (v := (-1)) hx hb hr (fun t ht hW => ⟨⟨(-1), (), rfl, (by first | exact Or.inr (⟨rfl, by first | omega | decide | (subst_vars; assumption) | (subst_vars; symm; assumption)⟩)), Wd.nil⟩, hS.F ht⟩) hS.2.2 dX11_house_81
    · refine lv_if_eq (tgt := 23) hx hb dX11_house_16 (by decide) (fun c_50 => ?_) (fun c_50 => absurd (by decide) c_50)
      refine lv_iconst (v := 0) hx hb dX11_house_23 (by decide) ?_
      refine lv_istore (lv' := [(6, .int 0), (0, .ref a0), (1, .int x0), (2, .int x1), (3, .int x2), (4, .int x3), (5, .int x4)]) hx hb dX11_house_24 hl (by decide) rfl (fun ls hl => ?_)
      refine lv_iload hx hb dX11_house_26 (lv_at hl 5 rfl) ?_
      refine lv_iconst (v := 0) hx hb dX11_house_28 (by decide) ?_
      refine lv_bipush (v := 7) hx hb dX11_house_29 (by decide) ?_
      refine pci (va_runS (As := [.int x3, .int 0, .int 7]) (rest := []) ⟨hx, hb, hml, hown, hts⟩ (c_within l D K x3 0 7 x3.toInt 0 7 s.heap.size rfl rfl rfl) (va_cwS 3 hts gX11_house_X11_within rfl rfl rfl (by decide +kernel) ⟨Nat.le_of_ble_eq_true rfl, Nat.le_of_ble_eq_true rfl⟩) (mkS hK hN (hP.sub [] rfl) (hD.sub [] (by decide) rfl)) rfl rfl hl.1 rfl (lv_room (Nat.le_of_ble_eq_true rfl)) dX11_house_31 ⟨Nat.le_of_ble_eq_true rfl, Nat.le_of_ble_eq_true rfl⟩) (fun r_51 hw => ?_)
      rcases hw with ⟨rfl, h_52, h_53⟩ | ⟨rfl, h_54⟩
      · refine lv_if_eq (tgt := 52) hx hb dX11_house_34 (by decide) (fun c_55 => absurd c_55 (by decide)) (fun c_55 => ?_)
        refine lv_iload hx hb dX11_house_37 (lv_at hl 6 rfl) ?_
        refine lv_iconst (v := 0) hx hb dX11_house_39 (by decide) ?_
        refine lv_bipush (v := 7) hx hb dX11_house_40 (by decide) ?_
        refine pci (va_runS (As := [.int x4, .int 0, .int 7]) (rest := []) ⟨hx, hb, hml, hown, hts⟩ (c_within l D K x4 0 7 x4.toInt 0 7 s.heap.size rfl rfl rfl) (va_cwS 3 hts gX11_house_X11_within rfl rfl rfl (by decide +kernel) ⟨Nat.le_of_ble_eq_true rfl, Nat.le_of_ble_eq_true rfl⟩) (mkS hK hN (hP.sub [] rfl) (hD.sub [] (by decide) rfl)) rfl rfl hl.1 rfl (lv_room (Nat.le_of_ble_eq_true rfl)) dX11_house_42 ⟨Nat.le_of_ble_eq_true rfl, Nat.le_of_ble_eq_true rfl⟩) (fun r_56 hw => ?_)
        rcases hw with ⟨rfl, h_57, h_58⟩ | ⟨rfl, h_59⟩
        · refine lv_if_eq (tgt := 52) hx hb dX11_house_45 (by decide) (fun c_60 => absurd c_60 (by decide)) (fun c_60 => ?_)
          refine lv_iconst (v := 1) hx hb dX11_house_48 (by decide) ?_
          refine lv_goto (tgt := 53) hx hb dX11_house_49 (by decide) ?_
          refine lv_istore (lv' := [(7, .int 1), (6, .int 0), (0, .ref a0), (1, .int x0), (2, .int x1), (3, .int x2), (4, .int x3), (5, .int x4)]) hx hb dX11_house_53 hl (by decide) rfl (fun ls hl => ?_)
          refine lv_iload hx hb dX11_house_55 (lv_at hl 1 rfl) ?_
          refine lv_if_eq (tgt := 76) hx hb dX11_house_57 (by decide) (fun c_61 => ?_) (fun c_61 => absurd (by decide) c_61)
          refine lv_aload_n hx hb dX11_house_76 rfl (lv_at hl 2 rfl) ?_
          refine lv_iconst (v := (-1)) hx hb dX11_house_77 (by decide) ?_
          refine kci (wr := [(a2, .inr (9, [.ref a4, k1, k2, k3, .int 0, k5, k6, k7, k8, k9])), (a3, .inr (2, [p0, p1, p2])), (a4, .inl (K 0, 56, .inl (fun _ => 0)))]) (va_runV (As := [.int (-1)]) (rest := []) ⟨hx, hb, hml, hown, hts⟩ (c_refuse_1 l D K a0 (.ref a2) g1 g2 g3 g4 g5 g6 g7 g8 (.ref a3) g10 g11 a1 g13 g14 g15 g16 f s.heap.size) (cwV 1 hts gX11_house_X11_refuse rfl rfl rfl (by decide +kernel) ⟨Nat.le_of_ble_eq_true rfl, Nat.le_of_ble_eq_true rfl⟩) (mkV hK hN (hP.sub [0, 1] rfl) (hD.sub [0, 1] (by decide) rfl) (ci := 11) (q0 := 0) rfl rfl) rfl rfl hl.1 rfl (lv_room (Nat.le_of_ble_eq_true rfl)) dX11_house_78 ⟨Nat.le_of_ble_eq_true rfl, Nat.le_of_ble_eq_true rfl⟩) hP hD hS hA [0, 1] [2, 3, 4] rfl rfl (by decide) (by decide) (fun r_62 u_63 H locs hw hP hD hS => ?_)
          have hP : va_P D vwCl [(a2, .inr (9, [.ref a4, k1, k2, k3, .int 0, k5, k6, k7, k8, k9])), (a3, .inr (2, [p0, p1, p2])), (a4, .inl (K 0, 56, .inl (fun _ => 0)))] H := hP
          have hD : va_D A [(a2, .inr (9, [.ref a4, k1, k2, k3, .int 0, k5, k6, k7, k8, k9])), (a3, .inr (2, [p0, p1, p2])), (a4, .inl (K 0, 56, .inl (fun _ => 0)))] := hD
          obtain rfl : r_62 = (-1) := hw
          exact W.iret (v := (-1)) hx hb hr (fun t ht hW => ⟨⟨(-1), (), rfl, (by first | exact Or.inr (⟨rfl, by first | omega | decide | (subst_vars; assumption) | (subst_vars; symm; assumption)⟩)), Wd.nil⟩, hS.F ht⟩) hS.2.2 dX11_house_81
        · refine lv_if_eq (tgt := 52) hx hb dX11_house_45 (by decide) (fun c_64 => ?_) (fun c_64 => absurd (by decide) c_64)
          refine lv_iconst (v := 0) hx hb dX11_house_52 (by decide) ?_
          refine lv_istore (lv' := [(7, .int 0), (6, .int 0), (0, .ref a0), (1, .int x0), (2, .int x1), (3, .int x2), (4, .int x3), (5, .int x4)]) hx hb dX11_house_53 hl (by decide) rfl (fun ls hl => ?_)
          refine lv_iload hx hb dX11_house_55 (lv_at hl 1 rfl) ?_
          refine lv_if_eq (tgt := 76) hx hb dX11_house_57 (by decide) (fun c_65 => ?_) (fun c_65 => absurd (by decide) c_65)
          refine lv_aload_n hx hb dX11_house_76 rfl (lv_at hl 2 rfl) ?_
          refine lv_iconst (v := (-1)) hx hb dX11_house_77 (by decide) ?_
          refine kci (wr := [(a2, .inr (9, [.ref a4, k1, k2, k3, .int 0, k5, k6, k7, k8, k9])), (a3, .inr (2, [p0, p1, p2])), (a4, .inl (K 0, 56, .inl (fun _ => 0)))]) (va_runV (As := [.int (-1)]) (rest := []) ⟨hx, hb, hml, hown, hts⟩ (c_refuse_1 l D K a0 (.ref a2) g1 g2 g3 g4 g5 g6 g7 g8 (.ref a3) g10 g11 a1 g13 g14 g15 g16 f s.heap.size) (cwV 1 hts gX11_house_X11_refuse rfl rfl rfl (by decide +kernel) ⟨Nat.le_of_ble_eq_true rfl, Nat.le_of_ble_eq_true rfl⟩) (mkV hK hN (hP.sub [0, 1] rfl) (hD.sub [0, 1] (by decide) rfl) (ci := 11) (q0 := 0) rfl rfl) rfl rfl hl.1 rfl (lv_room (Nat.le_of_ble_eq_true rfl)) dX11_house_78 ⟨Nat.le_of_ble_eq_true rfl, Nat.le_of_ble_eq_true rfl⟩) hP hD hS hA [0, 1] [2, 3, 4] rfl rfl (by decide) (by decide) (fun r_66 u_67 H locs hw hP hD hS => ?_)
          have hP : va_P D vwCl [(a2, .inr (9, [.ref a4, k1, k2, k3, .int 0, k5, k6, k7, k8, k9])), (a3, .inr (2, [p0, p1, p2])), (a4, .inl (K 0, 56, .inl (fun _ => 0)))] H := hP
          have hD : va_D A [(a2, .inr (9, [.ref a4, k1, k2, k3, .int 0, k5, k6, k7, k8, k9])), (a3, .inr (2, [p0, p1, p2])), (a4, .inl (K 0, 56, .inl (fun _ => 0)))] := hD
          obtain rfl : r_66 = (-1) := hw
          exact W.iret (v := (-1)) hx hb hr (fun t ht hW => ⟨⟨(-1), (), rfl, (by first | exact Or.inr (⟨rfl, by first | omega | decide | (subst_vars; assumption) | (subst_vars; symm; assumption)⟩)), Wd.nil⟩, hS.F ht⟩) hS.2.2 dX11_house_81
      · refine lv_if_eq (tgt := 52) hx hb dX11_house_34 (by decide) (fun c_68 => ?_) (fun c_68 => absurd (by decide) c_68)
        refine lv_iconst (v := 0) hx hb dX11_house_52 (by decide) ?_
        refine lv_istore (lv' := [(7, .int 0), (6, .int 0), (0, .ref a0), (1, .int x0), (2, .int x1), (3, .int x2), (4, .int x3), (5, .int x4)]) hx hb dX11_house_53 hl (by decide) rfl (fun ls hl => ?_)
        refine lv_iload hx hb dX11_house_55 (lv_at hl 1 rfl) ?_
        refine lv_if_eq (tgt := 76) hx hb dX11_house_57 (by decide) (fun c_69 => ?_) (fun c_69 => absurd (by decide) c_69)
        refine lv_aload_n hx hb dX11_house_76 rfl (lv_at hl 2 rfl) ?_
        refine lv_iconst (v := (-1)) hx hb dX11_house_77 (by decide) ?_
        refine kci (wr := [(a2, .inr (9, [.ref a4, k1, k2, k3, .int 0, k5, k6, k7, k8, k9])), (a3, .inr (2, [p0, p1, p2])), (a4, .inl (K 0, 56, .inl (fun _ => 0)))]) (va_runV (As := [.int (-1)]) (rest := []) ⟨hx, hb, hml, hown, hts⟩ (c_refuse_1 l D K a0 (.ref a2) g1 g2 g3 g4 g5 g6 g7 g8 (.ref a3) g10 g11 a1 g13 g14 g15 g16 f s.heap.size) (cwV 1 hts gX11_house_X11_refuse rfl rfl rfl (by decide +kernel) ⟨Nat.le_of_ble_eq_true rfl, Nat.le_of_ble_eq_true rfl⟩) (mkV hK hN (hP.sub [0, 1] rfl) (hD.sub [0, 1] (by decide) rfl) (ci := 11) (q0 := 0) rfl rfl) rfl rfl hl.1 rfl (lv_room (Nat.le_of_ble_eq_true rfl)) dX11_house_78 ⟨Nat.le_of_ble_eq_true rfl, Nat.le_of_ble_eq_true rfl⟩) hP hD hS hA [0, 1] [2, 3, 4] rfl rfl (by decide) (by decide) (fun r_70 u_71 H locs hw hP hD hS => ?_)
        have hP : va_P D vwCl [(a2, .inr (9, [.ref a4, k1, k2, k3, .int 0, k5, k6, k7, k8, k9])), (a3, .inr (2, [p0, p1, p2])), (a4, .inl (K 0, 56, .inl (fun _ => 0)))] H := hP
        have hD : va_D A [(a2, .inr (9, [.ref a4, k1, k2, k3, .int 0, k5, k6, k7, k8, k9])), (a3, .inr (2, [p0, p1, p2])), (a4, .inl (K 0, 56, .inl (fun _ => 0)))] := hD
        obtain rfl : r_70 = (-1) := hw
        exact W.iret (v := (-1)) hx hb hr (fun t ht hW => ⟨⟨(-1), (), rfl, (by first | exact Or.inr (⟨rfl, by first | omega | decide | (subst_vars; assumption) | (subst_vars; symm; assumption)⟩)), Wd.nil⟩, hS.F ht⟩) hS.2.2 dX11_house_81
  · refine lv_if_eq (tgt := 23) hx hb dX11_house_7 (by decide) (fun c_72 => ?_) (fun c_72 => absurd (by decide) c_72)
    refine lv_iconst (v := 0) hx hb dX11_house_23 (by decide) ?_
    refine lv_istore (lv' := [(6, .int 0), (0, .ref a0), (1, .int x0), (2, .int x1), (3, .int x2), (4, .int x3), (5, .int x4)]) hx hb dX11_house_24 hl (by decide) rfl (fun ls hl => ?_)
    refine lv_iload hx hb dX11_house_26 (lv_at hl 5 rfl) ?_
    refine lv_iconst (v := 0) hx hb dX11_house_28 (by decide) ?_
    refine lv_bipush (v := 7) hx hb dX11_house_29 (by decide) ?_
    refine pci (va_runS (As := [.int x3, .int 0, .int 7]) (rest := []) ⟨hx, hb, hml, hown, hts⟩ (c_within l D K x3 0 7 x3.toInt 0 7 s.heap.size rfl rfl rfl) (va_cwS 3 hts gX11_house_X11_within rfl rfl rfl (by decide +kernel) ⟨Nat.le_of_ble_eq_true rfl, Nat.le_of_ble_eq_true rfl⟩) (mkS hK hN (hP.sub [] rfl) (hD.sub [] (by decide) rfl)) rfl rfl hl.1 rfl (lv_room (Nat.le_of_ble_eq_true rfl)) dX11_house_31 ⟨Nat.le_of_ble_eq_true rfl, Nat.le_of_ble_eq_true rfl⟩) (fun r_73 hw => ?_)
    rcases hw with ⟨rfl, h_74, h_75⟩ | ⟨rfl, h_76⟩
    · refine lv_if_eq (tgt := 52) hx hb dX11_house_34 (by decide) (fun c_77 => absurd c_77 (by decide)) (fun c_77 => ?_)
      refine lv_iload hx hb dX11_house_37 (lv_at hl 6 rfl) ?_
      refine lv_iconst (v := 0) hx hb dX11_house_39 (by decide) ?_
      refine lv_bipush (v := 7) hx hb dX11_house_40 (by decide) ?_
      refine pci (va_runS (As := [.int x4, .int 0, .int 7]) (rest := []) ⟨hx, hb, hml, hown, hts⟩ (c_within l D K x4 0 7 x4.toInt 0 7 s.heap.size rfl rfl rfl) (va_cwS 3 hts gX11_house_X11_within rfl rfl rfl (by decide +kernel) ⟨Nat.le_of_ble_eq_true rfl, Nat.le_of_ble_eq_true rfl⟩) (mkS hK hN (hP.sub [] rfl) (hD.sub [] (by decide) rfl)) rfl rfl hl.1 rfl (lv_room (Nat.le_of_ble_eq_true rfl)) dX11_house_42 ⟨Nat.le_of_ble_eq_true rfl, Nat.le_of_ble_eq_true rfl⟩) (fun r_78 hw => ?_)
      rcases hw with ⟨rfl, h_79, h_80⟩ | ⟨rfl, h_81⟩
      · refine lv_if_eq (tgt := 52) hx hb dX11_house_45 (by decide) (fun c_82 => absurd c_82 (by decide)) (fun c_82 => ?_)
        refine lv_iconst (v := 1) hx hb dX11_house_48 (by decide) ?_
        refine lv_goto (tgt := 53) hx hb dX11_house_49 (by decide) ?_
        refine lv_istore (lv' := [(7, .int 1), (6, .int 0), (0, .ref a0), (1, .int x0), (2, .int x1), (3, .int x2), (4, .int x3), (5, .int x4)]) hx hb dX11_house_53 hl (by decide) rfl (fun ls hl => ?_)
        refine lv_iload hx hb dX11_house_55 (lv_at hl 1 rfl) ?_
        refine lv_if_eq (tgt := 76) hx hb dX11_house_57 (by decide) (fun c_83 => ?_) (fun c_83 => absurd (by decide) c_83)
        refine lv_aload_n hx hb dX11_house_76 rfl (lv_at hl 2 rfl) ?_
        refine lv_iconst (v := (-1)) hx hb dX11_house_77 (by decide) ?_
        refine kci (wr := [(a2, .inr (9, [.ref a4, k1, k2, k3, .int 0, k5, k6, k7, k8, k9])), (a3, .inr (2, [p0, p1, p2])), (a4, .inl (K 0, 56, .inl (fun _ => 0)))]) (va_runV (As := [.int (-1)]) (rest := []) ⟨hx, hb, hml, hown, hts⟩ (c_refuse_1 l D K a0 (.ref a2) g1 g2 g3 g4 g5 g6 g7 g8 (.ref a3) g10 g11 a1 g13 g14 g15 g16 f s.heap.size) (cwV 1 hts gX11_house_X11_refuse rfl rfl rfl (by decide +kernel) ⟨Nat.le_of_ble_eq_true rfl, Nat.le_of_ble_eq_true rfl⟩) (mkV hK hN (hP.sub [0, 1] rfl) (hD.sub [0, 1] (by decide) rfl) (ci := 11) (q0 := 0) rfl rfl) rfl rfl hl.1 rfl (lv_room (Nat.le_of_ble_eq_true rfl)) dX11_house_78 ⟨Nat.le_of_ble_eq_true rfl, Nat.le_of_ble_eq_true rfl⟩) hP hD hS hA [0, 1] [2, 3, 4] rfl rfl (by decide) (by decide) (fun r_84 u_85 H locs hw hP hD hS => ?_)
        have hP : va_P D vwCl [(a2, .inr (9, [.ref a4, k1, k2, k3, .int 0, k5, k6, k7, k8, k9])), (a3, .inr (2, [p0, p1, p2])), (a4, .inl (K 0, 56, .inl (fun _ => 0)))] H := hP
        have hD : va_D A [(a2, .inr (9, [.ref a4, k1, k2, k3, .int 0, k5, k6, k7, k8, k9])), (a3, .inr (2, [p0, p1, p2])), (a4, .inl (K 0, 56, .inl (fun _ => 0)))] := hD
        obtain rfl : r_84 = (-1) := hw
        exact W.iret (v := (-1)) hx hb hr (fun t ht hW => ⟨⟨(-1), (), rfl, (by first | exact Or.inr (⟨rfl, by first | omega | decide | (subst_vars; assumption) | (subst_vars; symm; assumption)⟩)), Wd.nil⟩, hS.F ht⟩) hS.2.2 dX11_house_81
      · refine lv_if_eq (tgt := 52) hx hb dX11_house_45 (by decide) (fun c_86 => ?_) (fun c_86 => absurd (by decide) c_86)
        refine lv_iconst (v := 0) hx hb dX11_house_52 (by decide) ?_
        refine lv_istore (lv' := [(7, .int 0), (6, .int 0), (0, .ref a0), (1, .int x0), (2, .int x1), (3, .int x2), (4, .int x3), (5, .int x4)]) hx hb dX11_house_53 hl (by decide) rfl (fun ls hl => ?_)
        refine lv_iload hx hb dX11_house_55 (lv_at hl 1 rfl) ?_
        refine lv_if_eq (tgt := 76) hx hb dX11_house_57 (by decide) (fun c_87 => ?_) (fun c_87 => absurd (by decide) c_87)
        refine lv_aload_n hx hb dX11_house_76 rfl (lv_at hl 2 rfl) ?_
        refine lv_iconst (v := (-1)) hx hb dX11_house_77 (by decide) ?_
        refine kci (wr := [(a2, .inr (9, [.ref a4, k1, k2, k3, .int 0, k5, k6, k7, k8, k9])), (a3, .inr (2, [p0, p1, p2])), (a4, .inl (K 0, 56, .inl (fun _ => 0)))]) (va_runV (As := [.int (-1)]) (rest := []) ⟨hx, hb, hml, hown, hts⟩ (c_refuse_1 l D K a0 (.ref a2) g1 g2 g3 g4 g5 g6 g7 g8 (.ref a3) g10 g11 a1 g13 g14 g15 g16 f s.heap.size) (cwV 1 hts gX11_house_X11_refuse rfl rfl rfl (by decide +kernel) ⟨Nat.le_of_ble_eq_true rfl, Nat.le_of_ble_eq_true rfl⟩) (mkV hK hN (hP.sub [0, 1] rfl) (hD.sub [0, 1] (by decide) rfl) (ci := 11) (q0 := 0) rfl rfl) rfl rfl hl.1 rfl (lv_room (Nat.le_of_ble_eq_true rfl)) dX11_house_78 ⟨Nat.le_of_ble_eq_true rfl, Nat.le_of_ble_eq_true rfl⟩) hP hD hS hA [0, 1] [2, 3, 4] rfl rfl (by decide) (by decide) (fun r_88 u_89 H locs hw hP hD hS => ?_)
        have hP : va_P D vwCl [(a2, .inr (9, [.ref a4, k1, k2, k3, .int 0, k5, k6, k7, k8, k9])), (a3, .inr (2, [p0, p1, p2])), (a4, .inl (K 0, 56, .inl (fun _ => 0)))] H := hP
        have hD : va_D A [(a2, .inr (9, [.ref a4, k1, k2, k3, .int 0, k5, k6, k7, k8, k9])), (a3, .inr (2, [p0, p1, p2])), (a4, .inl (K 0, 56, .inl (fun _ => 0)))] := hD
        obtain rfl : r_88 = (-1) := hw
        exact W.iret (v := (-1)) hx hb hr (fun t ht hW => ⟨⟨(-1), (), rfl, (by first | exact Or.inr (⟨rfl, by first | omega | decide | (subst_vars; assumption) | (subst_vars; symm; assumption)⟩)), Wd.nil⟩, hS.F ht⟩) hS.2.2 dX11_house_81
    · refine lv_if_eq (tgt := 52) hx hb dX11_house_34 (by decide) (fun c_90 => ?_) (fun c_90 => absurd (by decide) c_90)
      refine lv_iconst (v := 0) hx hb dX11_house_52 (by decide) ?_
      refine lv_istore (lv' := [(7, .int 0), (6, .int 0), (0, .ref a0), (1, .int x0), (2, .int x1), (3, .int x2), (4, .int x3), (5, .int x4)]) hx hb dX11_house_53 hl (by decide) rfl (fun ls hl => ?_)
      refine lv_iload hx hb dX11_house_55 (lv_at hl 1 rfl) ?_
      refine lv_if_eq (tgt := 76) hx hb dX11_house_57 (by decide) (fun c_91 => ?_) (fun c_91 => absurd (by decide) c_91)
      refine lv_aload_n hx hb dX11_house_76 rfl (lv_at hl 2 rfl) ?_
      refine lv_iconst (v := (-1)) hx hb dX11_house_77 (by decide) ?_
      refine kci (wr := [(a2, .inr (9, [.ref a4, k1, k2, k3, .int 0, k5, k6, k7, k8, k9])), (a3, .inr (2, [p0, p1, p2])), (a4, .inl (K 0, 56, .inl (fun _ => 0)))]) (va_runV (As := [.int (-1)]) (rest := []) ⟨hx, hb, hml, hown, hts⟩ (c_refuse_1 l D K a0 (.ref a2) g1 g2 g3 g4 g5 g6 g7 g8 (.ref a3) g10 g11 a1 g13 g14 g15 g16 f s.heap.size) (cwV 1 hts gX11_house_X11_refuse rfl rfl rfl (by decide +kernel) ⟨Nat.le_of_ble_eq_true rfl, Nat.le_of_ble_eq_true rfl⟩) (mkV hK hN (hP.sub [0, 1] rfl) (hD.sub [0, 1] (by decide) rfl) (ci := 11) (q0 := 0) rfl rfl) rfl rfl hl.1 rfl (lv_room (Nat.le_of_ble_eq_true rfl)) dX11_house_78 ⟨Nat.le_of_ble_eq_true rfl, Nat.le_of_ble_eq_true rfl⟩) hP hD hS hA [0, 1] [2, 3, 4] rfl rfl (by decide) (by decide) (fun r_92 u_93 H locs hw hP hD hS => ?_)
      have hP : va_P D vwCl [(a2, .inr (9, [.ref a4, k1, k2, k3, .int 0, k5, k6, k7, k8, k9])), (a3, .inr (2, [p0, p1, p2])), (a4, .inl (K 0, 56, .inl (fun _ => 0)))] H := hP
      have hD : va_D A [(a2, .inr (9, [.ref a4, k1, k2, k3, .int 0, k5, k6, k7, k8, k9])), (a3, .inr (2, [p0, p1, p2])), (a4, .inl (K 0, 56, .inl (fun _ => 0)))] := hD
      obtain rfl : r_92 = (-1) := hw
      exact W.iret (v := (-1)) hx hb hr (fun t ht hW => ⟨⟨(-1), (), rfl, (by first | exact Or.inr (⟨rfl, by first | omega | decide | (subst_vars; assumption) | (subst_vars; symm; assumption)⟩)), Wd.nil⟩, hS.F ht⟩) hS.2.2 dX11_house_81
set_option maxHeartbeats 4000000 in
set_option maxRecDepth 100000 in
theorem c_take_0 (l : Launch) (D : va_G) (K : Nat → ClassId) (a0 : Nat) (x : Int32) (a1 : Nat) (g2 : Value) (g3 : Value) (g4 : Value) (g5 : Value) (f : Nat → Int32) (sz : Nat) : Met l yX8_take wsX8_take ({ frames := 0, cells := 0, slots := 0, locals := 0 }) (va_Pc [.ref a0, .int x] (Pre D K [(a0, .inr (8, [.ref a1, .int 0, g2, g3, g4, g5])), (a1, .inl (K 0, 400, .inl f))] sz)) (va_Qv (S := (Nat → Nat) × (Nat → Nat → Int32) × (Nat → Nat → Int64) × (Nat → Int32)) (fun _ => True) (fun u t => Wd D (va_A [(a0, .inr (8, [.ref a1, .int 0, g2, g3, g4, g5])), (a1, .inl (K 0, 400, .inl f))] sz) ((fun u => [(a0, .inr (8, [.ref a1, .int 4, g2, g3, g4, g5])), (a1, .inl (K 0, 400, .inl ((u.2.1 0))))]) u) t) (va_A [(a0, .inr (8, [.ref a1, .int 0, g2, g3, g4, g5])), (a1, .inl (K 0, 400, .inl f))] sz)) 0 0 (va_A [(a0, .inr (8, [.ref a1, .int 0, g2, g3, g4, g5])), (a1, .inl (K 0, 400, .inl f))] sz) := by
  refine Met.ofW (cc := cX8_take) (maxL := 3) (ret := none) (by decide) rfl ?_
  intro p e s m args below meth c s₁ B hml hv
  obtain ⟨rfl, hsz, hP, hK, hD0, hN⟩ := hv
  have hx := B.exec
  have hb := B.bytes
  have hr := B.returns
  have hts := atoms_spec (ws := wsX8_take) B.pre
  have hown : s.vm.findClass RX8 = some m.cls := findClass_of_methodNamed B.named
  have hlocks := B.notSynchronized
  subst hsz
  have hD := hD0.self (sz := s.heap.size)
  generalize hAe : va_A [(a0, .inr (8, [.ref a1, .int 0, g2, g3, g4, g5])), (a1, .inl (K 0, 400, .inl f))] s.heap.size = A at hD ⊢
  have hA : ∀ q : Nat, s.heap.size ≤ q → A q := fun q h => by rw [← hAe]; exact Or.inr h
  have hS : va_S A s.heap s.heap [] := va_S.rf
  have hP : va_P D vwCl [(a0, .inr (8, [.ref a1, .int 0, g2, g3, g4, g5])), (a1, .inl (K 0, 400, .inl f))] s.heap := hP
  have hl := lv_entry [.ref a0, .int x] (n := 3) (Nat.le_of_ble_eq_true rfl)
  rw [lg_entry_eq]
  generalize (lg_sl [.ref a0, .int x] ++ List.replicate (3 - (lg_sl [.ref a0, .int x]).length) Slot.unset).toArray = ls at hl ⊢
  have hl : lv_has ls 3 [(0, .ref a0), (1, .int x)] := hl
  have hw8 : ∀ w ∈ wsX80, w ∈ wsX8_take := fun w h => (List.mem_cons_of_mem _ (List.mem_append_right _ h))
  refine lv_bipush (v := 24) hx hb dX8_take_0 (by decide) ?_
  refine lv_istore_n (lv' := [(2, .int 24), (0, .ref a0), (1, .int x)]) hx hb dX8_take_2 rfl hl (by decide) rfl (fun ls hl => ?_)
  refine lv_iload_n hx hb dX8_take_3 rfl (lv_at hl 0 rfl) ?_
  refine lv_if_lt (tgt := 49) hx hb dX8_take_4 (by decide) (fun c_1 => absurd c_1 (by decide)) (fun c_1 => ?_)
  refine lv_aload_n hx hb dX8_take_7 rfl (lv_at hl 1 rfl) ?_
  refine va_get (ci := 8) (v := .int 0) (C := RX8) (T := TX8) (N := 6) hx hb hts hw8 hown hK hP 0 rfl rfl 1 (by decide) (hts (.fieldLink RX8 15 "SmokeTune$Tape" "length" "I") (List.mem_cons_of_mem _ (List.mem_append_left _ (List.mem_of_getElem? (i := 0) rfl)))) (fun _ h9 => h9) rfl dX8_take_8 ?_
  refine lv_sipush (v := 400) hx hb dX8_take_11 (by decide) ?_
  refine lv_icmp_ge (tgt := 49) hx hb dX8_take_14 (by decide) (fun c_2 => absurd c_2 (by decide)) (fun c_2 => ?_)
  refine lv_aload_n hx hb dX8_take_17 rfl (lv_at hl 1 rfl) ?_
  refine va_get (ci := 8) (v := .ref a1) (C := RX8) (T := TX8) (N := 6) hx hb hts hw8 hown hK hP 0 rfl rfl 0 (by decide) (hts (.fieldLink RX8 11 "SmokeTune$Tape" "bytes" "[I") (List.mem_cons_of_mem _ (List.mem_append_left _ (List.mem_of_getElem? (i := 1) rfl)))) (fun _ h9 => h9) rfl dX8_take_18 ?_
  refine lv_aload_n hx hb dX8_take_21 rfl (lv_at hl 1 rfl) ?_
  refine va_get (ci := 8) (v := .int 0) (C := RX8) (T := TX8) (N := 6) hx hb hts hw8 hown hK hP 0 rfl rfl 1 (by decide) (hts (.fieldLink RX8 15 "SmokeTune$Tape" "length" "I") (List.mem_cons_of_mem _ (List.mem_append_left _ (List.mem_of_getElem? (i := 0) rfl)))) (fun _ h9 => h9) rfl dX8_take_22 ?_
  refine lv_iload_n hx hb dX8_take_25 rfl (lv_at hl 2 rfl) ?_
  refine lv_iload_n hx hb dX8_take_26 rfl (lv_at hl 0 rfl) ?_
  refine lv_ishr hx hb dX8_take_27 ?_
  refine lv_topi (fun x_3 ex_3 => ?_)
  refine lv_sipush (v := 255) hx hb dX8_take_28 (by decide) ?_
  refine lv_iand hx hb dX8_take_31 ?_
  refine lv_topi (fun x_4 ex_4 => ?_)
  refine va_iast hx hb hK hP hD hS 1 0 rfl rfl (i_in (x := 0) rfl (by omega)) dX8_take_32 (fun H locs hP hD hS => ?_)
  generalize hf_5 : (upd f (0 : Int32).toNatClampNeg x_4) = f_5 at hP hD
  have hP : va_P D vwCl [(a0, .inr (8, [.ref a1, .int 0, g2, g3, g4, g5])), (a1, .inl (K 0, 400, .inl f_5))] H := hP
  have hD : va_D A [(a0, .inr (8, [.ref a1, .int 0, g2, g3, g4, g5])), (a1, .inl (K 0, 400, .inl f_5))] := hD
  refine lv_aload_n hx hb dX8_take_33 rfl (lv_at hl 1 rfl) ?_
  refine lv_dup hx hb dX8_take_34 rfl ?_
  refine va_get (ci := 8) (v := .int 0) (C := RX8) (T := TX8) (N := 6) hx hb hts hw8 hown hK hP 0 rfl rfl 1 (by decide) (hts (.fieldLink RX8 15 "SmokeTune$Tape" "length" "I") (List.mem_cons_of_mem _ (List.mem_append_left _ (List.mem_of_getElem? (i := 0) rfl)))) (fun _ h9 => h9) rfl dX8_take_35 ?_
  refine lv_iconst (v := 1) hx hb dX8_take_38 (by decide) ?_
  refine lv_iadd hx hb dX8_take_39 ?_
  refine lv_topi (fun x_6 ex_6 => ?_)
  obtain rfl : x_6 = 1 := ex_6.trans (by first | rfl | decide)
  refine va_put (ci := 8) (v := .int 1) (ty := .int) (C := RX8) (T := TX8) (N := 6) hx hb hts hw8 tyX8 tyX8_ok nmX8 hown hK hP hD hS 0 rfl rfl 1 (by decide) (hts (.fieldLink RX8 15 "SmokeTune$Tape" "length" "I") (List.mem_cons_of_mem _ (List.mem_append_left _ (List.mem_of_getElem? (i := 0) rfl)))) (fun _ h9 => h9) rfl (by decide +kernel) (by first | rfl | decide) (by first | rfl | decide) (Nat.le_of_ble_eq_true rfl) dX8_take_40 (fun H locs hP hD hS => ?_)
  have hP : va_P D vwCl [(a0, .inr (8, [.ref a1, .int 1, g2, g3, g4, g5])), (a1, .inl (K 0, 400, .inl f_5))] H := hP
  have hD : va_D A [(a0, .inr (8, [.ref a1, .int 1, g2, g3, g4, g5])), (a1, .inl (K 0, 400, .inl f_5))] := hD
  refine lv_iinc (v := 16) (lv' := [(2, .int 16), (0, .ref a0), (1, .int x)]) hx hb dX8_take_43 hl (k := 0) rfl (by decide) (by decide) rfl (fun ls hl => ?_)
  refine lv_goto (tgt := 3) hx hb dX8_take_46 (by decide) ?_
  refine lv_iload_n hx hb dX8_take_3 rfl (lv_at hl 0 rfl) ?_
  refine lv_if_lt (tgt := 49) hx hb dX8_take_4 (by decide) (fun c_7 => absurd c_7 (by decide)) (fun c_7 => ?_)
  refine lv_aload_n hx hb dX8_take_7 rfl (lv_at hl 1 rfl) ?_
  refine va_get (ci := 8) (v := .int 1) (C := RX8) (T := TX8) (N := 6) hx hb hts hw8 hown hK hP 0 rfl rfl 1 (by decide) (hts (.fieldLink RX8 15 "SmokeTune$Tape" "length" "I") (List.mem_cons_of_mem _ (List.mem_append_left _ (List.mem_of_getElem? (i := 0) rfl)))) (fun _ h9 => h9) rfl dX8_take_8 ?_
  refine lv_sipush (v := 400) hx hb dX8_take_11 (by decide) ?_
  refine lv_icmp_ge (tgt := 49) hx hb dX8_take_14 (by decide) (fun c_8 => absurd c_8 (by decide)) (fun c_8 => ?_)
  refine lv_aload_n hx hb dX8_take_17 rfl (lv_at hl 1 rfl) ?_
  refine va_get (ci := 8) (v := .ref a1) (C := RX8) (T := TX8) (N := 6) hx hb hts hw8 hown hK hP 0 rfl rfl 0 (by decide) (hts (.fieldLink RX8 11 "SmokeTune$Tape" "bytes" "[I") (List.mem_cons_of_mem _ (List.mem_append_left _ (List.mem_of_getElem? (i := 1) rfl)))) (fun _ h9 => h9) rfl dX8_take_18 ?_
  refine lv_aload_n hx hb dX8_take_21 rfl (lv_at hl 1 rfl) ?_
  refine va_get (ci := 8) (v := .int 1) (C := RX8) (T := TX8) (N := 6) hx hb hts hw8 hown hK hP 0 rfl rfl 1 (by decide) (hts (.fieldLink RX8 15 "SmokeTune$Tape" "length" "I") (List.mem_cons_of_mem _ (List.mem_append_left _ (List.mem_of_getElem? (i := 0) rfl)))) (fun _ h9 => h9) rfl dX8_take_22 ?_
  refine lv_iload_n hx hb dX8_take_25 rfl (lv_at hl 2 rfl) ?_
  refine lv_iload_n hx hb dX8_take_26 rfl (lv_at hl 0 rfl) ?_
  refine lv_ishr hx hb dX8_take_27 ?_
  refine lv_topi (fun x_9 ex_9 => ?_)
  refine lv_sipush (v := 255) hx hb dX8_take_28 (by decide) ?_
  refine lv_iand hx hb dX8_take_31 ?_
  refine lv_topi (fun x_10 ex_10 => ?_)
  refine va_iast hx hb hK hP hD hS 1 0 rfl rfl (i_in (x := 1) rfl (by omega)) dX8_take_32 (fun H locs hP hD hS => ?_)
  generalize hf_11 : (upd f_5 (1 : Int32).toNatClampNeg x_10) = f_11 at hP hD
  have hP : va_P D vwCl [(a0, .inr (8, [.ref a1, .int 1, g2, g3, g4, g5])), (a1, .inl (K 0, 400, .inl f_11))] H := hP
  have hD : va_D A [(a0, .inr (8, [.ref a1, .int 1, g2, g3, g4, g5])), (a1, .inl (K 0, 400, .inl f_11))] := hD
  refine lv_aload_n hx hb dX8_take_33 rfl (lv_at hl 1 rfl) ?_
  refine lv_dup hx hb dX8_take_34 rfl ?_
  refine va_get (ci := 8) (v := .int 1) (C := RX8) (T := TX8) (N := 6) hx hb hts hw8 hown hK hP 0 rfl rfl 1 (by decide) (hts (.fieldLink RX8 15 "SmokeTune$Tape" "length" "I") (List.mem_cons_of_mem _ (List.mem_append_left _ (List.mem_of_getElem? (i := 0) rfl)))) (fun _ h9 => h9) rfl dX8_take_35 ?_
  refine lv_iconst (v := 1) hx hb dX8_take_38 (by decide) ?_
  refine lv_iadd hx hb dX8_take_39 ?_
  refine lv_topi (fun x_12 ex_12 => ?_)
  obtain rfl : x_12 = 2 := ex_12.trans (by first | rfl | decide)
  refine va_put (ci := 8) (v := .int 2) (ty := .int) (C := RX8) (T := TX8) (N := 6) hx hb hts hw8 tyX8 tyX8_ok nmX8 hown hK hP hD hS 0 rfl rfl 1 (by decide) (hts (.fieldLink RX8 15 "SmokeTune$Tape" "length" "I") (List.mem_cons_of_mem _ (List.mem_append_left _ (List.mem_of_getElem? (i := 0) rfl)))) (fun _ h9 => h9) rfl (by decide +kernel) (by first | rfl | decide) (by first | rfl | decide) (Nat.le_of_ble_eq_true rfl) dX8_take_40 (fun H locs hP hD hS => ?_)
  have hP : va_P D vwCl [(a0, .inr (8, [.ref a1, .int 2, g2, g3, g4, g5])), (a1, .inl (K 0, 400, .inl f_11))] H := hP
  have hD : va_D A [(a0, .inr (8, [.ref a1, .int 2, g2, g3, g4, g5])), (a1, .inl (K 0, 400, .inl f_11))] := hD
  refine lv_iinc (v := 8) (lv' := [(2, .int 8), (0, .ref a0), (1, .int x)]) hx hb dX8_take_43 hl (k := 0) rfl (by decide) (by decide) rfl (fun ls hl => ?_)
  refine lv_goto (tgt := 3) hx hb dX8_take_46 (by decide) ?_
  refine lv_iload_n hx hb dX8_take_3 rfl (lv_at hl 0 rfl) ?_
  refine lv_if_lt (tgt := 49) hx hb dX8_take_4 (by decide) (fun c_13 => absurd c_13 (by decide)) (fun c_13 => ?_)
  refine lv_aload_n hx hb dX8_take_7 rfl (lv_at hl 1 rfl) ?_
  refine va_get (ci := 8) (v := .int 2) (C := RX8) (T := TX8) (N := 6) hx hb hts hw8 hown hK hP 0 rfl rfl 1 (by decide) (hts (.fieldLink RX8 15 "SmokeTune$Tape" "length" "I") (List.mem_cons_of_mem _ (List.mem_append_left _ (List.mem_of_getElem? (i := 0) rfl)))) (fun _ h9 => h9) rfl dX8_take_8 ?_
  refine lv_sipush (v := 400) hx hb dX8_take_11 (by decide) ?_
  refine lv_icmp_ge (tgt := 49) hx hb dX8_take_14 (by decide) (fun c_14 => absurd c_14 (by decide)) (fun c_14 => ?_)
  refine lv_aload_n hx hb dX8_take_17 rfl (lv_at hl 1 rfl) ?_
  refine va_get (ci := 8) (v := .ref a1) (C := RX8) (T := TX8) (N := 6) hx hb hts hw8 hown hK hP 0 rfl rfl 0 (by decide) (hts (.fieldLink RX8 11 "SmokeTune$Tape" "bytes" "[I") (List.mem_cons_of_mem _ (List.mem_append_left _ (List.mem_of_getElem? (i := 1) rfl)))) (fun _ h9 => h9) rfl dX8_take_18 ?_
  refine lv_aload_n hx hb dX8_take_21 rfl (lv_at hl 1 rfl) ?_
  refine va_get (ci := 8) (v := .int 2) (C := RX8) (T := TX8) (N := 6) hx hb hts hw8 hown hK hP 0 rfl rfl 1 (by decide) (hts (.fieldLink RX8 15 "SmokeTune$Tape" "length" "I") (List.mem_cons_of_mem _ (List.mem_append_left _ (List.mem_of_getElem? (i := 0) rfl)))) (fun _ h9 => h9) rfl dX8_take_22 ?_
  refine lv_iload_n hx hb dX8_take_25 rfl (lv_at hl 2 rfl) ?_
  refine lv_iload_n hx hb dX8_take_26 rfl (lv_at hl 0 rfl) ?_
  refine lv_ishr hx hb dX8_take_27 ?_
  refine lv_topi (fun x_15 ex_15 => ?_)
  refine lv_sipush (v := 255) hx hb dX8_take_28 (by decide) ?_
  refine lv_iand hx hb dX8_take_31 ?_
  refine lv_topi (fun x_16 ex_16 => ?_)
  refine va_iast hx hb hK hP hD hS 1 0 rfl rfl (i_in (x := 2) rfl (by omega)) dX8_take_32 (fun H locs hP hD hS => ?_)
  generalize hf_17 : (upd f_11 (2 : Int32).toNatClampNeg x_16) = f_17 at hP hD
  have hP : va_P D vwCl [(a0, .inr (8, [.ref a1, .int 2, g2, g3, g4, g5])), (a1, .inl (K 0, 400, .inl f_17))] H := hP
  have hD : va_D A [(a0, .inr (8, [.ref a1, .int 2, g2, g3, g4, g5])), (a1, .inl (K 0, 400, .inl f_17))] := hD
  refine lv_aload_n hx hb dX8_take_33 rfl (lv_at hl 1 rfl) ?_
  refine lv_dup hx hb dX8_take_34 rfl ?_
  refine va_get (ci := 8) (v := .int 2) (C := RX8) (T := TX8) (N := 6) hx hb hts hw8 hown hK hP 0 rfl rfl 1 (by decide) (hts (.fieldLink RX8 15 "SmokeTune$Tape" "length" "I") (List.mem_cons_of_mem _ (List.mem_append_left _ (List.mem_of_getElem? (i := 0) rfl)))) (fun _ h9 => h9) rfl dX8_take_35 ?_
  refine lv_iconst (v := 1) hx hb dX8_take_38 (by decide) ?_
  refine lv_iadd hx hb dX8_take_39 ?_
  refine lv_topi (fun x_18 ex_18 => ?_)
  obtain rfl : x_18 = 3 := ex_18.trans (by first | rfl | decide)
  refine va_put (ci := 8) (v := .int 3) (ty := .int) (C := RX8) (T := TX8) (N := 6) hx hb hts hw8 tyX8 tyX8_ok nmX8 hown hK hP hD hS 0 rfl rfl 1 (by decide) (hts (.fieldLink RX8 15 "SmokeTune$Tape" "length" "I") (List.mem_cons_of_mem _ (List.mem_append_left _ (List.mem_of_getElem? (i := 0) rfl)))) (fun _ h9 => h9) rfl (by decide +kernel) (by first | rfl | decide) (by first | rfl | decide) (Nat.le_of_ble_eq_true rfl) dX8_take_40 (fun H locs hP hD hS => ?_)
  have hP : va_P D vwCl [(a0, .inr (8, [.ref a1, .int 3, g2, g3, g4, g5])), (a1, .inl (K 0, 400, .inl f_17))] H := hP
  have hD : va_D A [(a0, .inr (8, [.ref a1, .int 3, g2, g3, g4, g5])), (a1, .inl (K 0, 400, .inl f_17))] := hD
  refine lv_iinc (v := 0) (lv' := [(2, .int 0), (0, .ref a0), (1, .int x)]) hx hb dX8_take_43 hl (k := 0) rfl (by decide) (by decide) rfl (fun ls hl => ?_)
  refine lv_goto (tgt := 3) hx hb dX8_take_46 (by decide) ?_
  refine lv_iload_n hx hb dX8_take_3 rfl (lv_at hl 0 rfl) ?_
  refine lv_if_lt (tgt := 49) hx hb dX8_take_4 (by decide) (fun c_19 => absurd c_19 (by decide)) (fun c_19 => ?_)
  refine lv_aload_n hx hb dX8_take_7 rfl (lv_at hl 1 rfl) ?_
  refine va_get (ci := 8) (v := .int 3) (C := RX8) (T := TX8) (N := 6) hx hb hts hw8 hown hK hP 0 rfl rfl 1 (by decide) (hts (.fieldLink RX8 15 "SmokeTune$Tape" "length" "I") (List.mem_cons_of_mem _ (List.mem_append_left _ (List.mem_of_getElem? (i := 0) rfl)))) (fun _ h9 => h9) rfl dX8_take_8 ?_
  refine lv_sipush (v := 400) hx hb dX8_take_11 (by decide) ?_
  refine lv_icmp_ge (tgt := 49) hx hb dX8_take_14 (by decide) (fun c_20 => absurd c_20 (by decide)) (fun c_20 => ?_)
  refine lv_aload_n hx hb dX8_take_17 rfl (lv_at hl 1 rfl) ?_
  refine va_get (ci := 8) (v := .ref a1) (C := RX8) (T := TX8) (N := 6) hx hb hts hw8 hown hK hP 0 rfl rfl 0 (by decide) (hts (.fieldLink RX8 11 "SmokeTune$Tape" "bytes" "[I") (List.mem_cons_of_mem _ (List.mem_append_left _ (List.mem_of_getElem? (i := 1) rfl)))) (fun _ h9 => h9) rfl dX8_take_18 ?_
  refine lv_aload_n hx hb dX8_take_21 rfl (lv_at hl 1 rfl) ?_
  refine va_get (ci := 8) (v := .int 3) (C := RX8) (T := TX8) (N := 6) hx hb hts hw8 hown hK hP 0 rfl rfl 1 (by decide) (hts (.fieldLink RX8 15 "SmokeTune$Tape" "length" "I") (List.mem_cons_of_mem _ (List.mem_append_left _ (List.mem_of_getElem? (i := 0) rfl)))) (fun _ h9 => h9) rfl dX8_take_22 ?_
  refine lv_iload_n hx hb dX8_take_25 rfl (lv_at hl 2 rfl) ?_
  refine lv_iload_n hx hb dX8_take_26 rfl (lv_at hl 0 rfl) ?_
  refine lv_ishr hx hb dX8_take_27 ?_
  refine lv_topi (fun x_21 ex_21 => ?_)
  refine lv_sipush (v := 255) hx hb dX8_take_28 (by decide) ?_
  refine lv_iand hx hb dX8_take_31 ?_
  refine lv_topi (fun x_22 ex_22 => ?_)
  refine va_iast hx hb hK hP hD hS 1 0 rfl rfl (i_in (x := 3) rfl (by omega)) dX8_take_32 (fun H locs hP hD hS => ?_)
  generalize hf_23 : (upd f_17 (3 : Int32).toNatClampNeg x_22) = f_23 at hP hD
  have hP : va_P D vwCl [(a0, .inr (8, [.ref a1, .int 3, g2, g3, g4, g5])), (a1, .inl (K 0, 400, .inl f_23))] H := hP
  have hD : va_D A [(a0, .inr (8, [.ref a1, .int 3, g2, g3, g4, g5])), (a1, .inl (K 0, 400, .inl f_23))] := hD
  refine lv_aload_n hx hb dX8_take_33 rfl (lv_at hl 1 rfl) ?_
  refine lv_dup hx hb dX8_take_34 rfl ?_
  refine va_get (ci := 8) (v := .int 3) (C := RX8) (T := TX8) (N := 6) hx hb hts hw8 hown hK hP 0 rfl rfl 1 (by decide) (hts (.fieldLink RX8 15 "SmokeTune$Tape" "length" "I") (List.mem_cons_of_mem _ (List.mem_append_left _ (List.mem_of_getElem? (i := 0) rfl)))) (fun _ h9 => h9) rfl dX8_take_35 ?_
  refine lv_iconst (v := 1) hx hb dX8_take_38 (by decide) ?_
  refine lv_iadd hx hb dX8_take_39 ?_
  refine lv_topi (fun x_24 ex_24 => ?_)
  obtain rfl : x_24 = 4 := ex_24.trans (by first | rfl | decide)
  refine va_put (ci := 8) (v := .int 4) (ty := .int) (C := RX8) (T := TX8) (N := 6) hx hb hts hw8 tyX8 tyX8_ok nmX8 hown hK hP hD hS 0 rfl rfl 1 (by decide) (hts (.fieldLink RX8 15 "SmokeTune$Tape" "length" "I") (List.mem_cons_of_mem _ (List.mem_append_left _ (List.mem_of_getElem? (i := 0) rfl)))) (fun _ h9 => h9) rfl (by decide +kernel) (by first | rfl | decide) (by first | rfl | decide) (Nat.le_of_ble_eq_true rfl) dX8_take_40 (fun H locs hP hD hS => ?_)
  have hP : va_P D vwCl [(a0, .inr (8, [.ref a1, .int 4, g2, g3, g4, g5])), (a1, .inl (K 0, 400, .inl f_23))] H := hP
  have hD : va_D A [(a0, .inr (8, [.ref a1, .int 4, g2, g3, g4, g5])), (a1, .inl (K 0, 400, .inl f_23))] := hD
  refine lv_iinc (v := (-8)) (lv' := [(2, .int (-8)), (0, .ref a0), (1, .int x)]) hx hb dX8_take_43 hl (k := 0) rfl (by decide) (by decide) rfl (fun ls hl => ?_)
  refine lv_goto (tgt := 3) hx hb dX8_take_46 (by decide) ?_
  refine lv_iload_n hx hb dX8_take_3 rfl (lv_at hl 0 rfl) ?_
  refine lv_if_lt (tgt := 49) hx hb dX8_take_4 (by decide) (fun c_25 => ?_) (fun c_25 => absurd (by decide) c_25)
  have hP9 := hP.sub (ws' := [(a0, .inr (8, [.ref a1, .int 4, g2, g3, g4, g5])), (a1, .inl (K 0, 400, .inl f_23))]) [0, 1] rfl
  have hD9 := hD.sub (ws' := [(a0, .inr (8, [.ref a1, .int 4, g2, g3, g4, g5])), (a1, .inl (K 0, 400, .inl f_23))]) [0, 1] (by decide) rfl
  exact W.vret hx hb hr (fun t ht hW => ⟨⟨(fun _ => 0, fun i => match i with | _ => f_23, fun _ => fun _ => 0, fun _ => 0), rfl, trivial, (⟨by rw [ht]; exact hP9, hD9⟩ : Wd D A _ t)⟩, hS.F ht⟩) hS.2.2 dX8_take_49
set_option maxHeartbeats 4000000 in
set_option maxRecDepth 100000 in
theorem c_take_4 (l : Launch) (D : va_G) (K : Nat → ClassId) (a0 : Nat) (x : Int32) (a1 : Nat) (g2 : Value) (g3 : Value) (g4 : Value) (g5 : Value) (f : Nat → Int32) (sz : Nat) : Met l yX8_take wsX8_take ({ frames := 0, cells := 0, slots := 0, locals := 0 }) (va_Pc [.ref a0, .int x] (Pre D K [(a0, .inr (8, [.ref a1, .int 4, g2, g3, g4, g5])), (a1, .inl (K 0, 400, .inl f))] sz)) (va_Qv (S := (Nat → Nat) × (Nat → Nat → Int32) × (Nat → Nat → Int64) × (Nat → Int32)) (fun _ => True) (fun u t => Wd D (va_A [(a0, .inr (8, [.ref a1, .int 4, g2, g3, g4, g5])), (a1, .inl (K 0, 400, .inl f))] sz) ((fun u => [(a0, .inr (8, [.ref a1, .int 8, g2, g3, g4, g5])), (a1, .inl (K 0, 400, .inl ((u.2.1 0))))]) u) t) (va_A [(a0, .inr (8, [.ref a1, .int 4, g2, g3, g4, g5])), (a1, .inl (K 0, 400, .inl f))] sz)) 0 0 (va_A [(a0, .inr (8, [.ref a1, .int 4, g2, g3, g4, g5])), (a1, .inl (K 0, 400, .inl f))] sz) := by
  refine Met.ofW (cc := cX8_take) (maxL := 3) (ret := none) (by decide) rfl ?_
  intro p e s m args below meth c s₁ B hml hv
  obtain ⟨rfl, hsz, hP, hK, hD0, hN⟩ := hv
  have hx := B.exec
  have hb := B.bytes
  have hr := B.returns
  have hts := atoms_spec (ws := wsX8_take) B.pre
  have hown : s.vm.findClass RX8 = some m.cls := findClass_of_methodNamed B.named
  have hlocks := B.notSynchronized
  subst hsz
  have hD := hD0.self (sz := s.heap.size)
  generalize hAe : va_A [(a0, .inr (8, [.ref a1, .int 4, g2, g3, g4, g5])), (a1, .inl (K 0, 400, .inl f))] s.heap.size = A at hD ⊢
  have hA : ∀ q : Nat, s.heap.size ≤ q → A q := fun q h => by rw [← hAe]; exact Or.inr h
  have hS : va_S A s.heap s.heap [] := va_S.rf
  have hP : va_P D vwCl [(a0, .inr (8, [.ref a1, .int 4, g2, g3, g4, g5])), (a1, .inl (K 0, 400, .inl f))] s.heap := hP
  have hl := lv_entry [.ref a0, .int x] (n := 3) (Nat.le_of_ble_eq_true rfl)
  rw [lg_entry_eq]
  generalize (lg_sl [.ref a0, .int x] ++ List.replicate (3 - (lg_sl [.ref a0, .int x]).length) Slot.unset).toArray = ls at hl ⊢
  have hl : lv_has ls 3 [(0, .ref a0), (1, .int x)] := hl
  have hw8 : ∀ w ∈ wsX80, w ∈ wsX8_take := fun w h => (List.mem_cons_of_mem _ (List.mem_append_right _ h))
  refine lv_bipush (v := 24) hx hb dX8_take_0 (by decide) ?_
  refine lv_istore_n (lv' := [(2, .int 24), (0, .ref a0), (1, .int x)]) hx hb dX8_take_2 rfl hl (by decide) rfl (fun ls hl => ?_)
  refine lv_iload_n hx hb dX8_take_3 rfl (lv_at hl 0 rfl) ?_
  refine lv_if_lt (tgt := 49) hx hb dX8_take_4 (by decide) (fun c_1 => absurd c_1 (by decide)) (fun c_1 => ?_)
  refine lv_aload_n hx hb dX8_take_7 rfl (lv_at hl 1 rfl) ?_
  refine va_get (ci := 8) (v := .int 4) (C := RX8) (T := TX8) (N := 6) hx hb hts hw8 hown hK hP 0 rfl rfl 1 (by decide) (hts (.fieldLink RX8 15 "SmokeTune$Tape" "length" "I") (List.mem_cons_of_mem _ (List.mem_append_left _ (List.mem_of_getElem? (i := 0) rfl)))) (fun _ h9 => h9) rfl dX8_take_8 ?_
  refine lv_sipush (v := 400) hx hb dX8_take_11 (by decide) ?_
  refine lv_icmp_ge (tgt := 49) hx hb dX8_take_14 (by decide) (fun c_2 => absurd c_2 (by decide)) (fun c_2 => ?_)
  refine lv_aload_n hx hb dX8_take_17 rfl (lv_at hl 1 rfl) ?_
  refine va_get (ci := 8) (v := .ref a1) (C := RX8) (T := TX8) (N := 6) hx hb hts hw8 hown hK hP 0 rfl rfl 0 (by decide) (hts (.fieldLink RX8 11 "SmokeTune$Tape" "bytes" "[I") (List.mem_cons_of_mem _ (List.mem_append_left _ (List.mem_of_getElem? (i := 1) rfl)))) (fun _ h9 => h9) rfl dX8_take_18 ?_
  refine lv_aload_n hx hb dX8_take_21 rfl (lv_at hl 1 rfl) ?_
  refine va_get (ci := 8) (v := .int 4) (C := RX8) (T := TX8) (N := 6) hx hb hts hw8 hown hK hP 0 rfl rfl 1 (by decide) (hts (.fieldLink RX8 15 "SmokeTune$Tape" "length" "I") (List.mem_cons_of_mem _ (List.mem_append_left _ (List.mem_of_getElem? (i := 0) rfl)))) (fun _ h9 => h9) rfl dX8_take_22 ?_
  refine lv_iload_n hx hb dX8_take_25 rfl (lv_at hl 2 rfl) ?_
  refine lv_iload_n hx hb dX8_take_26 rfl (lv_at hl 0 rfl) ?_
  refine lv_ishr hx hb dX8_take_27 ?_
  refine lv_topi (fun x_3 ex_3 => ?_)
  refine lv_sipush (v := 255) hx hb dX8_take_28 (by decide) ?_
  refine lv_iand hx hb dX8_take_31 ?_
  refine lv_topi (fun x_4 ex_4 => ?_)
  refine va_iast hx hb hK hP hD hS 1 0 rfl rfl (i_in (x := 4) rfl (by omega)) dX8_take_32 (fun H locs hP hD hS => ?_)
  generalize hf_5 : (upd f (4 : Int32).toNatClampNeg x_4) = f_5 at hP hD
  have hP : va_P D vwCl [(a0, .inr (8, [.ref a1, .int 4, g2, g3, g4, g5])), (a1, .inl (K 0, 400, .inl f_5))] H := hP
  have hD : va_D A [(a0, .inr (8, [.ref a1, .int 4, g2, g3, g4, g5])), (a1, .inl (K 0, 400, .inl f_5))] := hD
  refine lv_aload_n hx hb dX8_take_33 rfl (lv_at hl 1 rfl) ?_
  refine lv_dup hx hb dX8_take_34 rfl ?_
  refine va_get (ci := 8) (v := .int 4) (C := RX8) (T := TX8) (N := 6) hx hb hts hw8 hown hK hP 0 rfl rfl 1 (by decide) (hts (.fieldLink RX8 15 "SmokeTune$Tape" "length" "I") (List.mem_cons_of_mem _ (List.mem_append_left _ (List.mem_of_getElem? (i := 0) rfl)))) (fun _ h9 => h9) rfl dX8_take_35 ?_
  refine lv_iconst (v := 1) hx hb dX8_take_38 (by decide) ?_
  refine lv_iadd hx hb dX8_take_39 ?_
  refine lv_topi (fun x_6 ex_6 => ?_)
  obtain rfl : x_6 = 5 := ex_6.trans (by first | rfl | decide)
  refine va_put (ci := 8) (v := .int 5) (ty := .int) (C := RX8) (T := TX8) (N := 6) hx hb hts hw8 tyX8 tyX8_ok nmX8 hown hK hP hD hS 0 rfl rfl 1 (by decide) (hts (.fieldLink RX8 15 "SmokeTune$Tape" "length" "I") (List.mem_cons_of_mem _ (List.mem_append_left _ (List.mem_of_getElem? (i := 0) rfl)))) (fun _ h9 => h9) rfl (by decide +kernel) (by first | rfl | decide) (by first | rfl | decide) (Nat.le_of_ble_eq_true rfl) dX8_take_40 (fun H locs hP hD hS => ?_)
  have hP : va_P D vwCl [(a0, .inr (8, [.ref a1, .int 5, g2, g3, g4, g5])), (a1, .inl (K 0, 400, .inl f_5))] H := hP
  have hD : va_D A [(a0, .inr (8, [.ref a1, .int 5, g2, g3, g4, g5])), (a1, .inl (K 0, 400, .inl f_5))] := hD
  refine lv_iinc (v := 16) (lv' := [(2, .int 16), (0, .ref a0), (1, .int x)]) hx hb dX8_take_43 hl (k := 0) rfl (by decide) (by decide) rfl (fun ls hl => ?_)
  refine lv_goto (tgt := 3) hx hb dX8_take_46 (by decide) ?_
  refine lv_iload_n hx hb dX8_take_3 rfl (lv_at hl 0 rfl) ?_
  refine lv_if_lt (tgt := 49) hx hb dX8_take_4 (by decide) (fun c_7 => absurd c_7 (by decide)) (fun c_7 => ?_)
  refine lv_aload_n hx hb dX8_take_7 rfl (lv_at hl 1 rfl) ?_
  refine va_get (ci := 8) (v := .int 5) (C := RX8) (T := TX8) (N := 6) hx hb hts hw8 hown hK hP 0 rfl rfl 1 (by decide) (hts (.fieldLink RX8 15 "SmokeTune$Tape" "length" "I") (List.mem_cons_of_mem _ (List.mem_append_left _ (List.mem_of_getElem? (i := 0) rfl)))) (fun _ h9 => h9) rfl dX8_take_8 ?_
  refine lv_sipush (v := 400) hx hb dX8_take_11 (by decide) ?_
  refine lv_icmp_ge (tgt := 49) hx hb dX8_take_14 (by decide) (fun c_8 => absurd c_8 (by decide)) (fun c_8 => ?_)
  refine lv_aload_n hx hb dX8_take_17 rfl (lv_at hl 1 rfl) ?_
  refine va_get (ci := 8) (v := .ref a1) (C := RX8) (T := TX8) (N := 6) hx hb hts hw8 hown hK hP 0 rfl rfl 0 (by decide) (hts (.fieldLink RX8 11 "SmokeTune$Tape" "bytes" "[I") (List.mem_cons_of_mem _ (List.mem_append_left _ (List.mem_of_getElem? (i := 1) rfl)))) (fun _ h9 => h9) rfl dX8_take_18 ?_
  refine lv_aload_n hx hb dX8_take_21 rfl (lv_at hl 1 rfl) ?_
  refine va_get (ci := 8) (v := .int 5) (C := RX8) (T := TX8) (N := 6) hx hb hts hw8 hown hK hP 0 rfl rfl 1 (by decide) (hts (.fieldLink RX8 15 "SmokeTune$Tape" "length" "I") (List.mem_cons_of_mem _ (List.mem_append_left _ (List.mem_of_getElem? (i := 0) rfl)))) (fun _ h9 => h9) rfl dX8_take_22 ?_
  refine lv_iload_n hx hb dX8_take_25 rfl (lv_at hl 2 rfl) ?_
  refine lv_iload_n hx hb dX8_take_26 rfl (lv_at hl 0 rfl) ?_
  refine lv_ishr hx hb dX8_take_27 ?_
  refine lv_topi (fun x_9 ex_9 => ?_)
  refine lv_sipush (v := 255) hx hb dX8_take_28 (by decide) ?_
  refine lv_iand hx hb dX8_take_31 ?_
  refine lv_topi (fun x_10 ex_10 => ?_)
  refine va_iast hx hb hK hP hD hS 1 0 rfl rfl (i_in (x := 5) rfl (by omega)) dX8_take_32 (fun H locs hP hD hS => ?_)
  generalize hf_11 : (upd f_5 (5 : Int32).toNatClampNeg x_10) = f_11 at hP hD
  have hP : va_P D vwCl [(a0, .inr (8, [.ref a1, .int 5, g2, g3, g4, g5])), (a1, .inl (K 0, 400, .inl f_11))] H := hP
  have hD : va_D A [(a0, .inr (8, [.ref a1, .int 5, g2, g3, g4, g5])), (a1, .inl (K 0, 400, .inl f_11))] := hD
  refine lv_aload_n hx hb dX8_take_33 rfl (lv_at hl 1 rfl) ?_
  refine lv_dup hx hb dX8_take_34 rfl ?_
  refine va_get (ci := 8) (v := .int 5) (C := RX8) (T := TX8) (N := 6) hx hb hts hw8 hown hK hP 0 rfl rfl 1 (by decide) (hts (.fieldLink RX8 15 "SmokeTune$Tape" "length" "I") (List.mem_cons_of_mem _ (List.mem_append_left _ (List.mem_of_getElem? (i := 0) rfl)))) (fun _ h9 => h9) rfl dX8_take_35 ?_
  refine lv_iconst (v := 1) hx hb dX8_take_38 (by decide) ?_
  refine lv_iadd hx hb dX8_take_39 ?_
  refine lv_topi (fun x_12 ex_12 => ?_)
  obtain rfl : x_12 = 6 := ex_12.trans (by first | rfl | decide)
  refine va_put (ci := 8) (v := .int 6) (ty := .int) (C := RX8) (T := TX8) (N := 6) hx hb hts hw8 tyX8 tyX8_ok nmX8 hown hK hP hD hS 0 rfl rfl 1 (by decide) (hts (.fieldLink RX8 15 "SmokeTune$Tape" "length" "I") (List.mem_cons_of_mem _ (List.mem_append_left _ (List.mem_of_getElem? (i := 0) rfl)))) (fun _ h9 => h9) rfl (by decide +kernel) (by first | rfl | decide) (by first | rfl | decide) (Nat.le_of_ble_eq_true rfl) dX8_take_40 (fun H locs hP hD hS => ?_)
  have hP : va_P D vwCl [(a0, .inr (8, [.ref a1, .int 6, g2, g3, g4, g5])), (a1, .inl (K 0, 400, .inl f_11))] H := hP
  have hD : va_D A [(a0, .inr (8, [.ref a1, .int 6, g2, g3, g4, g5])), (a1, .inl (K 0, 400, .inl f_11))] := hD
  refine lv_iinc (v := 8) (lv' := [(2, .int 8), (0, .ref a0), (1, .int x)]) hx hb dX8_take_43 hl (k := 0) rfl (by decide) (by decide) rfl (fun ls hl => ?_)
  refine lv_goto (tgt := 3) hx hb dX8_take_46 (by decide) ?_
  refine lv_iload_n hx hb dX8_take_3 rfl (lv_at hl 0 rfl) ?_
  refine lv_if_lt (tgt := 49) hx hb dX8_take_4 (by decide) (fun c_13 => absurd c_13 (by decide)) (fun c_13 => ?_)
  refine lv_aload_n hx hb dX8_take_7 rfl (lv_at hl 1 rfl) ?_
  refine va_get (ci := 8) (v := .int 6) (C := RX8) (T := TX8) (N := 6) hx hb hts hw8 hown hK hP 0 rfl rfl 1 (by decide) (hts (.fieldLink RX8 15 "SmokeTune$Tape" "length" "I") (List.mem_cons_of_mem _ (List.mem_append_left _ (List.mem_of_getElem? (i := 0) rfl)))) (fun _ h9 => h9) rfl dX8_take_8 ?_
  refine lv_sipush (v := 400) hx hb dX8_take_11 (by decide) ?_
  refine lv_icmp_ge (tgt := 49) hx hb dX8_take_14 (by decide) (fun c_14 => absurd c_14 (by decide)) (fun c_14 => ?_)
  refine lv_aload_n hx hb dX8_take_17 rfl (lv_at hl 1 rfl) ?_
  refine va_get (ci := 8) (v := .ref a1) (C := RX8) (T := TX8) (N := 6) hx hb hts hw8 hown hK hP 0 rfl rfl 0 (by decide) (hts (.fieldLink RX8 11 "SmokeTune$Tape" "bytes" "[I") (List.mem_cons_of_mem _ (List.mem_append_left _ (List.mem_of_getElem? (i := 1) rfl)))) (fun _ h9 => h9) rfl dX8_take_18 ?_
  refine lv_aload_n hx hb dX8_take_21 rfl (lv_at hl 1 rfl) ?_
  refine va_get (ci := 8) (v := .int 6) (C := RX8) (T := TX8) (N := 6) hx hb hts hw8 hown hK hP 0 rfl rfl 1 (by decide) (hts (.fieldLink RX8 15 "SmokeTune$Tape" "length" "I") (List.mem_cons_of_mem _ (List.mem_append_left _ (List.mem_of_getElem? (i := 0) rfl)))) (fun _ h9 => h9) rfl dX8_take_22 ?_
  refine lv_iload_n hx hb dX8_take_25 rfl (lv_at hl 2 rfl) ?_
  refine lv_iload_n hx hb dX8_take_26 rfl (lv_at hl 0 rfl) ?_
  refine lv_ishr hx hb dX8_take_27 ?_
  refine lv_topi (fun x_15 ex_15 => ?_)
  refine lv_sipush (v := 255) hx hb dX8_take_28 (by decide) ?_
  refine lv_iand hx hb dX8_take_31 ?_
  refine lv_topi (fun x_16 ex_16 => ?_)
  refine va_iast hx hb hK hP hD hS 1 0 rfl rfl (i_in (x := 6) rfl (by omega)) dX8_take_32 (fun H locs hP hD hS => ?_)
  generalize hf_17 : (upd f_11 (6 : Int32).toNatClampNeg x_16) = f_17 at hP hD
  have hP : va_P D vwCl [(a0, .inr (8, [.ref a1, .int 6, g2, g3, g4, g5])), (a1, .inl (K 0, 400, .inl f_17))] H := hP
  have hD : va_D A [(a0, .inr (8, [.ref a1, .int 6, g2, g3, g4, g5])), (a1, .inl (K 0, 400, .inl f_17))] := hD
  refine lv_aload_n hx hb dX8_take_33 rfl (lv_at hl 1 rfl) ?_
  refine lv_dup hx hb dX8_take_34 rfl ?_
  refine va_get (ci := 8) (v := .int 6) (C := RX8) (T := TX8) (N := 6) hx hb hts hw8 hown hK hP 0 rfl rfl 1 (by decide) (hts (.fieldLink RX8 15 "SmokeTune$Tape" "length" "I") (List.mem_cons_of_mem _ (List.mem_append_left _ (List.mem_of_getElem? (i := 0) rfl)))) (fun _ h9 => h9) rfl dX8_take_35 ?_
  refine lv_iconst (v := 1) hx hb dX8_take_38 (by decide) ?_
  refine lv_iadd hx hb dX8_take_39 ?_
  refine lv_topi (fun x_18 ex_18 => ?_)
  obtain rfl : x_18 = 7 := ex_18.trans (by first | rfl | decide)
  refine va_put (ci := 8) (v := .int 7) (ty := .int) (C := RX8) (T := TX8) (N := 6) hx hb hts hw8 tyX8 tyX8_ok nmX8 hown hK hP hD hS 0 rfl rfl 1 (by decide) (hts (.fieldLink RX8 15 "SmokeTune$Tape" "length" "I") (List.mem_cons_of_mem _ (List.mem_append_left _ (List.mem_of_getElem? (i := 0) rfl)))) (fun _ h9 => h9) rfl (by decide +kernel) (by first | rfl | decide) (by first | rfl | decide) (Nat.le_of_ble_eq_true rfl) dX8_take_40 (fun H locs hP hD hS => ?_)
  have hP : va_P D vwCl [(a0, .inr (8, [.ref a1, .int 7, g2, g3, g4, g5])), (a1, .inl (K 0, 400, .inl f_17))] H := hP
  have hD : va_D A [(a0, .inr (8, [.ref a1, .int 7, g2, g3, g4, g5])), (a1, .inl (K 0, 400, .inl f_17))] := hD
  refine lv_iinc (v := 0) (lv' := [(2, .int 0), (0, .ref a0), (1, .int x)]) hx hb dX8_take_43 hl (k := 0) rfl (by decide) (by decide) rfl (fun ls hl => ?_)
  refine lv_goto (tgt := 3) hx hb dX8_take_46 (by decide) ?_
  refine lv_iload_n hx hb dX8_take_3 rfl (lv_at hl 0 rfl) ?_
  refine lv_if_lt (tgt := 49) hx hb dX8_take_4 (by decide) (fun c_19 => absurd c_19 (by decide)) (fun c_19 => ?_)
  refine lv_aload_n hx hb dX8_take_7 rfl (lv_at hl 1 rfl) ?_
  refine va_get (ci := 8) (v := .int 7) (C := RX8) (T := TX8) (N := 6) hx hb hts hw8 hown hK hP 0 rfl rfl 1 (by decide) (hts (.fieldLink RX8 15 "SmokeTune$Tape" "length" "I") (List.mem_cons_of_mem _ (List.mem_append_left _ (List.mem_of_getElem? (i := 0) rfl)))) (fun _ h9 => h9) rfl dX8_take_8 ?_
  refine lv_sipush (v := 400) hx hb dX8_take_11 (by decide) ?_
  refine lv_icmp_ge (tgt := 49) hx hb dX8_take_14 (by decide) (fun c_20 => absurd c_20 (by decide)) (fun c_20 => ?_)
  refine lv_aload_n hx hb dX8_take_17 rfl (lv_at hl 1 rfl) ?_
  refine va_get (ci := 8) (v := .ref a1) (C := RX8) (T := TX8) (N := 6) hx hb hts hw8 hown hK hP 0 rfl rfl 0 (by decide) (hts (.fieldLink RX8 11 "SmokeTune$Tape" "bytes" "[I") (List.mem_cons_of_mem _ (List.mem_append_left _ (List.mem_of_getElem? (i := 1) rfl)))) (fun _ h9 => h9) rfl dX8_take_18 ?_
  refine lv_aload_n hx hb dX8_take_21 rfl (lv_at hl 1 rfl) ?_
  refine va_get (ci := 8) (v := .int 7) (C := RX8) (T := TX8) (N := 6) hx hb hts hw8 hown hK hP 0 rfl rfl 1 (by decide) (hts (.fieldLink RX8 15 "SmokeTune$Tape" "length" "I") (List.mem_cons_of_mem _ (List.mem_append_left _ (List.mem_of_getElem? (i := 0) rfl)))) (fun _ h9 => h9) rfl dX8_take_22 ?_
  refine lv_iload_n hx hb dX8_take_25 rfl (lv_at hl 2 rfl) ?_
  refine lv_iload_n hx hb dX8_take_26 rfl (lv_at hl 0 rfl) ?_
  refine lv_ishr hx hb dX8_take_27 ?_
  refine lv_topi (fun x_21 ex_21 => ?_)
  refine lv_sipush (v := 255) hx hb dX8_take_28 (by decide) ?_
  refine lv_iand hx hb dX8_take_31 ?_
  refine lv_topi (fun x_22 ex_22 => ?_)
  refine va_iast hx hb hK hP hD hS 1 0 rfl rfl (i_in (x := 7) rfl (by omega)) dX8_take_32 (fun H locs hP hD hS => ?_)
  generalize hf_23 : (upd f_17 (7 : Int32).toNatClampNeg x_22) = f_23 at hP hD
  have hP : va_P D vwCl [(a0, .inr (8, [.ref a1, .int 7, g2, g3, g4, g5])), (a1, .inl (K 0, 400, .inl f_23))] H := hP
  have hD : va_D A [(a0, .inr (8, [.ref a1, .int 7, g2, g3, g4, g5])), (a1, .inl (K 0, 400, .inl f_23))] := hD
  refine lv_aload_n hx hb dX8_take_33 rfl (lv_at hl 1 rfl) ?_
  refine lv_dup hx hb dX8_take_34 rfl ?_
  refine va_get (ci := 8) (v := .int 7) (C := RX8) (T := TX8) (N := 6) hx hb hts hw8 hown hK hP 0 rfl rfl 1 (by decide) (hts (.fieldLink RX8 15 "SmokeTune$Tape" "length" "I") (List.mem_cons_of_mem _ (List.mem_append_left _ (List.mem_of_getElem? (i := 0) rfl)))) (fun _ h9 => h9) rfl dX8_take_35 ?_
  refine lv_iconst (v := 1) hx hb dX8_take_38 (by decide) ?_
  refine lv_iadd hx hb dX8_take_39 ?_
  refine lv_topi (fun x_24 ex_24 => ?_)
  obtain rfl : x_24 = 8 := ex_24.trans (by first | rfl | decide)
  refine va_put (ci := 8) (v := .int 8) (ty := .int) (C := RX8) (T := TX8) (N := 6) hx hb hts hw8 tyX8 tyX8_ok nmX8 hown hK hP hD hS 0 rfl rfl 1 (by decide) (hts (.fieldLink RX8 15 "SmokeTune$Tape" "length" "I") (List.mem_cons_of_mem _ (List.mem_append_left _ (List.mem_of_getElem? (i := 0) rfl)))) (fun _ h9 => h9) rfl (by decide +kernel) (by first | rfl | decide) (by first | rfl | decide) (Nat.le_of_ble_eq_true rfl) dX8_take_40 (fun H locs hP hD hS => ?_)
  have hP : va_P D vwCl [(a0, .inr (8, [.ref a1, .int 8, g2, g3, g4, g5])), (a1, .inl (K 0, 400, .inl f_23))] H := hP
  have hD : va_D A [(a0, .inr (8, [.ref a1, .int 8, g2, g3, g4, g5])), (a1, .inl (K 0, 400, .inl f_23))] := hD
  refine lv_iinc (v := (-8)) (lv' := [(2, .int (-8)), (0, .ref a0), (1, .int x)]) hx hb dX8_take_43 hl (k := 0) rfl (by decide) (by decide) rfl (fun ls hl => ?_)
  refine lv_goto (tgt := 3) hx hb dX8_take_46 (by decide) ?_
  refine lv_iload_n hx hb dX8_take_3 rfl (lv_at hl 0 rfl) ?_
  refine lv_if_lt (tgt := 49) hx hb dX8_take_4 (by decide) (fun c_25 => ?_) (fun c_25 => absurd (by decide) c_25)
  have hP9 := hP.sub (ws' := [(a0, .inr (8, [.ref a1, .int 8, g2, g3, g4, g5])), (a1, .inl (K 0, 400, .inl f_23))]) [0, 1] rfl
  have hD9 := hD.sub (ws' := [(a0, .inr (8, [.ref a1, .int 8, g2, g3, g4, g5])), (a1, .inl (K 0, 400, .inl f_23))]) [0, 1] (by decide) rfl
  exact W.vret hx hb hr (fun t ht hW => ⟨⟨(fun _ => 0, fun i => match i with | _ => f_23, fun _ => fun _ => 0, fun _ => 0), rfl, trivial, (⟨by rw [ht]; exact hP9, hD9⟩ : Wd D A _ t)⟩, hS.F ht⟩) hS.2.2 dX8_take_49
set_option maxHeartbeats 4000000 in
set_option maxRecDepth 100000 in
theorem c_take_8 (l : Launch) (D : va_G) (K : Nat → ClassId) (a0 : Nat) (x : Int32) (a1 : Nat) (g2 : Value) (g3 : Value) (g4 : Value) (g5 : Value) (f : Nat → Int32) (sz : Nat) : Met l yX8_take wsX8_take ({ frames := 0, cells := 0, slots := 0, locals := 0 }) (va_Pc [.ref a0, .int x] (Pre D K [(a0, .inr (8, [.ref a1, .int 8, g2, g3, g4, g5])), (a1, .inl (K 0, 400, .inl f))] sz)) (va_Qv (S := (Nat → Nat) × (Nat → Nat → Int32) × (Nat → Nat → Int64) × (Nat → Int32)) (fun _ => True) (fun u t => Wd D (va_A [(a0, .inr (8, [.ref a1, .int 8, g2, g3, g4, g5])), (a1, .inl (K 0, 400, .inl f))] sz) ((fun u => [(a0, .inr (8, [.ref a1, .int 12, g2, g3, g4, g5])), (a1, .inl (K 0, 400, .inl ((u.2.1 0))))]) u) t) (va_A [(a0, .inr (8, [.ref a1, .int 8, g2, g3, g4, g5])), (a1, .inl (K 0, 400, .inl f))] sz)) 0 0 (va_A [(a0, .inr (8, [.ref a1, .int 8, g2, g3, g4, g5])), (a1, .inl (K 0, 400, .inl f))] sz) := by
  refine Met.ofW (cc := cX8_take) (maxL := 3) (ret := none) (by decide) rfl ?_
  intro p e s m args below meth c s₁ B hml hv
  obtain ⟨rfl, hsz, hP, hK, hD0, hN⟩ := hv
  have hx := B.exec
  have hb := B.bytes
  have hr := B.returns
  have hts := atoms_spec (ws := wsX8_take) B.pre
  have hown : s.vm.findClass RX8 = some m.cls := findClass_of_methodNamed B.named
  have hlocks := B.notSynchronized
  subst hsz
  have hD := hD0.self (sz := s.heap.size)
  generalize hAe : va_A [(a0, .inr (8, [.ref a1, .int 8, g2, g3, g4, g5])), (a1, .inl (K 0, 400, .inl f))] s.heap.size = A at hD ⊢
  have hA : ∀ q : Nat, s.heap.size ≤ q → A q := fun q h => by rw [← hAe]; exact Or.inr h
  have hS : va_S A s.heap s.heap [] := va_S.rf
  have hP : va_P D vwCl [(a0, .inr (8, [.ref a1, .int 8, g2, g3, g4, g5])), (a1, .inl (K 0, 400, .inl f))] s.heap := hP
  have hl := lv_entry [.ref a0, .int x] (n := 3) (Nat.le_of_ble_eq_true rfl)
  rw [lg_entry_eq]
  generalize (lg_sl [.ref a0, .int x] ++ List.replicate (3 - (lg_sl [.ref a0, .int x]).length) Slot.unset).toArray = ls at hl ⊢
  have hl : lv_has ls 3 [(0, .ref a0), (1, .int x)] := hl
  have hw8 : ∀ w ∈ wsX80, w ∈ wsX8_take := fun w h => (List.mem_cons_of_mem _ (List.mem_append_right _ h))
  refine lv_bipush (v := 24) hx hb dX8_take_0 (by decide) ?_
  refine lv_istore_n (lv' := [(2, .int 24), (0, .ref a0), (1, .int x)]) hx hb dX8_take_2 rfl hl (by decide) rfl (fun ls hl => ?_)
  refine lv_iload_n hx hb dX8_take_3 rfl (lv_at hl 0 rfl) ?_
  refine lv_if_lt (tgt := 49) hx hb dX8_take_4 (by decide) (fun c_1 => absurd c_1 (by decide)) (fun c_1 => ?_)
  refine lv_aload_n hx hb dX8_take_7 rfl (lv_at hl 1 rfl) ?_
  refine va_get (ci := 8) (v := .int 8) (C := RX8) (T := TX8) (N := 6) hx hb hts hw8 hown hK hP 0 rfl rfl 1 (by decide) (hts (.fieldLink RX8 15 "SmokeTune$Tape" "length" "I") (List.mem_cons_of_mem _ (List.mem_append_left _ (List.mem_of_getElem? (i := 0) rfl)))) (fun _ h9 => h9) rfl dX8_take_8 ?_
  refine lv_sipush (v := 400) hx hb dX8_take_11 (by decide) ?_
  refine lv_icmp_ge (tgt := 49) hx hb dX8_take_14 (by decide) (fun c_2 => absurd c_2 (by decide)) (fun c_2 => ?_)
  refine lv_aload_n hx hb dX8_take_17 rfl (lv_at hl 1 rfl) ?_
  refine va_get (ci := 8) (v := .ref a1) (C := RX8) (T := TX8) (N := 6) hx hb hts hw8 hown hK hP 0 rfl rfl 0 (by decide) (hts (.fieldLink RX8 11 "SmokeTune$Tape" "bytes" "[I") (List.mem_cons_of_mem _ (List.mem_append_left _ (List.mem_of_getElem? (i := 1) rfl)))) (fun _ h9 => h9) rfl dX8_take_18 ?_
  refine lv_aload_n hx hb dX8_take_21 rfl (lv_at hl 1 rfl) ?_
  refine va_get (ci := 8) (v := .int 8) (C := RX8) (T := TX8) (N := 6) hx hb hts hw8 hown hK hP 0 rfl rfl 1 (by decide) (hts (.fieldLink RX8 15 "SmokeTune$Tape" "length" "I") (List.mem_cons_of_mem _ (List.mem_append_left _ (List.mem_of_getElem? (i := 0) rfl)))) (fun _ h9 => h9) rfl dX8_take_22 ?_
  refine lv_iload_n hx hb dX8_take_25 rfl (lv_at hl 2 rfl) ?_
  refine lv_iload_n hx hb dX8_take_26 rfl (lv_at hl 0 rfl) ?_
  refine lv_ishr hx hb dX8_take_27 ?_
  refine lv_topi (fun x_3 ex_3 => ?_)
  refine lv_sipush (v := 255) hx hb dX8_take_28 (by decide) ?_
  refine lv_iand hx hb dX8_take_31 ?_
  refine lv_topi (fun x_4 ex_4 => ?_)
  refine va_iast hx hb hK hP hD hS 1 0 rfl rfl (i_in (x := 8) rfl (by omega)) dX8_take_32 (fun H locs hP hD hS => ?_)
  generalize hf_5 : (upd f (8 : Int32).toNatClampNeg x_4) = f_5 at hP hD
  have hP : va_P D vwCl [(a0, .inr (8, [.ref a1, .int 8, g2, g3, g4, g5])), (a1, .inl (K 0, 400, .inl f_5))] H := hP
  have hD : va_D A [(a0, .inr (8, [.ref a1, .int 8, g2, g3, g4, g5])), (a1, .inl (K 0, 400, .inl f_5))] := hD
  refine lv_aload_n hx hb dX8_take_33 rfl (lv_at hl 1 rfl) ?_
  refine lv_dup hx hb dX8_take_34 rfl ?_
  refine va_get (ci := 8) (v := .int 8) (C := RX8) (T := TX8) (N := 6) hx hb hts hw8 hown hK hP 0 rfl rfl 1 (by decide) (hts (.fieldLink RX8 15 "SmokeTune$Tape" "length" "I") (List.mem_cons_of_mem _ (List.mem_append_left _ (List.mem_of_getElem? (i := 0) rfl)))) (fun _ h9 => h9) rfl dX8_take_35 ?_
  refine lv_iconst (v := 1) hx hb dX8_take_38 (by decide) ?_
  refine lv_iadd hx hb dX8_take_39 ?_
  refine lv_topi (fun x_6 ex_6 => ?_)
  obtain rfl : x_6 = 9 := ex_6.trans (by first | rfl | decide)
  refine va_put (ci := 8) (v := .int 9) (ty := .int) (C := RX8) (T := TX8) (N := 6) hx hb hts hw8 tyX8 tyX8_ok nmX8 hown hK hP hD hS 0 rfl rfl 1 (by decide) (hts (.fieldLink RX8 15 "SmokeTune$Tape" "length" "I") (List.mem_cons_of_mem _ (List.mem_append_left _ (List.mem_of_getElem? (i := 0) rfl)))) (fun _ h9 => h9) rfl (by decide +kernel) (by first | rfl | decide) (by first | rfl | decide) (Nat.le_of_ble_eq_true rfl) dX8_take_40 (fun H locs hP hD hS => ?_)
  have hP : va_P D vwCl [(a0, .inr (8, [.ref a1, .int 9, g2, g3, g4, g5])), (a1, .inl (K 0, 400, .inl f_5))] H := hP
  have hD : va_D A [(a0, .inr (8, [.ref a1, .int 9, g2, g3, g4, g5])), (a1, .inl (K 0, 400, .inl f_5))] := hD
  refine lv_iinc (v := 16) (lv' := [(2, .int 16), (0, .ref a0), (1, .int x)]) hx hb dX8_take_43 hl (k := 0) rfl (by decide) (by decide) rfl (fun ls hl => ?_)
  refine lv_goto (tgt := 3) hx hb dX8_take_46 (by decide) ?_
  refine lv_iload_n hx hb dX8_take_3 rfl (lv_at hl 0 rfl) ?_
  refine lv_if_lt (tgt := 49) hx hb dX8_take_4 (by decide) (fun c_7 => absurd c_7 (by decide)) (fun c_7 => ?_)
  refine lv_aload_n hx hb dX8_take_7 rfl (lv_at hl 1 rfl) ?_
  refine va_get (ci := 8) (v := .int 9) (C := RX8) (T := TX8) (N := 6) hx hb hts hw8 hown hK hP 0 rfl rfl 1 (by decide) (hts (.fieldLink RX8 15 "SmokeTune$Tape" "length" "I") (List.mem_cons_of_mem _ (List.mem_append_left _ (List.mem_of_getElem? (i := 0) rfl)))) (fun _ h9 => h9) rfl dX8_take_8 ?_
  refine lv_sipush (v := 400) hx hb dX8_take_11 (by decide) ?_
  refine lv_icmp_ge (tgt := 49) hx hb dX8_take_14 (by decide) (fun c_8 => absurd c_8 (by decide)) (fun c_8 => ?_)
  refine lv_aload_n hx hb dX8_take_17 rfl (lv_at hl 1 rfl) ?_
  refine va_get (ci := 8) (v := .ref a1) (C := RX8) (T := TX8) (N := 6) hx hb hts hw8 hown hK hP 0 rfl rfl 0 (by decide) (hts (.fieldLink RX8 11 "SmokeTune$Tape" "bytes" "[I") (List.mem_cons_of_mem _ (List.mem_append_left _ (List.mem_of_getElem? (i := 1) rfl)))) (fun _ h9 => h9) rfl dX8_take_18 ?_
  refine lv_aload_n hx hb dX8_take_21 rfl (lv_at hl 1 rfl) ?_
  refine va_get (ci := 8) (v := .int 9) (C := RX8) (T := TX8) (N := 6) hx hb hts hw8 hown hK hP 0 rfl rfl 1 (by decide) (hts (.fieldLink RX8 15 "SmokeTune$Tape" "length" "I") (List.mem_cons_of_mem _ (List.mem_append_left _ (List.mem_of_getElem? (i := 0) rfl)))) (fun _ h9 => h9) rfl dX8_take_22 ?_
  refine lv_iload_n hx hb dX8_take_25 rfl (lv_at hl 2 rfl) ?_
  refine lv_iload_n hx hb dX8_take_26 rfl (lv_at hl 0 rfl) ?_
  refine lv_ishr hx hb dX8_take_27 ?_
  refine lv_topi (fun x_9 ex_9 => ?_)
  refine lv_sipush (v := 255) hx hb dX8_take_28 (by decide) ?_
  refine lv_iand hx hb dX8_take_31 ?_
  refine lv_topi (fun x_10 ex_10 => ?_)
  refine va_iast hx hb hK hP hD hS 1 0 rfl rfl (i_in (x := 9) rfl (by omega)) dX8_take_32 (fun H locs hP hD hS => ?_)
  generalize hf_11 : (upd f_5 (9 : Int32).toNatClampNeg x_10) = f_11 at hP hD
  have hP : va_P D vwCl [(a0, .inr (8, [.ref a1, .int 9, g2, g3, g4, g5])), (a1, .inl (K 0, 400, .inl f_11))] H := hP
  have hD : va_D A [(a0, .inr (8, [.ref a1, .int 9, g2, g3, g4, g5])), (a1, .inl (K 0, 400, .inl f_11))] := hD
  refine lv_aload_n hx hb dX8_take_33 rfl (lv_at hl 1 rfl) ?_
  refine lv_dup hx hb dX8_take_34 rfl ?_
  refine va_get (ci := 8) (v := .int 9) (C := RX8) (T := TX8) (N := 6) hx hb hts hw8 hown hK hP 0 rfl rfl 1 (by decide) (hts (.fieldLink RX8 15 "SmokeTune$Tape" "length" "I") (List.mem_cons_of_mem _ (List.mem_append_left _ (List.mem_of_getElem? (i := 0) rfl)))) (fun _ h9 => h9) rfl dX8_take_35 ?_
  refine lv_iconst (v := 1) hx hb dX8_take_38 (by decide) ?_
  refine lv_iadd hx hb dX8_take_39 ?_
  refine lv_topi (fun x_12 ex_12 => ?_)
  obtain rfl : x_12 = 10 := ex_12.trans (by first | rfl | decide)
  refine va_put (ci := 8) (v := .int 10) (ty := .int) (C := RX8) (T := TX8) (N := 6) hx hb hts hw8 tyX8 tyX8_ok nmX8 hown hK hP hD hS 0 rfl rfl 1 (by decide) (hts (.fieldLink RX8 15 "SmokeTune$Tape" "length" "I") (List.mem_cons_of_mem _ (List.mem_append_left _ (List.mem_of_getElem? (i := 0) rfl)))) (fun _ h9 => h9) rfl (by decide +kernel) (by first | rfl | decide) (by first | rfl | decide) (Nat.le_of_ble_eq_true rfl) dX8_take_40 (fun H locs hP hD hS => ?_)
  have hP : va_P D vwCl [(a0, .inr (8, [.ref a1, .int 10, g2, g3, g4, g5])), (a1, .inl (K 0, 400, .inl f_11))] H := hP
  have hD : va_D A [(a0, .inr (8, [.ref a1, .int 10, g2, g3, g4, g5])), (a1, .inl (K 0, 400, .inl f_11))] := hD
  refine lv_iinc (v := 8) (lv' := [(2, .int 8), (0, .ref a0), (1, .int x)]) hx hb dX8_take_43 hl (k := 0) rfl (by decide) (by decide) rfl (fun ls hl => ?_)
  refine lv_goto (tgt := 3) hx hb dX8_take_46 (by decide) ?_
  refine lv_iload_n hx hb dX8_take_3 rfl (lv_at hl 0 rfl) ?_
  refine lv_if_lt (tgt := 49) hx hb dX8_take_4 (by decide) (fun c_13 => absurd c_13 (by decide)) (fun c_13 => ?_)
  refine lv_aload_n hx hb dX8_take_7 rfl (lv_at hl 1 rfl) ?_
  refine va_get (ci := 8) (v := .int 10) (C := RX8) (T := TX8) (N := 6) hx hb hts hw8 hown hK hP 0 rfl rfl 1 (by decide) (hts (.fieldLink RX8 15 "SmokeTune$Tape" "length" "I") (List.mem_cons_of_mem _ (List.mem_append_left _ (List.mem_of_getElem? (i := 0) rfl)))) (fun _ h9 => h9) rfl dX8_take_8 ?_
  refine lv_sipush (v := 400) hx hb dX8_take_11 (by decide) ?_
  refine lv_icmp_ge (tgt := 49) hx hb dX8_take_14 (by decide) (fun c_14 => absurd c_14 (by decide)) (fun c_14 => ?_)
  refine lv_aload_n hx hb dX8_take_17 rfl (lv_at hl 1 rfl) ?_
  refine va_get (ci := 8) (v := .ref a1) (C := RX8) (T := TX8) (N := 6) hx hb hts hw8 hown hK hP 0 rfl rfl 0 (by decide) (hts (.fieldLink RX8 11 "SmokeTune$Tape" "bytes" "[I") (List.mem_cons_of_mem _ (List.mem_append_left _ (List.mem_of_getElem? (i := 1) rfl)))) (fun _ h9 => h9) rfl dX8_take_18 ?_
  refine lv_aload_n hx hb dX8_take_21 rfl (lv_at hl 1 rfl) ?_
  refine va_get (ci := 8) (v := .int 10) (C := RX8) (T := TX8) (N := 6) hx hb hts hw8 hown hK hP 0 rfl rfl 1 (by decide) (hts (.fieldLink RX8 15 "SmokeTune$Tape" "length" "I") (List.mem_cons_of_mem _ (List.mem_append_left _ (List.mem_of_getElem? (i := 0) rfl)))) (fun _ h9 => h9) rfl dX8_take_22 ?_
  refine lv_iload_n hx hb dX8_take_25 rfl (lv_at hl 2 rfl) ?_
  refine lv_iload_n hx hb dX8_take_26 rfl (lv_at hl 0 rfl) ?_
  refine lv_ishr hx hb dX8_take_27 ?_
  refine lv_topi (fun x_15 ex_15 => ?_)
  refine lv_sipush (v := 255) hx hb dX8_take_28 (by decide) ?_
  refine lv_iand hx hb dX8_take_31 ?_
  refine lv_topi (fun x_16 ex_16 => ?_)
  refine va_iast hx hb hK hP hD hS 1 0 rfl rfl (i_in (x := 10) rfl (by omega)) dX8_take_32 (fun H locs hP hD hS => ?_)
  generalize hf_17 : (upd f_11 (10 : Int32).toNatClampNeg x_16) = f_17 at hP hD
  have hP : va_P D vwCl [(a0, .inr (8, [.ref a1, .int 10, g2, g3, g4, g5])), (a1, .inl (K 0, 400, .inl f_17))] H := hP
  have hD : va_D A [(a0, .inr (8, [.ref a1, .int 10, g2, g3, g4, g5])), (a1, .inl (K 0, 400, .inl f_17))] := hD
  refine lv_aload_n hx hb dX8_take_33 rfl (lv_at hl 1 rfl) ?_
  refine lv_dup hx hb dX8_take_34 rfl ?_
  refine va_get (ci := 8) (v := .int 10) (C := RX8) (T := TX8) (N := 6) hx hb hts hw8 hown hK hP 0 rfl rfl 1 (by decide) (hts (.fieldLink RX8 15 "SmokeTune$Tape" "length" "I") (List.mem_cons_of_mem _ (List.mem_append_left _ (List.mem_of_getElem? (i := 0) rfl)))) (fun _ h9 => h9) rfl dX8_take_35 ?_
  refine lv_iconst (v := 1) hx hb dX8_take_38 (by decide) ?_
  refine lv_iadd hx hb dX8_take_39 ?_
  refine lv_topi (fun x_18 ex_18 => ?_)
  obtain rfl : x_18 = 11 := ex_18.trans (by first | rfl | decide)
  refine va_put (ci := 8) (v := .int 11) (ty := .int) (C := RX8) (T := TX8) (N := 6) hx hb hts hw8 tyX8 tyX8_ok nmX8 hown hK hP hD hS 0 rfl rfl 1 (by decide) (hts (.fieldLink RX8 15 "SmokeTune$Tape" "length" "I") (List.mem_cons_of_mem _ (List.mem_append_left _ (List.mem_of_getElem? (i := 0) rfl)))) (fun _ h9 => h9) rfl (by decide +kernel) (by first | rfl | decide) (by first | rfl | decide) (Nat.le_of_ble_eq_true rfl) dX8_take_40 (fun H locs hP hD hS => ?_)
  have hP : va_P D vwCl [(a0, .inr (8, [.ref a1, .int 11, g2, g3, g4, g5])), (a1, .inl (K 0, 400, .inl f_17))] H := hP
  have hD : va_D A [(a0, .inr (8, [.ref a1, .int 11, g2, g3, g4, g5])), (a1, .inl (K 0, 400, .inl f_17))] := hD
  refine lv_iinc (v := 0) (lv' := [(2, .int 0), (0, .ref a0), (1, .int x)]) hx hb dX8_take_43 hl (k := 0) rfl (by decide) (by decide) rfl (fun ls hl => ?_)
  refine lv_goto (tgt := 3) hx hb dX8_take_46 (by decide) ?_
  refine lv_iload_n hx hb dX8_take_3 rfl (lv_at hl 0 rfl) ?_
  refine lv_if_lt (tgt := 49) hx hb dX8_take_4 (by decide) (fun c_19 => absurd c_19 (by decide)) (fun c_19 => ?_)
  refine lv_aload_n hx hb dX8_take_7 rfl (lv_at hl 1 rfl) ?_
  refine va_get (ci := 8) (v := .int 11) (C := RX8) (T := TX8) (N := 6) hx hb hts hw8 hown hK hP 0 rfl rfl 1 (by decide) (hts (.fieldLink RX8 15 "SmokeTune$Tape" "length" "I") (List.mem_cons_of_mem _ (List.mem_append_left _ (List.mem_of_getElem? (i := 0) rfl)))) (fun _ h9 => h9) rfl dX8_take_8 ?_
  refine lv_sipush (v := 400) hx hb dX8_take_11 (by decide) ?_
  refine lv_icmp_ge (tgt := 49) hx hb dX8_take_14 (by decide) (fun c_20 => absurd c_20 (by decide)) (fun c_20 => ?_)
  refine lv_aload_n hx hb dX8_take_17 rfl (lv_at hl 1 rfl) ?_
  refine va_get (ci := 8) (v := .ref a1) (C := RX8) (T := TX8) (N := 6) hx hb hts hw8 hown hK hP 0 rfl rfl 0 (by decide) (hts (.fieldLink RX8 11 "SmokeTune$Tape" "bytes" "[I") (List.mem_cons_of_mem _ (List.mem_append_left _ (List.mem_of_getElem? (i := 1) rfl)))) (fun _ h9 => h9) rfl dX8_take_18 ?_
  refine lv_aload_n hx hb dX8_take_21 rfl (lv_at hl 1 rfl) ?_
  refine va_get (ci := 8) (v := .int 11) (C := RX8) (T := TX8) (N := 6) hx hb hts hw8 hown hK hP 0 rfl rfl 1 (by decide) (hts (.fieldLink RX8 15 "SmokeTune$Tape" "length" "I") (List.mem_cons_of_mem _ (List.mem_append_left _ (List.mem_of_getElem? (i := 0) rfl)))) (fun _ h9 => h9) rfl dX8_take_22 ?_
  refine lv_iload_n hx hb dX8_take_25 rfl (lv_at hl 2 rfl) ?_
  refine lv_iload_n hx hb dX8_take_26 rfl (lv_at hl 0 rfl) ?_
  refine lv_ishr hx hb dX8_take_27 ?_
  refine lv_topi (fun x_21 ex_21 => ?_)
  refine lv_sipush (v := 255) hx hb dX8_take_28 (by decide) ?_
  refine lv_iand hx hb dX8_take_31 ?_
  refine lv_topi (fun x_22 ex_22 => ?_)
  refine va_iast hx hb hK hP hD hS 1 0 rfl rfl (i_in (x := 11) rfl (by omega)) dX8_take_32 (fun H locs hP hD hS => ?_)
  generalize hf_23 : (upd f_17 (11 : Int32).toNatClampNeg x_22) = f_23 at hP hD
  have hP : va_P D vwCl [(a0, .inr (8, [.ref a1, .int 11, g2, g3, g4, g5])), (a1, .inl (K 0, 400, .inl f_23))] H := hP
  have hD : va_D A [(a0, .inr (8, [.ref a1, .int 11, g2, g3, g4, g5])), (a1, .inl (K 0, 400, .inl f_23))] := hD
  refine lv_aload_n hx hb dX8_take_33 rfl (lv_at hl 1 rfl) ?_
  refine lv_dup hx hb dX8_take_34 rfl ?_
  refine va_get (ci := 8) (v := .int 11) (C := RX8) (T := TX8) (N := 6) hx hb hts hw8 hown hK hP 0 rfl rfl 1 (by decide) (hts (.fieldLink RX8 15 "SmokeTune$Tape" "length" "I") (List.mem_cons_of_mem _ (List.mem_append_left _ (List.mem_of_getElem? (i := 0) rfl)))) (fun _ h9 => h9) rfl dX8_take_35 ?_
  refine lv_iconst (v := 1) hx hb dX8_take_38 (by decide) ?_
  refine lv_iadd hx hb dX8_take_39 ?_
  refine lv_topi (fun x_24 ex_24 => ?_)
  obtain rfl : x_24 = 12 := ex_24.trans (by first | rfl | decide)
  refine va_put (ci := 8) (v := .int 12) (ty := .int) (C := RX8) (T := TX8) (N := 6) hx hb hts hw8 tyX8 tyX8_ok nmX8 hown hK hP hD hS 0 rfl rfl 1 (by decide) (hts (.fieldLink RX8 15 "SmokeTune$Tape" "length" "I") (List.mem_cons_of_mem _ (List.mem_append_left _ (List.mem_of_getElem? (i := 0) rfl)))) (fun _ h9 => h9) rfl (by decide +kernel) (by first | rfl | decide) (by first | rfl | decide) (Nat.le_of_ble_eq_true rfl) dX8_take_40 (fun H locs hP hD hS => ?_)
  have hP : va_P D vwCl [(a0, .inr (8, [.ref a1, .int 12, g2, g3, g4, g5])), (a1, .inl (K 0, 400, .inl f_23))] H := hP
  have hD : va_D A [(a0, .inr (8, [.ref a1, .int 12, g2, g3, g4, g5])), (a1, .inl (K 0, 400, .inl f_23))] := hD
  refine lv_iinc (v := (-8)) (lv' := [(2, .int (-8)), (0, .ref a0), (1, .int x)]) hx hb dX8_take_43 hl (k := 0) rfl (by decide) (by decide) rfl (fun ls hl => ?_)
  refine lv_goto (tgt := 3) hx hb dX8_take_46 (by decide) ?_
  refine lv_iload_n hx hb dX8_take_3 rfl (lv_at hl 0 rfl) ?_
  refine lv_if_lt (tgt := 49) hx hb dX8_take_4 (by decide) (fun c_25 => ?_) (fun c_25 => absurd (by decide) c_25)
  have hP9 := hP.sub (ws' := [(a0, .inr (8, [.ref a1, .int 12, g2, g3, g4, g5])), (a1, .inl (K 0, 400, .inl f_23))]) [0, 1] rfl
  have hD9 := hD.sub (ws' := [(a0, .inr (8, [.ref a1, .int 12, g2, g3, g4, g5])), (a1, .inl (K 0, 400, .inl f_23))]) [0, 1] (by decide) rfl
  exact W.vret hx hb hr (fun t ht hW => ⟨⟨(fun _ => 0, fun i => match i with | _ => f_23, fun _ => fun _ => 0, fun _ => 0), rfl, trivial, (⟨by rw [ht]; exact hP9, hD9⟩ : Wd D A _ t)⟩, hS.F ht⟩) hS.2.2 dX8_take_49
set_option maxHeartbeats 4000000 in
set_option maxRecDepth 100000 in
theorem c_take_12 (l : Launch) (D : va_G) (K : Nat → ClassId) (a0 : Nat) (x : Int32) (a1 : Nat) (g2 : Value) (g3 : Value) (g4 : Value) (g5 : Value) (f : Nat → Int32) (sz : Nat) : Met l yX8_take wsX8_take ({ frames := 0, cells := 0, slots := 0, locals := 0 }) (va_Pc [.ref a0, .int x] (Pre D K [(a0, .inr (8, [.ref a1, .int 12, g2, g3, g4, g5])), (a1, .inl (K 0, 400, .inl f))] sz)) (va_Qv (S := (Nat → Nat) × (Nat → Nat → Int32) × (Nat → Nat → Int64) × (Nat → Int32)) (fun _ => True) (fun u t => Wd D (va_A [(a0, .inr (8, [.ref a1, .int 12, g2, g3, g4, g5])), (a1, .inl (K 0, 400, .inl f))] sz) ((fun u => [(a0, .inr (8, [.ref a1, .int 16, g2, g3, g4, g5])), (a1, .inl (K 0, 400, .inl ((u.2.1 0))))]) u) t) (va_A [(a0, .inr (8, [.ref a1, .int 12, g2, g3, g4, g5])), (a1, .inl (K 0, 400, .inl f))] sz)) 0 0 (va_A [(a0, .inr (8, [.ref a1, .int 12, g2, g3, g4, g5])), (a1, .inl (K 0, 400, .inl f))] sz) := by
  refine Met.ofW (cc := cX8_take) (maxL := 3) (ret := none) (by decide) rfl ?_
  intro p e s m args below meth c s₁ B hml hv
  obtain ⟨rfl, hsz, hP, hK, hD0, hN⟩ := hv
  have hx := B.exec
  have hb := B.bytes
  have hr := B.returns
  have hts := atoms_spec (ws := wsX8_take) B.pre
  have hown : s.vm.findClass RX8 = some m.cls := findClass_of_methodNamed B.named
  have hlocks := B.notSynchronized
  subst hsz
  have hD := hD0.self (sz := s.heap.size)
  generalize hAe : va_A [(a0, .inr (8, [.ref a1, .int 12, g2, g3, g4, g5])), (a1, .inl (K 0, 400, .inl f))] s.heap.size = A at hD ⊢
  have hA : ∀ q : Nat, s.heap.size ≤ q → A q := fun q h => by rw [← hAe]; exact Or.inr h
  have hS : va_S A s.heap s.heap [] := va_S.rf
  have hP : va_P D vwCl [(a0, .inr (8, [.ref a1, .int 12, g2, g3, g4, g5])), (a1, .inl (K 0, 400, .inl f))] s.heap := hP
  have hl := lv_entry [.ref a0, .int x] (n := 3) (Nat.le_of_ble_eq_true rfl)
  rw [lg_entry_eq]
  generalize (lg_sl [.ref a0, .int x] ++ List.replicate (3 - (lg_sl [.ref a0, .int x]).length) Slot.unset).toArray = ls at hl ⊢
  have hl : lv_has ls 3 [(0, .ref a0), (1, .int x)] := hl
  have hw8 : ∀ w ∈ wsX80, w ∈ wsX8_take := fun w h => (List.mem_cons_of_mem _ (List.mem_append_right _ h))
  refine lv_bipush (v := 24) hx hb dX8_take_0 (by decide) ?_
  refine lv_istore_n (lv' := [(2, .int 24), (0, .ref a0), (1, .int x)]) hx hb dX8_take_2 rfl hl (by decide) rfl (fun ls hl => ?_)
  refine lv_iload_n hx hb dX8_take_3 rfl (lv_at hl 0 rfl) ?_
  refine lv_if_lt (tgt := 49) hx hb dX8_take_4 (by decide) (fun c_1 => absurd c_1 (by decide)) (fun c_1 => ?_)
  refine lv_aload_n hx hb dX8_take_7 rfl (lv_at hl 1 rfl) ?_
  refine va_get (ci := 8) (v := .int 12) (C := RX8) (T := TX8) (N := 6) hx hb hts hw8 hown hK hP 0 rfl rfl 1 (by decide) (hts (.fieldLink RX8 15 "SmokeTune$Tape" "length" "I") (List.mem_cons_of_mem _ (List.mem_append_left _ (List.mem_of_getElem? (i := 0) rfl)))) (fun _ h9 => h9) rfl dX8_take_8 ?_
  refine lv_sipush (v := 400) hx hb dX8_take_11 (by decide) ?_
  refine lv_icmp_ge (tgt := 49) hx hb dX8_take_14 (by decide) (fun c_2 => absurd c_2 (by decide)) (fun c_2 => ?_)
  refine lv_aload_n hx hb dX8_take_17 rfl (lv_at hl 1 rfl) ?_
  refine va_get (ci := 8) (v := .ref a1) (C := RX8) (T := TX8) (N := 6) hx hb hts hw8 hown hK hP 0 rfl rfl 0 (by decide) (hts (.fieldLink RX8 11 "SmokeTune$Tape" "bytes" "[I") (List.mem_cons_of_mem _ (List.mem_append_left _ (List.mem_of_getElem? (i := 1) rfl)))) (fun _ h9 => h9) rfl dX8_take_18 ?_
  refine lv_aload_n hx hb dX8_take_21 rfl (lv_at hl 1 rfl) ?_
  refine va_get (ci := 8) (v := .int 12) (C := RX8) (T := TX8) (N := 6) hx hb hts hw8 hown hK hP 0 rfl rfl 1 (by decide) (hts (.fieldLink RX8 15 "SmokeTune$Tape" "length" "I") (List.mem_cons_of_mem _ (List.mem_append_left _ (List.mem_of_getElem? (i := 0) rfl)))) (fun _ h9 => h9) rfl dX8_take_22 ?_
  refine lv_iload_n hx hb dX8_take_25 rfl (lv_at hl 2 rfl) ?_
  refine lv_iload_n hx hb dX8_take_26 rfl (lv_at hl 0 rfl) ?_
  refine lv_ishr hx hb dX8_take_27 ?_
  refine lv_topi (fun x_3 ex_3 => ?_)
  refine lv_sipush (v := 255) hx hb dX8_take_28 (by decide) ?_
  refine lv_iand hx hb dX8_take_31 ?_
  refine lv_topi (fun x_4 ex_4 => ?_)
  refine va_iast hx hb hK hP hD hS 1 0 rfl rfl (i_in (x := 12) rfl (by omega)) dX8_take_32 (fun H locs hP hD hS => ?_)
  generalize hf_5 : (upd f (12 : Int32).toNatClampNeg x_4) = f_5 at hP hD
  have hP : va_P D vwCl [(a0, .inr (8, [.ref a1, .int 12, g2, g3, g4, g5])), (a1, .inl (K 0, 400, .inl f_5))] H := hP
  have hD : va_D A [(a0, .inr (8, [.ref a1, .int 12, g2, g3, g4, g5])), (a1, .inl (K 0, 400, .inl f_5))] := hD
  refine lv_aload_n hx hb dX8_take_33 rfl (lv_at hl 1 rfl) ?_
  refine lv_dup hx hb dX8_take_34 rfl ?_
  refine va_get (ci := 8) (v := .int 12) (C := RX8) (T := TX8) (N := 6) hx hb hts hw8 hown hK hP 0 rfl rfl 1 (by decide) (hts (.fieldLink RX8 15 "SmokeTune$Tape" "length" "I") (List.mem_cons_of_mem _ (List.mem_append_left _ (List.mem_of_getElem? (i := 0) rfl)))) (fun _ h9 => h9) rfl dX8_take_35 ?_
  refine lv_iconst (v := 1) hx hb dX8_take_38 (by decide) ?_
  refine lv_iadd hx hb dX8_take_39 ?_
  refine lv_topi (fun x_6 ex_6 => ?_)
  obtain rfl : x_6 = 13 := ex_6.trans (by first | rfl | decide)
  refine va_put (ci := 8) (v := .int 13) (ty := .int) (C := RX8) (T := TX8) (N := 6) hx hb hts hw8 tyX8 tyX8_ok nmX8 hown hK hP hD hS 0 rfl rfl 1 (by decide) (hts (.fieldLink RX8 15 "SmokeTune$Tape" "length" "I") (List.mem_cons_of_mem _ (List.mem_append_left _ (List.mem_of_getElem? (i := 0) rfl)))) (fun _ h9 => h9) rfl (by decide +kernel) (by first | rfl | decide) (by first | rfl | decide) (Nat.le_of_ble_eq_true rfl) dX8_take_40 (fun H locs hP hD hS => ?_)
  have hP : va_P D vwCl [(a0, .inr (8, [.ref a1, .int 13, g2, g3, g4, g5])), (a1, .inl (K 0, 400, .inl f_5))] H := hP
  have hD : va_D A [(a0, .inr (8, [.ref a1, .int 13, g2, g3, g4, g5])), (a1, .inl (K 0, 400, .inl f_5))] := hD
  refine lv_iinc (v := 16) (lv' := [(2, .int 16), (0, .ref a0), (1, .int x)]) hx hb dX8_take_43 hl (k := 0) rfl (by decide) (by decide) rfl (fun ls hl => ?_)
  refine lv_goto (tgt := 3) hx hb dX8_take_46 (by decide) ?_
  refine lv_iload_n hx hb dX8_take_3 rfl (lv_at hl 0 rfl) ?_
  refine lv_if_lt (tgt := 49) hx hb dX8_take_4 (by decide) (fun c_7 => absurd c_7 (by decide)) (fun c_7 => ?_)
  refine lv_aload_n hx hb dX8_take_7 rfl (lv_at hl 1 rfl) ?_
  refine va_get (ci := 8) (v := .int 13) (C := RX8) (T := TX8) (N := 6) hx hb hts hw8 hown hK hP 0 rfl rfl 1 (by decide) (hts (.fieldLink RX8 15 "SmokeTune$Tape" "length" "I") (List.mem_cons_of_mem _ (List.mem_append_left _ (List.mem_of_getElem? (i := 0) rfl)))) (fun _ h9 => h9) rfl dX8_take_8 ?_
  refine lv_sipush (v := 400) hx hb dX8_take_11 (by decide) ?_
  refine lv_icmp_ge (tgt := 49) hx hb dX8_take_14 (by decide) (fun c_8 => absurd c_8 (by decide)) (fun c_8 => ?_)
  refine lv_aload_n hx hb dX8_take_17 rfl (lv_at hl 1 rfl) ?_
  refine va_get (ci := 8) (v := .ref a1) (C := RX8) (T := TX8) (N := 6) hx hb hts hw8 hown hK hP 0 rfl rfl 0 (by decide) (hts (.fieldLink RX8 11 "SmokeTune$Tape" "bytes" "[I") (List.mem_cons_of_mem _ (List.mem_append_left _ (List.mem_of_getElem? (i := 1) rfl)))) (fun _ h9 => h9) rfl dX8_take_18 ?_
  refine lv_aload_n hx hb dX8_take_21 rfl (lv_at hl 1 rfl) ?_
  refine va_get (ci := 8) (v := .int 13) (C := RX8) (T := TX8) (N := 6) hx hb hts hw8 hown hK hP 0 rfl rfl 1 (by decide) (hts (.fieldLink RX8 15 "SmokeTune$Tape" "length" "I") (List.mem_cons_of_mem _ (List.mem_append_left _ (List.mem_of_getElem? (i := 0) rfl)))) (fun _ h9 => h9) rfl dX8_take_22 ?_
  refine lv_iload_n hx hb dX8_take_25 rfl (lv_at hl 2 rfl) ?_
  refine lv_iload_n hx hb dX8_take_26 rfl (lv_at hl 0 rfl) ?_
  refine lv_ishr hx hb dX8_take_27 ?_
  refine lv_topi (fun x_9 ex_9 => ?_)
  refine lv_sipush (v := 255) hx hb dX8_take_28 (by decide) ?_
  refine lv_iand hx hb dX8_take_31 ?_
  refine lv_topi (fun x_10 ex_10 => ?_)
  refine va_iast hx hb hK hP hD hS 1 0 rfl rfl (i_in (x := 13) rfl (by omega)) dX8_take_32 (fun H locs hP hD hS => ?_)
  generalize hf_11 : (upd f_5 (13 : Int32).toNatClampNeg x_10) = f_11 at hP hD
  have hP : va_P D vwCl [(a0, .inr (8, [.ref a1, .int 13, g2, g3, g4, g5])), (a1, .inl (K 0, 400, .inl f_11))] H := hP
  have hD : va_D A [(a0, .inr (8, [.ref a1, .int 13, g2, g3, g4, g5])), (a1, .inl (K 0, 400, .inl f_11))] := hD
  refine lv_aload_n hx hb dX8_take_33 rfl (lv_at hl 1 rfl) ?_
  refine lv_dup hx hb dX8_take_34 rfl ?_
  refine va_get (ci := 8) (v := .int 13) (C := RX8) (T := TX8) (N := 6) hx hb hts hw8 hown hK hP 0 rfl rfl 1 (by decide) (hts (.fieldLink RX8 15 "SmokeTune$Tape" "length" "I") (List.mem_cons_of_mem _ (List.mem_append_left _ (List.mem_of_getElem? (i := 0) rfl)))) (fun _ h9 => h9) rfl dX8_take_35 ?_
  refine lv_iconst (v := 1) hx hb dX8_take_38 (by decide) ?_
  refine lv_iadd hx hb dX8_take_39 ?_
  refine lv_topi (fun x_12 ex_12 => ?_)
  obtain rfl : x_12 = 14 := ex_12.trans (by first | rfl | decide)
  refine va_put (ci := 8) (v := .int 14) (ty := .int) (C := RX8) (T := TX8) (N := 6) hx hb hts hw8 tyX8 tyX8_ok nmX8 hown hK hP hD hS 0 rfl rfl 1 (by decide) (hts (.fieldLink RX8 15 "SmokeTune$Tape" "length" "I") (List.mem_cons_of_mem _ (List.mem_append_left _ (List.mem_of_getElem? (i := 0) rfl)))) (fun _ h9 => h9) rfl (by decide +kernel) (by first | rfl | decide) (by first | rfl | decide) (Nat.le_of_ble_eq_true rfl) dX8_take_40 (fun H locs hP hD hS => ?_)
  have hP : va_P D vwCl [(a0, .inr (8, [.ref a1, .int 14, g2, g3, g4, g5])), (a1, .inl (K 0, 400, .inl f_11))] H := hP
  have hD : va_D A [(a0, .inr (8, [.ref a1, .int 14, g2, g3, g4, g5])), (a1, .inl (K 0, 400, .inl f_11))] := hD
  refine lv_iinc (v := 8) (lv' := [(2, .int 8), (0, .ref a0), (1, .int x)]) hx hb dX8_take_43 hl (k := 0) rfl (by decide) (by decide) rfl (fun ls hl => ?_)
  refine lv_goto (tgt := 3) hx hb dX8_take_46 (by decide) ?_
  refine lv_iload_n hx hb dX8_take_3 rfl (lv_at hl 0 rfl) ?_
  refine lv_if_lt (tgt := 49) hx hb dX8_take_4 (by decide) (fun c_13 => absurd c_13 (by decide)) (fun c_13 => ?_)
  refine lv_aload_n hx hb dX8_take_7 rfl (lv_at hl 1 rfl) ?_
  refine va_get (ci := 8) (v := .int 14) (C := RX8) (T := TX8) (N := 6) hx hb hts hw8 hown hK hP 0 rfl rfl 1 (by decide) (hts (.fieldLink RX8 15 "SmokeTune$Tape" "length" "I") (List.mem_cons_of_mem _ (List.mem_append_left _ (List.mem_of_getElem? (i := 0) rfl)))) (fun _ h9 => h9) rfl dX8_take_8 ?_
  refine lv_sipush (v := 400) hx hb dX8_take_11 (by decide) ?_
  refine lv_icmp_ge (tgt := 49) hx hb dX8_take_14 (by decide) (fun c_14 => absurd c_14 (by decide)) (fun c_14 => ?_)
  refine lv_aload_n hx hb dX8_take_17 rfl (lv_at hl 1 rfl) ?_
  refine va_get (ci := 8) (v := .ref a1) (C := RX8) (T := TX8) (N := 6) hx hb hts hw8 hown hK hP 0 rfl rfl 0 (by decide) (hts (.fieldLink RX8 11 "SmokeTune$Tape" "bytes" "[I") (List.mem_cons_of_mem _ (List.mem_append_left _ (List.mem_of_getElem? (i := 1) rfl)))) (fun _ h9 => h9) rfl dX8_take_18 ?_
  refine lv_aload_n hx hb dX8_take_21 rfl (lv_at hl 1 rfl) ?_
  refine va_get (ci := 8) (v := .int 14) (C := RX8) (T := TX8) (N := 6) hx hb hts hw8 hown hK hP 0 rfl rfl 1 (by decide) (hts (.fieldLink RX8 15 "SmokeTune$Tape" "length" "I") (List.mem_cons_of_mem _ (List.mem_append_left _ (List.mem_of_getElem? (i := 0) rfl)))) (fun _ h9 => h9) rfl dX8_take_22 ?_
  refine lv_iload_n hx hb dX8_take_25 rfl (lv_at hl 2 rfl) ?_
  refine lv_iload_n hx hb dX8_take_26 rfl (lv_at hl 0 rfl) ?_
  refine lv_ishr hx hb dX8_take_27 ?_
  refine lv_topi (fun x_15 ex_15 => ?_)
  refine lv_sipush (v := 255) hx hb dX8_take_28 (by decide) ?_
  refine lv_iand hx hb dX8_take_31 ?_
  refine lv_topi (fun x_16 ex_16 => ?_)
  refine va_iast hx hb hK hP hD hS 1 0 rfl rfl (i_in (x := 14) rfl (by omega)) dX8_take_32 (fun H locs hP hD hS => ?_)
  generalize hf_17 : (upd f_11 (14 : Int32).toNatClampNeg x_16) = f_17 at hP hD
  have hP : va_P D vwCl [(a0, .inr (8, [.ref a1, .int 14, g2, g3, g4, g5])), (a1, .inl (K 0, 400, .inl f_17))] H := hP
  have hD : va_D A [(a0, .inr (8, [.ref a1, .int 14, g2, g3, g4, g5])), (a1, .inl (K 0, 400, .inl f_17))] := hD
  refine lv_aload_n hx hb dX8_take_33 rfl (lv_at hl 1 rfl) ?_
  refine lv_dup hx hb dX8_take_34 rfl ?_
  refine va_get (ci := 8) (v := .int 14) (C := RX8) (T := TX8) (N := 6) hx hb hts hw8 hown hK hP 0 rfl rfl 1 (by decide) (hts (.fieldLink RX8 15 "SmokeTune$Tape" "length" "I") (List.mem_cons_of_mem _ (List.mem_append_left _ (List.mem_of_getElem? (i := 0) rfl)))) (fun _ h9 => h9) rfl dX8_take_35 ?_
  refine lv_iconst (v := 1) hx hb dX8_take_38 (by decide) ?_
  refine lv_iadd hx hb dX8_take_39 ?_
  refine lv_topi (fun x_18 ex_18 => ?_)
  obtain rfl : x_18 = 15 := ex_18.trans (by first | rfl | decide)
  refine va_put (ci := 8) (v := .int 15) (ty := .int) (C := RX8) (T := TX8) (N := 6) hx hb hts hw8 tyX8 tyX8_ok nmX8 hown hK hP hD hS 0 rfl rfl 1 (by decide) (hts (.fieldLink RX8 15 "SmokeTune$Tape" "length" "I") (List.mem_cons_of_mem _ (List.mem_append_left _ (List.mem_of_getElem? (i := 0) rfl)))) (fun _ h9 => h9) rfl (by decide +kernel) (by first | rfl | decide) (by first | rfl | decide) (Nat.le_of_ble_eq_true rfl) dX8_take_40 (fun H locs hP hD hS => ?_)
  have hP : va_P D vwCl [(a0, .inr (8, [.ref a1, .int 15, g2, g3, g4, g5])), (a1, .inl (K 0, 400, .inl f_17))] H := hP
  have hD : va_D A [(a0, .inr (8, [.ref a1, .int 15, g2, g3, g4, g5])), (a1, .inl (K 0, 400, .inl f_17))] := hD
  refine lv_iinc (v := 0) (lv' := [(2, .int 0), (0, .ref a0), (1, .int x)]) hx hb dX8_take_43 hl (k := 0) rfl (by decide) (by decide) rfl (fun ls hl => ?_)
  refine lv_goto (tgt := 3) hx hb dX8_take_46 (by decide) ?_
  refine lv_iload_n hx hb dX8_take_3 rfl (lv_at hl 0 rfl) ?_
  refine lv_if_lt (tgt := 49) hx hb dX8_take_4 (by decide) (fun c_19 => absurd c_19 (by decide)) (fun c_19 => ?_)
  refine lv_aload_n hx hb dX8_take_7 rfl (lv_at hl 1 rfl) ?_
  refine va_get (ci := 8) (v := .int 15) (C := RX8) (T := TX8) (N := 6) hx hb hts hw8 hown hK hP 0 rfl rfl 1 (by decide) (hts (.fieldLink RX8 15 "SmokeTune$Tape" "length" "I") (List.mem_cons_of_mem _ (List.mem_append_left _ (List.mem_of_getElem? (i := 0) rfl)))) (fun _ h9 => h9) rfl dX8_take_8 ?_
  refine lv_sipush (v := 400) hx hb dX8_take_11 (by decide) ?_
  refine lv_icmp_ge (tgt := 49) hx hb dX8_take_14 (by decide) (fun c_20 => absurd c_20 (by decide)) (fun c_20 => ?_)
  refine lv_aload_n hx hb dX8_take_17 rfl (lv_at hl 1 rfl) ?_
  refine va_get (ci := 8) (v := .ref a1) (C := RX8) (T := TX8) (N := 6) hx hb hts hw8 hown hK hP 0 rfl rfl 0 (by decide) (hts (.fieldLink RX8 11 "SmokeTune$Tape" "bytes" "[I") (List.mem_cons_of_mem _ (List.mem_append_left _ (List.mem_of_getElem? (i := 1) rfl)))) (fun _ h9 => h9) rfl dX8_take_18 ?_
  refine lv_aload_n hx hb dX8_take_21 rfl (lv_at hl 1 rfl) ?_
  refine va_get (ci := 8) (v := .int 15) (C := RX8) (T := TX8) (N := 6) hx hb hts hw8 hown hK hP 0 rfl rfl 1 (by decide) (hts (.fieldLink RX8 15 "SmokeTune$Tape" "length" "I") (List.mem_cons_of_mem _ (List.mem_append_left _ (List.mem_of_getElem? (i := 0) rfl)))) (fun _ h9 => h9) rfl dX8_take_22 ?_
  refine lv_iload_n hx hb dX8_take_25 rfl (lv_at hl 2 rfl) ?_
  refine lv_iload_n hx hb dX8_take_26 rfl (lv_at hl 0 rfl) ?_
  refine lv_ishr hx hb dX8_take_27 ?_
  refine lv_topi (fun x_21 ex_21 => ?_)
  refine lv_sipush (v := 255) hx hb dX8_take_28 (by decide) ?_
  refine lv_iand hx hb dX8_take_31 ?_
  refine lv_topi (fun x_22 ex_22 => ?_)
  refine va_iast hx hb hK hP hD hS 1 0 rfl rfl (i_in (x := 15) rfl (by omega)) dX8_take_32 (fun H locs hP hD hS => ?_)
  generalize hf_23 : (upd f_17 (15 : Int32).toNatClampNeg x_22) = f_23 at hP hD
  have hP : va_P D vwCl [(a0, .inr (8, [.ref a1, .int 15, g2, g3, g4, g5])), (a1, .inl (K 0, 400, .inl f_23))] H := hP
  have hD : va_D A [(a0, .inr (8, [.ref a1, .int 15, g2, g3, g4, g5])), (a1, .inl (K 0, 400, .inl f_23))] := hD
  refine lv_aload_n hx hb dX8_take_33 rfl (lv_at hl 1 rfl) ?_
  refine lv_dup hx hb dX8_take_34 rfl ?_
  refine va_get (ci := 8) (v := .int 15) (C := RX8) (T := TX8) (N := 6) hx hb hts hw8 hown hK hP 0 rfl rfl 1 (by decide) (hts (.fieldLink RX8 15 "SmokeTune$Tape" "length" "I") (List.mem_cons_of_mem _ (List.mem_append_left _ (List.mem_of_getElem? (i := 0) rfl)))) (fun _ h9 => h9) rfl dX8_take_35 ?_
  refine lv_iconst (v := 1) hx hb dX8_take_38 (by decide) ?_
  refine lv_iadd hx hb dX8_take_39 ?_
  refine lv_topi (fun x_24 ex_24 => ?_)
  obtain rfl : x_24 = 16 := ex_24.trans (by first | rfl | decide)
  refine va_put (ci := 8) (v := .int 16) (ty := .int) (C := RX8) (T := TX8) (N := 6) hx hb hts hw8 tyX8 tyX8_ok nmX8 hown hK hP hD hS 0 rfl rfl 1 (by decide) (hts (.fieldLink RX8 15 "SmokeTune$Tape" "length" "I") (List.mem_cons_of_mem _ (List.mem_append_left _ (List.mem_of_getElem? (i := 0) rfl)))) (fun _ h9 => h9) rfl (by decide +kernel) (by first | rfl | decide) (by first | rfl | decide) (Nat.le_of_ble_eq_true rfl) dX8_take_40 (fun H locs hP hD hS => ?_)
  have hP : va_P D vwCl [(a0, .inr (8, [.ref a1, .int 16, g2, g3, g4, g5])), (a1, .inl (K 0, 400, .inl f_23))] H := hP
  have hD : va_D A [(a0, .inr (8, [.ref a1, .int 16, g2, g3, g4, g5])), (a1, .inl (K 0, 400, .inl f_23))] := hD
  refine lv_iinc (v := (-8)) (lv' := [(2, .int (-8)), (0, .ref a0), (1, .int x)]) hx hb dX8_take_43 hl (k := 0) rfl (by decide) (by decide) rfl (fun ls hl => ?_)
  refine lv_goto (tgt := 3) hx hb dX8_take_46 (by decide) ?_
  refine lv_iload_n hx hb dX8_take_3 rfl (lv_at hl 0 rfl) ?_
  refine lv_if_lt (tgt := 49) hx hb dX8_take_4 (by decide) (fun c_25 => ?_) (fun c_25 => absurd (by decide) c_25)
  have hP9 := hP.sub (ws' := [(a0, .inr (8, [.ref a1, .int 16, g2, g3, g4, g5])), (a1, .inl (K 0, 400, .inl f_23))]) [0, 1] rfl
  have hD9 := hD.sub (ws' := [(a0, .inr (8, [.ref a1, .int 16, g2, g3, g4, g5])), (a1, .inl (K 0, 400, .inl f_23))]) [0, 1] (by decide) rfl
  exact W.vret hx hb hr (fun t ht hW => ⟨⟨(fun _ => 0, fun i => match i with | _ => f_23, fun _ => fun _ => 0, fun _ => 0), rfl, trivial, (⟨by rw [ht]; exact hP9, hD9⟩ : Wd D A _ t)⟩, hS.F ht⟩) hS.2.2 dX8_take_49
set_option maxHeartbeats 4000000 in
set_option maxRecDepth 100000 in
theorem c_take_16 (l : Launch) (D : va_G) (K : Nat → ClassId) (a0 : Nat) (x : Int32) (a1 : Nat) (g2 : Value) (g3 : Value) (g4 : Value) (g5 : Value) (f : Nat → Int32) (sz : Nat) : Met l yX8_take wsX8_take ({ frames := 0, cells := 0, slots := 0, locals := 0 }) (va_Pc [.ref a0, .int x] (Pre D K [(a0, .inr (8, [.ref a1, .int 16, g2, g3, g4, g5])), (a1, .inl (K 0, 400, .inl f))] sz)) (va_Qv (S := (Nat → Nat) × (Nat → Nat → Int32) × (Nat → Nat → Int64) × (Nat → Int32)) (fun _ => True) (fun u t => Wd D (va_A [(a0, .inr (8, [.ref a1, .int 16, g2, g3, g4, g5])), (a1, .inl (K 0, 400, .inl f))] sz) ((fun u => [(a0, .inr (8, [.ref a1, .int 20, g2, g3, g4, g5])), (a1, .inl (K 0, 400, .inl ((u.2.1 0))))]) u) t) (va_A [(a0, .inr (8, [.ref a1, .int 16, g2, g3, g4, g5])), (a1, .inl (K 0, 400, .inl f))] sz)) 0 0 (va_A [(a0, .inr (8, [.ref a1, .int 16, g2, g3, g4, g5])), (a1, .inl (K 0, 400, .inl f))] sz) := by
  refine Met.ofW (cc := cX8_take) (maxL := 3) (ret := none) (by decide) rfl ?_
  intro p e s m args below meth c s₁ B hml hv
  obtain ⟨rfl, hsz, hP, hK, hD0, hN⟩ := hv
  have hx := B.exec
  have hb := B.bytes
  have hr := B.returns
  have hts := atoms_spec (ws := wsX8_take) B.pre
  have hown : s.vm.findClass RX8 = some m.cls := findClass_of_methodNamed B.named
  have hlocks := B.notSynchronized
  subst hsz
  have hD := hD0.self (sz := s.heap.size)
  generalize hAe : va_A [(a0, .inr (8, [.ref a1, .int 16, g2, g3, g4, g5])), (a1, .inl (K 0, 400, .inl f))] s.heap.size = A at hD ⊢
  have hA : ∀ q : Nat, s.heap.size ≤ q → A q := fun q h => by rw [← hAe]; exact Or.inr h
  have hS : va_S A s.heap s.heap [] := va_S.rf
  have hP : va_P D vwCl [(a0, .inr (8, [.ref a1, .int 16, g2, g3, g4, g5])), (a1, .inl (K 0, 400, .inl f))] s.heap := hP
  have hl := lv_entry [.ref a0, .int x] (n := 3) (Nat.le_of_ble_eq_true rfl)
  rw [lg_entry_eq]
  generalize (lg_sl [.ref a0, .int x] ++ List.replicate (3 - (lg_sl [.ref a0, .int x]).length) Slot.unset).toArray = ls at hl ⊢
  have hl : lv_has ls 3 [(0, .ref a0), (1, .int x)] := hl
  have hw8 : ∀ w ∈ wsX80, w ∈ wsX8_take := fun w h => (List.mem_cons_of_mem _ (List.mem_append_right _ h))
  refine lv_bipush (v := 24) hx hb dX8_take_0 (by decide) ?_
  refine lv_istore_n (lv' := [(2, .int 24), (0, .ref a0), (1, .int x)]) hx hb dX8_take_2 rfl hl (by decide) rfl (fun ls hl => ?_)
  refine lv_iload_n hx hb dX8_take_3 rfl (lv_at hl 0 rfl) ?_
  refine lv_if_lt (tgt := 49) hx hb dX8_take_4 (by decide) (fun c_1 => absurd c_1 (by decide)) (fun c_1 => ?_)
  refine lv_aload_n hx hb dX8_take_7 rfl (lv_at hl 1 rfl) ?_
  refine va_get (ci := 8) (v := .int 16) (C := RX8) (T := TX8) (N := 6) hx hb hts hw8 hown hK hP 0 rfl rfl 1 (by decide) (hts (.fieldLink RX8 15 "SmokeTune$Tape" "length" "I") (List.mem_cons_of_mem _ (List.mem_append_left _ (List.mem_of_getElem? (i := 0) rfl)))) (fun _ h9 => h9) rfl dX8_take_8 ?_
  refine lv_sipush (v := 400) hx hb dX8_take_11 (by decide) ?_
  refine lv_icmp_ge (tgt := 49) hx hb dX8_take_14 (by decide) (fun c_2 => absurd c_2 (by decide)) (fun c_2 => ?_)
  refine lv_aload_n hx hb dX8_take_17 rfl (lv_at hl 1 rfl) ?_
  refine va_get (ci := 8) (v := .ref a1) (C := RX8) (T := TX8) (N := 6) hx hb hts hw8 hown hK hP 0 rfl rfl 0 (by decide) (hts (.fieldLink RX8 11 "SmokeTune$Tape" "bytes" "[I") (List.mem_cons_of_mem _ (List.mem_append_left _ (List.mem_of_getElem? (i := 1) rfl)))) (fun _ h9 => h9) rfl dX8_take_18 ?_
  refine lv_aload_n hx hb dX8_take_21 rfl (lv_at hl 1 rfl) ?_
  refine va_get (ci := 8) (v := .int 16) (C := RX8) (T := TX8) (N := 6) hx hb hts hw8 hown hK hP 0 rfl rfl 1 (by decide) (hts (.fieldLink RX8 15 "SmokeTune$Tape" "length" "I") (List.mem_cons_of_mem _ (List.mem_append_left _ (List.mem_of_getElem? (i := 0) rfl)))) (fun _ h9 => h9) rfl dX8_take_22 ?_
  refine lv_iload_n hx hb dX8_take_25 rfl (lv_at hl 2 rfl) ?_
  refine lv_iload_n hx hb dX8_take_26 rfl (lv_at hl 0 rfl) ?_
  refine lv_ishr hx hb dX8_take_27 ?_
  refine lv_topi (fun x_3 ex_3 => ?_)
  refine lv_sipush (v := 255) hx hb dX8_take_28 (by decide) ?_
  refine lv_iand hx hb dX8_take_31 ?_
  refine lv_topi (fun x_4 ex_4 => ?_)
  refine va_iast hx hb hK hP hD hS 1 0 rfl rfl (i_in (x := 16) rfl (by omega)) dX8_take_32 (fun H locs hP hD hS => ?_)
  generalize hf_5 : (upd f (16 : Int32).toNatClampNeg x_4) = f_5 at hP hD
  have hP : va_P D vwCl [(a0, .inr (8, [.ref a1, .int 16, g2, g3, g4, g5])), (a1, .inl (K 0, 400, .inl f_5))] H := hP
  have hD : va_D A [(a0, .inr (8, [.ref a1, .int 16, g2, g3, g4, g5])), (a1, .inl (K 0, 400, .inl f_5))] := hD
  refine lv_aload_n hx hb dX8_take_33 rfl (lv_at hl 1 rfl) ?_
  refine lv_dup hx hb dX8_take_34 rfl ?_
  refine va_get (ci := 8) (v := .int 16) (C := RX8) (T := TX8) (N := 6) hx hb hts hw8 hown hK hP 0 rfl rfl 1 (by decide) (hts (.fieldLink RX8 15 "SmokeTune$Tape" "length" "I") (List.mem_cons_of_mem _ (List.mem_append_left _ (List.mem_of_getElem? (i := 0) rfl)))) (fun _ h9 => h9) rfl dX8_take_35 ?_
  refine lv_iconst (v := 1) hx hb dX8_take_38 (by decide) ?_
  refine lv_iadd hx hb dX8_take_39 ?_
  refine lv_topi (fun x_6 ex_6 => ?_)
  obtain rfl : x_6 = 17 := ex_6.trans (by first | rfl | decide)
  refine va_put (ci := 8) (v := .int 17) (ty := .int) (C := RX8) (T := TX8) (N := 6) hx hb hts hw8 tyX8 tyX8_ok nmX8 hown hK hP hD hS 0 rfl rfl 1 (by decide) (hts (.fieldLink RX8 15 "SmokeTune$Tape" "length" "I") (List.mem_cons_of_mem _ (List.mem_append_left _ (List.mem_of_getElem? (i := 0) rfl)))) (fun _ h9 => h9) rfl (by decide +kernel) (by first | rfl | decide) (by first | rfl | decide) (Nat.le_of_ble_eq_true rfl) dX8_take_40 (fun H locs hP hD hS => ?_)
  have hP : va_P D vwCl [(a0, .inr (8, [.ref a1, .int 17, g2, g3, g4, g5])), (a1, .inl (K 0, 400, .inl f_5))] H := hP
  have hD : va_D A [(a0, .inr (8, [.ref a1, .int 17, g2, g3, g4, g5])), (a1, .inl (K 0, 400, .inl f_5))] := hD
  refine lv_iinc (v := 16) (lv' := [(2, .int 16), (0, .ref a0), (1, .int x)]) hx hb dX8_take_43 hl (k := 0) rfl (by decide) (by decide) rfl (fun ls hl => ?_)
  refine lv_goto (tgt := 3) hx hb dX8_take_46 (by decide) ?_
  refine lv_iload_n hx hb dX8_take_3 rfl (lv_at hl 0 rfl) ?_
  refine lv_if_lt (tgt := 49) hx hb dX8_take_4 (by decide) (fun c_7 => absurd c_7 (by decide)) (fun c_7 => ?_)
  refine lv_aload_n hx hb dX8_take_7 rfl (lv_at hl 1 rfl) ?_
  refine va_get (ci := 8) (v := .int 17) (C := RX8) (T := TX8) (N := 6) hx hb hts hw8 hown hK hP 0 rfl rfl 1 (by decide) (hts (.fieldLink RX8 15 "SmokeTune$Tape" "length" "I") (List.mem_cons_of_mem _ (List.mem_append_left _ (List.mem_of_getElem? (i := 0) rfl)))) (fun _ h9 => h9) rfl dX8_take_8 ?_
  refine lv_sipush (v := 400) hx hb dX8_take_11 (by decide) ?_
  refine lv_icmp_ge (tgt := 49) hx hb dX8_take_14 (by decide) (fun c_8 => absurd c_8 (by decide)) (fun c_8 => ?_)
  refine lv_aload_n hx hb dX8_take_17 rfl (lv_at hl 1 rfl) ?_
  refine va_get (ci := 8) (v := .ref a1) (C := RX8) (T := TX8) (N := 6) hx hb hts hw8 hown hK hP 0 rfl rfl 0 (by decide) (hts (.fieldLink RX8 11 "SmokeTune$Tape" "bytes" "[I") (List.mem_cons_of_mem _ (List.mem_append_left _ (List.mem_of_getElem? (i := 1) rfl)))) (fun _ h9 => h9) rfl dX8_take_18 ?_
  refine lv_aload_n hx hb dX8_take_21 rfl (lv_at hl 1 rfl) ?_
  refine va_get (ci := 8) (v := .int 17) (C := RX8) (T := TX8) (N := 6) hx hb hts hw8 hown hK hP 0 rfl rfl 1 (by decide) (hts (.fieldLink RX8 15 "SmokeTune$Tape" "length" "I") (List.mem_cons_of_mem _ (List.mem_append_left _ (List.mem_of_getElem? (i := 0) rfl)))) (fun _ h9 => h9) rfl dX8_take_22 ?_
  refine lv_iload_n hx hb dX8_take_25 rfl (lv_at hl 2 rfl) ?_
  refine lv_iload_n hx hb dX8_take_26 rfl (lv_at hl 0 rfl) ?_
  refine lv_ishr hx hb dX8_take_27 ?_
  refine lv_topi (fun x_9 ex_9 => ?_)
  refine lv_sipush (v := 255) hx hb dX8_take_28 (by decide) ?_
  refine lv_iand hx hb dX8_take_31 ?_
  refine lv_topi (fun x_10 ex_10 => ?_)
  refine va_iast hx hb hK hP hD hS 1 0 rfl rfl (i_in (x := 17) rfl (by omega)) dX8_take_32 (fun H locs hP hD hS => ?_)
  generalize hf_11 : (upd f_5 (17 : Int32).toNatClampNeg x_10) = f_11 at hP hD
  have hP : va_P D vwCl [(a0, .inr (8, [.ref a1, .int 17, g2, g3, g4, g5])), (a1, .inl (K 0, 400, .inl f_11))] H := hP
  have hD : va_D A [(a0, .inr (8, [.ref a1, .int 17, g2, g3, g4, g5])), (a1, .inl (K 0, 400, .inl f_11))] := hD
  refine lv_aload_n hx hb dX8_take_33 rfl (lv_at hl 1 rfl) ?_
  refine lv_dup hx hb dX8_take_34 rfl ?_
  refine va_get (ci := 8) (v := .int 17) (C := RX8) (T := TX8) (N := 6) hx hb hts hw8 hown hK hP 0 rfl rfl 1 (by decide) (hts (.fieldLink RX8 15 "SmokeTune$Tape" "length" "I") (List.mem_cons_of_mem _ (List.mem_append_left _ (List.mem_of_getElem? (i := 0) rfl)))) (fun _ h9 => h9) rfl dX8_take_35 ?_
  refine lv_iconst (v := 1) hx hb dX8_take_38 (by decide) ?_
  refine lv_iadd hx hb dX8_take_39 ?_
  refine lv_topi (fun x_12 ex_12 => ?_)
  obtain rfl : x_12 = 18 := ex_12.trans (by first | rfl | decide)
  refine va_put (ci := 8) (v := .int 18) (ty := .int) (C := RX8) (T := TX8) (N := 6) hx hb hts hw8 tyX8 tyX8_ok nmX8 hown hK hP hD hS 0 rfl rfl 1 (by decide) (hts (.fieldLink RX8 15 "SmokeTune$Tape" "length" "I") (List.mem_cons_of_mem _ (List.mem_append_left _ (List.mem_of_getElem? (i := 0) rfl)))) (fun _ h9 => h9) rfl (by decide +kernel) (by first | rfl | decide) (by first | rfl | decide) (Nat.le_of_ble_eq_true rfl) dX8_take_40 (fun H locs hP hD hS => ?_)
  have hP : va_P D vwCl [(a0, .inr (8, [.ref a1, .int 18, g2, g3, g4, g5])), (a1, .inl (K 0, 400, .inl f_11))] H := hP
  have hD : va_D A [(a0, .inr (8, [.ref a1, .int 18, g2, g3, g4, g5])), (a1, .inl (K 0, 400, .inl f_11))] := hD
  refine lv_iinc (v := 8) (lv' := [(2, .int 8), (0, .ref a0), (1, .int x)]) hx hb dX8_take_43 hl (k := 0) rfl (by decide) (by decide) rfl (fun ls hl => ?_)
  refine lv_goto (tgt := 3) hx hb dX8_take_46 (by decide) ?_
  refine lv_iload_n hx hb dX8_take_3 rfl (lv_at hl 0 rfl) ?_
  refine lv_if_lt (tgt := 49) hx hb dX8_take_4 (by decide) (fun c_13 => absurd c_13 (by decide)) (fun c_13 => ?_)
  refine lv_aload_n hx hb dX8_take_7 rfl (lv_at hl 1 rfl) ?_
  refine va_get (ci := 8) (v := .int 18) (C := RX8) (T := TX8) (N := 6) hx hb hts hw8 hown hK hP 0 rfl rfl 1 (by decide) (hts (.fieldLink RX8 15 "SmokeTune$Tape" "length" "I") (List.mem_cons_of_mem _ (List.mem_append_left _ (List.mem_of_getElem? (i := 0) rfl)))) (fun _ h9 => h9) rfl dX8_take_8 ?_
  refine lv_sipush (v := 400) hx hb dX8_take_11 (by decide) ?_
  refine lv_icmp_ge (tgt := 49) hx hb dX8_take_14 (by decide) (fun c_14 => absurd c_14 (by decide)) (fun c_14 => ?_)
  refine lv_aload_n hx hb dX8_take_17 rfl (lv_at hl 1 rfl) ?_
  refine va_get (ci := 8) (v := .ref a1) (C := RX8) (T := TX8) (N := 6) hx hb hts hw8 hown hK hP 0 rfl rfl 0 (by decide) (hts (.fieldLink RX8 11 "SmokeTune$Tape" "bytes" "[I") (List.mem_cons_of_mem _ (List.mem_append_left _ (List.mem_of_getElem? (i := 1) rfl)))) (fun _ h9 => h9) rfl dX8_take_18 ?_
  refine lv_aload_n hx hb dX8_take_21 rfl (lv_at hl 1 rfl) ?_
  refine va_get (ci := 8) (v := .int 18) (C := RX8) (T := TX8) (N := 6) hx hb hts hw8 hown hK hP 0 rfl rfl 1 (by decide) (hts (.fieldLink RX8 15 "SmokeTune$Tape" "length" "I") (List.mem_cons_of_mem _ (List.mem_append_left _ (List.mem_of_getElem? (i := 0) rfl)))) (fun _ h9 => h9) rfl dX8_take_22 ?_
  refine lv_iload_n hx hb dX8_take_25 rfl (lv_at hl 2 rfl) ?_
  refine lv_iload_n hx hb dX8_take_26 rfl (lv_at hl 0 rfl) ?_
  refine lv_ishr hx hb dX8_take_27 ?_
  refine lv_topi (fun x_15 ex_15 => ?_)
  refine lv_sipush (v := 255) hx hb dX8_take_28 (by decide) ?_
  refine lv_iand hx hb dX8_take_31 ?_
  refine lv_topi (fun x_16 ex_16 => ?_)
  refine va_iast hx hb hK hP hD hS 1 0 rfl rfl (i_in (x := 18) rfl (by omega)) dX8_take_32 (fun H locs hP hD hS => ?_)
  generalize hf_17 : (upd f_11 (18 : Int32).toNatClampNeg x_16) = f_17 at hP hD
  have hP : va_P D vwCl [(a0, .inr (8, [.ref a1, .int 18, g2, g3, g4, g5])), (a1, .inl (K 0, 400, .inl f_17))] H := hP
  have hD : va_D A [(a0, .inr (8, [.ref a1, .int 18, g2, g3, g4, g5])), (a1, .inl (K 0, 400, .inl f_17))] := hD
  refine lv_aload_n hx hb dX8_take_33 rfl (lv_at hl 1 rfl) ?_
  refine lv_dup hx hb dX8_take_34 rfl ?_
  refine va_get (ci := 8) (v := .int 18) (C := RX8) (T := TX8) (N := 6) hx hb hts hw8 hown hK hP 0 rfl rfl 1 (by decide) (hts (.fieldLink RX8 15 "SmokeTune$Tape" "length" "I") (List.mem_cons_of_mem _ (List.mem_append_left _ (List.mem_of_getElem? (i := 0) rfl)))) (fun _ h9 => h9) rfl dX8_take_35 ?_
  refine lv_iconst (v := 1) hx hb dX8_take_38 (by decide) ?_
  refine lv_iadd hx hb dX8_take_39 ?_
  refine lv_topi (fun x_18 ex_18 => ?_)
  obtain rfl : x_18 = 19 := ex_18.trans (by first | rfl | decide)
  refine va_put (ci := 8) (v := .int 19) (ty := .int) (C := RX8) (T := TX8) (N := 6) hx hb hts hw8 tyX8 tyX8_ok nmX8 hown hK hP hD hS 0 rfl rfl 1 (by decide) (hts (.fieldLink RX8 15 "SmokeTune$Tape" "length" "I") (List.mem_cons_of_mem _ (List.mem_append_left _ (List.mem_of_getElem? (i := 0) rfl)))) (fun _ h9 => h9) rfl (by decide +kernel) (by first | rfl | decide) (by first | rfl | decide) (Nat.le_of_ble_eq_true rfl) dX8_take_40 (fun H locs hP hD hS => ?_)
  have hP : va_P D vwCl [(a0, .inr (8, [.ref a1, .int 19, g2, g3, g4, g5])), (a1, .inl (K 0, 400, .inl f_17))] H := hP
  have hD : va_D A [(a0, .inr (8, [.ref a1, .int 19, g2, g3, g4, g5])), (a1, .inl (K 0, 400, .inl f_17))] := hD
  refine lv_iinc (v := 0) (lv' := [(2, .int 0), (0, .ref a0), (1, .int x)]) hx hb dX8_take_43 hl (k := 0) rfl (by decide) (by decide) rfl (fun ls hl => ?_)
  refine lv_goto (tgt := 3) hx hb dX8_take_46 (by decide) ?_
  refine lv_iload_n hx hb dX8_take_3 rfl (lv_at hl 0 rfl) ?_
  refine lv_if_lt (tgt := 49) hx hb dX8_take_4 (by decide) (fun c_19 => absurd c_19 (by decide)) (fun c_19 => ?_)
  refine lv_aload_n hx hb dX8_take_7 rfl (lv_at hl 1 rfl) ?_
  refine va_get (ci := 8) (v := .int 19) (C := RX8) (T := TX8) (N := 6) hx hb hts hw8 hown hK hP 0 rfl rfl 1 (by decide) (hts (.fieldLink RX8 15 "SmokeTune$Tape" "length" "I") (List.mem_cons_of_mem _ (List.mem_append_left _ (List.mem_of_getElem? (i := 0) rfl)))) (fun _ h9 => h9) rfl dX8_take_8 ?_
  refine lv_sipush (v := 400) hx hb dX8_take_11 (by decide) ?_
  refine lv_icmp_ge (tgt := 49) hx hb dX8_take_14 (by decide) (fun c_20 => absurd c_20 (by decide)) (fun c_20 => ?_)
  refine lv_aload_n hx hb dX8_take_17 rfl (lv_at hl 1 rfl) ?_
  refine va_get (ci := 8) (v := .ref a1) (C := RX8) (T := TX8) (N := 6) hx hb hts hw8 hown hK hP 0 rfl rfl 0 (by decide) (hts (.fieldLink RX8 11 "SmokeTune$Tape" "bytes" "[I") (List.mem_cons_of_mem _ (List.mem_append_left _ (List.mem_of_getElem? (i := 1) rfl)))) (fun _ h9 => h9) rfl dX8_take_18 ?_
  refine lv_aload_n hx hb dX8_take_21 rfl (lv_at hl 1 rfl) ?_
  refine va_get (ci := 8) (v := .int 19) (C := RX8) (T := TX8) (N := 6) hx hb hts hw8 hown hK hP 0 rfl rfl 1 (by decide) (hts (.fieldLink RX8 15 "SmokeTune$Tape" "length" "I") (List.mem_cons_of_mem _ (List.mem_append_left _ (List.mem_of_getElem? (i := 0) rfl)))) (fun _ h9 => h9) rfl dX8_take_22 ?_
  refine lv_iload_n hx hb dX8_take_25 rfl (lv_at hl 2 rfl) ?_
  refine lv_iload_n hx hb dX8_take_26 rfl (lv_at hl 0 rfl) ?_
  refine lv_ishr hx hb dX8_take_27 ?_
  refine lv_topi (fun x_21 ex_21 => ?_)
  refine lv_sipush (v := 255) hx hb dX8_take_28 (by decide) ?_
  refine lv_iand hx hb dX8_take_31 ?_
  refine lv_topi (fun x_22 ex_22 => ?_)
  refine va_iast hx hb hK hP hD hS 1 0 rfl rfl (i_in (x := 19) rfl (by omega)) dX8_take_32 (fun H locs hP hD hS => ?_)
  generalize hf_23 : (upd f_17 (19 : Int32).toNatClampNeg x_22) = f_23 at hP hD
  have hP : va_P D vwCl [(a0, .inr (8, [.ref a1, .int 19, g2, g3, g4, g5])), (a1, .inl (K 0, 400, .inl f_23))] H := hP
  have hD : va_D A [(a0, .inr (8, [.ref a1, .int 19, g2, g3, g4, g5])), (a1, .inl (K 0, 400, .inl f_23))] := hD
  refine lv_aload_n hx hb dX8_take_33 rfl (lv_at hl 1 rfl) ?_
  refine lv_dup hx hb dX8_take_34 rfl ?_
  refine va_get (ci := 8) (v := .int 19) (C := RX8) (T := TX8) (N := 6) hx hb hts hw8 hown hK hP 0 rfl rfl 1 (by decide) (hts (.fieldLink RX8 15 "SmokeTune$Tape" "length" "I") (List.mem_cons_of_mem _ (List.mem_append_left _ (List.mem_of_getElem? (i := 0) rfl)))) (fun _ h9 => h9) rfl dX8_take_35 ?_
  refine lv_iconst (v := 1) hx hb dX8_take_38 (by decide) ?_
  refine lv_iadd hx hb dX8_take_39 ?_
  refine lv_topi (fun x_24 ex_24 => ?_)
  obtain rfl : x_24 = 20 := ex_24.trans (by first | rfl | decide)
  refine va_put (ci := 8) (v := .int 20) (ty := .int) (C := RX8) (T := TX8) (N := 6) hx hb hts hw8 tyX8 tyX8_ok nmX8 hown hK hP hD hS 0 rfl rfl 1 (by decide) (hts (.fieldLink RX8 15 "SmokeTune$Tape" "length" "I") (List.mem_cons_of_mem _ (List.mem_append_left _ (List.mem_of_getElem? (i := 0) rfl)))) (fun _ h9 => h9) rfl (by decide +kernel) (by first | rfl | decide) (by first | rfl | decide) (Nat.le_of_ble_eq_true rfl) dX8_take_40 (fun H locs hP hD hS => ?_)
  have hP : va_P D vwCl [(a0, .inr (8, [.ref a1, .int 20, g2, g3, g4, g5])), (a1, .inl (K 0, 400, .inl f_23))] H := hP
  have hD : va_D A [(a0, .inr (8, [.ref a1, .int 20, g2, g3, g4, g5])), (a1, .inl (K 0, 400, .inl f_23))] := hD
  refine lv_iinc (v := (-8)) (lv' := [(2, .int (-8)), (0, .ref a0), (1, .int x)]) hx hb dX8_take_43 hl (k := 0) rfl (by decide) (by decide) rfl (fun ls hl => ?_)
  refine lv_goto (tgt := 3) hx hb dX8_take_46 (by decide) ?_
  refine lv_iload_n hx hb dX8_take_3 rfl (lv_at hl 0 rfl) ?_
  refine lv_if_lt (tgt := 49) hx hb dX8_take_4 (by decide) (fun c_25 => ?_) (fun c_25 => absurd (by decide) c_25)
  have hP9 := hP.sub (ws' := [(a0, .inr (8, [.ref a1, .int 20, g2, g3, g4, g5])), (a1, .inl (K 0, 400, .inl f_23))]) [0, 1] rfl
  have hD9 := hD.sub (ws' := [(a0, .inr (8, [.ref a1, .int 20, g2, g3, g4, g5])), (a1, .inl (K 0, 400, .inl f_23))]) [0, 1] (by decide) rfl
  exact W.vret hx hb hr (fun t ht hW => ⟨⟨(fun _ => 0, fun i => match i with | _ => f_23, fun _ => fun _ => 0, fun _ => 0), rfl, trivial, (⟨by rw [ht]; exact hP9, hD9⟩ : Wd D A _ t)⟩, hS.F ht⟩) hS.2.2 dX8_take_49
set_option maxHeartbeats 4000000 in
set_option maxRecDepth 100000 in
theorem t_feed (l : Launch) (D : va_G) (K : Nat → ClassId) (a0 : Nat) (x0 : Int32) (x1 : Int32) (x2 : Int32) (x3 : Int32) (x4 : Int32) (g0 : Value) (g1 : Value) (g2 : Value) (g3 : Value) (g4 : Value) (a2 : Nat) (g6 : Value) (g7 : Value) (g8 : Value) (g9 : Value) (g10 : Value) (g11 : Value) (g12 : Value) (g13 : Value) (g14 : Value) (g15 : Value) (g16 : Value) (a3 : Nat) (k2 : Value) (k3 : Value) (k4 : Value) (k5 : Value) (sz : Nat) : Met l yX11_feed wsX11_feed ({ frames := 1, cells := 0, slots := 0, locals := 22 }) (va_Pc [.ref a0, .int x0, .int x1, .int x2, .int x3, .int x4] (Pre D K [(a0, .inr (11, [g0, g1, g2, g3, g4, .ref a2, g6, g7, g8, g9, g10, g11, g12, g13, g14, g15, g16])), (a2, .inr (8, [.ref a3, .int 0, k2, k3, k4, k5])), (a3, .inl (K 0, 400, .inl (fun _ => 0)))] sz)) (va_Qi (S := Unit) (fun (r : Int32) (_ : Unit) => (r = 20)) (fun u t => Wd D (va_A [(a0, .inr (11, [g0, g1, g2, g3, g4, .ref a2, g6, g7, g8, g9, g10, g11, g12, g13, g14, g15, g16])), (a2, .inr (8, [.ref a3, .int 0, k2, k3, k4, k5])), (a3, .inl (K 0, 400, .inl (fun _ => 0)))] sz) ((fun _ => []) u) t) (va_A [(a0, .inr (11, [g0, g1, g2, g3, g4, .ref a2, g6, g7, g8, g9, g10, g11, g12, g13, g14, g15, g16])), (a2, .inr (8, [.ref a3, .int 0, k2, k3, k4, k5])), (a3, .inl (K 0, 400, .inl (fun _ => 0)))] sz)) 0 0 (va_A [(a0, .inr (11, [g0, g1, g2, g3, g4, .ref a2, g6, g7, g8, g9, g10, g11, g12, g13, g14, g15, g16])), (a2, .inr (8, [.ref a3, .int 0, k2, k3, k4, k5])), (a3, .inl (K 0, 400, .inl (fun _ => 0)))] sz) := by
  refine Met.ofW (cc := cX11_feed) (maxL := 6) (ret := (some .int)) (by decide) rfl ?_
  intro p e s m args below meth c s₁ B hml hv
  obtain ⟨rfl, hsz, hP, hK, hD0, hN⟩ := hv
  have hx := B.exec
  have hb := B.bytes
  have hr := B.returns
  have hts := atoms_spec (ws := wsX11_feed) B.pre
  have hown : s.vm.findClass RX11 = some m.cls := findClass_of_methodNamed B.named
  have hlocks := B.notSynchronized
  subst hsz
  have hD := hD0.self (sz := s.heap.size)
  generalize hAe : va_A [(a0, .inr (11, [g0, g1, g2, g3, g4, .ref a2, g6, g7, g8, g9, g10, g11, g12, g13, g14, g15, g16])), (a2, .inr (8, [.ref a3, .int 0, k2, k3, k4, k5])), (a3, .inl (K 0, 400, .inl (fun _ => 0)))] s.heap.size = A at hD ⊢
  have hA : ∀ q : Nat, s.heap.size ≤ q → A q := fun q h => by rw [← hAe]; exact Or.inr h
  have hS : va_S A s.heap s.heap [] := va_S.rf
  have hP : va_P D vwCl [(a0, .inr (11, [g0, g1, g2, g3, g4, .ref a2, g6, g7, g8, g9, g10, g11, g12, g13, g14, g15, g16])), (a2, .inr (8, [.ref a3, .int 0, k2, k3, k4, k5])), (a3, .inl (K 0, 400, .inl (fun _ => 0)))] s.heap := hP
  have hl := lv_entry [.ref a0, .int x0, .int x1, .int x2, .int x3, .int x4] (n := 6) (Nat.le_of_ble_eq_true rfl)
  rw [lg_entry_eq]
  generalize (lg_sl [.ref a0, .int x0, .int x1, .int x2, .int x3, .int x4] ++ List.replicate (6 - (lg_sl [.ref a0, .int x0, .int x1, .int x2, .int x3, .int x4]).length) Slot.unset).toArray = ls at hl ⊢
  have hl : lv_has ls 6 [(0, .ref a0), (1, .int x0), (2, .int x1), (3, .int x2), (4, .int x3), (5, .int x4)] := hl
  have hw8 : ∀ w ∈ wsX80, w ∈ wsX11_feed := fun w h => (List.mem_cons_of_mem _ (List.mem_append_right _ h))
  have hw11 : ∀ w ∈ wsX110, w ∈ wsX11_feed := fun w h => (List.mem_cons_of_mem _ (List.mem_append_left _ (List.mem_append_right _ h)))
  refine lv_aload_n hx hb dX11_feed_0 rfl (lv_at hl 0 rfl) ?_
  refine va_get (ci := 11) (v := .ref a2) (C := RX11) (T := TX11) (N := 17) hx hb hts hw11 hown hK hP 0 rfl rfl 5 (by decide) (hts (.fieldLink RX11 38 "SmokeTune" "tape" "LSmokeTune$Tape;") (List.mem_cons_of_mem _ (List.mem_append_left _ (List.mem_append_left _ (List.mem_of_getElem? (i := 0) rfl))))) (fun _ h9 => h9) rfl dX11_feed_1 ?_
  refine va_getN (ci := 8) (v := .int 0) (C := RX8) (T := TX8) (N := 6) hx hb hts hw8 hown hK hP 1 rfl rfl 1 (by decide) (nst_use hN 120 rfl) (fun _ h9 => h9) rfl dX11_feed_4 ?_
  refine lv_bipush (v := 20) hx hb dX11_feed_7 (by decide) ?_
  refine lv_iadd hx hb dX11_feed_9 ?_
  refine lv_topi (fun x_1 ex_1 => ?_)
  obtain rfl : x_1 = 20 := ex_1.trans (by first | rfl | decide)
  refine lv_sipush (v := 400) hx hb dX11_feed_10 (by decide) ?_
  refine lv_icmp_le (tgt := 18) hx hb dX11_feed_13 (by decide) (fun c_2 => ?_) (fun c_2 => absurd (by decide) c_2)
  refine lv_aload_n hx hb dX11_feed_18 rfl (lv_at hl 0 rfl) ?_
  refine va_get (ci := 11) (v := .ref a2) (C := RX11) (T := TX11) (N := 17) hx hb hts hw11 hown hK hP 0 rfl rfl 5 (by decide) (hts (.fieldLink RX11 38 "SmokeTune" "tape" "LSmokeTune$Tape;") (List.mem_cons_of_mem _ (List.mem_append_left _ (List.mem_append_left _ (List.mem_of_getElem? (i := 0) rfl))))) (fun _ h9 => h9) rfl dX11_feed_19 ?_
  refine lv_iload_n hx hb dX11_feed_22 rfl (lv_at hl 1 rfl) ?_
  refine kcv (wr := [(a0, .inr (11, [g0, g1, g2, g3, g4, .ref a2, g6, g7, g8, g9, g10, g11, g12, g13, g14, g15, g16]))]) (va_runVN (As := [.int x0]) (rest := []) ⟨hx, hb, hml, hown, hts⟩ (c_take_0 l D K a2 x0 a3 k2 k3 k4 k5 (fun _ => 0) s.heap.size) ⟨va_cnB 1 hts gX11_feed_X8_take_n166 rfl rfl rfl (nst_at hN 29 rfl) (hts (.initialized RX8) (List.mem_cons_of_mem _ (List.mem_append_left _ (List.mem_append_left _ (List.mem_of_getElem? (i := 2) rfl))))) (by decide +kernel) ⟨Nat.le_of_ble_eq_true rfl, Nat.le_of_ble_eq_true rfl⟩, (hts (.instanceMethod yX8_take) (List.mem_cons_of_mem _ (List.mem_append_left _ (List.mem_append_left _ (List.mem_of_getElem? (i := 1) rfl))))), (hts (.selects RX8 yX8_take yX8_take) (List.mem_cons_of_mem _ (List.mem_append_left _ (List.mem_append_left _ (List.mem_of_getElem? (i := 3) rfl)))))⟩ (mkV hK hN (hP.sub [1, 2] rfl) (hD.sub [1, 2] (by decide) rfl) (ci := 8) (q0 := 0) rfl rfl) rfl rfl hl.1 rfl (lv_room (Nat.le_of_ble_eq_true rfl)) dX11_feed_23 ⟨Nat.le_of_ble_eq_true rfl, Nat.le_of_ble_eq_true rfl⟩) hP hD hS hA [1, 2] [0] rfl rfl (by decide) (by decide) (fun u_4 H locs hw hP hD hS => ?_)
  have hP : va_P D vwCl [(a0, .inr (11, [g0, g1, g2, g3, g4, .ref a2, g6, g7, g8, g9, g10, g11, g12, g13, g14, g15, g16])), (a2, .inr (8, [.ref a3, .int 4, k2, k3, k4, k5])), (a3, .inl (K 0, 400, .inl ((u_4.2.1 0))))] H := hP
  have hD : va_D A [(a0, .inr (11, [g0, g1, g2, g3, g4, .ref a2, g6, g7, g8, g9, g10, g11, g12, g13, g14, g15, g16])), (a2, .inr (8, [.ref a3, .int 4, k2, k3, k4, k5])), (a3, .inl (K 0, 400, .inl ((u_4.2.1 0))))] := hD
  refine lv_aload_n hx hb dX11_feed_26 rfl (lv_at hl 0 rfl) ?_
  refine va_get (ci := 11) (v := .ref a2) (C := RX11) (T := TX11) (N := 17) hx hb hts hw11 hown hK hP 0 rfl rfl 5 (by decide) (hts (.fieldLink RX11 38 "SmokeTune" "tape" "LSmokeTune$Tape;") (List.mem_cons_of_mem _ (List.mem_append_left _ (List.mem_append_left _ (List.mem_of_getElem? (i := 0) rfl))))) (fun _ h9 => h9) rfl dX11_feed_27 ?_
  refine lv_iload_n hx hb dX11_feed_30 rfl (lv_at hl 2 rfl) ?_
  refine kcv (wr := [(a0, .inr (11, [g0, g1, g2, g3, g4, .ref a2, g6, g7, g8, g9, g10, g11, g12, g13, g14, g15, g16]))]) (va_runVN (As := [.int x1]) (rest := []) ⟨hx, hb, hml, hown, hts⟩ (c_take_4 l D K a2 x1 a3 k2 k3 k4 k5 (u_4.2.1 0) H.size) ⟨va_cnB 1 hts gX11_feed_X8_take_n166 rfl rfl rfl (nst_at hN 29 rfl) (hts (.initialized RX8) (List.mem_cons_of_mem _ (List.mem_append_left _ (List.mem_append_left _ (List.mem_of_getElem? (i := 2) rfl))))) (by decide +kernel) ⟨Nat.le_of_ble_eq_true rfl, Nat.le_of_ble_eq_true rfl⟩, (hts (.instanceMethod yX8_take) (List.mem_cons_of_mem _ (List.mem_append_left _ (List.mem_append_left _ (List.mem_of_getElem? (i := 1) rfl))))), (hts (.selects RX8 yX8_take yX8_take) (List.mem_cons_of_mem _ (List.mem_append_left _ (List.mem_append_left _ (List.mem_of_getElem? (i := 3) rfl)))))⟩ (mkV hK hN (hP.sub [1, 2] rfl) (hD.sub [1, 2] (by decide) rfl) (ci := 8) (q0 := 0) rfl rfl) rfl rfl hl.1 rfl (lv_room (Nat.le_of_ble_eq_true rfl)) dX11_feed_31 ⟨Nat.le_of_ble_eq_true rfl, Nat.le_of_ble_eq_true rfl⟩) hP hD hS hA [1, 2] [0] rfl rfl (by decide) (by decide) (fun u_6 H locs hw hP hD hS => ?_)
  have hP : va_P D vwCl [(a0, .inr (11, [g0, g1, g2, g3, g4, .ref a2, g6, g7, g8, g9, g10, g11, g12, g13, g14, g15, g16])), (a2, .inr (8, [.ref a3, .int 8, k2, k3, k4, k5])), (a3, .inl (K 0, 400, .inl ((u_6.2.1 0))))] H := hP
  have hD : va_D A [(a0, .inr (11, [g0, g1, g2, g3, g4, .ref a2, g6, g7, g8, g9, g10, g11, g12, g13, g14, g15, g16])), (a2, .inr (8, [.ref a3, .int 8, k2, k3, k4, k5])), (a3, .inl (K 0, 400, .inl ((u_6.2.1 0))))] := hD
  refine lv_aload_n hx hb dX11_feed_34 rfl (lv_at hl 0 rfl) ?_
  refine va_get (ci := 11) (v := .ref a2) (C := RX11) (T := TX11) (N := 17) hx hb hts hw11 hown hK hP 0 rfl rfl 5 (by decide) (hts (.fieldLink RX11 38 "SmokeTune" "tape" "LSmokeTune$Tape;") (List.mem_cons_of_mem _ (List.mem_append_left _ (List.mem_append_left _ (List.mem_of_getElem? (i := 0) rfl))))) (fun _ h9 => h9) rfl dX11_feed_35 ?_
  refine lv_iload_n hx hb dX11_feed_38 rfl (lv_at hl 3 rfl) ?_
  refine kcv (wr := [(a0, .inr (11, [g0, g1, g2, g3, g4, .ref a2, g6, g7, g8, g9, g10, g11, g12, g13, g14, g15, g16]))]) (va_runVN (As := [.int x2]) (rest := []) ⟨hx, hb, hml, hown, hts⟩ (c_take_8 l D K a2 x2 a3 k2 k3 k4 k5 (u_6.2.1 0) H.size) ⟨va_cnB 1 hts gX11_feed_X8_take_n166 rfl rfl rfl (nst_at hN 29 rfl) (hts (.initialized RX8) (List.mem_cons_of_mem _ (List.mem_append_left _ (List.mem_append_left _ (List.mem_of_getElem? (i := 2) rfl))))) (by decide +kernel) ⟨Nat.le_of_ble_eq_true rfl, Nat.le_of_ble_eq_true rfl⟩, (hts (.instanceMethod yX8_take) (List.mem_cons_of_mem _ (List.mem_append_left _ (List.mem_append_left _ (List.mem_of_getElem? (i := 1) rfl))))), (hts (.selects RX8 yX8_take yX8_take) (List.mem_cons_of_mem _ (List.mem_append_left _ (List.mem_append_left _ (List.mem_of_getElem? (i := 3) rfl)))))⟩ (mkV hK hN (hP.sub [1, 2] rfl) (hD.sub [1, 2] (by decide) rfl) (ci := 8) (q0 := 0) rfl rfl) rfl rfl hl.1 rfl (lv_room (Nat.le_of_ble_eq_true rfl)) dX11_feed_39 ⟨Nat.le_of_ble_eq_true rfl, Nat.le_of_ble_eq_true rfl⟩) hP hD hS hA [1, 2] [0] rfl rfl (by decide) (by decide) (fun u_8 H locs hw hP hD hS => ?_)
  have hP : va_P D vwCl [(a0, .inr (11, [g0, g1, g2, g3, g4, .ref a2, g6, g7, g8, g9, g10, g11, g12, g13, g14, g15, g16])), (a2, .inr (8, [.ref a3, .int 12, k2, k3, k4, k5])), (a3, .inl (K 0, 400, .inl ((u_8.2.1 0))))] H := hP
  have hD : va_D A [(a0, .inr (11, [g0, g1, g2, g3, g4, .ref a2, g6, g7, g8, g9, g10, g11, g12, g13, g14, g15, g16])), (a2, .inr (8, [.ref a3, .int 12, k2, k3, k4, k5])), (a3, .inl (K 0, 400, .inl ((u_8.2.1 0))))] := hD
  refine lv_aload_n hx hb dX11_feed_42 rfl (lv_at hl 0 rfl) ?_
  refine va_get (ci := 11) (v := .ref a2) (C := RX11) (T := TX11) (N := 17) hx hb hts hw11 hown hK hP 0 rfl rfl 5 (by decide) (hts (.fieldLink RX11 38 "SmokeTune" "tape" "LSmokeTune$Tape;") (List.mem_cons_of_mem _ (List.mem_append_left _ (List.mem_append_left _ (List.mem_of_getElem? (i := 0) rfl))))) (fun _ h9 => h9) rfl dX11_feed_43 ?_
  refine lv_iload hx hb dX11_feed_46 (lv_at hl 4 rfl) ?_
  refine kcv (wr := [(a0, .inr (11, [g0, g1, g2, g3, g4, .ref a2, g6, g7, g8, g9, g10, g11, g12, g13, g14, g15, g16]))]) (va_runVN (As := [.int x3]) (rest := []) ⟨hx, hb, hml, hown, hts⟩ (c_take_12 l D K a2 x3 a3 k2 k3 k4 k5 (u_8.2.1 0) H.size) ⟨va_cnB 1 hts gX11_feed_X8_take_n166 rfl rfl rfl (nst_at hN 29 rfl) (hts (.initialized RX8) (List.mem_cons_of_mem _ (List.mem_append_left _ (List.mem_append_left _ (List.mem_of_getElem? (i := 2) rfl))))) (by decide +kernel) ⟨Nat.le_of_ble_eq_true rfl, Nat.le_of_ble_eq_true rfl⟩, (hts (.instanceMethod yX8_take) (List.mem_cons_of_mem _ (List.mem_append_left _ (List.mem_append_left _ (List.mem_of_getElem? (i := 1) rfl))))), (hts (.selects RX8 yX8_take yX8_take) (List.mem_cons_of_mem _ (List.mem_append_left _ (List.mem_append_left _ (List.mem_of_getElem? (i := 3) rfl)))))⟩ (mkV hK hN (hP.sub [1, 2] rfl) (hD.sub [1, 2] (by decide) rfl) (ci := 8) (q0 := 0) rfl rfl) rfl rfl hl.1 rfl (lv_room (Nat.le_of_ble_eq_true rfl)) dX11_feed_48 ⟨Nat.le_of_ble_eq_true rfl, Nat.le_of_ble_eq_true rfl⟩) hP hD hS hA [1, 2] [0] rfl rfl (by decide) (by decide) (fun u_10 H locs hw hP hD hS => ?_)
  have hP : va_P D vwCl [(a0, .inr (11, [g0, g1, g2, g3, g4, .ref a2, g6, g7, g8, g9, g10, g11, g12, g13, g14, g15, g16])), (a2, .inr (8, [.ref a3, .int 16, k2, k3, k4, k5])), (a3, .inl (K 0, 400, .inl ((u_10.2.1 0))))] H := hP
  have hD : va_D A [(a0, .inr (11, [g0, g1, g2, g3, g4, .ref a2, g6, g7, g8, g9, g10, g11, g12, g13, g14, g15, g16])), (a2, .inr (8, [.ref a3, .int 16, k2, k3, k4, k5])), (a3, .inl (K 0, 400, .inl ((u_10.2.1 0))))] := hD
  refine lv_aload_n hx hb dX11_feed_51 rfl (lv_at hl 0 rfl) ?_
  refine va_get (ci := 11) (v := .ref a2) (C := RX11) (T := TX11) (N := 17) hx hb hts hw11 hown hK hP 0 rfl rfl 5 (by decide) (hts (.fieldLink RX11 38 "SmokeTune" "tape" "LSmokeTune$Tape;") (List.mem_cons_of_mem _ (List.mem_append_left _ (List.mem_append_left _ (List.mem_of_getElem? (i := 0) rfl))))) (fun _ h9 => h9) rfl dX11_feed_52 ?_
  refine lv_iload hx hb dX11_feed_55 (lv_at hl 5 rfl) ?_
  refine kcv (wr := [(a0, .inr (11, [g0, g1, g2, g3, g4, .ref a2, g6, g7, g8, g9, g10, g11, g12, g13, g14, g15, g16]))]) (va_runVN (As := [.int x4]) (rest := []) ⟨hx, hb, hml, hown, hts⟩ (c_take_16 l D K a2 x4 a3 k2 k3 k4 k5 (u_10.2.1 0) H.size) ⟨va_cnB 1 hts gX11_feed_X8_take_n166 rfl rfl rfl (nst_at hN 29 rfl) (hts (.initialized RX8) (List.mem_cons_of_mem _ (List.mem_append_left _ (List.mem_append_left _ (List.mem_of_getElem? (i := 2) rfl))))) (by decide +kernel) ⟨Nat.le_of_ble_eq_true rfl, Nat.le_of_ble_eq_true rfl⟩, (hts (.instanceMethod yX8_take) (List.mem_cons_of_mem _ (List.mem_append_left _ (List.mem_append_left _ (List.mem_of_getElem? (i := 1) rfl))))), (hts (.selects RX8 yX8_take yX8_take) (List.mem_cons_of_mem _ (List.mem_append_left _ (List.mem_append_left _ (List.mem_of_getElem? (i := 3) rfl)))))⟩ (mkV hK hN (hP.sub [1, 2] rfl) (hD.sub [1, 2] (by decide) rfl) (ci := 8) (q0 := 0) rfl rfl) rfl rfl hl.1 rfl (lv_room (Nat.le_of_ble_eq_true rfl)) dX11_feed_57 ⟨Nat.le_of_ble_eq_true rfl, Nat.le_of_ble_eq_true rfl⟩) hP hD hS hA [1, 2] [0] rfl rfl (by decide) (by decide) (fun u_12 H locs hw hP hD hS => ?_)
  have hP : va_P D vwCl [(a0, .inr (11, [g0, g1, g2, g3, g4, .ref a2, g6, g7, g8, g9, g10, g11, g12, g13, g14, g15, g16])), (a2, .inr (8, [.ref a3, .int 20, k2, k3, k4, k5])), (a3, .inl (K 0, 400, .inl ((u_12.2.1 0))))] H := hP
  have hD : va_D A [(a0, .inr (11, [g0, g1, g2, g3, g4, .ref a2, g6, g7, g8, g9, g10, g11, g12, g13, g14, g15, g16])), (a2, .inr (8, [.ref a3, .int 20, k2, k3, k4, k5])), (a3, .inl (K 0, 400, .inl ((u_12.2.1 0))))] := hD
  refine lv_aload_n hx hb dX11_feed_60 rfl (lv_at hl 0 rfl) ?_
  refine va_get (ci := 11) (v := .ref a2) (C := RX11) (T := TX11) (N := 17) hx hb hts hw11 hown hK hP 0 rfl rfl 5 (by decide) (hts (.fieldLink RX11 38 "SmokeTune" "tape" "LSmokeTune$Tape;") (List.mem_cons_of_mem _ (List.mem_append_left _ (List.mem_append_left _ (List.mem_of_getElem? (i := 0) rfl))))) (fun _ h9 => h9) rfl dX11_feed_61 ?_
  refine va_getN (ci := 8) (v := .int 20) (C := RX8) (T := TX8) (N := 6) hx hb hts hw8 hown hK hP 1 rfl rfl 1 (by decide) (nst_use hN 120 rfl) (fun _ h9 => h9) rfl dX11_feed_64 ?_
  exact W.iret (v := 20) hx hb hr (fun t ht hW => ⟨⟨20, (), rfl, (by first | exact rfl), Wd.nil⟩, hS.F ht⟩) hS.2.2 dX11_feed_67
set_option maxHeartbeats 4000000 in
set_option maxRecDepth 100000 in
theorem t_end (l : Launch) (D : va_G) (K : Nat → ClassId) (a0 : Nat) (x : Int32) (g0 : Value) (g1 : Value) (g2 : Value) (g3 : Value) (g4 : Value) (a2 : Nat) (g6 : Value) (g7 : Value) (g8 : Value) (g9 : Value) (g10 : Value) (g11 : Value) (g12 : Value) (g13 : Value) (g14 : Value) (g15 : Value) (g16 : Value) (k0 : Value) (k2 : Value) (k3 : Value) (k4 : Value) (k5 : Value) (sz : Nat) : Met l yX11_end wsX11_end ({ frames := 1, cells := 0, slots := 0, locals := 22 }) (va_Pc [.ref a0, .int x] (Pre D K [(a0, .inr (11, [g0, g1, g2, g3, g4, .ref a2, g6, g7, g8, g9, g10, g11, g12, g13, g14, g15, g16])), (a2, .inr (8, [k0, .int 0, k2, k3, k4, k5]))] sz)) (va_Qi (S := Unit) (fun (r : Int32) (_ : Unit) => (r = x ∧ x.toInt = 0) ∨ (r = (-1) ∧ x.toInt ≠ 0)) (fun u t => Wd D (va_A [(a0, .inr (11, [g0, g1, g2, g3, g4, .ref a2, g6, g7, g8, g9, g10, g11, g12, g13, g14, g15, g16])), (a2, .inr (8, [k0, .int 0, k2, k3, k4, k5]))] sz) ((fun _ => []) u) t) (va_A [(a0, .inr (11, [g0, g1, g2, g3, g4, .ref a2, g6, g7, g8, g9, g10, g11, g12, g13, g14, g15, g16])), (a2, .inr (8, [k0, .int 0, k2, k3, k4, k5]))] sz)) 0 0 (va_A [(a0, .inr (11, [g0, g1, g2, g3, g4, .ref a2, g6, g7, g8, g9, g10, g11, g12, g13, g14, g15, g16])), (a2, .inr (8, [k0, .int 0, k2, k3, k4, k5]))] sz) := by
  refine Met.ofW (cc := cX11_end) (maxL := 2) (ret := (some .int)) (by decide) rfl ?_
  intro p e s m args below meth c s₁ B hml hv
  obtain ⟨rfl, hsz, hP, hK, hD0, hN⟩ := hv
  have hx := B.exec
  have hb := B.bytes
  have hr := B.returns
  have hts := atoms_spec (ws := wsX11_end) B.pre
  have hown : s.vm.findClass RX11 = some m.cls := findClass_of_methodNamed B.named
  have hlocks := B.notSynchronized
  subst hsz
  have hD := hD0.self (sz := s.heap.size)
  generalize hAe : va_A [(a0, .inr (11, [g0, g1, g2, g3, g4, .ref a2, g6, g7, g8, g9, g10, g11, g12, g13, g14, g15, g16])), (a2, .inr (8, [k0, .int 0, k2, k3, k4, k5]))] s.heap.size = A at hD ⊢
  have hA : ∀ q : Nat, s.heap.size ≤ q → A q := fun q h => by rw [← hAe]; exact Or.inr h
  have hS : va_S A s.heap s.heap [] := va_S.rf
  have hP : va_P D vwCl [(a0, .inr (11, [g0, g1, g2, g3, g4, .ref a2, g6, g7, g8, g9, g10, g11, g12, g13, g14, g15, g16])), (a2, .inr (8, [k0, .int 0, k2, k3, k4, k5]))] s.heap := hP
  have hl := lv_entry [.ref a0, .int x] (n := 2) (Nat.le_of_ble_eq_true rfl)
  rw [lg_entry_eq]
  generalize (lg_sl [.ref a0, .int x] ++ List.replicate (2 - (lg_sl [.ref a0, .int x]).length) Slot.unset).toArray = ls at hl ⊢
  have hl : lv_has ls 2 [(0, .ref a0), (1, .int x)] := hl
  have hw8 : ∀ w ∈ wsX80, w ∈ wsX11_end := fun w h => (List.mem_cons_of_mem _ (List.mem_append_right _ h))
  have hw11 : ∀ w ∈ wsX110, w ∈ wsX11_end := fun w h => (List.mem_cons_of_mem _ (List.mem_append_left _ (List.mem_append_right _ h)))
  refine lv_iload_n hx hb dX11_end_0 rfl (lv_at hl 1 rfl) ?_
  refine lv_iconst (v := 0) hx hb dX11_end_1 (by decide) ?_
  refine lv_aload_n hx hb dX11_end_2 rfl (lv_at hl 0 rfl) ?_
  refine va_get (ci := 11) (v := .ref a2) (C := RX11) (T := TX11) (N := 17) hx hb hts hw11 hown hK hP 0 rfl rfl 5 (by decide) (hts (.fieldLink RX11 38 "SmokeTune" "tape" "LSmokeTune$Tape;") (List.mem_cons_of_mem _ (List.mem_append_left _ (List.mem_append_left _ (List.mem_of_getElem? (i := 0) rfl))))) (fun _ h9 => h9) rfl dX11_end_3 ?_
  refine va_getN (ci := 8) (v := .int 0) (C := RX8) (T := TX8) (N := 6) hx hb hts hw8 hown hK hP 1 rfl rfl 1 (by decide) (nst_use hN 120 rfl) (fun _ h9 => h9) rfl dX11_end_6 ?_
  refine pci (va_runS (As := [.int x, .int 0, .int 0]) (rest := []) ⟨hx, hb, hml, hown, hts⟩ (c_within l D K x 0 0 x.toInt 0 0 s.heap.size rfl rfl rfl) (va_cwS 3 hts gX11_end_X11_within rfl rfl rfl (by decide +kernel) ⟨Nat.le_of_ble_eq_true rfl, Nat.le_of_ble_eq_true rfl⟩) (mkS hK hN (hP.sub [] rfl) (hD.sub [] (by decide) rfl)) rfl rfl hl.1 rfl (lv_room (Nat.le_of_ble_eq_true rfl)) dX11_end_9 ⟨Nat.le_of_ble_eq_true rfl, Nat.le_of_ble_eq_true rfl⟩) (fun r_1 hw => ?_)
  rcases hw with ⟨rfl, h_2, h_3⟩ | ⟨rfl, h_4⟩
  · refine lv_if_ne (tgt := 17) hx hb dX11_end_12 (by decide) (fun c_5 => ?_) (fun c_5 => absurd c_5 (by decide))
    refine lv_aload_n hx hb dX11_end_17 rfl (lv_at hl 0 rfl) ?_
    refine va_get (ci := 11) (v := .ref a2) (C := RX11) (T := TX11) (N := 17) hx hb hts hw11 hown hK hP 0 rfl rfl 5 (by decide) (hts (.fieldLink RX11 38 "SmokeTune" "tape" "LSmokeTune$Tape;") (List.mem_cons_of_mem _ (List.mem_append_left _ (List.mem_append_left _ (List.mem_of_getElem? (i := 0) rfl))))) (fun _ h9 => h9) rfl dX11_end_18 ?_
    refine lv_iload_n hx hb dX11_end_21 rfl (lv_at hl 1 rfl) ?_
    refine va_putN (ci := 8) (v := .int x) (ty := .int) (C := RX8) (T := TX8) (N := 6) hx hb hts hw8 tyX8 tyX8_ok nmX8 hown hK hP hD hS 1 rfl rfl 1 (by decide) (nst_use hN 120 rfl) (fun _ h9 => h9) rfl (by decide +kernel) (by first | rfl | decide) (by first | rfl | decide) (Nat.le_of_ble_eq_true rfl) dX11_end_22 (fun H locs hP hD hS => ?_)
    have hP : va_P D vwCl [(a0, .inr (11, [g0, g1, g2, g3, g4, .ref a2, g6, g7, g8, g9, g10, g11, g12, g13, g14, g15, g16])), (a2, .inr (8, [k0, .int x, k2, k3, k4, k5]))] H := hP
    have hD : va_D A [(a0, .inr (11, [g0, g1, g2, g3, g4, .ref a2, g6, g7, g8, g9, g10, g11, g12, g13, g14, g15, g16])), (a2, .inr (8, [k0, .int x, k2, k3, k4, k5]))] := hD
    refine lv_iload_n hx hb dX11_end_25 rfl (lv_at hl 1 rfl) ?_
    exact W.iret (v := x) hx hb hr (fun t ht hW => ⟨⟨x, (), rfl, (by first | exact Or.inl (⟨rfl, by first | omega | decide | (subst_vars; assumption) | (subst_vars; symm; assumption)⟩) | exact Or.inr (⟨rfl, by first | omega | decide | (subst_vars; assumption) | (subst_vars; symm; assumption)⟩)), Wd.nil⟩, hS.F ht⟩) hS.2.2 dX11_end_26
  · refine lv_if_ne (tgt := 17) hx hb dX11_end_12 (by decide) (fun c_6 => absurd (by decide) c_6) (fun c_6 => ?_)
    refine lv_iconst (v := (-1)) hx hb dX11_end_15 (by decide) ?_
    exact W.iret (v := (-1)) hx hb hr (fun t ht hW => ⟨⟨(-1), (), rfl, (by first | exact Or.inl (⟨rfl, by first | omega | decide | (subst_vars; assumption) | (subst_vars; symm; assumption)⟩) | exact Or.inr (⟨rfl, by first | omega | decide | (subst_vars; assumption) | (subst_vars; symm; assumption)⟩)), Wd.nil⟩, hS.F ht⟩) hS.2.2 dX11_end_16
set_option maxHeartbeats 4000000 in
set_option maxRecDepth 100000 in
theorem t_row (l : Launch) (D : va_G) (K : Nat → ClassId) (a0 : Nat) (g0 : Value) (g1 : Value) (g2 : Value) (g3 : Value) (g4 : Value) (a2 : Nat) (g6 : Value) (g7 : Value) (g8 : Value) (g9 : Value) (g10 : Value) (g11 : Value) (a1 : Nat) (g13 : Value) (g14 : Value) (g15 : Value) (g16 : Value) (f : Nat → Int32) (k0 : Value) (k2 : Value) (k3 : Value) (k4 : Value) (k5 : Value) (sz : Nat) : Met l yX11_row wsX11_row ({ frames := 2, cells := 0, slots := 0, locals := 44 }) (va_Pc [.ref a0] (Pre D K [(a0, .inr (11, [g0, g1, g2, g3, g4, .ref a2, g6, g7, g8, g9, g10, g11, .ref a1, g13, g14, g15, g16])), (a1, .inl (K 0, 5, .inl f)), (a2, .inr (8, [k0, .int 0, k2, k3, k4, k5]))] sz)) (va_Qi (S := Unit) (fun (r : Int32) (_ : Unit) => (r = (-6))) (fun u t => Wd D (va_A [(a0, .inr (11, [g0, g1, g2, g3, g4, .ref a2, g6, g7, g8, g9, g10, g11, .ref a1, g13, g14, g15, g16])), (a1, .inl (K 0, 5, .inl f)), (a2, .inr (8, [k0, .int 0, k2, k3, k4, k5]))] sz) ((fun _ => []) u) t) (va_A [(a0, .inr (11, [g0, g1, g2, g3, g4, .ref a2, g6, g7, g8, g9, g10, g11, .ref a1, g13, g14, g15, g16])), (a1, .inl (K 0, 5, .inl f)), (a2, .inr (8, [k0, .int 0, k2, k3, k4, k5]))] sz)) 0 0 (va_A [(a0, .inr (11, [g0, g1, g2, g3, g4, .ref a2, g6, g7, g8, g9, g10, g11, .ref a1, g13, g14, g15, g16])), (a1, .inl (K 0, 5, .inl f)), (a2, .inr (8, [k0, .int 0, k2, k3, k4, k5]))] sz) := by
  refine Met.ofW (cc := cX11_row) (maxL := 4) (ret := (some .int)) (by decide) rfl ?_
  intro p e s m args below meth c s₁ B hml hv
  obtain ⟨rfl, hsz, hP, hK, hD0, hN⟩ := hv
  have hx := B.exec
  have hb := B.bytes
  have hr := B.returns
  have hts := atoms_spec (ws := wsX11_row) B.pre
  have hown : s.vm.findClass RX11 = some m.cls := findClass_of_methodNamed B.named
  have hlocks := B.notSynchronized
  subst hsz
  have hD := hD0.self (sz := s.heap.size)
  generalize hAe : va_A [(a0, .inr (11, [g0, g1, g2, g3, g4, .ref a2, g6, g7, g8, g9, g10, g11, .ref a1, g13, g14, g15, g16])), (a1, .inl (K 0, 5, .inl f)), (a2, .inr (8, [k0, .int 0, k2, k3, k4, k5]))] s.heap.size = A at hD ⊢
  have hA : ∀ q : Nat, s.heap.size ≤ q → A q := fun q h => by rw [← hAe]; exact Or.inr h
  have hS : va_S A s.heap s.heap [] := va_S.rf
  have hP : va_P D vwCl [(a0, .inr (11, [g0, g1, g2, g3, g4, .ref a2, g6, g7, g8, g9, g10, g11, .ref a1, g13, g14, g15, g16])), (a1, .inl (K 0, 5, .inl f)), (a2, .inr (8, [k0, .int 0, k2, k3, k4, k5]))] s.heap := hP
  have hl := lv_entry [.ref a0] (n := 4) (Nat.le_of_ble_eq_true rfl)
  rw [lg_entry_eq]
  generalize (lg_sl [.ref a0] ++ List.replicate (4 - (lg_sl [.ref a0]).length) Slot.unset).toArray = ls at hl ⊢
  have hl : lv_has ls 4 [(0, .ref a0)] := hl
  have hw8 : ∀ w ∈ wsX80, w ∈ wsX11_row := fun w h => (List.mem_cons_of_mem _ (List.mem_append_left _ (List.mem_append_right _ h)))
  have hw9 : ∀ w ∈ wsX90, w ∈ wsX11_row := fun w h => (List.mem_cons_of_mem _ (List.mem_append_right _ h))
  have hw11 : ∀ w ∈ wsX110, w ∈ wsX11_row := fun w h => (List.mem_cons_of_mem _ (List.mem_append_left _ (List.mem_append_left _ (List.mem_append_right _ h))))
  refine lv_aload_n hx hb dX11_row_0 rfl (lv_at hl 0 rfl) ?_
  refine va_get (ci := 11) (v := .ref a2) (C := RX11) (T := TX11) (N := 17) hx hb hts hw11 hown hK hP 0 rfl rfl 5 (by decide) (hts (.fieldLink RX11 38 "SmokeTune" "tape" "LSmokeTune$Tape;") (List.mem_cons_of_mem _ (List.mem_append_left _ (List.mem_append_left _ (List.mem_append_left _ (List.mem_of_getElem? (i := 0) rfl)))))) (fun _ h9 => h9) rfl dX11_row_1 ?_
  refine va_getN (ci := 8) (v := .int 0) (C := RX8) (T := TX8) (N := 6) hx hb hts hw8 hown hK hP 2 rfl rfl 1 (by decide) (nst_use hN 120 rfl) (fun _ h9 => h9) rfl dX11_row_4 ?_
  refine lv_if_ne (tgt := 17) hx hb dX11_row_7 (by decide) (fun c_1 => absurd (by decide) c_1) (fun c_1 => ?_)
  refine lv_aload_n hx hb dX11_row_10 rfl (lv_at hl 0 rfl) ?_
  refine lv_bipush (v := (-6)) hx hb dX11_row_11 (by decide) ?_
  refine kci (wr := [(a2, .inr (8, [k0, .int 0, k2, k3, k4, k5]))]) (va_runV (As := [.int (-6)]) (rest := []) ⟨hx, hb, hml, hown, hts⟩ (c_refuse_6 l D K a0 g0 g1 g2 g3 g4 (.ref a2) g6 g7 g8 g9 g10 g11 a1 g13 g14 g15 g16 f s.heap.size) (cwV 1 hts gX11_row_X11_refuse rfl rfl rfl (by decide +kernel) ⟨Nat.le_of_ble_eq_true rfl, Nat.le_of_ble_eq_true rfl⟩) (mkV hK hN (hP.sub [0, 1] rfl) (hD.sub [0, 1] (by decide) rfl) (ci := 11) (q0 := 0) rfl rfl) rfl rfl hl.1 rfl (lv_room (Nat.le_of_ble_eq_true rfl)) dX11_row_13 ⟨Nat.le_of_ble_eq_true rfl, Nat.le_of_ble_eq_true rfl⟩) hP hD hS hA [0, 1] [2] rfl rfl (by decide) (by decide) (fun r_2 u_3 H locs hw hP hD hS => ?_)
  have hP : va_P D vwCl [(a2, .inr (8, [k0, .int 0, k2, k3, k4, k5]))] H := hP
  have hD : va_D A [(a2, .inr (8, [k0, .int 0, k2, k3, k4, k5]))] := hD
  obtain rfl : r_2 = (-6) := hw
  exact W.iret (v := (-6)) hx hb hr (fun t ht hW => ⟨⟨(-6), (), rfl, (by first | exact rfl), Wd.nil⟩, hS.F ht⟩) hS.2.2 dX11_row_16
set_option maxHeartbeats 4000000 in
set_option maxRecDepth 100000 in
theorem t_force (l : Launch) (D : va_G) (K : Nat → ClassId) (a0 : Nat) (x : Int32) (a2 : Nat) (g1 : Value) (g2 : Value) (g3 : Value) (g4 : Value) (g5 : Value) (g6 : Value) (g7 : Value) (g8 : Value) (g9 : Value) (g10 : Value) (g11 : Value) (a1 : Nat) (g13 : Value) (g14 : Value) (g15 : Value) (g16 : Value) (f : Nat → Int32) (k0 : Value) (k1 : Value) (k2 : Value) (k3 : Value) (k4 : Value) (k7 : Value) (k8 : Value) (k9 : Value) (sz : Nat) : Met l yX11_force wsX11_force ({ frames := 2, cells := 0, slots := 0, locals := 44 }) (va_Pc [.ref a0, .int x] (Pre D K [(a0, .inr (11, [.ref a2, g1, g2, g3, g4, g5, g6, g7, g8, g9, g10, g11, .ref a1, g13, g14, g15, g16])), (a1, .inl (K 0, 5, .inl f)), (a2, .inr (9, [k0, k1, k2, k3, k4, .int 0, .int (-1), k7, k8, k9]))] sz)) (va_Qi (S := Unit) (fun (r : Int32) (_ : Unit) => (r = (-1) ∧ x.toInt = -1) ∨ (r = (-2) ∧ x.toInt ≠ -1)) (fun u t => Wd D (va_A [(a0, .inr (11, [.ref a2, g1, g2, g3, g4, g5, g6, g7, g8, g9, g10, g11, .ref a1, g13, g14, g15, g16])), (a1, .inl (K 0, 5, .inl f)), (a2, .inr (9, [k0, k1, k2, k3, k4, .int 0, .int (-1), k7, k8, k9]))] sz) ((fun _ => []) u) t) (va_A [(a0, .inr (11, [.ref a2, g1, g2, g3, g4, g5, g6, g7, g8, g9, g10, g11, .ref a1, g13, g14, g15, g16])), (a1, .inl (K 0, 5, .inl f)), (a2, .inr (9, [k0, k1, k2, k3, k4, .int 0, .int (-1), k7, k8, k9]))] sz)) 0 0 (va_A [(a0, .inr (11, [.ref a2, g1, g2, g3, g4, g5, g6, g7, g8, g9, g10, g11, .ref a1, g13, g14, g15, g16])), (a1, .inl (K 0, 5, .inl f)), (a2, .inr (9, [k0, k1, k2, k3, k4, .int 0, .int (-1), k7, k8, k9]))] sz) := by
  refine Met.ofW (cc := cX11_force) (maxL := 3) (ret := (some .int)) (by decide) rfl ?_
  intro p e s m args below meth c s₁ B hml hv
  obtain ⟨rfl, hsz, hP, hK, hD0, hN⟩ := hv
  have hx := B.exec
  have hb := B.bytes
  have hr := B.returns
  have hts := atoms_spec (ws := wsX11_force) B.pre
  have hown : s.vm.findClass RX11 = some m.cls := findClass_of_methodNamed B.named
  have hlocks := B.notSynchronized
  subst hsz
  have hD := hD0.self (sz := s.heap.size)
  generalize hAe : va_A [(a0, .inr (11, [.ref a2, g1, g2, g3, g4, g5, g6, g7, g8, g9, g10, g11, .ref a1, g13, g14, g15, g16])), (a1, .inl (K 0, 5, .inl f)), (a2, .inr (9, [k0, k1, k2, k3, k4, .int 0, .int (-1), k7, k8, k9]))] s.heap.size = A at hD ⊢
  have hA : ∀ q : Nat, s.heap.size ≤ q → A q := fun q h => by rw [← hAe]; exact Or.inr h
  have hS : va_S A s.heap s.heap [] := va_S.rf
  have hP : va_P D vwCl [(a0, .inr (11, [.ref a2, g1, g2, g3, g4, g5, g6, g7, g8, g9, g10, g11, .ref a1, g13, g14, g15, g16])), (a1, .inl (K 0, 5, .inl f)), (a2, .inr (9, [k0, k1, k2, k3, k4, .int 0, .int (-1), k7, k8, k9]))] s.heap := hP
  have hl := lv_entry [.ref a0, .int x] (n := 3) (Nat.le_of_ble_eq_true rfl)
  rw [lg_entry_eq]
  generalize (lg_sl [.ref a0, .int x] ++ List.replicate (3 - (lg_sl [.ref a0, .int x]).length) Slot.unset).toArray = ls at hl ⊢
  have hl : lv_has ls 3 [(0, .ref a0), (1, .int x)] := hl
  have hw9 : ∀ w ∈ wsX90, w ∈ wsX11_force := fun w h => (List.mem_cons_of_mem _ (List.mem_append_right _ h))
  have hw11 : ∀ w ∈ wsX110, w ∈ wsX11_force := fun w h => (List.mem_cons_of_mem _ (List.mem_append_left _ (List.mem_append_right _ h)))
  refine lv_iload_n hx hb dX11_force_0 rfl (lv_at hl 1 rfl) ?_
  refine lv_iconst (v := (-1)) hx hb dX11_force_1 (by decide) ?_
  refine lv_icmp_eq (tgt := 29) hx hb dX11_force_2 (by decide) (fun c_1 => ?_) (fun c_1 => ?_)
  · have c_1i := i_eq (x := x.toInt) (y := (-1)) rfl rfl c_1
    refine lv_aload_n hx hb dX11_force_29 rfl (lv_at hl 0 rfl) ?_
    refine va_get (ci := 11) (v := .ref a2) (C := RX11) (T := TX11) (N := 17) hx hb hts hw11 hown hK hP 0 rfl rfl 0 (by decide) (hts (.fieldLink RX11 10 "SmokeTune" "town" "LSmokeTune$Town;") (List.mem_cons_of_mem _ (List.mem_append_left _ (List.mem_append_left _ (List.mem_of_getElem? (i := 0) rfl))))) (fun _ h9 => h9) rfl dX11_force_30 ?_
    refine va_getN (ci := 9) (v := .int (-1)) (C := RX9) (T := TX9) (N := 10) hx hb hts hw9 hown hK hP 2 rfl rfl 6 (by decide) (nst_use hN 111 rfl) (fun _ h9 => h9) rfl dX11_force_33 ?_
    refine lv_istore_n (lv' := [(2, .int (-1)), (0, .ref a0), (1, .int x)]) hx hb dX11_force_36 rfl hl (by decide) rfl (fun ls hl => ?_)
    refine lv_aload_n hx hb dX11_force_37 rfl (lv_at hl 1 rfl) ?_
    refine va_get (ci := 11) (v := .ref a2) (C := RX11) (T := TX11) (N := 17) hx hb hts hw11 hown hK hP 0 rfl rfl 0 (by decide) (hts (.fieldLink RX11 10 "SmokeTune" "town" "LSmokeTune$Town;") (List.mem_cons_of_mem _ (List.mem_append_left _ (List.mem_append_left _ (List.mem_of_getElem? (i := 0) rfl))))) (fun _ h9 => h9) rfl dX11_force_38 ?_
    refine lv_iload_n hx hb dX11_force_41 rfl (lv_at hl 2 rfl) ?_
    refine va_putN (ci := 9) (v := .int x) (ty := .int) (C := RX9) (T := TX9) (N := 10) hx hb hts hw9 tyX9 tyX9_ok nmX9 hown hK hP hD hS 2 rfl rfl 6 (by decide) (nst_use hN 111 rfl) (fun _ h9 => h9) rfl (by decide +kernel) (by first | rfl | decide) (by first | rfl | decide) (Nat.le_of_ble_eq_true rfl) dX11_force_42 (fun H locs hP hD hS => ?_)
    have hP : va_P D vwCl [(a0, .inr (11, [.ref a2, g1, g2, g3, g4, g5, g6, g7, g8, g9, g10, g11, .ref a1, g13, g14, g15, g16])), (a1, .inl (K 0, 5, .inl f)), (a2, .inr (9, [k0, k1, k2, k3, k4, .int 0, .int x, k7, k8, k9]))] H := hP
    have hD : va_D A [(a0, .inr (11, [.ref a2, g1, g2, g3, g4, g5, g6, g7, g8, g9, g10, g11, .ref a1, g13, g14, g15, g16])), (a1, .inl (K 0, 5, .inl f)), (a2, .inr (9, [k0, k1, k2, k3, k4, .int 0, .int x, k7, k8, k9]))] := hD
    refine lv_aload_n hx hb dX11_force_45 rfl (lv_at hl 1 rfl) ?_
    refine lv_iload_n hx hb dX11_force_46 rfl (lv_at hl 0 rfl) ?_
    refine kci (wr := [(a1, .inl (K 0, 5, .inl f)), (a2, .inr (9, [k0, k1, k2, k3, k4, .int 0, .int x, k7, k8, k9]))]) (va_runV (As := [.int (-1)]) (rest := []) ⟨hx, hb, hml, hown, hts⟩ (c_accept l D K a0 (-1) (.ref a2) g1 g2 g3 g4 g5 g6 g7 g8 g9 g10 g11 (.ref a1) g13 g14 g15 g16 H.size) (cwV 1 hts gX11_force_X11_accept rfl rfl rfl (by decide +kernel) ⟨Nat.le_of_ble_eq_true rfl, Nat.le_of_ble_eq_true rfl⟩) (mkV hK hN (hP.sub [0] rfl) (hD.sub [0] (by decide) rfl) (ci := 11) (q0 := 0) rfl rfl) rfl rfl hl.1 rfl (lv_room (Nat.le_of_ble_eq_true rfl)) dX11_force_47 ⟨Nat.le_of_ble_eq_true rfl, Nat.le_of_ble_eq_true rfl⟩) hP hD hS hA [0] [1, 2] rfl rfl (by decide) (by decide) (fun r_2 u_3 H locs hw hP hD hS => ?_)
    have hP : va_P D vwCl [(a1, .inl (K 0, 5, .inl f)), (a2, .inr (9, [k0, k1, k2, k3, k4, .int 0, .int x, k7, k8, k9]))] H := hP
    have hD : va_D A [(a1, .inl (K 0, 5, .inl f)), (a2, .inr (9, [k0, k1, k2, k3, k4, .int 0, .int x, k7, k8, k9]))] := hD
    obtain rfl : r_2 = (-1) := hw
    exact W.iret (v := (-1)) hx hb hr (fun t ht hW => ⟨⟨(-1), (), rfl, (by first | exact Or.inl (⟨rfl, by first | omega | decide | (subst_vars; assumption) | (subst_vars; symm; assumption)⟩)), Wd.nil⟩, hS.F ht⟩) hS.2.2 dX11_force_50
  · have c_1i := i_ne (x := x.toInt) (y := (-1)) rfl rfl c_1
    refine lv_iload_n hx hb dX11_force_5 rfl (lv_at hl 1 rfl) ?_
    refine lv_iconst (v := 0) hx hb dX11_force_6 (by decide) ?_
    refine lv_aload_n hx hb dX11_force_7 rfl (lv_at hl 0 rfl) ?_
    refine va_get (ci := 11) (v := .ref a2) (C := RX11) (T := TX11) (N := 17) hx hb hts hw11 hown hK hP 0 rfl rfl 0 (by decide) (hts (.fieldLink RX11 10 "SmokeTune" "town" "LSmokeTune$Town;") (List.mem_cons_of_mem _ (List.mem_append_left _ (List.mem_append_left _ (List.mem_of_getElem? (i := 0) rfl))))) (fun _ h9 => h9) rfl dX11_force_8 ?_
    refine va_getN (ci := 9) (v := .int 0) (C := RX9) (T := TX9) (N := 10) hx hb hts hw9 hown hK hP 2 rfl rfl 5 (by decide) (nst_use hN 110 rfl) (fun _ h9 => h9) rfl dX11_force_11 ?_
    refine lv_iconst (v := 1) hx hb dX11_force_14 (by decide) ?_
    refine lv_isub hx hb dX11_force_15 ?_
    refine lv_topi (fun x_4 ex_4 => ?_)
    obtain rfl : x_4 = (-1) := ex_4.trans (by first | rfl | decide)
    refine pci (va_runS (As := [.int x, .int 0, .int (-1)]) (rest := []) ⟨hx, hb, hml, hown, hts⟩ (c_within l D K x 0 (-1) x.toInt 0 (-1) s.heap.size rfl rfl rfl) (va_cwS 3 hts gX11_force_X11_within rfl rfl rfl (by decide +kernel) ⟨Nat.le_of_ble_eq_true rfl, Nat.le_of_ble_eq_true rfl⟩) (mkS hK hN (hP.sub [] rfl) (hD.sub [] (by decide) rfl)) rfl rfl hl.1 rfl (lv_room (Nat.le_of_ble_eq_true rfl)) dX11_force_16 ⟨Nat.le_of_ble_eq_true rfl, Nat.le_of_ble_eq_true rfl⟩) (fun r_5 hw => ?_)
    rcases hw with ⟨rfl, h_6, h_7⟩ | ⟨rfl, h_8⟩
    · exfalso; omega
    · refine lv_if_ne (tgt := 29) hx hb dX11_force_19 (by decide) (fun c_9 => absurd (by decide) c_9) (fun c_9 => ?_)
      refine lv_aload_n hx hb dX11_force_22 rfl (lv_at hl 0 rfl) ?_
      refine lv_bipush (v := (-2)) hx hb dX11_force_23 (by decide) ?_
      refine kci (wr := [(a2, .inr (9, [k0, k1, k2, k3, k4, .int 0, .int (-1), k7, k8, k9]))]) (va_runV (As := [.int (-2)]) (rest := []) ⟨hx, hb, hml, hown, hts⟩ (c_refuse_2 l D K a0 (.ref a2) g1 g2 g3 g4 g5 g6 g7 g8 g9 g10 g11 a1 g13 g14 g15 g16 f s.heap.size) (cwV 1 hts gX11_force_X11_refuse rfl rfl rfl (by decide +kernel) ⟨Nat.le_of_ble_eq_true rfl, Nat.le_of_ble_eq_true rfl⟩) (mkV hK hN (hP.sub [0, 1] rfl) (hD.sub [0, 1] (by decide) rfl) (ci := 11) (q0 := 0) rfl rfl) rfl rfl hl.1 rfl (lv_room (Nat.le_of_ble_eq_true rfl)) dX11_force_25 ⟨Nat.le_of_ble_eq_true rfl, Nat.le_of_ble_eq_true rfl⟩) hP hD hS hA [0, 1] [2] rfl rfl (by decide) (by decide) (fun r_10 u_11 H locs hw hP hD hS => ?_)
      have hP : va_P D vwCl [(a2, .inr (9, [k0, k1, k2, k3, k4, .int 0, .int (-1), k7, k8, k9]))] H := hP
      have hD : va_D A [(a2, .inr (9, [k0, k1, k2, k3, k4, .int 0, .int (-1), k7, k8, k9]))] := hD
      obtain rfl : r_10 = (-2) := hw
      exact W.iret (v := (-2)) hx hb hr (fun t ht hW => ⟨⟨(-2), (), rfl, (by first | exact Or.inr (⟨rfl, by first | omega | decide | (subst_vars; assumption) | (subst_vars; symm; assumption)⟩)), Wd.nil⟩, hS.F ht⟩) hS.2.2 dX11_force_28
set_option maxHeartbeats 4000000 in
set_option maxRecDepth 100000 in
theorem c_discords (l : Launch) (D : va_G) (K : Nat → ClassId) (a0 : Nat) (a1 : Nat) (g0 : Value) (k0 : Value) (k1 : Value) (k2 : Value) (k3 : Value) (k5 : Value) (k6 : Value) (k7 : Value) (k8 : Value) (k9 : Value) (sz : Nat) : Met l yX10_discords wsX10_discords ({ frames := 0, cells := 0, slots := 0, locals := 0 }) (va_Pc [.ref a0, .ref a1] (Pre D K [(a0, .inr (10, [g0])), (a1, .inr (9, [k0, k1, k2, k3, .int 0, k5, k6, k7, k8, k9]))] sz)) (vp_Si (fun r : Int32 => (r = 0))) 0 0 (fun _ => False) := by
  refine Met.ofW (cc := cX10_discords) (maxL := 5) (ret := (some .int)) (by decide) rfl ?_
  intro p e s m args below meth c s₁ B hml hv
  obtain ⟨rfl, hsz, hP, hK, hD0, hN⟩ := hv
  have hx := B.exec
  have hb := B.bytes
  have hr := B.returns
  have hts := atoms_spec (ws := wsX10_discords) B.pre
  have hown : s.vm.findClass RX10 = some m.cls := findClass_of_methodNamed B.named
  have hlocks := B.notSynchronized
  subst hsz
  have hD := hD0
  have hP : va_P D vwCl [(a0, .inr (10, [g0])), (a1, .inr (9, [k0, k1, k2, k3, .int 0, k5, k6, k7, k8, k9]))] s.heap := hP
  have hl := lv_entry [.ref a0, .ref a1] (n := 5) (Nat.le_of_ble_eq_true rfl)
  rw [lg_entry_eq]
  generalize (lg_sl [.ref a0, .ref a1] ++ List.replicate (5 - (lg_sl [.ref a0, .ref a1]).length) Slot.unset).toArray = ls at hl ⊢
  have hl : lv_has ls 5 [(0, .ref a0), (1, .ref a1)] := hl
  have hw0 : ∀ w ∈ wsX00, w ∈ wsX10_discords := fun w h => (List.mem_cons_of_mem _ (List.mem_append_left _ (List.mem_append_left _ (List.mem_append_right _ h))))
  have hw3 : ∀ w ∈ wsX30, w ∈ wsX10_discords := fun w h => (List.mem_cons_of_mem _ (List.mem_append_right _ h))
  have hw7 : ∀ w ∈ wsX70, w ∈ wsX10_discords := fun w h => (List.mem_cons_of_mem _ (List.mem_append_left _ (List.mem_append_right _ h)))
  have hw9 : ∀ w ∈ wsX90, w ∈ wsX10_discords := fun w h => (List.mem_cons_of_mem _ (List.mem_append_left _ (List.mem_append_left _ (List.mem_append_left _ (List.mem_append_left _ (List.mem_append_right _ h))))))
  have hw10 : ∀ w ∈ wsX100, w ∈ wsX10_discords := fun w h => (List.mem_cons_of_mem _ (List.mem_append_left _ (List.mem_append_left _ (List.mem_append_left _ (List.mem_append_right _ h)))))
  refine lv_iconst (v := 0) hx hb dX10_discords_0 (by decide) ?_
  refine lv_istore_n (lv' := [(2, .int 0), (0, .ref a0), (1, .ref a1)]) hx hb dX10_discords_1 rfl hl (by decide) rfl (fun ls hl => ?_)
  refine lv_iconst (v := 0) hx hb dX10_discords_2 (by decide) ?_
  refine lv_istore_n (lv' := [(3, .int 0), (2, .int 0), (0, .ref a0), (1, .ref a1)]) hx hb dX10_discords_3 rfl hl (by decide) rfl (fun ls hl => ?_)
  refine lv_iload_n hx hb dX10_discords_4 rfl (lv_at hl 0 rfl) ?_
  refine lv_aload_n hx hb dX10_discords_5 rfl (lv_at hl 3 rfl) ?_
  refine va_getN (ci := 9) (v := .int 0) (C := RX9) (T := TX9) (N := 10) hx hb hts hw9 hown hK hP 1 rfl rfl 4 (by decide) (nst_use hN 109 rfl) (fun _ h9 => h9) rfl dX10_discords_6 ?_
  refine lv_icmp_ge (tgt := 110) hx hb dX10_discords_9 (by decide) (fun c_1 => ?_) (fun c_1 => absurd (by decide) c_1)
  refine lv_iload_n hx hb dX10_discords_110 rfl (lv_at hl 1 rfl) ?_
  exact W.iret (v := 0) hx hb hr (fun t ht hW => ⟨_, rfl, (by first | exact rfl), ht⟩) (fun q hq => by cases hq) dX10_discords_111
set_option maxHeartbeats 4000000 in
set_option maxRecDepth 100000 in
theorem t_discord (l : Launch) (D : va_G) (K : Nat → ClassId) (a0 : Nat) (a2 : Nat) (g1 : Value) (g2 : Value) (g3 : Value) (g4 : Value) (g5 : Value) (g6 : Value) (a3 : Nat) (g8 : Value) (g9 : Value) (g10 : Value) (g11 : Value) (g12 : Value) (g13 : Value) (g14 : Value) (g15 : Value) (g16 : Value) (k0 : Value) (k1 : Value) (k2 : Value) (k3 : Value) (k5 : Value) (k6 : Value) (k7 : Value) (k8 : Value) (k9 : Value) (p0 : Value) (sz : Nat) : Met l yX11_discord wsX11_discord ({ frames := 1, cells := 0, slots := 0, locals := 24 }) (va_Pc [.ref a0] (Pre D K [(a0, .inr (11, [.ref a2, g1, g2, g3, g4, g5, g6, .ref a3, g8, g9, g10, g11, g12, g13, g14, g15, g16])), (a2, .inr (9, [k0, k1, k2, k3, .int 0, k5, k6, k7, k8, k9])), (a3, .inr (10, [p0]))] sz)) (vp_Si (fun r : Int32 => (r = 0))) 0 0 (fun _ => False) := by
  refine Met.ofW (cc := cX11_discord) (maxL := 1) (ret := (some .int)) (by decide) rfl ?_
  intro p e s m args below meth c s₁ B hml hv
  obtain ⟨rfl, hsz, hP, hK, hD0, hN⟩ := hv
  have hx := B.exec
  have hb := B.bytes
  have hr := B.returns
  have hts := atoms_spec (ws := wsX11_discord) B.pre
  have hown : s.vm.findClass RX11 = some m.cls := findClass_of_methodNamed B.named
  have hlocks := B.notSynchronized
  subst hsz
  have hD := hD0
  have hP : va_P D vwCl [(a0, .inr (11, [.ref a2, g1, g2, g3, g4, g5, g6, .ref a3, g8, g9, g10, g11, g12, g13, g14, g15, g16])), (a2, .inr (9, [k0, k1, k2, k3, .int 0, k5, k6, k7, k8, k9])), (a3, .inr (10, [p0]))] s.heap := hP
  have hl := lv_entry [.ref a0] (n := 1) (Nat.le_of_ble_eq_true rfl)
  rw [lg_entry_eq]
  generalize (lg_sl [.ref a0] ++ List.replicate (1 - (lg_sl [.ref a0]).length) Slot.unset).toArray = ls at hl ⊢
  have hl : lv_has ls 1 [(0, .ref a0)] := hl
  have hw0 : ∀ w ∈ wsX00, w ∈ wsX11_discord := fun w h => (List.mem_cons_of_mem _ (List.mem_append_left _ (List.mem_append_left _ (List.mem_append_right _ h))))
  have hw3 : ∀ w ∈ wsX30, w ∈ wsX11_discord := fun w h => (List.mem_cons_of_mem _ (List.mem_append_right _ h))
  have hw7 : ∀ w ∈ wsX70, w ∈ wsX11_discord := fun w h => (List.mem_cons_of_mem _ (List.mem_append_left _ (List.mem_append_right _ h)))
  have hw9 : ∀ w ∈ wsX90, w ∈ wsX11_discord := fun w h => (List.mem_cons_of_mem _ (List.mem_append_left _ (List.mem_append_left _ (List.mem_append_left _ (List.mem_append_left _ (List.mem_append_right _ h))))))
  have hw10 : ∀ w ∈ wsX100, w ∈ wsX11_discord := fun w h => (List.mem_cons_of_mem _ (List.mem_append_left _ (List.mem_append_left _ (List.mem_append_left _ (List.mem_append_right _ h)))))
  have hw11 : ∀ w ∈ wsX110, w ∈ wsX11_discord := fun w h => (List.mem_cons_of_mem _ (List.mem_append_left _ (List.mem_append_left _ (List.mem_append_left _ (List.mem_append_left _ (List.mem_append_left _ (List.mem_append_right _ h)))))))
  refine lv_aload_n hx hb dX11_discord_0 rfl (lv_at hl 0 rfl) ?_
  refine va_get (ci := 11) (v := .ref a3) (C := RX11) (T := TX11) (N := 17) hx hb hts hw11 hown hK hP 0 rfl rfl 7 (by decide) (hts (.fieldLink RX11 50 "SmokeTune" "works" "LSmokeTune$Works;") (List.mem_cons_of_mem _ (List.mem_append_left _ (List.mem_append_left _ (List.mem_append_left _ (List.mem_append_left _ (List.mem_append_left _ (List.mem_append_left _ (List.mem_append_left _ (List.mem_of_getElem? (i := 0) rfl)))))))))) (fun _ h9 => h9) rfl dX11_discord_1 ?_
  refine lv_aload_n hx hb dX11_discord_4 rfl (lv_at hl 0 rfl) ?_
  refine va_get (ci := 11) (v := .ref a2) (C := RX11) (T := TX11) (N := 17) hx hb hts hw11 hown hK hP 0 rfl rfl 0 (by decide) (hts (.fieldLink RX11 10 "SmokeTune" "town" "LSmokeTune$Town;") (List.mem_cons_of_mem _ (List.mem_append_left _ (List.mem_append_left _ (List.mem_append_left _ (List.mem_append_left _ (List.mem_append_left _ (List.mem_append_left _ (List.mem_append_left _ (List.mem_of_getElem? (i := 1) rfl)))))))))) (fun _ h9 => h9) rfl dX11_discord_5 ?_
  refine pci (va_runVN (As := [.ref a2]) (rest := []) ⟨hx, hb, hml, hown, hts⟩ (c_discords l D K a3 a2 p0 k0 k1 k2 k3 k5 k6 k7 k8 k9 s.heap.size) ⟨va_cnB 1 hts gX11_discord_X10_discords_n206 rfl rfl rfl (nst_at hN 65 rfl) (hts (.initialized RX10) (List.mem_cons_of_mem _ (List.mem_append_left _ (List.mem_append_left _ (List.mem_append_left _ (List.mem_append_left _ (List.mem_append_left _ (List.mem_append_left _ (List.mem_append_left _ (List.mem_of_getElem? (i := 3) rfl)))))))))) (by decide +kernel) ⟨Nat.le_of_ble_eq_true rfl, Nat.le_of_ble_eq_true rfl⟩, (hts (.instanceMethod yX10_discords) (List.mem_cons_of_mem _ (List.mem_append_left _ (List.mem_append_left _ (List.mem_append_left _ (List.mem_append_left _ (List.mem_append_left _ (List.mem_append_left _ (List.mem_append_left _ (List.mem_of_getElem? (i := 2) rfl)))))))))), (hts (.selects RX10 yX10_discords yX10_discords) (List.mem_cons_of_mem _ (List.mem_append_left _ (List.mem_append_left _ (List.mem_append_left _ (List.mem_append_left _ (List.mem_append_left _ (List.mem_append_left _ (List.mem_append_left _ (List.mem_of_getElem? (i := 4) rfl))))))))))⟩ (mkV hK hN (hP.sub [2, 1] rfl) (hD.sub [2, 1] (by decide) rfl) (ci := 10) (q0 := 0) rfl rfl) rfl rfl hl.1 rfl (lv_room (Nat.le_of_ble_eq_true rfl)) dX11_discord_8 ⟨Nat.le_of_ble_eq_true rfl, Nat.le_of_ble_eq_true rfl⟩) (fun r_1 hw => ?_)
  obtain rfl : r_1 = 0 := hw
  exact W.iret (v := 0) hx hb hr (fun t ht hW => ⟨_, rfl, (by first | exact rfl), ht⟩) (fun q hq => by cases hq) dX11_discord_11
set_option maxHeartbeats 4000000 in
set_option maxRecDepth 100000 in
theorem c_notesNow (l : Launch) (D : va_G) (K : Nat → ClassId) (a0 : Nat) (k0 : Value) (k1 : Value) (k2 : Value) (k3 : Value) (k5 : Value) (k6 : Value) (k7 : Value) (k8 : Value) (k9 : Value) (sz : Nat) : Met l yX9_notesNow wsX9_notesNow ({ frames := 0, cells := 0, slots := 0, locals := 0 }) (va_Pc [.ref a0] (Pre D K [(a0, .inr (9, [k0, k1, k2, k3, .int 0, k5, k6, k7, k8, k9]))] sz)) (vp_Si (fun r : Int32 => (r = 0))) 0 0 (fun _ => False) := by
  refine Met.ofW (cc := cX9_notesNow) (maxL := 3) (ret := (some .int)) (by decide) rfl ?_
  intro p e s m args below meth c s₁ B hml hv
  obtain ⟨rfl, hsz, hP, hK, hD0, hN⟩ := hv
  have hx := B.exec
  have hb := B.bytes
  have hr := B.returns
  have hts := atoms_spec (ws := wsX9_notesNow) B.pre
  have hown : s.vm.findClass RX9 = some m.cls := findClass_of_methodNamed B.named
  have hlocks := B.notSynchronized
  subst hsz
  have hD := hD0
  have hP : va_P D vwCl [(a0, .inr (9, [k0, k1, k2, k3, .int 0, k5, k6, k7, k8, k9]))] s.heap := hP
  have hl := lv_entry [.ref a0] (n := 3) (Nat.le_of_ble_eq_true rfl)
  rw [lg_entry_eq]
  generalize (lg_sl [.ref a0] ++ List.replicate (3 - (lg_sl [.ref a0]).length) Slot.unset).toArray = ls at hl ⊢
  have hl : lv_has ls 3 [(0, .ref a0)] := hl
  have hw9 : ∀ w ∈ wsX90, w ∈ wsX9_notesNow := fun w h => (List.mem_cons_of_mem _ (List.mem_append_right _ h))
  refine lv_iconst (v := 0) hx hb dX9_notesNow_0 (by decide) ?_
  refine lv_istore_n (lv' := [(1, .int 0), (0, .ref a0)]) hx hb dX9_notesNow_1 rfl hl (by decide) rfl (fun ls hl => ?_)
  refine lv_iconst (v := 0) hx hb dX9_notesNow_2 (by decide) ?_
  refine lv_istore_n (lv' := [(2, .int 0), (1, .int 0), (0, .ref a0)]) hx hb dX9_notesNow_3 rfl hl (by decide) rfl (fun ls hl => ?_)
  refine lv_iload_n hx hb dX9_notesNow_4 rfl (lv_at hl 0 rfl) ?_
  refine lv_aload_n hx hb dX9_notesNow_5 rfl (lv_at hl 2 rfl) ?_
  refine va_get (ci := 9) (v := .int 0) (C := RX9) (T := TX9) (N := 10) hx hb hts hw9 hown hK hP 0 rfl rfl 4 (by decide) (hts (.fieldLink RX9 27 "SmokeTune$Town" "houses" "I") (List.mem_cons_of_mem _ (List.mem_append_left _ (List.mem_of_getElem? (i := 0) rfl)))) (fun _ h9 => h9) rfl dX9_notesNow_6 ?_
  refine lv_icmp_ge (tgt := 41) hx hb dX9_notesNow_9 (by decide) (fun c_1 => ?_) (fun c_1 => absurd (by decide) c_1)
  refine lv_iload_n hx hb dX9_notesNow_41 rfl (lv_at hl 1 rfl) ?_
  exact W.iret (v := 0) hx hb hr (fun t ht hW => ⟨_, rfl, (by first | exact rfl), ht⟩) (fun q hq => by cases hq) dX9_notesNow_42
set_option maxHeartbeats 4000000 in
set_option maxRecDepth 100000 in
theorem c_thirdsNow (l : Launch) (D : va_G) (K : Nat → ClassId) (a0 : Nat) (k0 : Value) (k1 : Value) (k2 : Value) (k3 : Value) (k5 : Value) (k6 : Value) (k7 : Value) (k8 : Value) (k9 : Value) (sz : Nat) : Met l yX9_thirdsNow wsX9_thirdsNow ({ frames := 1, cells := 0, slots := 0, locals := 22 }) (va_Pc [.ref a0] (Pre D K [(a0, .inr (9, [k0, k1, k2, k3, .int 0, k5, k6, k7, k8, k9]))] sz)) (vp_Si (fun r : Int32 => (r = 0))) 0 0 (fun _ => False) := by
  refine Met.ofW (cc := cX9_thirdsNow) (maxL := 5) (ret := (some .int)) (by decide) rfl ?_
  intro p e s m args below meth c s₁ B hml hv
  obtain ⟨rfl, hsz, hP, hK, hD0, hN⟩ := hv
  have hx := B.exec
  have hb := B.bytes
  have hr := B.returns
  have hts := atoms_spec (ws := wsX9_thirdsNow) B.pre
  have hown : s.vm.findClass RX9 = some m.cls := findClass_of_methodNamed B.named
  have hlocks := B.notSynchronized
  subst hsz
  have hD := hD0
  have hP : va_P D vwCl [(a0, .inr (9, [k0, k1, k2, k3, .int 0, k5, k6, k7, k8, k9]))] s.heap := hP
  have hl := lv_entry [.ref a0] (n := 5) (Nat.le_of_ble_eq_true rfl)
  rw [lg_entry_eq]
  generalize (lg_sl [.ref a0] ++ List.replicate (5 - (lg_sl [.ref a0]).length) Slot.unset).toArray = ls at hl ⊢
  have hl : lv_has ls 5 [(0, .ref a0)] := hl
  have hw9 : ∀ w ∈ wsX90, w ∈ wsX9_thirdsNow := fun w h => (List.mem_cons_of_mem _ (List.mem_append_right _ h))
  refine lv_aload_n hx hb dX9_thirdsNow_0 rfl (lv_at hl 0 rfl) ?_
  refine pci (va_runV (As := []) (rest := []) ⟨hx, hb, hml, hown, hts⟩ (c_notesNow l D K a0 k0 k1 k2 k3 k5 k6 k7 k8 k9 s.heap.size) (cwV 0 hts gX9_thirdsNow_X9_notesNow rfl rfl rfl (by decide +kernel) ⟨Nat.le_of_ble_eq_true rfl, Nat.le_of_ble_eq_true rfl⟩) (mkV hK hN (hP.sub [0] rfl) (hD.sub [0] (by decide) rfl) (ci := 9) (q0 := 0) rfl rfl) rfl rfl hl.1 rfl (lv_room (Nat.le_of_ble_eq_true rfl)) dX9_thirdsNow_1 ⟨Nat.le_of_ble_eq_true rfl, Nat.le_of_ble_eq_true rfl⟩) (fun r_1 hw => ?_)
  obtain rfl : r_1 = 0 := hw
  refine lv_istore_n (lv' := [(1, .int 0), (0, .ref a0)]) hx hb dX9_thirdsNow_4 rfl hl (by decide) rfl (fun ls hl => ?_)
  refine lv_iconst (v := 0) hx hb dX9_thirdsNow_5 (by decide) ?_
  refine lv_istore_n (lv' := [(2, .int 0), (1, .int 0), (0, .ref a0)]) hx hb dX9_thirdsNow_6 rfl hl (by decide) rfl (fun ls hl => ?_)
  refine lv_iconst (v := 0) hx hb dX9_thirdsNow_7 (by decide) ?_
  refine lv_istore_n (lv' := [(3, .int 0), (2, .int 0), (1, .int 0), (0, .ref a0)]) hx hb dX9_thirdsNow_8 rfl hl (by decide) rfl (fun ls hl => ?_)
  refine lv_iload_n hx hb dX9_thirdsNow_9 rfl (lv_at hl 0 rfl) ?_
  refine lv_bipush (v := 7) hx hb dX9_thirdsNow_10 (by decide) ?_
  refine lv_icmp_ge (tgt := 61) hx hb dX9_thirdsNow_12 (by decide) (fun c_2 => absurd c_2 (by decide)) (fun c_2 => ?_)
  refine lv_iconst (v := 1) hx hb dX9_thirdsNow_15 (by decide) ?_
  refine lv_iload_n hx hb dX9_thirdsNow_16 rfl (lv_at hl 0 rfl) ?_
  refine lv_ishl hx hb dX9_thirdsNow_17 ?_
  refine lv_topi (fun x_3 ex_3 => ?_)
  obtain rfl : x_3 = 1 := ex_3.trans (by first | rfl | decide)
  refine lv_iconst (v := 1) hx hb dX9_thirdsNow_18 (by decide) ?_
  refine lv_iload_n hx hb dX9_thirdsNow_19 rfl (lv_at hl 0 rfl) ?_
  refine lv_iconst (v := 2) hx hb dX9_thirdsNow_20 (by decide) ?_
  refine lv_iadd hx hb dX9_thirdsNow_21 ?_
  refine lv_topi (fun x_4 ex_4 => ?_)
  obtain rfl : x_4 = 2 := ex_4.trans (by first | rfl | decide)
  refine lv_bipush (v := 7) hx hb dX9_thirdsNow_22 (by decide) ?_
  refine lv_irem hx hb dX9_thirdsNow_24 (by decide) ?_
  refine lv_topi (fun x_5 ex_5 => ?_)
  obtain rfl : x_5 = 2 := ex_5.trans (by first | rfl | decide)
  refine lv_ishl hx hb dX9_thirdsNow_25 ?_
  refine lv_topi (fun x_6 ex_6 => ?_)
  obtain rfl : x_6 = 4 := ex_6.trans (by first | rfl | decide)
  refine lv_ior hx hb dX9_thirdsNow_26 ?_
  refine lv_topi (fun x_7 ex_7 => ?_)
  obtain rfl : x_7 = 5 := ex_7.trans (by first | rfl | decide)
  refine lv_iconst (v := 1) hx hb dX9_thirdsNow_27 (by decide) ?_
  refine lv_iload_n hx hb dX9_thirdsNow_28 rfl (lv_at hl 0 rfl) ?_
  refine lv_iconst (v := 4) hx hb dX9_thirdsNow_29 (by decide) ?_
  refine lv_iadd hx hb dX9_thirdsNow_30 ?_
  refine lv_topi (fun x_8 ex_8 => ?_)
  obtain rfl : x_8 = 4 := ex_8.trans (by first | rfl | decide)
  refine lv_bipush (v := 7) hx hb dX9_thirdsNow_31 (by decide) ?_
  refine lv_irem hx hb dX9_thirdsNow_33 (by decide) ?_
  refine lv_topi (fun x_9 ex_9 => ?_)
  obtain rfl : x_9 = 4 := ex_9.trans (by first | rfl | decide)
  refine lv_ishl hx hb dX9_thirdsNow_34 ?_
  refine lv_topi (fun x_10 ex_10 => ?_)
  obtain rfl : x_10 = 16 := ex_10.trans (by first | rfl | decide)
  refine lv_ior hx hb dX9_thirdsNow_35 ?_
  refine lv_topi (fun x_11 ex_11 => ?_)
  obtain rfl : x_11 = 21 := ex_11.trans (by first | rfl | decide)
  refine lv_istore (lv' := [(4, .int 21), (3, .int 0), (2, .int 0), (1, .int 0), (0, .ref a0)]) hx hb dX9_thirdsNow_36 hl (by decide) rfl (fun ls hl => ?_)
  refine lv_iload_n hx hb dX9_thirdsNow_38 rfl (lv_at hl 2 rfl) ?_
  refine lv_iload_n hx hb dX9_thirdsNow_39 rfl (lv_at hl 3 rfl) ?_
  refine lv_iload hx hb dX9_thirdsNow_40 (lv_at hl 0 rfl) ?_
  refine lv_iand hx hb dX9_thirdsNow_42 ?_
  refine lv_topi (fun x_12 ex_12 => ?_)
  obtain rfl : x_12 = 0 := ex_12.trans (by first | rfl | decide)
  refine lv_iload hx hb dX9_thirdsNow_43 (lv_at hl 0 rfl) ?_
  refine lv_icmp_ne (tgt := 52) hx hb dX9_thirdsNow_45 (by decide) (fun c_13 => ?_) (fun c_13 => absurd c_13 (by decide))
  refine lv_iconst (v := 0) hx hb dX9_thirdsNow_52 (by decide) ?_
  refine lv_iadd hx hb dX9_thirdsNow_53 ?_
  refine lv_topi (fun x_14 ex_14 => ?_)
  obtain rfl : x_14 = 0 := ex_14.trans (by first | rfl | decide)
  refine lv_istore_n (lv' := [(2, .int 0), (4, .int 21), (3, .int 0), (1, .int 0), (0, .ref a0)]) hx hb dX9_thirdsNow_54 rfl hl (by decide) rfl (fun ls hl => ?_)
  refine lv_iinc (v := 1) (lv' := [(3, .int 1), (2, .int 0), (4, .int 21), (1, .int 0), (0, .ref a0)]) hx hb dX9_thirdsNow_55 hl (k := 2) rfl (by decide) (by decide) rfl (fun ls hl => ?_)
  refine lv_goto (tgt := 9) hx hb dX9_thirdsNow_58 (by decide) ?_
  refine lv_iload_n hx hb dX9_thirdsNow_9 rfl (lv_at hl 0 rfl) ?_
  refine lv_bipush (v := 7) hx hb dX9_thirdsNow_10 (by decide) ?_
  refine lv_icmp_ge (tgt := 61) hx hb dX9_thirdsNow_12 (by decide) (fun c_15 => absurd c_15 (by decide)) (fun c_15 => ?_)
  refine lv_iconst (v := 1) hx hb dX9_thirdsNow_15 (by decide) ?_
  refine lv_iload_n hx hb dX9_thirdsNow_16 rfl (lv_at hl 0 rfl) ?_
  refine lv_ishl hx hb dX9_thirdsNow_17 ?_
  refine lv_topi (fun x_16 ex_16 => ?_)
  obtain rfl : x_16 = 2 := ex_16.trans (by first | rfl | decide)
  refine lv_iconst (v := 1) hx hb dX9_thirdsNow_18 (by decide) ?_
  refine lv_iload_n hx hb dX9_thirdsNow_19 rfl (lv_at hl 0 rfl) ?_
  refine lv_iconst (v := 2) hx hb dX9_thirdsNow_20 (by decide) ?_
  refine lv_iadd hx hb dX9_thirdsNow_21 ?_
  refine lv_topi (fun x_17 ex_17 => ?_)
  obtain rfl : x_17 = 3 := ex_17.trans (by first | rfl | decide)
  refine lv_bipush (v := 7) hx hb dX9_thirdsNow_22 (by decide) ?_
  refine lv_irem hx hb dX9_thirdsNow_24 (by decide) ?_
  refine lv_topi (fun x_18 ex_18 => ?_)
  obtain rfl : x_18 = 3 := ex_18.trans (by first | rfl | decide)
  refine lv_ishl hx hb dX9_thirdsNow_25 ?_
  refine lv_topi (fun x_19 ex_19 => ?_)
  obtain rfl : x_19 = 8 := ex_19.trans (by first | rfl | decide)
  refine lv_ior hx hb dX9_thirdsNow_26 ?_
  refine lv_topi (fun x_20 ex_20 => ?_)
  obtain rfl : x_20 = 10 := ex_20.trans (by first | rfl | decide)
  refine lv_iconst (v := 1) hx hb dX9_thirdsNow_27 (by decide) ?_
  refine lv_iload_n hx hb dX9_thirdsNow_28 rfl (lv_at hl 0 rfl) ?_
  refine lv_iconst (v := 4) hx hb dX9_thirdsNow_29 (by decide) ?_
  refine lv_iadd hx hb dX9_thirdsNow_30 ?_
  refine lv_topi (fun x_21 ex_21 => ?_)
  obtain rfl : x_21 = 5 := ex_21.trans (by first | rfl | decide)
  refine lv_bipush (v := 7) hx hb dX9_thirdsNow_31 (by decide) ?_
  refine lv_irem hx hb dX9_thirdsNow_33 (by decide) ?_
  refine lv_topi (fun x_22 ex_22 => ?_)
  obtain rfl : x_22 = 5 := ex_22.trans (by first | rfl | decide)
  refine lv_ishl hx hb dX9_thirdsNow_34 ?_
  refine lv_topi (fun x_23 ex_23 => ?_)
  obtain rfl : x_23 = 32 := ex_23.trans (by first | rfl | decide)
  refine lv_ior hx hb dX9_thirdsNow_35 ?_
  refine lv_topi (fun x_24 ex_24 => ?_)
  obtain rfl : x_24 = 42 := ex_24.trans (by first | rfl | decide)
  refine lv_istore (lv' := [(4, .int 42), (3, .int 1), (2, .int 0), (1, .int 0), (0, .ref a0)]) hx hb dX9_thirdsNow_36 hl (by decide) rfl (fun ls hl => ?_)
  refine lv_iload_n hx hb dX9_thirdsNow_38 rfl (lv_at hl 2 rfl) ?_
  refine lv_iload_n hx hb dX9_thirdsNow_39 rfl (lv_at hl 3 rfl) ?_
  refine lv_iload hx hb dX9_thirdsNow_40 (lv_at hl 0 rfl) ?_
  refine lv_iand hx hb dX9_thirdsNow_42 ?_
  refine lv_topi (fun x_25 ex_25 => ?_)
  obtain rfl : x_25 = 0 := ex_25.trans (by first | rfl | decide)
  refine lv_iload hx hb dX9_thirdsNow_43 (lv_at hl 0 rfl) ?_
  refine lv_icmp_ne (tgt := 52) hx hb dX9_thirdsNow_45 (by decide) (fun c_26 => ?_) (fun c_26 => absurd c_26 (by decide))
  refine lv_iconst (v := 0) hx hb dX9_thirdsNow_52 (by decide) ?_
  refine lv_iadd hx hb dX9_thirdsNow_53 ?_
  refine lv_topi (fun x_27 ex_27 => ?_)
  obtain rfl : x_27 = 0 := ex_27.trans (by first | rfl | decide)
  refine lv_istore_n (lv' := [(2, .int 0), (4, .int 42), (3, .int 1), (1, .int 0), (0, .ref a0)]) hx hb dX9_thirdsNow_54 rfl hl (by decide) rfl (fun ls hl => ?_)
  refine lv_iinc (v := 2) (lv' := [(3, .int 2), (2, .int 0), (4, .int 42), (1, .int 0), (0, .ref a0)]) hx hb dX9_thirdsNow_55 hl (k := 2) rfl (by decide) (by decide) rfl (fun ls hl => ?_)
  refine lv_goto (tgt := 9) hx hb dX9_thirdsNow_58 (by decide) ?_
  refine lv_iload_n hx hb dX9_thirdsNow_9 rfl (lv_at hl 0 rfl) ?_
  refine lv_bipush (v := 7) hx hb dX9_thirdsNow_10 (by decide) ?_
  refine lv_icmp_ge (tgt := 61) hx hb dX9_thirdsNow_12 (by decide) (fun c_28 => absurd c_28 (by decide)) (fun c_28 => ?_)
  refine lv_iconst (v := 1) hx hb dX9_thirdsNow_15 (by decide) ?_
  refine lv_iload_n hx hb dX9_thirdsNow_16 rfl (lv_at hl 0 rfl) ?_
  refine lv_ishl hx hb dX9_thirdsNow_17 ?_
  refine lv_topi (fun x_29 ex_29 => ?_)
  obtain rfl : x_29 = 4 := ex_29.trans (by first | rfl | decide)
  refine lv_iconst (v := 1) hx hb dX9_thirdsNow_18 (by decide) ?_
  refine lv_iload_n hx hb dX9_thirdsNow_19 rfl (lv_at hl 0 rfl) ?_
  refine lv_iconst (v := 2) hx hb dX9_thirdsNow_20 (by decide) ?_
  refine lv_iadd hx hb dX9_thirdsNow_21 ?_
  refine lv_topi (fun x_30 ex_30 => ?_)
  obtain rfl : x_30 = 4 := ex_30.trans (by first | rfl | decide)
  refine lv_bipush (v := 7) hx hb dX9_thirdsNow_22 (by decide) ?_
  refine lv_irem hx hb dX9_thirdsNow_24 (by decide) ?_
  refine lv_topi (fun x_31 ex_31 => ?_)
  obtain rfl : x_31 = 4 := ex_31.trans (by first | rfl | decide)
  refine lv_ishl hx hb dX9_thirdsNow_25 ?_
  refine lv_topi (fun x_32 ex_32 => ?_)
  obtain rfl : x_32 = 16 := ex_32.trans (by first | rfl | decide)
  refine lv_ior hx hb dX9_thirdsNow_26 ?_
  refine lv_topi (fun x_33 ex_33 => ?_)
  obtain rfl : x_33 = 20 := ex_33.trans (by first | rfl | decide)
  refine lv_iconst (v := 1) hx hb dX9_thirdsNow_27 (by decide) ?_
  refine lv_iload_n hx hb dX9_thirdsNow_28 rfl (lv_at hl 0 rfl) ?_
  refine lv_iconst (v := 4) hx hb dX9_thirdsNow_29 (by decide) ?_
  refine lv_iadd hx hb dX9_thirdsNow_30 ?_
  refine lv_topi (fun x_34 ex_34 => ?_)
  obtain rfl : x_34 = 6 := ex_34.trans (by first | rfl | decide)
  refine lv_bipush (v := 7) hx hb dX9_thirdsNow_31 (by decide) ?_
  refine lv_irem hx hb dX9_thirdsNow_33 (by decide) ?_
  refine lv_topi (fun x_35 ex_35 => ?_)
  obtain rfl : x_35 = 6 := ex_35.trans (by first | rfl | decide)
  refine lv_ishl hx hb dX9_thirdsNow_34 ?_
  refine lv_topi (fun x_36 ex_36 => ?_)
  obtain rfl : x_36 = 64 := ex_36.trans (by first | rfl | decide)
  refine lv_ior hx hb dX9_thirdsNow_35 ?_
  refine lv_topi (fun x_37 ex_37 => ?_)
  obtain rfl : x_37 = 84 := ex_37.trans (by first | rfl | decide)
  refine lv_istore (lv' := [(4, .int 84), (3, .int 2), (2, .int 0), (1, .int 0), (0, .ref a0)]) hx hb dX9_thirdsNow_36 hl (by decide) rfl (fun ls hl => ?_)
  refine lv_iload_n hx hb dX9_thirdsNow_38 rfl (lv_at hl 2 rfl) ?_
  refine lv_iload_n hx hb dX9_thirdsNow_39 rfl (lv_at hl 3 rfl) ?_
  refine lv_iload hx hb dX9_thirdsNow_40 (lv_at hl 0 rfl) ?_
  refine lv_iand hx hb dX9_thirdsNow_42 ?_
  refine lv_topi (fun x_38 ex_38 => ?_)
  obtain rfl : x_38 = 0 := ex_38.trans (by first | rfl | decide)
  refine lv_iload hx hb dX9_thirdsNow_43 (lv_at hl 0 rfl) ?_
  refine lv_icmp_ne (tgt := 52) hx hb dX9_thirdsNow_45 (by decide) (fun c_39 => ?_) (fun c_39 => absurd c_39 (by decide))
  refine lv_iconst (v := 0) hx hb dX9_thirdsNow_52 (by decide) ?_
  refine lv_iadd hx hb dX9_thirdsNow_53 ?_
  refine lv_topi (fun x_40 ex_40 => ?_)
  obtain rfl : x_40 = 0 := ex_40.trans (by first | rfl | decide)
  refine lv_istore_n (lv' := [(2, .int 0), (4, .int 84), (3, .int 2), (1, .int 0), (0, .ref a0)]) hx hb dX9_thirdsNow_54 rfl hl (by decide) rfl (fun ls hl => ?_)
  refine lv_iinc (v := 3) (lv' := [(3, .int 3), (2, .int 0), (4, .int 84), (1, .int 0), (0, .ref a0)]) hx hb dX9_thirdsNow_55 hl (k := 2) rfl (by decide) (by decide) rfl (fun ls hl => ?_)
  refine lv_goto (tgt := 9) hx hb dX9_thirdsNow_58 (by decide) ?_
  refine lv_iload_n hx hb dX9_thirdsNow_9 rfl (lv_at hl 0 rfl) ?_
  refine lv_bipush (v := 7) hx hb dX9_thirdsNow_10 (by decide) ?_
  refine lv_icmp_ge (tgt := 61) hx hb dX9_thirdsNow_12 (by decide) (fun c_41 => absurd c_41 (by decide)) (fun c_41 => ?_)
  refine lv_iconst (v := 1) hx hb dX9_thirdsNow_15 (by decide) ?_
  refine lv_iload_n hx hb dX9_thirdsNow_16 rfl (lv_at hl 0 rfl) ?_
  refine lv_ishl hx hb dX9_thirdsNow_17 ?_
  refine lv_topi (fun x_42 ex_42 => ?_)
  obtain rfl : x_42 = 8 := ex_42.trans (by first | rfl | decide)
  refine lv_iconst (v := 1) hx hb dX9_thirdsNow_18 (by decide) ?_
  refine lv_iload_n hx hb dX9_thirdsNow_19 rfl (lv_at hl 0 rfl) ?_
  refine lv_iconst (v := 2) hx hb dX9_thirdsNow_20 (by decide) ?_
  refine lv_iadd hx hb dX9_thirdsNow_21 ?_
  refine lv_topi (fun x_43 ex_43 => ?_)
  obtain rfl : x_43 = 5 := ex_43.trans (by first | rfl | decide)
  refine lv_bipush (v := 7) hx hb dX9_thirdsNow_22 (by decide) ?_
  refine lv_irem hx hb dX9_thirdsNow_24 (by decide) ?_
  refine lv_topi (fun x_44 ex_44 => ?_)
  obtain rfl : x_44 = 5 := ex_44.trans (by first | rfl | decide)
  refine lv_ishl hx hb dX9_thirdsNow_25 ?_
  refine lv_topi (fun x_45 ex_45 => ?_)
  obtain rfl : x_45 = 32 := ex_45.trans (by first | rfl | decide)
  refine lv_ior hx hb dX9_thirdsNow_26 ?_
  refine lv_topi (fun x_46 ex_46 => ?_)
  obtain rfl : x_46 = 40 := ex_46.trans (by first | rfl | decide)
  refine lv_iconst (v := 1) hx hb dX9_thirdsNow_27 (by decide) ?_
  refine lv_iload_n hx hb dX9_thirdsNow_28 rfl (lv_at hl 0 rfl) ?_
  refine lv_iconst (v := 4) hx hb dX9_thirdsNow_29 (by decide) ?_
  refine lv_iadd hx hb dX9_thirdsNow_30 ?_
  refine lv_topi (fun x_47 ex_47 => ?_)
  obtain rfl : x_47 = 7 := ex_47.trans (by first | rfl | decide)
  refine lv_bipush (v := 7) hx hb dX9_thirdsNow_31 (by decide) ?_
  refine lv_irem hx hb dX9_thirdsNow_33 (by decide) ?_
  refine lv_topi (fun x_48 ex_48 => ?_)
  obtain rfl : x_48 = 0 := ex_48.trans (by first | rfl | decide)
  refine lv_ishl hx hb dX9_thirdsNow_34 ?_
  refine lv_topi (fun x_49 ex_49 => ?_)
  obtain rfl : x_49 = 1 := ex_49.trans (by first | rfl | decide)
  refine lv_ior hx hb dX9_thirdsNow_35 ?_
  refine lv_topi (fun x_50 ex_50 => ?_)
  obtain rfl : x_50 = 41 := ex_50.trans (by first | rfl | decide)
  refine lv_istore (lv' := [(4, .int 41), (3, .int 3), (2, .int 0), (1, .int 0), (0, .ref a0)]) hx hb dX9_thirdsNow_36 hl (by decide) rfl (fun ls hl => ?_)
  refine lv_iload_n hx hb dX9_thirdsNow_38 rfl (lv_at hl 2 rfl) ?_
  refine lv_iload_n hx hb dX9_thirdsNow_39 rfl (lv_at hl 3 rfl) ?_
  refine lv_iload hx hb dX9_thirdsNow_40 (lv_at hl 0 rfl) ?_
  refine lv_iand hx hb dX9_thirdsNow_42 ?_
  refine lv_topi (fun x_51 ex_51 => ?_)
  obtain rfl : x_51 = 0 := ex_51.trans (by first | rfl | decide)
  refine lv_iload hx hb dX9_thirdsNow_43 (lv_at hl 0 rfl) ?_
  refine lv_icmp_ne (tgt := 52) hx hb dX9_thirdsNow_45 (by decide) (fun c_52 => ?_) (fun c_52 => absurd c_52 (by decide))
  refine lv_iconst (v := 0) hx hb dX9_thirdsNow_52 (by decide) ?_
  refine lv_iadd hx hb dX9_thirdsNow_53 ?_
  refine lv_topi (fun x_53 ex_53 => ?_)
  obtain rfl : x_53 = 0 := ex_53.trans (by first | rfl | decide)
  refine lv_istore_n (lv' := [(2, .int 0), (4, .int 41), (3, .int 3), (1, .int 0), (0, .ref a0)]) hx hb dX9_thirdsNow_54 rfl hl (by decide) rfl (fun ls hl => ?_)
  refine lv_iinc (v := 4) (lv' := [(3, .int 4), (2, .int 0), (4, .int 41), (1, .int 0), (0, .ref a0)]) hx hb dX9_thirdsNow_55 hl (k := 2) rfl (by decide) (by decide) rfl (fun ls hl => ?_)
  refine lv_goto (tgt := 9) hx hb dX9_thirdsNow_58 (by decide) ?_
  refine lv_iload_n hx hb dX9_thirdsNow_9 rfl (lv_at hl 0 rfl) ?_
  refine lv_bipush (v := 7) hx hb dX9_thirdsNow_10 (by decide) ?_
  refine lv_icmp_ge (tgt := 61) hx hb dX9_thirdsNow_12 (by decide) (fun c_54 => absurd c_54 (by decide)) (fun c_54 => ?_)
  refine lv_iconst (v := 1) hx hb dX9_thirdsNow_15 (by decide) ?_
  refine lv_iload_n hx hb dX9_thirdsNow_16 rfl (lv_at hl 0 rfl) ?_
  refine lv_ishl hx hb dX9_thirdsNow_17 ?_
  refine lv_topi (fun x_55 ex_55 => ?_)
  obtain rfl : x_55 = 16 := ex_55.trans (by first | rfl | decide)
  refine lv_iconst (v := 1) hx hb dX9_thirdsNow_18 (by decide) ?_
  refine lv_iload_n hx hb dX9_thirdsNow_19 rfl (lv_at hl 0 rfl) ?_
  refine lv_iconst (v := 2) hx hb dX9_thirdsNow_20 (by decide) ?_
  refine lv_iadd hx hb dX9_thirdsNow_21 ?_
  refine lv_topi (fun x_56 ex_56 => ?_)
  obtain rfl : x_56 = 6 := ex_56.trans (by first | rfl | decide)
  refine lv_bipush (v := 7) hx hb dX9_thirdsNow_22 (by decide) ?_
  refine lv_irem hx hb dX9_thirdsNow_24 (by decide) ?_
  refine lv_topi (fun x_57 ex_57 => ?_)
  obtain rfl : x_57 = 6 := ex_57.trans (by first | rfl | decide)
  refine lv_ishl hx hb dX9_thirdsNow_25 ?_
  refine lv_topi (fun x_58 ex_58 => ?_)
  obtain rfl : x_58 = 64 := ex_58.trans (by first | rfl | decide)
  refine lv_ior hx hb dX9_thirdsNow_26 ?_
  refine lv_topi (fun x_59 ex_59 => ?_)
  obtain rfl : x_59 = 80 := ex_59.trans (by first | rfl | decide)
  refine lv_iconst (v := 1) hx hb dX9_thirdsNow_27 (by decide) ?_
  refine lv_iload_n hx hb dX9_thirdsNow_28 rfl (lv_at hl 0 rfl) ?_
  refine lv_iconst (v := 4) hx hb dX9_thirdsNow_29 (by decide) ?_
  refine lv_iadd hx hb dX9_thirdsNow_30 ?_
  refine lv_topi (fun x_60 ex_60 => ?_)
  obtain rfl : x_60 = 8 := ex_60.trans (by first | rfl | decide)
  refine lv_bipush (v := 7) hx hb dX9_thirdsNow_31 (by decide) ?_
  refine lv_irem hx hb dX9_thirdsNow_33 (by decide) ?_
  refine lv_topi (fun x_61 ex_61 => ?_)
  obtain rfl : x_61 = 1 := ex_61.trans (by first | rfl | decide)
  refine lv_ishl hx hb dX9_thirdsNow_34 ?_
  refine lv_topi (fun x_62 ex_62 => ?_)
  obtain rfl : x_62 = 2 := ex_62.trans (by first | rfl | decide)
  refine lv_ior hx hb dX9_thirdsNow_35 ?_
  refine lv_topi (fun x_63 ex_63 => ?_)
  obtain rfl : x_63 = 82 := ex_63.trans (by first | rfl | decide)
  refine lv_istore (lv' := [(4, .int 82), (3, .int 4), (2, .int 0), (1, .int 0), (0, .ref a0)]) hx hb dX9_thirdsNow_36 hl (by decide) rfl (fun ls hl => ?_)
  refine lv_iload_n hx hb dX9_thirdsNow_38 rfl (lv_at hl 2 rfl) ?_
  refine lv_iload_n hx hb dX9_thirdsNow_39 rfl (lv_at hl 3 rfl) ?_
  refine lv_iload hx hb dX9_thirdsNow_40 (lv_at hl 0 rfl) ?_
  refine lv_iand hx hb dX9_thirdsNow_42 ?_
  refine lv_topi (fun x_64 ex_64 => ?_)
  obtain rfl : x_64 = 0 := ex_64.trans (by first | rfl | decide)
  refine lv_iload hx hb dX9_thirdsNow_43 (lv_at hl 0 rfl) ?_
  refine lv_icmp_ne (tgt := 52) hx hb dX9_thirdsNow_45 (by decide) (fun c_65 => ?_) (fun c_65 => absurd c_65 (by decide))
  refine lv_iconst (v := 0) hx hb dX9_thirdsNow_52 (by decide) ?_
  refine lv_iadd hx hb dX9_thirdsNow_53 ?_
  refine lv_topi (fun x_66 ex_66 => ?_)
  obtain rfl : x_66 = 0 := ex_66.trans (by first | rfl | decide)
  refine lv_istore_n (lv' := [(2, .int 0), (4, .int 82), (3, .int 4), (1, .int 0), (0, .ref a0)]) hx hb dX9_thirdsNow_54 rfl hl (by decide) rfl (fun ls hl => ?_)
  refine lv_iinc (v := 5) (lv' := [(3, .int 5), (2, .int 0), (4, .int 82), (1, .int 0), (0, .ref a0)]) hx hb dX9_thirdsNow_55 hl (k := 2) rfl (by decide) (by decide) rfl (fun ls hl => ?_)
  refine lv_goto (tgt := 9) hx hb dX9_thirdsNow_58 (by decide) ?_
  refine lv_iload_n hx hb dX9_thirdsNow_9 rfl (lv_at hl 0 rfl) ?_
  refine lv_bipush (v := 7) hx hb dX9_thirdsNow_10 (by decide) ?_
  refine lv_icmp_ge (tgt := 61) hx hb dX9_thirdsNow_12 (by decide) (fun c_67 => absurd c_67 (by decide)) (fun c_67 => ?_)
  refine lv_iconst (v := 1) hx hb dX9_thirdsNow_15 (by decide) ?_
  refine lv_iload_n hx hb dX9_thirdsNow_16 rfl (lv_at hl 0 rfl) ?_
  refine lv_ishl hx hb dX9_thirdsNow_17 ?_
  refine lv_topi (fun x_68 ex_68 => ?_)
  obtain rfl : x_68 = 32 := ex_68.trans (by first | rfl | decide)
  refine lv_iconst (v := 1) hx hb dX9_thirdsNow_18 (by decide) ?_
  refine lv_iload_n hx hb dX9_thirdsNow_19 rfl (lv_at hl 0 rfl) ?_
  refine lv_iconst (v := 2) hx hb dX9_thirdsNow_20 (by decide) ?_
  refine lv_iadd hx hb dX9_thirdsNow_21 ?_
  refine lv_topi (fun x_69 ex_69 => ?_)
  obtain rfl : x_69 = 7 := ex_69.trans (by first | rfl | decide)
  refine lv_bipush (v := 7) hx hb dX9_thirdsNow_22 (by decide) ?_
  refine lv_irem hx hb dX9_thirdsNow_24 (by decide) ?_
  refine lv_topi (fun x_70 ex_70 => ?_)
  obtain rfl : x_70 = 0 := ex_70.trans (by first | rfl | decide)
  refine lv_ishl hx hb dX9_thirdsNow_25 ?_
  refine lv_topi (fun x_71 ex_71 => ?_)
  obtain rfl : x_71 = 1 := ex_71.trans (by first | rfl | decide)
  refine lv_ior hx hb dX9_thirdsNow_26 ?_
  refine lv_topi (fun x_72 ex_72 => ?_)
  obtain rfl : x_72 = 33 := ex_72.trans (by first | rfl | decide)
  refine lv_iconst (v := 1) hx hb dX9_thirdsNow_27 (by decide) ?_
  refine lv_iload_n hx hb dX9_thirdsNow_28 rfl (lv_at hl 0 rfl) ?_
  refine lv_iconst (v := 4) hx hb dX9_thirdsNow_29 (by decide) ?_
  refine lv_iadd hx hb dX9_thirdsNow_30 ?_
  refine lv_topi (fun x_73 ex_73 => ?_)
  obtain rfl : x_73 = 9 := ex_73.trans (by first | rfl | decide)
  refine lv_bipush (v := 7) hx hb dX9_thirdsNow_31 (by decide) ?_
  refine lv_irem hx hb dX9_thirdsNow_33 (by decide) ?_
  refine lv_topi (fun x_74 ex_74 => ?_)
  obtain rfl : x_74 = 2 := ex_74.trans (by first | rfl | decide)
  refine lv_ishl hx hb dX9_thirdsNow_34 ?_
  refine lv_topi (fun x_75 ex_75 => ?_)
  obtain rfl : x_75 = 4 := ex_75.trans (by first | rfl | decide)
  refine lv_ior hx hb dX9_thirdsNow_35 ?_
  refine lv_topi (fun x_76 ex_76 => ?_)
  obtain rfl : x_76 = 37 := ex_76.trans (by first | rfl | decide)
  refine lv_istore (lv' := [(4, .int 37), (3, .int 5), (2, .int 0), (1, .int 0), (0, .ref a0)]) hx hb dX9_thirdsNow_36 hl (by decide) rfl (fun ls hl => ?_)
  refine lv_iload_n hx hb dX9_thirdsNow_38 rfl (lv_at hl 2 rfl) ?_
  refine lv_iload_n hx hb dX9_thirdsNow_39 rfl (lv_at hl 3 rfl) ?_
  refine lv_iload hx hb dX9_thirdsNow_40 (lv_at hl 0 rfl) ?_
  refine lv_iand hx hb dX9_thirdsNow_42 ?_
  refine lv_topi (fun x_77 ex_77 => ?_)
  obtain rfl : x_77 = 0 := ex_77.trans (by first | rfl | decide)
  refine lv_iload hx hb dX9_thirdsNow_43 (lv_at hl 0 rfl) ?_
  refine lv_icmp_ne (tgt := 52) hx hb dX9_thirdsNow_45 (by decide) (fun c_78 => ?_) (fun c_78 => absurd c_78 (by decide))
  refine lv_iconst (v := 0) hx hb dX9_thirdsNow_52 (by decide) ?_
  refine lv_iadd hx hb dX9_thirdsNow_53 ?_
  refine lv_topi (fun x_79 ex_79 => ?_)
  obtain rfl : x_79 = 0 := ex_79.trans (by first | rfl | decide)
  refine lv_istore_n (lv' := [(2, .int 0), (4, .int 37), (3, .int 5), (1, .int 0), (0, .ref a0)]) hx hb dX9_thirdsNow_54 rfl hl (by decide) rfl (fun ls hl => ?_)
  refine lv_iinc (v := 6) (lv' := [(3, .int 6), (2, .int 0), (4, .int 37), (1, .int 0), (0, .ref a0)]) hx hb dX9_thirdsNow_55 hl (k := 2) rfl (by decide) (by decide) rfl (fun ls hl => ?_)
  refine lv_goto (tgt := 9) hx hb dX9_thirdsNow_58 (by decide) ?_
  refine lv_iload_n hx hb dX9_thirdsNow_9 rfl (lv_at hl 0 rfl) ?_
  refine lv_bipush (v := 7) hx hb dX9_thirdsNow_10 (by decide) ?_
  refine lv_icmp_ge (tgt := 61) hx hb dX9_thirdsNow_12 (by decide) (fun c_80 => absurd c_80 (by decide)) (fun c_80 => ?_)
  refine lv_iconst (v := 1) hx hb dX9_thirdsNow_15 (by decide) ?_
  refine lv_iload_n hx hb dX9_thirdsNow_16 rfl (lv_at hl 0 rfl) ?_
  refine lv_ishl hx hb dX9_thirdsNow_17 ?_
  refine lv_topi (fun x_81 ex_81 => ?_)
  obtain rfl : x_81 = 64 := ex_81.trans (by first | rfl | decide)
  refine lv_iconst (v := 1) hx hb dX9_thirdsNow_18 (by decide) ?_
  refine lv_iload_n hx hb dX9_thirdsNow_19 rfl (lv_at hl 0 rfl) ?_
  refine lv_iconst (v := 2) hx hb dX9_thirdsNow_20 (by decide) ?_
  refine lv_iadd hx hb dX9_thirdsNow_21 ?_
  refine lv_topi (fun x_82 ex_82 => ?_)
  obtain rfl : x_82 = 8 := ex_82.trans (by first | rfl | decide)
  refine lv_bipush (v := 7) hx hb dX9_thirdsNow_22 (by decide) ?_
  refine lv_irem hx hb dX9_thirdsNow_24 (by decide) ?_
  refine lv_topi (fun x_83 ex_83 => ?_)
  obtain rfl : x_83 = 1 := ex_83.trans (by first | rfl | decide)
  refine lv_ishl hx hb dX9_thirdsNow_25 ?_
  refine lv_topi (fun x_84 ex_84 => ?_)
  obtain rfl : x_84 = 2 := ex_84.trans (by first | rfl | decide)
  refine lv_ior hx hb dX9_thirdsNow_26 ?_
  refine lv_topi (fun x_85 ex_85 => ?_)
  obtain rfl : x_85 = 66 := ex_85.trans (by first | rfl | decide)
  refine lv_iconst (v := 1) hx hb dX9_thirdsNow_27 (by decide) ?_
  refine lv_iload_n hx hb dX9_thirdsNow_28 rfl (lv_at hl 0 rfl) ?_
  refine lv_iconst (v := 4) hx hb dX9_thirdsNow_29 (by decide) ?_
  refine lv_iadd hx hb dX9_thirdsNow_30 ?_
  refine lv_topi (fun x_86 ex_86 => ?_)
  obtain rfl : x_86 = 10 := ex_86.trans (by first | rfl | decide)
  refine lv_bipush (v := 7) hx hb dX9_thirdsNow_31 (by decide) ?_
  refine lv_irem hx hb dX9_thirdsNow_33 (by decide) ?_
  refine lv_topi (fun x_87 ex_87 => ?_)
  obtain rfl : x_87 = 3 := ex_87.trans (by first | rfl | decide)
  refine lv_ishl hx hb dX9_thirdsNow_34 ?_
  refine lv_topi (fun x_88 ex_88 => ?_)
  obtain rfl : x_88 = 8 := ex_88.trans (by first | rfl | decide)
  refine lv_ior hx hb dX9_thirdsNow_35 ?_
  refine lv_topi (fun x_89 ex_89 => ?_)
  obtain rfl : x_89 = 74 := ex_89.trans (by first | rfl | decide)
  refine lv_istore (lv' := [(4, .int 74), (3, .int 6), (2, .int 0), (1, .int 0), (0, .ref a0)]) hx hb dX9_thirdsNow_36 hl (by decide) rfl (fun ls hl => ?_)
  refine lv_iload_n hx hb dX9_thirdsNow_38 rfl (lv_at hl 2 rfl) ?_
  refine lv_iload_n hx hb dX9_thirdsNow_39 rfl (lv_at hl 3 rfl) ?_
  refine lv_iload hx hb dX9_thirdsNow_40 (lv_at hl 0 rfl) ?_
  refine lv_iand hx hb dX9_thirdsNow_42 ?_
  refine lv_topi (fun x_90 ex_90 => ?_)
  obtain rfl : x_90 = 0 := ex_90.trans (by first | rfl | decide)
  refine lv_iload hx hb dX9_thirdsNow_43 (lv_at hl 0 rfl) ?_
  refine lv_icmp_ne (tgt := 52) hx hb dX9_thirdsNow_45 (by decide) (fun c_91 => ?_) (fun c_91 => absurd c_91 (by decide))
  refine lv_iconst (v := 0) hx hb dX9_thirdsNow_52 (by decide) ?_
  refine lv_iadd hx hb dX9_thirdsNow_53 ?_
  refine lv_topi (fun x_92 ex_92 => ?_)
  obtain rfl : x_92 = 0 := ex_92.trans (by first | rfl | decide)
  refine lv_istore_n (lv' := [(2, .int 0), (4, .int 74), (3, .int 6), (1, .int 0), (0, .ref a0)]) hx hb dX9_thirdsNow_54 rfl hl (by decide) rfl (fun ls hl => ?_)
  refine lv_iinc (v := 7) (lv' := [(3, .int 7), (2, .int 0), (4, .int 74), (1, .int 0), (0, .ref a0)]) hx hb dX9_thirdsNow_55 hl (k := 2) rfl (by decide) (by decide) rfl (fun ls hl => ?_)
  refine lv_goto (tgt := 9) hx hb dX9_thirdsNow_58 (by decide) ?_
  refine lv_iload_n hx hb dX9_thirdsNow_9 rfl (lv_at hl 0 rfl) ?_
  refine lv_bipush (v := 7) hx hb dX9_thirdsNow_10 (by decide) ?_
  refine lv_icmp_ge (tgt := 61) hx hb dX9_thirdsNow_12 (by decide) (fun c_93 => ?_) (fun c_93 => absurd (by decide) c_93)
  refine lv_iload_n hx hb dX9_thirdsNow_61 rfl (lv_at hl 1 rfl) ?_
  exact W.iret (v := 0) hx hb hr (fun t ht hW => ⟨_, rfl, (by first | exact rfl), ht⟩) (fun q hq => by cases hq) dX9_thirdsNow_62
