theorem dX12_status_0 : decode cX12_status 0 = .ok (.aload_n 0, 1) := by decide +kernel
theorem dX12_status_1 : decode cX12_status 1 = .ok (.iconst 0, 1) := by decide +kernel
theorem dX12_status_2 : decode cX12_status 2 = .ok (.putfield 158, 3) := by decide +kernel
theorem dX12_status_5 : decode cX12_status 5 = .ok (.aload_n 0, 1) := by decide +kernel
theorem dX12_status_6 : decode cX12_status 6 = .ok (.getfield 161, 3) := by decide +kernel
theorem dX12_status_9 : decode cX12_status 9 = .ok (.ireturn, 1) := by decide +kernel
theorem dX12_ash_0 : decode cX12_ash 0 = .ok (.aload_n 0, 1) := by decide +kernel
theorem dX12_ash_1 : decode cX12_ash 1 = .ok (.iconst 0, 1) := by decide +kernel
theorem dX12_ash_2 : decode cX12_ash 2 = .ok (.putfield 158, 3) := by decide +kernel
theorem dX12_ash_5 : decode cX12_ash 5 = .ok (.aload_n 0, 1) := by decide +kernel
theorem dX12_ash_6 : decode cX12_ash 6 = .ok (.getfield 230, 3) := by decide +kernel
theorem dX12_ash_9 : decode cX12_ash 9 = .ok (.ireturn, 1) := by decide +kernel
theorem dX12_fault_0 : decode cX12_fault 0 = .ok (.aload_n 0, 1) := by decide +kernel
theorem dX12_fault_1 : decode cX12_fault 1 = .ok (.iconst 0, 1) := by decide +kernel
theorem dX12_fault_2 : decode cX12_fault 2 = .ok (.putfield 158, 3) := by decide +kernel
theorem dX12_fault_5 : decode cX12_fault 5 = .ok (.aload_n 0, 1) := by decide +kernel
theorem dX12_fault_6 : decode cX12_fault 6 = .ok (.getfield 38, 3) := by decide +kernel
theorem dX12_fault_9 : decode cX12_fault 9 = .ok (.ireturn, 1) := by decide +kernel
theorem dX12_stopped_0 : decode cX12_stopped 0 = .ok (.aload_n 0, 1) := by decide +kernel
theorem dX12_stopped_1 : decode cX12_stopped 1 = .ok (.iconst 0, 1) := by decide +kernel
theorem dX12_stopped_2 : decode cX12_stopped 2 = .ok (.putfield 158, 3) := by decide +kernel
theorem dX12_stopped_5 : decode cX12_stopped 5 = .ok (.aload_n 0, 1) := by decide +kernel
theorem dX12_stopped_6 : decode cX12_stopped 6 = .ok (.getfield 149, 3) := by decide +kernel
theorem dX12_stopped_9 : decode cX12_stopped 9 = .ok (.ireturn, 1) := by decide +kernel
theorem dX12_hear_0 : decode cX12_hear 0 = .ok (.aload_n 0, 1) := by decide +kernel
theorem dX12_hear_1 : decode cX12_hear 1 = .ok (.iconst 0, 1) := by decide +kernel
theorem dX12_hear_2 : decode cX12_hear 2 = .ok (.putfield 158, 3) := by decide +kernel
theorem dX12_hear_5 : decode cX12_hear 5 = .ok (.iload_n 1, 1) := by decide +kernel
theorem dX12_hear_6 : decode cX12_hear 6 = .ok (.i2l, 1) := by decide +kernel
theorem dX12_hear_7 : decode cX12_hear 7 = .ok (.lconst 0, 1) := by decide +kernel
theorem dX12_hear_8 : decode cX12_hear 8 = .ok (.ldc2_w 212, 3) := by decide +kernel
theorem dX12_hear_11 : decode cX12_hear 11 = .ok (.invokestatic 178, 3) := by decide +kernel
theorem dX12_hear_14 : decode cX12_hear 14 = .ok (.ifCond .ne 9, 3) := by decide +kernel
theorem dX12_hear_23 : decode cX12_hear 23 = .ok (.aload_n 0, 1) := by decide +kernel
theorem dX12_hear_24 : decode cX12_hear 24 = .ok (.getfield 13, 3) := by decide +kernel
theorem dX12_hear_27 : decode cX12_hear 27 = .ok (.iconst 1, 1) := by decide +kernel
theorem dX12_hear_28 : decode cX12_hear 28 = .ok (.iaload, 1) := by decide +kernel
theorem dX12_hear_29 : decode cX12_hear 29 = .ok (.istore_n 2, 1) := by decide +kernel
theorem dX12_hear_30 : decode cX12_hear 30 = .ok (.iload_n 2, 1) := by decide +kernel
theorem dX12_hear_31 : decode cX12_hear 31 = .ok (.bipush 6, 2) := by decide +kernel
theorem dX12_hear_33 : decode cX12_hear 33 = .ok (.if_icmp .ne 10, 3) := by decide +kernel
theorem dX12_hear_43 : decode cX12_hear 43 = .ok (.aload_n 0, 1) := by decide +kernel
theorem dX12_hear_44 : decode cX12_hear 44 = .ok (.getfield 13, 3) := by decide +kernel
theorem dX12_hear_47 : decode cX12_hear 47 = .ok (.bipush 91, 2) := by decide +kernel
theorem dX12_hear_49 : decode cX12_hear 49 = .ok (.iload_n 2, 1) := by decide +kernel
theorem dX12_hear_50 : decode cX12_hear 50 = .ok (.iadd, 1) := by decide +kernel
theorem dX12_hear_51 : decode cX12_hear 51 = .ok (.iload_n 1, 1) := by decide +kernel
theorem dX12_hear_52 : decode cX12_hear 52 = .ok (.iastore, 1) := by decide +kernel
theorem dX12_hear_53 : decode cX12_hear 53 = .ok (.aload_n 0, 1) := by decide +kernel
theorem dX12_hear_54 : decode cX12_hear 54 = .ok (.getfield 13, 3) := by decide +kernel
theorem dX12_hear_57 : decode cX12_hear 57 = .ok (.iconst 1, 1) := by decide +kernel
theorem dX12_hear_58 : decode cX12_hear 58 = .ok (.dup2, 1) := by decide +kernel
theorem dX12_hear_59 : decode cX12_hear 59 = .ok (.iaload, 1) := by decide +kernel
theorem dX12_hear_60 : decode cX12_hear 60 = .ok (.iconst 1, 1) := by decide +kernel
theorem dX12_hear_61 : decode cX12_hear 61 = .ok (.iadd, 1) := by decide +kernel
theorem dX12_hear_62 : decode cX12_hear 62 = .ok (.iastore, 1) := by decide +kernel
theorem dX12_hear_63 : decode cX12_hear 63 = .ok (.aload_n 0, 1) := by decide +kernel
theorem dX12_hear_64 : decode cX12_hear 64 = .ok (.iload_n 2, 1) := by decide +kernel
theorem dX12_hear_65 : decode cX12_hear 65 = .ok (.iconst 1, 1) := by decide +kernel
theorem dX12_hear_66 : decode cX12_hear 66 = .ok (.iadd, 1) := by decide +kernel
theorem dX12_hear_67 : decode cX12_hear 67 = .ok (.invokevirtual 171, 3) := by decide +kernel
theorem dX12_hear_70 : decode cX12_hear 70 = .ok (.ireturn, 1) := by decide +kernel
theorem dX12_hear_17 : decode cX12_hear 17 = .ok (.aload_n 0, 1) := by decide +kernel
theorem dX12_hear_18 : decode cX12_hear 18 = .ok (.iconst (-1), 1) := by decide +kernel
theorem dX12_hear_19 : decode cX12_hear 19 = .ok (.invokevirtual 171, 3) := by decide +kernel
theorem dX12_hear_22 : decode cX12_hear 22 = .ok (.ireturn, 1) := by decide +kernel
theorem dX12_forget_0 : decode cX12_forget 0 = .ok (.aload_n 0, 1) := by decide +kernel
theorem dX12_forget_1 : decode cX12_forget 1 = .ok (.iconst 0, 1) := by decide +kernel
theorem dX12_forget_2 : decode cX12_forget 2 = .ok (.putfield 158, 3) := by decide +kernel
theorem dX12_forget_5 : decode cX12_forget 5 = .ok (.aload_n 0, 1) := by decide +kernel
theorem dX12_forget_6 : decode cX12_forget 6 = .ok (.getfield 13, 3) := by decide +kernel
theorem dX12_forget_9 : decode cX12_forget 9 = .ok (.iconst 1, 1) := by decide +kernel
theorem dX12_forget_10 : decode cX12_forget 10 = .ok (.iaload, 1) := by decide +kernel
theorem dX12_forget_11 : decode cX12_forget 11 = .ok (.istore_n 1, 1) := by decide +kernel
theorem dX12_forget_12 : decode cX12_forget 12 = .ok (.aload_n 0, 1) := by decide +kernel
theorem dX12_forget_13 : decode cX12_forget 13 = .ok (.getfield 13, 3) := by decide +kernel
theorem dX12_forget_16 : decode cX12_forget 16 = .ok (.iconst 1, 1) := by decide +kernel
theorem dX12_forget_17 : decode cX12_forget 17 = .ok (.iconst 0, 1) := by decide +kernel
theorem dX12_forget_18 : decode cX12_forget 18 = .ok (.iastore, 1) := by decide +kernel
theorem dX12_forget_19 : decode cX12_forget 19 = .ok (.iload_n 1, 1) := by decide +kernel
theorem dX12_forget_20 : decode cX12_forget 20 = .ok (.ireturn, 1) := by decide +kernel
theorem dX12_of_0 : decode cX12_of 0 = .ok (.aload_n 0, 1) := by decide +kernel
theorem dX12_of_1 : decode cX12_of 1 = .ok (.iconst 0, 1) := by decide +kernel
theorem dX12_of_2 : decode cX12_of 2 = .ok (.putfield 158, 3) := by decide +kernel
theorem dX12_of_5 : decode cX12_of 5 = .ok (.aload_n 0, 1) := by decide +kernel
theorem dX12_of_6 : decode cX12_of 6 = .ok (.iload_n 1, 1) := by decide +kernel
theorem dX12_of_7 : decode cX12_of 7 = .ok (.invokevirtual 197, 3) := by decide +kernel
theorem dX12_of_10 : decode cX12_of 10 = .ok (.ifCond .ne 5, 3) := by decide +kernel
theorem dX12_of_13 : decode cX12_of 13 = .ok (.iconst (-1), 1) := by decide +kernel
theorem dX12_of_14 : decode cX12_of 14 = .ok (.ireturn, 1) := by decide +kernel
theorem dX12_least_0 : decode cX12_least 0 = .ok (.aload_n 0, 1) := by decide +kernel
theorem dX12_least_1 : decode cX12_least 1 = .ok (.iconst 0, 1) := by decide +kernel
theorem dX12_least_2 : decode cX12_least 2 = .ok (.putfield 158, 3) := by decide +kernel
theorem dX12_least_5 : decode cX12_least 5 = .ok (.aload_n 0, 1) := by decide +kernel
theorem dX12_least_6 : decode cX12_least 6 = .ok (.iload_n 1, 1) := by decide +kernel
theorem dX12_least_7 : decode cX12_least 7 = .ok (.invokevirtual 197, 3) := by decide +kernel
theorem dX12_least_10 : decode cX12_least 10 = .ok (.ifCond .eq 45, 3) := by decide +kernel
theorem dX12_least_55 : decode cX12_least 55 = .ok (.iconst (-1), 1) := by decide +kernel
theorem dX12_least_56 : decode cX12_least 56 = .ok (.ireturn, 1) := by decide +kernel
theorem dX12_rings_0 : decode cX12_rings 0 = .ok (.aload_n 0, 1) := by decide +kernel
theorem dX12_rings_1 : decode cX12_rings 1 = .ok (.iconst 0, 1) := by decide +kernel
theorem dX12_rings_2 : decode cX12_rings 2 = .ok (.putfield 158, 3) := by decide +kernel
theorem dX12_rings_5 : decode cX12_rings 5 = .ok (.aload_n 0, 1) := by decide +kernel
theorem dX12_rings_6 : decode cX12_rings 6 = .ok (.iload_n 1, 1) := by decide +kernel
theorem dX12_rings_7 : decode cX12_rings 7 = .ok (.invokevirtual 197, 3) := by decide +kernel
theorem dX12_rings_10 : decode cX12_rings 10 = .ok (.ifCond .ne 5, 3) := by decide +kernel
theorem dX12_rings_13 : decode cX12_rings 13 = .ok (.iconst (-1), 1) := by decide +kernel
theorem dX12_rings_14 : decode cX12_rings 14 = .ok (.ireturn, 1) := by decide +kernel
theorem dX12_chord_0 : decode cX12_chord 0 = .ok (.aload_n 0, 1) := by decide +kernel
theorem dX12_chord_1 : decode cX12_chord 1 = .ok (.iconst 0, 1) := by decide +kernel
theorem dX12_chord_2 : decode cX12_chord 2 = .ok (.putfield 158, 3) := by decide +kernel
theorem dX12_chord_5 : decode cX12_chord 5 = .ok (.iload_n 1, 1) := by decide +kernel
theorem dX12_chord_6 : decode cX12_chord 6 = .ok (.i2l, 1) := by decide +kernel
theorem dX12_chord_7 : decode cX12_chord 7 = .ok (.lconst 0, 1) := by decide +kernel
theorem dX12_chord_8 : decode cX12_chord 8 = .ok (.ldc2_w 210, 3) := by decide +kernel
theorem dX12_chord_11 : decode cX12_chord 11 = .ok (.invokestatic 178, 3) := by decide +kernel
theorem dX12_chord_14 : decode cX12_chord 14 = .ok (.ifCond .eq 15, 3) := by decide +kernel
theorem dX12_chord_17 : decode cX12_chord 17 = .ok (.aload_n 0, 1) := by decide +kernel
theorem dX12_chord_18 : decode cX12_chord 18 = .ok (.getfield 13, 3) := by decide +kernel
theorem dX12_chord_21 : decode cX12_chord 21 = .ok (.bipush 67, 2) := by decide +kernel
theorem dX12_chord_23 : decode cX12_chord 23 = .ok (.iload_n 1, 1) := by decide +kernel
theorem dX12_chord_24 : decode cX12_chord 24 = .ok (.iadd, 1) := by decide +kernel
theorem dX12_chord_25 : decode cX12_chord 25 = .ok (.iaload, 1) := by decide +kernel
theorem dX12_chord_26 : decode cX12_chord 26 = .ok (.goto 4, 3) := by decide +kernel
theorem dX12_chord_30 : decode cX12_chord 30 = .ok (.ireturn, 1) := by decide +kernel
theorem dX12_chord_29 : decode cX12_chord 29 = .ok (.iconst (-1), 1) := by decide +kernel
theorem dX12_score_0 : decode cX12_score 0 = .ok (.aload_n 0, 1) := by decide +kernel
theorem dX12_score_1 : decode cX12_score 1 = .ok (.iconst 0, 1) := by decide +kernel
theorem dX12_score_2 : decode cX12_score 2 = .ok (.putfield 158, 3) := by decide +kernel
theorem dX12_score_5 : decode cX12_score 5 = .ok (.iload_n 1, 1) := by decide +kernel
theorem dX12_score_6 : decode cX12_score 6 = .ok (.i2l, 1) := by decide +kernel
theorem dX12_score_7 : decode cX12_score 7 = .ok (.lconst 0, 1) := by decide +kernel
theorem dX12_score_8 : decode cX12_score 8 = .ok (.ldc2_w 210, 3) := by decide +kernel
theorem dX12_score_11 : decode cX12_score 11 = .ok (.invokestatic 178, 3) := by decide +kernel
theorem dX12_score_14 : decode cX12_score 14 = .ok (.ifCond .eq 27, 3) := by decide +kernel
theorem dX12_score_17 : decode cX12_score 17 = .ok (.iload_n 2, 1) := by decide +kernel
theorem dX12_score_18 : decode cX12_score 18 = .ok (.i2l, 1) := by decide +kernel
theorem dX12_score_19 : decode cX12_score 19 = .ok (.lconst 0, 1) := by decide +kernel
theorem dX12_score_20 : decode cX12_score 20 = .ok (.ldc2_w 212, 3) := by decide +kernel
theorem dX12_score_23 : decode cX12_score 23 = .ok (.invokestatic 178, 3) := by decide +kernel
theorem dX12_score_26 : decode cX12_score 26 = .ok (.ifCond .eq 15, 3) := by decide +kernel
theorem dX12_score_29 : decode cX12_score 29 = .ok (.aload_n 0, 1) := by decide +kernel
theorem dX12_score_30 : decode cX12_score 30 = .ok (.bipush 67, 2) := by decide +kernel
theorem dX12_score_32 : decode cX12_score 32 = .ok (.iload_n 1, 1) := by decide +kernel
theorem dX12_score_33 : decode cX12_score 33 = .ok (.iadd, 1) := by decide +kernel
theorem dX12_score_34 : decode cX12_score 34 = .ok (.iload_n 2, 1) := by decide +kernel
theorem dX12_score_35 : decode cX12_score 35 = .ok (.invokevirtual 214, 3) := by decide +kernel
theorem dX12_score_38 : decode cX12_score 38 = .ok (.goto 8, 3) := by decide +kernel
theorem dX12_score_46 : decode cX12_score 46 = .ok (.ireturn, 1) := by decide +kernel
theorem dX12_score_41 : decode cX12_score 41 = .ok (.aload_n 0, 1) := by decide +kernel
theorem dX12_score_42 : decode cX12_score 42 = .ok (.iconst (-1), 1) := by decide +kernel
theorem dX12_score_43 : decode cX12_score 43 = .ok (.invokevirtual 171, 3) := by decide +kernel
theorem dX12_house_0 : decode cX12_house 0 = .ok (.aload_n 0, 1) := by decide +kernel
theorem dX12_house_1 : decode cX12_house 1 = .ok (.iconst 0, 1) := by decide +kernel
theorem dX12_house_2 : decode cX12_house 2 = .ok (.putfield 158, 3) := by decide +kernel
theorem dX12_house_5 : decode cX12_house 5 = .ok (.iload_n 1, 1) := by decide +kernel
theorem dX12_house_6 : decode cX12_house 6 = .ok (.i2l, 1) := by decide +kernel
theorem dX12_house_7 : decode cX12_house 7 = .ok (.lconst 0, 1) := by decide +kernel
theorem dX12_house_8 : decode cX12_house 8 = .ok (.ldc2_w 189, 3) := by decide +kernel
theorem dX12_house_11 : decode cX12_house 11 = .ok (.invokestatic 178, 3) := by decide +kernel
theorem dX12_house_14 : decode cX12_house 14 = .ok (.ifCond .eq 53, 3) := by decide +kernel
theorem dX12_house_17 : decode cX12_house 17 = .ok (.iload_n 2, 1) := by decide +kernel
theorem dX12_house_18 : decode cX12_house 18 = .ok (.i2l, 1) := by decide +kernel
theorem dX12_house_19 : decode cX12_house 19 = .ok (.lconst 0, 1) := by decide +kernel
theorem dX12_house_20 : decode cX12_house 20 = .ok (.ldc2_w 191, 3) := by decide +kernel
theorem dX12_house_23 : decode cX12_house 23 = .ok (.invokestatic 178, 3) := by decide +kernel
theorem dX12_house_26 : decode cX12_house 26 = .ok (.ifCond .eq 41, 3) := by decide +kernel
theorem dX12_house_29 : decode cX12_house 29 = .ok (.iload_n 3, 1) := by decide +kernel
theorem dX12_house_30 : decode cX12_house 30 = .ok (.i2l, 1) := by decide +kernel
theorem dX12_house_31 : decode cX12_house 31 = .ok (.lconst 0, 1) := by decide +kernel
theorem dX12_house_32 : decode cX12_house 32 = .ok (.ldc2_w 193, 3) := by decide +kernel
theorem dX12_house_35 : decode cX12_house 35 = .ok (.invokestatic 178, 3) := by decide +kernel
theorem dX12_house_38 : decode cX12_house 38 = .ok (.ifCond .eq 29, 3) := by decide +kernel
theorem dX12_house_41 : decode cX12_house 41 = .ok (.iload 4, 2) := by decide +kernel
theorem dX12_house_43 : decode cX12_house 43 = .ok (.i2l, 1) := by decide +kernel
theorem dX12_house_44 : decode cX12_house 44 = .ok (.lconst 0, 1) := by decide +kernel
theorem dX12_house_45 : decode cX12_house 45 = .ok (.ldc2_w 195, 3) := by decide +kernel
theorem dX12_house_48 : decode cX12_house 48 = .ok (.invokestatic 178, 3) := by decide +kernel
theorem dX12_house_51 : decode cX12_house 51 = .ok (.ifCond .eq 16, 3) := by decide +kernel
theorem dX12_house_54 : decode cX12_house 54 = .ok (.iload 5, 2) := by decide +kernel
theorem dX12_house_56 : decode cX12_house 56 = .ok (.i2l, 1) := by decide +kernel
theorem dX12_house_57 : decode cX12_house 57 = .ok (.lconst 0, 1) := by decide +kernel
theorem dX12_house_58 : decode cX12_house 58 = .ok (.ldc2_w 195, 3) := by decide +kernel
theorem dX12_house_61 : decode cX12_house 61 = .ok (.invokestatic 178, 3) := by decide +kernel
theorem dX12_house_64 : decode cX12_house 64 = .ok (.ifCond .ne 9, 3) := by decide +kernel
theorem dX12_house_73 : decode cX12_house 73 = .ok (.aload_n 0, 1) := by decide +kernel
theorem dX12_house_74 : decode cX12_house 74 = .ok (.getfield 13, 3) := by decide +kernel
theorem dX12_house_77 : decode cX12_house 77 = .ok (.iconst 0, 1) := by decide +kernel
theorem dX12_house_78 : decode cX12_house 78 = .ok (.iaload, 1) := by decide +kernel
theorem dX12_house_79 : decode cX12_house 79 = .ok (.istore 6, 2) := by decide +kernel
theorem dX12_house_81 : decode cX12_house 81 = .ok (.iconst 0, 1) := by decide +kernel
theorem dX12_house_82 : decode cX12_house 82 = .ok (.istore 7, 2) := by decide +kernel
theorem dX12_house_84 : decode cX12_house 84 = .ok (.iload 7, 2) := by decide +kernel
theorem dX12_house_86 : decode cX12_house 86 = .ok (.iload 6, 2) := by decide +kernel
theorem dX12_house_88 : decode cX12_house 88 = .ok (.if_icmp .ge 31, 3) := by decide +kernel
theorem dX12_house_119 : decode cX12_house 119 = .ok (.iload 6, 2) := by decide +kernel
theorem dX12_house_121 : decode cX12_house 121 = .ok (.bipush 8, 2) := by decide +kernel
theorem dX12_house_123 : decode cX12_house 123 = .ok (.if_icmp .ne 10, 3) := by decide +kernel
theorem dX12_house_133 : decode cX12_house 133 = .ok (.aload_n 0, 1) := by decide +kernel
theorem dX12_house_134 : decode cX12_house 134 = .ok (.getfield 13, 3) := by decide +kernel
theorem dX12_house_137 : decode cX12_house 137 = .ok (.bipush 35, 2) := by decide +kernel
theorem dX12_house_139 : decode cX12_house 139 = .ok (.iload 6, 2) := by decide +kernel
theorem dX12_house_141 : decode cX12_house 141 = .ok (.iadd, 1) := by decide +kernel
theorem dX12_house_142 : decode cX12_house 142 = .ok (.iload_n 1, 1) := by decide +kernel
theorem dX12_house_143 : decode cX12_house 143 = .ok (.iastore, 1) := by decide +kernel
theorem dX12_house_144 : decode cX12_house 144 = .ok (.aload_n 0, 1) := by decide +kernel
theorem dX12_house_145 : decode cX12_house 145 = .ok (.getfield 13, 3) := by decide +kernel
theorem dX12_house_148 : decode cX12_house 148 = .ok (.bipush 43, 2) := by decide +kernel
theorem dX12_house_150 : decode cX12_house 150 = .ok (.iload 6, 2) := by decide +kernel
theorem dX12_house_152 : decode cX12_house 152 = .ok (.iadd, 1) := by decide +kernel
theorem dX12_house_153 : decode cX12_house 153 = .ok (.iload_n 2, 1) := by decide +kernel
theorem dX12_house_154 : decode cX12_house 154 = .ok (.iastore, 1) := by decide +kernel
theorem dX12_house_155 : decode cX12_house 155 = .ok (.aload_n 0, 1) := by decide +kernel
theorem dX12_house_156 : decode cX12_house 156 = .ok (.getfield 13, 3) := by decide +kernel
theorem dX12_house_159 : decode cX12_house 159 = .ok (.bipush 19, 2) := by decide +kernel
theorem dX12_house_161 : decode cX12_house 161 = .ok (.iload 6, 2) := by decide +kernel
theorem dX12_house_163 : decode cX12_house 163 = .ok (.iadd, 1) := by decide +kernel
theorem dX12_house_164 : decode cX12_house 164 = .ok (.iload_n 3, 1) := by decide +kernel
theorem dX12_house_165 : decode cX12_house 165 = .ok (.iastore, 1) := by decide +kernel
theorem dX12_house_166 : decode cX12_house 166 = .ok (.aload_n 0, 1) := by decide +kernel
theorem dX12_house_167 : decode cX12_house 167 = .ok (.getfield 13, 3) := by decide +kernel
theorem dX12_house_170 : decode cX12_house 170 = .ok (.bipush 51, 2) := by decide +kernel
theorem dX12_house_172 : decode cX12_house 172 = .ok (.iload 6, 2) := by decide +kernel
theorem dX12_house_174 : decode cX12_house 174 = .ok (.iadd, 1) := by decide +kernel
theorem dX12_house_175 : decode cX12_house 175 = .ok (.iload 4, 2) := by decide +kernel
theorem dX12_house_177 : decode cX12_house 177 = .ok (.iastore, 1) := by decide +kernel
theorem dX12_house_178 : decode cX12_house 178 = .ok (.aload_n 0, 1) := by decide +kernel
theorem dX12_house_179 : decode cX12_house 179 = .ok (.getfield 13, 3) := by decide +kernel
theorem dX12_house_182 : decode cX12_house 182 = .ok (.bipush 59, 2) := by decide +kernel
theorem dX12_house_184 : decode cX12_house 184 = .ok (.iload 6, 2) := by decide +kernel
theorem dX12_house_186 : decode cX12_house 186 = .ok (.iadd, 1) := by decide +kernel
theorem dX12_house_187 : decode cX12_house 187 = .ok (.iload 5, 2) := by decide +kernel
theorem dX12_house_189 : decode cX12_house 189 = .ok (.iastore, 1) := by decide +kernel
theorem dX12_house_190 : decode cX12_house 190 = .ok (.aload_n 0, 1) := by decide +kernel
theorem dX12_house_191 : decode cX12_house 191 = .ok (.getfield 13, 3) := by decide +kernel
theorem dX12_house_194 : decode cX12_house 194 = .ok (.bipush 11, 2) := by decide +kernel
theorem dX12_house_196 : decode cX12_house 196 = .ok (.iload 6, 2) := by decide +kernel
theorem dX12_house_198 : decode cX12_house 198 = .ok (.iadd, 1) := by decide +kernel
theorem dX12_house_199 : decode cX12_house 199 = .ok (.iconst 0, 1) := by decide +kernel
theorem dX12_house_200 : decode cX12_house 200 = .ok (.iastore, 1) := by decide +kernel
theorem dX12_house_201 : decode cX12_house 201 = .ok (.aload_n 0, 1) := by decide +kernel
theorem dX12_house_202 : decode cX12_house 202 = .ok (.getfield 13, 3) := by decide +kernel
theorem dX12_house_205 : decode cX12_house 205 = .ok (.bipush 27, 2) := by decide +kernel
theorem dX12_house_207 : decode cX12_house 207 = .ok (.iload 6, 2) := by decide +kernel
theorem dX12_house_209 : decode cX12_house 209 = .ok (.iadd, 1) := by decide +kernel
theorem dX12_house_210 : decode cX12_house 210 = .ok (.iconst 0, 1) := by decide +kernel
theorem dX12_house_211 : decode cX12_house 211 = .ok (.iastore, 1) := by decide +kernel
theorem dX12_house_212 : decode cX12_house 212 = .ok (.aload_n 0, 1) := by decide +kernel
theorem dX12_house_213 : decode cX12_house 213 = .ok (.getfield 13, 3) := by decide +kernel
theorem dX12_house_216 : decode cX12_house 216 = .ok (.iconst 0, 1) := by decide +kernel
theorem dX12_house_217 : decode cX12_house 217 = .ok (.dup2, 1) := by decide +kernel
theorem dX12_house_218 : decode cX12_house 218 = .ok (.iaload, 1) := by decide +kernel
theorem dX12_house_219 : decode cX12_house 219 = .ok (.iconst 1, 1) := by decide +kernel
theorem dX12_house_220 : decode cX12_house 220 = .ok (.iadd, 1) := by decide +kernel
theorem dX12_house_221 : decode cX12_house 221 = .ok (.iastore, 1) := by decide +kernel
theorem dX12_house_222 : decode cX12_house 222 = .ok (.aload_n 0, 1) := by decide +kernel
theorem dX12_house_223 : decode cX12_house 223 = .ok (.iconst 0, 1) := by decide +kernel
theorem dX12_house_224 : decode cX12_house 224 = .ok (.putfield 164, 3) := by decide +kernel
theorem dX12_house_227 : decode cX12_house 227 = .ok (.aload_n 0, 1) := by decide +kernel
theorem dX12_house_228 : decode cX12_house 228 = .ok (.iload 6, 2) := by decide +kernel
theorem dX12_house_230 : decode cX12_house 230 = .ok (.invokevirtual 171, 3) := by decide +kernel
theorem dX12_house_233 : decode cX12_house 233 = .ok (.ireturn, 1) := by decide +kernel
theorem dX12_house_67 : decode cX12_house 67 = .ok (.aload_n 0, 1) := by decide +kernel
theorem dX12_house_68 : decode cX12_house 68 = .ok (.iconst (-1), 1) := by decide +kernel
theorem dX12_house_69 : decode cX12_house 69 = .ok (.invokevirtual 171, 3) := by decide +kernel
theorem dX12_house_72 : decode cX12_house 72 = .ok (.ireturn, 1) := by decide +kernel
theorem dX12_four_0 : decode cX12_four 0 = .ok (.bipush 24, 2) := by decide +kernel
theorem dX12_four_2 : decode cX12_four 2 = .ok (.istore_n 2, 1) := by decide +kernel
theorem dX12_four_3 : decode cX12_four 3 = .ok (.iload_n 2, 1) := by decide +kernel
theorem dX12_four_4 : decode cX12_four 4 = .ok (.ifCond .lt 35, 3) := by decide +kernel
theorem dX12_four_7 : decode cX12_four 7 = .ok (.aload_n 0, 1) := by decide +kernel
theorem dX12_four_8 : decode cX12_four 8 = .ok (.getfield 35, 3) := by decide +kernel
theorem dX12_four_11 : decode cX12_four 11 = .ok (.aload_n 0, 1) := by decide +kernel
theorem dX12_four_12 : decode cX12_four 12 = .ok (.getfield 227, 3) := by decide +kernel
theorem dX12_four_15 : decode cX12_four 15 = .ok (.iload_n 1, 1) := by decide +kernel
theorem dX12_four_16 : decode cX12_four 16 = .ok (.iload_n 2, 1) := by decide +kernel
theorem dX12_four_17 : decode cX12_four 17 = .ok (.ishr, 1) := by decide +kernel
theorem dX12_four_18 : decode cX12_four 18 = .ok (.sipush 255, 3) := by decide +kernel
theorem dX12_four_21 : decode cX12_four 21 = .ok (.iand, 1) := by decide +kernel
theorem dX12_four_22 : decode cX12_four 22 = .ok (.iastore, 1) := by decide +kernel
theorem dX12_four_23 : decode cX12_four 23 = .ok (.aload_n 0, 1) := by decide +kernel
theorem dX12_four_24 : decode cX12_four 24 = .ok (.dup, 1) := by decide +kernel
theorem dX12_four_25 : decode cX12_four 25 = .ok (.getfield 227, 3) := by decide +kernel
theorem dX12_four_28 : decode cX12_four 28 = .ok (.iconst 1, 1) := by decide +kernel
theorem dX12_four_29 : decode cX12_four 29 = .ok (.iadd, 1) := by decide +kernel
theorem dX12_four_30 : decode cX12_four 30 = .ok (.putfield 227, 3) := by decide +kernel
theorem dX12_four_33 : decode cX12_four 33 = .ok (.iinc 2 (-8), 3) := by decide +kernel
theorem dX12_four_36 : decode cX12_four 36 = .ok (.goto (-33), 3) := by decide +kernel
theorem dX12_four_39 : decode cX12_four 39 = .ok (.return_, 1) := by decide +kernel
set_option maxRecDepth 20000 in
theorem ggX12_hear_X12_in : GoodIn wsX12_hear wsX12_in := goodIn_r _ [7] (by decide +kernel) (by decide +kernel)
set_option maxRecDepth 20000 in
theorem gX12_hear_X12_in : GoodIn wsX12_hear (va_wsS RX12 178 yX12_in wsX12_in) := goodIn_app (goodIn_of _ (by decide +kernel)) ggX12_hear_X12_in
set_option maxRecDepth 20000 in
theorem ggX12_hear_X12_tell : GoodIn wsX12_hear wsX12_tell := goodIn_r _ [11, 12, 13, 14, 15, 16, 17, 18, 19, 20, 21, 22, 23, 24, 25, 26, 27, 28, 29, 30, 31, 32, 33, 34, 35, 36, 37, 38, 39, 40, 41, 42, 43, 44, 45, 46, 47, 48, 49, 50, 51, 52, 53, 54, 55, 56, 57, 58, 59, 60, 61, 62, 63, 64, 65, 66, 67, 68, 69, 70, 71, 72, 73] (by decide +kernel) (by decide +kernel)
set_option maxRecDepth 20000 in
theorem gX12_hear_X12_tell : GoodIn wsX12_hear (wsV RX12 171 RX12 yX12_tell wsX12_tell) := goodIn_app (goodIn_of _ (by decide +kernel)) ggX12_hear_X12_tell
set_option maxRecDepth 20000 in
theorem ggX12_of_X12_isHouse : GoodIn wsX12_of wsX12_isHouse := goodIn_r _ [7, 2, 8, 9, 6, 10, 68, 69, 70, 71, 72, 73, 74, 75, 76, 77, 78, 79, 80, 81, 82, 83, 84, 85, 86, 87, 88, 89, 90, 91, 92, 93, 94, 95, 96, 97, 98, 99, 100, 101, 102, 103, 104, 105, 106, 107, 108, 109, 110, 111, 112, 113, 114, 115, 116, 117, 118, 119, 120, 121, 122, 123, 124, 125, 126, 127] (by decide +kernel) (by decide +kernel)
set_option maxRecDepth 20000 in
theorem gX12_of_X12_isHouse : GoodIn wsX12_of (wsV RX12 197 RX12 yX12_isHouse wsX12_isHouse) := goodIn_app (goodIn_of _ (by decide +kernel)) ggX12_of_X12_isHouse
set_option maxRecDepth 20000 in
theorem ggX12_least_X12_isHouse : GoodIn wsX12_least wsX12_isHouse := goodIn_r _ [12, 4, 13, 14, 11, 15, 109, 110, 111, 112, 113, 114, 115, 116, 117, 118, 119, 120, 121, 122, 123, 124, 125, 126, 127, 128, 129, 130, 131, 132, 133, 134, 135, 136, 137, 138, 139, 140, 141, 142, 143, 144, 145, 146, 147, 148, 149, 150, 151, 152, 153, 154, 155, 156, 157, 158, 159, 160, 161, 162, 163, 164, 165, 166, 167, 168] (by decide +kernel) (by decide +kernel)
set_option maxRecDepth 20000 in
theorem gX12_least_X12_isHouse : GoodIn wsX12_least (wsV RX12 197 RX12 yX12_isHouse wsX12_isHouse) := goodIn_app (goodIn_of _ (by decide +kernel)) ggX12_least_X12_isHouse
set_option maxRecDepth 20000 in
theorem ggX12_rings_X12_isHouse : GoodIn wsX12_rings wsX12_isHouse := goodIn_r _ [7, 8, 9, 10, 6, 11, 27, 28, 29, 30, 31, 32, 33, 34, 35, 36, 37, 38, 39, 40, 41, 42, 43, 44, 45, 46, 47, 48, 49, 50, 51, 52, 53, 54, 55, 56, 57, 58, 59, 60, 61, 62, 63, 64, 65, 66, 67, 68, 69, 70, 71, 72, 73, 74, 75, 76, 77, 78, 79, 80, 81, 82, 83, 84, 85, 86] (by decide +kernel) (by decide +kernel)
set_option maxRecDepth 20000 in
theorem gX12_rings_X12_isHouse : GoodIn wsX12_rings (wsV RX12 197 RX12 yX12_isHouse wsX12_isHouse) := goodIn_app (goodIn_of _ (by decide +kernel)) ggX12_rings_X12_isHouse
set_option maxRecDepth 20000 in
theorem ggX12_chord_X12_in : GoodIn wsX12_chord wsX12_in := goodIn_r _ [7] (by decide +kernel) (by decide +kernel)
set_option maxRecDepth 20000 in
theorem gX12_chord_X12_in : GoodIn wsX12_chord (va_wsS RX12 178 yX12_in wsX12_in) := goodIn_app (goodIn_of _ (by decide +kernel)) ggX12_chord_X12_in
set_option maxRecDepth 20000 in
theorem ggX12_score_X12_in : GoodIn wsX12_score wsX12_in := goodIn_r _ [7] (by decide +kernel) (by decide +kernel)
set_option maxRecDepth 20000 in
theorem gX12_score_X12_in : GoodIn wsX12_score (va_wsS RX12 178 yX12_in wsX12_in) := goodIn_app (goodIn_of _ (by decide +kernel)) ggX12_score_X12_in
set_option maxRecDepth 20000 in
theorem ggX12_score_X12_change : GoodIn wsX12_score wsX12_change := goodIn_r _ [11, 12, 13, 19, 20, 21, 22, 23, 24, 25, 26, 27, 28, 29, 30, 31, 32, 33, 34, 35, 36, 37, 38, 39, 40, 41, 42, 43, 44, 45, 46, 47, 48, 49, 50, 51, 52, 53, 54, 55, 56, 57, 58, 59, 60, 61, 62, 63, 64, 65, 66, 67, 68, 69, 70, 71, 72, 73, 74, 75, 76, 77, 78] (by decide +kernel) (by decide +kernel)
set_option maxRecDepth 20000 in
theorem gX12_score_X12_change : GoodIn wsX12_score (wsV RX12 214 RX12 yX12_change wsX12_change) := goodIn_app (goodIn_of _ (by decide +kernel)) ggX12_score_X12_change
set_option maxRecDepth 20000 in
theorem ggX12_score_X12_tell : GoodIn wsX12_score wsX12_tell := goodIn_r _ [17, 13, 18, 19, 20, 21, 22, 23, 24, 25, 26, 27, 28, 29, 30, 31, 32, 33, 34, 35, 36, 37, 38, 39, 40, 41, 42, 43, 44, 45, 46, 47, 48, 49, 50, 51, 52, 53, 54, 55, 56, 57, 58, 59, 60, 61, 62, 63, 64, 65, 66, 67, 68, 69, 70, 71, 72, 73, 74, 75, 76, 77, 78] (by decide +kernel) (by decide +kernel)
set_option maxRecDepth 20000 in
theorem gX12_score_X12_tell : GoodIn wsX12_score (wsV RX12 171 RX12 yX12_tell wsX12_tell) := goodIn_app (goodIn_of _ (by decide +kernel)) ggX12_score_X12_tell
set_option maxRecDepth 20000 in
theorem ggX12_house_X12_in : GoodIn wsX12_house wsX12_in := goodIn_r _ [11] (by decide +kernel) (by decide +kernel)
set_option maxRecDepth 20000 in
theorem gX12_house_X12_in : GoodIn wsX12_house (va_wsS RX12 178 yX12_in wsX12_in) := goodIn_app (goodIn_of _ (by decide +kernel)) ggX12_house_X12_in
set_option maxRecDepth 20000 in
theorem ggX12_house_X12_tell : GoodIn wsX12_house wsX12_tell := goodIn_r _ [15, 16, 17, 18, 19, 20, 21, 22, 23, 24, 25, 26, 27, 28, 29, 30, 31, 32, 33, 34, 35, 36, 37, 38, 39, 40, 41, 42, 43, 44, 45, 46, 47, 48, 49, 50, 51, 52, 53, 54, 55, 56, 57, 58, 59, 60, 61, 62, 63, 64, 65, 66, 67, 68, 69, 70, 71, 72, 73, 74, 75, 76, 77] (by decide +kernel) (by decide +kernel)
set_option maxRecDepth 20000 in
theorem gX12_house_X12_tell : GoodIn wsX12_house (wsV RX12 171 RX12 yX12_tell wsX12_tell) := goodIn_app (goodIn_of _ (by decide +kernel)) ggX12_house_X12_tell
set_option maxHeartbeats 4000000 in
set_option maxRecDepth 100000 in
theorem r_status (l : Launch) (D : va_G) (K : Nat → ClassId) (a0 : Nat) (w0 : Value) (w2 : Value) (w3 : Value) (w4 : Value) (w5 : Value) (w6 : Value) (w7 : Value) (w8 : Value) (w9 : Value) (w10 : Value) (w11 : Value) (w12 : Value) (w13 : Value) (w14 : Value) (w15 : Value) (w16 : Value) (w17 : Value) (w18 : Value) (w19 : Value) (w20 : Value) (w21 : Value) (w22 : Value) (w23 : Value) (w24 : Value) (w25 : Value) (w26 : Value) (w27 : Value) (w28 : Value) (w29 : Value) (w30 : Value) (w31 : Value) (w32 : Value) (w33 : Value) (w34 : Value) (w35 : Value) (w36 : Value) (w37 : Value) (w38 : Value) (w39 : Value) (w40 : Value) (w41 : Value) (w42 : Value) (w43 : Value) (w44 : Value) (w45 : Value) (w46 : Value) (w47 : Value) (w48 : Value) (w49 : Value) (w50 : Value) (w51 : Value) (w52 : Value) (w53 : Value) (w54 : Value) (w55 : Value) (w56 : Value) (w57 : Value) (w58 : Value) (w59 : Value) (sz : Nat) : Met l yX12_status wsX12_status ({ frames := 0, cells := 0, slots := 0, locals := 0 }) (va_Pc [.ref a0] (Pre D K [(a0, .inr (12, [w0, .int 0, w2, w3, w4, w5, w6, w7, w8, w9, w10, w11, w12, w13, w14, w15, w16, w17, w18, w19, w20, w21, w22, w23, w24, w25, w26, w27, w28, w29, w30, w31, w32, w33, w34, w35, w36, w37, w38, w39, w40, w41, w42, w43, w44, w45, w46, w47, w48, w49, w50, w51, w52, w53, w54, w55, w56, w57, w58, w59]))] sz)) (va_Qi (S := Unit) (fun (r : Int32) (_ : Unit) => (r = 0)) (fun u t => Wd D (va_A [(a0, .inr (12, [w0, .int 0, w2, w3, w4, w5, w6, w7, w8, w9, w10, w11, w12, w13, w14, w15, w16, w17, w18, w19, w20, w21, w22, w23, w24, w25, w26, w27, w28, w29, w30, w31, w32, w33, w34, w35, w36, w37, w38, w39, w40, w41, w42, w43, w44, w45, w46, w47, w48, w49, w50, w51, w52, w53, w54, w55, w56, w57, w58, w59]))] sz) ((fun _ => []) u) t) (va_A [(a0, .inr (12, [w0, .int 0, w2, w3, w4, w5, w6, w7, w8, w9, w10, w11, w12, w13, w14, w15, w16, w17, w18, w19, w20, w21, w22, w23, w24, w25, w26, w27, w28, w29, w30, w31, w32, w33, w34, w35, w36, w37, w38, w39, w40, w41, w42, w43, w44, w45, w46, w47, w48, w49, w50, w51, w52, w53, w54, w55, w56, w57, w58, w59]))] sz)) 0 0 (va_A [(a0, .inr (12, [w0, .int 0, w2, w3, w4, w5, w6, w7, w8, w9, w10, w11, w12, w13, w14, w15, w16, w17, w18, w19, w20, w21, w22, w23, w24, w25, w26, w27, w28, w29, w30, w31, w32, w33, w34, w35, w36, w37, w38, w39, w40, w41, w42, w43, w44, w45, w46, w47, w48, w49, w50, w51, w52, w53, w54, w55, w56, w57, w58, w59]))] sz) := by
  refine Met.ofW (cc := cX12_status) (maxL := 1) (ret := (some .int)) (by decide) rfl ?_
  intro p e s m args below meth c s₁ B hml hv
  obtain ⟨rfl, hsz, hP, hK, hD0, hN⟩ := hv
  have hx := B.exec
  have hb := B.bytes
  have hr := B.returns
  have hts := atoms_spec (ws := wsX12_status) B.pre
  have hown : s.vm.findClass RX12 = some m.cls := findClass_of_methodNamed B.named
  have hlocks := B.notSynchronized
  subst hsz
  have hD := hD0.self (sz := s.heap.size)
  generalize hAe : va_A [(a0, .inr (12, [w0, .int 0, w2, w3, w4, w5, w6, w7, w8, w9, w10, w11, w12, w13, w14, w15, w16, w17, w18, w19, w20, w21, w22, w23, w24, w25, w26, w27, w28, w29, w30, w31, w32, w33, w34, w35, w36, w37, w38, w39, w40, w41, w42, w43, w44, w45, w46, w47, w48, w49, w50, w51, w52, w53, w54, w55, w56, w57, w58, w59]))] s.heap.size = A at hD ⊢
  have hA : ∀ q : Nat, s.heap.size ≤ q → A q := fun q h => by rw [← hAe]; exact Or.inr h
  have hS : va_S A s.heap s.heap [] := va_S.rf
  have hP : va_P D vwCl [(a0, .inr (12, [w0, .int 0, w2, w3, w4, w5, w6, w7, w8, w9, w10, w11, w12, w13, w14, w15, w16, w17, w18, w19, w20, w21, w22, w23, w24, w25, w26, w27, w28, w29, w30, w31, w32, w33, w34, w35, w36, w37, w38, w39, w40, w41, w42, w43, w44, w45, w46, w47, w48, w49, w50, w51, w52, w53, w54, w55, w56, w57, w58, w59]))] s.heap := hP
  have hl := lv_entry [.ref a0] (n := 1) (Nat.le_of_ble_eq_true rfl)
  rw [lg_entry_eq]
  generalize (lg_sl [.ref a0] ++ List.replicate (1 - (lg_sl [.ref a0]).length) Slot.unset).toArray = ls at hl ⊢
  have hl : lv_has ls 1 [(0, .ref a0)] := hl
  have hw12 : ∀ w ∈ wsX120, w ∈ wsX12_status := fun w h => (List.mem_cons_of_mem _ (List.mem_append_right _ h))
  refine lv_aload_n hx hb dX12_status_0 rfl (lv_at hl 0 rfl) ?_
  refine lv_iconst (v := 0) hx hb dX12_status_1 (by decide) ?_
  refine va_put (ci := 12) (v := .int 0) (ty := .int) (C := RX12) (T := TX12) (N := 60) hx hb hts hw12 tyX12 tyX12_ok nmX12 hown hK hP hD hS 0 rfl rfl 0 (by decide) (hts (.fieldLink RX12 158 "SmokeTuneModel" "thrown" "I") (List.mem_cons_of_mem _ (List.mem_append_left _ (List.mem_of_getElem? (i := 0) rfl)))) (fun _ h9 => h9) rfl (by decide +kernel) (by first | rfl | decide) (by first | rfl | decide) (Nat.le_of_ble_eq_true rfl) dX12_status_2 (fun H locs hP hD hS => ?_)
  have hP : va_P D vwCl [(a0, .inr (12, [.int 0, .int 0, w2, w3, w4, w5, w6, w7, w8, w9, w10, w11, w12, w13, w14, w15, w16, w17, w18, w19, w20, w21, w22, w23, w24, w25, w26, w27, w28, w29, w30, w31, w32, w33, w34, w35, w36, w37, w38, w39, w40, w41, w42, w43, w44, w45, w46, w47, w48, w49, w50, w51, w52, w53, w54, w55, w56, w57, w58, w59]))] H := hP
  have hD : va_D A [(a0, .inr (12, [.int 0, .int 0, w2, w3, w4, w5, w6, w7, w8, w9, w10, w11, w12, w13, w14, w15, w16, w17, w18, w19, w20, w21, w22, w23, w24, w25, w26, w27, w28, w29, w30, w31, w32, w33, w34, w35, w36, w37, w38, w39, w40, w41, w42, w43, w44, w45, w46, w47, w48, w49, w50, w51, w52, w53, w54, w55, w56, w57, w58, w59]))] := hD
  refine lv_aload_n hx hb dX12_status_5 rfl (lv_at hl 0 rfl) ?_
  refine va_get (ci := 12) (v := .int 0) (C := RX12) (T := TX12) (N := 60) hx hb hts hw12 hown hK hP 0 rfl rfl 1 (by decide) (hts (.fieldLink RX12 161 "SmokeTuneModel" "status" "I") (List.mem_cons_of_mem _ (List.mem_append_left _ (List.mem_of_getElem? (i := 1) rfl)))) (fun _ h9 => h9) rfl dX12_status_6 ?_
  exact W.iret (v := 0) hx hb hr (fun t ht hW => ⟨⟨0, (), rfl, (by first | exact rfl), Wd.nil⟩, hS.F ht⟩) hS.2.2 dX12_status_9
set_option maxHeartbeats 4000000 in
set_option maxRecDepth 100000 in
theorem r_ash (l : Launch) (D : va_G) (K : Nat → ClassId) (a0 : Nat) (w0 : Value) (w1 : Value) (w2 : Value) (w3 : Value) (w4 : Value) (w5 : Value) (w6 : Value) (w7 : Value) (w8 : Value) (w9 : Value) (w10 : Value) (w12 : Value) (w13 : Value) (w14 : Value) (w15 : Value) (w16 : Value) (w17 : Value) (w18 : Value) (w19 : Value) (w20 : Value) (w21 : Value) (w22 : Value) (w23 : Value) (w24 : Value) (w25 : Value) (w26 : Value) (w27 : Value) (w28 : Value) (w29 : Value) (w30 : Value) (w31 : Value) (w32 : Value) (w33 : Value) (w34 : Value) (w35 : Value) (w36 : Value) (w37 : Value) (w38 : Value) (w39 : Value) (w40 : Value) (w41 : Value) (w42 : Value) (w43 : Value) (w44 : Value) (w45 : Value) (w46 : Value) (w47 : Value) (w48 : Value) (w49 : Value) (w50 : Value) (w51 : Value) (w52 : Value) (w53 : Value) (w54 : Value) (w55 : Value) (w56 : Value) (w57 : Value) (w58 : Value) (w59 : Value) (sz : Nat) : Met l yX12_ash wsX12_ash ({ frames := 0, cells := 0, slots := 0, locals := 0 }) (va_Pc [.ref a0] (Pre D K [(a0, .inr (12, [w0, w1, w2, w3, w4, w5, w6, w7, w8, w9, w10, .int 0, w12, w13, w14, w15, w16, w17, w18, w19, w20, w21, w22, w23, w24, w25, w26, w27, w28, w29, w30, w31, w32, w33, w34, w35, w36, w37, w38, w39, w40, w41, w42, w43, w44, w45, w46, w47, w48, w49, w50, w51, w52, w53, w54, w55, w56, w57, w58, w59]))] sz)) (va_Qi (S := Unit) (fun (r : Int32) (_ : Unit) => (r = 0)) (fun u t => Wd D (va_A [(a0, .inr (12, [w0, w1, w2, w3, w4, w5, w6, w7, w8, w9, w10, .int 0, w12, w13, w14, w15, w16, w17, w18, w19, w20, w21, w22, w23, w24, w25, w26, w27, w28, w29, w30, w31, w32, w33, w34, w35, w36, w37, w38, w39, w40, w41, w42, w43, w44, w45, w46, w47, w48, w49, w50, w51, w52, w53, w54, w55, w56, w57, w58, w59]))] sz) ((fun _ => []) u) t) (va_A [(a0, .inr (12, [w0, w1, w2, w3, w4, w5, w6, w7, w8, w9, w10, .int 0, w12, w13, w14, w15, w16, w17, w18, w19, w20, w21, w22, w23, w24, w25, w26, w27, w28, w29, w30, w31, w32, w33, w34, w35, w36, w37, w38, w39, w40, w41, w42, w43, w44, w45, w46, w47, w48, w49, w50, w51, w52, w53, w54, w55, w56, w57, w58, w59]))] sz)) 0 0 (va_A [(a0, .inr (12, [w0, w1, w2, w3, w4, w5, w6, w7, w8, w9, w10, .int 0, w12, w13, w14, w15, w16, w17, w18, w19, w20, w21, w22, w23, w24, w25, w26, w27, w28, w29, w30, w31, w32, w33, w34, w35, w36, w37, w38, w39, w40, w41, w42, w43, w44, w45, w46, w47, w48, w49, w50, w51, w52, w53, w54, w55, w56, w57, w58, w59]))] sz) := by
  refine Met.ofW (cc := cX12_ash) (maxL := 1) (ret := (some .int)) (by decide) rfl ?_
  intro p e s m args below meth c s₁ B hml hv
  obtain ⟨rfl, hsz, hP, hK, hD0, hN⟩ := hv
  have hx := B.exec
  have hb := B.bytes
  have hr := B.returns
  have hts := atoms_spec (ws := wsX12_ash) B.pre
  have hown : s.vm.findClass RX12 = some m.cls := findClass_of_methodNamed B.named
  have hlocks := B.notSynchronized
  subst hsz
  have hD := hD0.self (sz := s.heap.size)
  generalize hAe : va_A [(a0, .inr (12, [w0, w1, w2, w3, w4, w5, w6, w7, w8, w9, w10, .int 0, w12, w13, w14, w15, w16, w17, w18, w19, w20, w21, w22, w23, w24, w25, w26, w27, w28, w29, w30, w31, w32, w33, w34, w35, w36, w37, w38, w39, w40, w41, w42, w43, w44, w45, w46, w47, w48, w49, w50, w51, w52, w53, w54, w55, w56, w57, w58, w59]))] s.heap.size = A at hD ⊢
  have hA : ∀ q : Nat, s.heap.size ≤ q → A q := fun q h => by rw [← hAe]; exact Or.inr h
  have hS : va_S A s.heap s.heap [] := va_S.rf
  have hP : va_P D vwCl [(a0, .inr (12, [w0, w1, w2, w3, w4, w5, w6, w7, w8, w9, w10, .int 0, w12, w13, w14, w15, w16, w17, w18, w19, w20, w21, w22, w23, w24, w25, w26, w27, w28, w29, w30, w31, w32, w33, w34, w35, w36, w37, w38, w39, w40, w41, w42, w43, w44, w45, w46, w47, w48, w49, w50, w51, w52, w53, w54, w55, w56, w57, w58, w59]))] s.heap := hP
  have hl := lv_entry [.ref a0] (n := 1) (Nat.le_of_ble_eq_true rfl)
  rw [lg_entry_eq]
  generalize (lg_sl [.ref a0] ++ List.replicate (1 - (lg_sl [.ref a0]).length) Slot.unset).toArray = ls at hl ⊢
  have hl : lv_has ls 1 [(0, .ref a0)] := hl
  have hw12 : ∀ w ∈ wsX120, w ∈ wsX12_ash := fun w h => (List.mem_cons_of_mem _ (List.mem_append_right _ h))
  refine lv_aload_n hx hb dX12_ash_0 rfl (lv_at hl 0 rfl) ?_
  refine lv_iconst (v := 0) hx hb dX12_ash_1 (by decide) ?_
  refine va_put (ci := 12) (v := .int 0) (ty := .int) (C := RX12) (T := TX12) (N := 60) hx hb hts hw12 tyX12 tyX12_ok nmX12 hown hK hP hD hS 0 rfl rfl 0 (by decide) (hts (.fieldLink RX12 158 "SmokeTuneModel" "thrown" "I") (List.mem_cons_of_mem _ (List.mem_append_left _ (List.mem_of_getElem? (i := 0) rfl)))) (fun _ h9 => h9) rfl (by decide +kernel) (by first | rfl | decide) (by first | rfl | decide) (Nat.le_of_ble_eq_true rfl) dX12_ash_2 (fun H locs hP hD hS => ?_)
  have hP : va_P D vwCl [(a0, .inr (12, [.int 0, w1, w2, w3, w4, w5, w6, w7, w8, w9, w10, .int 0, w12, w13, w14, w15, w16, w17, w18, w19, w20, w21, w22, w23, w24, w25, w26, w27, w28, w29, w30, w31, w32, w33, w34, w35, w36, w37, w38, w39, w40, w41, w42, w43, w44, w45, w46, w47, w48, w49, w50, w51, w52, w53, w54, w55, w56, w57, w58, w59]))] H := hP
  have hD : va_D A [(a0, .inr (12, [.int 0, w1, w2, w3, w4, w5, w6, w7, w8, w9, w10, .int 0, w12, w13, w14, w15, w16, w17, w18, w19, w20, w21, w22, w23, w24, w25, w26, w27, w28, w29, w30, w31, w32, w33, w34, w35, w36, w37, w38, w39, w40, w41, w42, w43, w44, w45, w46, w47, w48, w49, w50, w51, w52, w53, w54, w55, w56, w57, w58, w59]))] := hD
  refine lv_aload_n hx hb dX12_ash_5 rfl (lv_at hl 0 rfl) ?_
  refine va_get (ci := 12) (v := .int 0) (C := RX12) (T := TX12) (N := 60) hx hb hts hw12 hown hK hP 0 rfl rfl 11 (by decide) (hts (.fieldLink RX12 230 "SmokeTuneModel" "ash" "I") (List.mem_cons_of_mem _ (List.mem_append_left _ (List.mem_of_getElem? (i := 1) rfl)))) (fun _ h9 => h9) rfl dX12_ash_6 ?_
  exact W.iret (v := 0) hx hb hr (fun t ht hW => ⟨⟨0, (), rfl, (by first | exact rfl), Wd.nil⟩, hS.F ht⟩) hS.2.2 dX12_ash_9
set_option maxHeartbeats 4000000 in
set_option maxRecDepth 100000 in
theorem r_fault (l : Launch) (D : va_G) (K : Nat → ClassId) (a0 : Nat) (w0 : Value) (w1 : Value) (w2 : Value) (w3 : Value) (w4 : Value) (w5 : Value) (w6 : Value) (w7 : Value) (w8 : Value) (w9 : Value) (w10 : Value) (w11 : Value) (w12 : Value) (w13 : Value) (w14 : Value) (w15 : Value) (w16 : Value) (w17 : Value) (w19 : Value) (w20 : Value) (w21 : Value) (w22 : Value) (w23 : Value) (w24 : Value) (w25 : Value) (w26 : Value) (w27 : Value) (w28 : Value) (w29 : Value) (w30 : Value) (w31 : Value) (w32 : Value) (w33 : Value) (w34 : Value) (w35 : Value) (w36 : Value) (w37 : Value) (w38 : Value) (w39 : Value) (w40 : Value) (w41 : Value) (w42 : Value) (w43 : Value) (w44 : Value) (w45 : Value) (w46 : Value) (w47 : Value) (w48 : Value) (w49 : Value) (w50 : Value) (w51 : Value) (w52 : Value) (w53 : Value) (w54 : Value) (w55 : Value) (w56 : Value) (w57 : Value) (w58 : Value) (w59 : Value) (sz : Nat) : Met l yX12_fault wsX12_fault ({ frames := 0, cells := 0, slots := 0, locals := 0 }) (va_Pc [.ref a0] (Pre D K [(a0, .inr (12, [w0, w1, w2, w3, w4, w5, w6, w7, w8, w9, w10, w11, w12, w13, w14, w15, w16, w17, .int (-1), w19, w20, w21, w22, w23, w24, w25, w26, w27, w28, w29, w30, w31, w32, w33, w34, w35, w36, w37, w38, w39, w40, w41, w42, w43, w44, w45, w46, w47, w48, w49, w50, w51, w52, w53, w54, w55, w56, w57, w58, w59]))] sz)) (va_Qi (S := Unit) (fun (r : Int32) (_ : Unit) => (r = (-1))) (fun u t => Wd D (va_A [(a0, .inr (12, [w0, w1, w2, w3, w4, w5, w6, w7, w8, w9, w10, w11, w12, w13, w14, w15, w16, w17, .int (-1), w19, w20, w21, w22, w23, w24, w25, w26, w27, w28, w29, w30, w31, w32, w33, w34, w35, w36, w37, w38, w39, w40, w41, w42, w43, w44, w45, w46, w47, w48, w49, w50, w51, w52, w53, w54, w55, w56, w57, w58, w59]))] sz) ((fun _ => []) u) t) (va_A [(a0, .inr (12, [w0, w1, w2, w3, w4, w5, w6, w7, w8, w9, w10, w11, w12, w13, w14, w15, w16, w17, .int (-1), w19, w20, w21, w22, w23, w24, w25, w26, w27, w28, w29, w30, w31, w32, w33, w34, w35, w36, w37, w38, w39, w40, w41, w42, w43, w44, w45, w46, w47, w48, w49, w50, w51, w52, w53, w54, w55, w56, w57, w58, w59]))] sz)) 0 0 (va_A [(a0, .inr (12, [w0, w1, w2, w3, w4, w5, w6, w7, w8, w9, w10, w11, w12, w13, w14, w15, w16, w17, .int (-1), w19, w20, w21, w22, w23, w24, w25, w26, w27, w28, w29, w30, w31, w32, w33, w34, w35, w36, w37, w38, w39, w40, w41, w42, w43, w44, w45, w46, w47, w48, w49, w50, w51, w52, w53, w54, w55, w56, w57, w58, w59]))] sz) := by
  refine Met.ofW (cc := cX12_fault) (maxL := 1) (ret := (some .int)) (by decide) rfl ?_
  intro p e s m args below meth c s₁ B hml hv
  obtain ⟨rfl, hsz, hP, hK, hD0, hN⟩ := hv
  have hx := B.exec
  have hb := B.bytes
  have hr := B.returns
  have hts := atoms_spec (ws := wsX12_fault) B.pre
  have hown : s.vm.findClass RX12 = some m.cls := findClass_of_methodNamed B.named
  have hlocks := B.notSynchronized
  subst hsz
  have hD := hD0.self (sz := s.heap.size)
  generalize hAe : va_A [(a0, .inr (12, [w0, w1, w2, w3, w4, w5, w6, w7, w8, w9, w10, w11, w12, w13, w14, w15, w16, w17, .int (-1), w19, w20, w21, w22, w23, w24, w25, w26, w27, w28, w29, w30, w31, w32, w33, w34, w35, w36, w37, w38, w39, w40, w41, w42, w43, w44, w45, w46, w47, w48, w49, w50, w51, w52, w53, w54, w55, w56, w57, w58, w59]))] s.heap.size = A at hD ⊢
  have hA : ∀ q : Nat, s.heap.size ≤ q → A q := fun q h => by rw [← hAe]; exact Or.inr h
  have hS : va_S A s.heap s.heap [] := va_S.rf
  have hP : va_P D vwCl [(a0, .inr (12, [w0, w1, w2, w3, w4, w5, w6, w7, w8, w9, w10, w11, w12, w13, w14, w15, w16, w17, .int (-1), w19, w20, w21, w22, w23, w24, w25, w26, w27, w28, w29, w30, w31, w32, w33, w34, w35, w36, w37, w38, w39, w40, w41, w42, w43, w44, w45, w46, w47, w48, w49, w50, w51, w52, w53, w54, w55, w56, w57, w58, w59]))] s.heap := hP
  have hl := lv_entry [.ref a0] (n := 1) (Nat.le_of_ble_eq_true rfl)
  rw [lg_entry_eq]
  generalize (lg_sl [.ref a0] ++ List.replicate (1 - (lg_sl [.ref a0]).length) Slot.unset).toArray = ls at hl ⊢
  have hl : lv_has ls 1 [(0, .ref a0)] := hl
  have hw12 : ∀ w ∈ wsX120, w ∈ wsX12_fault := fun w h => (List.mem_cons_of_mem _ (List.mem_append_right _ h))
  refine lv_aload_n hx hb dX12_fault_0 rfl (lv_at hl 0 rfl) ?_
  refine lv_iconst (v := 0) hx hb dX12_fault_1 (by decide) ?_
  refine va_put (ci := 12) (v := .int 0) (ty := .int) (C := RX12) (T := TX12) (N := 60) hx hb hts hw12 tyX12 tyX12_ok nmX12 hown hK hP hD hS 0 rfl rfl 0 (by decide) (hts (.fieldLink RX12 158 "SmokeTuneModel" "thrown" "I") (List.mem_cons_of_mem _ (List.mem_append_left _ (List.mem_of_getElem? (i := 0) rfl)))) (fun _ h9 => h9) rfl (by decide +kernel) (by first | rfl | decide) (by first | rfl | decide) (Nat.le_of_ble_eq_true rfl) dX12_fault_2 (fun H locs hP hD hS => ?_)
  have hP : va_P D vwCl [(a0, .inr (12, [.int 0, w1, w2, w3, w4, w5, w6, w7, w8, w9, w10, w11, w12, w13, w14, w15, w16, w17, .int (-1), w19, w20, w21, w22, w23, w24, w25, w26, w27, w28, w29, w30, w31, w32, w33, w34, w35, w36, w37, w38, w39, w40, w41, w42, w43, w44, w45, w46, w47, w48, w49, w50, w51, w52, w53, w54, w55, w56, w57, w58, w59]))] H := hP
  have hD : va_D A [(a0, .inr (12, [.int 0, w1, w2, w3, w4, w5, w6, w7, w8, w9, w10, w11, w12, w13, w14, w15, w16, w17, .int (-1), w19, w20, w21, w22, w23, w24, w25, w26, w27, w28, w29, w30, w31, w32, w33, w34, w35, w36, w37, w38, w39, w40, w41, w42, w43, w44, w45, w46, w47, w48, w49, w50, w51, w52, w53, w54, w55, w56, w57, w58, w59]))] := hD
  refine lv_aload_n hx hb dX12_fault_5 rfl (lv_at hl 0 rfl) ?_
  refine va_get (ci := 12) (v := .int (-1)) (C := RX12) (T := TX12) (N := 60) hx hb hts hw12 hown hK hP 0 rfl rfl 18 (by decide) (hts (.fieldLink RX12 38 "SmokeTuneModel" "fault" "I") (List.mem_cons_of_mem _ (List.mem_append_left _ (List.mem_of_getElem? (i := 1) rfl)))) (fun _ h9 => h9) rfl dX12_fault_6 ?_
  exact W.iret (v := (-1)) hx hb hr (fun t ht hW => ⟨⟨(-1), (), rfl, (by first | exact rfl), Wd.nil⟩, hS.F ht⟩) hS.2.2 dX12_fault_9
set_option maxHeartbeats 4000000 in
set_option maxRecDepth 100000 in
theorem r_stopped (l : Launch) (D : va_G) (K : Nat → ClassId) (a0 : Nat) (w0 : Value) (w1 : Value) (w2 : Value) (w3 : Value) (w4 : Value) (w5 : Value) (w6 : Value) (w7 : Value) (w8 : Value) (w9 : Value) (w10 : Value) (w11 : Value) (w12 : Value) (w13 : Value) (w14 : Value) (w15 : Value) (w16 : Value) (w17 : Value) (w18 : Value) (w19 : Value) (w20 : Value) (w21 : Value) (w22 : Value) (w23 : Value) (w24 : Value) (w25 : Value) (w26 : Value) (w27 : Value) (w28 : Value) (w29 : Value) (w30 : Value) (w31 : Value) (w32 : Value) (w33 : Value) (w34 : Value) (w35 : Value) (w36 : Value) (w37 : Value) (w38 : Value) (w39 : Value) (w40 : Value) (w41 : Value) (w42 : Value) (w43 : Value) (w44 : Value) (w45 : Value) (w46 : Value) (w47 : Value) (w48 : Value) (w49 : Value) (w50 : Value) (w51 : Value) (w52 : Value) (w53 : Value) (w55 : Value) (w56 : Value) (w57 : Value) (w58 : Value) (w59 : Value) (sz : Nat) : Met l yX12_stopped wsX12_stopped ({ frames := 0, cells := 0, slots := 0, locals := 0 }) (va_Pc [.ref a0] (Pre D K [(a0, .inr (12, [w0, w1, w2, w3, w4, w5, w6, w7, w8, w9, w10, w11, w12, w13, w14, w15, w16, w17, w18, w19, w20, w21, w22, w23, w24, w25, w26, w27, w28, w29, w30, w31, w32, w33, w34, w35, w36, w37, w38, w39, w40, w41, w42, w43, w44, w45, w46, w47, w48, w49, w50, w51, w52, w53, .int (-1), w55, w56, w57, w58, w59]))] sz)) (va_Qi (S := Unit) (fun (r : Int32) (_ : Unit) => (r = (-1))) (fun u t => Wd D (va_A [(a0, .inr (12, [w0, w1, w2, w3, w4, w5, w6, w7, w8, w9, w10, w11, w12, w13, w14, w15, w16, w17, w18, w19, w20, w21, w22, w23, w24, w25, w26, w27, w28, w29, w30, w31, w32, w33, w34, w35, w36, w37, w38, w39, w40, w41, w42, w43, w44, w45, w46, w47, w48, w49, w50, w51, w52, w53, .int (-1), w55, w56, w57, w58, w59]))] sz) ((fun _ => []) u) t) (va_A [(a0, .inr (12, [w0, w1, w2, w3, w4, w5, w6, w7, w8, w9, w10, w11, w12, w13, w14, w15, w16, w17, w18, w19, w20, w21, w22, w23, w24, w25, w26, w27, w28, w29, w30, w31, w32, w33, w34, w35, w36, w37, w38, w39, w40, w41, w42, w43, w44, w45, w46, w47, w48, w49, w50, w51, w52, w53, .int (-1), w55, w56, w57, w58, w59]))] sz)) 0 0 (va_A [(a0, .inr (12, [w0, w1, w2, w3, w4, w5, w6, w7, w8, w9, w10, w11, w12, w13, w14, w15, w16, w17, w18, w19, w20, w21, w22, w23, w24, w25, w26, w27, w28, w29, w30, w31, w32, w33, w34, w35, w36, w37, w38, w39, w40, w41, w42, w43, w44, w45, w46, w47, w48, w49, w50, w51, w52, w53, .int (-1), w55, w56, w57, w58, w59]))] sz) := by
  refine Met.ofW (cc := cX12_stopped) (maxL := 1) (ret := (some .int)) (by decide) rfl ?_
  intro p e s m args below meth c s₁ B hml hv
  obtain ⟨rfl, hsz, hP, hK, hD0, hN⟩ := hv
  have hx := B.exec
  have hb := B.bytes
  have hr := B.returns
  have hts := atoms_spec (ws := wsX12_stopped) B.pre
  have hown : s.vm.findClass RX12 = some m.cls := findClass_of_methodNamed B.named
  have hlocks := B.notSynchronized
  subst hsz
  have hD := hD0.self (sz := s.heap.size)
  generalize hAe : va_A [(a0, .inr (12, [w0, w1, w2, w3, w4, w5, w6, w7, w8, w9, w10, w11, w12, w13, w14, w15, w16, w17, w18, w19, w20, w21, w22, w23, w24, w25, w26, w27, w28, w29, w30, w31, w32, w33, w34, w35, w36, w37, w38, w39, w40, w41, w42, w43, w44, w45, w46, w47, w48, w49, w50, w51, w52, w53, .int (-1), w55, w56, w57, w58, w59]))] s.heap.size = A at hD ⊢
  have hA : ∀ q : Nat, s.heap.size ≤ q → A q := fun q h => by rw [← hAe]; exact Or.inr h
  have hS : va_S A s.heap s.heap [] := va_S.rf
  have hP : va_P D vwCl [(a0, .inr (12, [w0, w1, w2, w3, w4, w5, w6, w7, w8, w9, w10, w11, w12, w13, w14, w15, w16, w17, w18, w19, w20, w21, w22, w23, w24, w25, w26, w27, w28, w29, w30, w31, w32, w33, w34, w35, w36, w37, w38, w39, w40, w41, w42, w43, w44, w45, w46, w47, w48, w49, w50, w51, w52, w53, .int (-1), w55, w56, w57, w58, w59]))] s.heap := hP
  have hl := lv_entry [.ref a0] (n := 1) (Nat.le_of_ble_eq_true rfl)
  rw [lg_entry_eq]
  generalize (lg_sl [.ref a0] ++ List.replicate (1 - (lg_sl [.ref a0]).length) Slot.unset).toArray = ls at hl ⊢
  have hl : lv_has ls 1 [(0, .ref a0)] := hl
  have hw12 : ∀ w ∈ wsX120, w ∈ wsX12_stopped := fun w h => (List.mem_cons_of_mem _ (List.mem_append_right _ h))
  refine lv_aload_n hx hb dX12_stopped_0 rfl (lv_at hl 0 rfl) ?_
  refine lv_iconst (v := 0) hx hb dX12_stopped_1 (by decide) ?_
  refine va_put (ci := 12) (v := .int 0) (ty := .int) (C := RX12) (T := TX12) (N := 60) hx hb hts hw12 tyX12 tyX12_ok nmX12 hown hK hP hD hS 0 rfl rfl 0 (by decide) (hts (.fieldLink RX12 158 "SmokeTuneModel" "thrown" "I") (List.mem_cons_of_mem _ (List.mem_append_left _ (List.mem_of_getElem? (i := 0) rfl)))) (fun _ h9 => h9) rfl (by decide +kernel) (by first | rfl | decide) (by first | rfl | decide) (Nat.le_of_ble_eq_true rfl) dX12_stopped_2 (fun H locs hP hD hS => ?_)
  have hP : va_P D vwCl [(a0, .inr (12, [.int 0, w1, w2, w3, w4, w5, w6, w7, w8, w9, w10, w11, w12, w13, w14, w15, w16, w17, w18, w19, w20, w21, w22, w23, w24, w25, w26, w27, w28, w29, w30, w31, w32, w33, w34, w35, w36, w37, w38, w39, w40, w41, w42, w43, w44, w45, w46, w47, w48, w49, w50, w51, w52, w53, .int (-1), w55, w56, w57, w58, w59]))] H := hP
  have hD : va_D A [(a0, .inr (12, [.int 0, w1, w2, w3, w4, w5, w6, w7, w8, w9, w10, w11, w12, w13, w14, w15, w16, w17, w18, w19, w20, w21, w22, w23, w24, w25, w26, w27, w28, w29, w30, w31, w32, w33, w34, w35, w36, w37, w38, w39, w40, w41, w42, w43, w44, w45, w46, w47, w48, w49, w50, w51, w52, w53, .int (-1), w55, w56, w57, w58, w59]))] := hD
  refine lv_aload_n hx hb dX12_stopped_5 rfl (lv_at hl 0 rfl) ?_
  refine va_get (ci := 12) (v := .int (-1)) (C := RX12) (T := TX12) (N := 60) hx hb hts hw12 hown hK hP 0 rfl rfl 54 (by decide) (hts (.fieldLink RX12 149 "SmokeTuneModel" "stopped" "I") (List.mem_cons_of_mem _ (List.mem_append_left _ (List.mem_of_getElem? (i := 1) rfl)))) (fun _ h9 => h9) rfl dX12_stopped_6 ?_
  exact W.iret (v := (-1)) hx hb hr (fun t ht hW => ⟨⟨(-1), (), rfl, (by first | exact rfl), Wd.nil⟩, hS.F ht⟩) hS.2.2 dX12_stopped_9
set_option maxHeartbeats 4000000 in
set_option maxRecDepth 100000 in
theorem r_hear (l : Launch) (D : va_G) (K : Nat → ClassId) (a0 : Nat) (x : Int32) (w0 : Value) (w1 : Value) (a2 : Nat) (a1 : Nat) (w4 : Value) (w5 : Value) (w6 : Value) (w7 : Value) (w8 : Value) (w9 : Value) (w10 : Value) (w11 : Value) (w12 : Value) (w13 : Value) (w14 : Value) (w15 : Value) (w16 : Value) (w17 : Value) (w18 : Value) (w19 : Value) (w20 : Value) (w21 : Value) (w22 : Value) (w23 : Value) (w24 : Value) (w25 : Value) (w26 : Value) (w27 : Value) (w28 : Value) (w29 : Value) (w30 : Value) (w31 : Value) (w32 : Value) (w33 : Value) (w34 : Value) (w35 : Value) (w36 : Value) (w37 : Value) (w38 : Value) (w39 : Value) (w40 : Value) (w41 : Value) (w42 : Value) (w43 : Value) (w44 : Value) (w45 : Value) (w46 : Value) (w47 : Value) (w48 : Value) (w49 : Value) (w50 : Value) (w51 : Value) (w52 : Value) (w53 : Value) (w54 : Value) (w55 : Value) (w56 : Value) (w57 : Value) (w58 : Value) (w59 : Value) (sz : Nat) : Met l yX12_hear wsX12_hear ({ frames := 1, cells := 0, slots := 0, locals := 25 }) (va_Pc [.ref a0, .int x] (Pre D K [(a0, .inr (12, [w0, w1, .ref a2, .ref a1, w4, w5, w6, w7, w8, w9, w10, w11, w12, w13, w14, w15, w16, w17, w18, w19, w20, w21, w22, w23, w24, w25, w26, w27, w28, w29, w30, w31, w32, w33, w34, w35, w36, w37, w38, w39, w40, w41, w42, w43, w44, w45, w46, w47, w48, w49, w50, w51, w52, w53, w54, w55, w56, w57, w58, w59])), (a1, .inl (K 0, 5500, .inl row0)), (a2, .inl (K 0, 7, .inl (fun _ => 0)))] sz)) (va_Qi (S := Unit) (fun (r : Int32) (_ : Unit) => (r = 1 ∧ 0 ≤ x.toInt ∧ x.toInt ≤ 127) ∨ (r = (-1) ∧ (x.toInt < 0 ∨ 127 < x.toInt))) (fun u t => Wd D (va_A [(a0, .inr (12, [w0, w1, .ref a2, .ref a1, w4, w5, w6, w7, w8, w9, w10, w11, w12, w13, w14, w15, w16, w17, w18, w19, w20, w21, w22, w23, w24, w25, w26, w27, w28, w29, w30, w31, w32, w33, w34, w35, w36, w37, w38, w39, w40, w41, w42, w43, w44, w45, w46, w47, w48, w49, w50, w51, w52, w53, w54, w55, w56, w57, w58, w59])), (a1, .inl (K 0, 5500, .inl row0)), (a2, .inl (K 0, 7, .inl (fun _ => 0)))] sz) ((fun _ => []) u) t) (va_A [(a0, .inr (12, [w0, w1, .ref a2, .ref a1, w4, w5, w6, w7, w8, w9, w10, w11, w12, w13, w14, w15, w16, w17, w18, w19, w20, w21, w22, w23, w24, w25, w26, w27, w28, w29, w30, w31, w32, w33, w34, w35, w36, w37, w38, w39, w40, w41, w42, w43, w44, w45, w46, w47, w48, w49, w50, w51, w52, w53, w54, w55, w56, w57, w58, w59])), (a1, .inl (K 0, 5500, .inl row0)), (a2, .inl (K 0, 7, .inl (fun _ => 0)))] sz)) 0 0 (va_A [(a0, .inr (12, [w0, w1, .ref a2, .ref a1, w4, w5, w6, w7, w8, w9, w10, w11, w12, w13, w14, w15, w16, w17, w18, w19, w20, w21, w22, w23, w24, w25, w26, w27, w28, w29, w30, w31, w32, w33, w34, w35, w36, w37, w38, w39, w40, w41, w42, w43, w44, w45, w46, w47, w48, w49, w50, w51, w52, w53, w54, w55, w56, w57, w58, w59])), (a1, .inl (K 0, 5500, .inl row0)), (a2, .inl (K 0, 7, .inl (fun _ => 0)))] sz) := by
  refine Met.ofW (cc := cX12_hear) (maxL := 3) (ret := (some .int)) (by decide) rfl ?_
  intro p e s m args below meth c s₁ B hml hv
  obtain ⟨rfl, hsz, hP, hK, hD0, hN⟩ := hv
  have hx := B.exec
  have hb := B.bytes
  have hr := B.returns
  have hts := atoms_spec (ws := wsX12_hear) B.pre
  have hown : s.vm.findClass RX12 = some m.cls := findClass_of_methodNamed B.named
  have hlocks := B.notSynchronized
  subst hsz
  have hD := hD0.self (sz := s.heap.size)
  generalize hAe : va_A [(a0, .inr (12, [w0, w1, .ref a2, .ref a1, w4, w5, w6, w7, w8, w9, w10, w11, w12, w13, w14, w15, w16, w17, w18, w19, w20, w21, w22, w23, w24, w25, w26, w27, w28, w29, w30, w31, w32, w33, w34, w35, w36, w37, w38, w39, w40, w41, w42, w43, w44, w45, w46, w47, w48, w49, w50, w51, w52, w53, w54, w55, w56, w57, w58, w59])), (a1, .inl (K 0, 5500, .inl row0)), (a2, .inl (K 0, 7, .inl (fun _ => 0)))] s.heap.size = A at hD ⊢
  have hA : ∀ q : Nat, s.heap.size ≤ q → A q := fun q h => by rw [← hAe]; exact Or.inr h
  have hS : va_S A s.heap s.heap [] := va_S.rf
  have hP : va_P D vwCl [(a0, .inr (12, [w0, w1, .ref a2, .ref a1, w4, w5, w6, w7, w8, w9, w10, w11, w12, w13, w14, w15, w16, w17, w18, w19, w20, w21, w22, w23, w24, w25, w26, w27, w28, w29, w30, w31, w32, w33, w34, w35, w36, w37, w38, w39, w40, w41, w42, w43, w44, w45, w46, w47, w48, w49, w50, w51, w52, w53, w54, w55, w56, w57, w58, w59])), (a1, .inl (K 0, 5500, .inl row0)), (a2, .inl (K 0, 7, .inl (fun _ => 0)))] s.heap := hP
  have hl := lv_entry [.ref a0, .int x] (n := 3) (Nat.le_of_ble_eq_true rfl)
  rw [lg_entry_eq]
  generalize (lg_sl [.ref a0, .int x] ++ List.replicate (3 - (lg_sl [.ref a0, .int x]).length) Slot.unset).toArray = ls at hl ⊢
  have hl : lv_has ls 3 [(0, .ref a0), (1, .int x)] := hl
  have hw12 : ∀ w ∈ wsX120, w ∈ wsX12_hear := fun w h => (List.mem_cons_of_mem _ (List.mem_append_right _ h))
  refine lv_aload_n hx hb dX12_hear_0 rfl (lv_at hl 0 rfl) ?_
  refine lv_iconst (v := 0) hx hb dX12_hear_1 (by decide) ?_
  refine va_put (ci := 12) (v := .int 0) (ty := .int) (C := RX12) (T := TX12) (N := 60) hx hb hts hw12 tyX12 tyX12_ok nmX12 hown hK hP hD hS 0 rfl rfl 0 (by decide) (hts (.fieldLink RX12 158 "SmokeTuneModel" "thrown" "I") (List.mem_cons_of_mem _ (List.mem_append_left _ (List.mem_of_getElem? (i := 0) rfl)))) (fun _ h9 => h9) rfl (by decide +kernel) (by first | rfl | decide) (by first | rfl | decide) (Nat.le_of_ble_eq_true rfl) dX12_hear_2 (fun H locs hP hD hS => ?_)
  have hP : va_P D vwCl [(a0, .inr (12, [.int 0, w1, .ref a2, .ref a1, w4, w5, w6, w7, w8, w9, w10, w11, w12, w13, w14, w15, w16, w17, w18, w19, w20, w21, w22, w23, w24, w25, w26, w27, w28, w29, w30, w31, w32, w33, w34, w35, w36, w37, w38, w39, w40, w41, w42, w43, w44, w45, w46, w47, w48, w49, w50, w51, w52, w53, w54, w55, w56, w57, w58, w59])), (a1, .inl (K 0, 5500, .inl row0)), (a2, .inl (K 0, 7, .inl (fun _ => 0)))] H := hP
  have hD : va_D A [(a0, .inr (12, [.int 0, w1, .ref a2, .ref a1, w4, w5, w6, w7, w8, w9, w10, w11, w12, w13, w14, w15, w16, w17, w18, w19, w20, w21, w22, w23, w24, w25, w26, w27, w28, w29, w30, w31, w32, w33, w34, w35, w36, w37, w38, w39, w40, w41, w42, w43, w44, w45, w46, w47, w48, w49, w50, w51, w52, w53, w54, w55, w56, w57, w58, w59])), (a1, .inl (K 0, 5500, .inl row0)), (a2, .inl (K 0, 7, .inl (fun _ => 0)))] := hD
  refine lv_iload_n hx hb dX12_hear_5 rfl (lv_at hl 1 rfl) ?_
  refine lv_i2l hx hb dX12_hear_6 rfl ?_
  refine lv_topl (fun x_1 ex_1 => ?_)
  have hx_1 : x_1.toInt = x.toInt := by rw [ex_1]; exact i_wide rfl
  refine lv_lconst (v := 0) hx hb dX12_hear_7 (by decide) ?_
  refine lv_ldc2 (v := 127) hx hb hown (hts (.constantLong RX12 212 (127)) (List.mem_cons_of_mem _ (List.mem_append_left _ (List.mem_of_getElem? (i := 1) rfl)))) dX12_hear_8 ?_
  refine pci (va_runS (As := [.long x_1, .long 0, .long 127]) (rest := []) ⟨hx, hb, hml, hown, hts⟩ (c_in l D K x_1 0 127 x.toInt 0 127 H.size hx_1 rfl rfl) (va_cwS 3 hts gX12_hear_X12_in rfl rfl rfl (by decide +kernel) ⟨Nat.le_of_ble_eq_true rfl, Nat.le_of_ble_eq_true rfl⟩) (mkS hK hN (hP.sub [] rfl) (hD.sub [] (by decide) rfl)) rfl rfl hl.1 rfl (lv_room (Nat.le_of_ble_eq_true rfl)) dX12_hear_11 ⟨Nat.le_of_ble_eq_true rfl, Nat.le_of_ble_eq_true rfl⟩) (fun r_2 hw => ?_)
  rcases hw with ⟨rfl, h_3, h_4⟩ | ⟨rfl, h_5⟩
  · refine lv_if_ne (tgt := 23) hx hb dX12_hear_14 (by decide) (fun c_6 => ?_) (fun c_6 => absurd c_6 (by decide))
    refine lv_aload_n hx hb dX12_hear_23 rfl (lv_at hl 0 rfl) ?_
    refine va_get (ci := 12) (v := .ref a1) (C := RX12) (T := TX12) (N := 60) hx hb hts hw12 hown hK hP 0 rfl rfl 3 (by decide) (hts (.fieldLink RX12 13 "SmokeTuneModel" "row" "[I") (List.mem_cons_of_mem _ (List.mem_append_left _ (List.mem_of_getElem? (i := 2) rfl)))) (fun _ h9 => h9) rfl dX12_hear_24 ?_
    refine lv_iconst (v := 1) hx hb dX12_hear_27 (by decide) ?_
    refine va_iald hx hb hK hP 1 0 rfl rfl (i_in (x := 1) rfl (by omega)) dX12_hear_28 ?_
    refine lv_topi (fun x_7 ex_7 => ?_)
    obtain rfl : x_7 = 0 := ex_7.trans (by first | rfl | decide | exact rfl)
    refine lv_istore_n (lv' := [(2, .int 0), (0, .ref a0), (1, .int x)]) hx hb dX12_hear_29 rfl hl (by decide) rfl (fun ls hl => ?_)
    refine lv_iload_n hx hb dX12_hear_30 rfl (lv_at hl 0 rfl) ?_
    refine lv_bipush (v := 6) hx hb dX12_hear_31 (by decide) ?_
    refine lv_icmp_ne (tgt := 43) hx hb dX12_hear_33 (by decide) (fun c_8 => ?_) (fun c_8 => absurd c_8 (by decide))
    refine lv_aload_n hx hb dX12_hear_43 rfl (lv_at hl 1 rfl) ?_
    refine va_get (ci := 12) (v := .ref a1) (C := RX12) (T := TX12) (N := 60) hx hb hts hw12 hown hK hP 0 rfl rfl 3 (by decide) (hts (.fieldLink RX12 13 "SmokeTuneModel" "row" "[I") (List.mem_cons_of_mem _ (List.mem_append_left _ (List.mem_of_getElem? (i := 2) rfl)))) (fun _ h9 => h9) rfl dX12_hear_44 ?_
    refine lv_bipush (v := 91) hx hb dX12_hear_47 (by decide) ?_
    refine lv_iload_n hx hb dX12_hear_49 rfl (lv_at hl 0 rfl) ?_
    refine lv_iadd hx hb dX12_hear_50 ?_
    refine lv_topi (fun x_9 ex_9 => ?_)
    obtain rfl : x_9 = 91 := ex_9.trans (by first | rfl | decide)
    refine lv_iload_n hx hb dX12_hear_51 rfl (lv_at hl 2 rfl) ?_
    refine va_iast hx hb hK hP hD hS 1 0 rfl rfl (i_in (x := 91) rfl (by omega)) dX12_hear_52 (fun H locs hP hD hS => ?_)
    have hP : va_P D vwCl [(a0, .inr (12, [.int 0, w1, .ref a2, .ref a1, w4, w5, w6, w7, w8, w9, w10, w11, w12, w13, w14, w15, w16, w17, w18, w19, w20, w21, w22, w23, w24, w25, w26, w27, w28, w29, w30, w31, w32, w33, w34, w35, w36, w37, w38, w39, w40, w41, w42, w43, w44, w45, w46, w47, w48, w49, w50, w51, w52, w53, w54, w55, w56, w57, w58, w59])), (a1, .inl (K 0, 5500, .inl (upd (row0) 91 x))), (a2, .inl (K 0, 7, .inl (fun _ => 0)))] H := hP
    have hD : va_D A [(a0, .inr (12, [.int 0, w1, .ref a2, .ref a1, w4, w5, w6, w7, w8, w9, w10, w11, w12, w13, w14, w15, w16, w17, w18, w19, w20, w21, w22, w23, w24, w25, w26, w27, w28, w29, w30, w31, w32, w33, w34, w35, w36, w37, w38, w39, w40, w41, w42, w43, w44, w45, w46, w47, w48, w49, w50, w51, w52, w53, w54, w55, w56, w57, w58, w59])), (a1, .inl (K 0, 5500, .inl (upd (row0) 91 x))), (a2, .inl (K 0, 7, .inl (fun _ => 0)))] := hD
    refine lv_aload_n hx hb dX12_hear_53 rfl (lv_at hl 1 rfl) ?_
    refine va_get (ci := 12) (v := .ref a1) (C := RX12) (T := TX12) (N := 60) hx hb hts hw12 hown hK hP 0 rfl rfl 3 (by decide) (hts (.fieldLink RX12 13 "SmokeTuneModel" "row" "[I") (List.mem_cons_of_mem _ (List.mem_append_left _ (List.mem_of_getElem? (i := 2) rfl)))) (fun _ h9 => h9) rfl dX12_hear_54 ?_
    refine lv_iconst (v := 1) hx hb dX12_hear_57 (by decide) ?_
    refine lv_dup2_11 hx hb dX12_hear_58 rfl rfl ?_
    refine va_iald hx hb hK hP 1 0 rfl rfl (i_in (x := 1) rfl (by omega)) dX12_hear_59 ?_
    refine lv_topi (fun x_10 ex_10 => ?_)
    obtain rfl : x_10 = 0 := ex_10.trans rfl
    refine lv_iconst (v := 1) hx hb dX12_hear_60 (by decide) ?_
    refine lv_iadd hx hb dX12_hear_61 ?_
    refine lv_topi (fun x_11 ex_11 => ?_)
    obtain rfl : x_11 = 1 := ex_11.trans (by first | rfl | decide)
    refine va_iast hx hb hK hP hD hS 1 0 rfl rfl (i_in (x := 1) rfl (by omega)) dX12_hear_62 (fun H locs hP hD hS => ?_)
    have hP : va_P D vwCl [(a0, .inr (12, [.int 0, w1, .ref a2, .ref a1, w4, w5, w6, w7, w8, w9, w10, w11, w12, w13, w14, w15, w16, w17, w18, w19, w20, w21, w22, w23, w24, w25, w26, w27, w28, w29, w30, w31, w32, w33, w34, w35, w36, w37, w38, w39, w40, w41, w42, w43, w44, w45, w46, w47, w48, w49, w50, w51, w52, w53, w54, w55, w56, w57, w58, w59])), (a1, .inl (K 0, 5500, .inl (upd (upd (row0) 91 x) 1 1))), (a2, .inl (K 0, 7, .inl (fun _ => 0)))] H := hP
    have hD : va_D A [(a0, .inr (12, [.int 0, w1, .ref a2, .ref a1, w4, w5, w6, w7, w8, w9, w10, w11, w12, w13, w14, w15, w16, w17, w18, w19, w20, w21, w22, w23, w24, w25, w26, w27, w28, w29, w30, w31, w32, w33, w34, w35, w36, w37, w38, w39, w40, w41, w42, w43, w44, w45, w46, w47, w48, w49, w50, w51, w52, w53, w54, w55, w56, w57, w58, w59])), (a1, .inl (K 0, 5500, .inl (upd (upd (row0) 91 x) 1 1))), (a2, .inl (K 0, 7, .inl (fun _ => 0)))] := hD
    refine lv_aload_n hx hb dX12_hear_63 rfl (lv_at hl 1 rfl) ?_
    refine lv_iload_n hx hb dX12_hear_64 rfl (lv_at hl 0 rfl) ?_
    refine lv_iconst (v := 1) hx hb dX12_hear_65 (by decide) ?_
    refine lv_iadd hx hb dX12_hear_66 ?_
    refine lv_topi (fun x_12 ex_12 => ?_)
    obtain rfl : x_12 = 1 := ex_12.trans (by first | rfl | decide)
    refine kci (wr := [(a1, .inl (K 0, 5500, .inl (upd (upd (row0) 91 x) 1 1))), (a2, .inl (K 0, 7, .inl (fun _ => 0)))]) (va_runV (As := [.int 1]) (rest := []) ⟨hx, hb, hml, hown, hts⟩ (m_tell_pos l D K a0 1 (.int 0) w1 (.ref a2) (.ref a1) w4 w5 w6 w7 w8 w9 w10 w11 w12 w13 w14 w15 w16 w17 w18 w19 w20 w21 w22 w23 w24 w25 w26 w27 w28 w29 w30 w31 w32 w33 w34 w35 w36 w37 w38 w39 w40 w41 w42 w43 w44 w45 w46 w47 w48 w49 w50 w51 w52 w53 w54 w55 w56 w57 w58 w59 1 H.size rfl (by omega)) (cwV 1 hts gX12_hear_X12_tell rfl rfl rfl (by decide +kernel) ⟨Nat.le_of_ble_eq_true rfl, Nat.le_of_ble_eq_true rfl⟩) (mkV hK hN (hP.sub [0] rfl) (hD.sub [0] (by decide) rfl) (ci := 12) (q0 := 0) rfl rfl) rfl rfl hl.1 rfl (lv_room (Nat.le_of_ble_eq_true rfl)) dX12_hear_67 ⟨Nat.le_of_ble_eq_true rfl, Nat.le_of_ble_eq_true rfl⟩) hP hD hS hA [0] [1, 2] rfl rfl (by decide) (by decide) (fun r_13 u_14 H locs hw hP hD hS => ?_)
    have hP : va_P D vwCl [(a1, .inl (K 0, 5500, .inl (upd (upd (row0) 91 x) 1 1))), (a2, .inl (K 0, 7, .inl (fun _ => 0)))] H := hP
    have hD : va_D A [(a1, .inl (K 0, 5500, .inl (upd (upd (row0) 91 x) 1 1))), (a2, .inl (K 0, 7, .inl (fun _ => 0)))] := hD
    obtain rfl : r_13 = 1 := hw
    exact W.iret (v := 1) hx hb hr (fun t ht hW => ⟨⟨1, (), rfl, (by first | exact Or.inl (⟨rfl, by first | omega | decide | (subst_vars; assumption) | (subst_vars; symm; assumption), by first | omega | decide | (subst_vars; assumption) | (subst_vars; symm; assumption)⟩)), Wd.nil⟩, hS.F ht⟩) hS.2.2 dX12_hear_70
  · refine lv_if_ne (tgt := 23) hx hb dX12_hear_14 (by decide) (fun c_15 => absurd (by decide) c_15) (fun c_15 => ?_)
    refine lv_aload_n hx hb dX12_hear_17 rfl (lv_at hl 0 rfl) ?_
    refine lv_iconst (v := (-1)) hx hb dX12_hear_18 (by decide) ?_
    refine kci (wr := [(a1, .inl (K 0, 5500, .inl row0))]) (va_runV (As := [.int (-1)]) (rest := []) ⟨hx, hb, hml, hown, hts⟩ (m_tell_1 l D K a0 (.int 0) w1 a2 (.ref a1) w4 w5 w6 w7 w8 w9 w10 w11 w12 w13 w14 w15 w16 w17 w18 w19 w20 w21 w22 w23 w24 w25 w26 w27 w28 w29 w30 w31 w32 w33 w34 w35 w36 w37 w38 w39 w40 w41 w42 w43 w44 w45 w46 w47 w48 w49 w50 w51 w52 w53 w54 w55 w56 w57 w58 w59 (fun _ => 0) H.size) (cwV 1 hts gX12_hear_X12_tell rfl rfl rfl (by decide +kernel) ⟨Nat.le_of_ble_eq_true rfl, Nat.le_of_ble_eq_true rfl⟩) (mkV hK hN (hP.sub [0, 2] rfl) (hD.sub [0, 2] (by decide) rfl) (ci := 12) (q0 := 0) rfl rfl) rfl rfl hl.1 rfl (lv_room (Nat.le_of_ble_eq_true rfl)) dX12_hear_19 ⟨Nat.le_of_ble_eq_true rfl, Nat.le_of_ble_eq_true rfl⟩) hP hD hS hA [0, 2] [1] rfl rfl (by decide) (by decide) (fun r_16 u_17 H locs hw hP hD hS => ?_)
    have hP : va_P D vwCl [(a1, .inl (K 0, 5500, .inl row0))] H := hP
    have hD : va_D A [(a1, .inl (K 0, 5500, .inl row0))] := hD
    obtain rfl : r_16 = (-1) := hw
    exact W.iret (v := (-1)) hx hb hr (fun t ht hW => ⟨⟨(-1), (), rfl, (by first | exact Or.inr (⟨rfl, by first | omega | decide | (subst_vars; assumption) | (subst_vars; symm; assumption)⟩)), Wd.nil⟩, hS.F ht⟩) hS.2.2 dX12_hear_22
set_option maxHeartbeats 4000000 in
set_option maxRecDepth 100000 in
theorem r_forget (l : Launch) (D : va_G) (K : Nat → ClassId) (a0 : Nat) (w0 : Value) (w1 : Value) (a2 : Nat) (a1 : Nat) (w4 : Value) (w5 : Value) (w6 : Value) (w7 : Value) (w8 : Value) (w9 : Value) (w10 : Value) (w11 : Value) (w12 : Value) (w13 : Value) (w14 : Value) (w15 : Value) (w16 : Value) (w17 : Value) (w18 : Value) (w19 : Value) (w20 : Value) (w21 : Value) (w22 : Value) (w23 : Value) (w24 : Value) (w25 : Value) (w26 : Value) (w27 : Value) (w28 : Value) (w29 : Value) (w30 : Value) (w31 : Value) (w32 : Value) (w33 : Value) (w34 : Value) (w35 : Value) (w36 : Value) (w37 : Value) (w38 : Value) (w39 : Value) (w40 : Value) (w41 : Value) (w42 : Value) (w43 : Value) (w44 : Value) (w45 : Value) (w46 : Value) (w47 : Value) (w48 : Value) (w49 : Value) (w50 : Value) (w51 : Value) (w52 : Value) (w53 : Value) (w54 : Value) (w55 : Value) (w56 : Value) (w57 : Value) (w58 : Value) (w59 : Value) (sz : Nat) : Met l yX12_forget wsX12_forget ({ frames := 0, cells := 0, slots := 0, locals := 0 }) (va_Pc [.ref a0] (Pre D K [(a0, .inr (12, [w0, w1, .ref a2, .ref a1, w4, w5, w6, w7, w8, w9, w10, w11, w12, w13, w14, w15, w16, w17, w18, w19, w20, w21, w22, w23, w24, w25, w26, w27, w28, w29, w30, w31, w32, w33, w34, w35, w36, w37, w38, w39, w40, w41, w42, w43, w44, w45, w46, w47, w48, w49, w50, w51, w52, w53, w54, w55, w56, w57, w58, w59])), (a1, .inl (K 0, 5500, .inl row0)), (a2, .inl (K 0, 7, .inl (fun _ => 0)))] sz)) (va_Qi (S := Unit) (fun (r : Int32) (_ : Unit) => (r = 0)) (fun u t => Wd D (va_A [(a0, .inr (12, [w0, w1, .ref a2, .ref a1, w4, w5, w6, w7, w8, w9, w10, w11, w12, w13, w14, w15, w16, w17, w18, w19, w20, w21, w22, w23, w24, w25, w26, w27, w28, w29, w30, w31, w32, w33, w34, w35, w36, w37, w38, w39, w40, w41, w42, w43, w44, w45, w46, w47, w48, w49, w50, w51, w52, w53, w54, w55, w56, w57, w58, w59])), (a1, .inl (K 0, 5500, .inl row0)), (a2, .inl (K 0, 7, .inl (fun _ => 0)))] sz) ((fun _ => []) u) t) (va_A [(a0, .inr (12, [w0, w1, .ref a2, .ref a1, w4, w5, w6, w7, w8, w9, w10, w11, w12, w13, w14, w15, w16, w17, w18, w19, w20, w21, w22, w23, w24, w25, w26, w27, w28, w29, w30, w31, w32, w33, w34, w35, w36, w37, w38, w39, w40, w41, w42, w43, w44, w45, w46, w47, w48, w49, w50, w51, w52, w53, w54, w55, w56, w57, w58, w59])), (a1, .inl (K 0, 5500, .inl row0)), (a2, .inl (K 0, 7, .inl (fun _ => 0)))] sz)) 0 0 (va_A [(a0, .inr (12, [w0, w1, .ref a2, .ref a1, w4, w5, w6, w7, w8, w9, w10, w11, w12, w13, w14, w15, w16, w17, w18, w19, w20, w21, w22, w23, w24, w25, w26, w27, w28, w29, w30, w31, w32, w33, w34, w35, w36, w37, w38, w39, w40, w41, w42, w43, w44, w45, w46, w47, w48, w49, w50, w51, w52, w53, w54, w55, w56, w57, w58, w59])), (a1, .inl (K 0, 5500, .inl row0)), (a2, .inl (K 0, 7, .inl (fun _ => 0)))] sz) := by
  refine Met.ofW (cc := cX12_forget) (maxL := 2) (ret := (some .int)) (by decide) rfl ?_
  intro p e s m args below meth c s₁ B hml hv
  obtain ⟨rfl, hsz, hP, hK, hD0, hN⟩ := hv
  have hx := B.exec
  have hb := B.bytes
  have hr := B.returns
  have hts := atoms_spec (ws := wsX12_forget) B.pre
  have hown : s.vm.findClass RX12 = some m.cls := findClass_of_methodNamed B.named
  have hlocks := B.notSynchronized
  subst hsz
  have hD := hD0.self (sz := s.heap.size)
  generalize hAe : va_A [(a0, .inr (12, [w0, w1, .ref a2, .ref a1, w4, w5, w6, w7, w8, w9, w10, w11, w12, w13, w14, w15, w16, w17, w18, w19, w20, w21, w22, w23, w24, w25, w26, w27, w28, w29, w30, w31, w32, w33, w34, w35, w36, w37, w38, w39, w40, w41, w42, w43, w44, w45, w46, w47, w48, w49, w50, w51, w52, w53, w54, w55, w56, w57, w58, w59])), (a1, .inl (K 0, 5500, .inl row0)), (a2, .inl (K 0, 7, .inl (fun _ => 0)))] s.heap.size = A at hD ⊢
  have hA : ∀ q : Nat, s.heap.size ≤ q → A q := fun q h => by rw [← hAe]; exact Or.inr h
  have hS : va_S A s.heap s.heap [] := va_S.rf
  have hP : va_P D vwCl [(a0, .inr (12, [w0, w1, .ref a2, .ref a1, w4, w5, w6, w7, w8, w9, w10, w11, w12, w13, w14, w15, w16, w17, w18, w19, w20, w21, w22, w23, w24, w25, w26, w27, w28, w29, w30, w31, w32, w33, w34, w35, w36, w37, w38, w39, w40, w41, w42, w43, w44, w45, w46, w47, w48, w49, w50, w51, w52, w53, w54, w55, w56, w57, w58, w59])), (a1, .inl (K 0, 5500, .inl row0)), (a2, .inl (K 0, 7, .inl (fun _ => 0)))] s.heap := hP
  have hl := lv_entry [.ref a0] (n := 2) (Nat.le_of_ble_eq_true rfl)
  rw [lg_entry_eq]
  generalize (lg_sl [.ref a0] ++ List.replicate (2 - (lg_sl [.ref a0]).length) Slot.unset).toArray = ls at hl ⊢
  have hl : lv_has ls 2 [(0, .ref a0)] := hl
  have hw12 : ∀ w ∈ wsX120, w ∈ wsX12_forget := fun w h => (List.mem_cons_of_mem _ (List.mem_append_right _ h))
  refine lv_aload_n hx hb dX12_forget_0 rfl (lv_at hl 0 rfl) ?_
  refine lv_iconst (v := 0) hx hb dX12_forget_1 (by decide) ?_
  refine va_put (ci := 12) (v := .int 0) (ty := .int) (C := RX12) (T := TX12) (N := 60) hx hb hts hw12 tyX12 tyX12_ok nmX12 hown hK hP hD hS 0 rfl rfl 0 (by decide) (hts (.fieldLink RX12 158 "SmokeTuneModel" "thrown" "I") (List.mem_cons_of_mem _ (List.mem_append_left _ (List.mem_of_getElem? (i := 0) rfl)))) (fun _ h9 => h9) rfl (by decide +kernel) (by first | rfl | decide) (by first | rfl | decide) (Nat.le_of_ble_eq_true rfl) dX12_forget_2 (fun H locs hP hD hS => ?_)
  have hP : va_P D vwCl [(a0, .inr (12, [.int 0, w1, .ref a2, .ref a1, w4, w5, w6, w7, w8, w9, w10, w11, w12, w13, w14, w15, w16, w17, w18, w19, w20, w21, w22, w23, w24, w25, w26, w27, w28, w29, w30, w31, w32, w33, w34, w35, w36, w37, w38, w39, w40, w41, w42, w43, w44, w45, w46, w47, w48, w49, w50, w51, w52, w53, w54, w55, w56, w57, w58, w59])), (a1, .inl (K 0, 5500, .inl row0)), (a2, .inl (K 0, 7, .inl (fun _ => 0)))] H := hP
  have hD : va_D A [(a0, .inr (12, [.int 0, w1, .ref a2, .ref a1, w4, w5, w6, w7, w8, w9, w10, w11, w12, w13, w14, w15, w16, w17, w18, w19, w20, w21, w22, w23, w24, w25, w26, w27, w28, w29, w30, w31, w32, w33, w34, w35, w36, w37, w38, w39, w40, w41, w42, w43, w44, w45, w46, w47, w48, w49, w50, w51, w52, w53, w54, w55, w56, w57, w58, w59])), (a1, .inl (K 0, 5500, .inl row0)), (a2, .inl (K 0, 7, .inl (fun _ => 0)))] := hD
  refine lv_aload_n hx hb dX12_forget_5 rfl (lv_at hl 0 rfl) ?_
  refine va_get (ci := 12) (v := .ref a1) (C := RX12) (T := TX12) (N := 60) hx hb hts hw12 hown hK hP 0 rfl rfl 3 (by decide) (hts (.fieldLink RX12 13 "SmokeTuneModel" "row" "[I") (List.mem_cons_of_mem _ (List.mem_append_left _ (List.mem_of_getElem? (i := 1) rfl)))) (fun _ h9 => h9) rfl dX12_forget_6 ?_
  refine lv_iconst (v := 1) hx hb dX12_forget_9 (by decide) ?_
  refine va_iald hx hb hK hP 1 0 rfl rfl (i_in (x := 1) rfl (by omega)) dX12_forget_10 ?_
  refine lv_topi (fun x_1 ex_1 => ?_)
  obtain rfl : x_1 = 0 := ex_1.trans (by first | rfl | decide | exact rfl)
  refine lv_istore_n (lv' := [(1, .int 0), (0, .ref a0)]) hx hb dX12_forget_11 rfl hl (by decide) rfl (fun ls hl => ?_)
  refine lv_aload_n hx hb dX12_forget_12 rfl (lv_at hl 1 rfl) ?_
  refine va_get (ci := 12) (v := .ref a1) (C := RX12) (T := TX12) (N := 60) hx hb hts hw12 hown hK hP 0 rfl rfl 3 (by decide) (hts (.fieldLink RX12 13 "SmokeTuneModel" "row" "[I") (List.mem_cons_of_mem _ (List.mem_append_left _ (List.mem_of_getElem? (i := 1) rfl)))) (fun _ h9 => h9) rfl dX12_forget_13 ?_
  refine lv_iconst (v := 1) hx hb dX12_forget_16 (by decide) ?_
  refine lv_iconst (v := 0) hx hb dX12_forget_17 (by decide) ?_
  refine va_iast hx hb hK hP hD hS 1 0 rfl rfl (i_in (x := 1) rfl (by omega)) dX12_forget_18 (fun H locs hP hD hS => ?_)
  generalize hf_2 : (upd row0 (1 : Int32).toNatClampNeg 0) = f_2 at hP hD
  have hP : va_P D vwCl [(a0, .inr (12, [.int 0, w1, .ref a2, .ref a1, w4, w5, w6, w7, w8, w9, w10, w11, w12, w13, w14, w15, w16, w17, w18, w19, w20, w21, w22, w23, w24, w25, w26, w27, w28, w29, w30, w31, w32, w33, w34, w35, w36, w37, w38, w39, w40, w41, w42, w43, w44, w45, w46, w47, w48, w49, w50, w51, w52, w53, w54, w55, w56, w57, w58, w59])), (a1, .inl (K 0, 5500, .inl f_2)), (a2, .inl (K 0, 7, .inl (fun _ => 0)))] H := hP
  have hD : va_D A [(a0, .inr (12, [.int 0, w1, .ref a2, .ref a1, w4, w5, w6, w7, w8, w9, w10, w11, w12, w13, w14, w15, w16, w17, w18, w19, w20, w21, w22, w23, w24, w25, w26, w27, w28, w29, w30, w31, w32, w33, w34, w35, w36, w37, w38, w39, w40, w41, w42, w43, w44, w45, w46, w47, w48, w49, w50, w51, w52, w53, w54, w55, w56, w57, w58, w59])), (a1, .inl (K 0, 5500, .inl f_2)), (a2, .inl (K 0, 7, .inl (fun _ => 0)))] := hD
  refine lv_iload_n hx hb dX12_forget_19 rfl (lv_at hl 0 rfl) ?_
  exact W.iret (v := 0) hx hb hr (fun t ht hW => ⟨⟨0, (), rfl, (by first | exact rfl), Wd.nil⟩, hS.F ht⟩) hS.2.2 dX12_forget_20
set_option maxHeartbeats 4000000 in
set_option maxRecDepth 100000 in
theorem r_of (l : Launch) (D : va_G) (K : Nat → ClassId) (a0 : Nat) (x : Int32) (y : Int32) (w0 : Value) (w1 : Value) (w2 : Value) (a1 : Nat) (w4 : Value) (w5 : Value) (w6 : Value) (w7 : Value) (w8 : Value) (w9 : Value) (w10 : Value) (w11 : Value) (w12 : Value) (w13 : Value) (w14 : Value) (w15 : Value) (w16 : Value) (w17 : Value) (w18 : Value) (w19 : Value) (w20 : Value) (w21 : Value) (w22 : Value) (w23 : Value) (w24 : Value) (w25 : Value) (w26 : Value) (w27 : Value) (w28 : Value) (w29 : Value) (w30 : Value) (w31 : Value) (w32 : Value) (w33 : Value) (w34 : Value) (w35 : Value) (w36 : Value) (w37 : Value) (w38 : Value) (w39 : Value) (w40 : Value) (w41 : Value) (w42 : Value) (w43 : Value) (w44 : Value) (w45 : Value) (w46 : Value) (w47 : Value) (w48 : Value) (w49 : Value) (w50 : Value) (w51 : Value) (w52 : Value) (w53 : Value) (w54 : Value) (w55 : Value) (w56 : Value) (w57 : Value) (w58 : Value) (w59 : Value) (sz : Nat) : Met l yX12_of wsX12_of ({ frames := 2, cells := 0, slots := 0, locals := 46 }) (va_Pc [.ref a0, .int x, .int y] (Pre D K [(a0, .inr (12, [w0, w1, w2, .ref a1, w4, w5, w6, w7, w8, w9, w10, w11, w12, w13, w14, w15, w16, w17, w18, w19, w20, w21, w22, w23, w24, w25, w26, w27, w28, w29, w30, w31, w32, w33, w34, w35, w36, w37, w38, w39, w40, w41, w42, w43, w44, w45, w46, w47, w48, w49, w50, w51, w52, w53, w54, w55, w56, w57, w58, w59])), (a1, .inl (K 0, 5500, .inl row0))] sz)) (va_Qi (S := Unit) (fun (r : Int32) (_ : Unit) => (r = (-1))) (fun u t => Wd D (va_A [(a0, .inr (12, [w0, w1, w2, .ref a1, w4, w5, w6, w7, w8, w9, w10, w11, w12, w13, w14, w15, w16, w17, w18, w19, w20, w21, w22, w23, w24, w25, w26, w27, w28, w29, w30, w31, w32, w33, w34, w35, w36, w37, w38, w39, w40, w41, w42, w43, w44, w45, w46, w47, w48, w49, w50, w51, w52, w53, w54, w55, w56, w57, w58, w59])), (a1, .inl (K 0, 5500, .inl row0))] sz) ((fun _ => []) u) t) (va_A [(a0, .inr (12, [w0, w1, w2, .ref a1, w4, w5, w6, w7, w8, w9, w10, w11, w12, w13, w14, w15, w16, w17, w18, w19, w20, w21, w22, w23, w24, w25, w26, w27, w28, w29, w30, w31, w32, w33, w34, w35, w36, w37, w38, w39, w40, w41, w42, w43, w44, w45, w46, w47, w48, w49, w50, w51, w52, w53, w54, w55, w56, w57, w58, w59])), (a1, .inl (K 0, 5500, .inl row0))] sz)) 0 0 (va_A [(a0, .inr (12, [w0, w1, w2, .ref a1, w4, w5, w6, w7, w8, w9, w10, w11, w12, w13, w14, w15, w16, w17, w18, w19, w20, w21, w22, w23, w24, w25, w26, w27, w28, w29, w30, w31, w32, w33, w34, w35, w36, w37, w38, w39, w40, w41, w42, w43, w44, w45, w46, w47, w48, w49, w50, w51, w52, w53, w54, w55, w56, w57, w58, w59])), (a1, .inl (K 0, 5500, .inl row0))] sz) := by
  refine Met.ofW (cc := cX12_of) (maxL := 3) (ret := (some .int)) (by decide) rfl ?_
  intro p e s m args below meth c s₁ B hml hv
  obtain ⟨rfl, hsz, hP, hK, hD0, hN⟩ := hv
  have hx := B.exec
  have hb := B.bytes
  have hr := B.returns
  have hts := atoms_spec (ws := wsX12_of) B.pre
  have hown : s.vm.findClass RX12 = some m.cls := findClass_of_methodNamed B.named
  have hlocks := B.notSynchronized
  subst hsz
  have hD := hD0.self (sz := s.heap.size)
  generalize hAe : va_A [(a0, .inr (12, [w0, w1, w2, .ref a1, w4, w5, w6, w7, w8, w9, w10, w11, w12, w13, w14, w15, w16, w17, w18, w19, w20, w21, w22, w23, w24, w25, w26, w27, w28, w29, w30, w31, w32, w33, w34, w35, w36, w37, w38, w39, w40, w41, w42, w43, w44, w45, w46, w47, w48, w49, w50, w51, w52, w53, w54, w55, w56, w57, w58, w59])), (a1, .inl (K 0, 5500, .inl row0))] s.heap.size = A at hD ⊢
  have hA : ∀ q : Nat, s.heap.size ≤ q → A q := fun q h => by rw [← hAe]; exact Or.inr h
  have hS : va_S A s.heap s.heap [] := va_S.rf
  have hP : va_P D vwCl [(a0, .inr (12, [w0, w1, w2, .ref a1, w4, w5, w6, w7, w8, w9, w10, w11, w12, w13, w14, w15, w16, w17, w18, w19, w20, w21, w22, w23, w24, w25, w26, w27, w28, w29, w30, w31, w32, w33, w34, w35, w36, w37, w38, w39, w40, w41, w42, w43, w44, w45, w46, w47, w48, w49, w50, w51, w52, w53, w54, w55, w56, w57, w58, w59])), (a1, .inl (K 0, 5500, .inl row0))] s.heap := hP
  have hl := lv_entry [.ref a0, .int x, .int y] (n := 3) (Nat.le_of_ble_eq_true rfl)
  rw [lg_entry_eq]
  generalize (lg_sl [.ref a0, .int x, .int y] ++ List.replicate (3 - (lg_sl [.ref a0, .int x, .int y]).length) Slot.unset).toArray = ls at hl ⊢
  have hl : lv_has ls 3 [(0, .ref a0), (1, .int x), (2, .int y)] := hl
  have hw12 : ∀ w ∈ wsX120, w ∈ wsX12_of := fun w h => (List.mem_cons_of_mem _ (List.mem_append_right _ h))
  refine lv_aload_n hx hb dX12_of_0 rfl (lv_at hl 0 rfl) ?_
  refine lv_iconst (v := 0) hx hb dX12_of_1 (by decide) ?_
  refine va_put (ci := 12) (v := .int 0) (ty := .int) (C := RX12) (T := TX12) (N := 60) hx hb hts hw12 tyX12 tyX12_ok nmX12 hown hK hP hD hS 0 rfl rfl 0 (by decide) (hts (.fieldLink RX12 158 "SmokeTuneModel" "thrown" "I") (List.mem_cons_of_mem _ (List.mem_append_left _ (List.mem_append_left _ (List.mem_of_getElem? (i := 0) rfl))))) (fun _ h9 => h9) rfl (by decide +kernel) (by first | rfl | decide) (by first | rfl | decide) (Nat.le_of_ble_eq_true rfl) dX12_of_2 (fun H locs hP hD hS => ?_)
  have hP : va_P D vwCl [(a0, .inr (12, [.int 0, w1, w2, .ref a1, w4, w5, w6, w7, w8, w9, w10, w11, w12, w13, w14, w15, w16, w17, w18, w19, w20, w21, w22, w23, w24, w25, w26, w27, w28, w29, w30, w31, w32, w33, w34, w35, w36, w37, w38, w39, w40, w41, w42, w43, w44, w45, w46, w47, w48, w49, w50, w51, w52, w53, w54, w55, w56, w57, w58, w59])), (a1, .inl (K 0, 5500, .inl row0))] H := hP
  have hD : va_D A [(a0, .inr (12, [.int 0, w1, w2, .ref a1, w4, w5, w6, w7, w8, w9, w10, w11, w12, w13, w14, w15, w16, w17, w18, w19, w20, w21, w22, w23, w24, w25, w26, w27, w28, w29, w30, w31, w32, w33, w34, w35, w36, w37, w38, w39, w40, w41, w42, w43, w44, w45, w46, w47, w48, w49, w50, w51, w52, w53, w54, w55, w56, w57, w58, w59])), (a1, .inl (K 0, 5500, .inl row0))] := hD
  refine lv_aload_n hx hb dX12_of_5 rfl (lv_at hl 0 rfl) ?_
  refine lv_iload_n hx hb dX12_of_6 rfl (lv_at hl 1 rfl) ?_
  refine pci (va_runV (As := [.int x]) (rest := []) ⟨hx, hb, hml, hown, hts⟩ (m_isHouse l D K a0 x (.int 0) w1 w2 a1 w4 w5 w6 w7 w8 w9 w10 w11 w12 w13 w14 w15 w16 w17 w18 w19 w20 w21 w22 w23 w24 w25 w26 w27 w28 w29 w30 w31 w32 w33 w34 w35 w36 w37 w38 w39 w40 w41 w42 w43 w44 w45 w46 w47 w48 w49 w50 w51 w52 w53 w54 w55 w56 w57 w58 w59 row0 0 0 H.size row0_ok (by omega) (by omega)) (cwV 1 hts gX12_of_X12_isHouse rfl rfl rfl (by decide +kernel) ⟨Nat.le_of_ble_eq_true rfl, Nat.le_of_ble_eq_true rfl⟩) (mkV hK hN (hP.sub [0, 1] rfl) (hD.sub [0, 1] (by decide) rfl) (ci := 12) (q0 := 0) rfl rfl) rfl rfl hl.1 rfl (lv_room (Nat.le_of_ble_eq_true rfl)) dX12_of_7 ⟨Nat.le_of_ble_eq_true rfl, Nat.le_of_ble_eq_true rfl⟩) (fun r_1 hw => ?_)
  obtain rfl : r_1 = 0 := hw
  refine lv_if_ne (tgt := 15) hx hb dX12_of_10 (by decide) (fun c_2 => absurd (by decide) c_2) (fun c_2 => ?_)
  refine lv_iconst (v := (-1)) hx hb dX12_of_13 (by decide) ?_
  exact W.iret (v := (-1)) hx hb hr (fun t ht hW => ⟨⟨(-1), (), rfl, (by first | exact rfl), Wd.nil⟩, hS.F ht⟩) hS.2.2 dX12_of_14
set_option maxHeartbeats 4000000 in
set_option maxRecDepth 100000 in
theorem r_least (l : Launch) (D : va_G) (K : Nat → ClassId) (a0 : Nat) (x : Int32) (y : Int32) (z : Int32) (w : Int32) (w0 : Value) (w1 : Value) (w2 : Value) (a1 : Nat) (w4 : Value) (w5 : Value) (w6 : Value) (w7 : Value) (w8 : Value) (w9 : Value) (w10 : Value) (w11 : Value) (w12 : Value) (w13 : Value) (w14 : Value) (w15 : Value) (w16 : Value) (w17 : Value) (w18 : Value) (w19 : Value) (w20 : Value) (w21 : Value) (w22 : Value) (w23 : Value) (w24 : Value) (w25 : Value) (w26 : Value) (w27 : Value) (w28 : Value) (w29 : Value) (w30 : Value) (w31 : Value) (w32 : Value) (w33 : Value) (w34 : Value) (w35 : Value) (w36 : Value) (w37 : Value) (w38 : Value) (w39 : Value) (w40 : Value) (w41 : Value) (w42 : Value) (w43 : Value) (w44 : Value) (w45 : Value) (w46 : Value) (w47 : Value) (w48 : Value) (w49 : Value) (w50 : Value) (w51 : Value) (w52 : Value) (w53 : Value) (w54 : Value) (w55 : Value) (w56 : Value) (w57 : Value) (w58 : Value) (w59 : Value) (sz : Nat) : Met l yX12_least wsX12_least ({ frames := 2, cells := 0, slots := 0, locals := 46 }) (va_Pc [.ref a0, .int x, .int y, .int z, .int w] (Pre D K [(a0, .inr (12, [w0, w1, w2, .ref a1, w4, w5, w6, w7, w8, w9, w10, w11, w12, w13, w14, w15, w16, w17, w18, w19, w20, w21, w22, w23, w24, w25, w26, w27, w28, w29, w30, w31, w32, w33, w34, w35, w36, w37, w38, w39, w40, w41, w42, w43, w44, w45, w46, w47, w48, w49, w50, w51, w52, w53, w54, w55, w56, w57, w58, w59])), (a1, .inl (K 0, 5500, .inl row0))] sz)) (va_Qi (S := Unit) (fun (r : Int32) (_ : Unit) => (r = (-1))) (fun u t => Wd D (va_A [(a0, .inr (12, [w0, w1, w2, .ref a1, w4, w5, w6, w7, w8, w9, w10, w11, w12, w13, w14, w15, w16, w17, w18, w19, w20, w21, w22, w23, w24, w25, w26, w27, w28, w29, w30, w31, w32, w33, w34, w35, w36, w37, w38, w39, w40, w41, w42, w43, w44, w45, w46, w47, w48, w49, w50, w51, w52, w53, w54, w55, w56, w57, w58, w59])), (a1, .inl (K 0, 5500, .inl row0))] sz) ((fun _ => []) u) t) (va_A [(a0, .inr (12, [w0, w1, w2, .ref a1, w4, w5, w6, w7, w8, w9, w10, w11, w12, w13, w14, w15, w16, w17, w18, w19, w20, w21, w22, w23, w24, w25, w26, w27, w28, w29, w30, w31, w32, w33, w34, w35, w36, w37, w38, w39, w40, w41, w42, w43, w44, w45, w46, w47, w48, w49, w50, w51, w52, w53, w54, w55, w56, w57, w58, w59])), (a1, .inl (K 0, 5500, .inl row0))] sz)) 0 0 (va_A [(a0, .inr (12, [w0, w1, w2, .ref a1, w4, w5, w6, w7, w8, w9, w10, w11, w12, w13, w14, w15, w16, w17, w18, w19, w20, w21, w22, w23, w24, w25, w26, w27, w28, w29, w30, w31, w32, w33, w34, w35, w36, w37, w38, w39, w40, w41, w42, w43, w44, w45, w46, w47, w48, w49, w50, w51, w52, w53, w54, w55, w56, w57, w58, w59])), (a1, .inl (K 0, 5500, .inl row0))] sz) := by
  refine Met.ofW (cc := cX12_least) (maxL := 8) (ret := (some .int)) (by decide) rfl ?_
  intro p e s m args below meth c s₁ B hml hv
  obtain ⟨rfl, hsz, hP, hK, hD0, hN⟩ := hv
  have hx := B.exec
  have hb := B.bytes
  have hr := B.returns
  have hts := atoms_spec (ws := wsX12_least) B.pre
  have hown : s.vm.findClass RX12 = some m.cls := findClass_of_methodNamed B.named
  have hlocks := B.notSynchronized
  subst hsz
  have hD := hD0.self (sz := s.heap.size)
  generalize hAe : va_A [(a0, .inr (12, [w0, w1, w2, .ref a1, w4, w5, w6, w7, w8, w9, w10, w11, w12, w13, w14, w15, w16, w17, w18, w19, w20, w21, w22, w23, w24, w25, w26, w27, w28, w29, w30, w31, w32, w33, w34, w35, w36, w37, w38, w39, w40, w41, w42, w43, w44, w45, w46, w47, w48, w49, w50, w51, w52, w53, w54, w55, w56, w57, w58, w59])), (a1, .inl (K 0, 5500, .inl row0))] s.heap.size = A at hD ⊢
  have hA : ∀ q : Nat, s.heap.size ≤ q → A q := fun q h => by rw [← hAe]; exact Or.inr h
  have hS : va_S A s.heap s.heap [] := va_S.rf
  have hP : va_P D vwCl [(a0, .inr (12, [w0, w1, w2, .ref a1, w4, w5, w6, w7, w8, w9, w10, w11, w12, w13, w14, w15, w16, w17, w18, w19, w20, w21, w22, w23, w24, w25, w26, w27, w28, w29, w30, w31, w32, w33, w34, w35, w36, w37, w38, w39, w40, w41, w42, w43, w44, w45, w46, w47, w48, w49, w50, w51, w52, w53, w54, w55, w56, w57, w58, w59])), (a1, .inl (K 0, 5500, .inl row0))] s.heap := hP
  have hl := lv_entry [.ref a0, .int x, .int y, .int z, .int w] (n := 8) (Nat.le_of_ble_eq_true rfl)
  rw [lg_entry_eq]
  generalize (lg_sl [.ref a0, .int x, .int y, .int z, .int w] ++ List.replicate (8 - (lg_sl [.ref a0, .int x, .int y, .int z, .int w]).length) Slot.unset).toArray = ls at hl ⊢
  have hl : lv_has ls 8 [(0, .ref a0), (1, .int x), (2, .int y), (3, .int z), (4, .int w)] := hl
  have hw12 : ∀ w ∈ wsX120, w ∈ wsX12_least := fun w h => (List.mem_cons_of_mem _ (List.mem_append_right _ h))
  refine lv_aload_n hx hb dX12_least_0 rfl (lv_at hl 0 rfl) ?_
  refine lv_iconst (v := 0) hx hb dX12_least_1 (by decide) ?_
  refine va_put (ci := 12) (v := .int 0) (ty := .int) (C := RX12) (T := TX12) (N := 60) hx hb hts hw12 tyX12 tyX12_ok nmX12 hown hK hP hD hS 0 rfl rfl 0 (by decide) (hts (.fieldLink RX12 158 "SmokeTuneModel" "thrown" "I") (List.mem_cons_of_mem _ (List.mem_append_left _ (List.mem_append_left _ (List.mem_of_getElem? (i := 0) rfl))))) (fun _ h9 => h9) rfl (by decide +kernel) (by first | rfl | decide) (by first | rfl | decide) (Nat.le_of_ble_eq_true rfl) dX12_least_2 (fun H locs hP hD hS => ?_)
  have hP : va_P D vwCl [(a0, .inr (12, [.int 0, w1, w2, .ref a1, w4, w5, w6, w7, w8, w9, w10, w11, w12, w13, w14, w15, w16, w17, w18, w19, w20, w21, w22, w23, w24, w25, w26, w27, w28, w29, w30, w31, w32, w33, w34, w35, w36, w37, w38, w39, w40, w41, w42, w43, w44, w45, w46, w47, w48, w49, w50, w51, w52, w53, w54, w55, w56, w57, w58, w59])), (a1, .inl (K 0, 5500, .inl row0))] H := hP
  have hD : va_D A [(a0, .inr (12, [.int 0, w1, w2, .ref a1, w4, w5, w6, w7, w8, w9, w10, w11, w12, w13, w14, w15, w16, w17, w18, w19, w20, w21, w22, w23, w24, w25, w26, w27, w28, w29, w30, w31, w32, w33, w34, w35, w36, w37, w38, w39, w40, w41, w42, w43, w44, w45, w46, w47, w48, w49, w50, w51, w52, w53, w54, w55, w56, w57, w58, w59])), (a1, .inl (K 0, 5500, .inl row0))] := hD
  refine lv_aload_n hx hb dX12_least_5 rfl (lv_at hl 0 rfl) ?_
  refine lv_iload_n hx hb dX12_least_6 rfl (lv_at hl 1 rfl) ?_
  refine pci (va_runV (As := [.int x]) (rest := []) ⟨hx, hb, hml, hown, hts⟩ (m_isHouse l D K a0 x (.int 0) w1 w2 a1 w4 w5 w6 w7 w8 w9 w10 w11 w12 w13 w14 w15 w16 w17 w18 w19 w20 w21 w22 w23 w24 w25 w26 w27 w28 w29 w30 w31 w32 w33 w34 w35 w36 w37 w38 w39 w40 w41 w42 w43 w44 w45 w46 w47 w48 w49 w50 w51 w52 w53 w54 w55 w56 w57 w58 w59 row0 0 0 H.size row0_ok (by omega) (by omega)) (cwV 1 hts gX12_least_X12_isHouse rfl rfl rfl (by decide +kernel) ⟨Nat.le_of_ble_eq_true rfl, Nat.le_of_ble_eq_true rfl⟩) (mkV hK hN (hP.sub [0, 1] rfl) (hD.sub [0, 1] (by decide) rfl) (ci := 12) (q0 := 0) rfl rfl) rfl rfl hl.1 rfl (lv_room (Nat.le_of_ble_eq_true rfl)) dX12_least_7 ⟨Nat.le_of_ble_eq_true rfl, Nat.le_of_ble_eq_true rfl⟩) (fun r_1 hw => ?_)
  obtain rfl : r_1 = 0 := hw
  refine lv_if_eq (tgt := 55) hx hb dX12_least_10 (by decide) (fun c_2 => ?_) (fun c_2 => absurd (by decide) c_2)
  refine lv_iconst (v := (-1)) hx hb dX12_least_55 (by decide) ?_
  exact W.iret (v := (-1)) hx hb hr (fun t ht hW => ⟨⟨(-1), (), rfl, (by first | exact rfl), Wd.nil⟩, hS.F ht⟩) hS.2.2 dX12_least_56
set_option maxHeartbeats 4000000 in
set_option maxRecDepth 100000 in
theorem r_rings (l : Launch) (D : va_G) (K : Nat → ClassId) (a0 : Nat) (x : Int32) (w0 : Value) (w1 : Value) (w2 : Value) (a1 : Nat) (w4 : Value) (w5 : Value) (w6 : Value) (w7 : Value) (w8 : Value) (w9 : Value) (w10 : Value) (w11 : Value) (w12 : Value) (w13 : Value) (w14 : Value) (w15 : Value) (w16 : Value) (w17 : Value) (w18 : Value) (w19 : Value) (w20 : Value) (w21 : Value) (w22 : Value) (w23 : Value) (w24 : Value) (w25 : Value) (w26 : Value) (w27 : Value) (w28 : Value) (w29 : Value) (w30 : Value) (w31 : Value) (w32 : Value) (w33 : Value) (w34 : Value) (w35 : Value) (w36 : Value) (w37 : Value) (w38 : Value) (w39 : Value) (w40 : Value) (w41 : Value) (w42 : Value) (w43 : Value) (w44 : Value) (w45 : Value) (w46 : Value) (w47 : Value) (w48 : Value) (w49 : Value) (w50 : Value) (w51 : Value) (w52 : Value) (w53 : Value) (w54 : Value) (w55 : Value) (w56 : Value) (w57 : Value) (w58 : Value) (w59 : Value) (sz : Nat) : Met l yX12_rings wsX12_rings ({ frames := 2, cells := 0, slots := 0, locals := 46 }) (va_Pc [.ref a0, .int x] (Pre D K [(a0, .inr (12, [w0, w1, w2, .ref a1, w4, w5, w6, w7, w8, w9, w10, w11, w12, w13, w14, w15, w16, w17, w18, w19, w20, w21, w22, w23, w24, w25, w26, w27, w28, w29, w30, w31, w32, w33, w34, w35, w36, w37, w38, w39, w40, w41, w42, w43, w44, w45, w46, w47, w48, w49, w50, w51, w52, w53, w54, w55, w56, w57, w58, w59])), (a1, .inl (K 0, 5500, .inl row0))] sz)) (va_Qi (S := Unit) (fun (r : Int32) (_ : Unit) => (r = (-1))) (fun u t => Wd D (va_A [(a0, .inr (12, [w0, w1, w2, .ref a1, w4, w5, w6, w7, w8, w9, w10, w11, w12, w13, w14, w15, w16, w17, w18, w19, w20, w21, w22, w23, w24, w25, w26, w27, w28, w29, w30, w31, w32, w33, w34, w35, w36, w37, w38, w39, w40, w41, w42, w43, w44, w45, w46, w47, w48, w49, w50, w51, w52, w53, w54, w55, w56, w57, w58, w59])), (a1, .inl (K 0, 5500, .inl row0))] sz) ((fun _ => []) u) t) (va_A [(a0, .inr (12, [w0, w1, w2, .ref a1, w4, w5, w6, w7, w8, w9, w10, w11, w12, w13, w14, w15, w16, w17, w18, w19, w20, w21, w22, w23, w24, w25, w26, w27, w28, w29, w30, w31, w32, w33, w34, w35, w36, w37, w38, w39, w40, w41, w42, w43, w44, w45, w46, w47, w48, w49, w50, w51, w52, w53, w54, w55, w56, w57, w58, w59])), (a1, .inl (K 0, 5500, .inl row0))] sz)) 0 0 (va_A [(a0, .inr (12, [w0, w1, w2, .ref a1, w4, w5, w6, w7, w8, w9, w10, w11, w12, w13, w14, w15, w16, w17, w18, w19, w20, w21, w22, w23, w24, w25, w26, w27, w28, w29, w30, w31, w32, w33, w34, w35, w36, w37, w38, w39, w40, w41, w42, w43, w44, w45, w46, w47, w48, w49, w50, w51, w52, w53, w54, w55, w56, w57, w58, w59])), (a1, .inl (K 0, 5500, .inl row0))] sz) := by
  refine Met.ofW (cc := cX12_rings) (maxL := 2) (ret := (some .int)) (by decide) rfl ?_
  intro p e s m args below meth c s₁ B hml hv
  obtain ⟨rfl, hsz, hP, hK, hD0, hN⟩ := hv
  have hx := B.exec
  have hb := B.bytes
  have hr := B.returns
  have hts := atoms_spec (ws := wsX12_rings) B.pre
  have hown : s.vm.findClass RX12 = some m.cls := findClass_of_methodNamed B.named
  have hlocks := B.notSynchronized
  subst hsz
  have hD := hD0.self (sz := s.heap.size)
  generalize hAe : va_A [(a0, .inr (12, [w0, w1, w2, .ref a1, w4, w5, w6, w7, w8, w9, w10, w11, w12, w13, w14, w15, w16, w17, w18, w19, w20, w21, w22, w23, w24, w25, w26, w27, w28, w29, w30, w31, w32, w33, w34, w35, w36, w37, w38, w39, w40, w41, w42, w43, w44, w45, w46, w47, w48, w49, w50, w51, w52, w53, w54, w55, w56, w57, w58, w59])), (a1, .inl (K 0, 5500, .inl row0))] s.heap.size = A at hD ⊢
  have hA : ∀ q : Nat, s.heap.size ≤ q → A q := fun q h => by rw [← hAe]; exact Or.inr h
  have hS : va_S A s.heap s.heap [] := va_S.rf
  have hP : va_P D vwCl [(a0, .inr (12, [w0, w1, w2, .ref a1, w4, w5, w6, w7, w8, w9, w10, w11, w12, w13, w14, w15, w16, w17, w18, w19, w20, w21, w22, w23, w24, w25, w26, w27, w28, w29, w30, w31, w32, w33, w34, w35, w36, w37, w38, w39, w40, w41, w42, w43, w44, w45, w46, w47, w48, w49, w50, w51, w52, w53, w54, w55, w56, w57, w58, w59])), (a1, .inl (K 0, 5500, .inl row0))] s.heap := hP
  have hl := lv_entry [.ref a0, .int x] (n := 2) (Nat.le_of_ble_eq_true rfl)
  rw [lg_entry_eq]
  generalize (lg_sl [.ref a0, .int x] ++ List.replicate (2 - (lg_sl [.ref a0, .int x]).length) Slot.unset).toArray = ls at hl ⊢
  have hl : lv_has ls 2 [(0, .ref a0), (1, .int x)] := hl
  have hw12 : ∀ w ∈ wsX120, w ∈ wsX12_rings := fun w h => (List.mem_cons_of_mem _ (List.mem_append_right _ h))
  refine lv_aload_n hx hb dX12_rings_0 rfl (lv_at hl 0 rfl) ?_
  refine lv_iconst (v := 0) hx hb dX12_rings_1 (by decide) ?_
  refine va_put (ci := 12) (v := .int 0) (ty := .int) (C := RX12) (T := TX12) (N := 60) hx hb hts hw12 tyX12 tyX12_ok nmX12 hown hK hP hD hS 0 rfl rfl 0 (by decide) (hts (.fieldLink RX12 158 "SmokeTuneModel" "thrown" "I") (List.mem_cons_of_mem _ (List.mem_append_left _ (List.mem_append_left _ (List.mem_of_getElem? (i := 0) rfl))))) (fun _ h9 => h9) rfl (by decide +kernel) (by first | rfl | decide) (by first | rfl | decide) (Nat.le_of_ble_eq_true rfl) dX12_rings_2 (fun H locs hP hD hS => ?_)
  have hP : va_P D vwCl [(a0, .inr (12, [.int 0, w1, w2, .ref a1, w4, w5, w6, w7, w8, w9, w10, w11, w12, w13, w14, w15, w16, w17, w18, w19, w20, w21, w22, w23, w24, w25, w26, w27, w28, w29, w30, w31, w32, w33, w34, w35, w36, w37, w38, w39, w40, w41, w42, w43, w44, w45, w46, w47, w48, w49, w50, w51, w52, w53, w54, w55, w56, w57, w58, w59])), (a1, .inl (K 0, 5500, .inl row0))] H := hP
  have hD : va_D A [(a0, .inr (12, [.int 0, w1, w2, .ref a1, w4, w5, w6, w7, w8, w9, w10, w11, w12, w13, w14, w15, w16, w17, w18, w19, w20, w21, w22, w23, w24, w25, w26, w27, w28, w29, w30, w31, w32, w33, w34, w35, w36, w37, w38, w39, w40, w41, w42, w43, w44, w45, w46, w47, w48, w49, w50, w51, w52, w53, w54, w55, w56, w57, w58, w59])), (a1, .inl (K 0, 5500, .inl row0))] := hD
  refine lv_aload_n hx hb dX12_rings_5 rfl (lv_at hl 0 rfl) ?_
  refine lv_iload_n hx hb dX12_rings_6 rfl (lv_at hl 1 rfl) ?_
  refine pci (va_runV (As := [.int x]) (rest := []) ⟨hx, hb, hml, hown, hts⟩ (m_isHouse l D K a0 x (.int 0) w1 w2 a1 w4 w5 w6 w7 w8 w9 w10 w11 w12 w13 w14 w15 w16 w17 w18 w19 w20 w21 w22 w23 w24 w25 w26 w27 w28 w29 w30 w31 w32 w33 w34 w35 w36 w37 w38 w39 w40 w41 w42 w43 w44 w45 w46 w47 w48 w49 w50 w51 w52 w53 w54 w55 w56 w57 w58 w59 row0 0 0 H.size row0_ok (by omega) (by omega)) (cwV 1 hts gX12_rings_X12_isHouse rfl rfl rfl (by decide +kernel) ⟨Nat.le_of_ble_eq_true rfl, Nat.le_of_ble_eq_true rfl⟩) (mkV hK hN (hP.sub [0, 1] rfl) (hD.sub [0, 1] (by decide) rfl) (ci := 12) (q0 := 0) rfl rfl) rfl rfl hl.1 rfl (lv_room (Nat.le_of_ble_eq_true rfl)) dX12_rings_7 ⟨Nat.le_of_ble_eq_true rfl, Nat.le_of_ble_eq_true rfl⟩) (fun r_1 hw => ?_)
  obtain rfl : r_1 = 0 := hw
  refine lv_if_ne (tgt := 15) hx hb dX12_rings_10 (by decide) (fun c_2 => absurd (by decide) c_2) (fun c_2 => ?_)
  refine lv_iconst (v := (-1)) hx hb dX12_rings_13 (by decide) ?_
  exact W.iret (v := (-1)) hx hb hr (fun t ht hW => ⟨⟨(-1), (), rfl, (by first | exact rfl), Wd.nil⟩, hS.F ht⟩) hS.2.2 dX12_rings_14
set_option maxHeartbeats 4000000 in
set_option maxRecDepth 100000 in
theorem r_chord (l : Launch) (D : va_G) (K : Nat → ClassId) (a0 : Nat) (x : Int32) (w0 : Value) (w1 : Value) (w2 : Value) (a1 : Nat) (w4 : Value) (w5 : Value) (w6 : Value) (w7 : Value) (w8 : Value) (w9 : Value) (w10 : Value) (w11 : Value) (w12 : Value) (w13 : Value) (w14 : Value) (w15 : Value) (w16 : Value) (w17 : Value) (w18 : Value) (w19 : Value) (w20 : Value) (w21 : Value) (w22 : Value) (w23 : Value) (w24 : Value) (w25 : Value) (w26 : Value) (w27 : Value) (w28 : Value) (w29 : Value) (w30 : Value) (w31 : Value) (w32 : Value) (w33 : Value) (w34 : Value) (w35 : Value) (w36 : Value) (w37 : Value) (w38 : Value) (w39 : Value) (w40 : Value) (w41 : Value) (w42 : Value) (w43 : Value) (w44 : Value) (w45 : Value) (w46 : Value) (w47 : Value) (w48 : Value) (w49 : Value) (w50 : Value) (w51 : Value) (w52 : Value) (w53 : Value) (w54 : Value) (w55 : Value) (w56 : Value) (w57 : Value) (w58 : Value) (w59 : Value) (sz : Nat) : Met l yX12_chord wsX12_chord ({ frames := 1, cells := 0, slots := 0, locals := 25 }) (va_Pc [.ref a0, .int x] (Pre D K [(a0, .inr (12, [w0, w1, w2, .ref a1, w4, w5, w6, w7, w8, w9, w10, w11, w12, w13, w14, w15, w16, w17, w18, w19, w20, w21, w22, w23, w24, w25, w26, w27, w28, w29, w30, w31, w32, w33, w34, w35, w36, w37, w38, w39, w40, w41, w42, w43, w44, w45, w46, w47, w48, w49, w50, w51, w52, w53, w54, w55, w56, w57, w58, w59])), (a1, .inl (K 0, 5500, .inl row0))] sz)) (va_Qi (S := Unit) (fun (r : Int32) (_ : Unit) => (r = 0 ∧ 0 ≤ x.toInt ∧ x.toInt ≤ 23) ∨ (r = (-1) ∧ (x.toInt < 0 ∨ 23 < x.toInt))) (fun u t => Wd D (va_A [(a0, .inr (12, [w0, w1, w2, .ref a1, w4, w5, w6, w7, w8, w9, w10, w11, w12, w13, w14, w15, w16, w17, w18, w19, w20, w21, w22, w23, w24, w25, w26, w27, w28, w29, w30, w31, w32, w33, w34, w35, w36, w37, w38, w39, w40, w41, w42, w43, w44, w45, w46, w47, w48, w49, w50, w51, w52, w53, w54, w55, w56, w57, w58, w59])), (a1, .inl (K 0, 5500, .inl row0))] sz) ((fun _ => []) u) t) (va_A [(a0, .inr (12, [w0, w1, w2, .ref a1, w4, w5, w6, w7, w8, w9, w10, w11, w12, w13, w14, w15, w16, w17, w18, w19, w20, w21, w22, w23, w24, w25, w26, w27, w28, w29, w30, w31, w32, w33, w34, w35, w36, w37, w38, w39, w40, w41, w42, w43, w44, w45, w46, w47, w48, w49, w50, w51, w52, w53, w54, w55, w56, w57, w58, w59])), (a1, .inl (K 0, 5500, .inl row0))] sz)) 0 0 (va_A [(a0, .inr (12, [w0, w1, w2, .ref a1, w4, w5, w6, w7, w8, w9, w10, w11, w12, w13, w14, w15, w16, w17, w18, w19, w20, w21, w22, w23, w24, w25, w26, w27, w28, w29, w30, w31, w32, w33, w34, w35, w36, w37, w38, w39, w40, w41, w42, w43, w44, w45, w46, w47, w48, w49, w50, w51, w52, w53, w54, w55, w56, w57, w58, w59])), (a1, .inl (K 0, 5500, .inl row0))] sz) := by
  refine Met.ofW (cc := cX12_chord) (maxL := 2) (ret := (some .int)) (by decide) rfl ?_
  intro p e s m args below meth c s₁ B hml hv
  obtain ⟨rfl, hsz, hP, hK, hD0, hN⟩ := hv
  have hx := B.exec
  have hb := B.bytes
  have hr := B.returns
  have hts := atoms_spec (ws := wsX12_chord) B.pre
  have hown : s.vm.findClass RX12 = some m.cls := findClass_of_methodNamed B.named
  have hlocks := B.notSynchronized
  subst hsz
  have hD := hD0.self (sz := s.heap.size)
  generalize hAe : va_A [(a0, .inr (12, [w0, w1, w2, .ref a1, w4, w5, w6, w7, w8, w9, w10, w11, w12, w13, w14, w15, w16, w17, w18, w19, w20, w21, w22, w23, w24, w25, w26, w27, w28, w29, w30, w31, w32, w33, w34, w35, w36, w37, w38, w39, w40, w41, w42, w43, w44, w45, w46, w47, w48, w49, w50, w51, w52, w53, w54, w55, w56, w57, w58, w59])), (a1, .inl (K 0, 5500, .inl row0))] s.heap.size = A at hD ⊢
  have hA : ∀ q : Nat, s.heap.size ≤ q → A q := fun q h => by rw [← hAe]; exact Or.inr h
  have hS : va_S A s.heap s.heap [] := va_S.rf
  have hP : va_P D vwCl [(a0, .inr (12, [w0, w1, w2, .ref a1, w4, w5, w6, w7, w8, w9, w10, w11, w12, w13, w14, w15, w16, w17, w18, w19, w20, w21, w22, w23, w24, w25, w26, w27, w28, w29, w30, w31, w32, w33, w34, w35, w36, w37, w38, w39, w40, w41, w42, w43, w44, w45, w46, w47, w48, w49, w50, w51, w52, w53, w54, w55, w56, w57, w58, w59])), (a1, .inl (K 0, 5500, .inl row0))] s.heap := hP
  have hl := lv_entry [.ref a0, .int x] (n := 2) (Nat.le_of_ble_eq_true rfl)
  rw [lg_entry_eq]
  generalize (lg_sl [.ref a0, .int x] ++ List.replicate (2 - (lg_sl [.ref a0, .int x]).length) Slot.unset).toArray = ls at hl ⊢
  have hl : lv_has ls 2 [(0, .ref a0), (1, .int x)] := hl
  have hw12 : ∀ w ∈ wsX120, w ∈ wsX12_chord := fun w h => (List.mem_cons_of_mem _ (List.mem_append_right _ h))
  refine lv_aload_n hx hb dX12_chord_0 rfl (lv_at hl 0 rfl) ?_
  refine lv_iconst (v := 0) hx hb dX12_chord_1 (by decide) ?_
  refine va_put (ci := 12) (v := .int 0) (ty := .int) (C := RX12) (T := TX12) (N := 60) hx hb hts hw12 tyX12 tyX12_ok nmX12 hown hK hP hD hS 0 rfl rfl 0 (by decide) (hts (.fieldLink RX12 158 "SmokeTuneModel" "thrown" "I") (List.mem_cons_of_mem _ (List.mem_append_left _ (List.mem_of_getElem? (i := 0) rfl)))) (fun _ h9 => h9) rfl (by decide +kernel) (by first | rfl | decide) (by first | rfl | decide) (Nat.le_of_ble_eq_true rfl) dX12_chord_2 (fun H locs hP hD hS => ?_)
  have hP : va_P D vwCl [(a0, .inr (12, [.int 0, w1, w2, .ref a1, w4, w5, w6, w7, w8, w9, w10, w11, w12, w13, w14, w15, w16, w17, w18, w19, w20, w21, w22, w23, w24, w25, w26, w27, w28, w29, w30, w31, w32, w33, w34, w35, w36, w37, w38, w39, w40, w41, w42, w43, w44, w45, w46, w47, w48, w49, w50, w51, w52, w53, w54, w55, w56, w57, w58, w59])), (a1, .inl (K 0, 5500, .inl row0))] H := hP
  have hD : va_D A [(a0, .inr (12, [.int 0, w1, w2, .ref a1, w4, w5, w6, w7, w8, w9, w10, w11, w12, w13, w14, w15, w16, w17, w18, w19, w20, w21, w22, w23, w24, w25, w26, w27, w28, w29, w30, w31, w32, w33, w34, w35, w36, w37, w38, w39, w40, w41, w42, w43, w44, w45, w46, w47, w48, w49, w50, w51, w52, w53, w54, w55, w56, w57, w58, w59])), (a1, .inl (K 0, 5500, .inl row0))] := hD
  refine lv_iload_n hx hb dX12_chord_5 rfl (lv_at hl 1 rfl) ?_
  refine lv_i2l hx hb dX12_chord_6 rfl ?_
  refine lv_topl (fun x_1 ex_1 => ?_)
  have hx_1 : x_1.toInt = x.toInt := by rw [ex_1]; exact i_wide rfl
  refine lv_lconst (v := 0) hx hb dX12_chord_7 (by decide) ?_
  refine lv_ldc2 (v := 23) hx hb hown (hts (.constantLong RX12 210 (23)) (List.mem_cons_of_mem _ (List.mem_append_left _ (List.mem_of_getElem? (i := 1) rfl)))) dX12_chord_8 ?_
  refine pci (va_runS (As := [.long x_1, .long 0, .long 23]) (rest := []) ⟨hx, hb, hml, hown, hts⟩ (c_in l D K x_1 0 23 x.toInt 0 23 H.size hx_1 rfl rfl) (va_cwS 3 hts gX12_chord_X12_in rfl rfl rfl (by decide +kernel) ⟨Nat.le_of_ble_eq_true rfl, Nat.le_of_ble_eq_true rfl⟩) (mkS hK hN (hP.sub [] rfl) (hD.sub [] (by decide) rfl)) rfl rfl hl.1 rfl (lv_room (Nat.le_of_ble_eq_true rfl)) dX12_chord_11 ⟨Nat.le_of_ble_eq_true rfl, Nat.le_of_ble_eq_true rfl⟩) (fun r_2 hw => ?_)
  rcases hw with ⟨rfl, h_3, h_4⟩ | ⟨rfl, h_5⟩
  · refine lv_if_eq (tgt := 29) hx hb dX12_chord_14 (by decide) (fun c_6 => absurd c_6 (by decide)) (fun c_6 => ?_)
    refine lv_aload_n hx hb dX12_chord_17 rfl (lv_at hl 0 rfl) ?_
    refine va_get (ci := 12) (v := .ref a1) (C := RX12) (T := TX12) (N := 60) hx hb hts hw12 hown hK hP 0 rfl rfl 3 (by decide) (hts (.fieldLink RX12 13 "SmokeTuneModel" "row" "[I") (List.mem_cons_of_mem _ (List.mem_append_left _ (List.mem_of_getElem? (i := 2) rfl)))) (fun _ h9 => h9) rfl dX12_chord_18 ?_
    refine lv_bipush (v := 67) hx hb dX12_chord_21 (by decide) ?_
    refine lv_iload_n hx hb dX12_chord_23 rfl (lv_at hl 1 rfl) ?_
    refine lv_iadd hx hb dX12_chord_24 ?_
    refine lv_topi (fun x_7 ex_7 => ?_)
    have hx_7 : x_7.toInt = (67 + x.toInt) := by rw [ex_7]; exact i_add rfl rfl (by omega)
    refine va_iald hx hb hK hP 1 0 rfl rfl (i_in hx_7 (by omega)) dX12_chord_25 ?_
    refine lv_topi (fun x_8 ex_8 => ?_)
    obtain rfl : x_8 = 0 := ex_8.trans (row0_hi _ (by rw [i_clamp hx_7]; omega))
    refine lv_goto (tgt := 30) hx hb dX12_chord_26 (by decide) ?_
    exact W.iret (v := 0) hx hb hr (fun t ht hW => ⟨⟨0, (), rfl, (by first | exact Or.inl (⟨rfl, by first | omega | decide | (subst_vars; assumption) | (subst_vars; symm; assumption), by first | omega | decide | (subst_vars; assumption) | (subst_vars; symm; assumption)⟩)), Wd.nil⟩, hS.F ht⟩) hS.2.2 dX12_chord_30
  · refine lv_if_eq (tgt := 29) hx hb dX12_chord_14 (by decide) (fun c_9 => ?_) (fun c_9 => absurd (by decide) c_9)
    refine lv_iconst (v := (-1)) hx hb dX12_chord_29 (by decide) ?_
    exact W.iret (v := (-1)) hx hb hr (fun t ht hW => ⟨⟨(-1), (), rfl, (by first | exact Or.inr (⟨rfl, by first | omega | decide | (subst_vars; assumption) | (subst_vars; symm; assumption)⟩)), Wd.nil⟩, hS.F ht⟩) hS.2.2 dX12_chord_30
set_option maxHeartbeats 4000000 in
set_option maxRecDepth 100000 in
theorem r_score (l : Launch) (D : va_G) (K : Nat → ClassId) (a0 : Nat) (x : Int32) (y : Int32) (w0 : Value) (w1 : Value) (a2 : Nat) (a1 : Nat) (w4 : Value) (w5 : Value) (w6 : Value) (w7 : Value) (w8 : Value) (w9 : Value) (w10 : Value) (w11 : Value) (w12 : Value) (w13 : Value) (w14 : Value) (w15 : Value) (w16 : Value) (w17 : Value) (w18 : Value) (w19 : Value) (w20 : Value) (w21 : Value) (w22 : Value) (w23 : Value) (w24 : Value) (w25 : Value) (w26 : Value) (w27 : Value) (w28 : Value) (w29 : Value) (w30 : Value) (w31 : Value) (w32 : Value) (w33 : Value) (w34 : Value) (w35 : Value) (w36 : Value) (w37 : Value) (w38 : Value) (w39 : Value) (w40 : Value) (w41 : Value) (w42 : Value) (w43 : Value) (w44 : Value) (w45 : Value) (w46 : Value) (w47 : Value) (w48 : Value) (w49 : Value) (w50 : Value) (w51 : Value) (w52 : Value) (w53 : Value) (w54 : Value) (w55 : Value) (w56 : Value) (w57 : Value) (w58 : Value) (w59 : Value) (sz : Nat) : Met l yX12_score wsX12_score ({ frames := 1, cells := 0, slots := 0, locals := 25 }) (va_Pc [.ref a0, .int x, .int y] (Pre D K [(a0, .inr (12, [w0, w1, .ref a2, .ref a1, w4, w5, w6, w7, w8, w9, w10, w11, w12, w13, w14, w15, w16, w17, w18, w19, w20, w21, w22, w23, w24, w25, w26, w27, w28, w29, w30, w31, w32, w33, w34, w35, w36, w37, w38, w39, w40, w41, w42, w43, w44, w45, w46, w47, w48, w49, w50, w51, w52, w53, w54, w55, w56, w57, w58, w59])), (a1, .inl (K 0, 5500, .inl row0)), (a2, .inl (K 0, 7, .inl (fun _ => 0)))] sz)) (va_Qi (S := Unit) (fun (r : Int32) (_ : Unit) => (r = 0 ∧ 0 ≤ x.toInt ∧ x.toInt ≤ 23 ∧ 0 ≤ y.toInt ∧ y.toInt ≤ 127) ∨ (r = (-1) ∧ (x.toInt < 0 ∨ 23 < x.toInt ∨ y.toInt < 0 ∨ 127 < y.toInt))) (fun u t => Wd D (va_A [(a0, .inr (12, [w0, w1, .ref a2, .ref a1, w4, w5, w6, w7, w8, w9, w10, w11, w12, w13, w14, w15, w16, w17, w18, w19, w20, w21, w22, w23, w24, w25, w26, w27, w28, w29, w30, w31, w32, w33, w34, w35, w36, w37, w38, w39, w40, w41, w42, w43, w44, w45, w46, w47, w48, w49, w50, w51, w52, w53, w54, w55, w56, w57, w58, w59])), (a1, .inl (K 0, 5500, .inl row0)), (a2, .inl (K 0, 7, .inl (fun _ => 0)))] sz) ((fun _ => []) u) t) (va_A [(a0, .inr (12, [w0, w1, .ref a2, .ref a1, w4, w5, w6, w7, w8, w9, w10, w11, w12, w13, w14, w15, w16, w17, w18, w19, w20, w21, w22, w23, w24, w25, w26, w27, w28, w29, w30, w31, w32, w33, w34, w35, w36, w37, w38, w39, w40, w41, w42, w43, w44, w45, w46, w47, w48, w49, w50, w51, w52, w53, w54, w55, w56, w57, w58, w59])), (a1, .inl (K 0, 5500, .inl row0)), (a2, .inl (K 0, 7, .inl (fun _ => 0)))] sz)) 0 0 (va_A [(a0, .inr (12, [w0, w1, .ref a2, .ref a1, w4, w5, w6, w7, w8, w9, w10, w11, w12, w13, w14, w15, w16, w17, w18, w19, w20, w21, w22, w23, w24, w25, w26, w27, w28, w29, w30, w31, w32, w33, w34, w35, w36, w37, w38, w39, w40, w41, w42, w43, w44, w45, w46, w47, w48, w49, w50, w51, w52, w53, w54, w55, w56, w57, w58, w59])), (a1, .inl (K 0, 5500, .inl row0)), (a2, .inl (K 0, 7, .inl (fun _ => 0)))] sz) := by
  refine Met.ofW (cc := cX12_score) (maxL := 3) (ret := (some .int)) (by decide) rfl ?_
  intro p e s m args below meth c s₁ B hml hv
  obtain ⟨rfl, hsz, hP, hK, hD0, hN⟩ := hv
  have hx := B.exec
  have hb := B.bytes
  have hr := B.returns
  have hts := atoms_spec (ws := wsX12_score) B.pre
  have hown : s.vm.findClass RX12 = some m.cls := findClass_of_methodNamed B.named
  have hlocks := B.notSynchronized
  subst hsz
  have hD := hD0.self (sz := s.heap.size)
  generalize hAe : va_A [(a0, .inr (12, [w0, w1, .ref a2, .ref a1, w4, w5, w6, w7, w8, w9, w10, w11, w12, w13, w14, w15, w16, w17, w18, w19, w20, w21, w22, w23, w24, w25, w26, w27, w28, w29, w30, w31, w32, w33, w34, w35, w36, w37, w38, w39, w40, w41, w42, w43, w44, w45, w46, w47, w48, w49, w50, w51, w52, w53, w54, w55, w56, w57, w58, w59])), (a1, .inl (K 0, 5500, .inl row0)), (a2, .inl (K 0, 7, .inl (fun _ => 0)))] s.heap.size = A at hD ⊢
  have hA : ∀ q : Nat, s.heap.size ≤ q → A q := fun q h => by rw [← hAe]; exact Or.inr h
  have hS : va_S A s.heap s.heap [] := va_S.rf
  have hP : va_P D vwCl [(a0, .inr (12, [w0, w1, .ref a2, .ref a1, w4, w5, w6, w7, w8, w9, w10, w11, w12, w13, w14, w15, w16, w17, w18, w19, w20, w21, w22, w23, w24, w25, w26, w27, w28, w29, w30, w31, w32, w33, w34, w35, w36, w37, w38, w39, w40, w41, w42, w43, w44, w45, w46, w47, w48, w49, w50, w51, w52, w53, w54, w55, w56, w57, w58, w59])), (a1, .inl (K 0, 5500, .inl row0)), (a2, .inl (K 0, 7, .inl (fun _ => 0)))] s.heap := hP
  have hl := lv_entry [.ref a0, .int x, .int y] (n := 3) (Nat.le_of_ble_eq_true rfl)
  rw [lg_entry_eq]
  generalize (lg_sl [.ref a0, .int x, .int y] ++ List.replicate (3 - (lg_sl [.ref a0, .int x, .int y]).length) Slot.unset).toArray = ls at hl ⊢
  have hl : lv_has ls 3 [(0, .ref a0), (1, .int x), (2, .int y)] := hl
  have hw12 : ∀ w ∈ wsX120, w ∈ wsX12_score := fun w h => (List.mem_cons_of_mem _ (List.mem_append_right _ h))
  refine lv_aload_n hx hb dX12_score_0 rfl (lv_at hl 0 rfl) ?_
  refine lv_iconst (v := 0) hx hb dX12_score_1 (by decide) ?_
  refine va_put (ci := 12) (v := .int 0) (ty := .int) (C := RX12) (T := TX12) (N := 60) hx hb hts hw12 tyX12 tyX12_ok nmX12 hown hK hP hD hS 0 rfl rfl 0 (by decide) (hts (.fieldLink RX12 158 "SmokeTuneModel" "thrown" "I") (List.mem_cons_of_mem _ (List.mem_append_left _ (List.mem_of_getElem? (i := 0) rfl)))) (fun _ h9 => h9) rfl (by decide +kernel) (by first | rfl | decide) (by first | rfl | decide) (Nat.le_of_ble_eq_true rfl) dX12_score_2 (fun H locs hP hD hS => ?_)
  have hP : va_P D vwCl [(a0, .inr (12, [.int 0, w1, .ref a2, .ref a1, w4, w5, w6, w7, w8, w9, w10, w11, w12, w13, w14, w15, w16, w17, w18, w19, w20, w21, w22, w23, w24, w25, w26, w27, w28, w29, w30, w31, w32, w33, w34, w35, w36, w37, w38, w39, w40, w41, w42, w43, w44, w45, w46, w47, w48, w49, w50, w51, w52, w53, w54, w55, w56, w57, w58, w59])), (a1, .inl (K 0, 5500, .inl row0)), (a2, .inl (K 0, 7, .inl (fun _ => 0)))] H := hP
  have hD : va_D A [(a0, .inr (12, [.int 0, w1, .ref a2, .ref a1, w4, w5, w6, w7, w8, w9, w10, w11, w12, w13, w14, w15, w16, w17, w18, w19, w20, w21, w22, w23, w24, w25, w26, w27, w28, w29, w30, w31, w32, w33, w34, w35, w36, w37, w38, w39, w40, w41, w42, w43, w44, w45, w46, w47, w48, w49, w50, w51, w52, w53, w54, w55, w56, w57, w58, w59])), (a1, .inl (K 0, 5500, .inl row0)), (a2, .inl (K 0, 7, .inl (fun _ => 0)))] := hD
  refine lv_iload_n hx hb dX12_score_5 rfl (lv_at hl 1 rfl) ?_
  refine lv_i2l hx hb dX12_score_6 rfl ?_
  refine lv_topl (fun x_1 ex_1 => ?_)
  have hx_1 : x_1.toInt = x.toInt := by rw [ex_1]; exact i_wide rfl
  refine lv_lconst (v := 0) hx hb dX12_score_7 (by decide) ?_
  refine lv_ldc2 (v := 23) hx hb hown (hts (.constantLong RX12 210 (23)) (List.mem_cons_of_mem _ (List.mem_append_left _ (List.mem_of_getElem? (i := 1) rfl)))) dX12_score_8 ?_
  refine pci (va_runS (As := [.long x_1, .long 0, .long 23]) (rest := []) ⟨hx, hb, hml, hown, hts⟩ (c_in l D K x_1 0 23 x.toInt 0 23 H.size hx_1 rfl rfl) (va_cwS 3 hts gX12_score_X12_in rfl rfl rfl (by decide +kernel) ⟨Nat.le_of_ble_eq_true rfl, Nat.le_of_ble_eq_true rfl⟩) (mkS hK hN (hP.sub [] rfl) (hD.sub [] (by decide) rfl)) rfl rfl hl.1 rfl (lv_room (Nat.le_of_ble_eq_true rfl)) dX12_score_11 ⟨Nat.le_of_ble_eq_true rfl, Nat.le_of_ble_eq_true rfl⟩) (fun r_2 hw => ?_)
  rcases hw with ⟨rfl, h_3, h_4⟩ | ⟨rfl, h_5⟩
  · refine lv_if_eq (tgt := 41) hx hb dX12_score_14 (by decide) (fun c_6 => absurd c_6 (by decide)) (fun c_6 => ?_)
    refine lv_iload_n hx hb dX12_score_17 rfl (lv_at hl 2 rfl) ?_
    refine lv_i2l hx hb dX12_score_18 rfl ?_
    refine lv_topl (fun x_7 ex_7 => ?_)
    have hx_7 : x_7.toInt = y.toInt := by rw [ex_7]; exact i_wide rfl
    refine lv_lconst (v := 0) hx hb dX12_score_19 (by decide) ?_
    refine lv_ldc2 (v := 127) hx hb hown (hts (.constantLong RX12 212 (127)) (List.mem_cons_of_mem _ (List.mem_append_left _ (List.mem_of_getElem? (i := 2) rfl)))) dX12_score_20 ?_
    refine pci (va_runS (As := [.long x_7, .long 0, .long 127]) (rest := []) ⟨hx, hb, hml, hown, hts⟩ (c_in l D K x_7 0 127 y.toInt 0 127 H.size hx_7 rfl rfl) (va_cwS 3 hts gX12_score_X12_in rfl rfl rfl (by decide +kernel) ⟨Nat.le_of_ble_eq_true rfl, Nat.le_of_ble_eq_true rfl⟩) (mkS hK hN (hP.sub [] rfl) (hD.sub [] (by decide) rfl)) rfl rfl hl.1 rfl (lv_room (Nat.le_of_ble_eq_true rfl)) dX12_score_23 ⟨Nat.le_of_ble_eq_true rfl, Nat.le_of_ble_eq_true rfl⟩) (fun r_8 hw => ?_)
    rcases hw with ⟨rfl, h_9, h_10⟩ | ⟨rfl, h_11⟩
    · refine lv_if_eq (tgt := 41) hx hb dX12_score_26 (by decide) (fun c_12 => absurd c_12 (by decide)) (fun c_12 => ?_)
      refine lv_aload_n hx hb dX12_score_29 rfl (lv_at hl 0 rfl) ?_
      refine lv_bipush (v := 67) hx hb dX12_score_30 (by decide) ?_
      refine lv_iload_n hx hb dX12_score_32 rfl (lv_at hl 1 rfl) ?_
      refine lv_iadd hx hb dX12_score_33 ?_
      refine lv_topi (fun x_13 ex_13 => ?_)
      have hx_13 : x_13.toInt = (67 + x.toInt) := by rw [ex_13]; exact i_add rfl rfl (by omega)
      refine lv_iload_n hx hb dX12_score_34 rfl (lv_at hl 2 rfl) ?_
      refine kci (wr := [(a2, .inl (K 0, 7, .inl (fun _ => 0)))]) (va_runV (As := [.int x_13, .int y]) (rest := []) ⟨hx, hb, hml, hown, hts⟩ (m_change_hi l D K a0 x_13 y (.int 0) w1 (.ref a2) a1 w4 w5 w6 w7 w8 w9 w10 w11 w12 w13 w14 w15 w16 w17 w18 w19 w20 w21 w22 w23 w24 w25 w26 w27 w28 w29 w30 w31 w32 w33 w34 w35 w36 w37 w38 w39 w40 w41 w42 w43 w44 w45 w46 w47 w48 w49 w50 w51 w52 w53 w54 w55 w56 w57 w58 w59 (67 + x.toInt) H.size hx_13 (by omega)) (cwV 2 hts gX12_score_X12_change rfl rfl rfl (by decide +kernel) ⟨Nat.le_of_ble_eq_true rfl, Nat.le_of_ble_eq_true rfl⟩) (mkV hK hN (hP.sub [0, 1] rfl) (hD.sub [0, 1] (by decide) rfl) (ci := 12) (q0 := 0) rfl rfl) rfl rfl hl.1 rfl (lv_room (Nat.le_of_ble_eq_true rfl)) dX12_score_35 ⟨Nat.le_of_ble_eq_true rfl, Nat.le_of_ble_eq_true rfl⟩) hP hD hS hA [0, 1] [2] rfl rfl (by decide) (by decide) (fun r_14 u_15 H locs hw hP hD hS => ?_)
      have hP : va_P D vwCl [(a2, .inl (K 0, 7, .inl (fun _ => 0)))] H := hP
      have hD : va_D A [(a2, .inl (K 0, 7, .inl (fun _ => 0)))] := hD
      obtain rfl : r_14 = 0 := hw
      refine lv_goto (tgt := 46) hx hb dX12_score_38 (by decide) ?_
      exact W.iret (v := 0) hx hb hr (fun t ht hW => ⟨⟨0, (), rfl, (by first | exact Or.inl (⟨rfl, by first | omega | decide | (subst_vars; assumption) | (subst_vars; symm; assumption), by first | omega | decide | (subst_vars; assumption) | (subst_vars; symm; assumption), by first | omega | decide | (subst_vars; assumption) | (subst_vars; symm; assumption), by first | omega | decide | (subst_vars; assumption) | (subst_vars; symm; assumption)⟩)), Wd.nil⟩, hS.F ht⟩) hS.2.2 dX12_score_46
    · refine lv_if_eq (tgt := 41) hx hb dX12_score_26 (by decide) (fun c_16 => ?_) (fun c_16 => absurd (by decide) c_16)
      refine lv_aload_n hx hb dX12_score_41 rfl (lv_at hl 0 rfl) ?_
      refine lv_iconst (v := (-1)) hx hb dX12_score_42 (by decide) ?_
      refine kci (wr := [(a1, .inl (K 0, 5500, .inl row0))]) (va_runV (As := [.int (-1)]) (rest := []) ⟨hx, hb, hml, hown, hts⟩ (m_tell_1 l D K a0 (.int 0) w1 a2 (.ref a1) w4 w5 w6 w7 w8 w9 w10 w11 w12 w13 w14 w15 w16 w17 w18 w19 w20 w21 w22 w23 w24 w25 w26 w27 w28 w29 w30 w31 w32 w33 w34 w35 w36 w37 w38 w39 w40 w41 w42 w43 w44 w45 w46 w47 w48 w49 w50 w51 w52 w53 w54 w55 w56 w57 w58 w59 (fun _ => 0) H.size) (cwV 1 hts gX12_score_X12_tell rfl rfl rfl (by decide +kernel) ⟨Nat.le_of_ble_eq_true rfl, Nat.le_of_ble_eq_true rfl⟩) (mkV hK hN (hP.sub [0, 2] rfl) (hD.sub [0, 2] (by decide) rfl) (ci := 12) (q0 := 0) rfl rfl) rfl rfl hl.1 rfl (lv_room (Nat.le_of_ble_eq_true rfl)) dX12_score_43 ⟨Nat.le_of_ble_eq_true rfl, Nat.le_of_ble_eq_true rfl⟩) hP hD hS hA [0, 2] [1] rfl rfl (by decide) (by decide) (fun r_17 u_18 H locs hw hP hD hS => ?_)
      have hP : va_P D vwCl [(a1, .inl (K 0, 5500, .inl row0))] H := hP
      have hD : va_D A [(a1, .inl (K 0, 5500, .inl row0))] := hD
      obtain rfl : r_17 = (-1) := hw
      exact W.iret (v := (-1)) hx hb hr (fun t ht hW => ⟨⟨(-1), (), rfl, (by first | exact Or.inr (⟨rfl, by first | omega | decide | (subst_vars; assumption) | (subst_vars; symm; assumption)⟩)), Wd.nil⟩, hS.F ht⟩) hS.2.2 dX12_score_46
  · refine lv_if_eq (tgt := 41) hx hb dX12_score_14 (by decide) (fun c_19 => ?_) (fun c_19 => absurd (by decide) c_19)
    refine lv_aload_n hx hb dX12_score_41 rfl (lv_at hl 0 rfl) ?_
    refine lv_iconst (v := (-1)) hx hb dX12_score_42 (by decide) ?_
    refine kci (wr := [(a1, .inl (K 0, 5500, .inl row0))]) (va_runV (As := [.int (-1)]) (rest := []) ⟨hx, hb, hml, hown, hts⟩ (m_tell_1 l D K a0 (.int 0) w1 a2 (.ref a1) w4 w5 w6 w7 w8 w9 w10 w11 w12 w13 w14 w15 w16 w17 w18 w19 w20 w21 w22 w23 w24 w25 w26 w27 w28 w29 w30 w31 w32 w33 w34 w35 w36 w37 w38 w39 w40 w41 w42 w43 w44 w45 w46 w47 w48 w49 w50 w51 w52 w53 w54 w55 w56 w57 w58 w59 (fun _ => 0) H.size) (cwV 1 hts gX12_score_X12_tell rfl rfl rfl (by decide +kernel) ⟨Nat.le_of_ble_eq_true rfl, Nat.le_of_ble_eq_true rfl⟩) (mkV hK hN (hP.sub [0, 2] rfl) (hD.sub [0, 2] (by decide) rfl) (ci := 12) (q0 := 0) rfl rfl) rfl rfl hl.1 rfl (lv_room (Nat.le_of_ble_eq_true rfl)) dX12_score_43 ⟨Nat.le_of_ble_eq_true rfl, Nat.le_of_ble_eq_true rfl⟩) hP hD hS hA [0, 2] [1] rfl rfl (by decide) (by decide) (fun r_20 u_21 H locs hw hP hD hS => ?_)
    have hP : va_P D vwCl [(a1, .inl (K 0, 5500, .inl row0))] H := hP
    have hD : va_D A [(a1, .inl (K 0, 5500, .inl row0))] := hD
    obtain rfl : r_20 = (-1) := hw
    exact W.iret (v := (-1)) hx hb hr (fun t ht hW => ⟨⟨(-1), (), rfl, (by first | exact Or.inr (⟨rfl, by first | omega | decide | (subst_vars; assumption) | (subst_vars; symm; assumption)⟩)), Wd.nil⟩, hS.F ht⟩) hS.2.2 dX12_score_46
set_option maxHeartbeats 4000000 in
set_option maxRecDepth 100000 in
theorem r_house (l : Launch) (D : va_G) (K : Nat → ClassId) (a0 : Nat) (x0 : Int32) (x1 : Int32) (x2 : Int32) (x3 : Int32) (x4 : Int32) (w0 : Value) (w1 : Value) (a2 : Nat) (a1 : Nat) (w4 : Value) (w5 : Value) (w6 : Value) (w7 : Value) (w8 : Value) (w9 : Value) (w10 : Value) (w11 : Value) (w12 : Value) (w13 : Value) (w14 : Value) (w15 : Value) (w16 : Value) (w17 : Value) (w18 : Value) (w19 : Value) (w20 : Value) (w21 : Value) (w22 : Value) (w23 : Value) (w24 : Value) (w25 : Value) (w26 : Value) (w27 : Value) (w28 : Value) (w29 : Value) (w30 : Value) (w31 : Value) (w32 : Value) (w33 : Value) (w34 : Value) (w35 : Value) (w36 : Value) (w37 : Value) (w38 : Value) (w39 : Value) (w40 : Value) (w41 : Value) (w42 : Value) (w43 : Value) (w44 : Value) (w45 : Value) (w46 : Value) (w47 : Value) (w48 : Value) (w49 : Value) (w50 : Value) (w51 : Value) (w52 : Value) (w53 : Value) (w54 : Value) (w55 : Value) (w56 : Value) (w57 : Value) (w58 : Value) (w59 : Value) (sz : Nat) : Met l yX12_house wsX12_house ({ frames := 1, cells := 0, slots := 0, locals := 25 }) (va_Pc [.ref a0, .int x0, .int x1, .int x2, .int x3, .int x4] (Pre D K [(a0, .inr (12, [w0, w1, .ref a2, .ref a1, w4, w5, w6, w7, w8, w9, w10, w11, w12, w13, w14, w15, w16, w17, w18, w19, w20, w21, w22, w23, w24, w25, w26, w27, w28, w29, w30, w31, w32, w33, w34, w35, w36, w37, w38, w39, w40, w41, w42, w43, w44, w45, w46, w47, w48, w49, w50, w51, w52, w53, w54, w55, w56, w57, w58, w59])), (a1, .inl (K 0, 5500, .inl row0)), (a2, .inl (K 0, 7, .inl (fun _ => 0)))] sz)) (va_Qi (S := Unit) (fun (r : Int32) (_ : Unit) => (r = 0 ∧ 0 ≤ x0.toInt ∧ x0.toInt ≤ 6 ∧ 0 ≤ x1.toInt ∧ x1.toInt ≤ 3 ∧ 0 ≤ x2.toInt ∧ x2.toInt ≤ 999 ∧ 0 ≤ x3.toInt ∧ x3.toInt ≤ 7 ∧ 0 ≤ x4.toInt ∧ x4.toInt ≤ 7) ∨ (r = (-1) ∧ (x0.toInt < 0 ∨ 6 < x0.toInt ∨ x1.toInt < 0 ∨ 3 < x1.toInt ∨ x2.toInt < 0 ∨ 999 < x2.toInt ∨ x3.toInt < 0 ∨ 7 < x3.toInt ∨ x4.toInt < 0 ∨ 7 < x4.toInt))) (fun u t => Wd D (va_A [(a0, .inr (12, [w0, w1, .ref a2, .ref a1, w4, w5, w6, w7, w8, w9, w10, w11, w12, w13, w14, w15, w16, w17, w18, w19, w20, w21, w22, w23, w24, w25, w26, w27, w28, w29, w30, w31, w32, w33, w34, w35, w36, w37, w38, w39, w40, w41, w42, w43, w44, w45, w46, w47, w48, w49, w50, w51, w52, w53, w54, w55, w56, w57, w58, w59])), (a1, .inl (K 0, 5500, .inl row0)), (a2, .inl (K 0, 7, .inl (fun _ => 0)))] sz) ((fun _ => []) u) t) (va_A [(a0, .inr (12, [w0, w1, .ref a2, .ref a1, w4, w5, w6, w7, w8, w9, w10, w11, w12, w13, w14, w15, w16, w17, w18, w19, w20, w21, w22, w23, w24, w25, w26, w27, w28, w29, w30, w31, w32, w33, w34, w35, w36, w37, w38, w39, w40, w41, w42, w43, w44, w45, w46, w47, w48, w49, w50, w51, w52, w53, w54, w55, w56, w57, w58, w59])), (a1, .inl (K 0, 5500, .inl row0)), (a2, .inl (K 0, 7, .inl (fun _ => 0)))] sz)) 0 0 (va_A [(a0, .inr (12, [w0, w1, .ref a2, .ref a1, w4, w5, w6, w7, w8, w9, w10, w11, w12, w13, w14, w15, w16, w17, w18, w19, w20, w21, w22, w23, w24, w25, w26, w27, w28, w29, w30, w31, w32, w33, w34, w35, w36, w37, w38, w39, w40, w41, w42, w43, w44, w45, w46, w47, w48, w49, w50, w51, w52, w53, w54, w55, w56, w57, w58, w59])), (a1, .inl (K 0, 5500, .inl row0)), (a2, .inl (K 0, 7, .inl (fun _ => 0)))] sz) := by
  refine Met.ofW (cc := cX12_house) (maxL := 8) (ret := (some .int)) (by decide) rfl ?_
  intro p e s m args below meth c s₁ B hml hv
  obtain ⟨rfl, hsz, hP, hK, hD0, hN⟩ := hv
  have hx := B.exec
  have hb := B.bytes
  have hr := B.returns
  have hts := atoms_spec (ws := wsX12_house) B.pre
  have hown : s.vm.findClass RX12 = some m.cls := findClass_of_methodNamed B.named
  have hlocks := B.notSynchronized
  subst hsz
  have hD := hD0.self (sz := s.heap.size)
  generalize hAe : va_A [(a0, .inr (12, [w0, w1, .ref a2, .ref a1, w4, w5, w6, w7, w8, w9, w10, w11, w12, w13, w14, w15, w16, w17, w18, w19, w20, w21, w22, w23, w24, w25, w26, w27, w28, w29, w30, w31, w32, w33, w34, w35, w36, w37, w38, w39, w40, w41, w42, w43, w44, w45, w46, w47, w48, w49, w50, w51, w52, w53, w54, w55, w56, w57, w58, w59])), (a1, .inl (K 0, 5500, .inl row0)), (a2, .inl (K 0, 7, .inl (fun _ => 0)))] s.heap.size = A at hD ⊢
  have hA : ∀ q : Nat, s.heap.size ≤ q → A q := fun q h => by rw [← hAe]; exact Or.inr h
  have hS : va_S A s.heap s.heap [] := va_S.rf
  have hP : va_P D vwCl [(a0, .inr (12, [w0, w1, .ref a2, .ref a1, w4, w5, w6, w7, w8, w9, w10, w11, w12, w13, w14, w15, w16, w17, w18, w19, w20, w21, w22, w23, w24, w25, w26, w27, w28, w29, w30, w31, w32, w33, w34, w35, w36, w37, w38, w39, w40, w41, w42, w43, w44, w45, w46, w47, w48, w49, w50, w51, w52, w53, w54, w55, w56, w57, w58, w59])), (a1, .inl (K 0, 5500, .inl row0)), (a2, .inl (K 0, 7, .inl (fun _ => 0)))] s.heap := hP
  have hl := lv_entry [.ref a0, .int x0, .int x1, .int x2, .int x3, .int x4] (n := 8) (Nat.le_of_ble_eq_true rfl)
  rw [lg_entry_eq]
  generalize (lg_sl [.ref a0, .int x0, .int x1, .int x2, .int x3, .int x4] ++ List.replicate (8 - (lg_sl [.ref a0, .int x0, .int x1, .int x2, .int x3, .int x4]).length) Slot.unset).toArray = ls at hl ⊢
  have hl : lv_has ls 8 [(0, .ref a0), (1, .int x0), (2, .int x1), (3, .int x2), (4, .int x3), (5, .int x4)] := hl
  have hw12 : ∀ w ∈ wsX120, w ∈ wsX12_house := fun w h => (List.mem_cons_of_mem _ (List.mem_append_right _ h))
  refine lv_aload_n hx hb dX12_house_0 rfl (lv_at hl 0 rfl) ?_
  refine lv_iconst (v := 0) hx hb dX12_house_1 (by decide) ?_
  refine va_put (ci := 12) (v := .int 0) (ty := .int) (C := RX12) (T := TX12) (N := 60) hx hb hts hw12 tyX12 tyX12_ok nmX12 hown hK hP hD hS 0 rfl rfl 0 (by decide) (hts (.fieldLink RX12 158 "SmokeTuneModel" "thrown" "I") (List.mem_cons_of_mem _ (List.mem_append_left _ (List.mem_of_getElem? (i := 0) rfl)))) (fun _ h9 => h9) rfl (by decide +kernel) (by first | rfl | decide) (by first | rfl | decide) (Nat.le_of_ble_eq_true rfl) dX12_house_2 (fun H locs hP hD hS => ?_)
  have hP : va_P D vwCl [(a0, .inr (12, [.int 0, w1, .ref a2, .ref a1, w4, w5, w6, w7, w8, w9, w10, w11, w12, w13, w14, w15, w16, w17, w18, w19, w20, w21, w22, w23, w24, w25, w26, w27, w28, w29, w30, w31, w32, w33, w34, w35, w36, w37, w38, w39, w40, w41, w42, w43, w44, w45, w46, w47, w48, w49, w50, w51, w52, w53, w54, w55, w56, w57, w58, w59])), (a1, .inl (K 0, 5500, .inl row0)), (a2, .inl (K 0, 7, .inl (fun _ => 0)))] H := hP
  have hD : va_D A [(a0, .inr (12, [.int 0, w1, .ref a2, .ref a1, w4, w5, w6, w7, w8, w9, w10, w11, w12, w13, w14, w15, w16, w17, w18, w19, w20, w21, w22, w23, w24, w25, w26, w27, w28, w29, w30, w31, w32, w33, w34, w35, w36, w37, w38, w39, w40, w41, w42, w43, w44, w45, w46, w47, w48, w49, w50, w51, w52, w53, w54, w55, w56, w57, w58, w59])), (a1, .inl (K 0, 5500, .inl row0)), (a2, .inl (K 0, 7, .inl (fun _ => 0)))] := hD
  refine lv_iload_n hx hb dX12_house_5 rfl (lv_at hl 1 rfl) ?_
  refine lv_i2l hx hb dX12_house_6 rfl ?_
  refine lv_topl (fun x_1 ex_1 => ?_)
  have hx_1 : x_1.toInt = x0.toInt := by rw [ex_1]; exact i_wide rfl
  refine lv_lconst (v := 0) hx hb dX12_house_7 (by decide) ?_
  refine lv_ldc2 (v := 6) hx hb hown (hts (.constantLong RX12 189 (6)) (List.mem_cons_of_mem _ (List.mem_append_left _ (List.mem_of_getElem? (i := 1) rfl)))) dX12_house_8 ?_
  refine pci (va_runS (As := [.long x_1, .long 0, .long 6]) (rest := []) ⟨hx, hb, hml, hown, hts⟩ (c_in l D K x_1 0 6 x0.toInt 0 6 H.size hx_1 rfl rfl) (va_cwS 3 hts gX12_house_X12_in rfl rfl rfl (by decide +kernel) ⟨Nat.le_of_ble_eq_true rfl, Nat.le_of_ble_eq_true rfl⟩) (mkS hK hN (hP.sub [] rfl) (hD.sub [] (by decide) rfl)) rfl rfl hl.1 rfl (lv_room (Nat.le_of_ble_eq_true rfl)) dX12_house_11 ⟨Nat.le_of_ble_eq_true rfl, Nat.le_of_ble_eq_true rfl⟩) (fun r_2 hw => ?_)
  rcases hw with ⟨rfl, h_3, h_4⟩ | ⟨rfl, h_5⟩
  · refine lv_if_eq (tgt := 67) hx hb dX12_house_14 (by decide) (fun c_6 => absurd c_6 (by decide)) (fun c_6 => ?_)
    refine lv_iload_n hx hb dX12_house_17 rfl (lv_at hl 2 rfl) ?_
    refine lv_i2l hx hb dX12_house_18 rfl ?_
    refine lv_topl (fun x_7 ex_7 => ?_)
    have hx_7 : x_7.toInt = x1.toInt := by rw [ex_7]; exact i_wide rfl
    refine lv_lconst (v := 0) hx hb dX12_house_19 (by decide) ?_
    refine lv_ldc2 (v := 3) hx hb hown (hts (.constantLong RX12 191 (3)) (List.mem_cons_of_mem _ (List.mem_append_left _ (List.mem_of_getElem? (i := 2) rfl)))) dX12_house_20 ?_
    refine pci (va_runS (As := [.long x_7, .long 0, .long 3]) (rest := []) ⟨hx, hb, hml, hown, hts⟩ (c_in l D K x_7 0 3 x1.toInt 0 3 H.size hx_7 rfl rfl) (va_cwS 3 hts gX12_house_X12_in rfl rfl rfl (by decide +kernel) ⟨Nat.le_of_ble_eq_true rfl, Nat.le_of_ble_eq_true rfl⟩) (mkS hK hN (hP.sub [] rfl) (hD.sub [] (by decide) rfl)) rfl rfl hl.1 rfl (lv_room (Nat.le_of_ble_eq_true rfl)) dX12_house_23 ⟨Nat.le_of_ble_eq_true rfl, Nat.le_of_ble_eq_true rfl⟩) (fun r_8 hw => ?_)
    rcases hw with ⟨rfl, h_9, h_10⟩ | ⟨rfl, h_11⟩
    · refine lv_if_eq (tgt := 67) hx hb dX12_house_26 (by decide) (fun c_12 => absurd c_12 (by decide)) (fun c_12 => ?_)
      refine lv_iload_n hx hb dX12_house_29 rfl (lv_at hl 3 rfl) ?_
      refine lv_i2l hx hb dX12_house_30 rfl ?_
      refine lv_topl (fun x_13 ex_13 => ?_)
      have hx_13 : x_13.toInt = x2.toInt := by rw [ex_13]; exact i_wide rfl
      refine lv_lconst (v := 0) hx hb dX12_house_31 (by decide) ?_
      refine lv_ldc2 (v := 999) hx hb hown (hts (.constantLong RX12 193 (999)) (List.mem_cons_of_mem _ (List.mem_append_left _ (List.mem_of_getElem? (i := 3) rfl)))) dX12_house_32 ?_
      refine pci (va_runS (As := [.long x_13, .long 0, .long 999]) (rest := []) ⟨hx, hb, hml, hown, hts⟩ (c_in l D K x_13 0 999 x2.toInt 0 999 H.size hx_13 rfl rfl) (va_cwS 3 hts gX12_house_X12_in rfl rfl rfl (by decide +kernel) ⟨Nat.le_of_ble_eq_true rfl, Nat.le_of_ble_eq_true rfl⟩) (mkS hK hN (hP.sub [] rfl) (hD.sub [] (by decide) rfl)) rfl rfl hl.1 rfl (lv_room (Nat.le_of_ble_eq_true rfl)) dX12_house_35 ⟨Nat.le_of_ble_eq_true rfl, Nat.le_of_ble_eq_true rfl⟩) (fun r_14 hw => ?_)
      rcases hw with ⟨rfl, h_15, h_16⟩ | ⟨rfl, h_17⟩
      · refine lv_if_eq (tgt := 67) hx hb dX12_house_38 (by decide) (fun c_18 => absurd c_18 (by decide)) (fun c_18 => ?_)
        refine lv_iload hx hb dX12_house_41 (lv_at hl 4 rfl) ?_
        refine lv_i2l hx hb dX12_house_43 rfl ?_
        refine lv_topl (fun x_19 ex_19 => ?_)
        have hx_19 : x_19.toInt = x3.toInt := by rw [ex_19]; exact i_wide rfl
        refine lv_lconst (v := 0) hx hb dX12_house_44 (by decide) ?_
        refine lv_ldc2 (v := 7) hx hb hown (hts (.constantLong RX12 195 (7)) (List.mem_cons_of_mem _ (List.mem_append_left _ (List.mem_of_getElem? (i := 4) rfl)))) dX12_house_45 ?_
        refine pci (va_runS (As := [.long x_19, .long 0, .long 7]) (rest := []) ⟨hx, hb, hml, hown, hts⟩ (c_in l D K x_19 0 7 x3.toInt 0 7 H.size hx_19 rfl rfl) (va_cwS 3 hts gX12_house_X12_in rfl rfl rfl (by decide +kernel) ⟨Nat.le_of_ble_eq_true rfl, Nat.le_of_ble_eq_true rfl⟩) (mkS hK hN (hP.sub [] rfl) (hD.sub [] (by decide) rfl)) rfl rfl hl.1 rfl (lv_room (Nat.le_of_ble_eq_true rfl)) dX12_house_48 ⟨Nat.le_of_ble_eq_true rfl, Nat.le_of_ble_eq_true rfl⟩) (fun r_20 hw => ?_)
        rcases hw with ⟨rfl, h_21, h_22⟩ | ⟨rfl, h_23⟩
        · refine lv_if_eq (tgt := 67) hx hb dX12_house_51 (by decide) (fun c_24 => absurd c_24 (by decide)) (fun c_24 => ?_)
          refine lv_iload hx hb dX12_house_54 (lv_at hl 5 rfl) ?_
          refine lv_i2l hx hb dX12_house_56 rfl ?_
          refine lv_topl (fun x_25 ex_25 => ?_)
          have hx_25 : x_25.toInt = x4.toInt := by rw [ex_25]; exact i_wide rfl
          refine lv_lconst (v := 0) hx hb dX12_house_57 (by decide) ?_
          refine lv_ldc2 (v := 7) hx hb hown (hts (.constantLong RX12 195 (7)) (List.mem_cons_of_mem _ (List.mem_append_left _ (List.mem_of_getElem? (i := 4) rfl)))) dX12_house_58 ?_
          refine pci (va_runS (As := [.long x_25, .long 0, .long 7]) (rest := []) ⟨hx, hb, hml, hown, hts⟩ (c_in l D K x_25 0 7 x4.toInt 0 7 H.size hx_25 rfl rfl) (va_cwS 3 hts gX12_house_X12_in rfl rfl rfl (by decide +kernel) ⟨Nat.le_of_ble_eq_true rfl, Nat.le_of_ble_eq_true rfl⟩) (mkS hK hN (hP.sub [] rfl) (hD.sub [] (by decide) rfl)) rfl rfl hl.1 rfl (lv_room (Nat.le_of_ble_eq_true rfl)) dX12_house_61 ⟨Nat.le_of_ble_eq_true rfl, Nat.le_of_ble_eq_true rfl⟩) (fun r_26 hw => ?_)
          rcases hw with ⟨rfl, h_27, h_28⟩ | ⟨rfl, h_29⟩
          · refine lv_if_ne (tgt := 73) hx hb dX12_house_64 (by decide) (fun c_30 => ?_) (fun c_30 => absurd c_30 (by decide))
            refine lv_aload_n hx hb dX12_house_73 rfl (lv_at hl 0 rfl) ?_
            refine va_get (ci := 12) (v := .ref a1) (C := RX12) (T := TX12) (N := 60) hx hb hts hw12 hown hK hP 0 rfl rfl 3 (by decide) (hts (.fieldLink RX12 13 "SmokeTuneModel" "row" "[I") (List.mem_cons_of_mem _ (List.mem_append_left _ (List.mem_of_getElem? (i := 5) rfl)))) (fun _ h9 => h9) rfl dX12_house_74 ?_
            refine lv_iconst (v := 0) hx hb dX12_house_77 (by decide) ?_
            refine va_iald hx hb hK hP 1 0 rfl rfl (i_in (x := 0) rfl (by omega)) dX12_house_78 ?_
            refine lv_topi (fun x_31 ex_31 => ?_)
            obtain rfl : x_31 = 0 := ex_31.trans (by first | rfl | decide | exact rfl)
            refine lv_istore (lv' := [(6, .int 0), (0, .ref a0), (1, .int x0), (2, .int x1), (3, .int x2), (4, .int x3), (5, .int x4)]) hx hb dX12_house_79 hl (by decide) rfl (fun ls hl => ?_)
            refine lv_iconst (v := 0) hx hb dX12_house_81 (by decide) ?_
            refine lv_istore (lv' := [(7, .int 0), (6, .int 0), (0, .ref a0), (1, .int x0), (2, .int x1), (3, .int x2), (4, .int x3), (5, .int x4)]) hx hb dX12_house_82 hl (by decide) rfl (fun ls hl => ?_)
            refine lv_iload hx hb dX12_house_84 (lv_at hl 0 rfl) ?_
            refine lv_iload hx hb dX12_house_86 (lv_at hl 1 rfl) ?_
            refine lv_icmp_ge (tgt := 119) hx hb dX12_house_88 (by decide) (fun c_32 => ?_) (fun c_32 => absurd (by decide) c_32)
            refine lv_iload hx hb dX12_house_119 (lv_at hl 1 rfl) ?_
            refine lv_bipush (v := 8) hx hb dX12_house_121 (by decide) ?_
            refine lv_icmp_ne (tgt := 133) hx hb dX12_house_123 (by decide) (fun c_33 => ?_) (fun c_33 => absurd c_33 (by decide))
            refine lv_aload_n hx hb dX12_house_133 rfl (lv_at hl 2 rfl) ?_
            refine va_get (ci := 12) (v := .ref a1) (C := RX12) (T := TX12) (N := 60) hx hb hts hw12 hown hK hP 0 rfl rfl 3 (by decide) (hts (.fieldLink RX12 13 "SmokeTuneModel" "row" "[I") (List.mem_cons_of_mem _ (List.mem_append_left _ (List.mem_of_getElem? (i := 5) rfl)))) (fun _ h9 => h9) rfl dX12_house_134 ?_
            refine lv_bipush (v := 35) hx hb dX12_house_137 (by decide) ?_
            refine lv_iload hx hb dX12_house_139 (lv_at hl 1 rfl) ?_
            refine lv_iadd hx hb dX12_house_141 ?_
            refine lv_topi (fun x_34 ex_34 => ?_)
            obtain rfl : x_34 = 35 := ex_34.trans (by first | rfl | decide)
            refine lv_iload_n hx hb dX12_house_142 rfl (lv_at hl 3 rfl) ?_
            refine va_iast hx hb hK hP hD hS 1 0 rfl rfl (i_in (x := 35) rfl (by omega)) dX12_house_143 (fun H locs hP hD hS => ?_)
            have hP : va_P D vwCl [(a0, .inr (12, [.int 0, w1, .ref a2, .ref a1, w4, w5, w6, w7, w8, w9, w10, w11, w12, w13, w14, w15, w16, w17, w18, w19, w20, w21, w22, w23, w24, w25, w26, w27, w28, w29, w30, w31, w32, w33, w34, w35, w36, w37, w38, w39, w40, w41, w42, w43, w44, w45, w46, w47, w48, w49, w50, w51, w52, w53, w54, w55, w56, w57, w58, w59])), (a1, .inl (K 0, 5500, .inl (upd (row0) 35 x0))), (a2, .inl (K 0, 7, .inl (fun _ => 0)))] H := hP
            have hD : va_D A [(a0, .inr (12, [.int 0, w1, .ref a2, .ref a1, w4, w5, w6, w7, w8, w9, w10, w11, w12, w13, w14, w15, w16, w17, w18, w19, w20, w21, w22, w23, w24, w25, w26, w27, w28, w29, w30, w31, w32, w33, w34, w35, w36, w37, w38, w39, w40, w41, w42, w43, w44, w45, w46, w47, w48, w49, w50, w51, w52, w53, w54, w55, w56, w57, w58, w59])), (a1, .inl (K 0, 5500, .inl (upd (row0) 35 x0))), (a2, .inl (K 0, 7, .inl (fun _ => 0)))] := hD
            refine lv_aload_n hx hb dX12_house_144 rfl (lv_at hl 2 rfl) ?_
            refine va_get (ci := 12) (v := .ref a1) (C := RX12) (T := TX12) (N := 60) hx hb hts hw12 hown hK hP 0 rfl rfl 3 (by decide) (hts (.fieldLink RX12 13 "SmokeTuneModel" "row" "[I") (List.mem_cons_of_mem _ (List.mem_append_left _ (List.mem_of_getElem? (i := 5) rfl)))) (fun _ h9 => h9) rfl dX12_house_145 ?_
            refine lv_bipush (v := 43) hx hb dX12_house_148 (by decide) ?_
            refine lv_iload hx hb dX12_house_150 (lv_at hl 1 rfl) ?_
            refine lv_iadd hx hb dX12_house_152 ?_
            refine lv_topi (fun x_35 ex_35 => ?_)
            obtain rfl : x_35 = 43 := ex_35.trans (by first | rfl | decide)
            refine lv_iload_n hx hb dX12_house_153 rfl (lv_at hl 4 rfl) ?_
            refine va_iast hx hb hK hP hD hS 1 0 rfl rfl (i_in (x := 43) rfl (by omega)) dX12_house_154 (fun H locs hP hD hS => ?_)
            have hP : va_P D vwCl [(a0, .inr (12, [.int 0, w1, .ref a2, .ref a1, w4, w5, w6, w7, w8, w9, w10, w11, w12, w13, w14, w15, w16, w17, w18, w19, w20, w21, w22, w23, w24, w25, w26, w27, w28, w29, w30, w31, w32, w33, w34, w35, w36, w37, w38, w39, w40, w41, w42, w43, w44, w45, w46, w47, w48, w49, w50, w51, w52, w53, w54, w55, w56, w57, w58, w59])), (a1, .inl (K 0, 5500, .inl (upd (upd (row0) 35 x0) 43 x1))), (a2, .inl (K 0, 7, .inl (fun _ => 0)))] H := hP
            have hD : va_D A [(a0, .inr (12, [.int 0, w1, .ref a2, .ref a1, w4, w5, w6, w7, w8, w9, w10, w11, w12, w13, w14, w15, w16, w17, w18, w19, w20, w21, w22, w23, w24, w25, w26, w27, w28, w29, w30, w31, w32, w33, w34, w35, w36, w37, w38, w39, w40, w41, w42, w43, w44, w45, w46, w47, w48, w49, w50, w51, w52, w53, w54, w55, w56, w57, w58, w59])), (a1, .inl (K 0, 5500, .inl (upd (upd (row0) 35 x0) 43 x1))), (a2, .inl (K 0, 7, .inl (fun _ => 0)))] := hD
            refine lv_aload_n hx hb dX12_house_155 rfl (lv_at hl 2 rfl) ?_
            refine va_get (ci := 12) (v := .ref a1) (C := RX12) (T := TX12) (N := 60) hx hb hts hw12 hown hK hP 0 rfl rfl 3 (by decide) (hts (.fieldLink RX12 13 "SmokeTuneModel" "row" "[I") (List.mem_cons_of_mem _ (List.mem_append_left _ (List.mem_of_getElem? (i := 5) rfl)))) (fun _ h9 => h9) rfl dX12_house_156 ?_
            refine lv_bipush (v := 19) hx hb dX12_house_159 (by decide) ?_
            refine lv_iload hx hb dX12_house_161 (lv_at hl 1 rfl) ?_
            refine lv_iadd hx hb dX12_house_163 ?_
            refine lv_topi (fun x_36 ex_36 => ?_)
            obtain rfl : x_36 = 19 := ex_36.trans (by first | rfl | decide)
            refine lv_iload_n hx hb dX12_house_164 rfl (lv_at hl 5 rfl) ?_
            refine va_iast hx hb hK hP hD hS 1 0 rfl rfl (i_in (x := 19) rfl (by omega)) dX12_house_165 (fun H locs hP hD hS => ?_)
            have hP : va_P D vwCl [(a0, .inr (12, [.int 0, w1, .ref a2, .ref a1, w4, w5, w6, w7, w8, w9, w10, w11, w12, w13, w14, w15, w16, w17, w18, w19, w20, w21, w22, w23, w24, w25, w26, w27, w28, w29, w30, w31, w32, w33, w34, w35, w36, w37, w38, w39, w40, w41, w42, w43, w44, w45, w46, w47, w48, w49, w50, w51, w52, w53, w54, w55, w56, w57, w58, w59])), (a1, .inl (K 0, 5500, .inl (upd (upd (upd (row0) 35 x0) 43 x1) 19 x2))), (a2, .inl (K 0, 7, .inl (fun _ => 0)))] H := hP
            have hD : va_D A [(a0, .inr (12, [.int 0, w1, .ref a2, .ref a1, w4, w5, w6, w7, w8, w9, w10, w11, w12, w13, w14, w15, w16, w17, w18, w19, w20, w21, w22, w23, w24, w25, w26, w27, w28, w29, w30, w31, w32, w33, w34, w35, w36, w37, w38, w39, w40, w41, w42, w43, w44, w45, w46, w47, w48, w49, w50, w51, w52, w53, w54, w55, w56, w57, w58, w59])), (a1, .inl (K 0, 5500, .inl (upd (upd (upd (row0) 35 x0) 43 x1) 19 x2))), (a2, .inl (K 0, 7, .inl (fun _ => 0)))] := hD
            refine lv_aload_n hx hb dX12_house_166 rfl (lv_at hl 2 rfl) ?_
            refine va_get (ci := 12) (v := .ref a1) (C := RX12) (T := TX12) (N := 60) hx hb hts hw12 hown hK hP 0 rfl rfl 3 (by decide) (hts (.fieldLink RX12 13 "SmokeTuneModel" "row" "[I") (List.mem_cons_of_mem _ (List.mem_append_left _ (List.mem_of_getElem? (i := 5) rfl)))) (fun _ h9 => h9) rfl dX12_house_167 ?_
            refine lv_bipush (v := 51) hx hb dX12_house_170 (by decide) ?_
            refine lv_iload hx hb dX12_house_172 (lv_at hl 1 rfl) ?_
            refine lv_iadd hx hb dX12_house_174 ?_
            refine lv_topi (fun x_37 ex_37 => ?_)
            obtain rfl : x_37 = 51 := ex_37.trans (by first | rfl | decide)
            refine lv_iload hx hb dX12_house_175 (lv_at hl 6 rfl) ?_
            refine va_iast hx hb hK hP hD hS 1 0 rfl rfl (i_in (x := 51) rfl (by omega)) dX12_house_177 (fun H locs hP hD hS => ?_)
            have hP : va_P D vwCl [(a0, .inr (12, [.int 0, w1, .ref a2, .ref a1, w4, w5, w6, w7, w8, w9, w10, w11, w12, w13, w14, w15, w16, w17, w18, w19, w20, w21, w22, w23, w24, w25, w26, w27, w28, w29, w30, w31, w32, w33, w34, w35, w36, w37, w38, w39, w40, w41, w42, w43, w44, w45, w46, w47, w48, w49, w50, w51, w52, w53, w54, w55, w56, w57, w58, w59])), (a1, .inl (K 0, 5500, .inl (upd (upd (upd (upd (row0) 35 x0) 43 x1) 19 x2) 51 x3))), (a2, .inl (K 0, 7, .inl (fun _ => 0)))] H := hP
            have hD : va_D A [(a0, .inr (12, [.int 0, w1, .ref a2, .ref a1, w4, w5, w6, w7, w8, w9, w10, w11, w12, w13, w14, w15, w16, w17, w18, w19, w20, w21, w22, w23, w24, w25, w26, w27, w28, w29, w30, w31, w32, w33, w34, w35, w36, w37, w38, w39, w40, w41, w42, w43, w44, w45, w46, w47, w48, w49, w50, w51, w52, w53, w54, w55, w56, w57, w58, w59])), (a1, .inl (K 0, 5500, .inl (upd (upd (upd (upd (row0) 35 x0) 43 x1) 19 x2) 51 x3))), (a2, .inl (K 0, 7, .inl (fun _ => 0)))] := hD
            refine lv_aload_n hx hb dX12_house_178 rfl (lv_at hl 2 rfl) ?_
            refine va_get (ci := 12) (v := .ref a1) (C := RX12) (T := TX12) (N := 60) hx hb hts hw12 hown hK hP 0 rfl rfl 3 (by decide) (hts (.fieldLink RX12 13 "SmokeTuneModel" "row" "[I") (List.mem_cons_of_mem _ (List.mem_append_left _ (List.mem_of_getElem? (i := 5) rfl)))) (fun _ h9 => h9) rfl dX12_house_179 ?_
            refine lv_bipush (v := 59) hx hb dX12_house_182 (by decide) ?_
            refine lv_iload hx hb dX12_house_184 (lv_at hl 1 rfl) ?_
            refine lv_iadd hx hb dX12_house_186 ?_
            refine lv_topi (fun x_38 ex_38 => ?_)
            obtain rfl : x_38 = 59 := ex_38.trans (by first | rfl | decide)
            refine lv_iload hx hb dX12_house_187 (lv_at hl 7 rfl) ?_
            refine va_iast hx hb hK hP hD hS 1 0 rfl rfl (i_in (x := 59) rfl (by omega)) dX12_house_189 (fun H locs hP hD hS => ?_)
            have hP : va_P D vwCl [(a0, .inr (12, [.int 0, w1, .ref a2, .ref a1, w4, w5, w6, w7, w8, w9, w10, w11, w12, w13, w14, w15, w16, w17, w18, w19, w20, w21, w22, w23, w24, w25, w26, w27, w28, w29, w30, w31, w32, w33, w34, w35, w36, w37, w38, w39, w40, w41, w42, w43, w44, w45, w46, w47, w48, w49, w50, w51, w52, w53, w54, w55, w56, w57, w58, w59])), (a1, .inl (K 0, 5500, .inl (upd (upd (upd (upd (upd (row0) 35 x0) 43 x1) 19 x2) 51 x3) 59 x4))), (a2, .inl (K 0, 7, .inl (fun _ => 0)))] H := hP
            have hD : va_D A [(a0, .inr (12, [.int 0, w1, .ref a2, .ref a1, w4, w5, w6, w7, w8, w9, w10, w11, w12, w13, w14, w15, w16, w17, w18, w19, w20, w21, w22, w23, w24, w25, w26, w27, w28, w29, w30, w31, w32, w33, w34, w35, w36, w37, w38, w39, w40, w41, w42, w43, w44, w45, w46, w47, w48, w49, w50, w51, w52, w53, w54, w55, w56, w57, w58, w59])), (a1, .inl (K 0, 5500, .inl (upd (upd (upd (upd (upd (row0) 35 x0) 43 x1) 19 x2) 51 x3) 59 x4))), (a2, .inl (K 0, 7, .inl (fun _ => 0)))] := hD
            refine lv_aload_n hx hb dX12_house_190 rfl (lv_at hl 2 rfl) ?_
            refine va_get (ci := 12) (v := .ref a1) (C := RX12) (T := TX12) (N := 60) hx hb hts hw12 hown hK hP 0 rfl rfl 3 (by decide) (hts (.fieldLink RX12 13 "SmokeTuneModel" "row" "[I") (List.mem_cons_of_mem _ (List.mem_append_left _ (List.mem_of_getElem? (i := 5) rfl)))) (fun _ h9 => h9) rfl dX12_house_191 ?_
            refine lv_bipush (v := 11) hx hb dX12_house_194 (by decide) ?_
            refine lv_iload hx hb dX12_house_196 (lv_at hl 1 rfl) ?_
            refine lv_iadd hx hb dX12_house_198 ?_
            refine lv_topi (fun x_39 ex_39 => ?_)
            obtain rfl : x_39 = 11 := ex_39.trans (by first | rfl | decide)
            refine lv_iconst (v := 0) hx hb dX12_house_199 (by decide) ?_
            refine va_iast hx hb hK hP hD hS 1 0 rfl rfl (i_in (x := 11) rfl (by omega)) dX12_house_200 (fun H locs hP hD hS => ?_)
            have hP : va_P D vwCl [(a0, .inr (12, [.int 0, w1, .ref a2, .ref a1, w4, w5, w6, w7, w8, w9, w10, w11, w12, w13, w14, w15, w16, w17, w18, w19, w20, w21, w22, w23, w24, w25, w26, w27, w28, w29, w30, w31, w32, w33, w34, w35, w36, w37, w38, w39, w40, w41, w42, w43, w44, w45, w46, w47, w48, w49, w50, w51, w52, w53, w54, w55, w56, w57, w58, w59])), (a1, .inl (K 0, 5500, .inl (upd (upd (upd (upd (upd (upd (row0) 35 x0) 43 x1) 19 x2) 51 x3) 59 x4) 11 0))), (a2, .inl (K 0, 7, .inl (fun _ => 0)))] H := hP
            have hD : va_D A [(a0, .inr (12, [.int 0, w1, .ref a2, .ref a1, w4, w5, w6, w7, w8, w9, w10, w11, w12, w13, w14, w15, w16, w17, w18, w19, w20, w21, w22, w23, w24, w25, w26, w27, w28, w29, w30, w31, w32, w33, w34, w35, w36, w37, w38, w39, w40, w41, w42, w43, w44, w45, w46, w47, w48, w49, w50, w51, w52, w53, w54, w55, w56, w57, w58, w59])), (a1, .inl (K 0, 5500, .inl (upd (upd (upd (upd (upd (upd (row0) 35 x0) 43 x1) 19 x2) 51 x3) 59 x4) 11 0))), (a2, .inl (K 0, 7, .inl (fun _ => 0)))] := hD
            refine lv_aload_n hx hb dX12_house_201 rfl (lv_at hl 2 rfl) ?_
            refine va_get (ci := 12) (v := .ref a1) (C := RX12) (T := TX12) (N := 60) hx hb hts hw12 hown hK hP 0 rfl rfl 3 (by decide) (hts (.fieldLink RX12 13 "SmokeTuneModel" "row" "[I") (List.mem_cons_of_mem _ (List.mem_append_left _ (List.mem_of_getElem? (i := 5) rfl)))) (fun _ h9 => h9) rfl dX12_house_202 ?_
            refine lv_bipush (v := 27) hx hb dX12_house_205 (by decide) ?_
            refine lv_iload hx hb dX12_house_207 (lv_at hl 1 rfl) ?_
            refine lv_iadd hx hb dX12_house_209 ?_
            refine lv_topi (fun x_40 ex_40 => ?_)
            obtain rfl : x_40 = 27 := ex_40.trans (by first | rfl | decide)
            refine lv_iconst (v := 0) hx hb dX12_house_210 (by decide) ?_
            refine va_iast hx hb hK hP hD hS 1 0 rfl rfl (i_in (x := 27) rfl (by omega)) dX12_house_211 (fun H locs hP hD hS => ?_)
            have hP : va_P D vwCl [(a0, .inr (12, [.int 0, w1, .ref a2, .ref a1, w4, w5, w6, w7, w8, w9, w10, w11, w12, w13, w14, w15, w16, w17, w18, w19, w20, w21, w22, w23, w24, w25, w26, w27, w28, w29, w30, w31, w32, w33, w34, w35, w36, w37, w38, w39, w40, w41, w42, w43, w44, w45, w46, w47, w48, w49, w50, w51, w52, w53, w54, w55, w56, w57, w58, w59])), (a1, .inl (K 0, 5500, .inl (upd (upd (upd (upd (upd (upd (upd (row0) 35 x0) 43 x1) 19 x2) 51 x3) 59 x4) 11 0) 27 0))), (a2, .inl (K 0, 7, .inl (fun _ => 0)))] H := hP
            have hD : va_D A [(a0, .inr (12, [.int 0, w1, .ref a2, .ref a1, w4, w5, w6, w7, w8, w9, w10, w11, w12, w13, w14, w15, w16, w17, w18, w19, w20, w21, w22, w23, w24, w25, w26, w27, w28, w29, w30, w31, w32, w33, w34, w35, w36, w37, w38, w39, w40, w41, w42, w43, w44, w45, w46, w47, w48, w49, w50, w51, w52, w53, w54, w55, w56, w57, w58, w59])), (a1, .inl (K 0, 5500, .inl (upd (upd (upd (upd (upd (upd (upd (row0) 35 x0) 43 x1) 19 x2) 51 x3) 59 x4) 11 0) 27 0))), (a2, .inl (K 0, 7, .inl (fun _ => 0)))] := hD
            refine lv_aload_n hx hb dX12_house_212 rfl (lv_at hl 2 rfl) ?_
            refine va_get (ci := 12) (v := .ref a1) (C := RX12) (T := TX12) (N := 60) hx hb hts hw12 hown hK hP 0 rfl rfl 3 (by decide) (hts (.fieldLink RX12 13 "SmokeTuneModel" "row" "[I") (List.mem_cons_of_mem _ (List.mem_append_left _ (List.mem_of_getElem? (i := 5) rfl)))) (fun _ h9 => h9) rfl dX12_house_213 ?_
            refine lv_iconst (v := 0) hx hb dX12_house_216 (by decide) ?_
            refine lv_dup2_11 hx hb dX12_house_217 rfl rfl ?_
            refine va_iald hx hb hK hP 1 0 rfl rfl (i_in (x := 0) rfl (by omega)) dX12_house_218 ?_
            refine lv_topi (fun x_41 ex_41 => ?_)
            obtain rfl : x_41 = 0 := ex_41.trans rfl
            refine lv_iconst (v := 1) hx hb dX12_house_219 (by decide) ?_
            refine lv_iadd hx hb dX12_house_220 ?_
            refine lv_topi (fun x_42 ex_42 => ?_)
            obtain rfl : x_42 = 1 := ex_42.trans (by first | rfl | decide)
            refine va_iast hx hb hK hP hD hS 1 0 rfl rfl (i_in (x := 0) rfl (by omega)) dX12_house_221 (fun H locs hP hD hS => ?_)
            have hP : va_P D vwCl [(a0, .inr (12, [.int 0, w1, .ref a2, .ref a1, w4, w5, w6, w7, w8, w9, w10, w11, w12, w13, w14, w15, w16, w17, w18, w19, w20, w21, w22, w23, w24, w25, w26, w27, w28, w29, w30, w31, w32, w33, w34, w35, w36, w37, w38, w39, w40, w41, w42, w43, w44, w45, w46, w47, w48, w49, w50, w51, w52, w53, w54, w55, w56, w57, w58, w59])), (a1, .inl (K 0, 5500, .inl (upd (upd (upd (upd (upd (upd (upd (upd (row0) 35 x0) 43 x1) 19 x2) 51 x3) 59 x4) 11 0) 27 0) 0 1))), (a2, .inl (K 0, 7, .inl (fun _ => 0)))] H := hP
            have hD : va_D A [(a0, .inr (12, [.int 0, w1, .ref a2, .ref a1, w4, w5, w6, w7, w8, w9, w10, w11, w12, w13, w14, w15, w16, w17, w18, w19, w20, w21, w22, w23, w24, w25, w26, w27, w28, w29, w30, w31, w32, w33, w34, w35, w36, w37, w38, w39, w40, w41, w42, w43, w44, w45, w46, w47, w48, w49, w50, w51, w52, w53, w54, w55, w56, w57, w58, w59])), (a1, .inl (K 0, 5500, .inl (upd (upd (upd (upd (upd (upd (upd (upd (row0) 35 x0) 43 x1) 19 x2) 51 x3) 59 x4) 11 0) 27 0) 0 1))), (a2, .inl (K 0, 7, .inl (fun _ => 0)))] := hD
            refine lv_aload_n hx hb dX12_house_222 rfl (lv_at hl 2 rfl) ?_
            refine lv_iconst (v := 0) hx hb dX12_house_223 (by decide) ?_
            refine va_put (ci := 12) (v := .int 0) (ty := .int) (C := RX12) (T := TX12) (N := 60) hx hb hts hw12 tyX12 tyX12_ok nmX12 hown hK hP hD hS 0 rfl rfl 8 (by decide) (hts (.fieldLink RX12 164 "SmokeTuneModel" "nUndo" "I") (List.mem_cons_of_mem _ (List.mem_append_left _ (List.mem_of_getElem? (i := 6) rfl)))) (fun _ h9 => h9) rfl (by decide +kernel) (by first | rfl | decide) (by first | rfl | decide) (Nat.le_of_ble_eq_true rfl) dX12_house_224 (fun H locs hP hD hS => ?_)
            have hP : va_P D vwCl [(a0, .inr (12, [.int 0, w1, .ref a2, .ref a1, w4, w5, w6, w7, .int 0, w9, w10, w11, w12, w13, w14, w15, w16, w17, w18, w19, w20, w21, w22, w23, w24, w25, w26, w27, w28, w29, w30, w31, w32, w33, w34, w35, w36, w37, w38, w39, w40, w41, w42, w43, w44, w45, w46, w47, w48, w49, w50, w51, w52, w53, w54, w55, w56, w57, w58, w59])), (a1, .inl (K 0, 5500, .inl (upd (upd (upd (upd (upd (upd (upd (upd (row0) 35 x0) 43 x1) 19 x2) 51 x3) 59 x4) 11 0) 27 0) 0 1))), (a2, .inl (K 0, 7, .inl (fun _ => 0)))] H := hP
            have hD : va_D A [(a0, .inr (12, [.int 0, w1, .ref a2, .ref a1, w4, w5, w6, w7, .int 0, w9, w10, w11, w12, w13, w14, w15, w16, w17, w18, w19, w20, w21, w22, w23, w24, w25, w26, w27, w28, w29, w30, w31, w32, w33, w34, w35, w36, w37, w38, w39, w40, w41, w42, w43, w44, w45, w46, w47, w48, w49, w50, w51, w52, w53, w54, w55, w56, w57, w58, w59])), (a1, .inl (K 0, 5500, .inl (upd (upd (upd (upd (upd (upd (upd (upd (row0) 35 x0) 43 x1) 19 x2) 51 x3) 59 x4) 11 0) 27 0) 0 1))), (a2, .inl (K 0, 7, .inl (fun _ => 0)))] := hD
            refine lv_aload_n hx hb dX12_house_227 rfl (lv_at hl 2 rfl) ?_
            refine lv_iload hx hb dX12_house_228 (lv_at hl 1 rfl) ?_
            refine kci (wr := [(a1, .inl (K 0, 5500, .inl (upd (upd (upd (upd (upd (upd (upd (upd (row0) 35 x0) 43 x1) 19 x2) 51 x3) 59 x4) 11 0) 27 0) 0 1))), (a2, .inl (K 0, 7, .inl (fun _ => 0)))]) (va_runV (As := [.int 0]) (rest := []) ⟨hx, hb, hml, hown, hts⟩ (m_tell_pos l D K a0 0 (.int 0) w1 (.ref a2) (.ref a1) w4 w5 w6 w7 (.int 0) w9 w10 w11 w12 w13 w14 w15 w16 w17 w18 w19 w20 w21 w22 w23 w24 w25 w26 w27 w28 w29 w30 w31 w32 w33 w34 w35 w36 w37 w38 w39 w40 w41 w42 w43 w44 w45 w46 w47 w48 w49 w50 w51 w52 w53 w54 w55 w56 w57 w58 w59 0 H.size rfl (by omega)) (cwV 1 hts gX12_house_X12_tell rfl rfl rfl (by decide +kernel) ⟨Nat.le_of_ble_eq_true rfl, Nat.le_of_ble_eq_true rfl⟩) (mkV hK hN (hP.sub [0] rfl) (hD.sub [0] (by decide) rfl) (ci := 12) (q0 := 0) rfl rfl) rfl rfl hl.1 rfl (lv_room (Nat.le_of_ble_eq_true rfl)) dX12_house_230 ⟨Nat.le_of_ble_eq_true rfl, Nat.le_of_ble_eq_true rfl⟩) hP hD hS hA [0] [1, 2] rfl rfl (by decide) (by decide) (fun r_43 u_44 H locs hw hP hD hS => ?_)
            have hP : va_P D vwCl [(a1, .inl (K 0, 5500, .inl (upd (upd (upd (upd (upd (upd (upd (upd (row0) 35 x0) 43 x1) 19 x2) 51 x3) 59 x4) 11 0) 27 0) 0 1))), (a2, .inl (K 0, 7, .inl (fun _ => 0)))] H := hP
            have hD : va_D A [(a1, .inl (K 0, 5500, .inl (upd (upd (upd (upd (upd (upd (upd (upd (row0) 35 x0) 43 x1) 19 x2) 51 x3) 59 x4) 11 0) 27 0) 0 1))), (a2, .inl (K 0, 7, .inl (fun _ => 0)))] := hD
            obtain rfl : r_43 = 0 := hw
            exact W.iret (v := 0) hx hb hr (fun t ht hW => ⟨⟨0, (), rfl, (by first | exact Or.inl (⟨rfl, by first | omega | decide | (subst_vars; assumption) | (subst_vars; symm; assumption), by first | omega | decide | (subst_vars; assumption) | (subst_vars; symm; assumption), by first | omega | decide | (subst_vars; assumption) | (subst_vars; symm; assumption), by first | omega | decide | (subst_vars; assumption) | (subst_vars; symm; assumption), by first | omega | decide | (subst_vars; assumption) | (subst_vars; symm; assumption), by first | omega | decide | (subst_vars; assumption) | (subst_vars; symm; assumption), by first | omega | decide | (subst_vars; assumption) | (subst_vars; symm; assumption), by first | omega | decide | (subst_vars; assumption) | (subst_vars; symm; assumption), by first | omega | decide | (subst_vars; assumption) | (subst_vars; symm; assumption), by first | omega | decide | (subst_vars; assumption) | (subst_vars; symm; assumption)⟩)), Wd.nil⟩, hS.F ht⟩) hS.2.2 dX12_house_233
          · refine lv_if_ne (tgt := 73) hx hb dX12_house_64 (by decide) (fun c_45 => absurd (by decide) c_45) (fun c_45 => ?_)
            refine lv_aload_n hx hb dX12_house_67 rfl (lv_at hl 0 rfl) ?_
            refine lv_iconst (v := (-1)) hx hb dX12_house_68 (by decide) ?_
            refine kci (wr := [(a1, .inl (K 0, 5500, .inl row0))]) (va_runV (As := [.int (-1)]) (rest := []) ⟨hx, hb, hml, hown, hts⟩ (m_tell_1 l D K a0 (.int 0) w1 a2 (.ref a1) w4 w5 w6 w7 w8 w9 w10 w11 w12 w13 w14 w15 w16 w17 w18 w19 w20 w21 w22 w23 w24 w25 w26 w27 w28 w29 w30 w31 w32 w33 w34 w35 w36 w37 w38 w39 w40 w41 w42 w43 w44 w45 w46 w47 w48 w49 w50 w51 w52 w53 w54 w55 w56 w57 w58 w59 (fun _ => 0) H.size) (cwV 1 hts gX12_house_X12_tell rfl rfl rfl (by decide +kernel) ⟨Nat.le_of_ble_eq_true rfl, Nat.le_of_ble_eq_true rfl⟩) (mkV hK hN (hP.sub [0, 2] rfl) (hD.sub [0, 2] (by decide) rfl) (ci := 12) (q0 := 0) rfl rfl) rfl rfl hl.1 rfl (lv_room (Nat.le_of_ble_eq_true rfl)) dX12_house_69 ⟨Nat.le_of_ble_eq_true rfl, Nat.le_of_ble_eq_true rfl⟩) hP hD hS hA [0, 2] [1] rfl rfl (by decide) (by decide) (fun r_46 u_47 H locs hw hP hD hS => ?_)
            have hP : va_P D vwCl [(a1, .inl (K 0, 5500, .inl row0))] H := hP
            have hD : va_D A [(a1, .inl (K 0, 5500, .inl row0))] := hD
            obtain rfl : r_46 = (-1) := hw
            exact W.iret (v := (-1)) hx hb hr (fun t ht hW => ⟨⟨(-1), (), rfl, (by first | exact Or.inr (⟨rfl, by first | omega | decide | (subst_vars; assumption) | (subst_vars; symm; assumption)⟩)), Wd.nil⟩, hS.F ht⟩) hS.2.2 dX12_house_72
        · refine lv_if_eq (tgt := 67) hx hb dX12_house_51 (by decide) (fun c_48 => ?_) (fun c_48 => absurd (by decide) c_48)
          refine lv_aload_n hx hb dX12_house_67 rfl (lv_at hl 0 rfl) ?_
          refine lv_iconst (v := (-1)) hx hb dX12_house_68 (by decide) ?_
          refine kci (wr := [(a1, .inl (K 0, 5500, .inl row0))]) (va_runV (As := [.int (-1)]) (rest := []) ⟨hx, hb, hml, hown, hts⟩ (m_tell_1 l D K a0 (.int 0) w1 a2 (.ref a1) w4 w5 w6 w7 w8 w9 w10 w11 w12 w13 w14 w15 w16 w17 w18 w19 w20 w21 w22 w23 w24 w25 w26 w27 w28 w29 w30 w31 w32 w33 w34 w35 w36 w37 w38 w39 w40 w41 w42 w43 w44 w45 w46 w47 w48 w49 w50 w51 w52 w53 w54 w55 w56 w57 w58 w59 (fun _ => 0) H.size) (cwV 1 hts gX12_house_X12_tell rfl rfl rfl (by decide +kernel) ⟨Nat.le_of_ble_eq_true rfl, Nat.le_of_ble_eq_true rfl⟩) (mkV hK hN (hP.sub [0, 2] rfl) (hD.sub [0, 2] (by decide) rfl) (ci := 12) (q0 := 0) rfl rfl) rfl rfl hl.1 rfl (lv_room (Nat.le_of_ble_eq_true rfl)) dX12_house_69 ⟨Nat.le_of_ble_eq_true rfl, Nat.le_of_ble_eq_true rfl⟩) hP hD hS hA [0, 2] [1] rfl rfl (by decide) (by decide) (fun r_49 u_50 H locs hw hP hD hS => ?_)
          have hP : va_P D vwCl [(a1, .inl (K 0, 5500, .inl row0))] H := hP
          have hD : va_D A [(a1, .inl (K 0, 5500, .inl row0))] := hD
          obtain rfl : r_49 = (-1) := hw
          exact W.iret (v := (-1)) hx hb hr (fun t ht hW => ⟨⟨(-1), (), rfl, (by first | exact Or.inr (⟨rfl, by first | omega | decide | (subst_vars; assumption) | (subst_vars; symm; assumption)⟩)), Wd.nil⟩, hS.F ht⟩) hS.2.2 dX12_house_72
      · refine lv_if_eq (tgt := 67) hx hb dX12_house_38 (by decide) (fun c_51 => ?_) (fun c_51 => absurd (by decide) c_51)
        refine lv_aload_n hx hb dX12_house_67 rfl (lv_at hl 0 rfl) ?_
        refine lv_iconst (v := (-1)) hx hb dX12_house_68 (by decide) ?_
        refine kci (wr := [(a1, .inl (K 0, 5500, .inl row0))]) (va_runV (As := [.int (-1)]) (rest := []) ⟨hx, hb, hml, hown, hts⟩ (m_tell_1 l D K a0 (.int 0) w1 a2 (.ref a1) w4 w5 w6 w7 w8 w9 w10 w11 w12 w13 w14 w15 w16 w17 w18 w19 w20 w21 w22 w23 w24 w25 w26 w27 w28 w29 w30 w31 w32 w33 w34 w35 w36 w37 w38 w39 w40 w41 w42 w43 w44 w45 w46 w47 w48 w49 w50 w51 w52 w53 w54 w55 w56 w57 w58 w59 (fun _ => 0) H.size) (cwV 1 hts gX12_house_X12_tell rfl rfl rfl (by decide +kernel) ⟨Nat.le_of_ble_eq_true rfl, Nat.le_of_ble_eq_true rfl⟩) (mkV hK hN (hP.sub [0, 2] rfl) (hD.sub [0, 2] (by decide) rfl) (ci := 12) (q0 := 0) rfl rfl) rfl rfl hl.1 rfl (lv_room (Nat.le_of_ble_eq_true rfl)) dX12_house_69 ⟨Nat.le_of_ble_eq_true rfl, Nat.le_of_ble_eq_true rfl⟩) hP hD hS hA [0, 2] [1] rfl rfl (by decide) (by decide) (fun r_52 u_53 H locs hw hP hD hS => ?_)
        have hP : va_P D vwCl [(a1, .inl (K 0, 5500, .inl row0))] H := hP
        have hD : va_D A [(a1, .inl (K 0, 5500, .inl row0))] := hD
        obtain rfl : r_52 = (-1) := hw
        exact W.iret (v := (-1)) hx hb hr (fun t ht hW => ⟨⟨(-1), (), rfl, (by first | exact Or.inr (⟨rfl, by first | omega | decide | (subst_vars; assumption) | (subst_vars; symm; assumption)⟩)), Wd.nil⟩, hS.F ht⟩) hS.2.2 dX12_house_72
    · refine lv_if_eq (tgt := 67) hx hb dX12_house_26 (by decide) (fun c_54 => ?_) (fun c_54 => absurd (by decide) c_54)
      refine lv_aload_n hx hb dX12_house_67 rfl (lv_at hl 0 rfl) ?_
      refine lv_iconst (v := (-1)) hx hb dX12_house_68 (by decide) ?_
      refine kci (wr := [(a1, .inl (K 0, 5500, .inl row0))]) (va_runV (As := [.int (-1)]) (rest := []) ⟨hx, hb, hml, hown, hts⟩ (m_tell_1 l D K a0 (.int 0) w1 a2 (.ref a1) w4 w5 w6 w7 w8 w9 w10 w11 w12 w13 w14 w15 w16 w17 w18 w19 w20 w21 w22 w23 w24 w25 w26 w27 w28 w29 w30 w31 w32 w33 w34 w35 w36 w37 w38 w39 w40 w41 w42 w43 w44 w45 w46 w47 w48 w49 w50 w51 w52 w53 w54 w55 w56 w57 w58 w59 (fun _ => 0) H.size) (cwV 1 hts gX12_house_X12_tell rfl rfl rfl (by decide +kernel) ⟨Nat.le_of_ble_eq_true rfl, Nat.le_of_ble_eq_true rfl⟩) (mkV hK hN (hP.sub [0, 2] rfl) (hD.sub [0, 2] (by decide) rfl) (ci := 12) (q0 := 0) rfl rfl) rfl rfl hl.1 rfl (lv_room (Nat.le_of_ble_eq_true rfl)) dX12_house_69 ⟨Nat.le_of_ble_eq_true rfl, Nat.le_of_ble_eq_true rfl⟩) hP hD hS hA [0, 2] [1] rfl rfl (by decide) (by decide) (fun r_55 u_56 H locs hw hP hD hS => ?_)
      have hP : va_P D vwCl [(a1, .inl (K 0, 5500, .inl row0))] H := hP
      have hD : va_D A [(a1, .inl (K 0, 5500, .inl row0))] := hD
      obtain rfl : r_55 = (-1) := hw
      exact W.iret (v := (-1)) hx hb hr (fun t ht hW => ⟨⟨(-1), (), rfl, (by first | exact Or.inr (⟨rfl, by first | omega | decide | (subst_vars; assumption) | (subst_vars; symm; assumption)⟩)), Wd.nil⟩, hS.F ht⟩) hS.2.2 dX12_house_72
  · refine lv_if_eq (tgt := 67) hx hb dX12_house_14 (by decide) (fun c_57 => ?_) (fun c_57 => absurd (by decide) c_57)
    refine lv_aload_n hx hb dX12_house_67 rfl (lv_at hl 0 rfl) ?_
    refine lv_iconst (v := (-1)) hx hb dX12_house_68 (by decide) ?_
    refine kci (wr := [(a1, .inl (K 0, 5500, .inl row0))]) (va_runV (As := [.int (-1)]) (rest := []) ⟨hx, hb, hml, hown, hts⟩ (m_tell_1 l D K a0 (.int 0) w1 a2 (.ref a1) w4 w5 w6 w7 w8 w9 w10 w11 w12 w13 w14 w15 w16 w17 w18 w19 w20 w21 w22 w23 w24 w25 w26 w27 w28 w29 w30 w31 w32 w33 w34 w35 w36 w37 w38 w39 w40 w41 w42 w43 w44 w45 w46 w47 w48 w49 w50 w51 w52 w53 w54 w55 w56 w57 w58 w59 (fun _ => 0) H.size) (cwV 1 hts gX12_house_X12_tell rfl rfl rfl (by decide +kernel) ⟨Nat.le_of_ble_eq_true rfl, Nat.le_of_ble_eq_true rfl⟩) (mkV hK hN (hP.sub [0, 2] rfl) (hD.sub [0, 2] (by decide) rfl) (ci := 12) (q0 := 0) rfl rfl) rfl rfl hl.1 rfl (lv_room (Nat.le_of_ble_eq_true rfl)) dX12_house_69 ⟨Nat.le_of_ble_eq_true rfl, Nat.le_of_ble_eq_true rfl⟩) hP hD hS hA [0, 2] [1] rfl rfl (by decide) (by decide) (fun r_58 u_59 H locs hw hP hD hS => ?_)
    have hP : va_P D vwCl [(a1, .inl (K 0, 5500, .inl row0))] H := hP
    have hD : va_D A [(a1, .inl (K 0, 5500, .inl row0))] := hD
    obtain rfl : r_58 = (-1) := hw
    exact W.iret (v := (-1)) hx hb hr (fun t ht hW => ⟨⟨(-1), (), rfl, (by first | exact Or.inr (⟨rfl, by first | omega | decide | (subst_vars; assumption) | (subst_vars; symm; assumption)⟩)), Wd.nil⟩, hS.F ht⟩) hS.2.2 dX12_house_72
set_option maxHeartbeats 4000000 in
set_option maxRecDepth 100000 in
theorem m_four_0 (l : Launch) (D : va_G) (K : Nat → ClassId) (a0 : Nat) (x : Int32) (w0 : Value) (w1 : Value) (w2 : Value) (w3 : Value) (w4 : Value) (w5 : Value) (w6 : Value) (w7 : Value) (w8 : Value) (w9 : Value) (w10 : Value) (w11 : Value) (a1 : Nat) (w14 : Value) (w15 : Value) (w16 : Value) (w17 : Value) (w18 : Value) (w19 : Value) (w20 : Value) (w21 : Value) (w22 : Value) (w23 : Value) (w24 : Value) (w25 : Value) (w26 : Value) (w27 : Value) (w28 : Value) (w29 : Value) (w30 : Value) (w31 : Value) (w32 : Value) (w33 : Value) (w34 : Value) (w35 : Value) (w36 : Value) (w37 : Value) (w38 : Value) (w39 : Value) (w40 : Value) (w41 : Value) (w42 : Value) (w43 : Value) (w44 : Value) (w45 : Value) (w46 : Value) (w47 : Value) (w48 : Value) (w49 : Value) (w50 : Value) (w51 : Value) (w52 : Value) (w53 : Value) (w54 : Value) (w55 : Value) (w56 : Value) (w57 : Value) (w58 : Value) (w59 : Value) (f : Nat → Int32) (sz : Nat) : Met l yX12_four wsX12_four ({ frames := 0, cells := 0, slots := 0, locals := 0 }) (va_Pc [.ref a0, .int x] (Pre D K [(a0, .inr (12, [w0, w1, w2, w3, w4, w5, w6, w7, w8, w9, w10, w11, .ref a1, .int 0, w14, w15, w16, w17, w18, w19, w20, w21, w22, w23, w24, w25, w26, w27, w28, w29, w30, w31, w32, w33, w34, w35, w36, w37, w38, w39, w40, w41, w42, w43, w44, w45, w46, w47, w48, w49, w50, w51, w52, w53, w54, w55, w56, w57, w58, w59])), (a1, .inl (K 0, 400, .inl f))] sz)) (va_Qv (S := (Nat → Nat) × (Nat → Nat → Int32) × (Nat → Nat → Int64) × (Nat → Int32)) (fun _ => True) (fun u t => Wd D (va_A [(a0, .inr (12, [w0, w1, w2, w3, w4, w5, w6, w7, w8, w9, w10, w11, .ref a1, .int 0, w14, w15, w16, w17, w18, w19, w20, w21, w22, w23, w24, w25, w26, w27, w28, w29, w30, w31, w32, w33, w34, w35, w36, w37, w38, w39, w40, w41, w42, w43, w44, w45, w46, w47, w48, w49, w50, w51, w52, w53, w54, w55, w56, w57, w58, w59])), (a1, .inl (K 0, 400, .inl f))] sz) ((fun u => [(a0, .inr (12, [w0, w1, w2, w3, w4, w5, w6, w7, w8, w9, w10, w11, .ref a1, .int 4, w14, w15, w16, w17, w18, w19, w20, w21, w22, w23, w24, w25, w26, w27, w28, w29, w30, w31, w32, w33, w34, w35, w36, w37, w38, w39, w40, w41, w42, w43, w44, w45, w46, w47, w48, w49, w50, w51, w52, w53, w54, w55, w56, w57, w58, w59])), (a1, .inl (K 0, 400, .inl ((u.2.1 0))))]) u) t) (va_A [(a0, .inr (12, [w0, w1, w2, w3, w4, w5, w6, w7, w8, w9, w10, w11, .ref a1, .int 0, w14, w15, w16, w17, w18, w19, w20, w21, w22, w23, w24, w25, w26, w27, w28, w29, w30, w31, w32, w33, w34, w35, w36, w37, w38, w39, w40, w41, w42, w43, w44, w45, w46, w47, w48, w49, w50, w51, w52, w53, w54, w55, w56, w57, w58, w59])), (a1, .inl (K 0, 400, .inl f))] sz)) 0 0 (va_A [(a0, .inr (12, [w0, w1, w2, w3, w4, w5, w6, w7, w8, w9, w10, w11, .ref a1, .int 0, w14, w15, w16, w17, w18, w19, w20, w21, w22, w23, w24, w25, w26, w27, w28, w29, w30, w31, w32, w33, w34, w35, w36, w37, w38, w39, w40, w41, w42, w43, w44, w45, w46, w47, w48, w49, w50, w51, w52, w53, w54, w55, w56, w57, w58, w59])), (a1, .inl (K 0, 400, .inl f))] sz) := by
  refine Met.ofW (cc := cX12_four) (maxL := 3) (ret := none) (by decide) rfl ?_
  intro p e s m args below meth c s₁ B hml hv
  obtain ⟨rfl, hsz, hP, hK, hD0, hN⟩ := hv
  have hx := B.exec
  have hb := B.bytes
  have hr := B.returns
  have hts := atoms_spec (ws := wsX12_four) B.pre
  have hown : s.vm.findClass RX12 = some m.cls := findClass_of_methodNamed B.named
  have hlocks := B.notSynchronized
  subst hsz
  have hD := hD0.self (sz := s.heap.size)
  generalize hAe : va_A [(a0, .inr (12, [w0, w1, w2, w3, w4, w5, w6, w7, w8, w9, w10, w11, .ref a1, .int 0, w14, w15, w16, w17, w18, w19, w20, w21, w22, w23, w24, w25, w26, w27, w28, w29, w30, w31, w32, w33, w34, w35, w36, w37, w38, w39, w40, w41, w42, w43, w44, w45, w46, w47, w48, w49, w50, w51, w52, w53, w54, w55, w56, w57, w58, w59])), (a1, .inl (K 0, 400, .inl f))] s.heap.size = A at hD ⊢
  have hA : ∀ q : Nat, s.heap.size ≤ q → A q := fun q h => by rw [← hAe]; exact Or.inr h
  have hS : va_S A s.heap s.heap [] := va_S.rf
  have hP : va_P D vwCl [(a0, .inr (12, [w0, w1, w2, w3, w4, w5, w6, w7, w8, w9, w10, w11, .ref a1, .int 0, w14, w15, w16, w17, w18, w19, w20, w21, w22, w23, w24, w25, w26, w27, w28, w29, w30, w31, w32, w33, w34, w35, w36, w37, w38, w39, w40, w41, w42, w43, w44, w45, w46, w47, w48, w49, w50, w51, w52, w53, w54, w55, w56, w57, w58, w59])), (a1, .inl (K 0, 400, .inl f))] s.heap := hP
  have hl := lv_entry [.ref a0, .int x] (n := 3) (Nat.le_of_ble_eq_true rfl)
  rw [lg_entry_eq]
  generalize (lg_sl [.ref a0, .int x] ++ List.replicate (3 - (lg_sl [.ref a0, .int x]).length) Slot.unset).toArray = ls at hl ⊢
  have hl : lv_has ls 3 [(0, .ref a0), (1, .int x)] := hl
  have hw12 : ∀ w ∈ wsX120, w ∈ wsX12_four := fun w h => (List.mem_cons_of_mem _ (List.mem_append_right _ h))
  refine lv_bipush (v := 24) hx hb dX12_four_0 (by decide) ?_
  refine lv_istore_n (lv' := [(2, .int 24), (0, .ref a0), (1, .int x)]) hx hb dX12_four_2 rfl hl (by decide) rfl (fun ls hl => ?_)
  refine lv_iload_n hx hb dX12_four_3 rfl (lv_at hl 0 rfl) ?_
  refine lv_if_lt (tgt := 39) hx hb dX12_four_4 (by decide) (fun c_1 => absurd c_1 (by decide)) (fun c_1 => ?_)
  refine lv_aload_n hx hb dX12_four_7 rfl (lv_at hl 1 rfl) ?_
  refine va_get (ci := 12) (v := .ref a1) (C := RX12) (T := TX12) (N := 60) hx hb hts hw12 hown hK hP 0 rfl rfl 12 (by decide) (hts (.fieldLink RX12 35 "SmokeTuneModel" "tape" "[I") (List.mem_cons_of_mem _ (List.mem_append_left _ (List.mem_of_getElem? (i := 0) rfl)))) (fun _ h9 => h9) rfl dX12_four_8 ?_
  refine lv_aload_n hx hb dX12_four_11 rfl (lv_at hl 1 rfl) ?_
  refine va_get (ci := 12) (v := .int 0) (C := RX12) (T := TX12) (N := 60) hx hb hts hw12 hown hK hP 0 rfl rfl 13 (by decide) (hts (.fieldLink RX12 227 "SmokeTuneModel" "taped" "I") (List.mem_cons_of_mem _ (List.mem_append_left _ (List.mem_of_getElem? (i := 1) rfl)))) (fun _ h9 => h9) rfl dX12_four_12 ?_
  refine lv_iload_n hx hb dX12_four_15 rfl (lv_at hl 2 rfl) ?_
  refine lv_iload_n hx hb dX12_four_16 rfl (lv_at hl 0 rfl) ?_
  refine lv_ishr hx hb dX12_four_17 ?_
  refine lv_topi (fun x_2 ex_2 => ?_)
  refine lv_sipush (v := 255) hx hb dX12_four_18 (by decide) ?_
  refine lv_iand hx hb dX12_four_21 ?_
  refine lv_topi (fun x_3 ex_3 => ?_)
  refine va_iast hx hb hK hP hD hS 1 0 rfl rfl (i_in (x := 0) rfl (by omega)) dX12_four_22 (fun H locs hP hD hS => ?_)
  generalize hf_4 : (upd f (0 : Int32).toNatClampNeg x_3) = f_4 at hP hD
  have hP : va_P D vwCl [(a0, .inr (12, [w0, w1, w2, w3, w4, w5, w6, w7, w8, w9, w10, w11, .ref a1, .int 0, w14, w15, w16, w17, w18, w19, w20, w21, w22, w23, w24, w25, w26, w27, w28, w29, w30, w31, w32, w33, w34, w35, w36, w37, w38, w39, w40, w41, w42, w43, w44, w45, w46, w47, w48, w49, w50, w51, w52, w53, w54, w55, w56, w57, w58, w59])), (a1, .inl (K 0, 400, .inl f_4))] H := hP
  have hD : va_D A [(a0, .inr (12, [w0, w1, w2, w3, w4, w5, w6, w7, w8, w9, w10, w11, .ref a1, .int 0, w14, w15, w16, w17, w18, w19, w20, w21, w22, w23, w24, w25, w26, w27, w28, w29, w30, w31, w32, w33, w34, w35, w36, w37, w38, w39, w40, w41, w42, w43, w44, w45, w46, w47, w48, w49, w50, w51, w52, w53, w54, w55, w56, w57, w58, w59])), (a1, .inl (K 0, 400, .inl f_4))] := hD
  refine lv_aload_n hx hb dX12_four_23 rfl (lv_at hl 1 rfl) ?_
  refine lv_dup hx hb dX12_four_24 rfl ?_
  refine va_get (ci := 12) (v := .int 0) (C := RX12) (T := TX12) (N := 60) hx hb hts hw12 hown hK hP 0 rfl rfl 13 (by decide) (hts (.fieldLink RX12 227 "SmokeTuneModel" "taped" "I") (List.mem_cons_of_mem _ (List.mem_append_left _ (List.mem_of_getElem? (i := 1) rfl)))) (fun _ h9 => h9) rfl dX12_four_25 ?_
  refine lv_iconst (v := 1) hx hb dX12_four_28 (by decide) ?_
  refine lv_iadd hx hb dX12_four_29 ?_
  refine lv_topi (fun x_5 ex_5 => ?_)
  obtain rfl : x_5 = 1 := ex_5.trans (by first | rfl | decide)
  refine va_put (ci := 12) (v := .int 1) (ty := .int) (C := RX12) (T := TX12) (N := 60) hx hb hts hw12 tyX12 tyX12_ok nmX12 hown hK hP hD hS 0 rfl rfl 13 (by decide) (hts (.fieldLink RX12 227 "SmokeTuneModel" "taped" "I") (List.mem_cons_of_mem _ (List.mem_append_left _ (List.mem_of_getElem? (i := 1) rfl)))) (fun _ h9 => h9) rfl (by decide +kernel) (by first | rfl | decide) (by first | rfl | decide) (Nat.le_of_ble_eq_true rfl) dX12_four_30 (fun H locs hP hD hS => ?_)
  have hP : va_P D vwCl [(a0, .inr (12, [w0, w1, w2, w3, w4, w5, w6, w7, w8, w9, w10, w11, .ref a1, .int 1, w14, w15, w16, w17, w18, w19, w20, w21, w22, w23, w24, w25, w26, w27, w28, w29, w30, w31, w32, w33, w34, w35, w36, w37, w38, w39, w40, w41, w42, w43, w44, w45, w46, w47, w48, w49, w50, w51, w52, w53, w54, w55, w56, w57, w58, w59])), (a1, .inl (K 0, 400, .inl f_4))] H := hP
  have hD : va_D A [(a0, .inr (12, [w0, w1, w2, w3, w4, w5, w6, w7, w8, w9, w10, w11, .ref a1, .int 1, w14, w15, w16, w17, w18, w19, w20, w21, w22, w23, w24, w25, w26, w27, w28, w29, w30, w31, w32, w33, w34, w35, w36, w37, w38, w39, w40, w41, w42, w43, w44, w45, w46, w47, w48, w49, w50, w51, w52, w53, w54, w55, w56, w57, w58, w59])), (a1, .inl (K 0, 400, .inl f_4))] := hD
  refine lv_iinc (v := 16) (lv' := [(2, .int 16), (0, .ref a0), (1, .int x)]) hx hb dX12_four_33 hl (k := 0) rfl (by decide) (by decide) rfl (fun ls hl => ?_)
  refine lv_goto (tgt := 3) hx hb dX12_four_36 (by decide) ?_
  refine lv_iload_n hx hb dX12_four_3 rfl (lv_at hl 0 rfl) ?_
  refine lv_if_lt (tgt := 39) hx hb dX12_four_4 (by decide) (fun c_6 => absurd c_6 (by decide)) (fun c_6 => ?_)
  refine lv_aload_n hx hb dX12_four_7 rfl (lv_at hl 1 rfl) ?_
  refine va_get (ci := 12) (v := .ref a1) (C := RX12) (T := TX12) (N := 60) hx hb hts hw12 hown hK hP 0 rfl rfl 12 (by decide) (hts (.fieldLink RX12 35 "SmokeTuneModel" "tape" "[I") (List.mem_cons_of_mem _ (List.mem_append_left _ (List.mem_of_getElem? (i := 0) rfl)))) (fun _ h9 => h9) rfl dX12_four_8 ?_
  refine lv_aload_n hx hb dX12_four_11 rfl (lv_at hl 1 rfl) ?_
  refine va_get (ci := 12) (v := .int 1) (C := RX12) (T := TX12) (N := 60) hx hb hts hw12 hown hK hP 0 rfl rfl 13 (by decide) (hts (.fieldLink RX12 227 "SmokeTuneModel" "taped" "I") (List.mem_cons_of_mem _ (List.mem_append_left _ (List.mem_of_getElem? (i := 1) rfl)))) (fun _ h9 => h9) rfl dX12_four_12 ?_
  refine lv_iload_n hx hb dX12_four_15 rfl (lv_at hl 2 rfl) ?_
  refine lv_iload_n hx hb dX12_four_16 rfl (lv_at hl 0 rfl) ?_
  refine lv_ishr hx hb dX12_four_17 ?_
  refine lv_topi (fun x_7 ex_7 => ?_)
  refine lv_sipush (v := 255) hx hb dX12_four_18 (by decide) ?_
  refine lv_iand hx hb dX12_four_21 ?_
  refine lv_topi (fun x_8 ex_8 => ?_)
  refine va_iast hx hb hK hP hD hS 1 0 rfl rfl (i_in (x := 1) rfl (by omega)) dX12_four_22 (fun H locs hP hD hS => ?_)
  generalize hf_9 : (upd f_4 (1 : Int32).toNatClampNeg x_8) = f_9 at hP hD
  have hP : va_P D vwCl [(a0, .inr (12, [w0, w1, w2, w3, w4, w5, w6, w7, w8, w9, w10, w11, .ref a1, .int 1, w14, w15, w16, w17, w18, w19, w20, w21, w22, w23, w24, w25, w26, w27, w28, w29, w30, w31, w32, w33, w34, w35, w36, w37, w38, w39, w40, w41, w42, w43, w44, w45, w46, w47, w48, w49, w50, w51, w52, w53, w54, w55, w56, w57, w58, w59])), (a1, .inl (K 0, 400, .inl f_9))] H := hP
  have hD : va_D A [(a0, .inr (12, [w0, w1, w2, w3, w4, w5, w6, w7, w8, w9, w10, w11, .ref a1, .int 1, w14, w15, w16, w17, w18, w19, w20, w21, w22, w23, w24, w25, w26, w27, w28, w29, w30, w31, w32, w33, w34, w35, w36, w37, w38, w39, w40, w41, w42, w43, w44, w45, w46, w47, w48, w49, w50, w51, w52, w53, w54, w55, w56, w57, w58, w59])), (a1, .inl (K 0, 400, .inl f_9))] := hD
  refine lv_aload_n hx hb dX12_four_23 rfl (lv_at hl 1 rfl) ?_
  refine lv_dup hx hb dX12_four_24 rfl ?_
  refine va_get (ci := 12) (v := .int 1) (C := RX12) (T := TX12) (N := 60) hx hb hts hw12 hown hK hP 0 rfl rfl 13 (by decide) (hts (.fieldLink RX12 227 "SmokeTuneModel" "taped" "I") (List.mem_cons_of_mem _ (List.mem_append_left _ (List.mem_of_getElem? (i := 1) rfl)))) (fun _ h9 => h9) rfl dX12_four_25 ?_
  refine lv_iconst (v := 1) hx hb dX12_four_28 (by decide) ?_
  refine lv_iadd hx hb dX12_four_29 ?_
  refine lv_topi (fun x_10 ex_10 => ?_)
  obtain rfl : x_10 = 2 := ex_10.trans (by first | rfl | decide)
  refine va_put (ci := 12) (v := .int 2) (ty := .int) (C := RX12) (T := TX12) (N := 60) hx hb hts hw12 tyX12 tyX12_ok nmX12 hown hK hP hD hS 0 rfl rfl 13 (by decide) (hts (.fieldLink RX12 227 "SmokeTuneModel" "taped" "I") (List.mem_cons_of_mem _ (List.mem_append_left _ (List.mem_of_getElem? (i := 1) rfl)))) (fun _ h9 => h9) rfl (by decide +kernel) (by first | rfl | decide) (by first | rfl | decide) (Nat.le_of_ble_eq_true rfl) dX12_four_30 (fun H locs hP hD hS => ?_)
  have hP : va_P D vwCl [(a0, .inr (12, [w0, w1, w2, w3, w4, w5, w6, w7, w8, w9, w10, w11, .ref a1, .int 2, w14, w15, w16, w17, w18, w19, w20, w21, w22, w23, w24, w25, w26, w27, w28, w29, w30, w31, w32, w33, w34, w35, w36, w37, w38, w39, w40, w41, w42, w43, w44, w45, w46, w47, w48, w49, w50, w51, w52, w53, w54, w55, w56, w57, w58, w59])), (a1, .inl (K 0, 400, .inl f_9))] H := hP
  have hD : va_D A [(a0, .inr (12, [w0, w1, w2, w3, w4, w5, w6, w7, w8, w9, w10, w11, .ref a1, .int 2, w14, w15, w16, w17, w18, w19, w20, w21, w22, w23, w24, w25, w26, w27, w28, w29, w30, w31, w32, w33, w34, w35, w36, w37, w38, w39, w40, w41, w42, w43, w44, w45, w46, w47, w48, w49, w50, w51, w52, w53, w54, w55, w56, w57, w58, w59])), (a1, .inl (K 0, 400, .inl f_9))] := hD
  refine lv_iinc (v := 8) (lv' := [(2, .int 8), (0, .ref a0), (1, .int x)]) hx hb dX12_four_33 hl (k := 0) rfl (by decide) (by decide) rfl (fun ls hl => ?_)
  refine lv_goto (tgt := 3) hx hb dX12_four_36 (by decide) ?_
  refine lv_iload_n hx hb dX12_four_3 rfl (lv_at hl 0 rfl) ?_
  refine lv_if_lt (tgt := 39) hx hb dX12_four_4 (by decide) (fun c_11 => absurd c_11 (by decide)) (fun c_11 => ?_)
  refine lv_aload_n hx hb dX12_four_7 rfl (lv_at hl 1 rfl) ?_
  refine va_get (ci := 12) (v := .ref a1) (C := RX12) (T := TX12) (N := 60) hx hb hts hw12 hown hK hP 0 rfl rfl 12 (by decide) (hts (.fieldLink RX12 35 "SmokeTuneModel" "tape" "[I") (List.mem_cons_of_mem _ (List.mem_append_left _ (List.mem_of_getElem? (i := 0) rfl)))) (fun _ h9 => h9) rfl dX12_four_8 ?_
  refine lv_aload_n hx hb dX12_four_11 rfl (lv_at hl 1 rfl) ?_
  refine va_get (ci := 12) (v := .int 2) (C := RX12) (T := TX12) (N := 60) hx hb hts hw12 hown hK hP 0 rfl rfl 13 (by decide) (hts (.fieldLink RX12 227 "SmokeTuneModel" "taped" "I") (List.mem_cons_of_mem _ (List.mem_append_left _ (List.mem_of_getElem? (i := 1) rfl)))) (fun _ h9 => h9) rfl dX12_four_12 ?_
  refine lv_iload_n hx hb dX12_four_15 rfl (lv_at hl 2 rfl) ?_
  refine lv_iload_n hx hb dX12_four_16 rfl (lv_at hl 0 rfl) ?_
  refine lv_ishr hx hb dX12_four_17 ?_
  refine lv_topi (fun x_12 ex_12 => ?_)
  refine lv_sipush (v := 255) hx hb dX12_four_18 (by decide) ?_
  refine lv_iand hx hb dX12_four_21 ?_
  refine lv_topi (fun x_13 ex_13 => ?_)
  refine va_iast hx hb hK hP hD hS 1 0 rfl rfl (i_in (x := 2) rfl (by omega)) dX12_four_22 (fun H locs hP hD hS => ?_)
  generalize hf_14 : (upd f_9 (2 : Int32).toNatClampNeg x_13) = f_14 at hP hD
  have hP : va_P D vwCl [(a0, .inr (12, [w0, w1, w2, w3, w4, w5, w6, w7, w8, w9, w10, w11, .ref a1, .int 2, w14, w15, w16, w17, w18, w19, w20, w21, w22, w23, w24, w25, w26, w27, w28, w29, w30, w31, w32, w33, w34, w35, w36, w37, w38, w39, w40, w41, w42, w43, w44, w45, w46, w47, w48, w49, w50, w51, w52, w53, w54, w55, w56, w57, w58, w59])), (a1, .inl (K 0, 400, .inl f_14))] H := hP
  have hD : va_D A [(a0, .inr (12, [w0, w1, w2, w3, w4, w5, w6, w7, w8, w9, w10, w11, .ref a1, .int 2, w14, w15, w16, w17, w18, w19, w20, w21, w22, w23, w24, w25, w26, w27, w28, w29, w30, w31, w32, w33, w34, w35, w36, w37, w38, w39, w40, w41, w42, w43, w44, w45, w46, w47, w48, w49, w50, w51, w52, w53, w54, w55, w56, w57, w58, w59])), (a1, .inl (K 0, 400, .inl f_14))] := hD
  refine lv_aload_n hx hb dX12_four_23 rfl (lv_at hl 1 rfl) ?_
  refine lv_dup hx hb dX12_four_24 rfl ?_
  refine va_get (ci := 12) (v := .int 2) (C := RX12) (T := TX12) (N := 60) hx hb hts hw12 hown hK hP 0 rfl rfl 13 (by decide) (hts (.fieldLink RX12 227 "SmokeTuneModel" "taped" "I") (List.mem_cons_of_mem _ (List.mem_append_left _ (List.mem_of_getElem? (i := 1) rfl)))) (fun _ h9 => h9) rfl dX12_four_25 ?_
  refine lv_iconst (v := 1) hx hb dX12_four_28 (by decide) ?_
  refine lv_iadd hx hb dX12_four_29 ?_
  refine lv_topi (fun x_15 ex_15 => ?_)
  obtain rfl : x_15 = 3 := ex_15.trans (by first | rfl | decide)
  refine va_put (ci := 12) (v := .int 3) (ty := .int) (C := RX12) (T := TX12) (N := 60) hx hb hts hw12 tyX12 tyX12_ok nmX12 hown hK hP hD hS 0 rfl rfl 13 (by decide) (hts (.fieldLink RX12 227 "SmokeTuneModel" "taped" "I") (List.mem_cons_of_mem _ (List.mem_append_left _ (List.mem_of_getElem? (i := 1) rfl)))) (fun _ h9 => h9) rfl (by decide +kernel) (by first | rfl | decide) (by first | rfl | decide) (Nat.le_of_ble_eq_true rfl) dX12_four_30 (fun H locs hP hD hS => ?_)
  have hP : va_P D vwCl [(a0, .inr (12, [w0, w1, w2, w3, w4, w5, w6, w7, w8, w9, w10, w11, .ref a1, .int 3, w14, w15, w16, w17, w18, w19, w20, w21, w22, w23, w24, w25, w26, w27, w28, w29, w30, w31, w32, w33, w34, w35, w36, w37, w38, w39, w40, w41, w42, w43, w44, w45, w46, w47, w48, w49, w50, w51, w52, w53, w54, w55, w56, w57, w58, w59])), (a1, .inl (K 0, 400, .inl f_14))] H := hP
  have hD : va_D A [(a0, .inr (12, [w0, w1, w2, w3, w4, w5, w6, w7, w8, w9, w10, w11, .ref a1, .int 3, w14, w15, w16, w17, w18, w19, w20, w21, w22, w23, w24, w25, w26, w27, w28, w29, w30, w31, w32, w33, w34, w35, w36, w37, w38, w39, w40, w41, w42, w43, w44, w45, w46, w47, w48, w49, w50, w51, w52, w53, w54, w55, w56, w57, w58, w59])), (a1, .inl (K 0, 400, .inl f_14))] := hD
  refine lv_iinc (v := 0) (lv' := [(2, .int 0), (0, .ref a0), (1, .int x)]) hx hb dX12_four_33 hl (k := 0) rfl (by decide) (by decide) rfl (fun ls hl => ?_)
  refine lv_goto (tgt := 3) hx hb dX12_four_36 (by decide) ?_
  refine lv_iload_n hx hb dX12_four_3 rfl (lv_at hl 0 rfl) ?_
  refine lv_if_lt (tgt := 39) hx hb dX12_four_4 (by decide) (fun c_16 => absurd c_16 (by decide)) (fun c_16 => ?_)
  refine lv_aload_n hx hb dX12_four_7 rfl (lv_at hl 1 rfl) ?_
  refine va_get (ci := 12) (v := .ref a1) (C := RX12) (T := TX12) (N := 60) hx hb hts hw12 hown hK hP 0 rfl rfl 12 (by decide) (hts (.fieldLink RX12 35 "SmokeTuneModel" "tape" "[I") (List.mem_cons_of_mem _ (List.mem_append_left _ (List.mem_of_getElem? (i := 0) rfl)))) (fun _ h9 => h9) rfl dX12_four_8 ?_
  refine lv_aload_n hx hb dX12_four_11 rfl (lv_at hl 1 rfl) ?_
  refine va_get (ci := 12) (v := .int 3) (C := RX12) (T := TX12) (N := 60) hx hb hts hw12 hown hK hP 0 rfl rfl 13 (by decide) (hts (.fieldLink RX12 227 "SmokeTuneModel" "taped" "I") (List.mem_cons_of_mem _ (List.mem_append_left _ (List.mem_of_getElem? (i := 1) rfl)))) (fun _ h9 => h9) rfl dX12_four_12 ?_
  refine lv_iload_n hx hb dX12_four_15 rfl (lv_at hl 2 rfl) ?_
  refine lv_iload_n hx hb dX12_four_16 rfl (lv_at hl 0 rfl) ?_
  refine lv_ishr hx hb dX12_four_17 ?_
  refine lv_topi (fun x_17 ex_17 => ?_)
  refine lv_sipush (v := 255) hx hb dX12_four_18 (by decide) ?_
  refine lv_iand hx hb dX12_four_21 ?_
  refine lv_topi (fun x_18 ex_18 => ?_)
  refine va_iast hx hb hK hP hD hS 1 0 rfl rfl (i_in (x := 3) rfl (by omega)) dX12_four_22 (fun H locs hP hD hS => ?_)
  generalize hf_19 : (upd f_14 (3 : Int32).toNatClampNeg x_18) = f_19 at hP hD
  have hP : va_P D vwCl [(a0, .inr (12, [w0, w1, w2, w3, w4, w5, w6, w7, w8, w9, w10, w11, .ref a1, .int 3, w14, w15, w16, w17, w18, w19, w20, w21, w22, w23, w24, w25, w26, w27, w28, w29, w30, w31, w32, w33, w34, w35, w36, w37, w38, w39, w40, w41, w42, w43, w44, w45, w46, w47, w48, w49, w50, w51, w52, w53, w54, w55, w56, w57, w58, w59])), (a1, .inl (K 0, 400, .inl f_19))] H := hP
  have hD : va_D A [(a0, .inr (12, [w0, w1, w2, w3, w4, w5, w6, w7, w8, w9, w10, w11, .ref a1, .int 3, w14, w15, w16, w17, w18, w19, w20, w21, w22, w23, w24, w25, w26, w27, w28, w29, w30, w31, w32, w33, w34, w35, w36, w37, w38, w39, w40, w41, w42, w43, w44, w45, w46, w47, w48, w49, w50, w51, w52, w53, w54, w55, w56, w57, w58, w59])), (a1, .inl (K 0, 400, .inl f_19))] := hD
  refine lv_aload_n hx hb dX12_four_23 rfl (lv_at hl 1 rfl) ?_
  refine lv_dup hx hb dX12_four_24 rfl ?_
  refine va_get (ci := 12) (v := .int 3) (C := RX12) (T := TX12) (N := 60) hx hb hts hw12 hown hK hP 0 rfl rfl 13 (by decide) (hts (.fieldLink RX12 227 "SmokeTuneModel" "taped" "I") (List.mem_cons_of_mem _ (List.mem_append_left _ (List.mem_of_getElem? (i := 1) rfl)))) (fun _ h9 => h9) rfl dX12_four_25 ?_
  refine lv_iconst (v := 1) hx hb dX12_four_28 (by decide) ?_
  refine lv_iadd hx hb dX12_four_29 ?_
  refine lv_topi (fun x_20 ex_20 => ?_)
  obtain rfl : x_20 = 4 := ex_20.trans (by first | rfl | decide)
  refine va_put (ci := 12) (v := .int 4) (ty := .int) (C := RX12) (T := TX12) (N := 60) hx hb hts hw12 tyX12 tyX12_ok nmX12 hown hK hP hD hS 0 rfl rfl 13 (by decide) (hts (.fieldLink RX12 227 "SmokeTuneModel" "taped" "I") (List.mem_cons_of_mem _ (List.mem_append_left _ (List.mem_of_getElem? (i := 1) rfl)))) (fun _ h9 => h9) rfl (by decide +kernel) (by first | rfl | decide) (by first | rfl | decide) (Nat.le_of_ble_eq_true rfl) dX12_four_30 (fun H locs hP hD hS => ?_)
  have hP : va_P D vwCl [(a0, .inr (12, [w0, w1, w2, w3, w4, w5, w6, w7, w8, w9, w10, w11, .ref a1, .int 4, w14, w15, w16, w17, w18, w19, w20, w21, w22, w23, w24, w25, w26, w27, w28, w29, w30, w31, w32, w33, w34, w35, w36, w37, w38, w39, w40, w41, w42, w43, w44, w45, w46, w47, w48, w49, w50, w51, w52, w53, w54, w55, w56, w57, w58, w59])), (a1, .inl (K 0, 400, .inl f_19))] H := hP
  have hD : va_D A [(a0, .inr (12, [w0, w1, w2, w3, w4, w5, w6, w7, w8, w9, w10, w11, .ref a1, .int 4, w14, w15, w16, w17, w18, w19, w20, w21, w22, w23, w24, w25, w26, w27, w28, w29, w30, w31, w32, w33, w34, w35, w36, w37, w38, w39, w40, w41, w42, w43, w44, w45, w46, w47, w48, w49, w50, w51, w52, w53, w54, w55, w56, w57, w58, w59])), (a1, .inl (K 0, 400, .inl f_19))] := hD
  refine lv_iinc (v := (-8)) (lv' := [(2, .int (-8)), (0, .ref a0), (1, .int x)]) hx hb dX12_four_33 hl (k := 0) rfl (by decide) (by decide) rfl (fun ls hl => ?_)
  refine lv_goto (tgt := 3) hx hb dX12_four_36 (by decide) ?_
  refine lv_iload_n hx hb dX12_four_3 rfl (lv_at hl 0 rfl) ?_
  refine lv_if_lt (tgt := 39) hx hb dX12_four_4 (by decide) (fun c_21 => ?_) (fun c_21 => absurd (by decide) c_21)
  have hP9 := hP.sub (ws' := [(a0, .inr (12, [w0, w1, w2, w3, w4, w5, w6, w7, w8, w9, w10, w11, .ref a1, .int 4, w14, w15, w16, w17, w18, w19, w20, w21, w22, w23, w24, w25, w26, w27, w28, w29, w30, w31, w32, w33, w34, w35, w36, w37, w38, w39, w40, w41, w42, w43, w44, w45, w46, w47, w48, w49, w50, w51, w52, w53, w54, w55, w56, w57, w58, w59])), (a1, .inl (K 0, 400, .inl f_19))]) [0, 1] rfl
  have hD9 := hD.sub (ws' := [(a0, .inr (12, [w0, w1, w2, w3, w4, w5, w6, w7, w8, w9, w10, w11, .ref a1, .int 4, w14, w15, w16, w17, w18, w19, w20, w21, w22, w23, w24, w25, w26, w27, w28, w29, w30, w31, w32, w33, w34, w35, w36, w37, w38, w39, w40, w41, w42, w43, w44, w45, w46, w47, w48, w49, w50, w51, w52, w53, w54, w55, w56, w57, w58, w59])), (a1, .inl (K 0, 400, .inl f_19))]) [0, 1] (by decide) rfl
  exact W.vret hx hb hr (fun t ht hW => ⟨⟨(fun _ => 0, fun i => match i with | _ => f_19, fun _ => fun _ => 0, fun _ => 0), rfl, trivial, (⟨by rw [ht]; exact hP9, hD9⟩ : Wd D A _ t)⟩, hS.F ht⟩) hS.2.2 dX12_four_39
set_option maxHeartbeats 4000000 in
set_option maxRecDepth 100000 in
theorem m_four_4 (l : Launch) (D : va_G) (K : Nat → ClassId) (a0 : Nat) (x : Int32) (w0 : Value) (w1 : Value) (w2 : Value) (w3 : Value) (w4 : Value) (w5 : Value) (w6 : Value) (w7 : Value) (w8 : Value) (w9 : Value) (w10 : Value) (w11 : Value) (a1 : Nat) (w14 : Value) (w15 : Value) (w16 : Value) (w17 : Value) (w18 : Value) (w19 : Value) (w20 : Value) (w21 : Value) (w22 : Value) (w23 : Value) (w24 : Value) (w25 : Value) (w26 : Value) (w27 : Value) (w28 : Value) (w29 : Value) (w30 : Value) (w31 : Value) (w32 : Value) (w33 : Value) (w34 : Value) (w35 : Value) (w36 : Value) (w37 : Value) (w38 : Value) (w39 : Value) (w40 : Value) (w41 : Value) (w42 : Value) (w43 : Value) (w44 : Value) (w45 : Value) (w46 : Value) (w47 : Value) (w48 : Value) (w49 : Value) (w50 : Value) (w51 : Value) (w52 : Value) (w53 : Value) (w54 : Value) (w55 : Value) (w56 : Value) (w57 : Value) (w58 : Value) (w59 : Value) (f : Nat → Int32) (sz : Nat) : Met l yX12_four wsX12_four ({ frames := 0, cells := 0, slots := 0, locals := 0 }) (va_Pc [.ref a0, .int x] (Pre D K [(a0, .inr (12, [w0, w1, w2, w3, w4, w5, w6, w7, w8, w9, w10, w11, .ref a1, .int 4, w14, w15, w16, w17, w18, w19, w20, w21, w22, w23, w24, w25, w26, w27, w28, w29, w30, w31, w32, w33, w34, w35, w36, w37, w38, w39, w40, w41, w42, w43, w44, w45, w46, w47, w48, w49, w50, w51, w52, w53, w54, w55, w56, w57, w58, w59])), (a1, .inl (K 0, 400, .inl f))] sz)) (va_Qv (S := (Nat → Nat) × (Nat → Nat → Int32) × (Nat → Nat → Int64) × (Nat → Int32)) (fun _ => True) (fun u t => Wd D (va_A [(a0, .inr (12, [w0, w1, w2, w3, w4, w5, w6, w7, w8, w9, w10, w11, .ref a1, .int 4, w14, w15, w16, w17, w18, w19, w20, w21, w22, w23, w24, w25, w26, w27, w28, w29, w30, w31, w32, w33, w34, w35, w36, w37, w38, w39, w40, w41, w42, w43, w44, w45, w46, w47, w48, w49, w50, w51, w52, w53, w54, w55, w56, w57, w58, w59])), (a1, .inl (K 0, 400, .inl f))] sz) ((fun u => [(a0, .inr (12, [w0, w1, w2, w3, w4, w5, w6, w7, w8, w9, w10, w11, .ref a1, .int 8, w14, w15, w16, w17, w18, w19, w20, w21, w22, w23, w24, w25, w26, w27, w28, w29, w30, w31, w32, w33, w34, w35, w36, w37, w38, w39, w40, w41, w42, w43, w44, w45, w46, w47, w48, w49, w50, w51, w52, w53, w54, w55, w56, w57, w58, w59])), (a1, .inl (K 0, 400, .inl ((u.2.1 0))))]) u) t) (va_A [(a0, .inr (12, [w0, w1, w2, w3, w4, w5, w6, w7, w8, w9, w10, w11, .ref a1, .int 4, w14, w15, w16, w17, w18, w19, w20, w21, w22, w23, w24, w25, w26, w27, w28, w29, w30, w31, w32, w33, w34, w35, w36, w37, w38, w39, w40, w41, w42, w43, w44, w45, w46, w47, w48, w49, w50, w51, w52, w53, w54, w55, w56, w57, w58, w59])), (a1, .inl (K 0, 400, .inl f))] sz)) 0 0 (va_A [(a0, .inr (12, [w0, w1, w2, w3, w4, w5, w6, w7, w8, w9, w10, w11, .ref a1, .int 4, w14, w15, w16, w17, w18, w19, w20, w21, w22, w23, w24, w25, w26, w27, w28, w29, w30, w31, w32, w33, w34, w35, w36, w37, w38, w39, w40, w41, w42, w43, w44, w45, w46, w47, w48, w49, w50, w51, w52, w53, w54, w55, w56, w57, w58, w59])), (a1, .inl (K 0, 400, .inl f))] sz) := by
  refine Met.ofW (cc := cX12_four) (maxL := 3) (ret := none) (by decide) rfl ?_
  intro p e s m args below meth c s₁ B hml hv
  obtain ⟨rfl, hsz, hP, hK, hD0, hN⟩ := hv
  have hx := B.exec
  have hb := B.bytes
  have hr := B.returns
  have hts := atoms_spec (ws := wsX12_four) B.pre
  have hown : s.vm.findClass RX12 = some m.cls := findClass_of_methodNamed B.named
  have hlocks := B.notSynchronized
  subst hsz
  have hD := hD0.self (sz := s.heap.size)
  generalize hAe : va_A [(a0, .inr (12, [w0, w1, w2, w3, w4, w5, w6, w7, w8, w9, w10, w11, .ref a1, .int 4, w14, w15, w16, w17, w18, w19, w20, w21, w22, w23, w24, w25, w26, w27, w28, w29, w30, w31, w32, w33, w34, w35, w36, w37, w38, w39, w40, w41, w42, w43, w44, w45, w46, w47, w48, w49, w50, w51, w52, w53, w54, w55, w56, w57, w58, w59])), (a1, .inl (K 0, 400, .inl f))] s.heap.size = A at hD ⊢
  have hA : ∀ q : Nat, s.heap.size ≤ q → A q := fun q h => by rw [← hAe]; exact Or.inr h
  have hS : va_S A s.heap s.heap [] := va_S.rf
  have hP : va_P D vwCl [(a0, .inr (12, [w0, w1, w2, w3, w4, w5, w6, w7, w8, w9, w10, w11, .ref a1, .int 4, w14, w15, w16, w17, w18, w19, w20, w21, w22, w23, w24, w25, w26, w27, w28, w29, w30, w31, w32, w33, w34, w35, w36, w37, w38, w39, w40, w41, w42, w43, w44, w45, w46, w47, w48, w49, w50, w51, w52, w53, w54, w55, w56, w57, w58, w59])), (a1, .inl (K 0, 400, .inl f))] s.heap := hP
  have hl := lv_entry [.ref a0, .int x] (n := 3) (Nat.le_of_ble_eq_true rfl)
  rw [lg_entry_eq]
  generalize (lg_sl [.ref a0, .int x] ++ List.replicate (3 - (lg_sl [.ref a0, .int x]).length) Slot.unset).toArray = ls at hl ⊢
  have hl : lv_has ls 3 [(0, .ref a0), (1, .int x)] := hl
  have hw12 : ∀ w ∈ wsX120, w ∈ wsX12_four := fun w h => (List.mem_cons_of_mem _ (List.mem_append_right _ h))
  refine lv_bipush (v := 24) hx hb dX12_four_0 (by decide) ?_
  refine lv_istore_n (lv' := [(2, .int 24), (0, .ref a0), (1, .int x)]) hx hb dX12_four_2 rfl hl (by decide) rfl (fun ls hl => ?_)
  refine lv_iload_n hx hb dX12_four_3 rfl (lv_at hl 0 rfl) ?_
  refine lv_if_lt (tgt := 39) hx hb dX12_four_4 (by decide) (fun c_1 => absurd c_1 (by decide)) (fun c_1 => ?_)
  refine lv_aload_n hx hb dX12_four_7 rfl (lv_at hl 1 rfl) ?_
  refine va_get (ci := 12) (v := .ref a1) (C := RX12) (T := TX12) (N := 60) hx hb hts hw12 hown hK hP 0 rfl rfl 12 (by decide) (hts (.fieldLink RX12 35 "SmokeTuneModel" "tape" "[I") (List.mem_cons_of_mem _ (List.mem_append_left _ (List.mem_of_getElem? (i := 0) rfl)))) (fun _ h9 => h9) rfl dX12_four_8 ?_
  refine lv_aload_n hx hb dX12_four_11 rfl (lv_at hl 1 rfl) ?_
  refine va_get (ci := 12) (v := .int 4) (C := RX12) (T := TX12) (N := 60) hx hb hts hw12 hown hK hP 0 rfl rfl 13 (by decide) (hts (.fieldLink RX12 227 "SmokeTuneModel" "taped" "I") (List.mem_cons_of_mem _ (List.mem_append_left _ (List.mem_of_getElem? (i := 1) rfl)))) (fun _ h9 => h9) rfl dX12_four_12 ?_
  refine lv_iload_n hx hb dX12_four_15 rfl (lv_at hl 2 rfl) ?_
  refine lv_iload_n hx hb dX12_four_16 rfl (lv_at hl 0 rfl) ?_
  refine lv_ishr hx hb dX12_four_17 ?_
  refine lv_topi (fun x_2 ex_2 => ?_)
  refine lv_sipush (v := 255) hx hb dX12_four_18 (by decide) ?_
  refine lv_iand hx hb dX12_four_21 ?_
  refine lv_topi (fun x_3 ex_3 => ?_)
  refine va_iast hx hb hK hP hD hS 1 0 rfl rfl (i_in (x := 4) rfl (by omega)) dX12_four_22 (fun H locs hP hD hS => ?_)
  generalize hf_4 : (upd f (4 : Int32).toNatClampNeg x_3) = f_4 at hP hD
  have hP : va_P D vwCl [(a0, .inr (12, [w0, w1, w2, w3, w4, w5, w6, w7, w8, w9, w10, w11, .ref a1, .int 4, w14, w15, w16, w17, w18, w19, w20, w21, w22, w23, w24, w25, w26, w27, w28, w29, w30, w31, w32, w33, w34, w35, w36, w37, w38, w39, w40, w41, w42, w43, w44, w45, w46, w47, w48, w49, w50, w51, w52, w53, w54, w55, w56, w57, w58, w59])), (a1, .inl (K 0, 400, .inl f_4))] H := hP
  have hD : va_D A [(a0, .inr (12, [w0, w1, w2, w3, w4, w5, w6, w7, w8, w9, w10, w11, .ref a1, .int 4, w14, w15, w16, w17, w18, w19, w20, w21, w22, w23, w24, w25, w26, w27, w28, w29, w30, w31, w32, w33, w34, w35, w36, w37, w38, w39, w40, w41, w42, w43, w44, w45, w46, w47, w48, w49, w50, w51, w52, w53, w54, w55, w56, w57, w58, w59])), (a1, .inl (K 0, 400, .inl f_4))] := hD
  refine lv_aload_n hx hb dX12_four_23 rfl (lv_at hl 1 rfl) ?_
  refine lv_dup hx hb dX12_four_24 rfl ?_
  refine va_get (ci := 12) (v := .int 4) (C := RX12) (T := TX12) (N := 60) hx hb hts hw12 hown hK hP 0 rfl rfl 13 (by decide) (hts (.fieldLink RX12 227 "SmokeTuneModel" "taped" "I") (List.mem_cons_of_mem _ (List.mem_append_left _ (List.mem_of_getElem? (i := 1) rfl)))) (fun _ h9 => h9) rfl dX12_four_25 ?_
  refine lv_iconst (v := 1) hx hb dX12_four_28 (by decide) ?_
  refine lv_iadd hx hb dX12_four_29 ?_
  refine lv_topi (fun x_5 ex_5 => ?_)
  obtain rfl : x_5 = 5 := ex_5.trans (by first | rfl | decide)
  refine va_put (ci := 12) (v := .int 5) (ty := .int) (C := RX12) (T := TX12) (N := 60) hx hb hts hw12 tyX12 tyX12_ok nmX12 hown hK hP hD hS 0 rfl rfl 13 (by decide) (hts (.fieldLink RX12 227 "SmokeTuneModel" "taped" "I") (List.mem_cons_of_mem _ (List.mem_append_left _ (List.mem_of_getElem? (i := 1) rfl)))) (fun _ h9 => h9) rfl (by decide +kernel) (by first | rfl | decide) (by first | rfl | decide) (Nat.le_of_ble_eq_true rfl) dX12_four_30 (fun H locs hP hD hS => ?_)
  have hP : va_P D vwCl [(a0, .inr (12, [w0, w1, w2, w3, w4, w5, w6, w7, w8, w9, w10, w11, .ref a1, .int 5, w14, w15, w16, w17, w18, w19, w20, w21, w22, w23, w24, w25, w26, w27, w28, w29, w30, w31, w32, w33, w34, w35, w36, w37, w38, w39, w40, w41, w42, w43, w44, w45, w46, w47, w48, w49, w50, w51, w52, w53, w54, w55, w56, w57, w58, w59])), (a1, .inl (K 0, 400, .inl f_4))] H := hP
  have hD : va_D A [(a0, .inr (12, [w0, w1, w2, w3, w4, w5, w6, w7, w8, w9, w10, w11, .ref a1, .int 5, w14, w15, w16, w17, w18, w19, w20, w21, w22, w23, w24, w25, w26, w27, w28, w29, w30, w31, w32, w33, w34, w35, w36, w37, w38, w39, w40, w41, w42, w43, w44, w45, w46, w47, w48, w49, w50, w51, w52, w53, w54, w55, w56, w57, w58, w59])), (a1, .inl (K 0, 400, .inl f_4))] := hD
  refine lv_iinc (v := 16) (lv' := [(2, .int 16), (0, .ref a0), (1, .int x)]) hx hb dX12_four_33 hl (k := 0) rfl (by decide) (by decide) rfl (fun ls hl => ?_)
  refine lv_goto (tgt := 3) hx hb dX12_four_36 (by decide) ?_
  refine lv_iload_n hx hb dX12_four_3 rfl (lv_at hl 0 rfl) ?_
  refine lv_if_lt (tgt := 39) hx hb dX12_four_4 (by decide) (fun c_6 => absurd c_6 (by decide)) (fun c_6 => ?_)
  refine lv_aload_n hx hb dX12_four_7 rfl (lv_at hl 1 rfl) ?_
  refine va_get (ci := 12) (v := .ref a1) (C := RX12) (T := TX12) (N := 60) hx hb hts hw12 hown hK hP 0 rfl rfl 12 (by decide) (hts (.fieldLink RX12 35 "SmokeTuneModel" "tape" "[I") (List.mem_cons_of_mem _ (List.mem_append_left _ (List.mem_of_getElem? (i := 0) rfl)))) (fun _ h9 => h9) rfl dX12_four_8 ?_
  refine lv_aload_n hx hb dX12_four_11 rfl (lv_at hl 1 rfl) ?_
  refine va_get (ci := 12) (v := .int 5) (C := RX12) (T := TX12) (N := 60) hx hb hts hw12 hown hK hP 0 rfl rfl 13 (by decide) (hts (.fieldLink RX12 227 "SmokeTuneModel" "taped" "I") (List.mem_cons_of_mem _ (List.mem_append_left _ (List.mem_of_getElem? (i := 1) rfl)))) (fun _ h9 => h9) rfl dX12_four_12 ?_
  refine lv_iload_n hx hb dX12_four_15 rfl (lv_at hl 2 rfl) ?_
  refine lv_iload_n hx hb dX12_four_16 rfl (lv_at hl 0 rfl) ?_
  refine lv_ishr hx hb dX12_four_17 ?_
  refine lv_topi (fun x_7 ex_7 => ?_)
  refine lv_sipush (v := 255) hx hb dX12_four_18 (by decide) ?_
  refine lv_iand hx hb dX12_four_21 ?_
  refine lv_topi (fun x_8 ex_8 => ?_)
  refine va_iast hx hb hK hP hD hS 1 0 rfl rfl (i_in (x := 5) rfl (by omega)) dX12_four_22 (fun H locs hP hD hS => ?_)
  generalize hf_9 : (upd f_4 (5 : Int32).toNatClampNeg x_8) = f_9 at hP hD
  have hP : va_P D vwCl [(a0, .inr (12, [w0, w1, w2, w3, w4, w5, w6, w7, w8, w9, w10, w11, .ref a1, .int 5, w14, w15, w16, w17, w18, w19, w20, w21, w22, w23, w24, w25, w26, w27, w28, w29, w30, w31, w32, w33, w34, w35, w36, w37, w38, w39, w40, w41, w42, w43, w44, w45, w46, w47, w48, w49, w50, w51, w52, w53, w54, w55, w56, w57, w58, w59])), (a1, .inl (K 0, 400, .inl f_9))] H := hP
  have hD : va_D A [(a0, .inr (12, [w0, w1, w2, w3, w4, w5, w6, w7, w8, w9, w10, w11, .ref a1, .int 5, w14, w15, w16, w17, w18, w19, w20, w21, w22, w23, w24, w25, w26, w27, w28, w29, w30, w31, w32, w33, w34, w35, w36, w37, w38, w39, w40, w41, w42, w43, w44, w45, w46, w47, w48, w49, w50, w51, w52, w53, w54, w55, w56, w57, w58, w59])), (a1, .inl (K 0, 400, .inl f_9))] := hD
  refine lv_aload_n hx hb dX12_four_23 rfl (lv_at hl 1 rfl) ?_
  refine lv_dup hx hb dX12_four_24 rfl ?_
  refine va_get (ci := 12) (v := .int 5) (C := RX12) (T := TX12) (N := 60) hx hb hts hw12 hown hK hP 0 rfl rfl 13 (by decide) (hts (.fieldLink RX12 227 "SmokeTuneModel" "taped" "I") (List.mem_cons_of_mem _ (List.mem_append_left _ (List.mem_of_getElem? (i := 1) rfl)))) (fun _ h9 => h9) rfl dX12_four_25 ?_
  refine lv_iconst (v := 1) hx hb dX12_four_28 (by decide) ?_
  refine lv_iadd hx hb dX12_four_29 ?_
  refine lv_topi (fun x_10 ex_10 => ?_)
  obtain rfl : x_10 = 6 := ex_10.trans (by first | rfl | decide)
  refine va_put (ci := 12) (v := .int 6) (ty := .int) (C := RX12) (T := TX12) (N := 60) hx hb hts hw12 tyX12 tyX12_ok nmX12 hown hK hP hD hS 0 rfl rfl 13 (by decide) (hts (.fieldLink RX12 227 "SmokeTuneModel" "taped" "I") (List.mem_cons_of_mem _ (List.mem_append_left _ (List.mem_of_getElem? (i := 1) rfl)))) (fun _ h9 => h9) rfl (by decide +kernel) (by first | rfl | decide) (by first | rfl | decide) (Nat.le_of_ble_eq_true rfl) dX12_four_30 (fun H locs hP hD hS => ?_)
  have hP : va_P D vwCl [(a0, .inr (12, [w0, w1, w2, w3, w4, w5, w6, w7, w8, w9, w10, w11, .ref a1, .int 6, w14, w15, w16, w17, w18, w19, w20, w21, w22, w23, w24, w25, w26, w27, w28, w29, w30, w31, w32, w33, w34, w35, w36, w37, w38, w39, w40, w41, w42, w43, w44, w45, w46, w47, w48, w49, w50, w51, w52, w53, w54, w55, w56, w57, w58, w59])), (a1, .inl (K 0, 400, .inl f_9))] H := hP
  have hD : va_D A [(a0, .inr (12, [w0, w1, w2, w3, w4, w5, w6, w7, w8, w9, w10, w11, .ref a1, .int 6, w14, w15, w16, w17, w18, w19, w20, w21, w22, w23, w24, w25, w26, w27, w28, w29, w30, w31, w32, w33, w34, w35, w36, w37, w38, w39, w40, w41, w42, w43, w44, w45, w46, w47, w48, w49, w50, w51, w52, w53, w54, w55, w56, w57, w58, w59])), (a1, .inl (K 0, 400, .inl f_9))] := hD
  refine lv_iinc (v := 8) (lv' := [(2, .int 8), (0, .ref a0), (1, .int x)]) hx hb dX12_four_33 hl (k := 0) rfl (by decide) (by decide) rfl (fun ls hl => ?_)
  refine lv_goto (tgt := 3) hx hb dX12_four_36 (by decide) ?_
  refine lv_iload_n hx hb dX12_four_3 rfl (lv_at hl 0 rfl) ?_
  refine lv_if_lt (tgt := 39) hx hb dX12_four_4 (by decide) (fun c_11 => absurd c_11 (by decide)) (fun c_11 => ?_)
  refine lv_aload_n hx hb dX12_four_7 rfl (lv_at hl 1 rfl) ?_
  refine va_get (ci := 12) (v := .ref a1) (C := RX12) (T := TX12) (N := 60) hx hb hts hw12 hown hK hP 0 rfl rfl 12 (by decide) (hts (.fieldLink RX12 35 "SmokeTuneModel" "tape" "[I") (List.mem_cons_of_mem _ (List.mem_append_left _ (List.mem_of_getElem? (i := 0) rfl)))) (fun _ h9 => h9) rfl dX12_four_8 ?_
  refine lv_aload_n hx hb dX12_four_11 rfl (lv_at hl 1 rfl) ?_
  refine va_get (ci := 12) (v := .int 6) (C := RX12) (T := TX12) (N := 60) hx hb hts hw12 hown hK hP 0 rfl rfl 13 (by decide) (hts (.fieldLink RX12 227 "SmokeTuneModel" "taped" "I") (List.mem_cons_of_mem _ (List.mem_append_left _ (List.mem_of_getElem? (i := 1) rfl)))) (fun _ h9 => h9) rfl dX12_four_12 ?_
  refine lv_iload_n hx hb dX12_four_15 rfl (lv_at hl 2 rfl) ?_
  refine lv_iload_n hx hb dX12_four_16 rfl (lv_at hl 0 rfl) ?_
  refine lv_ishr hx hb dX12_four_17 ?_
  refine lv_topi (fun x_12 ex_12 => ?_)
  refine lv_sipush (v := 255) hx hb dX12_four_18 (by decide) ?_
  refine lv_iand hx hb dX12_four_21 ?_
  refine lv_topi (fun x_13 ex_13 => ?_)
  refine va_iast hx hb hK hP hD hS 1 0 rfl rfl (i_in (x := 6) rfl (by omega)) dX12_four_22 (fun H locs hP hD hS => ?_)
  generalize hf_14 : (upd f_9 (6 : Int32).toNatClampNeg x_13) = f_14 at hP hD
  have hP : va_P D vwCl [(a0, .inr (12, [w0, w1, w2, w3, w4, w5, w6, w7, w8, w9, w10, w11, .ref a1, .int 6, w14, w15, w16, w17, w18, w19, w20, w21, w22, w23, w24, w25, w26, w27, w28, w29, w30, w31, w32, w33, w34, w35, w36, w37, w38, w39, w40, w41, w42, w43, w44, w45, w46, w47, w48, w49, w50, w51, w52, w53, w54, w55, w56, w57, w58, w59])), (a1, .inl (K 0, 400, .inl f_14))] H := hP
  have hD : va_D A [(a0, .inr (12, [w0, w1, w2, w3, w4, w5, w6, w7, w8, w9, w10, w11, .ref a1, .int 6, w14, w15, w16, w17, w18, w19, w20, w21, w22, w23, w24, w25, w26, w27, w28, w29, w30, w31, w32, w33, w34, w35, w36, w37, w38, w39, w40, w41, w42, w43, w44, w45, w46, w47, w48, w49, w50, w51, w52, w53, w54, w55, w56, w57, w58, w59])), (a1, .inl (K 0, 400, .inl f_14))] := hD
  refine lv_aload_n hx hb dX12_four_23 rfl (lv_at hl 1 rfl) ?_
  refine lv_dup hx hb dX12_four_24 rfl ?_
  refine va_get (ci := 12) (v := .int 6) (C := RX12) (T := TX12) (N := 60) hx hb hts hw12 hown hK hP 0 rfl rfl 13 (by decide) (hts (.fieldLink RX12 227 "SmokeTuneModel" "taped" "I") (List.mem_cons_of_mem _ (List.mem_append_left _ (List.mem_of_getElem? (i := 1) rfl)))) (fun _ h9 => h9) rfl dX12_four_25 ?_
  refine lv_iconst (v := 1) hx hb dX12_four_28 (by decide) ?_
  refine lv_iadd hx hb dX12_four_29 ?_
  refine lv_topi (fun x_15 ex_15 => ?_)
  obtain rfl : x_15 = 7 := ex_15.trans (by first | rfl | decide)
  refine va_put (ci := 12) (v := .int 7) (ty := .int) (C := RX12) (T := TX12) (N := 60) hx hb hts hw12 tyX12 tyX12_ok nmX12 hown hK hP hD hS 0 rfl rfl 13 (by decide) (hts (.fieldLink RX12 227 "SmokeTuneModel" "taped" "I") (List.mem_cons_of_mem _ (List.mem_append_left _ (List.mem_of_getElem? (i := 1) rfl)))) (fun _ h9 => h9) rfl (by decide +kernel) (by first | rfl | decide) (by first | rfl | decide) (Nat.le_of_ble_eq_true rfl) dX12_four_30 (fun H locs hP hD hS => ?_)
  have hP : va_P D vwCl [(a0, .inr (12, [w0, w1, w2, w3, w4, w5, w6, w7, w8, w9, w10, w11, .ref a1, .int 7, w14, w15, w16, w17, w18, w19, w20, w21, w22, w23, w24, w25, w26, w27, w28, w29, w30, w31, w32, w33, w34, w35, w36, w37, w38, w39, w40, w41, w42, w43, w44, w45, w46, w47, w48, w49, w50, w51, w52, w53, w54, w55, w56, w57, w58, w59])), (a1, .inl (K 0, 400, .inl f_14))] H := hP
  have hD : va_D A [(a0, .inr (12, [w0, w1, w2, w3, w4, w5, w6, w7, w8, w9, w10, w11, .ref a1, .int 7, w14, w15, w16, w17, w18, w19, w20, w21, w22, w23, w24, w25, w26, w27, w28, w29, w30, w31, w32, w33, w34, w35, w36, w37, w38, w39, w40, w41, w42, w43, w44, w45, w46, w47, w48, w49, w50, w51, w52, w53, w54, w55, w56, w57, w58, w59])), (a1, .inl (K 0, 400, .inl f_14))] := hD
  refine lv_iinc (v := 0) (lv' := [(2, .int 0), (0, .ref a0), (1, .int x)]) hx hb dX12_four_33 hl (k := 0) rfl (by decide) (by decide) rfl (fun ls hl => ?_)
  refine lv_goto (tgt := 3) hx hb dX12_four_36 (by decide) ?_
  refine lv_iload_n hx hb dX12_four_3 rfl (lv_at hl 0 rfl) ?_
  refine lv_if_lt (tgt := 39) hx hb dX12_four_4 (by decide) (fun c_16 => absurd c_16 (by decide)) (fun c_16 => ?_)
  refine lv_aload_n hx hb dX12_four_7 rfl (lv_at hl 1 rfl) ?_
  refine va_get (ci := 12) (v := .ref a1) (C := RX12) (T := TX12) (N := 60) hx hb hts hw12 hown hK hP 0 rfl rfl 12 (by decide) (hts (.fieldLink RX12 35 "SmokeTuneModel" "tape" "[I") (List.mem_cons_of_mem _ (List.mem_append_left _ (List.mem_of_getElem? (i := 0) rfl)))) (fun _ h9 => h9) rfl dX12_four_8 ?_
  refine lv_aload_n hx hb dX12_four_11 rfl (lv_at hl 1 rfl) ?_
  refine va_get (ci := 12) (v := .int 7) (C := RX12) (T := TX12) (N := 60) hx hb hts hw12 hown hK hP 0 rfl rfl 13 (by decide) (hts (.fieldLink RX12 227 "SmokeTuneModel" "taped" "I") (List.mem_cons_of_mem _ (List.mem_append_left _ (List.mem_of_getElem? (i := 1) rfl)))) (fun _ h9 => h9) rfl dX12_four_12 ?_
  refine lv_iload_n hx hb dX12_four_15 rfl (lv_at hl 2 rfl) ?_
  refine lv_iload_n hx hb dX12_four_16 rfl (lv_at hl 0 rfl) ?_
  refine lv_ishr hx hb dX12_four_17 ?_
  refine lv_topi (fun x_17 ex_17 => ?_)
  refine lv_sipush (v := 255) hx hb dX12_four_18 (by decide) ?_
  refine lv_iand hx hb dX12_four_21 ?_
  refine lv_topi (fun x_18 ex_18 => ?_)
  refine va_iast hx hb hK hP hD hS 1 0 rfl rfl (i_in (x := 7) rfl (by omega)) dX12_four_22 (fun H locs hP hD hS => ?_)
  generalize hf_19 : (upd f_14 (7 : Int32).toNatClampNeg x_18) = f_19 at hP hD
  have hP : va_P D vwCl [(a0, .inr (12, [w0, w1, w2, w3, w4, w5, w6, w7, w8, w9, w10, w11, .ref a1, .int 7, w14, w15, w16, w17, w18, w19, w20, w21, w22, w23, w24, w25, w26, w27, w28, w29, w30, w31, w32, w33, w34, w35, w36, w37, w38, w39, w40, w41, w42, w43, w44, w45, w46, w47, w48, w49, w50, w51, w52, w53, w54, w55, w56, w57, w58, w59])), (a1, .inl (K 0, 400, .inl f_19))] H := hP
  have hD : va_D A [(a0, .inr (12, [w0, w1, w2, w3, w4, w5, w6, w7, w8, w9, w10, w11, .ref a1, .int 7, w14, w15, w16, w17, w18, w19, w20, w21, w22, w23, w24, w25, w26, w27, w28, w29, w30, w31, w32, w33, w34, w35, w36, w37, w38, w39, w40, w41, w42, w43, w44, w45, w46, w47, w48, w49, w50, w51, w52, w53, w54, w55, w56, w57, w58, w59])), (a1, .inl (K 0, 400, .inl f_19))] := hD
  refine lv_aload_n hx hb dX12_four_23 rfl (lv_at hl 1 rfl) ?_
  refine lv_dup hx hb dX12_four_24 rfl ?_
  refine va_get (ci := 12) (v := .int 7) (C := RX12) (T := TX12) (N := 60) hx hb hts hw12 hown hK hP 0 rfl rfl 13 (by decide) (hts (.fieldLink RX12 227 "SmokeTuneModel" "taped" "I") (List.mem_cons_of_mem _ (List.mem_append_left _ (List.mem_of_getElem? (i := 1) rfl)))) (fun _ h9 => h9) rfl dX12_four_25 ?_
  refine lv_iconst (v := 1) hx hb dX12_four_28 (by decide) ?_
  refine lv_iadd hx hb dX12_four_29 ?_
  refine lv_topi (fun x_20 ex_20 => ?_)
  obtain rfl : x_20 = 8 := ex_20.trans (by first | rfl | decide)
  refine va_put (ci := 12) (v := .int 8) (ty := .int) (C := RX12) (T := TX12) (N := 60) hx hb hts hw12 tyX12 tyX12_ok nmX12 hown hK hP hD hS 0 rfl rfl 13 (by decide) (hts (.fieldLink RX12 227 "SmokeTuneModel" "taped" "I") (List.mem_cons_of_mem _ (List.mem_append_left _ (List.mem_of_getElem? (i := 1) rfl)))) (fun _ h9 => h9) rfl (by decide +kernel) (by first | rfl | decide) (by first | rfl | decide) (Nat.le_of_ble_eq_true rfl) dX12_four_30 (fun H locs hP hD hS => ?_)
  have hP : va_P D vwCl [(a0, .inr (12, [w0, w1, w2, w3, w4, w5, w6, w7, w8, w9, w10, w11, .ref a1, .int 8, w14, w15, w16, w17, w18, w19, w20, w21, w22, w23, w24, w25, w26, w27, w28, w29, w30, w31, w32, w33, w34, w35, w36, w37, w38, w39, w40, w41, w42, w43, w44, w45, w46, w47, w48, w49, w50, w51, w52, w53, w54, w55, w56, w57, w58, w59])), (a1, .inl (K 0, 400, .inl f_19))] H := hP
  have hD : va_D A [(a0, .inr (12, [w0, w1, w2, w3, w4, w5, w6, w7, w8, w9, w10, w11, .ref a1, .int 8, w14, w15, w16, w17, w18, w19, w20, w21, w22, w23, w24, w25, w26, w27, w28, w29, w30, w31, w32, w33, w34, w35, w36, w37, w38, w39, w40, w41, w42, w43, w44, w45, w46, w47, w48, w49, w50, w51, w52, w53, w54, w55, w56, w57, w58, w59])), (a1, .inl (K 0, 400, .inl f_19))] := hD
  refine lv_iinc (v := (-8)) (lv' := [(2, .int (-8)), (0, .ref a0), (1, .int x)]) hx hb dX12_four_33 hl (k := 0) rfl (by decide) (by decide) rfl (fun ls hl => ?_)
  refine lv_goto (tgt := 3) hx hb dX12_four_36 (by decide) ?_
  refine lv_iload_n hx hb dX12_four_3 rfl (lv_at hl 0 rfl) ?_
  refine lv_if_lt (tgt := 39) hx hb dX12_four_4 (by decide) (fun c_21 => ?_) (fun c_21 => absurd (by decide) c_21)
  have hP9 := hP.sub (ws' := [(a0, .inr (12, [w0, w1, w2, w3, w4, w5, w6, w7, w8, w9, w10, w11, .ref a1, .int 8, w14, w15, w16, w17, w18, w19, w20, w21, w22, w23, w24, w25, w26, w27, w28, w29, w30, w31, w32, w33, w34, w35, w36, w37, w38, w39, w40, w41, w42, w43, w44, w45, w46, w47, w48, w49, w50, w51, w52, w53, w54, w55, w56, w57, w58, w59])), (a1, .inl (K 0, 400, .inl f_19))]) [0, 1] rfl
  have hD9 := hD.sub (ws' := [(a0, .inr (12, [w0, w1, w2, w3, w4, w5, w6, w7, w8, w9, w10, w11, .ref a1, .int 8, w14, w15, w16, w17, w18, w19, w20, w21, w22, w23, w24, w25, w26, w27, w28, w29, w30, w31, w32, w33, w34, w35, w36, w37, w38, w39, w40, w41, w42, w43, w44, w45, w46, w47, w48, w49, w50, w51, w52, w53, w54, w55, w56, w57, w58, w59])), (a1, .inl (K 0, 400, .inl f_19))]) [0, 1] (by decide) rfl
  exact W.vret hx hb hr (fun t ht hW => ⟨⟨(fun _ => 0, fun i => match i with | _ => f_19, fun _ => fun _ => 0, fun _ => 0), rfl, trivial, (⟨by rw [ht]; exact hP9, hD9⟩ : Wd D A _ t)⟩, hS.F ht⟩) hS.2.2 dX12_four_39
