theorem dX6_passed_0 : decode cX6_passed 0 = .ok (.aload_n 0, 1) := by decide +kernel
theorem dX6_passed_1 : decode cX6_passed 1 = .ok (.getfield 12, 3) := by decide +kernel
theorem dX6_passed_4 : decode cX6_passed 4 = .ok (.aload_n 1, 1) := by decide +kernel
theorem dX6_passed_5 : decode cX6_passed 5 = .ok (.invokevirtual 67, 3) := by decide +kernel
theorem dX6_passed_8 : decode cX6_passed 8 = .ok (.ifCond .eq 5, 3) := by decide +kernel
theorem dX6_passed_13 : decode cX6_passed 13 = .ok (.aload_n 0, 1) := by decide +kernel
theorem dX6_passed_14 : decode cX6_passed 14 = .ok (.getfield 12, 3) := by decide +kernel
theorem dX6_passed_17 : decode cX6_passed 17 = .ok (.invokevirtual 47, 3) := by decide +kernel
theorem dX6_passed_20 : decode cX6_passed 20 = .ok (.iconst 1, 1) := by decide +kernel
theorem dX6_passed_21 : decode cX6_passed 21 = .ok (.ireturn, 1) := by decide +kernel
theorem dX6_passed_11 : decode cX6_passed 11 = .ok (.iconst 0, 1) := by decide +kernel
theorem dX6_passed_12 : decode cX6_passed 12 = .ok (.ireturn, 1) := by decide +kernel
theorem dX6_operator_0 : decode cX6_operator 0 = .ok (.iconst 0, 1) := by decide +kernel
theorem dX6_operator_1 : decode cX6_operator 1 = .ok (.istore_n 3, 1) := by decide +kernel
theorem dX6_operator_2 : decode cX6_operator 2 = .ok (.iload_n 3, 1) := by decide +kernel
theorem dX6_operator_3 : decode cX6_operator 3 = .ok (.aload_n 1, 1) := by decide +kernel
theorem dX6_operator_4 : decode cX6_operator 4 = .ok (.invokevirtual 109, 3) := by decide +kernel
theorem dX6_operator_7 : decode cX6_operator 7 = .ok (.if_icmp .ge 35, 3) := by decide +kernel
theorem dX6_operator_10 : decode cX6_operator 10 = .ok (.aload_n 0, 1) := by decide +kernel
theorem dX6_operator_11 : decode cX6_operator 11 = .ok (.getfield 12, 3) := by decide +kernel
theorem dX6_operator_14 : decode cX6_operator 14 = .ok (.getfield 54, 3) := by decide +kernel
theorem dX6_operator_17 : decode cX6_operator 17 = .ok (.aload_n 1, 1) := by decide +kernel
theorem dX6_operator_18 : decode cX6_operator 18 = .ok (.iload_n 3, 1) := by decide +kernel
theorem dX6_operator_19 : decode cX6_operator 19 = .ok (.invokevirtual 114, 3) := by decide +kernel
theorem dX6_operator_22 : decode cX6_operator 22 = .ok (.if_icmp .ne 14, 3) := by decide +kernel
theorem dX6_operator_36 : decode cX6_operator 36 = .ok (.iinc 3 1, 3) := by decide +kernel
theorem dX6_operator_39 : decode cX6_operator 39 = .ok (.goto (-37), 3) := by decide +kernel
theorem dX6_operator_42 : decode cX6_operator 42 = .ok (.iconst (-1), 1) := by decide +kernel
theorem dX6_operator_43 : decode cX6_operator 43 = .ok (.ireturn, 1) := by decide +kernel
theorem dX6_operator_25 : decode cX6_operator 25 = .ok (.aload_n 0, 1) := by decide +kernel
theorem dX6_operator_26 : decode cX6_operator 26 = .ok (.getfield 12, 3) := by decide +kernel
theorem dX6_operator_29 : decode cX6_operator 29 = .ok (.invokevirtual 47, 3) := by decide +kernel
theorem dX6_operator_32 : decode cX6_operator 32 = .ok (.iload_n 2, 1) := by decide +kernel
theorem dX6_operator_33 : decode cX6_operator 33 = .ok (.iload_n 3, 1) := by decide +kernel
theorem dX6_operator_34 : decode cX6_operator 34 = .ok (.iadd, 1) := by decide +kernel
theorem dX6_operator_35 : decode cX6_operator 35 = .ok (.ireturn, 1) := by decide +kernel
theorem dX6_part_0 : decode cX6_part 0 = .ok (.aload_n 0, 1) := by decide +kernel
theorem dX6_part_1 : decode cX6_part 1 = .ok (.getfield 12, 3) := by decide +kernel
theorem dX6_part_4 : decode cX6_part 4 = .ok (.getfield 54, 3) := by decide +kernel
theorem dX6_part_7 : decode cX6_part 7 = .ok (.bipush 91, 2) := by decide +kernel
theorem dX6_part_9 : decode cX6_part 9 = .ok (.if_icmp .ne 51, 3) := by decide +kernel
theorem dX6_part_60 : decode cX6_part 60 = .ok (.aload_n 0, 1) := by decide +kernel
theorem dX6_part_61 : decode cX6_part 61 = .ok (.getfield 31, 3) := by decide +kernel
theorem dX6_part_64 : decode cX6_part 64 = .ok (.bipush 50, 2) := by decide +kernel
theorem dX6_part_66 : decode cX6_part 66 = .ok (.if_icmp .ge 16, 3) := by decide +kernel
theorem dX6_part_69 : decode cX6_part 69 = .ok (.aload_n 0, 1) := by decide +kernel
theorem dX6_part_70 : decode cX6_part 70 = .ok (.getfield 12, 3) := by decide +kernel
theorem dX6_part_73 : decode cX6_part 73 = .ok (.getfield 101, 3) := by decide +kernel
theorem dX6_part_76 : decode cX6_part 76 = .ok (.sipush 1000, 3) := by decide +kernel
theorem dX6_part_79 : decode cX6_part 79 = .ok (.if_icmp .le 5, 3) := by decide +kernel
theorem dX6_part_84 : decode cX6_part 84 = .ok (.aload_n 0, 1) := by decide +kernel
theorem dX6_part_85 : decode cX6_part 85 = .ok (.dup, 1) := by decide +kernel
theorem dX6_part_86 : decode cX6_part 86 = .ok (.getfield 31, 3) := by decide +kernel
theorem dX6_part_89 : decode cX6_part 89 = .ok (.iconst 1, 1) := by decide +kernel
theorem dX6_part_90 : decode cX6_part 90 = .ok (.iadd, 1) := by decide +kernel
theorem dX6_part_91 : decode cX6_part 91 = .ok (.putfield 31, 3) := by decide +kernel
theorem dX6_part_94 : decode cX6_part 94 = .ok (.aload_n 0, 1) := by decide +kernel
theorem dX6_part_95 : decode cX6_part 95 = .ok (.getfield 12, 3) := by decide +kernel
theorem dX6_part_98 : decode cX6_part 98 = .ok (.getfield 101, 3) := by decide +kernel
theorem dX6_part_101 : decode cX6_part 101 = .ok (.iconst (-1), 1) := by decide +kernel
theorem dX6_part_102 : decode cX6_part 102 = .ok (.if_icmp .eq 28, 3) := by decide +kernel
theorem dX6_part_130 : decode cX6_part 130 = .ok (.aload_n 0, 1) := by decide +kernel
theorem dX6_part_131 : decode cX6_part 131 = .ok (.getfield 12, 3) := by decide +kernel
theorem dX6_part_134 : decode cX6_part 134 = .ok (.aload_n 0, 1) := by decide +kernel
theorem dX6_part_135 : decode cX6_part 135 = .ok (.getfield 27, 3) := by decide +kernel
theorem dX6_part_138 : decode cX6_part 138 = .ok (.ifCond .eq 8, 3) := by decide +kernel
theorem dX6_part_146 : decode cX6_part 146 = .ok (.ldc 146, 2) := by decide +kernel
theorem dX6_part_148 : decode cX6_part 148 = .ok (.invokevirtual 67, 3) := by decide +kernel
theorem dX6_part_151 : decode cX6_part 151 = .ok (.istore_n 2, 1) := by decide +kernel
theorem dX6_part_152 : decode cX6_part 152 = .ok (.iload_n 2, 1) := by decide +kernel
theorem dX6_part_153 : decode cX6_part 153 = .ok (.iconst (-1), 1) := by decide +kernel
theorem dX6_part_154 : decode cX6_part 154 = .ok (.if_icmp .ne 5, 3) := by decide +kernel
theorem dX6_part_159 : decode cX6_part 159 = .ok (.aload_n 0, 1) := by decide +kernel
theorem dX6_part_160 : decode cX6_part 160 = .ok (.getfield 12, 3) := by decide +kernel
theorem dX6_part_163 : decode cX6_part 163 = .ok (.invokevirtual 47, 3) := by decide +kernel
theorem dX6_part_166 : decode cX6_part 166 = .ok (.aload_n 0, 1) := by decide +kernel
theorem dX6_part_167 : decode cX6_part 167 = .ok (.getfield 27, 3) := by decide +kernel
theorem dX6_part_170 : decode cX6_part 170 = .ok (.ifCond .eq 7, 3) := by decide +kernel
theorem dX6_part_177 : decode cX6_part 177 = .ok (.iload_n 2, 1) := by decide +kernel
theorem dX6_part_178 : decode cX6_part 178 = .ok (.iconst 5, 1) := by decide +kernel
theorem dX6_part_179 : decode cX6_part 179 = .ok (.isub, 1) := by decide +kernel
theorem dX6_part_180 : decode cX6_part 180 = .ok (.istore_n 3, 1) := by decide +kernel
theorem dX6_part_181 : decode cX6_part 181 = .ok (.iload_n 3, 1) := by decide +kernel
theorem dX6_part_182 : decode cX6_part 182 = .ok (.ifCond .lt 59, 3) := by decide +kernel
theorem dX6_part_185 : decode cX6_part 185 = .ok (.iload_n 3, 1) := by decide +kernel
theorem dX6_part_186 : decode cX6_part 186 = .ok (.getstatic 150, 3) := by decide +kernel
theorem dX6_part_189 : decode cX6_part 189 = .ok (.arraylength, 1) := by decide +kernel
theorem dX6_part_190 : decode cX6_part 190 = .ok (.if_icmp .ge 51, 3) := by decide +kernel
theorem dX6_part_193 : decode cX6_part 193 = .ok (.aload_n 0, 1) := by decide +kernel
theorem dX6_part_194 : decode cX6_part 194 = .ok (.getfield 12, 3) := by decide +kernel
theorem dX6_part_197 : decode cX6_part 197 = .ok (.getfield 101, 3) := by decide +kernel
theorem dX6_part_200 : decode cX6_part 200 = .ok (.ifCond .lt 18, 3) := by decide +kernel
theorem dX6_part_203 : decode cX6_part 203 = .ok (.aload_n 0, 1) := by decide +kernel
theorem dX6_part_204 : decode cX6_part 204 = .ok (.getfield 12, 3) := by decide +kernel
theorem dX6_part_207 : decode cX6_part 207 = .ok (.getfield 101, 3) := by decide +kernel
theorem dX6_part_210 : decode cX6_part 210 = .ok (.getstatic 153, 3) := by decide +kernel
theorem dX6_part_213 : decode cX6_part 213 = .ok (.iload_n 3, 1) := by decide +kernel
theorem dX6_part_214 : decode cX6_part 214 = .ok (.iaload, 1) := by decide +kernel
theorem dX6_part_215 : decode cX6_part 215 = .ok (.if_icmp .le 5, 3) := by decide +kernel
theorem dX6_part_220 : decode cX6_part 220 = .ok (.getstatic 150, 3) := by decide +kernel
theorem dX6_part_223 : decode cX6_part 223 = .ok (.iload_n 3, 1) := by decide +kernel
theorem dX6_part_224 : decode cX6_part 224 = .ok (.iaload, 1) := by decide +kernel
theorem dX6_part_225 : decode cX6_part 225 = .ok (.aload_n 0, 1) := by decide +kernel
theorem dX6_part_226 : decode cX6_part 226 = .ok (.getfield 12, 3) := by decide +kernel
theorem dX6_part_229 : decode cX6_part 229 = .ok (.getfield 101, 3) := by decide +kernel
theorem dX6_part_232 : decode cX6_part 232 = .ok (.iadd, 1) := by decide +kernel
theorem dX6_part_233 : decode cX6_part 233 = .ok (.istore_n 2, 1) := by decide +kernel
theorem dX6_part_234 : decode cX6_part 234 = .ok (.aload_n 0, 1) := by decide +kernel
theorem dX6_part_235 : decode cX6_part 235 = .ok (.getfield 12, 3) := by decide +kernel
theorem dX6_part_238 : decode cX6_part 238 = .ok (.invokevirtual 47, 3) := by decide +kernel
theorem dX6_part_157 : decode cX6_part 157 = .ok (.iconst 0, 1) := by decide +kernel
theorem dX6_part_158 : decode cX6_part 158 = .ok (.ireturn, 1) := by decide +kernel
theorem dX6_part_141 : decode cX6_part 141 = .ok (.ldc 144, 2) := by decide +kernel
theorem dX6_part_143 : decode cX6_part 143 = .ok (.goto 5, 3) := by decide +kernel
theorem dX6_part_173 : decode cX6_part 173 = .ok (.iconst (-1), 1) := by decide +kernel
theorem dX6_part_174 : decode cX6_part 174 = .ok (.goto 6, 3) := by decide +kernel
theorem dX6_part_218 : decode cX6_part 218 = .ok (.iconst 0, 1) := by decide +kernel
theorem dX6_part_219 : decode cX6_part 219 = .ok (.ireturn, 1) := by decide +kernel
theorem dX6_part_241 : decode cX6_part 241 = .ok (.aload_n 0, 1) := by decide +kernel
theorem dX6_part_242 : decode cX6_part 242 = .ok (.getfield 23, 3) := by decide +kernel
theorem dX6_part_245 : decode cX6_part 245 = .ok (.iconst 2, 1) := by decide +kernel
theorem dX6_part_246 : decode cX6_part 246 = .ok (.iload_n 2, 1) := by decide +kernel
theorem dX6_part_247 : decode cX6_part 247 = .ok (.invokevirtual 95, 3) := by decide +kernel
theorem dX6_part_250 : decode cX6_part 250 = .ok (.pop, 1) := by decide +kernel
theorem dX6_part_251 : decode cX6_part 251 = .ok (.iconst 1, 1) := by decide +kernel
theorem dX6_part_252 : decode cX6_part 252 = .ok (.ireturn, 1) := by decide +kernel
theorem dX6_part_105 : decode cX6_part 105 = .ok (.aload_n 0, 1) := by decide +kernel
theorem dX6_part_106 : decode cX6_part 106 = .ok (.getfield 23, 3) := by decide +kernel
theorem dX6_part_109 : decode cX6_part 109 = .ok (.iconst 1, 1) := by decide +kernel
theorem dX6_part_110 : decode cX6_part 110 = .ok (.aload_n 0, 1) := by decide +kernel
theorem dX6_part_111 : decode cX6_part 111 = .ok (.getfield 12, 3) := by decide +kernel
theorem dX6_part_114 : decode cX6_part 114 = .ok (.getfield 101, 3) := by decide +kernel
theorem dX6_part_117 : decode cX6_part 117 = .ok (.invokevirtual 95, 3) := by decide +kernel
theorem dX6_part_120 : decode cX6_part 120 = .ok (.pop, 1) := by decide +kernel
theorem dX6_part_121 : decode cX6_part 121 = .ok (.aload_n 0, 1) := by decide +kernel
theorem dX6_part_122 : decode cX6_part 122 = .ok (.getfield 12, 3) := by decide +kernel
theorem dX6_part_125 : decode cX6_part 125 = .ok (.invokevirtual 47, 3) := by decide +kernel
theorem dX6_part_128 : decode cX6_part 128 = .ok (.iconst 1, 1) := by decide +kernel
theorem dX6_part_129 : decode cX6_part 129 = .ok (.ireturn, 1) := by decide +kernel
theorem dX6_part_82 : decode cX6_part 82 = .ok (.iconst 0, 1) := by decide +kernel
theorem dX6_part_83 : decode cX6_part 83 = .ok (.ireturn, 1) := by decide +kernel
theorem dX6_part_12 : decode cX6_part 12 = .ok (.iload_n 1, 1) := by decide +kernel
theorem dX6_part_13 : decode cX6_part 13 = .ok (.bipush 8, 2) := by decide +kernel
theorem dX6_part_15 : decode cX6_part 15 = .ok (.if_icmp .lt 5, 3) := by decide +kernel
theorem dX6_part_20 : decode cX6_part 20 = .ok (.aload_n 0, 1) := by decide +kernel
theorem dX6_part_21 : decode cX6_part 21 = .ok (.getfield 12, 3) := by decide +kernel
theorem dX6_part_24 : decode cX6_part 24 = .ok (.invokevirtual 47, 3) := by decide +kernel
theorem dX6_part_27 : decode cX6_part 27 = .ok (.aload_n 0, 1) := by decide +kernel
theorem dX6_part_28 : decode cX6_part 28 = .ok (.iload_n 1, 1) := by decide +kernel
theorem dX6_part_29 : decode cX6_part 29 = .ok (.iconst 1, 1) := by decide +kernel
theorem dX6_part_30 : decode cX6_part 30 = .ok (.iadd, 1) := by decide +kernel
theorem dX6_part_31 : decode cX6_part 31 = .ok (.invokevirtual 92, 3) := by decide +kernel
theorem dX6_part_34 : decode cX6_part 34 = .ok (.ifCond .eq 15, 3) := by decide +kernel
theorem dX6_part_37 : decode cX6_part 37 = .ok (.aload_n 0, 1) := by decide +kernel
theorem dX6_part_38 : decode cX6_part 38 = .ok (.getfield 12, 3) := by decide +kernel
theorem dX6_part_41 : decode cX6_part 41 = .ok (.getfield 54, 3) := by decide +kernel
theorem dX6_part_44 : decode cX6_part 44 = .ok (.bipush 93, 2) := by decide +kernel
theorem dX6_part_46 : decode cX6_part 46 = .ok (.if_icmp .eq 5, 3) := by decide +kernel
theorem dX6_part_51 : decode cX6_part 51 = .ok (.aload_n 0, 1) := by decide +kernel
theorem dX6_part_52 : decode cX6_part 52 = .ok (.getfield 12, 3) := by decide +kernel
theorem dX6_part_55 : decode cX6_part 55 = .ok (.invokevirtual 47, 3) := by decide +kernel
theorem dX6_part_58 : decode cX6_part 58 = .ok (.iconst 1, 1) := by decide +kernel
theorem dX6_part_59 : decode cX6_part 59 = .ok (.ireturn, 1) := by decide +kernel
theorem dX6_part_49 : decode cX6_part 49 = .ok (.iconst 0, 1) := by decide +kernel
theorem dX6_part_50 : decode cX6_part 50 = .ok (.ireturn, 1) := by decide +kernel
theorem dX6_part_18 : decode cX6_part 18 = .ok (.iconst 0, 1) := by decide +kernel
theorem dX6_part_19 : decode cX6_part 19 = .ok (.ireturn, 1) := by decide +kernel
theorem dX6_sum_0 : decode cX6_sum 0 = .ok (.iconst (-1), 1) := by decide +kernel
theorem dX6_sum_1 : decode cX6_sum 1 = .ok (.istore_n 2, 1) := by decide +kernel
theorem dX6_sum_2 : decode cX6_sum 2 = .ok (.iconst (-1), 1) := by decide +kernel
theorem dX6_sum_3 : decode cX6_sum 3 = .ok (.istore_n 3, 1) := by decide +kernel
theorem dX6_sum_4 : decode cX6_sum 4 = .ok (.iconst 0, 1) := by decide +kernel
theorem dX6_sum_5 : decode cX6_sum 5 = .ok (.istore 4, 2) := by decide +kernel
theorem dX6_sum_7 : decode cX6_sum 7 = .ok (.iload 4, 2) := by decide +kernel
theorem dX6_sum_9 : decode cX6_sum 9 = .ok (.sipush 400, 3) := by decide +kernel
theorem dX6_sum_12 : decode cX6_sum 12 = .ok (.if_icmp .gt 80, 3) := by decide +kernel
theorem dX6_sum_15 : decode cX6_sum 15 = .ok (.aload_n 0, 1) := by decide +kernel
theorem dX6_sum_16 : decode cX6_sum 16 = .ok (.iload_n 1, 1) := by decide +kernel
theorem dX6_sum_17 : decode cX6_sum 17 = .ok (.invokevirtual 137, 3) := by decide +kernel
theorem dX6_sum_20 : decode cX6_sum 20 = .ok (.ifCond .ne 5, 3) := by decide +kernel
theorem dX6_sum_25 : decode cX6_sum 25 = .ok (.iload_n 2, 1) := by decide +kernel
theorem dX6_sum_26 : decode cX6_sum 26 = .ok (.iconst (-1), 1) := by decide +kernel
theorem dX6_sum_27 : decode cX6_sum 27 = .ok (.if_icmp .eq 13, 3) := by decide +kernel
theorem dX6_sum_40 : decode cX6_sum 40 = .ok (.aload_n 0, 1) := by decide +kernel
theorem dX6_sum_41 : decode cX6_sum 41 = .ok (.ldc 140, 2) := by decide +kernel
theorem dX6_sum_43 : decode cX6_sum 43 = .ok (.iconst 5, 1) := by decide +kernel
theorem dX6_sum_44 : decode cX6_sum 44 = .ok (.invokevirtual 133, 3) := by decide +kernel
theorem dX6_sum_47 : decode cX6_sum 47 = .ok (.istore_n 2, 1) := by decide +kernel
theorem dX6_sum_48 : decode cX6_sum 48 = .ok (.iload_n 2, 1) := by decide +kernel
theorem dX6_sum_49 : decode cX6_sum 49 = .ok (.iconst (-1), 1) := by decide +kernel
theorem dX6_sum_50 : decode cX6_sum 50 = .ok (.if_icmp .eq 6, 3) := by decide +kernel
theorem dX6_sum_56 : decode cX6_sum 56 = .ok (.iload_n 3, 1) := by decide +kernel
theorem dX6_sum_57 : decode cX6_sum 57 = .ok (.iconst (-1), 1) := by decide +kernel
theorem dX6_sum_58 : decode cX6_sum 58 = .ok (.if_icmp .eq 13, 3) := by decide +kernel
theorem dX6_sum_71 : decode cX6_sum 71 = .ok (.aload_n 0, 1) := by decide +kernel
theorem dX6_sum_72 : decode cX6_sum 72 = .ok (.ldc 142, 2) := by decide +kernel
theorem dX6_sum_74 : decode cX6_sum 74 = .ok (.iconst 3, 1) := by decide +kernel
theorem dX6_sum_75 : decode cX6_sum 75 = .ok (.invokevirtual 133, 3) := by decide +kernel
theorem dX6_sum_78 : decode cX6_sum 78 = .ok (.istore_n 3, 1) := by decide +kernel
theorem dX6_sum_79 : decode cX6_sum 79 = .ok (.iload_n 3, 1) := by decide +kernel
theorem dX6_sum_80 : decode cX6_sum 80 = .ok (.iconst (-1), 1) := by decide +kernel
theorem dX6_sum_81 : decode cX6_sum 81 = .ok (.if_icmp .ne 5, 3) := by decide +kernel
theorem dX6_sum_53 : decode cX6_sum 53 = .ok (.goto 33, 3) := by decide +kernel
theorem dX6_sum_86 : decode cX6_sum 86 = .ok (.iinc 4 1, 3) := by decide +kernel
theorem dX6_sum_89 : decode cX6_sum 89 = .ok (.goto (-82), 3) := by decide +kernel
theorem dX6_sum_30 : decode cX6_sum 30 = .ok (.aload_n 0, 1) := by decide +kernel
theorem dX6_sum_31 : decode cX6_sum 31 = .ok (.getfield 23, 3) := by decide +kernel
theorem dX6_sum_34 : decode cX6_sum 34 = .ok (.iload_n 2, 1) := by decide +kernel
theorem dX6_sum_35 : decode cX6_sum 35 = .ok (.iconst 0, 1) := by decide +kernel
theorem dX6_sum_36 : decode cX6_sum 36 = .ok (.invokevirtual 95, 3) := by decide +kernel
theorem dX6_sum_39 : decode cX6_sum 39 = .ok (.pop, 1) := by decide +kernel
theorem dX6_sum_61 : decode cX6_sum 61 = .ok (.aload_n 0, 1) := by decide +kernel
theorem dX6_sum_62 : decode cX6_sum 62 = .ok (.getfield 23, 3) := by decide +kernel
theorem dX6_sum_65 : decode cX6_sum 65 = .ok (.iload_n 3, 1) := by decide +kernel
theorem dX6_sum_66 : decode cX6_sum 66 = .ok (.iconst 0, 1) := by decide +kernel
theorem dX6_sum_67 : decode cX6_sum 67 = .ok (.invokevirtual 95, 3) := by decide +kernel
theorem dX6_sum_70 : decode cX6_sum 70 = .ok (.pop, 1) := by decide +kernel
theorem dX6_sum_92 : decode cX6_sum 92 = .ok (.iconst 0, 1) := by decide +kernel
theorem dX6_sum_93 : decode cX6_sum 93 = .ok (.ireturn, 1) := by decide +kernel
theorem dX6_sum_84 : decode cX6_sum 84 = .ok (.iconst 1, 1) := by decide +kernel
theorem dX6_sum_85 : decode cX6_sum 85 = .ok (.ireturn, 1) := by decide +kernel
theorem dX6_sum_23 : decode cX6_sum 23 = .ok (.iconst 0, 1) := by decide +kernel
theorem dX6_sum_24 : decode cX6_sum 24 = .ok (.ireturn, 1) := by decide +kernel
set_option maxRecDepth 100000 in
set_option maxHeartbeats 4000000 in
theorem ggX6_passed_X8_find : GoodIn wsX6_passed wsX8_find := goodIn_q _ [5, 13, 18, 24, 28, 32, 35, 40, 44, 47, 50, 54] [6, 7, 8, 9, 10, 11, 12, 14, 15, 16, 17, 19, 20, 21, 22, 23, 25, 26, 27, 29, 30, 31, 33, 34, 36, 37, 38, 39, 41, 42, 43, 45, 46, 48, 49, 51, 52, 53, 55, 56, 57, 74, 75, 76, 77, 78, 79] rfl (by decide +kernel) (by decide +kernel)
set_option maxRecDepth 20000 in
theorem gX6_passed_X8_find_n67 : GoodIn wsX6_passed (wsX8_find) := ggX6_passed_X8_find
set_option maxRecDepth 20000 in
theorem ggX6_passed_X8_step : GoodIn wsX6_passed wsX8_step := goodIn_r _ [60, 7, 6, 61, 8, 62, 63, 64, 65, 66, 67, 68, 74, 75, 76, 77, 78, 79] (by decide +kernel) (by decide +kernel)
set_option maxRecDepth 20000 in
theorem gX6_passed_X8_step_n47 : GoodIn wsX6_passed (wsX8_step) := ggX6_passed_X8_step
set_option maxRecDepth 20000 in
theorem ggX6_operator_J0_length_8abf5 : GoodIn wsX6_operator wsJ0_length_8abf5 := goodIn_r _ [6, 7, 8, 9, 10, 5, 11, 12, 13] (by decide +kernel) (by decide +kernel)
set_option maxRecDepth 20000 in
theorem gX6_operator_J0_length_8abf5 : GoodIn wsX6_operator (wsV RX6 109 RJ0 yJ0_length_8abf5 wsJ0_length_8abf5) := goodIn_app (goodIn_of _ (by decide +kernel)) ggX6_operator_J0_length_8abf5
set_option maxRecDepth 100000 in
set_option maxHeartbeats 4000000 in
theorem ggX6_operator_J0_charAt_5068e : GoodIn wsX6_operator wsJ0_charAt_5068e := goodIn_q _ [17, 21, 25, 28, 33, 37, 40, 43, 47] [7, 18, 19, 20, 5, 12, 13, 22, 23, 24, 26, 27, 29, 30, 31, 32, 34, 35, 36, 38, 39, 41, 42, 44, 45, 46, 48, 49, 50] rfl (by decide +kernel) (by decide +kernel)
set_option maxRecDepth 20000 in
theorem gX6_operator_J0_charAt_5068e : GoodIn wsX6_operator (wsV RX6 114 RJ0 yJ0_charAt_5068e wsJ0_charAt_5068e) := goodIn_app (goodIn_of _ (by decide +kernel)) ggX6_operator_J0_charAt_5068e
set_option maxRecDepth 20000 in
theorem ggX6_operator_X8_step : GoodIn wsX6_operator wsX8_step := goodIn_r _ [54, 55, 56, 57, 58, 59, 60, 61, 62, 63, 64, 65, 71, 72, 73, 74, 75, 76] (by decide +kernel) (by decide +kernel)
set_option maxRecDepth 20000 in
theorem gX6_operator_X8_step_n47 : GoodIn wsX6_operator (wsX8_step) := ggX6_operator_X8_step
set_option maxRecDepth 20000 in
theorem ggX6_part_X7_emit : GoodIn wsX6_part wsX7_emit := goodIn_r _ [29, 30, 31, 105, 106, 107, 108] (by decide +kernel) (by decide +kernel)
set_option maxRecDepth 20000 in
theorem gX6_part_X7_emit_n95 : GoodIn wsX6_part (wsX7_emit) := ggX6_part_X7_emit
set_option maxRecDepth 100000 in
set_option maxHeartbeats 4000000 in
theorem ggX6_part_X8_find : GoodIn wsX6_part wsX8_find := goodIn_q _ [34, 39, 44, 50, 54, 58, 61, 66, 70, 73, 76, 80] [12, 11, 14, 35, 36, 37, 38, 40, 41, 42, 43, 45, 46, 47, 48, 49, 51, 52, 53, 55, 56, 57, 59, 60, 62, 63, 64, 65, 67, 68, 69, 71, 72, 74, 75, 77, 78, 79, 81, 82, 83, 99, 100, 101, 102, 103, 104] rfl (by decide +kernel) (by decide +kernel)
set_option maxRecDepth 20000 in
theorem gX6_part_X8_find_n67 : GoodIn wsX6_part (wsX8_find) := ggX6_part_X8_find
set_option maxRecDepth 20000 in
theorem ggX6_part_X8_step : GoodIn wsX6_part wsX8_step := goodIn_r _ [10, 11, 12, 13, 14, 15, 16, 17, 18, 19, 20, 21, 99, 100, 101, 102, 103, 104] (by decide +kernel) (by decide +kernel)
set_option maxRecDepth 20000 in
theorem gX6_part_X8_step_n47 : GoodIn wsX6_part (wsX8_step) := ggX6_part_X8_step
set_option maxRecDepth 100000 in
set_option maxHeartbeats 4000000 in
theorem ggX6_part_X6_sum : GoodIn wsX6_part wsX6_sum := goodIn_q _ [84, 29, 91, 39, 44, 50, 54, 58, 61, 66, 70, 73, 76, 80, 10, 20, 0, 34] [3, 85, 86, 87, 25, 26, 27, 28, 30, 31, 88, 89, 90, 1, 92, 36, 37, 38, 40, 41, 42, 43, 45, 46, 93, 48, 49, 51, 52, 53, 55, 56, 57, 59, 60, 62, 63, 64, 65, 67, 68, 69, 71, 72, 74, 75, 77, 78, 79, 81, 82, 83, 7, 8, 9, 11, 12, 13, 14, 15, 16, 17, 18, 19, 21, 2, 4, 5, 6, 22, 23, 24, 32, 33, 35, 47, 94, 95, 96, 97, 98, 99, 100, 101, 102, 103, 104, 105, 106, 107, 108] rfl (by decide +kernel) (by decide +kernel)
set_option maxRecDepth 20000 in
theorem gX6_part_X6_sum : GoodIn wsX6_part (wsV RX6 92 RX6 yX6_sum wsX6_sum) := goodIn_app (goodIn_of _ (by decide +kernel)) ggX6_part_X6_sum
set_option maxRecDepth 100000 in
set_option maxHeartbeats 4000000 in
theorem ggX6_sum_X6_part : GoodIn wsX6_sum wsX6_part := goodIn_q _ [81, 69, 79, 9, 91, 21, 26, 32, 36, 40, 43, 48, 52, 55, 58, 62, 0, 15] [16, 82, 1, 83, 84, 85, 66, 67, 68, 70, 71, 72, 73, 74, 75, 76, 77, 78, 80, 86, 87, 88, 5, 6, 7, 8, 10, 11, 89, 90, 92, 18, 19, 20, 22, 23, 24, 25, 27, 28, 93, 30, 31, 33, 34, 35, 37, 38, 39, 41, 42, 44, 45, 46, 47, 49, 50, 51, 53, 54, 56, 57, 59, 60, 61, 63, 64, 65, 2, 3, 4, 12, 13, 14, 17, 29, 94, 95, 96, 97, 98, 99, 100, 101, 102, 103, 104, 105, 106, 107, 108] rfl (by decide +kernel) (by decide +kernel)
set_option maxRecDepth 20000 in
theorem gX6_sum_X6_part : GoodIn wsX6_sum (wsV RX6 137 RX6 yX6_part wsX6_part) := goodIn_app (goodIn_of _ (by decide +kernel)) ggX6_sum_X6_part
set_option maxRecDepth 100000 in
set_option maxHeartbeats 4000000 in
theorem ggX6_sum_X6_operator : GoodIn wsX6_sum wsX6_operator := goodIn_q _ [15, 21, 26, 32, 36, 40, 43, 48, 52, 55, 58, 62, 69, 79] [16, 17, 18, 19, 20, 22, 23, 24, 25, 27, 28, 29, 30, 31, 33, 34, 35, 37, 38, 39, 41, 42, 44, 45, 46, 47, 49, 50, 51, 53, 54, 56, 57, 59, 60, 61, 63, 64, 65, 66, 67, 68, 70, 71, 72, 73, 74, 75, 76, 77, 78, 80, 94, 95, 96, 97, 98, 99, 100, 101, 102, 103, 104] rfl (by decide +kernel) (by decide +kernel)
set_option maxRecDepth 20000 in
theorem gX6_sum_X6_operator : GoodIn wsX6_sum (wsV RX6 133 RX6 yX6_operator wsX6_operator) := goodIn_app (goodIn_of _ (by decide +kernel)) ggX6_sum_X6_operator
set_option maxRecDepth 20000 in
theorem ggX6_sum_X7_emit : GoodIn wsX6_sum wsX7_emit := goodIn_r _ [9, 10, 11, 105, 106, 107, 108] (by decide +kernel) (by decide +kernel)
set_option maxRecDepth 20000 in
theorem gX6_sum_X7_emit_n95 : GoodIn wsX6_sum (wsX7_emit) := ggX6_sum_X7_emit
set_option maxHeartbeats 4000000 in
set_option maxRecDepth 100000 in
theorem w_passed (l : Launch) (D : va_G) (K : Nat → ClassId) (g : Nat → Nat) (L : Nat → Prop) (k : Nat) (a0 : Nat) (t0 : Nat) (s0 : Nat) (lw : Int32) (pa : Int32) (r_4 : Value) (t1 : Nat) (ln : Int32) (tf : Int32) (tt : Int32) (ti : Int32) (tu : Int32) (fb : Nat → Int32) (sz : Nat) (hk : k < 13) (zln : 0 ≤ ln.toInt ∧ ln.toInt ≤ 400) (ztf : 0 ≤ tf.toInt ∧ tf.toInt ≤ 400) (ztt : 0 ≤ tt.toInt ∧ tt.toInt ≤ 400) (ztu : (-1) ≤ tu.toInt ∧ tu.toInt ≤ 1000000) (zlw : 0 ≤ lw.toInt ∧ lw.toInt ≤ 1) (zpa : 0 ≤ pa.toInt ∧ pa.toInt ≤ 50) : Met l yX6_passed wsX6_passed ({ frames := 5, cells := 0, slots := 0, locals := 110 }) (va_Pc [.ref a0, .ref (g (8 + 2 * k))] (PreY D K [(a0, .inr (6, [.ref t0, .ref s0, .int lw, .int pa, r_4])), (t0, .inr (8, [.ref t1, .int ln, .int tf, .int tt, .int ti, .int tu])), (t1, .inl (K 0, 400, .inl fb))] [] sz g L (va_A [(a0, .inr (6, [.ref t0, .ref s0, .int lw, .int pa, r_4])), (t0, .inr (8, [.ref t1, .int ln, .int tf, .int tt, .int ti, .int tu])), (t1, .inl (K 0, 400, .inl fb))] sz))) (va_Qi (S := Su) (fun (r : Int32) (u : Su) => (0 ≤ r.toInt ∧ r.toInt ≤ 1) ∧ (0 ≤ (u.2.2.2.1 0).toInt ∧ (u.2.2.2.1 0).toInt ≤ 400) ∧ (0 ≤ (u.2.2.2.1 1).toInt ∧ (u.2.2.2.1 1).toInt ≤ 400) ∧ ((-1) ≤ (u.2.2.2.1 3).toInt ∧ (u.2.2.2.1 3).toInt ≤ 1000000) ∧ True) (fun u t => Wd D (va_A [(a0, .inr (6, [.ref t0, .ref s0, .int lw, .int pa, r_4])), (t0, .inr (8, [.ref t1, .int ln, .int tf, .int tt, .int ti, .int tu])), (t1, .inl (K 0, 400, .inl fb))] sz) ((fun u => [(a0, .inr (6, [.ref t0, .ref s0, .int lw, .int pa, r_4])), (t0, .inr (8, [.ref t1, .int ln, .int (u.2.2.2.1 0), .int (u.2.2.2.1 1), .int (u.2.2.2.1 2), .int (u.2.2.2.1 3)])), (t1, .inl (K 0, 400, .inl fb))]) u) t) (va_A [(a0, .inr (6, [.ref t0, .ref s0, .int lw, .int pa, r_4])), (t0, .inr (8, [.ref t1, .int ln, .int tf, .int tt, .int ti, .int tu])), (t1, .inl (K 0, 400, .inl fb))] sz)) 0 0 (va_A [(a0, .inr (6, [.ref t0, .ref s0, .int lw, .int pa, r_4])), (t0, .inr (8, [.ref t1, .int ln, .int tf, .int tt, .int ti, .int tu])), (t1, .inl (K 0, 400, .inl fb))] sz) := by
  refine Met.ofW (cc := cX6_passed) (maxL := 2) (ret := (some .boolean)) (by decide) rfl ?_
  intro p e s m args below meth c s₁ B hml hv
  obtain ⟨rfl, ⟨hsz, hP, hK, hD0, hN⟩, hG, hPl, hRo⟩ := hv
  have hx := B.exec
  have hb := B.bytes
  have hr := B.returns
  have hts := atoms_spec (ws := wsX6_passed) B.pre
  have hown : s.vm.findClass RX6 = some m.cls := findClass_of_methodNamed B.named
  have hlocks := B.notSynchronized
  subst hsz
  have hD := hD0.self (sz := s.heap.size)
  generalize hAe : va_A [(a0, .inr (6, [.ref t0, .ref s0, .int lw, .int pa, r_4])), (t0, .inr (8, [.ref t1, .int ln, .int tf, .int tt, .int ti, .int tu])), (t1, .inl (K 0, 400, .inl fb))] s.heap.size = A at hD hG hPl hRo ⊢
  have hA : ∀ q : Nat, s.heap.size ≤ q → A q := fun q h => by rw [← hAe]; exact Or.inr h
  have hS : va_S A s.heap s.heap [] := va_S.rf
  have hP : va_P D vwCl [(a0, .inr (6, [.ref t0, .ref s0, .int lw, .int pa, r_4])), (t0, .inr (8, [.ref t1, .int ln, .int tf, .int tt, .int ti, .int tu])), (t1, .inl (K 0, 400, .inl fb))] s.heap := hP
  have hl := lv_entry [.ref a0, .ref (g (8 + 2 * k))] (n := 2) (Nat.le_of_ble_eq_true rfl)
  rw [lg_entry_eq]
  generalize (lg_sl [.ref a0, .ref (g (8 + 2 * k))] ++ List.replicate (2 - (lg_sl [.ref a0, .ref (g (8 + 2 * k))]).length) Slot.unset).toArray = ls at hl ⊢
  have hl : lv_has ls 2 [(0, .ref a0), (1, .ref (g (8 + 2 * k)))] := hl
  have hw6 : ∀ w ∈ wsX60, w ∈ wsX6_passed := fun w h => (List.mem_cons_of_mem _ (List.mem_append_left _ (List.mem_append_right _ h)))
  have hw8 : ∀ w ∈ wsX80, w ∈ wsX6_passed := fun w h => (List.mem_cons_of_mem _ (List.mem_append_right _ h))
  generalize hQ : MQ below _ _ s _ _ _ = Q
  refine lv_aload_n hx hb dX6_passed_0 rfl (lv_at hl 0 rfl) ?_
  refine va_get (ci := 6) (v := .ref t0) (C := RX6) (T := TX6) (N := 5) hx hb hts hw6 hown hK hP 0 rfl rfl 0 (by decide) (hts (.fieldLink RX6 12 "SmokeTune$Reader" "tape" "LSmokeTune$Tape;") (List.mem_cons_of_mem _ (List.mem_append_left _ (List.mem_append_left _ (List.mem_append_left _ (List.mem_of_getElem? (i := 0) rfl)))))) (fun _ h9 => h9) rfl dX6_passed_1 ?_
  refine lv_aload_n hx hb dX6_passed_4 rfl (lv_at hl 1 rfl) ?_
  refine pci (va_runVN (As := [.ref (g (8 + 2 * k))]) (rest := []) ⟨hx, hb, hml, hown, hts⟩ (w_find l D K g L k t0 t1 ln tf tt ti tu fb s.heap.size hk (by first | omega | decide) (by first | omega | decide) (by first | omega | decide) (by first | omega | decide)) ⟨va_cnB 1 hts gX6_passed_X8_find_n67 rfl rfl rfl (nst_at hN 33 rfl) (hts (.initialized RX8) (List.mem_cons_of_mem _ (List.mem_append_left _ (List.mem_append_left _ (List.mem_append_left _ (List.mem_of_getElem? (i := 2) rfl)))))) (by decide +kernel) ⟨Nat.le_of_ble_eq_true rfl, Nat.le_of_ble_eq_true rfl⟩, (hts (.instanceMethod yX8_find) (List.mem_cons_of_mem _ (List.mem_append_left _ (List.mem_append_left _ (List.mem_append_left _ (List.mem_of_getElem? (i := 1) rfl)))))), (hts (.selects RX8 yX8_find yX8_find) (List.mem_cons_of_mem _ (List.mem_append_left _ (List.mem_append_left _ (List.mem_append_left _ (List.mem_of_getElem? (i := 3) rfl))))))⟩ (mkVY hK hN (hP.sub [1, 2] rfl) (hD.sub [1, 2] (by decide) rfl) (ci := 8) (q0 := 0) rfl rfl (fun U hU hW => ⟨Gl.at hG hS hW hU (fun _ h9 => h9.elim), Pool.at hPl hS hU (fun _ h9 => h9.elim), Ro.heap hU (Ro.nil)⟩)) rfl rfl hl.1 rfl (lv_room (Nat.le_of_ble_eq_true rfl)) dX6_passed_5 ⟨Nat.le_of_ble_eq_true rfl, Nat.le_of_ble_eq_true rfl⟩) (fun r_17 hw => ?_)
  obtain ⟨h_18, -⟩ := hw
  refine lv_if_eq (tgt := 13) hx hb dX6_passed_8 (by decide) (fun c_19 => ?_) (fun c_19 => ?_)
  · have c_19i := i_eq (x := r_17.toInt) (y := 0) rfl rfl c_19
    refine lv_aload_n hx hb dX6_passed_13 rfl (lv_at hl 0 rfl) ?_
    refine va_get (ci := 6) (v := .ref t0) (C := RX6) (T := TX6) (N := 5) hx hb hts hw6 hown hK hP 0 rfl rfl 0 (by decide) (hts (.fieldLink RX6 12 "SmokeTune$Reader" "tape" "LSmokeTune$Tape;") (List.mem_cons_of_mem _ (List.mem_append_left _ (List.mem_append_left _ (List.mem_append_left _ (List.mem_of_getElem? (i := 0) rfl)))))) (fun _ h9 => h9) rfl dX6_passed_14 ?_
    refine kcv (S := Su) (wr := [(a0, .inr (6, [.ref t0, .ref s0, .int lw, .int pa, r_4]))]) (va_runVN (As := []) (rest := []) ⟨hx, hb, hml, hown, hts⟩ (w_step l D K t0 t1 ln tf tt ti tu fb s.heap.size (by first | omega | decide) (by first | omega | decide)) ⟨va_cnB 0 hts gX6_passed_X8_step_n47 rfl rfl rfl (nst_at hN 32 rfl) (hts (.initialized RX8) (List.mem_cons_of_mem _ (List.mem_append_left _ (List.mem_append_left _ (List.mem_append_left _ (List.mem_of_getElem? (i := 2) rfl)))))) (by decide +kernel) ⟨Nat.le_of_ble_eq_true rfl, Nat.le_of_ble_eq_true rfl⟩, (hts (.instanceMethod yX8_step) (List.mem_cons_of_mem _ (List.mem_append_left _ (List.mem_append_left _ (List.mem_append_right _ (List.mem_append_right _ (List.mem_of_getElem? (i := 9) rfl))))))), (hts (.selects RX8 yX8_step yX8_step) (List.mem_cons_of_mem _ (List.mem_append_left _ (List.mem_append_left _ (List.mem_append_right _ (List.mem_append_right _ (List.mem_of_getElem? (i := 10) rfl)))))))⟩ (mkV hK hN (hP.sub [1, 2] rfl) (hD.sub [1, 2] (by decide) rfl) (ci := 8) (q0 := 0) rfl rfl) rfl rfl hl.1 rfl (lv_room (Nat.le_of_ble_eq_true rfl)) dX6_passed_17 ⟨Nat.le_of_ble_eq_true rfl, Nat.le_of_ble_eq_true rfl⟩) hP hD hS hA [1, 2] [0] rfl rfl (by decide) (by decide) (fun u_21 H locs hw hP hD hS => ?_)
    have hP : va_P D vwCl [(a0, .inr (6, [.ref t0, .ref s0, .int lw, .int pa, r_4])), (t0, .inr (8, [.ref t1, .int ln, .int (u_21.2.2.2.1 0), .int (u_21.2.2.2.1 1), .int (u_21.2.2.2.1 2), .int (u_21.2.2.2.1 3)])), (t1, .inl (K 0, 400, .inl fb))] H := hP
    have hD : va_D A [(a0, .inr (6, [.ref t0, .ref s0, .int lw, .int pa, r_4])), (t0, .inr (8, [.ref t1, .int ln, .int (u_21.2.2.2.1 0), .int (u_21.2.2.2.1 1), .int (u_21.2.2.2.1 2), .int (u_21.2.2.2.1 3)])), (t1, .inl (K 0, 400, .inl fb))] := hD
    obtain ⟨k_22, k_23, k_24, -⟩ := hw
    refine lv_iconst (v := 1) hx hb dX6_passed_20 (by decide) ?_
    rw [← hQ]
    have hP9 := hP.sub (ws' := [(a0, .inr (6, [.ref t0, .ref s0, .int lw, .int pa, r_4])), (t0, .inr (8, [.ref t1, .int ln, .int (u_21.2.2.2.1 0), .int (u_21.2.2.2.1 1), .int (u_21.2.2.2.1 2), .int (u_21.2.2.2.1 3)])), (t1, .inl (K 0, 400, .inl fb))]) [0, 1, 2] rfl
    have hD9 := hD.sub (ws' := [(a0, .inr (6, [.ref t0, .ref s0, .int lw, .int pa, r_4])), (t0, .inr (8, [.ref t1, .int ln, .int (u_21.2.2.2.1 0), .int (u_21.2.2.2.1 1), .int (u_21.2.2.2.1 2), .int (u_21.2.2.2.1 3)])), (t1, .inl (K 0, 400, .inl fb))]) [0, 1, 2] (by decide) rfl
    exact W.zret (v := 1) hx hb hr (by decide) (fun t ht hW => ⟨⟨1, ((fun _ => 0, fun _ => fun _ => 0, fun _ => fun _ => 0, fun i => match i with | 0 => (u_21.2.2.2.1 0) | 1 => (u_21.2.2.2.1 1) | 2 => (u_21.2.2.2.1 2) | _ => (u_21.2.2.2.1 3), fun _ => 0, fun _ => fun _ => none) : Su), rfl, ⟨(show 0 ≤ (1 : Int32).toInt ∧ (1 : Int32).toInt ≤ 1 by decide), (show 0 ≤ ((u_21.2.2.2.1 0) : Int32).toInt ∧ ((u_21.2.2.2.1 0) : Int32).toInt ≤ 400 by omega), (show 0 ≤ ((u_21.2.2.2.1 1) : Int32).toInt ∧ ((u_21.2.2.2.1 1) : Int32).toInt ≤ 400 by omega), (show (-1) ≤ ((u_21.2.2.2.1 3) : Int32).toInt ∧ ((u_21.2.2.2.1 3) : Int32).toInt ≤ 1000000 by omega), trivial⟩, (⟨by rw [ht]; exact hP9, hD9⟩ : Wd D A _ t)⟩, hS.F ht⟩) hS.2.2 dX6_passed_21
  · have c_19i := i_ne (x := r_17.toInt) (y := 0) rfl rfl c_19
    refine lv_iconst (v := 0) hx hb dX6_passed_11 (by decide) ?_
    rw [← hQ]
    have hP9 := hP.sub (ws' := [(a0, .inr (6, [.ref t0, .ref s0, .int lw, .int pa, r_4])), (t0, .inr (8, [.ref t1, .int ln, .int tf, .int tt, .int ti, .int tu])), (t1, .inl (K 0, 400, .inl fb))]) [0, 1, 2] rfl
    have hD9 := hD.sub (ws' := [(a0, .inr (6, [.ref t0, .ref s0, .int lw, .int pa, r_4])), (t0, .inr (8, [.ref t1, .int ln, .int tf, .int tt, .int ti, .int tu])), (t1, .inl (K 0, 400, .inl fb))]) [0, 1, 2] (by decide) rfl
    exact W.zret (v := 0) hx hb hr (by decide) (fun t ht hW => ⟨⟨0, ((fun _ => 0, fun _ => fun _ => 0, fun _ => fun _ => 0, fun i => match i with | 0 => tf | 1 => tt | 2 => ti | _ => tu, fun _ => 0, fun _ => fun _ => none) : Su), rfl, ⟨(show 0 ≤ (0 : Int32).toInt ∧ (0 : Int32).toInt ≤ 1 by decide), (show 0 ≤ (tf : Int32).toInt ∧ (tf : Int32).toInt ≤ 400 by omega), (show 0 ≤ (tt : Int32).toInt ∧ (tt : Int32).toInt ≤ 400 by omega), (show (-1) ≤ (tu : Int32).toInt ∧ (tu : Int32).toInt ≤ 1000000 by omega), trivial⟩, (⟨by rw [ht]; exact hP9, hD9⟩ : Wd D A _ t)⟩, hS.F ht⟩) hS.2.2 dX6_passed_12
set_option maxHeartbeats 4000000 in
set_option maxRecDepth 100000 in
theorem w_operator (l : Launch) (D : va_G) (K : Nat → ClassId) (g : Nat → Nat) (L : Nat → Prop) (k : Nat) (a0 : Nat) (x : Int32) (t0 : Nat) (s0 : Nat) (lw : Int32) (pa : Int32) (r_4 : Value) (t1 : Nat) (ln : Int32) (tf : Int32) (tt : Int32) (ti : Int32) (tu : Int32) (fb : Nat → Int32) (sz : Nat) (hk : k < 13) (zln : 0 ≤ ln.toInt ∧ ln.toInt ≤ 400) (ztf : 0 ≤ tf.toInt ∧ tf.toInt ≤ 400) (ztt : 0 ≤ tt.toInt ∧ tt.toInt ≤ 400) (ztu : (-1) ≤ tu.toInt ∧ tu.toInt ≤ 1000000) (zlw : 0 ≤ lw.toInt ∧ lw.toInt ≤ 1) (zpa : 0 ≤ pa.toInt ∧ pa.toInt ≤ 50) (zx : 0 ≤ x.toInt ∧ x.toInt ≤ 20) : Met l yX6_operator wsX6_operator ({ frames := 4, cells := 0, slots := 0, locals := 85 }) (va_Pc [.ref a0, .ref (g (8 + 2 * k)), .int x] (PreY D K [(a0, .inr (6, [.ref t0, .ref s0, .int lw, .int pa, r_4])), (t0, .inr (8, [.ref t1, .int ln, .int tf, .int tt, .int ti, .int tu])), (t1, .inl (K 0, 400, .inl fb))] [] sz g L (va_A [(a0, .inr (6, [.ref t0, .ref s0, .int lw, .int pa, r_4])), (t0, .inr (8, [.ref t1, .int ln, .int tf, .int tt, .int ti, .int tu])), (t1, .inl (K 0, 400, .inl fb))] sz))) (va_Qi (S := Su) (fun (r : Int32) (u : Su) => ((-1) ≤ r.toInt ∧ r.toInt ≤ 66) ∧ (0 ≤ (u.2.2.2.1 0).toInt ∧ (u.2.2.2.1 0).toInt ≤ 400) ∧ (0 ≤ (u.2.2.2.1 1).toInt ∧ (u.2.2.2.1 1).toInt ≤ 400) ∧ ((-1) ≤ (u.2.2.2.1 3).toInt ∧ (u.2.2.2.1 3).toInt ≤ 1000000) ∧ True) (fun u t => Wd D (va_A [(a0, .inr (6, [.ref t0, .ref s0, .int lw, .int pa, r_4])), (t0, .inr (8, [.ref t1, .int ln, .int tf, .int tt, .int ti, .int tu])), (t1, .inl (K 0, 400, .inl fb))] sz) ((fun u => [(a0, .inr (6, [.ref t0, .ref s0, .int lw, .int pa, r_4])), (t0, .inr (8, [.ref t1, .int ln, .int (u.2.2.2.1 0), .int (u.2.2.2.1 1), .int (u.2.2.2.1 2), .int (u.2.2.2.1 3)])), (t1, .inl (K 0, 400, .inl fb))]) u) t) (va_A [(a0, .inr (6, [.ref t0, .ref s0, .int lw, .int pa, r_4])), (t0, .inr (8, [.ref t1, .int ln, .int tf, .int tt, .int ti, .int tu])), (t1, .inl (K 0, 400, .inl fb))] sz)) 0 0 (va_A [(a0, .inr (6, [.ref t0, .ref s0, .int lw, .int pa, r_4])), (t0, .inr (8, [.ref t1, .int ln, .int tf, .int tt, .int ti, .int tu])), (t1, .inl (K 0, 400, .inl fb))] sz) := by
  refine Met.ofW (cc := cX6_operator) (maxL := 4) (ret := (some .int)) (by decide) rfl ?_
  intro p e s m args below meth c s₁ B hml hv
  obtain ⟨rfl, ⟨hsz, hP, hK, hD0, hN⟩, hG, hPl, hRo⟩ := hv
  have hx := B.exec
  have hb := B.bytes
  have hr := B.returns
  have hts := atoms_spec (ws := wsX6_operator) B.pre
  have hown : s.vm.findClass RX6 = some m.cls := findClass_of_methodNamed B.named
  have hlocks := B.notSynchronized
  subst hsz
  have hD := hD0.self (sz := s.heap.size)
  generalize hAe : va_A [(a0, .inr (6, [.ref t0, .ref s0, .int lw, .int pa, r_4])), (t0, .inr (8, [.ref t1, .int ln, .int tf, .int tt, .int ti, .int tu])), (t1, .inl (K 0, 400, .inl fb))] s.heap.size = A at hD hG hPl hRo ⊢
  have hA : ∀ q : Nat, s.heap.size ≤ q → A q := fun q h => by rw [← hAe]; exact Or.inr h
  have hS : va_S A s.heap s.heap [] := va_S.rf
  have hP : va_P D vwCl [(a0, .inr (6, [.ref t0, .ref s0, .int lw, .int pa, r_4])), (t0, .inr (8, [.ref t1, .int ln, .int tf, .int tt, .int ti, .int tu])), (t1, .inl (K 0, 400, .inl fb))] s.heap := hP
  have hl := lv_entry [.ref a0, .ref (g (8 + 2 * k)), .int x] (n := 4) (Nat.le_of_ble_eq_true rfl)
  rw [lg_entry_eq]
  generalize (lg_sl [.ref a0, .ref (g (8 + 2 * k)), .int x] ++ List.replicate (4 - (lg_sl [.ref a0, .ref (g (8 + 2 * k)), .int x]).length) Slot.unset).toArray = ls at hl ⊢
  have hl : lv_has ls 4 [(0, .ref a0), (1, .ref (g (8 + 2 * k))), (2, .int x)] := hl
  have hw6 : ∀ w ∈ wsX60, w ∈ wsX6_operator := fun w h => (List.mem_cons_of_mem _ (List.mem_append_left _ (List.mem_append_right _ h)))
  have hw8 : ∀ w ∈ wsX80, w ∈ wsX6_operator := fun w h => (List.mem_cons_of_mem _ (List.mem_append_right _ h))
  generalize hQ : MQ below _ _ s _ _ _ = Q
  refine lv_iconst (v := 0) hx hb dX6_operator_0 (by decide) ?_
  refine lv_istore_n (lv' := [(3, .int 0), (0, .ref a0), (1, .ref (g (8 + 2 * k))), (2, .int x)]) hx hb dX6_operator_1 rfl hl (by decide) rfl (fun ls hl => ?_)
  have lp_129 : ∀ (nn_ : Nat) (v_117 : Int32) (hv_117 : 0 ≤ v_117.toInt ∧ v_117.toInt ≤ 47) (hn : (48 - v_117.toInt : Int).toNat < nn_) (H : Heap) (locs : List Loc) (hP : va_P D vwCl [(a0, .inr (6, [.ref t0, .ref s0, .int lw, .int pa, r_4])), (t0, .inr (8, [.ref t1, .int ln, .int tf, .int tt, .int ti, .int tu])), (t1, .inl (K 0, 400, .inl fb))] H) (hD : va_D A [(a0, .inr (6, [.ref t0, .ref s0, .int lw, .int pa, r_4])), (t0, .inr (8, [.ref t1, .int ln, .int tf, .int tt, .int ti, .int tu])), (t1, .inl (K 0, 400, .inl fb))]) (hS : va_S A s.heap H locs) (ls : Array Slot) (hl : lv_has ls 4 [(3, .int v_117), (0, .ref a0), (1, .ref (g (8 + 2 * k))), (2, .int x)]), W p l e ({ frames := 4, cells := 0, slots := 0, locals := 85 }) s m (([.ref a0, .ref (g (8 + 2 * k)), .int x] : List Value).toArray) below meth c H locs 0 0 Q (F0 m 2 ls []) := by
    intro nn_
    induction nn_ with
    | zero =>
      intro v_117 hv_117 hn H locs hP hD hS ls hl
      exact absurd hn (Nat.not_lt_zero _)
    | succ nn_ ih_130 =>
      intro v_117 hv_117 hn H locs hP hD hS ls hl
      refine lv_iload_n hx hb dX6_operator_2 rfl (lv_at hl 0 rfl) ?_
      refine lv_aload_n hx hb dX6_operator_3 rfl (lv_at hl 2 rfl) ?_
      refine pci (va_runV (As := []) (rest := [.int v_117]) ⟨hx, hb, hml, hown, hts⟩ (w_slen l D K g L k H.size hk) (cwV 0 hts gX6_operator_J0_length_8abf5 rfl rfl rfl (by decide +kernel) ⟨Nat.le_of_ble_eq_true rfl, Nat.le_of_ble_eq_true rfl⟩) (mkVSY hK hN (hG.str k hk).2 hS (fun U hU hW => ⟨Gl.at hG hS hW hU (fun _ h9 => h9.elim), Pool.at hPl hS hU (fun _ h9 => h9.elim), Ro.heap hU (Ro.nil)⟩)) rfl rfl hl.1 rfl (lv_room (Nat.le_of_ble_eq_true rfl)) dX6_operator_4 ⟨Nat.le_of_ble_eq_true rfl, Nat.le_of_ble_eq_true rfl⟩) (fun r_131 hw => ?_)
      obtain ⟨hr_131, -⟩ := hw
      have hnr_131 := sn_le k
      refine lv_icmp_ge (tgt := 42) hx hb dX6_operator_7 (by decide) (fun c_132 => ?_) (fun c_132 => ?_)
      · have c_132i := i_le (x := r_131.toInt) (y := v_117.toInt) rfl rfl c_132
        refine lv_iconst (v := (-1)) hx hb dX6_operator_42 (by decide) ?_
        rw [← hQ]
        have hP9 := hP.sub (ws' := [(a0, .inr (6, [.ref t0, .ref s0, .int lw, .int pa, r_4])), (t0, .inr (8, [.ref t1, .int ln, .int tf, .int tt, .int ti, .int tu])), (t1, .inl (K 0, 400, .inl fb))]) [0, 1, 2] rfl
        have hD9 := hD.sub (ws' := [(a0, .inr (6, [.ref t0, .ref s0, .int lw, .int pa, r_4])), (t0, .inr (8, [.ref t1, .int ln, .int tf, .int tt, .int ti, .int tu])), (t1, .inl (K 0, 400, .inl fb))]) [0, 1, 2] (by decide) rfl
        exact W.iret (v := (-1)) hx hb hr (fun t ht hW => ⟨⟨(-1), ((fun _ => 0, fun _ => fun _ => 0, fun _ => fun _ => 0, fun i => match i with | 0 => tf | 1 => tt | 2 => ti | _ => tu, fun _ => 0, fun _ => fun _ => none) : Su), rfl, ⟨(show (-1) ≤ ((-1) : Int32).toInt ∧ ((-1) : Int32).toInt ≤ 66 by decide), (show 0 ≤ (tf : Int32).toInt ∧ (tf : Int32).toInt ≤ 400 by omega), (show 0 ≤ (tt : Int32).toInt ∧ (tt : Int32).toInt ≤ 400 by omega), (show (-1) ≤ (tu : Int32).toInt ∧ (tu : Int32).toInt ≤ 1000000 by omega), trivial⟩, (⟨by rw [ht]; exact hP9, hD9⟩ : Wd D A _ t)⟩, hS.F ht⟩) hS.2.2 dX6_operator_43
      · have c_132i := i_nle (x := r_131.toInt) (y := v_117.toInt) rfl rfl c_132
        refine lv_aload_n hx hb dX6_operator_10 rfl (lv_at hl 1 rfl) ?_
        refine va_get (ci := 6) (v := .ref t0) (C := RX6) (T := TX6) (N := 5) hx hb hts hw6 hown hK hP 0 rfl rfl 0 (by decide) (hts (.fieldLink RX6 12 "SmokeTune$Reader" "tape" "LSmokeTune$Tape;") (List.mem_cons_of_mem _ (List.mem_append_left _ (List.mem_append_left _ (List.mem_append_left _ (List.mem_of_getElem? (i := 0) rfl)))))) (fun _ h9 => h9) rfl dX6_operator_11 ?_
        refine va_getN (ci := 8) (v := .int ti) (C := RX8) (T := TX8) (N := 6) hx hb hts hw8 hown hK hP 1 rfl rfl 4 (by decide) (nst_use hN 123 rfl) (fun _ h9 => h9) rfl dX6_operator_14 ?_
        refine lv_aload_n hx hb dX6_operator_17 rfl (lv_at hl 2 rfl) ?_
        refine lv_iload_n hx hb dX6_operator_18 rfl (lv_at hl 0 rfl) ?_
        refine pci (va_runV (As := [.int v_117]) (rest := [.int ti]) ⟨hx, hb, hml, hown, hts⟩ (w_char l D K g L k v_117.toInt v_117 H.size hk rfl (by first | omega | decide)) (cwV 1 hts gX6_operator_J0_charAt_5068e rfl rfl rfl (by decide +kernel) ⟨Nat.le_of_ble_eq_true rfl, Nat.le_of_ble_eq_true rfl⟩) (mkVSY hK hN (hG.str k hk).2 hS (fun U hU hW => ⟨Gl.at hG hS hW hU (fun _ h9 => h9.elim), Pool.at hPl hS hU (fun _ h9 => h9.elim), Ro.heap hU (Ro.nil)⟩)) rfl rfl hl.1 rfl (lv_room (Nat.le_of_ble_eq_true rfl)) dX6_operator_19 ⟨Nat.le_of_ble_eq_true rfl, Nat.le_of_ble_eq_true rfl⟩) (fun r_133 hw => ?_)
        refine lv_icmp_ne (tgt := 36) hx hb dX6_operator_22 (by decide) (fun c_134 => ?_) (fun c_134 => ?_)
        · have c_134i := i_ne (x := ti.toInt) (y := r_133.toInt) rfl rfl c_134
          obtain ⟨x_135, ex_135⟩ : ∃ y : Int32, y = v_117 + Int32.ofInt 1 := ⟨_, rfl⟩
          have hx_135 : x_135.toInt = (v_117.toInt + 1) := by rw [ex_135]; exact i_add rfl (show (Int32.ofInt 1).toInt = 1 from rfl) (by omega)
          refine lv_iinc (v := x_135) (lv' := [(3, .int x_135), (0, .ref a0), (1, .ref (g (8 + 2 * k))), (2, .int x)]) hx hb dX6_operator_36 hl (k := 0) rfl (by rw [ex_135]) (by decide) rfl (fun ls hl => ?_)
          refine lv_goto (tgt := 2) hx hb dX6_operator_39 (by decide) ?_
          exact ih_130 x_135 (by rw [hx_135]; omega) (by omega) _ _ hP hD hS ls (lv_sub hl [0, 1, 2, 3] rfl)
        · have c_134i := i_eq (x := ti.toInt) (y := r_133.toInt) rfl rfl c_134
          refine lv_aload_n hx hb dX6_operator_25 rfl (lv_at hl 1 rfl) ?_
          refine va_get (ci := 6) (v := .ref t0) (C := RX6) (T := TX6) (N := 5) hx hb hts hw6 hown hK hP 0 rfl rfl 0 (by decide) (hts (.fieldLink RX6 12 "SmokeTune$Reader" "tape" "LSmokeTune$Tape;") (List.mem_cons_of_mem _ (List.mem_append_left _ (List.mem_append_left _ (List.mem_append_left _ (List.mem_of_getElem? (i := 0) rfl)))))) (fun _ h9 => h9) rfl dX6_operator_26 ?_
          refine kcv (S := Su) (wr := [(a0, .inr (6, [.ref t0, .ref s0, .int lw, .int pa, r_4]))]) (va_runVN (As := []) (rest := []) ⟨hx, hb, hml, hown, hts⟩ (w_step l D K t0 t1 ln tf tt ti tu fb H.size (by first | omega | decide) (by first | omega | decide)) ⟨va_cnB 0 hts gX6_operator_X8_step_n47 rfl rfl rfl (nst_at hN 32 rfl) (hts (.initialized RX8) (List.mem_cons_of_mem _ (List.mem_append_left _ (List.mem_append_left _ (List.mem_append_right _ (List.mem_append_right _ (List.mem_of_getElem? (i := 3) rfl))))))) (by decide +kernel) ⟨Nat.le_of_ble_eq_true rfl, Nat.le_of_ble_eq_true rfl⟩, (hts (.instanceMethod yX8_step) (List.mem_cons_of_mem _ (List.mem_append_left _ (List.mem_append_left _ (List.mem_append_right _ (List.mem_append_right _ (List.mem_of_getElem? (i := 2) rfl))))))), (hts (.selects RX8 yX8_step yX8_step) (List.mem_cons_of_mem _ (List.mem_append_left _ (List.mem_append_left _ (List.mem_append_right _ (List.mem_append_right _ (List.mem_of_getElem? (i := 4) rfl)))))))⟩ (mkV hK hN (hP.sub [1, 2] rfl) (hD.sub [1, 2] (by decide) rfl) (ci := 8) (q0 := 0) rfl rfl) rfl rfl hl.1 rfl (lv_room (Nat.le_of_ble_eq_true rfl)) dX6_operator_29 ⟨Nat.le_of_ble_eq_true rfl, Nat.le_of_ble_eq_true rfl⟩) hP hD hS hA [1, 2] [0] rfl rfl (by decide) (by decide) (fun u_137 H locs hw hP hD hS => ?_)
          have hP : va_P D vwCl [(a0, .inr (6, [.ref t0, .ref s0, .int lw, .int pa, r_4])), (t0, .inr (8, [.ref t1, .int ln, .int (u_137.2.2.2.1 0), .int (u_137.2.2.2.1 1), .int (u_137.2.2.2.1 2), .int (u_137.2.2.2.1 3)])), (t1, .inl (K 0, 400, .inl fb))] H := hP
          have hD : va_D A [(a0, .inr (6, [.ref t0, .ref s0, .int lw, .int pa, r_4])), (t0, .inr (8, [.ref t1, .int ln, .int (u_137.2.2.2.1 0), .int (u_137.2.2.2.1 1), .int (u_137.2.2.2.1 2), .int (u_137.2.2.2.1 3)])), (t1, .inl (K 0, 400, .inl fb))] := hD
          obtain ⟨k_138, k_139, k_140, -⟩ := hw
          refine lv_iload_n hx hb dX6_operator_32 rfl (lv_at hl 3 rfl) ?_
          refine lv_iload_n hx hb dX6_operator_33 rfl (lv_at hl 0 rfl) ?_
          refine lv_iadd hx hb dX6_operator_34 ?_
          refine lv_topi (fun x_141 ex_141 => ?_)
          have hx_141 : x_141.toInt = (x.toInt + v_117.toInt) := by rw [ex_141]; exact i_add rfl rfl (by omega)
          rw [← hQ]
          have hP9 := hP.sub (ws' := [(a0, .inr (6, [.ref t0, .ref s0, .int lw, .int pa, r_4])), (t0, .inr (8, [.ref t1, .int ln, .int (u_137.2.2.2.1 0), .int (u_137.2.2.2.1 1), .int (u_137.2.2.2.1 2), .int (u_137.2.2.2.1 3)])), (t1, .inl (K 0, 400, .inl fb))]) [0, 1, 2] rfl
          have hD9 := hD.sub (ws' := [(a0, .inr (6, [.ref t0, .ref s0, .int lw, .int pa, r_4])), (t0, .inr (8, [.ref t1, .int ln, .int (u_137.2.2.2.1 0), .int (u_137.2.2.2.1 1), .int (u_137.2.2.2.1 2), .int (u_137.2.2.2.1 3)])), (t1, .inl (K 0, 400, .inl fb))]) [0, 1, 2] (by decide) rfl
          exact W.iret (v := x_141) hx hb hr (fun t ht hW => ⟨⟨x_141, ((fun _ => 0, fun _ => fun _ => 0, fun _ => fun _ => 0, fun i => match i with | 0 => (u_137.2.2.2.1 0) | 1 => (u_137.2.2.2.1 1) | 2 => (u_137.2.2.2.1 2) | _ => (u_137.2.2.2.1 3), fun _ => 0, fun _ => fun _ => none) : Su), rfl, ⟨(show (-1) ≤ x_141.toInt ∧ x_141.toInt ≤ 66 by rw [hx_141]; omega), (show 0 ≤ ((u_137.2.2.2.1 0) : Int32).toInt ∧ ((u_137.2.2.2.1 0) : Int32).toInt ≤ 400 by omega), (show 0 ≤ ((u_137.2.2.2.1 1) : Int32).toInt ∧ ((u_137.2.2.2.1 1) : Int32).toInt ≤ 400 by omega), (show (-1) ≤ ((u_137.2.2.2.1 3) : Int32).toInt ∧ ((u_137.2.2.2.1 3) : Int32).toInt ≤ 1000000 by omega), trivial⟩, (⟨by rw [ht]; exact hP9, hD9⟩ : Wd D A _ t)⟩, hS.F ht⟩) hS.2.2 dX6_operator_35
  exact lp_129 ((48 - (0 : Int32).toInt : Int).toNat + 1) 0 (by decide) (Nat.lt_succ_self _) _ _ hP hD hS ls (lv_sub hl [0, 1, 2, 3] rfl)
abbrev SumAt (fr lo : Nat) (DD : Int) : Prop := ∀ (l : Launch) (D : va_G) (K : Nat → ClassId) (g : Nat → Nat) (L : Nat → Prop) (a0 : Nat) (d : Int32) (t0 : Nat) (s0 : Nat) (lw : Int32) (pa : Int32) (r_4 : Value) (t1 : Nat) (ln : Int32) (tf : Int32) (tt : Int32) (ti : Int32) (tu : Int32) (fb : Nat → Int32) (s1 : Nat) (s2 : Nat) (s_2 : Value) (us : Int32) (fc : Nat → Int32) (sz : Nat) (zln : 0 ≤ ln.toInt ∧ ln.toInt ≤ 400) (ztf : 0 ≤ tf.toInt ∧ tf.toInt ≤ 400) (ztt : 0 ≤ tt.toInt ∧ tt.toInt ≤ 400) (ztu : (-1) ≤ tu.toInt ∧ tu.toInt ≤ 1000000) (zlw : 0 ≤ lw.toInt ∧ lw.toInt ≤ 1) (zpa : 0 ≤ pa.toInt ∧ pa.toInt ≤ 50) (zd : d.toInt = DD) (zus : 0 ≤ us.toInt ∧ us.toInt ≤ 800) (zfc : Rg 800 0 1000 fc), Met l yX6_sum wsX6_sum ({ frames := fr, cells := 0, slots := 0, locals := lo }) (va_Pc [.ref a0, .int d] (PreY D K [(a0, .inr (6, [.ref t0, .ref s0, .int lw, .int pa, r_4])), (t0, .inr (8, [.ref t1, .int ln, .int tf, .int tt, .int ti, .int tu])), (t1, .inl (K 0, 400, .inl fb)), (s0, .inr (7, [.ref s1, .ref s2, s_2, .int us])), (s2, .inl (K 0, 800, .inl fc))] [] sz g L (va_A [(a0, .inr (6, [.ref t0, .ref s0, .int lw, .int pa, r_4])), (t0, .inr (8, [.ref t1, .int ln, .int tf, .int tt, .int ti, .int tu])), (t1, .inl (K 0, 400, .inl fb)), (s0, .inr (7, [.ref s1, .ref s2, s_2, .int us])), (s2, .inl (K 0, 800, .inl fc))] sz))) (va_Qi (S := Su) (fun (r : Int32) (u : Su) => (0 ≤ r.toInt ∧ r.toInt ≤ 1) ∧ (0 ≤ (u.2.2.2.1 0).toInt ∧ (u.2.2.2.1 0).toInt ≤ 50) ∧ (0 ≤ (u.2.2.2.1 1).toInt ∧ (u.2.2.2.1 1).toInt ≤ 400) ∧ (0 ≤ (u.2.2.2.1 2).toInt ∧ (u.2.2.2.1 2).toInt ≤ 400) ∧ ((-1) ≤ (u.2.2.2.1 4).toInt ∧ (u.2.2.2.1 4).toInt ≤ 1000000) ∧ (0 ≤ (u.2.2.2.1 5).toInt ∧ (u.2.2.2.1 5).toInt ≤ 800) ∧ (Rg 800 0 1000 (u.2.1 0)) ∧ True) (fun u t => Wd D (va_A [(a0, .inr (6, [.ref t0, .ref s0, .int lw, .int pa, r_4])), (t0, .inr (8, [.ref t1, .int ln, .int tf, .int tt, .int ti, .int tu])), (t1, .inl (K 0, 400, .inl fb)), (s0, .inr (7, [.ref s1, .ref s2, s_2, .int us])), (s2, .inl (K 0, 800, .inl fc))] sz) ((fun u => [(a0, .inr (6, [.ref t0, .ref s0, .int lw, .int (u.2.2.2.1 0), r_4])), (t0, .inr (8, [.ref t1, .int ln, .int (u.2.2.2.1 1), .int (u.2.2.2.1 2), .int (u.2.2.2.1 3), .int (u.2.2.2.1 4)])), (t1, .inl (K 0, 400, .inl fb)), (s0, .inr (7, [.ref s1, .ref s2, s_2, .int (u.2.2.2.1 5)])), (s2, .inl (K 0, 800, .inl (u.2.1 0)))]) u) t) (va_A [(a0, .inr (6, [.ref t0, .ref s0, .int lw, .int pa, r_4])), (t0, .inr (8, [.ref t1, .int ln, .int tf, .int tt, .int ti, .int tu])), (t1, .inl (K 0, 400, .inl fb)), (s0, .inr (7, [.ref s1, .ref s2, s_2, .int us])), (s2, .inl (K 0, 800, .inl fc))] sz)) 0 0 (va_A [(a0, .inr (6, [.ref t0, .ref s0, .int lw, .int pa, r_4])), (t0, .inr (8, [.ref t1, .int ln, .int tf, .int tt, .int ti, .int tu])), (t1, .inl (K 0, 400, .inl fb)), (s0, .inr (7, [.ref s1, .ref s2, s_2, .int us])), (s2, .inl (K 0, 800, .inl fc))] sz)
abbrev TestAt (f2 l2 : Nat) (DD : Int) : Prop := ∀ (l : Launch) (D : va_G) (K : Nat → ClassId) (g : Nat → Nat) (L : Nat → Prop) (a0 : Nat) (d : Int32) (t0 : Nat) (s0 : Nat) (lw : Int32) (pa : Int32) (r_4 : Value) (t1 : Nat) (ln : Int32) (tf : Int32) (tt : Int32) (ti : Int32) (tu : Int32) (fb : Nat → Int32) (s1 : Nat) (s2 : Nat) (s_2 : Value) (us : Int32) (fc : Nat → Int32) (sz : Nat) (zln : 0 ≤ ln.toInt ∧ ln.toInt ≤ 400) (ztf : 0 ≤ tf.toInt ∧ tf.toInt ≤ 400) (ztt : 0 ≤ tt.toInt ∧ tt.toInt ≤ 400) (ztu : (-1) ≤ tu.toInt ∧ tu.toInt ≤ 1000000) (zlw : 0 ≤ lw.toInt ∧ lw.toInt ≤ 1) (zpa : 0 ≤ pa.toInt ∧ pa.toInt ≤ 50) (zd : d.toInt = DD) (zus : 0 ≤ us.toInt ∧ us.toInt ≤ 800) (zfc : Rg 800 0 1000 fc), Met l yX6_test wsX6_test ({ frames := f2, cells := 0, slots := 0, locals := l2 }) (va_Pc [.ref a0, .int d] (PreY D K [(a0, .inr (6, [.ref t0, .ref s0, .int lw, .int pa, r_4])), (t0, .inr (8, [.ref t1, .int ln, .int tf, .int tt, .int ti, .int tu])), (t1, .inl (K 0, 400, .inl fb)), (s0, .inr (7, [.ref s1, .ref s2, s_2, .int us])), (s2, .inl (K 0, 800, .inl fc))] [] sz g L (va_A [(a0, .inr (6, [.ref t0, .ref s0, .int lw, .int pa, r_4])), (t0, .inr (8, [.ref t1, .int ln, .int tf, .int tt, .int ti, .int tu])), (t1, .inl (K 0, 400, .inl fb)), (s0, .inr (7, [.ref s1, .ref s2, s_2, .int us])), (s2, .inl (K 0, 800, .inl fc))] sz))) (va_Qi (S := Su) (fun (r : Int32) (u : Su) => (0 ≤ r.toInt ∧ r.toInt ≤ 1) ∧ (0 ≤ (u.2.2.2.1 0).toInt ∧ (u.2.2.2.1 0).toInt ≤ 50) ∧ (0 ≤ (u.2.2.2.1 1).toInt ∧ (u.2.2.2.1 1).toInt ≤ 400) ∧ (0 ≤ (u.2.2.2.1 2).toInt ∧ (u.2.2.2.1 2).toInt ≤ 400) ∧ ((-1) ≤ (u.2.2.2.1 4).toInt ∧ (u.2.2.2.1 4).toInt ≤ 1000000) ∧ (0 ≤ (u.2.2.2.1 5).toInt ∧ (u.2.2.2.1 5).toInt ≤ 800) ∧ (Rg 800 0 1000 (u.2.1 0)) ∧ True) (fun u t => Wd D (va_A [(a0, .inr (6, [.ref t0, .ref s0, .int lw, .int pa, r_4])), (t0, .inr (8, [.ref t1, .int ln, .int tf, .int tt, .int ti, .int tu])), (t1, .inl (K 0, 400, .inl fb)), (s0, .inr (7, [.ref s1, .ref s2, s_2, .int us])), (s2, .inl (K 0, 800, .inl fc))] sz) ((fun u => [(a0, .inr (6, [.ref t0, .ref s0, .int lw, .int (u.2.2.2.1 0), r_4])), (t0, .inr (8, [.ref t1, .int ln, .int (u.2.2.2.1 1), .int (u.2.2.2.1 2), .int (u.2.2.2.1 3), .int (u.2.2.2.1 4)])), (t1, .inl (K 0, 400, .inl fb)), (s0, .inr (7, [.ref s1, .ref s2, s_2, .int (u.2.2.2.1 5)])), (s2, .inl (K 0, 800, .inl (u.2.1 0)))]) u) t) (va_A [(a0, .inr (6, [.ref t0, .ref s0, .int lw, .int pa, r_4])), (t0, .inr (8, [.ref t1, .int ln, .int tf, .int tt, .int ti, .int tu])), (t1, .inl (K 0, 400, .inl fb)), (s0, .inr (7, [.ref s1, .ref s2, s_2, .int us])), (s2, .inl (K 0, 800, .inl fc))] sz)) 0 0 (va_A [(a0, .inr (6, [.ref t0, .ref s0, .int lw, .int pa, r_4])), (t0, .inr (8, [.ref t1, .int ln, .int tf, .int tt, .int ti, .int tu])), (t1, .inl (K 0, 400, .inl fb)), (s0, .inr (7, [.ref s1, .ref s2, s_2, .int us])), (s2, .inl (K 0, 800, .inl fc))] sz)
set_option maxHeartbeats 4000000 in
set_option maxRecDepth 100000 in
theorem w_part (fr lo : Nat) (DD : Int) (zDD : 0 ≤ DD ∧ DD ≤ 8) (hsum : DD < 8 → SumAt fr lo (DD + 1)) (l : Launch) (D : va_G) (K : Nat → ClassId) (g : Nat → Nat) (L : Nat → Prop) (a0 : Nat) (d : Int32) (t0 : Nat) (s0 : Nat) (lw : Int32) (pa : Int32) (r_4 : Value) (t1 : Nat) (ln : Int32) (tf : Int32) (tt : Int32) (ti : Int32) (tu : Int32) (fb : Nat → Int32) (s1 : Nat) (s2 : Nat) (s_2 : Value) (us : Int32) (fc : Nat → Int32) (sz : Nat) (zln : 0 ≤ ln.toInt ∧ ln.toInt ≤ 400) (ztf : 0 ≤ tf.toInt ∧ tf.toInt ≤ 400) (ztt : 0 ≤ tt.toInt ∧ tt.toInt ≤ 400) (ztu : (-1) ≤ tu.toInt ∧ tu.toInt ≤ 1000000) (zlw : 0 ≤ lw.toInt ∧ lw.toInt ≤ 1) (zpa : 0 ≤ pa.toInt ∧ pa.toInt ≤ 50) (zd : d.toInt = DD) (zus : 0 ≤ us.toInt ∧ us.toInt ≤ 800) (zfc : Rg 800 0 1000 fc) : Met l yX6_part wsX6_part ({ frames := fr + 5, cells := 0, slots := 0, locals := lo + 110 }) (va_Pc [.ref a0, .int d] (PreY D K [(a0, .inr (6, [.ref t0, .ref s0, .int lw, .int pa, r_4])), (t0, .inr (8, [.ref t1, .int ln, .int tf, .int tt, .int ti, .int tu])), (t1, .inl (K 0, 400, .inl fb)), (s0, .inr (7, [.ref s1, .ref s2, s_2, .int us])), (s2, .inl (K 0, 800, .inl fc))] [] sz g L (va_A [(a0, .inr (6, [.ref t0, .ref s0, .int lw, .int pa, r_4])), (t0, .inr (8, [.ref t1, .int ln, .int tf, .int tt, .int ti, .int tu])), (t1, .inl (K 0, 400, .inl fb)), (s0, .inr (7, [.ref s1, .ref s2, s_2, .int us])), (s2, .inl (K 0, 800, .inl fc))] sz))) (va_Qi (S := Su) (fun (r : Int32) (u : Su) => (0 ≤ r.toInt ∧ r.toInt ≤ 1) ∧ (0 ≤ (u.2.2.2.1 0).toInt ∧ (u.2.2.2.1 0).toInt ≤ 50) ∧ (0 ≤ (u.2.2.2.1 1).toInt ∧ (u.2.2.2.1 1).toInt ≤ 400) ∧ (0 ≤ (u.2.2.2.1 2).toInt ∧ (u.2.2.2.1 2).toInt ≤ 400) ∧ ((-1) ≤ (u.2.2.2.1 4).toInt ∧ (u.2.2.2.1 4).toInt ≤ 1000000) ∧ (0 ≤ (u.2.2.2.1 5).toInt ∧ (u.2.2.2.1 5).toInt ≤ 800) ∧ (Rg 800 0 1000 (u.2.1 0)) ∧ True) (fun u t => Wd D (va_A [(a0, .inr (6, [.ref t0, .ref s0, .int lw, .int pa, r_4])), (t0, .inr (8, [.ref t1, .int ln, .int tf, .int tt, .int ti, .int tu])), (t1, .inl (K 0, 400, .inl fb)), (s0, .inr (7, [.ref s1, .ref s2, s_2, .int us])), (s2, .inl (K 0, 800, .inl fc))] sz) ((fun u => [(a0, .inr (6, [.ref t0, .ref s0, .int lw, .int (u.2.2.2.1 0), r_4])), (t0, .inr (8, [.ref t1, .int ln, .int (u.2.2.2.1 1), .int (u.2.2.2.1 2), .int (u.2.2.2.1 3), .int (u.2.2.2.1 4)])), (t1, .inl (K 0, 400, .inl fb)), (s0, .inr (7, [.ref s1, .ref s2, s_2, .int (u.2.2.2.1 5)])), (s2, .inl (K 0, 800, .inl (u.2.1 0)))]) u) t) (va_A [(a0, .inr (6, [.ref t0, .ref s0, .int lw, .int pa, r_4])), (t0, .inr (8, [.ref t1, .int ln, .int tf, .int tt, .int ti, .int tu])), (t1, .inl (K 0, 400, .inl fb)), (s0, .inr (7, [.ref s1, .ref s2, s_2, .int us])), (s2, .inl (K 0, 800, .inl fc))] sz)) 0 0 (va_A [(a0, .inr (6, [.ref t0, .ref s0, .int lw, .int pa, r_4])), (t0, .inr (8, [.ref t1, .int ln, .int tf, .int tt, .int ti, .int tu])), (t1, .inl (K 0, 400, .inl fb)), (s0, .inr (7, [.ref s1, .ref s2, s_2, .int us])), (s2, .inl (K 0, 800, .inl fc))] sz) := by
  refine Met.ofW (cc := cX6_part) (maxL := 4) (ret := (some .boolean)) (by decide) rfl ?_
  intro p e s m args below meth c s₁ B hml hv
  obtain ⟨rfl, ⟨hsz, hP, hK, hD0, hN⟩, hG, hPl, hRo⟩ := hv
  have hx := B.exec
  have hb := B.bytes
  have hr := B.returns
  have hts := atoms_spec (ws := wsX6_part) B.pre
  have hown : s.vm.findClass RX6 = some m.cls := findClass_of_methodNamed B.named
  have hlocks := B.notSynchronized
  subst hsz
  have hD := hD0.self (sz := s.heap.size)
  generalize hAe : va_A [(a0, .inr (6, [.ref t0, .ref s0, .int lw, .int pa, r_4])), (t0, .inr (8, [.ref t1, .int ln, .int tf, .int tt, .int ti, .int tu])), (t1, .inl (K 0, 400, .inl fb)), (s0, .inr (7, [.ref s1, .ref s2, s_2, .int us])), (s2, .inl (K 0, 800, .inl fc))] s.heap.size = A at hD hG hPl hRo ⊢
  have hA : ∀ q : Nat, s.heap.size ≤ q → A q := fun q h => by rw [← hAe]; exact Or.inr h
  have hS : va_S A s.heap s.heap [] := va_S.rf
  have hP : va_P D vwCl [(a0, .inr (6, [.ref t0, .ref s0, .int lw, .int pa, r_4])), (t0, .inr (8, [.ref t1, .int ln, .int tf, .int tt, .int ti, .int tu])), (t1, .inl (K 0, 400, .inl fb)), (s0, .inr (7, [.ref s1, .ref s2, s_2, .int us])), (s2, .inl (K 0, 800, .inl fc))] s.heap := hP
  have hl := lv_entry [.ref a0, .int d] (n := 4) (Nat.le_of_ble_eq_true rfl)
  rw [lg_entry_eq]
  generalize (lg_sl [.ref a0, .int d] ++ List.replicate (4 - (lg_sl [.ref a0, .int d]).length) Slot.unset).toArray = ls at hl ⊢
  have hl : lv_has ls 4 [(0, .ref a0), (1, .int d)] := hl
  have hw6 : ∀ w ∈ wsX60, w ∈ wsX6_part := fun w h => (List.mem_cons_of_mem _ (List.mem_append_left _ (List.mem_append_left _ (List.mem_append_right _ h))))
  have hw7 : ∀ w ∈ wsX70, w ∈ wsX6_part := fun w h => (List.mem_cons_of_mem _ (List.mem_append_right _ h))
  have hw8 : ∀ w ∈ wsX80, w ∈ wsX6_part := fun w h => (List.mem_cons_of_mem _ (List.mem_append_left _ (List.mem_append_right _ h)))
  generalize hQ : MQ below _ _ s _ _ _ = Q
  refine lv_aload_n hx hb dX6_part_0 rfl (lv_at hl 0 rfl) ?_
  refine va_get (ci := 6) (v := .ref t0) (C := RX6) (T := TX6) (N := 5) hx hb hts hw6 hown hK hP 0 rfl rfl 0 (by decide) (hts (.fieldLink RX6 12 "SmokeTune$Reader" "tape" "LSmokeTune$Tape;") (List.mem_cons_of_mem _ (List.mem_append_left _ (List.mem_append_left _ (List.mem_append_left _ (List.mem_append_left _ (List.mem_of_getElem? (i := 0) rfl))))))) (fun _ h9 => h9) rfl dX6_part_1 ?_
  refine va_getN (ci := 8) (v := .int ti) (C := RX8) (T := TX8) (N := 6) hx hb hts hw8 hown hK hP 1 rfl rfl 4 (by decide) (nst_use hN 123 rfl) (fun _ h9 => h9) rfl dX6_part_4 ?_
  refine lv_bipush (v := 91) hx hb dX6_part_7 (by decide) ?_
  refine lv_icmp_ne (tgt := 60) hx hb dX6_part_9 (by decide) (fun c_471 => ?_) (fun c_471 => ?_)
  · have c_471i := i_ne (x := ti.toInt) (y := 91) rfl rfl c_471
    refine lv_aload_n hx hb dX6_part_60 rfl (lv_at hl 0 rfl) ?_
    refine va_get (ci := 6) (v := .int pa) (C := RX6) (T := TX6) (N := 5) hx hb hts hw6 hown hK hP 0 rfl rfl 3 (by decide) (hts (.fieldLink RX6 31 "SmokeTune$Reader" "parts" "I") (List.mem_cons_of_mem _ (List.mem_append_left _ (List.mem_append_left _ (List.mem_append_left _ (List.mem_append_left _ (List.mem_of_getElem? (i := 1) rfl))))))) (fun _ h9 => h9) rfl dX6_part_61 ?_
    refine lv_bipush (v := 50) hx hb dX6_part_64 (by decide) ?_
    have j_573 : ∀ (H : Heap) (locs : List Loc) (hP : va_P D vwCl [(a0, .inr (6, [.ref t0, .ref s0, .int lw, .int pa, r_4])), (t0, .inr (8, [.ref t1, .int ln, .int tf, .int tt, .int ti, .int tu])), (t1, .inl (K 0, 400, .inl fb)), (s0, .inr (7, [.ref s1, .ref s2, s_2, .int us])), (s2, .inl (K 0, 800, .inl fc))] H) (hD : va_D A [(a0, .inr (6, [.ref t0, .ref s0, .int lw, .int pa, r_4])), (t0, .inr (8, [.ref t1, .int ln, .int tf, .int tt, .int ti, .int tu])), (t1, .inl (K 0, 400, .inl fb)), (s0, .inr (7, [.ref s1, .ref s2, s_2, .int us])), (s2, .inl (K 0, 800, .inl fc))]) (hS : va_S A s.heap H locs) (ls : Array Slot) (hl : lv_has ls 4 []), W p l e ({ frames := fr + 5, cells := 0, slots := 0, locals := lo + 110 }) s m (([.ref a0, .int d] : List Value).toArray) below meth c H locs 0 0 Q (F0 m 82 ls []) := by
      intro H locs hP hD hS ls hl
      refine lv_iconst (v := 0) hx hb dX6_part_82 (by decide) ?_
      rw [← hQ]
      have hP9 := hP.sub (ws' := [(a0, .inr (6, [.ref t0, .ref s0, .int lw, .int pa, r_4])), (t0, .inr (8, [.ref t1, .int ln, .int tf, .int tt, .int ti, .int tu])), (t1, .inl (K 0, 400, .inl fb)), (s0, .inr (7, [.ref s1, .ref s2, s_2, .int us])), (s2, .inl (K 0, 800, .inl fc))]) [0, 1, 2, 3, 4] rfl
      have hD9 := hD.sub (ws' := [(a0, .inr (6, [.ref t0, .ref s0, .int lw, .int pa, r_4])), (t0, .inr (8, [.ref t1, .int ln, .int tf, .int tt, .int ti, .int tu])), (t1, .inl (K 0, 400, .inl fb)), (s0, .inr (7, [.ref s1, .ref s2, s_2, .int us])), (s2, .inl (K 0, 800, .inl fc))]) [0, 1, 2, 3, 4] (by decide) rfl
      exact W.zret (v := 0) hx hb hr (by decide) (fun t ht hW => ⟨⟨0, ((fun _ => 0, fun i => match i with | _ => fc, fun _ => fun _ => 0, fun i => match i with | 0 => pa | 1 => tf | 2 => tt | 3 => ti | 4 => tu | _ => us, fun _ => 0, fun _ => fun _ => none) : Su), rfl, ⟨(show 0 ≤ (0 : Int32).toInt ∧ (0 : Int32).toInt ≤ 1 by decide), (show 0 ≤ (pa : Int32).toInt ∧ (pa : Int32).toInt ≤ 50 by omega), (show 0 ≤ (tf : Int32).toInt ∧ (tf : Int32).toInt ≤ 400 by omega), (show 0 ≤ (tt : Int32).toInt ∧ (tt : Int32).toInt ≤ 400 by omega), (show (-1) ≤ (tu : Int32).toInt ∧ (tu : Int32).toInt ≤ 1000000 by omega), (show 0 ≤ (us : Int32).toInt ∧ (us : Int32).toInt ≤ 800 by omega), zfc, trivial⟩, (⟨by rw [ht]; exact hP9, hD9⟩ : Wd D A _ t)⟩, hS.F ht⟩) hS.2.2 dX6_part_83
    refine lv_icmp_ge (tgt := 82) hx hb dX6_part_66 (by decide) (fun c_574 => ?_) (fun c_574 => ?_)
    · have c_574i := i_le (x := 50) (y := pa.toInt) rfl rfl c_574
      exact j_573   _ _ hP hD hS ls (lv_sub hl [] rfl)
    · have c_574i := i_nle (x := 50) (y := pa.toInt) rfl rfl c_574
      refine lv_aload_n hx hb dX6_part_69 rfl (lv_at hl 0 rfl) ?_
      refine va_get (ci := 6) (v := .ref t0) (C := RX6) (T := TX6) (N := 5) hx hb hts hw6 hown hK hP 0 rfl rfl 0 (by decide) (hts (.fieldLink RX6 12 "SmokeTune$Reader" "tape" "LSmokeTune$Tape;") (List.mem_cons_of_mem _ (List.mem_append_left _ (List.mem_append_left _ (List.mem_append_left _ (List.mem_append_left _ (List.mem_of_getElem? (i := 0) rfl))))))) (fun _ h9 => h9) rfl dX6_part_70 ?_
      refine va_getN (ci := 8) (v := .int tu) (C := RX8) (T := TX8) (N := 6) hx hb hts hw8 hown hK hP 1 rfl rfl 5 (by decide) (nst_use hN 124 rfl) (fun _ h9 => h9) rfl dX6_part_73 ?_
      refine lv_sipush (v := 1000) hx hb dX6_part_76 (by decide) ?_
      refine lv_icmp_le (tgt := 84) hx hb dX6_part_79 (by decide) (fun c_575 => ?_) (fun c_575 => ?_)
      · have c_575i := i_le (x := tu.toInt) (y := 1000) rfl rfl c_575
        refine lv_aload_n hx hb dX6_part_84 rfl (lv_at hl 0 rfl) ?_
        refine lv_dup hx hb dX6_part_85 rfl ?_
        refine va_get (ci := 6) (v := .int pa) (C := RX6) (T := TX6) (N := 5) hx hb hts hw6 hown hK hP 0 rfl rfl 3 (by decide) (hts (.fieldLink RX6 31 "SmokeTune$Reader" "parts" "I") (List.mem_cons_of_mem _ (List.mem_append_left _ (List.mem_append_left _ (List.mem_append_left _ (List.mem_append_left _ (List.mem_of_getElem? (i := 1) rfl))))))) (fun _ h9 => h9) rfl dX6_part_86 ?_
        refine lv_iconst (v := 1) hx hb dX6_part_89 (by decide) ?_
        refine lv_iadd hx hb dX6_part_90 ?_
        refine lv_topi (fun x_576 ex_576 => ?_)
        have hx_576 : x_576.toInt = (pa.toInt + 1) := by rw [ex_576]; exact i_add rfl (show (1 : Int32).toInt = 1 from rfl) (by omega)
        refine va_put (ci := 6) (v := .int x_576) (ty := .int) (C := RX6) (T := TX6) (N := 5) hx hb hts hw6 tyX6 tyX6_ok nmX6 hown hK hP hD hS 0 rfl rfl 3 (by decide) (hts (.fieldLink RX6 31 "SmokeTune$Reader" "parts" "I") (List.mem_cons_of_mem _ (List.mem_append_left _ (List.mem_append_left _ (List.mem_append_left _ (List.mem_append_left _ (List.mem_of_getElem? (i := 1) rfl))))))) (fun _ h9 => h9) rfl (by decide +kernel) (by first | rfl | decide) (by first | rfl | decide) (Nat.le_of_ble_eq_true rfl) dX6_part_91 (fun H locs hP hD hS => ?_)
        have hP : va_P D vwCl [(a0, .inr (6, [.ref t0, .ref s0, .int lw, .int x_576, r_4])), (t0, .inr (8, [.ref t1, .int ln, .int tf, .int tt, .int ti, .int tu])), (t1, .inl (K 0, 400, .inl fb)), (s0, .inr (7, [.ref s1, .ref s2, s_2, .int us])), (s2, .inl (K 0, 800, .inl fc))] H := hP
        have hD : va_D A [(a0, .inr (6, [.ref t0, .ref s0, .int lw, .int x_576, r_4])), (t0, .inr (8, [.ref t1, .int ln, .int tf, .int tt, .int ti, .int tu])), (t1, .inl (K 0, 400, .inl fb)), (s0, .inr (7, [.ref s1, .ref s2, s_2, .int us])), (s2, .inl (K 0, 800, .inl fc))] := hD
        refine lv_aload_n hx hb dX6_part_94 rfl (lv_at hl 0 rfl) ?_
        refine va_get (ci := 6) (v := .ref t0) (C := RX6) (T := TX6) (N := 5) hx hb hts hw6 hown hK hP 0 rfl rfl 0 (by decide) (hts (.fieldLink RX6 12 "SmokeTune$Reader" "tape" "LSmokeTune$Tape;") (List.mem_cons_of_mem _ (List.mem_append_left _ (List.mem_append_left _ (List.mem_append_left _ (List.mem_append_left _ (List.mem_of_getElem? (i := 0) rfl))))))) (fun _ h9 => h9) rfl dX6_part_95 ?_
        refine va_getN (ci := 8) (v := .int tu) (C := RX8) (T := TX8) (N := 6) hx hb hts hw8 hown hK hP 1 rfl rfl 5 (by decide) (nst_use hN 124 rfl) (fun _ h9 => h9) rfl dX6_part_98 ?_
        refine lv_iconst (v := (-1)) hx hb dX6_part_101 (by decide) ?_
        refine lv_icmp_eq (tgt := 130) hx hb dX6_part_102 (by decide) (fun c_577 => ?_) (fun c_577 => ?_)
        · have c_577i := i_eq (x := tu.toInt) (y := (-1)) rfl rfl c_577
          refine lv_aload_n hx hb dX6_part_130 rfl (lv_at hl 0 rfl) ?_
          refine va_get (ci := 6) (v := .ref t0) (C := RX6) (T := TX6) (N := 5) hx hb hts hw6 hown hK hP 0 rfl rfl 0 (by decide) (hts (.fieldLink RX6 12 "SmokeTune$Reader" "tape" "LSmokeTune$Tape;") (List.mem_cons_of_mem _ (List.mem_append_left _ (List.mem_append_left _ (List.mem_append_left _ (List.mem_append_left _ (List.mem_of_getElem? (i := 0) rfl))))))) (fun _ h9 => h9) rfl dX6_part_131 ?_
          refine lv_aload_n hx hb dX6_part_134 rfl (lv_at hl 0 rfl) ?_
          refine va_get (ci := 6) (v := .int lw) (C := RX6) (T := TX6) (N := 5) hx hb hts hw6 hown hK hP 0 rfl rfl 2 (by decide) (hts (.fieldLink RX6 27 "SmokeTune$Reader" "lawful" "Z") (List.mem_cons_of_mem _ (List.mem_append_left _ (List.mem_append_left _ (List.mem_append_left _ (List.mem_append_left _ (List.mem_of_getElem? (i := 3) rfl))))))) (fun _ h9 => h9) rfl dX6_part_135 ?_
          have j_625 : ∀ (v_615 : Int32) (v_616 : Int32) (v_617 : Int32) (v_618 : Int32) (v_619 : Int32) (hv_615 : 0 ≤ v_615.toInt ∧ v_615.toInt ≤ 48) (hv_616 : 0 ≤ v_616.toInt ∧ v_616.toInt ≤ 400) (hv_617 : 0 ≤ v_617.toInt ∧ v_617.toInt ≤ 400) (hv_619 : (-1) ≤ v_619.toInt ∧ v_619.toInt ≤ 1000000) (H : Heap) (locs : List Loc) (hP : va_P D vwCl [(a0, .inr (6, [.ref t0, .ref s0, .int lw, .int x_576, r_4])), (s0, .inr (7, [.ref s1, .ref s2, s_2, .int us])), (s2, .inl (K 0, 800, .inl fc)), (t0, .inr (8, [.ref t1, .int ln, .int v_616, .int v_617, .int v_618, .int v_619])), (t1, .inl (K 0, 400, .inl fb))] H) (hD : va_D A [(a0, .inr (6, [.ref t0, .ref s0, .int lw, .int x_576, r_4])), (s0, .inr (7, [.ref s1, .ref s2, s_2, .int us])), (s2, .inl (K 0, 800, .inl fc)), (t0, .inr (8, [.ref t1, .int ln, .int v_616, .int v_617, .int v_618, .int v_619])), (t1, .inl (K 0, 400, .inl fb))]) (hS : va_S A s.heap H locs) (ls : Array Slot) (hl : lv_has ls 4 [(2, .int v_615), (0, .ref a0)]), W p l e ({ frames := fr + 5, cells := 0, slots := 0, locals := lo + 110 }) s m (([.ref a0, .int d] : List Value).toArray) below meth c H locs 0 0 Q (F0 m 241 ls []) := by
            intro v_615 v_616 v_617 v_618 v_619 hv_615 hv_616 hv_617 hv_619 H locs hP hD hS ls hl
            refine lv_aload_n hx hb dX6_part_241 rfl (lv_at hl 1 rfl) ?_
            refine va_get (ci := 6) (v := .ref s0) (C := RX6) (T := TX6) (N := 5) hx hb hts hw6 hown hK hP 0 rfl rfl 1 (by decide) (hts (.fieldLink RX6 23 "SmokeTune$Reader" "text" "LSmokeTune$Script;") (List.mem_cons_of_mem _ (List.mem_append_left _ (List.mem_append_left _ (List.mem_append_left _ (List.mem_append_left _ (List.mem_of_getElem? (i := 2) rfl))))))) (fun _ h9 => h9) rfl dX6_part_242 ?_
            refine lv_iconst (v := 2) hx hb dX6_part_245 (by decide) ?_
            refine lv_iload_n hx hb dX6_part_246 rfl (lv_at hl 0 rfl) ?_
            refine kci (S := Su) (wr := [(a0, .inr (6, [.ref t0, .ref s0, .int lw, .int x_576, r_4])), (t0, .inr (8, [.ref t1, .int ln, .int v_616, .int v_617, .int v_618, .int v_619])), (t1, .inl (K 0, 400, .inl fb))]) (va_runVN (As := [.int 2, .int v_615]) (rest := []) ⟨hx, hb, hml, hown, hts⟩ (w_emit l D K s0 2 v_615 s1 s2 s_2 us fc H.size (by first | omega | decide) (by first | omega | decide) (by first | omega | decide) zfc) ⟨va_cnB 2 hts gX6_part_X7_emit_n95 rfl rfl rfl (nst_at hN 36 rfl) (hts (.initialized RX7) (List.mem_cons_of_mem _ (List.mem_append_left _ (List.mem_append_left _ (List.mem_append_left _ (List.mem_append_right _ (List.mem_append_left _ (List.mem_of_getElem? (i := 2) rfl)))))))) (by decide +kernel) ⟨by show (0) + 1 ≤ fr + 5; omega, by show 8 + (3 + 11) + (0) ≤ lo + 110; omega⟩, (hts (.instanceMethod yX7_emit) (List.mem_cons_of_mem _ (List.mem_append_left _ (List.mem_append_left _ (List.mem_append_left _ (List.mem_append_right _ (List.mem_append_left _ (List.mem_of_getElem? (i := 1) rfl)))))))), (hts (.selects RX7 yX7_emit yX7_emit) (List.mem_cons_of_mem _ (List.mem_append_left _ (List.mem_append_left _ (List.mem_append_left _ (List.mem_append_right _ (List.mem_append_left _ (List.mem_of_getElem? (i := 3) rfl))))))))⟩ (mkV hK hN (hP.sub [1, 2] rfl) (hD.sub [1, 2] (by decide) rfl) (ci := 7) (q0 := 0) rfl rfl) rfl rfl hl.1 rfl (lv_room (Nat.le_of_ble_eq_true rfl)) dX6_part_247 ⟨Nat.le_of_ble_eq_true rfl, Nat.le_of_ble_eq_true rfl⟩) hP hD hS hA [1, 2] [0, 3, 4] rfl rfl (by decide) (by decide) (fun r_626 u_627 H locs hw hP hD hS => ?_)
            have hP : va_P D vwCl [(a0, .inr (6, [.ref t0, .ref s0, .int lw, .int x_576, r_4])), (t0, .inr (8, [.ref t1, .int ln, .int v_616, .int v_617, .int v_618, .int v_619])), (t1, .inl (K 0, 400, .inl fb)), (s0, .inr (7, [.ref s1, .ref s2, s_2, .int (u_627.2.2.2.1 0)])), (s2, .inl (K 0, 800, .inl (u_627.2.1 0)))] H := hP
            have hD : va_D A [(a0, .inr (6, [.ref t0, .ref s0, .int lw, .int x_576, r_4])), (t0, .inr (8, [.ref t1, .int ln, .int v_616, .int v_617, .int v_618, .int v_619])), (t1, .inl (K 0, 400, .inl fb)), (s0, .inr (7, [.ref s1, .ref s2, s_2, .int (u_627.2.2.2.1 0)])), (s2, .inl (K 0, 800, .inl (u_627.2.1 0)))] := hD
            obtain ⟨h_630, k_628, k_629, -⟩ := hw
            refine lv_pop hx hb dX6_part_250 rfl ?_
            refine lv_iconst (v := 1) hx hb dX6_part_251 (by decide) ?_
            rw [← hQ]
            have hP9 := hP.sub (ws' := [(a0, .inr (6, [.ref t0, .ref s0, .int lw, .int x_576, r_4])), (t0, .inr (8, [.ref t1, .int ln, .int v_616, .int v_617, .int v_618, .int v_619])), (t1, .inl (K 0, 400, .inl fb)), (s0, .inr (7, [.ref s1, .ref s2, s_2, .int (u_627.2.2.2.1 0)])), (s2, .inl (K 0, 800, .inl (u_627.2.1 0)))]) [0, 1, 2, 3, 4] rfl
            have hD9 := hD.sub (ws' := [(a0, .inr (6, [.ref t0, .ref s0, .int lw, .int x_576, r_4])), (t0, .inr (8, [.ref t1, .int ln, .int v_616, .int v_617, .int v_618, .int v_619])), (t1, .inl (K 0, 400, .inl fb)), (s0, .inr (7, [.ref s1, .ref s2, s_2, .int (u_627.2.2.2.1 0)])), (s2, .inl (K 0, 800, .inl (u_627.2.1 0)))]) [0, 1, 2, 3, 4] (by decide) rfl
            exact W.zret (v := 1) hx hb hr (by decide) (fun t ht hW => ⟨⟨1, ((fun _ => 0, fun i => match i with | _ => (u_627.2.1 0), fun _ => fun _ => 0, fun i => match i with | 0 => x_576 | 1 => v_616 | 2 => v_617 | 3 => v_618 | 4 => v_619 | _ => (u_627.2.2.2.1 0), fun _ => 0, fun _ => fun _ => none) : Su), rfl, ⟨(show 0 ≤ (1 : Int32).toInt ∧ (1 : Int32).toInt ≤ 1 by decide), (show 0 ≤ (x_576 : Int32).toInt ∧ (x_576 : Int32).toInt ≤ 50 by rw [hx_576]; omega), (show 0 ≤ (v_616 : Int32).toInt ∧ (v_616 : Int32).toInt ≤ 400 by omega), (show 0 ≤ (v_617 : Int32).toInt ∧ (v_617 : Int32).toInt ≤ 400 by omega), (show (-1) ≤ (v_619 : Int32).toInt ∧ (v_619 : Int32).toInt ≤ 1000000 by omega), (show 0 ≤ ((u_627.2.2.2.1 0) : Int32).toInt ∧ ((u_627.2.2.2.1 0) : Int32).toInt ≤ 800 by omega), k_629, trivial⟩, (⟨by rw [ht]; exact hP9, hD9⟩ : Wd D A _ t)⟩, hS.F ht⟩) hS.2.2 dX6_part_252
          have j_631 : ∀ (v_611 : Int32) (v_612 : Int32) (v_613 : Int32) (v_614 : Int32) (hv_611 : 0 ≤ v_611.toInt ∧ v_611.toInt ≤ 400) (hv_612 : 0 ≤ v_612.toInt ∧ v_612.toInt ≤ 400) (hv_614 : (-1) ≤ v_614.toInt ∧ v_614.toInt ≤ 1000000) (hk0_j_631 : lw.toInt ≤ 0) (H : Heap) (locs : List Loc) (hP : va_P D vwCl [(a0, .inr (6, [.ref t0, .ref s0, .int lw, .int x_576, r_4])), (s0, .inr (7, [.ref s1, .ref s2, s_2, .int us])), (s2, .inl (K 0, 800, .inl fc)), (t0, .inr (8, [.ref t1, .int ln, .int v_611, .int v_612, .int v_613, .int v_614])), (t1, .inl (K 0, 400, .inl fb))] H) (hD : va_D A [(a0, .inr (6, [.ref t0, .ref s0, .int lw, .int x_576, r_4])), (s0, .inr (7, [.ref s1, .ref s2, s_2, .int us])), (s2, .inl (K 0, 800, .inl fc)), (t0, .inr (8, [.ref t1, .int ln, .int v_611, .int v_612, .int v_613, .int v_614])), (t1, .inl (K 0, 400, .inl fb))]) (hS : va_S A s.heap H locs) (ls : Array Slot) (hl : lv_has ls 4 []), W p l e ({ frames := fr + 5, cells := 0, slots := 0, locals := lo + 110 }) s m (([.ref a0, .int d] : List Value).toArray) below meth c H locs 0 0 Q (F0 m 218 ls []) := by
            intro v_611 v_612 v_613 v_614 hv_611 hv_612 hv_614 hk0_j_631 H locs hP hD hS ls hl
            refine lv_iconst (v := 0) hx hb dX6_part_218 (by decide) ?_
            rw [← hQ]
            have hP9 := hP.sub (ws' := [(a0, .inr (6, [.ref t0, .ref s0, .int lw, .int x_576, r_4])), (t0, .inr (8, [.ref t1, .int ln, .int v_611, .int v_612, .int v_613, .int v_614])), (t1, .inl (K 0, 400, .inl fb)), (s0, .inr (7, [.ref s1, .ref s2, s_2, .int us])), (s2, .inl (K 0, 800, .inl fc))]) [0, 3, 4, 1, 2] rfl
            have hD9 := hD.sub (ws' := [(a0, .inr (6, [.ref t0, .ref s0, .int lw, .int x_576, r_4])), (t0, .inr (8, [.ref t1, .int ln, .int v_611, .int v_612, .int v_613, .int v_614])), (t1, .inl (K 0, 400, .inl fb)), (s0, .inr (7, [.ref s1, .ref s2, s_2, .int us])), (s2, .inl (K 0, 800, .inl fc))]) [0, 3, 4, 1, 2] (by decide) rfl
            exact W.zret (v := 0) hx hb hr (by decide) (fun t ht hW => ⟨⟨0, ((fun _ => 0, fun i => match i with | _ => fc, fun _ => fun _ => 0, fun i => match i with | 0 => x_576 | 1 => v_611 | 2 => v_612 | 3 => v_613 | 4 => v_614 | _ => us, fun _ => 0, fun _ => fun _ => none) : Su), rfl, ⟨(show 0 ≤ (0 : Int32).toInt ∧ (0 : Int32).toInt ≤ 1 by decide), (show 0 ≤ (x_576 : Int32).toInt ∧ (x_576 : Int32).toInt ≤ 50 by rw [hx_576]; omega), (show 0 ≤ (v_611 : Int32).toInt ∧ (v_611 : Int32).toInt ≤ 400 by omega), (show 0 ≤ (v_612 : Int32).toInt ∧ (v_612 : Int32).toInt ≤ 400 by omega), (show (-1) ≤ (v_614 : Int32).toInt ∧ (v_614 : Int32).toInt ≤ 1000000 by omega), (show 0 ≤ (us : Int32).toInt ∧ (us : Int32).toInt ≤ 800 by omega), zfc, trivial⟩, (⟨by rw [ht]; exact hP9, hD9⟩ : Wd D A _ t)⟩, hS.F ht⟩) hS.2.2 dX6_part_219
          refine lv_if_eq (tgt := 146) hx hb dX6_part_138 (by decide) (fun c_632 => ?_) (fun c_632 => ?_)
          · have c_632i := i_eq (x := lw.toInt) (y := 0) rfl rfl c_632
            refine va_ldcS hx hb hown (hG.str 12 (by decide)).1 dX6_part_146 ?_
            refine W.eq (g2 := F0 m 148 ls [.ref (g 32), .ref t0]) rfl ?_
            refine pci (va_runVN (As := [.ref (g 32)]) (rest := []) ⟨hx, hb, hml, hown, hts⟩ (w_find l D K g L 12 t0 t1 ln tf tt ti tu fb H.size (by decide) (by first | omega | decide) (by first | omega | decide) (by first | omega | decide) (by first | omega | decide)) ⟨va_cnB 1 hts gX6_part_X8_find_n67 rfl rfl rfl (nst_at hN 33 rfl) (hts (.initialized RX8) (List.mem_cons_of_mem _ (List.mem_append_left _ (List.mem_append_left _ (List.mem_append_left _ (List.mem_append_left _ (List.mem_of_getElem? (i := 7) rfl))))))) (by decide +kernel) ⟨by show (4) + 1 ≤ fr + 5; omega, by show 8 + (6 + 11) + (85) ≤ lo + 110; omega⟩, (hts (.instanceMethod yX8_find) (List.mem_cons_of_mem _ (List.mem_append_left _ (List.mem_append_left _ (List.mem_append_left _ (List.mem_append_right _ (List.mem_append_left _ (List.mem_of_getElem? (i := 7) rfl)))))))), (hts (.selects RX8 yX8_find yX8_find) (List.mem_cons_of_mem _ (List.mem_append_left _ (List.mem_append_left _ (List.mem_append_left _ (List.mem_append_right _ (List.mem_append_left _ (List.mem_of_getElem? (i := 8) rfl))))))))⟩ (mkVY hK hN (hP.sub [1, 2] rfl) (hD.sub [1, 2] (by decide) rfl) (ci := 8) (q0 := 0) rfl rfl (fun U hU hW => ⟨Gl.at hG hS hW hU (fun _ h9 => h9.elim), Pool.at hPl hS hU (fun _ h9 => h9.elim), Ro.heap hU (Ro.nil)⟩)) rfl rfl hl.1 rfl (lv_room (Nat.le_of_ble_eq_true rfl)) dX6_part_148 ⟨Nat.le_of_ble_eq_true rfl, Nat.le_of_ble_eq_true rfl⟩) (fun r_633 hw => ?_)
            obtain ⟨h_634, -⟩ := hw
            refine lv_istore_n (lv' := [(2, .int r_633), (0, .ref a0), (1, .int d)]) hx hb dX6_part_151 rfl hl (by decide) rfl (fun ls hl => ?_)
            refine lv_iload_n hx hb dX6_part_152 rfl (lv_at hl 0 rfl) ?_
            refine lv_iconst (v := (-1)) hx hb dX6_part_153 (by decide) ?_
            refine lv_icmp_ne (tgt := 159) hx hb dX6_part_154 (by decide) (fun c_635 => ?_) (fun c_635 => ?_)
            · have c_635i := i_ne (x := r_633.toInt) (y := (-1)) rfl rfl c_635
              refine lv_aload_n hx hb dX6_part_159 rfl (lv_at hl 1 rfl) ?_
              refine va_get (ci := 6) (v := .ref t0) (C := RX6) (T := TX6) (N := 5) hx hb hts hw6 hown hK hP 0 rfl rfl 0 (by decide) (hts (.fieldLink RX6 12 "SmokeTune$Reader" "tape" "LSmokeTune$Tape;") (List.mem_cons_of_mem _ (List.mem_append_left _ (List.mem_append_left _ (List.mem_append_left _ (List.mem_append_left _ (List.mem_of_getElem? (i := 0) rfl))))))) (fun _ h9 => h9) rfl dX6_part_160 ?_
              refine kcv (S := Su) (wr := [(a0, .inr (6, [.ref t0, .ref s0, .int lw, .int x_576, r_4])), (s0, .inr (7, [.ref s1, .ref s2, s_2, .int us])), (s2, .inl (K 0, 800, .inl fc))]) (va_runVN (As := []) (rest := []) ⟨hx, hb, hml, hown, hts⟩ (w_step l D K t0 t1 ln tf tt ti tu fb H.size (by first | omega | decide) (by first | omega | decide)) ⟨va_cnB 0 hts gX6_part_X8_step_n47 rfl rfl rfl (nst_at hN 32 rfl) (hts (.initialized RX8) (List.mem_cons_of_mem _ (List.mem_append_left _ (List.mem_append_left _ (List.mem_append_left _ (List.mem_append_left _ (List.mem_of_getElem? (i := 7) rfl))))))) (by decide +kernel) ⟨by show (1) + 1 ≤ fr + 5; omega, by show 8 + (5 + 11) + (14) ≤ lo + 110; omega⟩, (hts (.instanceMethod yX8_step) (List.mem_cons_of_mem _ (List.mem_append_left _ (List.mem_append_left _ (List.mem_append_left _ (List.mem_append_left _ (List.mem_of_getElem? (i := 6) rfl))))))), (hts (.selects RX8 yX8_step yX8_step) (List.mem_cons_of_mem _ (List.mem_append_left _ (List.mem_append_left _ (List.mem_append_left _ (List.mem_append_left _ (List.mem_of_getElem? (i := 8) rfl)))))))⟩ (mkV hK hN (hP.sub [1, 2] rfl) (hD.sub [1, 2] (by decide) rfl) (ci := 8) (q0 := 0) rfl rfl) rfl rfl hl.1 rfl (lv_room (Nat.le_of_ble_eq_true rfl)) dX6_part_163 ⟨Nat.le_of_ble_eq_true rfl, Nat.le_of_ble_eq_true rfl⟩) hP hD hS hA [1, 2] [0, 3, 4] rfl rfl (by decide) (by decide) (fun u_637 H locs hw hP hD hS => ?_)
              have hP : va_P D vwCl [(a0, .inr (6, [.ref t0, .ref s0, .int lw, .int x_576, r_4])), (s0, .inr (7, [.ref s1, .ref s2, s_2, .int us])), (s2, .inl (K 0, 800, .inl fc)), (t0, .inr (8, [.ref t1, .int ln, .int (u_637.2.2.2.1 0), .int (u_637.2.2.2.1 1), .int (u_637.2.2.2.1 2), .int (u_637.2.2.2.1 3)])), (t1, .inl (K 0, 400, .inl fb))] H := hP
              have hD : va_D A [(a0, .inr (6, [.ref t0, .ref s0, .int lw, .int x_576, r_4])), (s0, .inr (7, [.ref s1, .ref s2, s_2, .int us])), (s2, .inl (K 0, 800, .inl fc)), (t0, .inr (8, [.ref t1, .int ln, .int (u_637.2.2.2.1 0), .int (u_637.2.2.2.1 1), .int (u_637.2.2.2.1 2), .int (u_637.2.2.2.1 3)])), (t1, .inl (K 0, 400, .inl fb))] := hD
              obtain ⟨k_638, k_639, k_640, -⟩ := hw
              refine lv_aload_n hx hb dX6_part_166 rfl (lv_at hl 1 rfl) ?_
              refine va_get (ci := 6) (v := .int lw) (C := RX6) (T := TX6) (N := 5) hx hb hts hw6 hown hK hP 0 rfl rfl 2 (by decide) (hts (.fieldLink RX6 27 "SmokeTune$Reader" "lawful" "Z") (List.mem_cons_of_mem _ (List.mem_append_left _ (List.mem_append_left _ (List.mem_append_left _ (List.mem_append_left _ (List.mem_of_getElem? (i := 3) rfl))))))) (fun _ h9 => h9) rfl dX6_part_167 ?_
              refine lv_if_eq (tgt := 177) hx hb dX6_part_170 (by decide) (fun c_641 => ?_) (fun c_641 => ?_)
              · have c_641i := i_eq (x := lw.toInt) (y := 0) rfl rfl c_641
                refine lv_iload_n hx hb dX6_part_177 rfl (lv_at hl 0 rfl) ?_
                refine lv_iconst (v := 5) hx hb dX6_part_178 (by decide) ?_
                refine lv_isub hx hb dX6_part_179 ?_
                refine lv_topi (fun x_642 ex_642 => ?_)
                have hx_642 : x_642.toInt = (r_633.toInt - 5) := by rw [ex_642]; exact i_sub rfl (show (5 : Int32).toInt = 5 from rfl) (by omega)
                refine lv_istore_n (lv' := [(3, .int x_642), (2, .int r_633), (0, .ref a0), (1, .int d)]) hx hb dX6_part_180 rfl hl (by decide) rfl (fun ls hl => ?_)
                refine lv_iload_n hx hb dX6_part_181 rfl (lv_at hl 0 rfl) ?_
                refine lv_if_lt (tgt := 241) hx hb dX6_part_182 (by decide) (fun c_643 => ?_) (fun c_643 => ?_)
                · have c_643i := i_lt (x := (r_633.toInt - 5)) (y := 0) hx_642 rfl c_643
                  exact j_625 r_633 (u_637.2.2.2.1 0) (u_637.2.2.2.1 1) (u_637.2.2.2.1 2) (u_637.2.2.2.1 3) (by omega) (by omega) (by omega) (by omega) _ _ hP hD hS ls (lv_sub hl [1, 2] rfl)
                · have c_643i := i_nlt (x := (r_633.toInt - 5)) (y := 0) hx_642 rfl c_643
                  refine lv_iload_n hx hb dX6_part_185 rfl (lv_at hl 0 rfl) ?_
                  refine va_gets (C := "SmokeTune$Reader") (n := "TELLING_FROM") (d := "[I") (v := .ref (g 6)) hx hb (hG.arr 6 (by decide)).1 hS hown (hts (.fieldLink RX6 150 "SmokeTune$Reader" "TELLING_FROM" "[I") (List.mem_cons_of_mem _ (List.mem_append_left _ (List.mem_append_left _ (List.mem_append_left _ (List.mem_append_left _ (List.mem_of_getElem? (i := 4) rfl))))))) (fun _ h9 => h9) dX6_part_186 ?_
                  refine va_tlen (v := 3) hx hb (hG.arr 6 (by decide)).2 hS rfl dX6_part_189 ?_
                  refine lv_icmp_ge (tgt := 241) hx hb dX6_part_190 (by decide) (fun c_644 => ?_) (fun c_644 => ?_)
                  · have c_644i := i_le (x := 3) (y := (r_633.toInt - 5)) rfl hx_642 c_644
                    exact j_625 r_633 (u_637.2.2.2.1 0) (u_637.2.2.2.1 1) (u_637.2.2.2.1 2) (u_637.2.2.2.1 3) (by omega) (by omega) (by omega) (by omega) _ _ hP hD hS ls (lv_sub hl [1, 2] rfl)
                  · have c_644i := i_nle (x := 3) (y := (r_633.toInt - 5)) rfl hx_642 c_644
                    refine lv_aload_n hx hb dX6_part_193 rfl (lv_at hl 2 rfl) ?_
                    refine va_get (ci := 6) (v := .ref t0) (C := RX6) (T := TX6) (N := 5) hx hb hts hw6 hown hK hP 0 rfl rfl 0 (by decide) (hts (.fieldLink RX6 12 "SmokeTune$Reader" "tape" "LSmokeTune$Tape;") (List.mem_cons_of_mem _ (List.mem_append_left _ (List.mem_append_left _ (List.mem_append_left _ (List.mem_append_left _ (List.mem_of_getElem? (i := 0) rfl))))))) (fun _ h9 => h9) rfl dX6_part_194 ?_
                    refine va_getN (ci := 8) (v := .int (u_637.2.2.2.1 3)) (C := RX8) (T := TX8) (N := 6) hx hb hts hw8 hown hK hP 3 rfl rfl 5 (by decide) (nst_use hN 124 rfl) (fun _ h9 => h9) rfl dX6_part_197 ?_
                    refine lv_if_lt (tgt := 218) hx hb dX6_part_200 (by decide) (fun c_645 => ?_) (fun c_645 => ?_)
                    · have c_645i := i_lt (x := (u_637.2.2.2.1 3).toInt) (y := 0) rfl rfl c_645
                      exact j_631 (u_637.2.2.2.1 0) (u_637.2.2.2.1 1) (u_637.2.2.2.1 2) (u_637.2.2.2.1 3) (by omega) (by omega) (by omega) (by omega) _ _ hP hD hS ls (lv_sub hl [] rfl)
                    · have c_645i := i_nlt (x := (u_637.2.2.2.1 3).toInt) (y := 0) rfl rfl c_645
                      refine lv_aload_n hx hb dX6_part_203 rfl (lv_at hl 2 rfl) ?_
                      refine va_get (ci := 6) (v := .ref t0) (C := RX6) (T := TX6) (N := 5) hx hb hts hw6 hown hK hP 0 rfl rfl 0 (by decide) (hts (.fieldLink RX6 12 "SmokeTune$Reader" "tape" "LSmokeTune$Tape;") (List.mem_cons_of_mem _ (List.mem_append_left _ (List.mem_append_left _ (List.mem_append_left _ (List.mem_append_left _ (List.mem_of_getElem? (i := 0) rfl))))))) (fun _ h9 => h9) rfl dX6_part_204 ?_
                      refine va_getN (ci := 8) (v := .int (u_637.2.2.2.1 3)) (C := RX8) (T := TX8) (N := 6) hx hb hts hw8 hown hK hP 3 rfl rfl 5 (by decide) (nst_use hN 124 rfl) (fun _ h9 => h9) rfl dX6_part_207 ?_
                      refine va_gets (C := "SmokeTune$Reader") (n := "TELLING_MOST") (d := "[I") (v := .ref (g 7)) hx hb (hG.arr 7 (by decide)).1 hS hown (hts (.fieldLink RX6 153 "SmokeTune$Reader" "TELLING_MOST" "[I") (List.mem_cons_of_mem _ (List.mem_append_left _ (List.mem_append_left _ (List.mem_append_left _ (List.mem_append_left _ (List.mem_of_getElem? (i := 5) rfl))))))) (fun _ h9 => h9) dX6_part_210 ?_
                      refine lv_iload_n hx hb dX6_part_213 rfl (lv_at hl 0 rfl) ?_
                      refine va_ti hx hb (hG.arr 7 (by decide)).2 hS (show vp_in _ 3 from (i_in hx_642 (by omega))) rfl dX6_part_214 ?_
                      refine lv_topi (fun x_646 ex_646 => ?_)
                      have hx_646 : 6 ≤ x_646.toInt ∧ x_646.toInt ≤ 7 := by rw [ex_646]; exact Rg.at sr_7 hx_642 (show 0 ≤ (r_633.toInt - 5) ∧ (r_633.toInt - 5) < _ by omega)
                      refine lv_icmp_le (tgt := 220) hx hb dX6_part_215 (by decide) (fun c_647 => ?_) (fun c_647 => ?_)
                      · have c_647i := i_le (x := (u_637.2.2.2.1 3).toInt) (y := x_646.toInt) rfl rfl c_647
                        refine va_gets (C := "SmokeTune$Reader") (n := "TELLING_FROM") (d := "[I") (v := .ref (g 6)) hx hb (hG.arr 6 (by decide)).1 hS hown (hts (.fieldLink RX6 150 "SmokeTune$Reader" "TELLING_FROM" "[I") (List.mem_cons_of_mem _ (List.mem_append_left _ (List.mem_append_left _ (List.mem_append_left _ (List.mem_append_left _ (List.mem_of_getElem? (i := 4) rfl))))))) (fun _ h9 => h9) dX6_part_220 ?_
                        refine lv_iload_n hx hb dX6_part_223 rfl (lv_at hl 0 rfl) ?_
                        refine va_ti hx hb (hG.arr 6 (by decide)).2 hS (show vp_in _ 3 from (i_in hx_642 (by omega))) rfl dX6_part_224 ?_
                        refine lv_topi (fun x_648 ex_648 => ?_)
                        have hx_648 : 5 ≤ x_648.toInt ∧ x_648.toInt ≤ 21 := by rw [ex_648]; exact Rg.at sr_6 hx_642 (show 0 ≤ (r_633.toInt - 5) ∧ (r_633.toInt - 5) < _ by omega)
                        refine lv_aload_n hx hb dX6_part_225 rfl (lv_at hl 2 rfl) ?_
                        refine va_get (ci := 6) (v := .ref t0) (C := RX6) (T := TX6) (N := 5) hx hb hts hw6 hown hK hP 0 rfl rfl 0 (by decide) (hts (.fieldLink RX6 12 "SmokeTune$Reader" "tape" "LSmokeTune$Tape;") (List.mem_cons_of_mem _ (List.mem_append_left _ (List.mem_append_left _ (List.mem_append_left _ (List.mem_append_left _ (List.mem_of_getElem? (i := 0) rfl))))))) (fun _ h9 => h9) rfl dX6_part_226 ?_
                        refine va_getN (ci := 8) (v := .int (u_637.2.2.2.1 3)) (C := RX8) (T := TX8) (N := 6) hx hb hts hw8 hown hK hP 3 rfl rfl 5 (by decide) (nst_use hN 124 rfl) (fun _ h9 => h9) rfl dX6_part_229 ?_
                        refine lv_iadd hx hb dX6_part_232 ?_
                        refine lv_topi (fun x_649 ex_649 => ?_)
                        have hx_649 : x_649.toInt = (x_648.toInt + (u_637.2.2.2.1 3).toInt) := by rw [ex_649]; exact i_add rfl rfl (by omega)
                        refine lv_istore_n (lv' := [(2, .int x_649), (3, .int x_642), (0, .ref a0), (1, .int d)]) hx hb dX6_part_233 rfl hl (by decide) rfl (fun ls hl => ?_)
                        refine lv_aload_n hx hb dX6_part_234 rfl (lv_at hl 2 rfl) ?_
                        refine va_get (ci := 6) (v := .ref t0) (C := RX6) (T := TX6) (N := 5) hx hb hts hw6 hown hK hP 0 rfl rfl 0 (by decide) (hts (.fieldLink RX6 12 "SmokeTune$Reader" "tape" "LSmokeTune$Tape;") (List.mem_cons_of_mem _ (List.mem_append_left _ (List.mem_append_left _ (List.mem_append_left _ (List.mem_append_left _ (List.mem_of_getElem? (i := 0) rfl))))))) (fun _ h9 => h9) rfl dX6_part_235 ?_
                        refine kcv (S := Su) (wr := [(a0, .inr (6, [.ref t0, .ref s0, .int lw, .int x_576, r_4])), (s0, .inr (7, [.ref s1, .ref s2, s_2, .int us])), (s2, .inl (K 0, 800, .inl fc))]) (va_runVN (As := []) (rest := []) ⟨hx, hb, hml, hown, hts⟩ (w_step l D K t0 t1 ln (u_637.2.2.2.1 0) (u_637.2.2.2.1 1) (u_637.2.2.2.1 2) (u_637.2.2.2.1 3) fb H.size (by first | omega | decide) (by first | omega | decide)) ⟨va_cnB 0 hts gX6_part_X8_step_n47 rfl rfl rfl (nst_at hN 32 rfl) (hts (.initialized RX8) (List.mem_cons_of_mem _ (List.mem_append_left _ (List.mem_append_left _ (List.mem_append_left _ (List.mem_append_left _ (List.mem_of_getElem? (i := 7) rfl))))))) (by decide +kernel) ⟨by show (1) + 1 ≤ fr + 5; omega, by show 8 + (5 + 11) + (14) ≤ lo + 110; omega⟩, (hts (.instanceMethod yX8_step) (List.mem_cons_of_mem _ (List.mem_append_left _ (List.mem_append_left _ (List.mem_append_left _ (List.mem_append_left _ (List.mem_of_getElem? (i := 6) rfl))))))), (hts (.selects RX8 yX8_step yX8_step) (List.mem_cons_of_mem _ (List.mem_append_left _ (List.mem_append_left _ (List.mem_append_left _ (List.mem_append_left _ (List.mem_of_getElem? (i := 8) rfl)))))))⟩ (mkV hK hN (hP.sub [3, 4] rfl) (hD.sub [3, 4] (by decide) rfl) (ci := 8) (q0 := 0) rfl rfl) rfl rfl hl.1 rfl (lv_room (Nat.le_of_ble_eq_true rfl)) dX6_part_238 ⟨Nat.le_of_ble_eq_true rfl, Nat.le_of_ble_eq_true rfl⟩) hP hD hS hA [3, 4] [0, 1, 2] rfl rfl (by decide) (by decide) (fun u_651 H locs hw hP hD hS => ?_)
                        have hP : va_P D vwCl [(a0, .inr (6, [.ref t0, .ref s0, .int lw, .int x_576, r_4])), (s0, .inr (7, [.ref s1, .ref s2, s_2, .int us])), (s2, .inl (K 0, 800, .inl fc)), (t0, .inr (8, [.ref t1, .int ln, .int (u_651.2.2.2.1 0), .int (u_651.2.2.2.1 1), .int (u_651.2.2.2.1 2), .int (u_651.2.2.2.1 3)])), (t1, .inl (K 0, 400, .inl fb))] H := hP
                        have hD : va_D A [(a0, .inr (6, [.ref t0, .ref s0, .int lw, .int x_576, r_4])), (s0, .inr (7, [.ref s1, .ref s2, s_2, .int us])), (s2, .inl (K 0, 800, .inl fc)), (t0, .inr (8, [.ref t1, .int ln, .int (u_651.2.2.2.1 0), .int (u_651.2.2.2.1 1), .int (u_651.2.2.2.1 2), .int (u_651.2.2.2.1 3)])), (t1, .inl (K 0, 400, .inl fb))] := hD
                        obtain ⟨k_652, k_653, k_654, -⟩ := hw
                        exact j_625 x_649 (u_651.2.2.2.1 0) (u_651.2.2.2.1 1) (u_651.2.2.2.1 2) (u_651.2.2.2.1 3) (by rw [hx_649]; omega) (by omega) (by omega) (by omega) _ _ hP hD hS ls (lv_sub hl [0, 2] rfl)
                      · have c_647i := i_nle (x := (u_637.2.2.2.1 3).toInt) (y := x_646.toInt) rfl rfl c_647
                        exact j_631 (u_637.2.2.2.1 0) (u_637.2.2.2.1 1) (u_637.2.2.2.1 2) (u_637.2.2.2.1 3) (by omega) (by omega) (by omega) (by omega) _ _ hP hD hS ls (lv_sub hl [] rfl)
              · have c_641i := i_ne (x := lw.toInt) (y := 0) rfl rfl c_641
                exfalso; omega
            · have c_635i := i_eq (x := r_633.toInt) (y := (-1)) rfl rfl c_635
              refine lv_iconst (v := 0) hx hb dX6_part_157 (by decide) ?_
              rw [← hQ]
              have hP9 := hP.sub (ws' := [(a0, .inr (6, [.ref t0, .ref s0, .int lw, .int x_576, r_4])), (t0, .inr (8, [.ref t1, .int ln, .int tf, .int tt, .int ti, .int tu])), (t1, .inl (K 0, 400, .inl fb)), (s0, .inr (7, [.ref s1, .ref s2, s_2, .int us])), (s2, .inl (K 0, 800, .inl fc))]) [0, 1, 2, 3, 4] rfl
              have hD9 := hD.sub (ws' := [(a0, .inr (6, [.ref t0, .ref s0, .int lw, .int x_576, r_4])), (t0, .inr (8, [.ref t1, .int ln, .int tf, .int tt, .int ti, .int tu])), (t1, .inl (K 0, 400, .inl fb)), (s0, .inr (7, [.ref s1, .ref s2, s_2, .int us])), (s2, .inl (K 0, 800, .inl fc))]) [0, 1, 2, 3, 4] (by decide) rfl
              exact W.zret (v := 0) hx hb hr (by decide) (fun t ht hW => ⟨⟨0, ((fun _ => 0, fun i => match i with | _ => fc, fun _ => fun _ => 0, fun i => match i with | 0 => x_576 | 1 => tf | 2 => tt | 3 => ti | 4 => tu | _ => us, fun _ => 0, fun _ => fun _ => none) : Su), rfl, ⟨(show 0 ≤ (0 : Int32).toInt ∧ (0 : Int32).toInt ≤ 1 by decide), (show 0 ≤ (x_576 : Int32).toInt ∧ (x_576 : Int32).toInt ≤ 50 by rw [hx_576]; omega), (show 0 ≤ (tf : Int32).toInt ∧ (tf : Int32).toInt ≤ 400 by omega), (show 0 ≤ (tt : Int32).toInt ∧ (tt : Int32).toInt ≤ 400 by omega), (show (-1) ≤ (tu : Int32).toInt ∧ (tu : Int32).toInt ≤ 1000000 by omega), (show 0 ≤ (us : Int32).toInt ∧ (us : Int32).toInt ≤ 800 by omega), zfc, trivial⟩, (⟨by rw [ht]; exact hP9, hD9⟩ : Wd D A _ t)⟩, hS.F ht⟩) hS.2.2 dX6_part_158
          · have c_632i := i_ne (x := lw.toInt) (y := 0) rfl rfl c_632
            refine va_ldcS hx hb hown (hG.str 11 (by decide)).1 dX6_part_141 ?_
            refine W.eq (g2 := F0 m 143 ls [.ref (g 30), .ref t0]) rfl ?_
            refine lv_goto (tgt := 148) hx hb dX6_part_143 (by decide) ?_
            refine pci (va_runVN (As := [.ref (g 30)]) (rest := []) ⟨hx, hb, hml, hown, hts⟩ (w_find l D K g L 11 t0 t1 ln tf tt ti tu fb H.size (by decide) (by first | omega | decide) (by first | omega | decide) (by first | omega | decide) (by first | omega | decide)) ⟨va_cnB 1 hts gX6_part_X8_find_n67 rfl rfl rfl (nst_at hN 33 rfl) (hts (.initialized RX8) (List.mem_cons_of_mem _ (List.mem_append_left _ (List.mem_append_left _ (List.mem_append_left _ (List.mem_append_left _ (List.mem_of_getElem? (i := 7) rfl))))))) (by decide +kernel) ⟨by show (4) + 1 ≤ fr + 5; omega, by show 8 + (6 + 11) + (85) ≤ lo + 110; omega⟩, (hts (.instanceMethod yX8_find) (List.mem_cons_of_mem _ (List.mem_append_left _ (List.mem_append_left _ (List.mem_append_left _ (List.mem_append_right _ (List.mem_append_left _ (List.mem_of_getElem? (i := 7) rfl)))))))), (hts (.selects RX8 yX8_find yX8_find) (List.mem_cons_of_mem _ (List.mem_append_left _ (List.mem_append_left _ (List.mem_append_left _ (List.mem_append_right _ (List.mem_append_left _ (List.mem_of_getElem? (i := 8) rfl))))))))⟩ (mkVY hK hN (hP.sub [1, 2] rfl) (hD.sub [1, 2] (by decide) rfl) (ci := 8) (q0 := 0) rfl rfl (fun U hU hW => ⟨Gl.at hG hS hW hU (fun _ h9 => h9.elim), Pool.at hPl hS hU (fun _ h9 => h9.elim), Ro.heap hU (Ro.nil)⟩)) rfl rfl hl.1 rfl (lv_room (Nat.le_of_ble_eq_true rfl)) dX6_part_148 ⟨Nat.le_of_ble_eq_true rfl, Nat.le_of_ble_eq_true rfl⟩) (fun r_655 hw => ?_)
            obtain ⟨h_656, -⟩ := hw
            refine lv_istore_n (lv' := [(2, .int r_655), (0, .ref a0), (1, .int d)]) hx hb dX6_part_151 rfl hl (by decide) rfl (fun ls hl => ?_)
            refine lv_iload_n hx hb dX6_part_152 rfl (lv_at hl 0 rfl) ?_
            refine lv_iconst (v := (-1)) hx hb dX6_part_153 (by decide) ?_
            refine lv_icmp_ne (tgt := 159) hx hb dX6_part_154 (by decide) (fun c_657 => ?_) (fun c_657 => ?_)
            · have c_657i := i_ne (x := r_655.toInt) (y := (-1)) rfl rfl c_657
              refine lv_aload_n hx hb dX6_part_159 rfl (lv_at hl 1 rfl) ?_
              refine va_get (ci := 6) (v := .ref t0) (C := RX6) (T := TX6) (N := 5) hx hb hts hw6 hown hK hP 0 rfl rfl 0 (by decide) (hts (.fieldLink RX6 12 "SmokeTune$Reader" "tape" "LSmokeTune$Tape;") (List.mem_cons_of_mem _ (List.mem_append_left _ (List.mem_append_left _ (List.mem_append_left _ (List.mem_append_left _ (List.mem_of_getElem? (i := 0) rfl))))))) (fun _ h9 => h9) rfl dX6_part_160 ?_
              refine kcv (S := Su) (wr := [(a0, .inr (6, [.ref t0, .ref s0, .int lw, .int x_576, r_4])), (s0, .inr (7, [.ref s1, .ref s2, s_2, .int us])), (s2, .inl (K 0, 800, .inl fc))]) (va_runVN (As := []) (rest := []) ⟨hx, hb, hml, hown, hts⟩ (w_step l D K t0 t1 ln tf tt ti tu fb H.size (by first | omega | decide) (by first | omega | decide)) ⟨va_cnB 0 hts gX6_part_X8_step_n47 rfl rfl rfl (nst_at hN 32 rfl) (hts (.initialized RX8) (List.mem_cons_of_mem _ (List.mem_append_left _ (List.mem_append_left _ (List.mem_append_left _ (List.mem_append_left _ (List.mem_of_getElem? (i := 7) rfl))))))) (by decide +kernel) ⟨by show (1) + 1 ≤ fr + 5; omega, by show 8 + (5 + 11) + (14) ≤ lo + 110; omega⟩, (hts (.instanceMethod yX8_step) (List.mem_cons_of_mem _ (List.mem_append_left _ (List.mem_append_left _ (List.mem_append_left _ (List.mem_append_left _ (List.mem_of_getElem? (i := 6) rfl))))))), (hts (.selects RX8 yX8_step yX8_step) (List.mem_cons_of_mem _ (List.mem_append_left _ (List.mem_append_left _ (List.mem_append_left _ (List.mem_append_left _ (List.mem_of_getElem? (i := 8) rfl)))))))⟩ (mkV hK hN (hP.sub [1, 2] rfl) (hD.sub [1, 2] (by decide) rfl) (ci := 8) (q0 := 0) rfl rfl) rfl rfl hl.1 rfl (lv_room (Nat.le_of_ble_eq_true rfl)) dX6_part_163 ⟨Nat.le_of_ble_eq_true rfl, Nat.le_of_ble_eq_true rfl⟩) hP hD hS hA [1, 2] [0, 3, 4] rfl rfl (by decide) (by decide) (fun u_659 H locs hw hP hD hS => ?_)
              have hP : va_P D vwCl [(a0, .inr (6, [.ref t0, .ref s0, .int lw, .int x_576, r_4])), (s0, .inr (7, [.ref s1, .ref s2, s_2, .int us])), (s2, .inl (K 0, 800, .inl fc)), (t0, .inr (8, [.ref t1, .int ln, .int (u_659.2.2.2.1 0), .int (u_659.2.2.2.1 1), .int (u_659.2.2.2.1 2), .int (u_659.2.2.2.1 3)])), (t1, .inl (K 0, 400, .inl fb))] H := hP
              have hD : va_D A [(a0, .inr (6, [.ref t0, .ref s0, .int lw, .int x_576, r_4])), (s0, .inr (7, [.ref s1, .ref s2, s_2, .int us])), (s2, .inl (K 0, 800, .inl fc)), (t0, .inr (8, [.ref t1, .int ln, .int (u_659.2.2.2.1 0), .int (u_659.2.2.2.1 1), .int (u_659.2.2.2.1 2), .int (u_659.2.2.2.1 3)])), (t1, .inl (K 0, 400, .inl fb))] := hD
              obtain ⟨k_660, k_661, k_662, -⟩ := hw
              refine lv_aload_n hx hb dX6_part_166 rfl (lv_at hl 1 rfl) ?_
              refine va_get (ci := 6) (v := .int lw) (C := RX6) (T := TX6) (N := 5) hx hb hts hw6 hown hK hP 0 rfl rfl 2 (by decide) (hts (.fieldLink RX6 27 "SmokeTune$Reader" "lawful" "Z") (List.mem_cons_of_mem _ (List.mem_append_left _ (List.mem_append_left _ (List.mem_append_left _ (List.mem_append_left _ (List.mem_of_getElem? (i := 3) rfl))))))) (fun _ h9 => h9) rfl dX6_part_167 ?_
              refine lv_if_eq (tgt := 177) hx hb dX6_part_170 (by decide) (fun c_663 => ?_) (fun c_663 => ?_)
              · have c_663i := i_eq (x := lw.toInt) (y := 0) rfl rfl c_663
                exfalso; omega
              · have c_663i := i_ne (x := lw.toInt) (y := 0) rfl rfl c_663
                refine lv_iconst (v := (-1)) hx hb dX6_part_173 (by decide) ?_
                refine lv_goto (tgt := 180) hx hb dX6_part_174 (by decide) ?_
                refine lv_istore_n (lv' := [(3, .int (-1)), (2, .int r_655), (0, .ref a0), (1, .int d)]) hx hb dX6_part_180 rfl hl (by decide) rfl (fun ls hl => ?_)
                refine lv_iload_n hx hb dX6_part_181 rfl (lv_at hl 0 rfl) ?_
                refine lv_if_lt (tgt := 241) hx hb dX6_part_182 (by decide) (fun c_664 => ?_) (fun c_664 => absurd (by decide) c_664)
                exact j_625 r_655 (u_659.2.2.2.1 0) (u_659.2.2.2.1 1) (u_659.2.2.2.1 2) (u_659.2.2.2.1 3) (by omega) (by omega) (by omega) (by omega) _ _ hP hD hS ls (lv_sub hl [1, 2] rfl)
            · have c_657i := i_eq (x := r_655.toInt) (y := (-1)) rfl rfl c_657
              refine lv_iconst (v := 0) hx hb dX6_part_157 (by decide) ?_
              rw [← hQ]
              have hP9 := hP.sub (ws' := [(a0, .inr (6, [.ref t0, .ref s0, .int lw, .int x_576, r_4])), (t0, .inr (8, [.ref t1, .int ln, .int tf, .int tt, .int ti, .int tu])), (t1, .inl (K 0, 400, .inl fb)), (s0, .inr (7, [.ref s1, .ref s2, s_2, .int us])), (s2, .inl (K 0, 800, .inl fc))]) [0, 1, 2, 3, 4] rfl
              have hD9 := hD.sub (ws' := [(a0, .inr (6, [.ref t0, .ref s0, .int lw, .int x_576, r_4])), (t0, .inr (8, [.ref t1, .int ln, .int tf, .int tt, .int ti, .int tu])), (t1, .inl (K 0, 400, .inl fb)), (s0, .inr (7, [.ref s1, .ref s2, s_2, .int us])), (s2, .inl (K 0, 800, .inl fc))]) [0, 1, 2, 3, 4] (by decide) rfl
              exact W.zret (v := 0) hx hb hr (by decide) (fun t ht hW => ⟨⟨0, ((fun _ => 0, fun i => match i with | _ => fc, fun _ => fun _ => 0, fun i => match i with | 0 => x_576 | 1 => tf | 2 => tt | 3 => ti | 4 => tu | _ => us, fun _ => 0, fun _ => fun _ => none) : Su), rfl, ⟨(show 0 ≤ (0 : Int32).toInt ∧ (0 : Int32).toInt ≤ 1 by decide), (show 0 ≤ (x_576 : Int32).toInt ∧ (x_576 : Int32).toInt ≤ 50 by rw [hx_576]; omega), (show 0 ≤ (tf : Int32).toInt ∧ (tf : Int32).toInt ≤ 400 by omega), (show 0 ≤ (tt : Int32).toInt ∧ (tt : Int32).toInt ≤ 400 by omega), (show (-1) ≤ (tu : Int32).toInt ∧ (tu : Int32).toInt ≤ 1000000 by omega), (show 0 ≤ (us : Int32).toInt ∧ (us : Int32).toInt ≤ 800 by omega), zfc, trivial⟩, (⟨by rw [ht]; exact hP9, hD9⟩ : Wd D A _ t)⟩, hS.F ht⟩) hS.2.2 dX6_part_158
        · have c_577i := i_ne (x := tu.toInt) (y := (-1)) rfl rfl c_577
          refine lv_aload_n hx hb dX6_part_105 rfl (lv_at hl 0 rfl) ?_
          refine va_get (ci := 6) (v := .ref s0) (C := RX6) (T := TX6) (N := 5) hx hb hts hw6 hown hK hP 0 rfl rfl 1 (by decide) (hts (.fieldLink RX6 23 "SmokeTune$Reader" "text" "LSmokeTune$Script;") (List.mem_cons_of_mem _ (List.mem_append_left _ (List.mem_append_left _ (List.mem_append_left _ (List.mem_append_left _ (List.mem_of_getElem? (i := 2) rfl))))))) (fun _ h9 => h9) rfl dX6_part_106 ?_
          refine lv_iconst (v := 1) hx hb dX6_part_109 (by decide) ?_
          refine lv_aload_n hx hb dX6_part_110 rfl (lv_at hl 0 rfl) ?_
          refine va_get (ci := 6) (v := .ref t0) (C := RX6) (T := TX6) (N := 5) hx hb hts hw6 hown hK hP 0 rfl rfl 0 (by decide) (hts (.fieldLink RX6 12 "SmokeTune$Reader" "tape" "LSmokeTune$Tape;") (List.mem_cons_of_mem _ (List.mem_append_left _ (List.mem_append_left _ (List.mem_append_left _ (List.mem_append_left _ (List.mem_of_getElem? (i := 0) rfl))))))) (fun _ h9 => h9) rfl dX6_part_111 ?_
          refine va_getN (ci := 8) (v := .int tu) (C := RX8) (T := TX8) (N := 6) hx hb hts hw8 hown hK hP 1 rfl rfl 5 (by decide) (nst_use hN 124 rfl) (fun _ h9 => h9) rfl dX6_part_114 ?_
          refine kci (S := Su) (wr := [(a0, .inr (6, [.ref t0, .ref s0, .int lw, .int x_576, r_4])), (t0, .inr (8, [.ref t1, .int ln, .int tf, .int tt, .int ti, .int tu])), (t1, .inl (K 0, 400, .inl fb))]) (va_runVN (As := [.int 1, .int tu]) (rest := []) ⟨hx, hb, hml, hown, hts⟩ (w_emit l D K s0 1 tu s1 s2 s_2 us fc H.size (by first | omega | decide) (by first | omega | decide) (by first | omega | decide) zfc) ⟨va_cnB 2 hts gX6_part_X7_emit_n95 rfl rfl rfl (nst_at hN 36 rfl) (hts (.initialized RX7) (List.mem_cons_of_mem _ (List.mem_append_left _ (List.mem_append_left _ (List.mem_append_left _ (List.mem_append_right _ (List.mem_append_left _ (List.mem_of_getElem? (i := 2) rfl)))))))) (by decide +kernel) ⟨by show (0) + 1 ≤ fr + 5; omega, by show 8 + (3 + 11) + (0) ≤ lo + 110; omega⟩, (hts (.instanceMethod yX7_emit) (List.mem_cons_of_mem _ (List.mem_append_left _ (List.mem_append_left _ (List.mem_append_left _ (List.mem_append_right _ (List.mem_append_left _ (List.mem_of_getElem? (i := 1) rfl)))))))), (hts (.selects RX7 yX7_emit yX7_emit) (List.mem_cons_of_mem _ (List.mem_append_left _ (List.mem_append_left _ (List.mem_append_left _ (List.mem_append_right _ (List.mem_append_left _ (List.mem_of_getElem? (i := 3) rfl))))))))⟩ (mkV hK hN (hP.sub [3, 4] rfl) (hD.sub [3, 4] (by decide) rfl) (ci := 7) (q0 := 0) rfl rfl) rfl rfl hl.1 rfl (lv_room (Nat.le_of_ble_eq_true rfl)) dX6_part_117 ⟨Nat.le_of_ble_eq_true rfl, Nat.le_of_ble_eq_true rfl⟩) hP hD hS hA [3, 4] [0, 1, 2] rfl rfl (by decide) (by decide) (fun r_665 u_666 H locs hw hP hD hS => ?_)
          have hP : va_P D vwCl [(a0, .inr (6, [.ref t0, .ref s0, .int lw, .int x_576, r_4])), (t0, .inr (8, [.ref t1, .int ln, .int tf, .int tt, .int ti, .int tu])), (t1, .inl (K 0, 400, .inl fb)), (s0, .inr (7, [.ref s1, .ref s2, s_2, .int (u_666.2.2.2.1 0)])), (s2, .inl (K 0, 800, .inl (u_666.2.1 0)))] H := hP
          have hD : va_D A [(a0, .inr (6, [.ref t0, .ref s0, .int lw, .int x_576, r_4])), (t0, .inr (8, [.ref t1, .int ln, .int tf, .int tt, .int ti, .int tu])), (t1, .inl (K 0, 400, .inl fb)), (s0, .inr (7, [.ref s1, .ref s2, s_2, .int (u_666.2.2.2.1 0)])), (s2, .inl (K 0, 800, .inl (u_666.2.1 0)))] := hD
          obtain ⟨h_669, k_667, k_668, -⟩ := hw
          refine lv_pop hx hb dX6_part_120 rfl ?_
          refine lv_aload_n hx hb dX6_part_121 rfl (lv_at hl 0 rfl) ?_
          refine va_get (ci := 6) (v := .ref t0) (C := RX6) (T := TX6) (N := 5) hx hb hts hw6 hown hK hP 0 rfl rfl 0 (by decide) (hts (.fieldLink RX6 12 "SmokeTune$Reader" "tape" "LSmokeTune$Tape;") (List.mem_cons_of_mem _ (List.mem_append_left _ (List.mem_append_left _ (List.mem_append_left _ (List.mem_append_left _ (List.mem_of_getElem? (i := 0) rfl))))))) (fun _ h9 => h9) rfl dX6_part_122 ?_
          refine kcv (S := Su) (wr := [(a0, .inr (6, [.ref t0, .ref s0, .int lw, .int x_576, r_4])), (s0, .inr (7, [.ref s1, .ref s2, s_2, .int (u_666.2.2.2.1 0)])), (s2, .inl (K 0, 800, .inl (u_666.2.1 0)))]) (va_runVN (As := []) (rest := []) ⟨hx, hb, hml, hown, hts⟩ (w_step l D K t0 t1 ln tf tt ti tu fb H.size (by first | omega | decide) (by first | omega | decide)) ⟨va_cnB 0 hts gX6_part_X8_step_n47 rfl rfl rfl (nst_at hN 32 rfl) (hts (.initialized RX8) (List.mem_cons_of_mem _ (List.mem_append_left _ (List.mem_append_left _ (List.mem_append_left _ (List.mem_append_left _ (List.mem_of_getElem? (i := 7) rfl))))))) (by decide +kernel) ⟨by show (1) + 1 ≤ fr + 5; omega, by show 8 + (5 + 11) + (14) ≤ lo + 110; omega⟩, (hts (.instanceMethod yX8_step) (List.mem_cons_of_mem _ (List.mem_append_left _ (List.mem_append_left _ (List.mem_append_left _ (List.mem_append_left _ (List.mem_of_getElem? (i := 6) rfl))))))), (hts (.selects RX8 yX8_step yX8_step) (List.mem_cons_of_mem _ (List.mem_append_left _ (List.mem_append_left _ (List.mem_append_left _ (List.mem_append_left _ (List.mem_of_getElem? (i := 8) rfl)))))))⟩ (mkV hK hN (hP.sub [1, 2] rfl) (hD.sub [1, 2] (by decide) rfl) (ci := 8) (q0 := 0) rfl rfl) rfl rfl hl.1 rfl (lv_room (Nat.le_of_ble_eq_true rfl)) dX6_part_125 ⟨Nat.le_of_ble_eq_true rfl, Nat.le_of_ble_eq_true rfl⟩) hP hD hS hA [1, 2] [0, 3, 4] rfl rfl (by decide) (by decide) (fun u_671 H locs hw hP hD hS => ?_)
          have hP : va_P D vwCl [(a0, .inr (6, [.ref t0, .ref s0, .int lw, .int x_576, r_4])), (s0, .inr (7, [.ref s1, .ref s2, s_2, .int (u_666.2.2.2.1 0)])), (s2, .inl (K 0, 800, .inl (u_666.2.1 0))), (t0, .inr (8, [.ref t1, .int ln, .int (u_671.2.2.2.1 0), .int (u_671.2.2.2.1 1), .int (u_671.2.2.2.1 2), .int (u_671.2.2.2.1 3)])), (t1, .inl (K 0, 400, .inl fb))] H := hP
          have hD : va_D A [(a0, .inr (6, [.ref t0, .ref s0, .int lw, .int x_576, r_4])), (s0, .inr (7, [.ref s1, .ref s2, s_2, .int (u_666.2.2.2.1 0)])), (s2, .inl (K 0, 800, .inl (u_666.2.1 0))), (t0, .inr (8, [.ref t1, .int ln, .int (u_671.2.2.2.1 0), .int (u_671.2.2.2.1 1), .int (u_671.2.2.2.1 2), .int (u_671.2.2.2.1 3)])), (t1, .inl (K 0, 400, .inl fb))] := hD
          obtain ⟨k_672, k_673, k_674, -⟩ := hw
          refine lv_iconst (v := 1) hx hb dX6_part_128 (by decide) ?_
          rw [← hQ]
          have hP9 := hP.sub (ws' := [(a0, .inr (6, [.ref t0, .ref s0, .int lw, .int x_576, r_4])), (t0, .inr (8, [.ref t1, .int ln, .int (u_671.2.2.2.1 0), .int (u_671.2.2.2.1 1), .int (u_671.2.2.2.1 2), .int (u_671.2.2.2.1 3)])), (t1, .inl (K 0, 400, .inl fb)), (s0, .inr (7, [.ref s1, .ref s2, s_2, .int (u_666.2.2.2.1 0)])), (s2, .inl (K 0, 800, .inl (u_666.2.1 0)))]) [0, 3, 4, 1, 2] rfl
          have hD9 := hD.sub (ws' := [(a0, .inr (6, [.ref t0, .ref s0, .int lw, .int x_576, r_4])), (t0, .inr (8, [.ref t1, .int ln, .int (u_671.2.2.2.1 0), .int (u_671.2.2.2.1 1), .int (u_671.2.2.2.1 2), .int (u_671.2.2.2.1 3)])), (t1, .inl (K 0, 400, .inl fb)), (s0, .inr (7, [.ref s1, .ref s2, s_2, .int (u_666.2.2.2.1 0)])), (s2, .inl (K 0, 800, .inl (u_666.2.1 0)))]) [0, 3, 4, 1, 2] (by decide) rfl
          exact W.zret (v := 1) hx hb hr (by decide) (fun t ht hW => ⟨⟨1, ((fun _ => 0, fun i => match i with | _ => (u_666.2.1 0), fun _ => fun _ => 0, fun i => match i with | 0 => x_576 | 1 => (u_671.2.2.2.1 0) | 2 => (u_671.2.2.2.1 1) | 3 => (u_671.2.2.2.1 2) | 4 => (u_671.2.2.2.1 3) | _ => (u_666.2.2.2.1 0), fun _ => 0, fun _ => fun _ => none) : Su), rfl, ⟨(show 0 ≤ (1 : Int32).toInt ∧ (1 : Int32).toInt ≤ 1 by decide), (show 0 ≤ (x_576 : Int32).toInt ∧ (x_576 : Int32).toInt ≤ 50 by rw [hx_576]; omega), (show 0 ≤ ((u_671.2.2.2.1 0) : Int32).toInt ∧ ((u_671.2.2.2.1 0) : Int32).toInt ≤ 400 by omega), (show 0 ≤ ((u_671.2.2.2.1 1) : Int32).toInt ∧ ((u_671.2.2.2.1 1) : Int32).toInt ≤ 400 by omega), (show (-1) ≤ ((u_671.2.2.2.1 3) : Int32).toInt ∧ ((u_671.2.2.2.1 3) : Int32).toInt ≤ 1000000 by omega), (show 0 ≤ ((u_666.2.2.2.1 0) : Int32).toInt ∧ ((u_666.2.2.2.1 0) : Int32).toInt ≤ 800 by omega), k_668, trivial⟩, (⟨by rw [ht]; exact hP9, hD9⟩ : Wd D A _ t)⟩, hS.F ht⟩) hS.2.2 dX6_part_129
      · have c_575i := i_nle (x := tu.toInt) (y := 1000) rfl rfl c_575
        exact j_573   _ _ hP hD hS ls (lv_sub hl [] rfl)
  · have c_471i := i_eq (x := ti.toInt) (y := 91) rfl rfl c_471
    refine lv_iload_n hx hb dX6_part_12 rfl (lv_at hl 1 rfl) ?_
    refine lv_bipush (v := 8) hx hb dX6_part_13 (by decide) ?_
    refine lv_icmp_lt (tgt := 20) hx hb dX6_part_15 (by decide) (fun c_675 => ?_) (fun c_675 => ?_)
    · have c_675i := i_lt (x := d.toInt) (y := 8) rfl rfl c_675
      refine lv_aload_n hx hb dX6_part_20 rfl (lv_at hl 0 rfl) ?_
      refine va_get (ci := 6) (v := .ref t0) (C := RX6) (T := TX6) (N := 5) hx hb hts hw6 hown hK hP 0 rfl rfl 0 (by decide) (hts (.fieldLink RX6 12 "SmokeTune$Reader" "tape" "LSmokeTune$Tape;") (List.mem_cons_of_mem _ (List.mem_append_left _ (List.mem_append_left _ (List.mem_append_left _ (List.mem_append_left _ (List.mem_of_getElem? (i := 0) rfl))))))) (fun _ h9 => h9) rfl dX6_part_21 ?_
      refine kcv (S := Su) (wr := [(a0, .inr (6, [.ref t0, .ref s0, .int lw, .int pa, r_4])), (s0, .inr (7, [.ref s1, .ref s2, s_2, .int us])), (s2, .inl (K 0, 800, .inl fc))]) (va_runVN (As := []) (rest := []) ⟨hx, hb, hml, hown, hts⟩ (w_step l D K t0 t1 ln tf tt ti tu fb s.heap.size (by first | omega | decide) (by first | omega | decide)) ⟨va_cnB 0 hts gX6_part_X8_step_n47 rfl rfl rfl (nst_at hN 32 rfl) (hts (.initialized RX8) (List.mem_cons_of_mem _ (List.mem_append_left _ (List.mem_append_left _ (List.mem_append_left _ (List.mem_append_left _ (List.mem_of_getElem? (i := 7) rfl))))))) (by decide +kernel) ⟨by show (1) + 1 ≤ fr + 5; omega, by show 8 + (5 + 11) + (14) ≤ lo + 110; omega⟩, (hts (.instanceMethod yX8_step) (List.mem_cons_of_mem _ (List.mem_append_left _ (List.mem_append_left _ (List.mem_append_left _ (List.mem_append_left _ (List.mem_of_getElem? (i := 6) rfl))))))), (hts (.selects RX8 yX8_step yX8_step) (List.mem_cons_of_mem _ (List.mem_append_left _ (List.mem_append_left _ (List.mem_append_left _ (List.mem_append_left _ (List.mem_of_getElem? (i := 8) rfl)))))))⟩ (mkV hK hN (hP.sub [1, 2] rfl) (hD.sub [1, 2] (by decide) rfl) (ci := 8) (q0 := 0) rfl rfl) rfl rfl hl.1 rfl (lv_room (Nat.le_of_ble_eq_true rfl)) dX6_part_24 ⟨Nat.le_of_ble_eq_true rfl, Nat.le_of_ble_eq_true rfl⟩) hP hD hS hA [1, 2] [0, 3, 4] rfl rfl (by decide) (by decide) (fun u_677 H locs hw hP hD hS => ?_)
      have hP : va_P D vwCl [(a0, .inr (6, [.ref t0, .ref s0, .int lw, .int pa, r_4])), (s0, .inr (7, [.ref s1, .ref s2, s_2, .int us])), (s2, .inl (K 0, 800, .inl fc)), (t0, .inr (8, [.ref t1, .int ln, .int (u_677.2.2.2.1 0), .int (u_677.2.2.2.1 1), .int (u_677.2.2.2.1 2), .int (u_677.2.2.2.1 3)])), (t1, .inl (K 0, 400, .inl fb))] H := hP
      have hD : va_D A [(a0, .inr (6, [.ref t0, .ref s0, .int lw, .int pa, r_4])), (s0, .inr (7, [.ref s1, .ref s2, s_2, .int us])), (s2, .inl (K 0, 800, .inl fc)), (t0, .inr (8, [.ref t1, .int ln, .int (u_677.2.2.2.1 0), .int (u_677.2.2.2.1 1), .int (u_677.2.2.2.1 2), .int (u_677.2.2.2.1 3)])), (t1, .inl (K 0, 400, .inl fb))] := hD
      obtain ⟨k_678, k_679, k_680, -⟩ := hw
      refine lv_aload_n hx hb dX6_part_27 rfl (lv_at hl 0 rfl) ?_
      refine lv_iload_n hx hb dX6_part_28 rfl (lv_at hl 1 rfl) ?_
      refine lv_iconst (v := 1) hx hb dX6_part_29 (by decide) ?_
      refine lv_iadd hx hb dX6_part_30 ?_
      refine lv_topi (fun x_681 ex_681 => ?_)
      have hx_681 : x_681.toInt = (d.toInt + 1) := by rw [ex_681]; exact i_add rfl (show (1 : Int32).toInt = 1 from rfl) (by omega)
      refine kci (S := Su) (wr := []) (va_runV (As := [.int x_681]) (rest := []) ⟨hx, hb, hml, hown, hts⟩ (hsum (by omega) l D K g L a0 x_681 t0 s0 lw pa r_4 t1 ln (u_677.2.2.2.1 0) (u_677.2.2.2.1 1) (u_677.2.2.2.1 2) (u_677.2.2.2.1 3) fb s1 s2 s_2 us fc H.size (by first | omega | decide) (by first | omega | decide) (by first | omega | decide) (by first | omega | decide) (by first | omega | decide) (by first | omega | decide) (by first | omega | decide) (by first | omega | decide) zfc) (cwV 1 hts gX6_part_X6_sum rfl rfl rfl (by decide +kernel) ⟨by show (fr) + 1 ≤ fr + 5; omega, by show 8 + (5 + 11) + (lo) ≤ lo + 110; omega⟩) (mkVY hK hN (hP.sub [0, 3, 4, 1, 2] rfl) (hD.sub [0, 3, 4, 1, 2] (by decide) rfl) (ci := 6) (q0 := 0) rfl rfl (fun U hU hW => ⟨Gl.at hG hS hW hU (fun q h => va_free hD hS hA [0, 3, 4, 1, 2] rfl q h), Pool.at hPl hS hU (fun q h => va_free hD hS hA [0, 3, 4, 1, 2] rfl q h), Ro.heap hU (Ro.nil)⟩)) rfl rfl hl.1 rfl (lv_room (Nat.le_of_ble_eq_true rfl)) dX6_part_31 ⟨Nat.le_of_ble_eq_true rfl, Nat.le_of_ble_eq_true rfl⟩) hP hD hS hA [0, 3, 4, 1, 2] [] rfl rfl (by decide) (by decide) (fun r_682 u_683 H locs hw hP hD hS => ?_)
      have hP : va_P D vwCl [(a0, .inr (6, [.ref t0, .ref s0, .int lw, .int (u_683.2.2.2.1 0), r_4])), (t0, .inr (8, [.ref t1, .int ln, .int (u_683.2.2.2.1 1), .int (u_683.2.2.2.1 2), .int (u_683.2.2.2.1 3), .int (u_683.2.2.2.1 4)])), (t1, .inl (K 0, 400, .inl fb)), (s0, .inr (7, [.ref s1, .ref s2, s_2, .int (u_683.2.2.2.1 5)])), (s2, .inl (K 0, 800, .inl (u_683.2.1 0)))] H := hP
      have hD : va_D A [(a0, .inr (6, [.ref t0, .ref s0, .int lw, .int (u_683.2.2.2.1 0), r_4])), (t0, .inr (8, [.ref t1, .int ln, .int (u_683.2.2.2.1 1), .int (u_683.2.2.2.1 2), .int (u_683.2.2.2.1 3), .int (u_683.2.2.2.1 4)])), (t1, .inl (K 0, 400, .inl fb)), (s0, .inr (7, [.ref s1, .ref s2, s_2, .int (u_683.2.2.2.1 5)])), (s2, .inl (K 0, 800, .inl (u_683.2.1 0)))] := hD
      obtain ⟨h_690, k_684, k_685, k_686, k_687, k_688, k_689, -⟩ := hw
      have j_698 : ∀ (H : Heap) (locs : List Loc) (hP : va_P D vwCl [(a0, .inr (6, [.ref t0, .ref s0, .int lw, .int (u_683.2.2.2.1 0), r_4])), (t0, .inr (8, [.ref t1, .int ln, .int (u_683.2.2.2.1 1), .int (u_683.2.2.2.1 2), .int (u_683.2.2.2.1 3), .int (u_683.2.2.2.1 4)])), (t1, .inl (K 0, 400, .inl fb)), (s0, .inr (7, [.ref s1, .ref s2, s_2, .int (u_683.2.2.2.1 5)])), (s2, .inl (K 0, 800, .inl (u_683.2.1 0)))] H) (hD : va_D A [(a0, .inr (6, [.ref t0, .ref s0, .int lw, .int (u_683.2.2.2.1 0), r_4])), (t0, .inr (8, [.ref t1, .int ln, .int (u_683.2.2.2.1 1), .int (u_683.2.2.2.1 2), .int (u_683.2.2.2.1 3), .int (u_683.2.2.2.1 4)])), (t1, .inl (K 0, 400, .inl fb)), (s0, .inr (7, [.ref s1, .ref s2, s_2, .int (u_683.2.2.2.1 5)])), (s2, .inl (K 0, 800, .inl (u_683.2.1 0)))]) (hS : va_S A s.heap H locs) (ls : Array Slot) (hl : lv_has ls 4 []), W p l e ({ frames := fr + 5, cells := 0, slots := 0, locals := lo + 110 }) s m (([.ref a0, .int d] : List Value).toArray) below meth c H locs 0 0 Q (F0 m 49 ls []) := by
        intro H locs hP hD hS ls hl
        refine lv_iconst (v := 0) hx hb dX6_part_49 (by decide) ?_
        rw [← hQ]
        have hP9 := hP.sub (ws' := [(a0, .inr (6, [.ref t0, .ref s0, .int lw, .int (u_683.2.2.2.1 0), r_4])), (t0, .inr (8, [.ref t1, .int ln, .int (u_683.2.2.2.1 1), .int (u_683.2.2.2.1 2), .int (u_683.2.2.2.1 3), .int (u_683.2.2.2.1 4)])), (t1, .inl (K 0, 400, .inl fb)), (s0, .inr (7, [.ref s1, .ref s2, s_2, .int (u_683.2.2.2.1 5)])), (s2, .inl (K 0, 800, .inl (u_683.2.1 0)))]) [0, 1, 2, 3, 4] rfl
        have hD9 := hD.sub (ws' := [(a0, .inr (6, [.ref t0, .ref s0, .int lw, .int (u_683.2.2.2.1 0), r_4])), (t0, .inr (8, [.ref t1, .int ln, .int (u_683.2.2.2.1 1), .int (u_683.2.2.2.1 2), .int (u_683.2.2.2.1 3), .int (u_683.2.2.2.1 4)])), (t1, .inl (K 0, 400, .inl fb)), (s0, .inr (7, [.ref s1, .ref s2, s_2, .int (u_683.2.2.2.1 5)])), (s2, .inl (K 0, 800, .inl (u_683.2.1 0)))]) [0, 1, 2, 3, 4] (by decide) rfl
        exact W.zret (v := 0) hx hb hr (by decide) (fun t ht hW => ⟨⟨0, ((fun _ => 0, fun i => match i with | _ => (u_683.2.1 0), fun _ => fun _ => 0, fun i => match i with | 0 => (u_683.2.2.2.1 0) | 1 => (u_683.2.2.2.1 1) | 2 => (u_683.2.2.2.1 2) | 3 => (u_683.2.2.2.1 3) | 4 => (u_683.2.2.2.1 4) | _ => (u_683.2.2.2.1 5), fun _ => 0, fun _ => fun _ => none) : Su), rfl, ⟨(show 0 ≤ (0 : Int32).toInt ∧ (0 : Int32).toInt ≤ 1 by decide), (show 0 ≤ ((u_683.2.2.2.1 0) : Int32).toInt ∧ ((u_683.2.2.2.1 0) : Int32).toInt ≤ 50 by omega), (show 0 ≤ ((u_683.2.2.2.1 1) : Int32).toInt ∧ ((u_683.2.2.2.1 1) : Int32).toInt ≤ 400 by omega), (show 0 ≤ ((u_683.2.2.2.1 2) : Int32).toInt ∧ ((u_683.2.2.2.1 2) : Int32).toInt ≤ 400 by omega), (show (-1) ≤ ((u_683.2.2.2.1 4) : Int32).toInt ∧ ((u_683.2.2.2.1 4) : Int32).toInt ≤ 1000000 by omega), (show 0 ≤ ((u_683.2.2.2.1 5) : Int32).toInt ∧ ((u_683.2.2.2.1 5) : Int32).toInt ≤ 800 by omega), k_689, trivial⟩, (⟨by rw [ht]; exact hP9, hD9⟩ : Wd D A _ t)⟩, hS.F ht⟩) hS.2.2 dX6_part_50
      refine lv_if_eq (tgt := 49) hx hb dX6_part_34 (by decide) (fun c_699 => ?_) (fun c_699 => ?_)
      · have c_699i := i_eq (x := r_682.toInt) (y := 0) rfl rfl c_699
        exact j_698   _ _ hP hD hS ls (lv_sub hl [] rfl)
      · have c_699i := i_ne (x := r_682.toInt) (y := 0) rfl rfl c_699
        refine lv_aload_n hx hb dX6_part_37 rfl (lv_at hl 0 rfl) ?_
        refine va_get (ci := 6) (v := .ref t0) (C := RX6) (T := TX6) (N := 5) hx hb hts hw6 hown hK hP 0 rfl rfl 0 (by decide) (hts (.fieldLink RX6 12 "SmokeTune$Reader" "tape" "LSmokeTune$Tape;") (List.mem_cons_of_mem _ (List.mem_append_left _ (List.mem_append_left _ (List.mem_append_left _ (List.mem_append_left _ (List.mem_of_getElem? (i := 0) rfl))))))) (fun _ h9 => h9) rfl dX6_part_38 ?_
        refine va_getN (ci := 8) (v := .int (u_683.2.2.2.1 3)) (C := RX8) (T := TX8) (N := 6) hx hb hts hw8 hown hK hP 1 rfl rfl 4 (by decide) (nst_use hN 123 rfl) (fun _ h9 => h9) rfl dX6_part_41 ?_
        refine lv_bipush (v := 93) hx hb dX6_part_44 (by decide) ?_
        refine lv_icmp_eq (tgt := 51) hx hb dX6_part_46 (by decide) (fun c_700 => ?_) (fun c_700 => ?_)
        · have c_700i := i_eq (x := (u_683.2.2.2.1 3).toInt) (y := 93) rfl rfl c_700
          refine lv_aload_n hx hb dX6_part_51 rfl (lv_at hl 0 rfl) ?_
          refine va_get (ci := 6) (v := .ref t0) (C := RX6) (T := TX6) (N := 5) hx hb hts hw6 hown hK hP 0 rfl rfl 0 (by decide) (hts (.fieldLink RX6 12 "SmokeTune$Reader" "tape" "LSmokeTune$Tape;") (List.mem_cons_of_mem _ (List.mem_append_left _ (List.mem_append_left _ (List.mem_append_left _ (List.mem_append_left _ (List.mem_of_getElem? (i := 0) rfl))))))) (fun _ h9 => h9) rfl dX6_part_52 ?_
          refine kcv (S := Su) (wr := [(a0, .inr (6, [.ref t0, .ref s0, .int lw, .int (u_683.2.2.2.1 0), r_4])), (s0, .inr (7, [.ref s1, .ref s2, s_2, .int (u_683.2.2.2.1 5)])), (s2, .inl (K 0, 800, .inl (u_683.2.1 0)))]) (va_runVN (As := []) (rest := []) ⟨hx, hb, hml, hown, hts⟩ (w_step l D K t0 t1 ln (u_683.2.2.2.1 1) (u_683.2.2.2.1 2) (u_683.2.2.2.1 3) (u_683.2.2.2.1 4) fb H.size (by first | omega | decide) (by first | omega | decide)) ⟨va_cnB 0 hts gX6_part_X8_step_n47 rfl rfl rfl (nst_at hN 32 rfl) (hts (.initialized RX8) (List.mem_cons_of_mem _ (List.mem_append_left _ (List.mem_append_left _ (List.mem_append_left _ (List.mem_append_left _ (List.mem_of_getElem? (i := 7) rfl))))))) (by decide +kernel) ⟨by show (1) + 1 ≤ fr + 5; omega, by show 8 + (5 + 11) + (14) ≤ lo + 110; omega⟩, (hts (.instanceMethod yX8_step) (List.mem_cons_of_mem _ (List.mem_append_left _ (List.mem_append_left _ (List.mem_append_left _ (List.mem_append_left _ (List.mem_of_getElem? (i := 6) rfl))))))), (hts (.selects RX8 yX8_step yX8_step) (List.mem_cons_of_mem _ (List.mem_append_left _ (List.mem_append_left _ (List.mem_append_left _ (List.mem_append_left _ (List.mem_of_getElem? (i := 8) rfl)))))))⟩ (mkV hK hN (hP.sub [1, 2] rfl) (hD.sub [1, 2] (by decide) rfl) (ci := 8) (q0 := 0) rfl rfl) rfl rfl hl.1 rfl (lv_room (Nat.le_of_ble_eq_true rfl)) dX6_part_55 ⟨Nat.le_of_ble_eq_true rfl, Nat.le_of_ble_eq_true rfl⟩) hP hD hS hA [1, 2] [0, 3, 4] rfl rfl (by decide) (by decide) (fun u_702 H locs hw hP hD hS => ?_)
          have hP : va_P D vwCl [(a0, .inr (6, [.ref t0, .ref s0, .int lw, .int (u_683.2.2.2.1 0), r_4])), (s0, .inr (7, [.ref s1, .ref s2, s_2, .int (u_683.2.2.2.1 5)])), (s2, .inl (K 0, 800, .inl (u_683.2.1 0))), (t0, .inr (8, [.ref t1, .int ln, .int (u_702.2.2.2.1 0), .int (u_702.2.2.2.1 1), .int (u_702.2.2.2.1 2), .int (u_702.2.2.2.1 3)])), (t1, .inl (K 0, 400, .inl fb))] H := hP
          have hD : va_D A [(a0, .inr (6, [.ref t0, .ref s0, .int lw, .int (u_683.2.2.2.1 0), r_4])), (s0, .inr (7, [.ref s1, .ref s2, s_2, .int (u_683.2.2.2.1 5)])), (s2, .inl (K 0, 800, .inl (u_683.2.1 0))), (t0, .inr (8, [.ref t1, .int ln, .int (u_702.2.2.2.1 0), .int (u_702.2.2.2.1 1), .int (u_702.2.2.2.1 2), .int (u_702.2.2.2.1 3)])), (t1, .inl (K 0, 400, .inl fb))] := hD
          obtain ⟨k_703, k_704, k_705, -⟩ := hw
          refine lv_iconst (v := 1) hx hb dX6_part_58 (by decide) ?_
          rw [← hQ]
          have hP9 := hP.sub (ws' := [(a0, .inr (6, [.ref t0, .ref s0, .int lw, .int (u_683.2.2.2.1 0), r_4])), (t0, .inr (8, [.ref t1, .int ln, .int (u_702.2.2.2.1 0), .int (u_702.2.2.2.1 1), .int (u_702.2.2.2.1 2), .int (u_702.2.2.2.1 3)])), (t1, .inl (K 0, 400, .inl fb)), (s0, .inr (7, [.ref s1, .ref s2, s_2, .int (u_683.2.2.2.1 5)])), (s2, .inl (K 0, 800, .inl (u_683.2.1 0)))]) [0, 3, 4, 1, 2] rfl
          have hD9 := hD.sub (ws' := [(a0, .inr (6, [.ref t0, .ref s0, .int lw, .int (u_683.2.2.2.1 0), r_4])), (t0, .inr (8, [.ref t1, .int ln, .int (u_702.2.2.2.1 0), .int (u_702.2.2.2.1 1), .int (u_702.2.2.2.1 2), .int (u_702.2.2.2.1 3)])), (t1, .inl (K 0, 400, .inl fb)), (s0, .inr (7, [.ref s1, .ref s2, s_2, .int (u_683.2.2.2.1 5)])), (s2, .inl (K 0, 800, .inl (u_683.2.1 0)))]) [0, 3, 4, 1, 2] (by decide) rfl
          exact W.zret (v := 1) hx hb hr (by decide) (fun t ht hW => ⟨⟨1, ((fun _ => 0, fun i => match i with | _ => (u_683.2.1 0), fun _ => fun _ => 0, fun i => match i with | 0 => (u_683.2.2.2.1 0) | 1 => (u_702.2.2.2.1 0) | 2 => (u_702.2.2.2.1 1) | 3 => (u_702.2.2.2.1 2) | 4 => (u_702.2.2.2.1 3) | _ => (u_683.2.2.2.1 5), fun _ => 0, fun _ => fun _ => none) : Su), rfl, ⟨(show 0 ≤ (1 : Int32).toInt ∧ (1 : Int32).toInt ≤ 1 by decide), (show 0 ≤ ((u_683.2.2.2.1 0) : Int32).toInt ∧ ((u_683.2.2.2.1 0) : Int32).toInt ≤ 50 by omega), (show 0 ≤ ((u_702.2.2.2.1 0) : Int32).toInt ∧ ((u_702.2.2.2.1 0) : Int32).toInt ≤ 400 by omega), (show 0 ≤ ((u_702.2.2.2.1 1) : Int32).toInt ∧ ((u_702.2.2.2.1 1) : Int32).toInt ≤ 400 by omega), (show (-1) ≤ ((u_702.2.2.2.1 3) : Int32).toInt ∧ ((u_702.2.2.2.1 3) : Int32).toInt ≤ 1000000 by omega), (show 0 ≤ ((u_683.2.2.2.1 5) : Int32).toInt ∧ ((u_683.2.2.2.1 5) : Int32).toInt ≤ 800 by omega), k_689, trivial⟩, (⟨by rw [ht]; exact hP9, hD9⟩ : Wd D A _ t)⟩, hS.F ht⟩) hS.2.2 dX6_part_59
        · have c_700i := i_ne (x := (u_683.2.2.2.1 3).toInt) (y := 93) rfl rfl c_700
          exact j_698   _ _ hP hD hS ls (lv_sub hl [] rfl)
    · have c_675i := i_nlt (x := d.toInt) (y := 8) rfl rfl c_675
      refine lv_iconst (v := 0) hx hb dX6_part_18 (by decide) ?_
      rw [← hQ]
      have hP9 := hP.sub (ws' := [(a0, .inr (6, [.ref t0, .ref s0, .int lw, .int pa, r_4])), (t0, .inr (8, [.ref t1, .int ln, .int tf, .int tt, .int ti, .int tu])), (t1, .inl (K 0, 400, .inl fb)), (s0, .inr (7, [.ref s1, .ref s2, s_2, .int us])), (s2, .inl (K 0, 800, .inl fc))]) [0, 1, 2, 3, 4] rfl
      have hD9 := hD.sub (ws' := [(a0, .inr (6, [.ref t0, .ref s0, .int lw, .int pa, r_4])), (t0, .inr (8, [.ref t1, .int ln, .int tf, .int tt, .int ti, .int tu])), (t1, .inl (K 0, 400, .inl fb)), (s0, .inr (7, [.ref s1, .ref s2, s_2, .int us])), (s2, .inl (K 0, 800, .inl fc))]) [0, 1, 2, 3, 4] (by decide) rfl
      exact W.zret (v := 0) hx hb hr (by decide) (fun t ht hW => ⟨⟨0, ((fun _ => 0, fun i => match i with | _ => fc, fun _ => fun _ => 0, fun i => match i with | 0 => pa | 1 => tf | 2 => tt | 3 => ti | 4 => tu | _ => us, fun _ => 0, fun _ => fun _ => none) : Su), rfl, ⟨(show 0 ≤ (0 : Int32).toInt ∧ (0 : Int32).toInt ≤ 1 by decide), (show 0 ≤ (pa : Int32).toInt ∧ (pa : Int32).toInt ≤ 50 by omega), (show 0 ≤ (tf : Int32).toInt ∧ (tf : Int32).toInt ≤ 400 by omega), (show 0 ≤ (tt : Int32).toInt ∧ (tt : Int32).toInt ≤ 400 by omega), (show (-1) ≤ (tu : Int32).toInt ∧ (tu : Int32).toInt ≤ 1000000 by omega), (show 0 ≤ (us : Int32).toInt ∧ (us : Int32).toInt ≤ 800 by omega), zfc, trivial⟩, (⟨by rw [ht]; exact hP9, hD9⟩ : Wd D A _ t)⟩, hS.F ht⟩) hS.2.2 dX6_part_19
set_option maxHeartbeats 4000000 in
set_option maxRecDepth 100000 in
theorem w_sum (fr lo : Nat) (DD : Int) (zDD : 0 ≤ DD ∧ DD ≤ 8) (hsum : DD < 8 → SumAt fr lo (DD + 1)) (l : Launch) (D : va_G) (K : Nat → ClassId) (g : Nat → Nat) (L : Nat → Prop) (a0 : Nat) (d : Int32) (t0 : Nat) (s0 : Nat) (lw : Int32) (pa : Int32) (r_4 : Value) (t1 : Nat) (ln : Int32) (tf : Int32) (tt : Int32) (ti : Int32) (tu : Int32) (fb : Nat → Int32) (s1 : Nat) (s2 : Nat) (s_2 : Value) (us : Int32) (fc : Nat → Int32) (sz : Nat) (zln : 0 ≤ ln.toInt ∧ ln.toInt ≤ 400) (ztf : 0 ≤ tf.toInt ∧ tf.toInt ≤ 400) (ztt : 0 ≤ tt.toInt ∧ tt.toInt ≤ 400) (ztu : (-1) ≤ tu.toInt ∧ tu.toInt ≤ 1000000) (zlw : 0 ≤ lw.toInt ∧ lw.toInt ≤ 1) (zpa : 0 ≤ pa.toInt ∧ pa.toInt ≤ 50) (zd : d.toInt = DD) (zus : 0 ≤ us.toInt ∧ us.toInt ≤ 800) (zfc : Rg 800 0 1000 fc) : Met l yX6_sum wsX6_sum ({ frames := fr + 6, cells := 0, slots := 0, locals := lo + 133 }) (va_Pc [.ref a0, .int d] (PreY D K [(a0, .inr (6, [.ref t0, .ref s0, .int lw, .int pa, r_4])), (t0, .inr (8, [.ref t1, .int ln, .int tf, .int tt, .int ti, .int tu])), (t1, .inl (K 0, 400, .inl fb)), (s0, .inr (7, [.ref s1, .ref s2, s_2, .int us])), (s2, .inl (K 0, 800, .inl fc))] [] sz g L (va_A [(a0, .inr (6, [.ref t0, .ref s0, .int lw, .int pa, r_4])), (t0, .inr (8, [.ref t1, .int ln, .int tf, .int tt, .int ti, .int tu])), (t1, .inl (K 0, 400, .inl fb)), (s0, .inr (7, [.ref s1, .ref s2, s_2, .int us])), (s2, .inl (K 0, 800, .inl fc))] sz))) (va_Qi (S := Su) (fun (r : Int32) (u : Su) => (0 ≤ r.toInt ∧ r.toInt ≤ 1) ∧ (0 ≤ (u.2.2.2.1 0).toInt ∧ (u.2.2.2.1 0).toInt ≤ 50) ∧ (0 ≤ (u.2.2.2.1 1).toInt ∧ (u.2.2.2.1 1).toInt ≤ 400) ∧ (0 ≤ (u.2.2.2.1 2).toInt ∧ (u.2.2.2.1 2).toInt ≤ 400) ∧ ((-1) ≤ (u.2.2.2.1 4).toInt ∧ (u.2.2.2.1 4).toInt ≤ 1000000) ∧ (0 ≤ (u.2.2.2.1 5).toInt ∧ (u.2.2.2.1 5).toInt ≤ 800) ∧ (Rg 800 0 1000 (u.2.1 0)) ∧ True) (fun u t => Wd D (va_A [(a0, .inr (6, [.ref t0, .ref s0, .int lw, .int pa, r_4])), (t0, .inr (8, [.ref t1, .int ln, .int tf, .int tt, .int ti, .int tu])), (t1, .inl (K 0, 400, .inl fb)), (s0, .inr (7, [.ref s1, .ref s2, s_2, .int us])), (s2, .inl (K 0, 800, .inl fc))] sz) ((fun u => [(a0, .inr (6, [.ref t0, .ref s0, .int lw, .int (u.2.2.2.1 0), r_4])), (t0, .inr (8, [.ref t1, .int ln, .int (u.2.2.2.1 1), .int (u.2.2.2.1 2), .int (u.2.2.2.1 3), .int (u.2.2.2.1 4)])), (t1, .inl (K 0, 400, .inl fb)), (s0, .inr (7, [.ref s1, .ref s2, s_2, .int (u.2.2.2.1 5)])), (s2, .inl (K 0, 800, .inl (u.2.1 0)))]) u) t) (va_A [(a0, .inr (6, [.ref t0, .ref s0, .int lw, .int pa, r_4])), (t0, .inr (8, [.ref t1, .int ln, .int tf, .int tt, .int ti, .int tu])), (t1, .inl (K 0, 400, .inl fb)), (s0, .inr (7, [.ref s1, .ref s2, s_2, .int us])), (s2, .inl (K 0, 800, .inl fc))] sz)) 0 0 (va_A [(a0, .inr (6, [.ref t0, .ref s0, .int lw, .int pa, r_4])), (t0, .inr (8, [.ref t1, .int ln, .int tf, .int tt, .int ti, .int tu])), (t1, .inl (K 0, 400, .inl fb)), (s0, .inr (7, [.ref s1, .ref s2, s_2, .int us])), (s2, .inl (K 0, 800, .inl fc))] sz) := by
  refine Met.ofW (cc := cX6_sum) (maxL := 5) (ret := (some .boolean)) (by decide) rfl ?_
  intro p e s m args below meth c s₁ B hml hv
  obtain ⟨rfl, ⟨hsz, hP, hK, hD0, hN⟩, hG, hPl, hRo⟩ := hv
  have hx := B.exec
  have hb := B.bytes
  have hr := B.returns
  have hts := atoms_spec (ws := wsX6_sum) B.pre
  have hown : s.vm.findClass RX6 = some m.cls := findClass_of_methodNamed B.named
  have hlocks := B.notSynchronized
  subst hsz
  have hD := hD0.self (sz := s.heap.size)
  generalize hAe : va_A [(a0, .inr (6, [.ref t0, .ref s0, .int lw, .int pa, r_4])), (t0, .inr (8, [.ref t1, .int ln, .int tf, .int tt, .int ti, .int tu])), (t1, .inl (K 0, 400, .inl fb)), (s0, .inr (7, [.ref s1, .ref s2, s_2, .int us])), (s2, .inl (K 0, 800, .inl fc))] s.heap.size = A at hD hG hPl hRo ⊢
  have hA : ∀ q : Nat, s.heap.size ≤ q → A q := fun q h => by rw [← hAe]; exact Or.inr h
  have hS : va_S A s.heap s.heap [] := va_S.rf
  have hP : va_P D vwCl [(a0, .inr (6, [.ref t0, .ref s0, .int lw, .int pa, r_4])), (t0, .inr (8, [.ref t1, .int ln, .int tf, .int tt, .int ti, .int tu])), (t1, .inl (K 0, 400, .inl fb)), (s0, .inr (7, [.ref s1, .ref s2, s_2, .int us])), (s2, .inl (K 0, 800, .inl fc))] s.heap := hP
  have hl := lv_entry [.ref a0, .int d] (n := 5) (Nat.le_of_ble_eq_true rfl)
  rw [lg_entry_eq]
  generalize (lg_sl [.ref a0, .int d] ++ List.replicate (5 - (lg_sl [.ref a0, .int d]).length) Slot.unset).toArray = ls at hl ⊢
  have hl : lv_has ls 5 [(0, .ref a0), (1, .int d)] := hl
  have hw6 : ∀ w ∈ wsX60, w ∈ wsX6_sum := fun w h => (List.mem_cons_of_mem _ (List.mem_append_left _ (List.mem_append_left _ (List.mem_append_right _ h))))
  have hw7 : ∀ w ∈ wsX70, w ∈ wsX6_sum := fun w h => (List.mem_cons_of_mem _ (List.mem_append_right _ h))
  have hw8 : ∀ w ∈ wsX80, w ∈ wsX6_sum := fun w h => (List.mem_cons_of_mem _ (List.mem_append_left _ (List.mem_append_right _ h)))
  generalize hQ : MQ below _ _ s _ _ _ = Q
  refine lv_iconst (v := (-1)) hx hb dX6_sum_0 (by decide) ?_
  refine lv_istore_n (lv' := [(2, .int (-1)), (0, .ref a0), (1, .int d)]) hx hb dX6_sum_1 rfl hl (by decide) rfl (fun ls hl => ?_)
  refine lv_iconst (v := (-1)) hx hb dX6_sum_2 (by decide) ?_
  refine lv_istore_n (lv' := [(3, .int (-1)), (2, .int (-1)), (0, .ref a0), (1, .int d)]) hx hb dX6_sum_3 rfl hl (by decide) rfl (fun ls hl => ?_)
  refine lv_iconst (v := 0) hx hb dX6_sum_4 (by decide) ?_
  refine lv_istore (lv' := [(4, .int 0), (3, .int (-1)), (2, .int (-1)), (0, .ref a0), (1, .int d)]) hx hb dX6_sum_5 hl (by decide) rfl (fun ls hl => ?_)
  have lp_3496 : ∀ (nn_ : Nat) (v_3120 : Int32) (v_3121 : Int32) (v_3122 : Int32) (v_3123 : Int32) (v_3124 : Int32) (v_3125 : Int32) (v_3126 : Int32) (v_3127 : Int32) (v_3128 : Int32) (f_3129 : Nat → Int32) (hv_3120 : 0 ≤ v_3120.toInt ∧ v_3120.toInt ≤ 401) (hv_3121 : (-1) ≤ v_3121.toInt ∧ v_3121.toInt ≤ 66) (hv_3122 : (-1) ≤ v_3122.toInt ∧ v_3122.toInt ≤ 66) (hv_3123 : 0 ≤ v_3123.toInt ∧ v_3123.toInt ≤ 50) (hv_3124 : 0 ≤ v_3124.toInt ∧ v_3124.toInt ≤ 400) (hv_3125 : 0 ≤ v_3125.toInt ∧ v_3125.toInt ≤ 400) (hv_3127 : (-1) ≤ v_3127.toInt ∧ v_3127.toInt ≤ 1000000) (hv_3128 : 0 ≤ v_3128.toInt ∧ v_3128.toInt ≤ 800) (hf_3129_0 : Rg 800 0 1000 f_3129) (hn : (402 - v_3120.toInt : Int).toNat < nn_) (H : Heap) (locs : List Loc) (hP : va_P D vwCl [(a0, .inr (6, [.ref t0, .ref s0, .int lw, .int v_3123, r_4])), (t0, .inr (8, [.ref t1, .int ln, .int v_3124, .int v_3125, .int v_3126, .int v_3127])), (t1, .inl (K 0, 400, .inl fb)), (s0, .inr (7, [.ref s1, .ref s2, s_2, .int v_3128])), (s2, .inl (K 0, 800, .inl f_3129))] H) (hD : va_D A [(a0, .inr (6, [.ref t0, .ref s0, .int lw, .int v_3123, r_4])), (t0, .inr (8, [.ref t1, .int ln, .int v_3124, .int v_3125, .int v_3126, .int v_3127])), (t1, .inl (K 0, 400, .inl fb)), (s0, .inr (7, [.ref s1, .ref s2, s_2, .int v_3128])), (s2, .inl (K 0, 800, .inl f_3129))]) (hS : va_S A s.heap H locs) (ls : Array Slot) (hl : lv_has ls 5 [(4, .int v_3120), (3, .int v_3121), (2, .int v_3122), (0, .ref a0), (1, .int d)]), W p l e ({ frames := fr + 6, cells := 0, slots := 0, locals := lo + 133 }) s m (([.ref a0, .int d] : List Value).toArray) below meth c H locs 0 0 Q (F0 m 7 ls []) := by
    intro nn_
    induction nn_ with
    | zero =>
      intro v_3120 v_3121 v_3122 v_3123 v_3124 v_3125 v_3126 v_3127 v_3128 f_3129 hv_3120 hv_3121 hv_3122 hv_3123 hv_3124 hv_3125 hv_3127 hv_3128 hf_3129_0 hn H locs hP hD hS ls hl
      exact absurd hn (Nat.not_lt_zero _)
    | succ nn_ ih_3497 =>
      intro v_3120 v_3121 v_3122 v_3123 v_3124 v_3125 v_3126 v_3127 v_3128 f_3129 hv_3120 hv_3121 hv_3122 hv_3123 hv_3124 hv_3125 hv_3127 hv_3128 hf_3129_0 hn H locs hP hD hS ls hl
      refine lv_iload hx hb dX6_sum_7 (lv_at hl 0 rfl) ?_
      refine lv_sipush (v := 400) hx hb dX6_sum_9 (by decide) ?_
      refine lv_icmp_gt (tgt := 92) hx hb dX6_sum_12 (by decide) (fun c_3498 => ?_) (fun c_3498 => ?_)
      · have c_3498i := i_lt (x := 400) (y := v_3120.toInt) rfl rfl c_3498
        refine lv_iconst (v := 0) hx hb dX6_sum_92 (by decide) ?_
        rw [← hQ]
        have hP9 := hP.sub (ws' := [(a0, .inr (6, [.ref t0, .ref s0, .int lw, .int v_3123, r_4])), (t0, .inr (8, [.ref t1, .int ln, .int v_3124, .int v_3125, .int v_3126, .int v_3127])), (t1, .inl (K 0, 400, .inl fb)), (s0, .inr (7, [.ref s1, .ref s2, s_2, .int v_3128])), (s2, .inl (K 0, 800, .inl f_3129))]) [0, 1, 2, 3, 4] rfl
        have hD9 := hD.sub (ws' := [(a0, .inr (6, [.ref t0, .ref s0, .int lw, .int v_3123, r_4])), (t0, .inr (8, [.ref t1, .int ln, .int v_3124, .int v_3125, .int v_3126, .int v_3127])), (t1, .inl (K 0, 400, .inl fb)), (s0, .inr (7, [.ref s1, .ref s2, s_2, .int v_3128])), (s2, .inl (K 0, 800, .inl f_3129))]) [0, 1, 2, 3, 4] (by decide) rfl
        exact W.zret (v := 0) hx hb hr (by decide) (fun t ht hW => ⟨⟨0, ((fun _ => 0, fun i => match i with | _ => f_3129, fun _ => fun _ => 0, fun i => match i with | 0 => v_3123 | 1 => v_3124 | 2 => v_3125 | 3 => v_3126 | 4 => v_3127 | _ => v_3128, fun _ => 0, fun _ => fun _ => none) : Su), rfl, ⟨(show 0 ≤ (0 : Int32).toInt ∧ (0 : Int32).toInt ≤ 1 by decide), (show 0 ≤ (v_3123 : Int32).toInt ∧ (v_3123 : Int32).toInt ≤ 50 by omega), (show 0 ≤ (v_3124 : Int32).toInt ∧ (v_3124 : Int32).toInt ≤ 400 by omega), (show 0 ≤ (v_3125 : Int32).toInt ∧ (v_3125 : Int32).toInt ≤ 400 by omega), (show (-1) ≤ (v_3127 : Int32).toInt ∧ (v_3127 : Int32).toInt ≤ 1000000 by omega), (show 0 ≤ (v_3128 : Int32).toInt ∧ (v_3128 : Int32).toInt ≤ 800 by omega), hf_3129_0, trivial⟩, (⟨by rw [ht]; exact hP9, hD9⟩ : Wd D A _ t)⟩, hS.F ht⟩) hS.2.2 dX6_sum_93
      · have c_3498i := i_nlt (x := 400) (y := v_3120.toInt) rfl rfl c_3498
        refine lv_aload_n hx hb dX6_sum_15 rfl (lv_at hl 3 rfl) ?_
        refine lv_iload_n hx hb dX6_sum_16 rfl (lv_at hl 4 rfl) ?_
        refine kci (S := Su) (wr := []) (va_runV (As := [.int d]) (rest := []) ⟨hx, hb, hml, hown, hts⟩ (w_part fr lo DD zDD hsum l D K g L a0 d t0 s0 lw v_3123 r_4 t1 ln v_3124 v_3125 v_3126 v_3127 fb s1 s2 s_2 v_3128 f_3129 H.size (by first | omega | decide) (by first | omega | decide) (by first | omega | decide) (by first | omega | decide) (by first | omega | decide) (by first | omega | decide) (by first | omega | decide) (by first | omega | decide) hf_3129_0) (cwV 1 hts gX6_sum_X6_part rfl rfl rfl (by decide +kernel) ⟨by show (fr + 5) + 1 ≤ fr + 6; omega, by show 8 + (4 + 11) + (lo + 110) ≤ lo + 133; omega⟩) (mkVY hK hN (hP.sub [0, 1, 2, 3, 4] rfl) (hD.sub [0, 1, 2, 3, 4] (by decide) rfl) (ci := 6) (q0 := 0) rfl rfl (fun U hU hW => ⟨Gl.at hG hS hW hU (fun q h => va_free hD hS hA [0, 1, 2, 3, 4] rfl q h), Pool.at hPl hS hU (fun q h => va_free hD hS hA [0, 1, 2, 3, 4] rfl q h), Ro.heap hU (Ro.nil)⟩)) rfl rfl hl.1 rfl (lv_room (Nat.le_of_ble_eq_true rfl)) dX6_sum_17 ⟨Nat.le_of_ble_eq_true rfl, Nat.le_of_ble_eq_true rfl⟩) hP hD hS hA [0, 1, 2, 3, 4] [] rfl rfl (by decide) (by decide) (fun r_3499 u_3500 H locs hw hP hD hS => ?_)
        have hP : va_P D vwCl [(a0, .inr (6, [.ref t0, .ref s0, .int lw, .int (u_3500.2.2.2.1 0), r_4])), (t0, .inr (8, [.ref t1, .int ln, .int (u_3500.2.2.2.1 1), .int (u_3500.2.2.2.1 2), .int (u_3500.2.2.2.1 3), .int (u_3500.2.2.2.1 4)])), (t1, .inl (K 0, 400, .inl fb)), (s0, .inr (7, [.ref s1, .ref s2, s_2, .int (u_3500.2.2.2.1 5)])), (s2, .inl (K 0, 800, .inl (u_3500.2.1 0)))] H := hP
        have hD : va_D A [(a0, .inr (6, [.ref t0, .ref s0, .int lw, .int (u_3500.2.2.2.1 0), r_4])), (t0, .inr (8, [.ref t1, .int ln, .int (u_3500.2.2.2.1 1), .int (u_3500.2.2.2.1 2), .int (u_3500.2.2.2.1 3), .int (u_3500.2.2.2.1 4)])), (t1, .inl (K 0, 400, .inl fb)), (s0, .inr (7, [.ref s1, .ref s2, s_2, .int (u_3500.2.2.2.1 5)])), (s2, .inl (K 0, 800, .inl (u_3500.2.1 0)))] := hD
        obtain ⟨h_3507, k_3501, k_3502, k_3503, k_3504, k_3505, k_3506, -⟩ := hw
        refine lv_if_ne (tgt := 25) hx hb dX6_sum_20 (by decide) (fun c_3508 => ?_) (fun c_3508 => ?_)
        · have c_3508i := i_ne (x := r_3499.toInt) (y := 0) rfl rfl c_3508
          refine lv_iload_n hx hb dX6_sum_25 rfl (lv_at hl 2 rfl) ?_
          refine lv_iconst (v := (-1)) hx hb dX6_sum_26 (by decide) ?_
          have j_3593 : ∀ (v_3515 : Int32) (f_3516 : Nat → Int32) (hv_3515 : 0 ≤ v_3515.toInt ∧ v_3515.toInt ≤ 800) (hf_3516_0 : Rg 800 0 1000 f_3516) (H : Heap) (locs : List Loc) (hP : va_P D vwCl [(a0, .inr (6, [.ref t0, .ref s0, .int lw, .int (u_3500.2.2.2.1 0), r_4])), (t0, .inr (8, [.ref t1, .int ln, .int (u_3500.2.2.2.1 1), .int (u_3500.2.2.2.1 2), .int (u_3500.2.2.2.1 3), .int (u_3500.2.2.2.1 4)])), (t1, .inl (K 0, 400, .inl fb)), (s0, .inr (7, [.ref s1, .ref s2, s_2, .int v_3515])), (s2, .inl (K 0, 800, .inl f_3516))] H) (hD : va_D A [(a0, .inr (6, [.ref t0, .ref s0, .int lw, .int (u_3500.2.2.2.1 0), r_4])), (t0, .inr (8, [.ref t1, .int ln, .int (u_3500.2.2.2.1 1), .int (u_3500.2.2.2.1 2), .int (u_3500.2.2.2.1 3), .int (u_3500.2.2.2.1 4)])), (t1, .inl (K 0, 400, .inl fb)), (s0, .inr (7, [.ref s1, .ref s2, s_2, .int v_3515])), (s2, .inl (K 0, 800, .inl f_3516))]) (hS : va_S A s.heap H locs) (ls : Array Slot) (hl : lv_has ls 5 [(4, .int v_3120), (3, .int v_3121), (0, .ref a0), (1, .int d)]), W p l e ({ frames := fr + 6, cells := 0, slots := 0, locals := lo + 133 }) s m (([.ref a0, .int d] : List Value).toArray) below meth c H locs 0 0 Q (F0 m 40 ls []) := by
            intro v_3515 f_3516 hv_3515 hf_3516_0 H locs hP hD hS ls hl
            refine lv_aload_n hx hb dX6_sum_40 rfl (lv_at hl 2 rfl) ?_
            refine va_ldcS hx hb hown (hG.str 9 (by decide)).1 dX6_sum_41 ?_
            refine W.eq (g2 := F0 m 43 ls [.ref (g 26), .ref a0]) rfl ?_
            refine lv_iconst (v := 5) hx hb dX6_sum_43 (by decide) ?_
            refine kci (S := Su) (wr := [(s0, .inr (7, [.ref s1, .ref s2, s_2, .int v_3515])), (s2, .inl (K 0, 800, .inl f_3516))]) (va_runV (As := [.ref (g 26), .int 5]) (rest := []) ⟨hx, hb, hml, hown, hts⟩ (w_operator l D K g L 9 a0 5 t0 s0 lw (u_3500.2.2.2.1 0) r_4 t1 ln (u_3500.2.2.2.1 1) (u_3500.2.2.2.1 2) (u_3500.2.2.2.1 3) (u_3500.2.2.2.1 4) fb H.size (by decide) (by first | omega | decide) (by first | omega | decide) (by first | omega | decide) (by first | omega | decide) (by first | omega | decide) (by first | omega | decide) (by first | omega | decide)) (cwV 2 hts gX6_sum_X6_operator rfl rfl rfl (by decide +kernel) ⟨by show (4) + 1 ≤ fr + 6; omega, by show 8 + (4 + 11) + (85) ≤ lo + 133; omega⟩) (mkVY hK hN (hP.sub [0, 1, 2] rfl) (hD.sub [0, 1, 2] (by decide) rfl) (ci := 6) (q0 := 0) rfl rfl (fun U hU hW => ⟨Gl.at hG hS hW hU (fun q h => va_free hD hS hA [0, 1, 2] rfl q h), Pool.at hPl hS hU (fun q h => va_free hD hS hA [0, 1, 2] rfl q h), Ro.heap hU (Ro.nil)⟩)) rfl rfl hl.1 rfl (lv_room (Nat.le_of_ble_eq_true rfl)) dX6_sum_44 ⟨Nat.le_of_ble_eq_true rfl, Nat.le_of_ble_eq_true rfl⟩) hP hD hS hA [0, 1, 2] [3, 4] rfl rfl (by decide) (by decide) (fun r_3594 u_3595 H locs hw hP hD hS => ?_)
            have hP : va_P D vwCl [(s0, .inr (7, [.ref s1, .ref s2, s_2, .int v_3515])), (s2, .inl (K 0, 800, .inl f_3516)), (a0, .inr (6, [.ref t0, .ref s0, .int lw, .int (u_3500.2.2.2.1 0), r_4])), (t0, .inr (8, [.ref t1, .int ln, .int (u_3595.2.2.2.1 0), .int (u_3595.2.2.2.1 1), .int (u_3595.2.2.2.1 2), .int (u_3595.2.2.2.1 3)])), (t1, .inl (K 0, 400, .inl fb))] H := hP
            have hD : va_D A [(s0, .inr (7, [.ref s1, .ref s2, s_2, .int v_3515])), (s2, .inl (K 0, 800, .inl f_3516)), (a0, .inr (6, [.ref t0, .ref s0, .int lw, .int (u_3500.2.2.2.1 0), r_4])), (t0, .inr (8, [.ref t1, .int ln, .int (u_3595.2.2.2.1 0), .int (u_3595.2.2.2.1 1), .int (u_3595.2.2.2.1 2), .int (u_3595.2.2.2.1 3)])), (t1, .inl (K 0, 400, .inl fb))] := hD
            obtain ⟨h_3599, k_3596, k_3597, k_3598, -⟩ := hw
            refine lv_istore_n (lv' := [(2, .int r_3594), (4, .int v_3120), (3, .int v_3121), (0, .ref a0), (1, .int d)]) hx hb dX6_sum_47 rfl hl (by decide) rfl (fun ls hl => ?_)
            refine lv_iload_n hx hb dX6_sum_48 rfl (lv_at hl 0 rfl) ?_
            refine lv_iconst (v := (-1)) hx hb dX6_sum_49 (by decide) ?_
            have j_3638 : ∀ (v_3630 : Int32) (v_3631 : Int32) (v_3632 : Int32) (v_3633 : Int32) (v_3634 : Int32) (v_3635 : Int32) (f_3636 : Nat → Int32) (hv_3630 : (-1) ≤ v_3630.toInt ∧ v_3630.toInt ≤ 66) (hv_3631 : 0 ≤ v_3631.toInt ∧ v_3631.toInt ≤ 800) (hv_3632 : 0 ≤ v_3632.toInt ∧ v_3632.toInt ≤ 400) (hv_3633 : 0 ≤ v_3633.toInt ∧ v_3633.toInt ≤ 400) (hv_3635 : (-1) ≤ v_3635.toInt ∧ v_3635.toInt ≤ 1000000) (hf_3636_0 : Rg 800 0 1000 f_3636) (H : Heap) (locs : List Loc) (hP : va_P D vwCl [(s0, .inr (7, [.ref s1, .ref s2, s_2, .int v_3631])), (s2, .inl (K 0, 800, .inl f_3636)), (a0, .inr (6, [.ref t0, .ref s0, .int lw, .int (u_3500.2.2.2.1 0), r_4])), (t0, .inr (8, [.ref t1, .int ln, .int v_3632, .int v_3633, .int v_3634, .int v_3635])), (t1, .inl (K 0, 400, .inl fb))] H) (hD : va_D A [(s0, .inr (7, [.ref s1, .ref s2, s_2, .int v_3631])), (s2, .inl (K 0, 800, .inl f_3636)), (a0, .inr (6, [.ref t0, .ref s0, .int lw, .int (u_3500.2.2.2.1 0), r_4])), (t0, .inr (8, [.ref t1, .int ln, .int v_3632, .int v_3633, .int v_3634, .int v_3635])), (t1, .inl (K 0, 400, .inl fb))]) (hS : va_S A s.heap H locs) (ls : Array Slot) (hl : lv_has ls 5 [(3, .int v_3630), (2, .int r_3594), (4, .int v_3120), (0, .ref a0), (1, .int d)]), W p l e ({ frames := fr + 6, cells := 0, slots := 0, locals := lo + 133 }) s m (([.ref a0, .int d] : List Value).toArray) below meth c H locs 0 0 Q (F0 m 86 ls []) := by
              intro v_3630 v_3631 v_3632 v_3633 v_3634 v_3635 f_3636 hv_3630 hv_3631 hv_3632 hv_3633 hv_3635 hf_3636_0 H locs hP hD hS ls hl
              obtain ⟨x_3639, ex_3639⟩ : ∃ y : Int32, y = v_3120 + Int32.ofInt 1 := ⟨_, rfl⟩
              have hx_3639 : x_3639.toInt = (v_3120.toInt + 1) := by rw [ex_3639]; exact i_add rfl (show (Int32.ofInt 1).toInt = 1 from rfl) (by omega)
              refine lv_iinc (v := x_3639) (lv' := [(4, .int x_3639), (3, .int v_3630), (2, .int r_3594), (0, .ref a0), (1, .int d)]) hx hb dX6_sum_86 hl (k := 2) rfl (by rw [ex_3639]) (by decide) rfl (fun ls hl => ?_)
              refine lv_goto (tgt := 7) hx hb dX6_sum_89 (by decide) ?_
              exact ih_3497 x_3639 v_3630 r_3594 (u_3500.2.2.2.1 0) v_3632 v_3633 v_3634 v_3635 v_3631 f_3636 (by rw [hx_3639]; omega) (by omega) (by omega) (by omega) (by omega) (by omega) (by omega) (by omega) hf_3636_0 (by omega) _ _ (hP.sub [2, 3, 4, 0, 1] rfl) (hD.sub [2, 3, 4, 0, 1] (by decide) rfl) hS ls (lv_sub hl [0, 1, 2, 3, 4] rfl)
            refine lv_icmp_eq (tgt := 56) hx hb dX6_sum_50 (by decide) (fun c_3640 => ?_) (fun c_3640 => ?_)
            · have c_3640i := i_eq (x := r_3594.toInt) (y := (-1)) rfl rfl c_3640
              refine lv_iload_n hx hb dX6_sum_56 rfl (lv_at hl 2 rfl) ?_
              refine lv_iconst (v := (-1)) hx hb dX6_sum_57 (by decide) ?_
              have j_3656 : ∀ (v_3647 : Int32) (f_3648 : Nat → Int32) (hv_3647 : 0 ≤ v_3647.toInt ∧ v_3647.toInt ≤ 800) (hf_3648_0 : Rg 800 0 1000 f_3648) (H : Heap) (locs : List Loc) (hP : va_P D vwCl [(s0, .inr (7, [.ref s1, .ref s2, s_2, .int v_3647])), (s2, .inl (K 0, 800, .inl f_3648)), (a0, .inr (6, [.ref t0, .ref s0, .int lw, .int (u_3500.2.2.2.1 0), r_4])), (t0, .inr (8, [.ref t1, .int ln, .int (u_3595.2.2.2.1 0), .int (u_3595.2.2.2.1 1), .int (u_3595.2.2.2.1 2), .int (u_3595.2.2.2.1 3)])), (t1, .inl (K 0, 400, .inl fb))] H) (hD : va_D A [(s0, .inr (7, [.ref s1, .ref s2, s_2, .int v_3647])), (s2, .inl (K 0, 800, .inl f_3648)), (a0, .inr (6, [.ref t0, .ref s0, .int lw, .int (u_3500.2.2.2.1 0), r_4])), (t0, .inr (8, [.ref t1, .int ln, .int (u_3595.2.2.2.1 0), .int (u_3595.2.2.2.1 1), .int (u_3595.2.2.2.1 2), .int (u_3595.2.2.2.1 3)])), (t1, .inl (K 0, 400, .inl fb))]) (hS : va_S A s.heap H locs) (ls : Array Slot) (hl : lv_has ls 5 [(2, .int r_3594), (4, .int v_3120), (0, .ref a0), (1, .int d)]), W p l e ({ frames := fr + 6, cells := 0, slots := 0, locals := lo + 133 }) s m (([.ref a0, .int d] : List Value).toArray) below meth c H locs 0 0 Q (F0 m 71 ls []) := by
                intro v_3647 f_3648 hv_3647 hf_3648_0 H locs hP hD hS ls hl
                refine lv_aload_n hx hb dX6_sum_71 rfl (lv_at hl 2 rfl) ?_
                refine va_ldcS hx hb hown (hG.str 10 (by decide)).1 dX6_sum_72 ?_
                refine W.eq (g2 := F0 m 74 ls [.ref (g 28), .ref a0]) rfl ?_
                refine lv_iconst (v := 3) hx hb dX6_sum_74 (by decide) ?_
                refine kci (S := Su) (wr := [(s0, .inr (7, [.ref s1, .ref s2, s_2, .int v_3647])), (s2, .inl (K 0, 800, .inl f_3648))]) (va_runV (As := [.ref (g 28), .int 3]) (rest := []) ⟨hx, hb, hml, hown, hts⟩ (w_operator l D K g L 10 a0 3 t0 s0 lw (u_3500.2.2.2.1 0) r_4 t1 ln (u_3595.2.2.2.1 0) (u_3595.2.2.2.1 1) (u_3595.2.2.2.1 2) (u_3595.2.2.2.1 3) fb H.size (by decide) (by first | omega | decide) (by first | omega | decide) (by first | omega | decide) (by first | omega | decide) (by first | omega | decide) (by first | omega | decide) (by first | omega | decide)) (cwV 2 hts gX6_sum_X6_operator rfl rfl rfl (by decide +kernel) ⟨by show (4) + 1 ≤ fr + 6; omega, by show 8 + (4 + 11) + (85) ≤ lo + 133; omega⟩) (mkVY hK hN (hP.sub [2, 3, 4] rfl) (hD.sub [2, 3, 4] (by decide) rfl) (ci := 6) (q0 := 0) rfl rfl (fun U hU hW => ⟨Gl.at hG hS hW hU (fun q h => va_free hD hS hA [2, 3, 4] rfl q h), Pool.at hPl hS hU (fun q h => va_free hD hS hA [2, 3, 4] rfl q h), Ro.heap hU (Ro.nil)⟩)) rfl rfl hl.1 rfl (lv_room (Nat.le_of_ble_eq_true rfl)) dX6_sum_75 ⟨Nat.le_of_ble_eq_true rfl, Nat.le_of_ble_eq_true rfl⟩) hP hD hS hA [2, 3, 4] [0, 1] rfl rfl (by decide) (by decide) (fun r_3657 u_3658 H locs hw hP hD hS => ?_)
                have hP : va_P D vwCl [(s0, .inr (7, [.ref s1, .ref s2, s_2, .int v_3647])), (s2, .inl (K 0, 800, .inl f_3648)), (a0, .inr (6, [.ref t0, .ref s0, .int lw, .int (u_3500.2.2.2.1 0), r_4])), (t0, .inr (8, [.ref t1, .int ln, .int (u_3658.2.2.2.1 0), .int (u_3658.2.2.2.1 1), .int (u_3658.2.2.2.1 2), .int (u_3658.2.2.2.1 3)])), (t1, .inl (K 0, 400, .inl fb))] H := hP
                have hD : va_D A [(s0, .inr (7, [.ref s1, .ref s2, s_2, .int v_3647])), (s2, .inl (K 0, 800, .inl f_3648)), (a0, .inr (6, [.ref t0, .ref s0, .int lw, .int (u_3500.2.2.2.1 0), r_4])), (t0, .inr (8, [.ref t1, .int ln, .int (u_3658.2.2.2.1 0), .int (u_3658.2.2.2.1 1), .int (u_3658.2.2.2.1 2), .int (u_3658.2.2.2.1 3)])), (t1, .inl (K 0, 400, .inl fb))] := hD
                obtain ⟨h_3662, k_3659, k_3660, k_3661, -⟩ := hw
                refine lv_istore_n (lv' := [(3, .int r_3657), (2, .int r_3594), (4, .int v_3120), (0, .ref a0), (1, .int d)]) hx hb dX6_sum_78 rfl hl (by decide) rfl (fun ls hl => ?_)
                refine lv_iload_n hx hb dX6_sum_79 rfl (lv_at hl 0 rfl) ?_
                refine lv_iconst (v := (-1)) hx hb dX6_sum_80 (by decide) ?_
                refine lv_icmp_ne (tgt := 86) hx hb dX6_sum_81 (by decide) (fun c_3663 => ?_) (fun c_3663 => ?_)
                · have c_3663i := i_ne (x := r_3657.toInt) (y := (-1)) rfl rfl c_3663
                  exact j_3638 r_3657 v_3647 (u_3658.2.2.2.1 0) (u_3658.2.2.2.1 1) (u_3658.2.2.2.1 2) (u_3658.2.2.2.1 3) f_3648 (by omega) (by omega) (by omega) (by omega) (by omega) hf_3648_0 _ _ hP hD hS ls (lv_sub hl [0, 1, 2, 3, 4] rfl)
                · have c_3663i := i_eq (x := r_3657.toInt) (y := (-1)) rfl rfl c_3663
                  refine lv_iconst (v := 1) hx hb dX6_sum_84 (by decide) ?_
                  rw [← hQ]
                  have hP9 := hP.sub (ws' := [(a0, .inr (6, [.ref t0, .ref s0, .int lw, .int (u_3500.2.2.2.1 0), r_4])), (t0, .inr (8, [.ref t1, .int ln, .int (u_3658.2.2.2.1 0), .int (u_3658.2.2.2.1 1), .int (u_3658.2.2.2.1 2), .int (u_3658.2.2.2.1 3)])), (t1, .inl (K 0, 400, .inl fb)), (s0, .inr (7, [.ref s1, .ref s2, s_2, .int v_3647])), (s2, .inl (K 0, 800, .inl f_3648))]) [2, 3, 4, 0, 1] rfl
                  have hD9 := hD.sub (ws' := [(a0, .inr (6, [.ref t0, .ref s0, .int lw, .int (u_3500.2.2.2.1 0), r_4])), (t0, .inr (8, [.ref t1, .int ln, .int (u_3658.2.2.2.1 0), .int (u_3658.2.2.2.1 1), .int (u_3658.2.2.2.1 2), .int (u_3658.2.2.2.1 3)])), (t1, .inl (K 0, 400, .inl fb)), (s0, .inr (7, [.ref s1, .ref s2, s_2, .int v_3647])), (s2, .inl (K 0, 800, .inl f_3648))]) [2, 3, 4, 0, 1] (by decide) rfl
                  exact W.zret (v := 1) hx hb hr (by decide) (fun t ht hW => ⟨⟨1, ((fun _ => 0, fun i => match i with | _ => f_3648, fun _ => fun _ => 0, fun i => match i with | 0 => (u_3500.2.2.2.1 0) | 1 => (u_3658.2.2.2.1 0) | 2 => (u_3658.2.2.2.1 1) | 3 => (u_3658.2.2.2.1 2) | 4 => (u_3658.2.2.2.1 3) | _ => v_3647, fun _ => 0, fun _ => fun _ => none) : Su), rfl, ⟨(show 0 ≤ (1 : Int32).toInt ∧ (1 : Int32).toInt ≤ 1 by decide), (show 0 ≤ ((u_3500.2.2.2.1 0) : Int32).toInt ∧ ((u_3500.2.2.2.1 0) : Int32).toInt ≤ 50 by omega), (show 0 ≤ ((u_3658.2.2.2.1 0) : Int32).toInt ∧ ((u_3658.2.2.2.1 0) : Int32).toInt ≤ 400 by omega), (show 0 ≤ ((u_3658.2.2.2.1 1) : Int32).toInt ∧ ((u_3658.2.2.2.1 1) : Int32).toInt ≤ 400 by omega), (show (-1) ≤ ((u_3658.2.2.2.1 3) : Int32).toInt ∧ ((u_3658.2.2.2.1 3) : Int32).toInt ≤ 1000000 by omega), (show 0 ≤ (v_3647 : Int32).toInt ∧ (v_3647 : Int32).toInt ≤ 800 by omega), hf_3648_0, trivial⟩, (⟨by rw [ht]; exact hP9, hD9⟩ : Wd D A _ t)⟩, hS.F ht⟩) hS.2.2 dX6_sum_85
              refine lv_icmp_eq (tgt := 71) hx hb dX6_sum_58 (by decide) (fun c_3664 => ?_) (fun c_3664 => ?_)
              · have c_3664i := i_eq (x := v_3121.toInt) (y := (-1)) rfl rfl c_3664
                exact j_3656 v_3515 f_3516 (by omega) hf_3516_0 _ _ hP hD hS ls (lv_sub hl [0, 1, 3, 4] rfl)
              · have c_3664i := i_ne (x := v_3121.toInt) (y := (-1)) rfl rfl c_3664
                refine lv_aload_n hx hb dX6_sum_61 rfl (lv_at hl 3 rfl) ?_
                refine va_get (ci := 6) (v := .ref s0) (C := RX6) (T := TX6) (N := 5) hx hb hts hw6 hown hK hP 2 rfl rfl 1 (by decide) (hts (.fieldLink RX6 23 "SmokeTune$Reader" "text" "LSmokeTune$Script;") (List.mem_cons_of_mem _ (List.mem_append_left _ (List.mem_append_left _ (List.mem_append_left _ (List.mem_append_left _ (List.mem_of_getElem? (i := 0) rfl))))))) (fun _ h9 => h9) rfl dX6_sum_62 ?_
                refine lv_iload_n hx hb dX6_sum_65 rfl (lv_at hl 2 rfl) ?_
                refine lv_iconst (v := 0) hx hb dX6_sum_66 (by decide) ?_
                refine kci (S := Su) (wr := [(a0, .inr (6, [.ref t0, .ref s0, .int lw, .int (u_3500.2.2.2.1 0), r_4])), (t0, .inr (8, [.ref t1, .int ln, .int (u_3595.2.2.2.1 0), .int (u_3595.2.2.2.1 1), .int (u_3595.2.2.2.1 2), .int (u_3595.2.2.2.1 3)])), (t1, .inl (K 0, 400, .inl fb))]) (va_runVN (As := [.int v_3121, .int 0]) (rest := []) ⟨hx, hb, hml, hown, hts⟩ (w_emit l D K s0 v_3121 0 s1 s2 s_2 v_3515 f_3516 H.size (by first | omega | decide) (by first | omega | decide) (by first | omega | decide) hf_3516_0) ⟨va_cnB 2 hts gX6_sum_X7_emit_n95 rfl rfl rfl (nst_at hN 36 rfl) (hts (.initialized RX7) (List.mem_cons_of_mem _ (List.mem_append_left _ (List.mem_append_left _ (List.mem_append_left _ (List.mem_append_left _ (List.mem_of_getElem? (i := 6) rfl))))))) (by decide +kernel) ⟨by show (0) + 1 ≤ fr + 6; omega, by show 8 + (3 + 11) + (0) ≤ lo + 133; omega⟩, (hts (.instanceMethod yX7_emit) (List.mem_cons_of_mem _ (List.mem_append_left _ (List.mem_append_left _ (List.mem_append_left _ (List.mem_append_left _ (List.mem_of_getElem? (i := 5) rfl))))))), (hts (.selects RX7 yX7_emit yX7_emit) (List.mem_cons_of_mem _ (List.mem_append_left _ (List.mem_append_left _ (List.mem_append_left _ (List.mem_append_left _ (List.mem_of_getElem? (i := 7) rfl)))))))⟩ (mkV hK hN (hP.sub [0, 1] rfl) (hD.sub [0, 1] (by decide) rfl) (ci := 7) (q0 := 0) rfl rfl) rfl rfl hl.1 rfl (lv_room (Nat.le_of_ble_eq_true rfl)) dX6_sum_67 ⟨Nat.le_of_ble_eq_true rfl, Nat.le_of_ble_eq_true rfl⟩) hP hD hS hA [0, 1] [2, 3, 4] rfl rfl (by decide) (by decide) (fun r_3665 u_3666 H locs hw hP hD hS => ?_)
                have hP : va_P D vwCl [(a0, .inr (6, [.ref t0, .ref s0, .int lw, .int (u_3500.2.2.2.1 0), r_4])), (t0, .inr (8, [.ref t1, .int ln, .int (u_3595.2.2.2.1 0), .int (u_3595.2.2.2.1 1), .int (u_3595.2.2.2.1 2), .int (u_3595.2.2.2.1 3)])), (t1, .inl (K 0, 400, .inl fb)), (s0, .inr (7, [.ref s1, .ref s2, s_2, .int (u_3666.2.2.2.1 0)])), (s2, .inl (K 0, 800, .inl (u_3666.2.1 0)))] H := hP
                have hD : va_D A [(a0, .inr (6, [.ref t0, .ref s0, .int lw, .int (u_3500.2.2.2.1 0), r_4])), (t0, .inr (8, [.ref t1, .int ln, .int (u_3595.2.2.2.1 0), .int (u_3595.2.2.2.1 1), .int (u_3595.2.2.2.1 2), .int (u_3595.2.2.2.1 3)])), (t1, .inl (K 0, 400, .inl fb)), (s0, .inr (7, [.ref s1, .ref s2, s_2, .int (u_3666.2.2.2.1 0)])), (s2, .inl (K 0, 800, .inl (u_3666.2.1 0)))] := hD
                obtain ⟨h_3669, k_3667, k_3668, -⟩ := hw
                refine lv_pop hx hb dX6_sum_70 rfl ?_
                exact j_3656 (u_3666.2.2.2.1 0) (u_3666.2.1 0) (by omega) k_3668 _ _ (hP.sub [3, 4, 0, 1, 2] rfl) (hD.sub [3, 4, 0, 1, 2] (by decide) rfl) hS ls (lv_sub hl [0, 1, 3, 4] rfl)
            · have c_3640i := i_ne (x := r_3594.toInt) (y := (-1)) rfl rfl c_3640
              refine lv_goto (tgt := 86) hx hb dX6_sum_53 (by decide) ?_
              exact j_3638 v_3121 v_3515 (u_3595.2.2.2.1 0) (u_3595.2.2.2.1 1) (u_3595.2.2.2.1 2) (u_3595.2.2.2.1 3) f_3516 (by omega) (by omega) (by omega) (by omega) (by omega) hf_3516_0 _ _ hP hD hS ls (lv_sub hl [2, 0, 1, 3, 4] rfl)
          refine lv_icmp_eq (tgt := 40) hx hb dX6_sum_27 (by decide) (fun c_3670 => ?_) (fun c_3670 => ?_)
          · have c_3670i := i_eq (x := v_3122.toInt) (y := (-1)) rfl rfl c_3670
            exact j_3593 (u_3500.2.2.2.1 5) (u_3500.2.1 0) (by omega) k_3506 _ _ hP hD hS ls (lv_sub hl [0, 1, 3, 4] rfl)
          · have c_3670i := i_ne (x := v_3122.toInt) (y := (-1)) rfl rfl c_3670
            refine lv_aload_n hx hb dX6_sum_30 rfl (lv_at hl 3 rfl) ?_
            refine va_get (ci := 6) (v := .ref s0) (C := RX6) (T := TX6) (N := 5) hx hb hts hw6 hown hK hP 0 rfl rfl 1 (by decide) (hts (.fieldLink RX6 23 "SmokeTune$Reader" "text" "LSmokeTune$Script;") (List.mem_cons_of_mem _ (List.mem_append_left _ (List.mem_append_left _ (List.mem_append_left _ (List.mem_append_left _ (List.mem_of_getElem? (i := 0) rfl))))))) (fun _ h9 => h9) rfl dX6_sum_31 ?_
            refine lv_iload_n hx hb dX6_sum_34 rfl (lv_at hl 2 rfl) ?_
            refine lv_iconst (v := 0) hx hb dX6_sum_35 (by decide) ?_
            refine kci (S := Su) (wr := [(a0, .inr (6, [.ref t0, .ref s0, .int lw, .int (u_3500.2.2.2.1 0), r_4])), (t0, .inr (8, [.ref t1, .int ln, .int (u_3500.2.2.2.1 1), .int (u_3500.2.2.2.1 2), .int (u_3500.2.2.2.1 3), .int (u_3500.2.2.2.1 4)])), (t1, .inl (K 0, 400, .inl fb))]) (va_runVN (As := [.int v_3122, .int 0]) (rest := []) ⟨hx, hb, hml, hown, hts⟩ (w_emit l D K s0 v_3122 0 s1 s2 s_2 (u_3500.2.2.2.1 5) (u_3500.2.1 0) H.size (by first | omega | decide) (by first | omega | decide) (by first | omega | decide) k_3506) ⟨va_cnB 2 hts gX6_sum_X7_emit_n95 rfl rfl rfl (nst_at hN 36 rfl) (hts (.initialized RX7) (List.mem_cons_of_mem _ (List.mem_append_left _ (List.mem_append_left _ (List.mem_append_left _ (List.mem_append_left _ (List.mem_of_getElem? (i := 6) rfl))))))) (by decide +kernel) ⟨by show (0) + 1 ≤ fr + 6; omega, by show 8 + (3 + 11) + (0) ≤ lo + 133; omega⟩, (hts (.instanceMethod yX7_emit) (List.mem_cons_of_mem _ (List.mem_append_left _ (List.mem_append_left _ (List.mem_append_left _ (List.mem_append_left _ (List.mem_of_getElem? (i := 5) rfl))))))), (hts (.selects RX7 yX7_emit yX7_emit) (List.mem_cons_of_mem _ (List.mem_append_left _ (List.mem_append_left _ (List.mem_append_left _ (List.mem_append_left _ (List.mem_of_getElem? (i := 7) rfl)))))))⟩ (mkV hK hN (hP.sub [3, 4] rfl) (hD.sub [3, 4] (by decide) rfl) (ci := 7) (q0 := 0) rfl rfl) rfl rfl hl.1 rfl (lv_room (Nat.le_of_ble_eq_true rfl)) dX6_sum_36 ⟨Nat.le_of_ble_eq_true rfl, Nat.le_of_ble_eq_true rfl⟩) hP hD hS hA [3, 4] [0, 1, 2] rfl rfl (by decide) (by decide) (fun r_3671 u_3672 H locs hw hP hD hS => ?_)
            have hP : va_P D vwCl [(a0, .inr (6, [.ref t0, .ref s0, .int lw, .int (u_3500.2.2.2.1 0), r_4])), (t0, .inr (8, [.ref t1, .int ln, .int (u_3500.2.2.2.1 1), .int (u_3500.2.2.2.1 2), .int (u_3500.2.2.2.1 3), .int (u_3500.2.2.2.1 4)])), (t1, .inl (K 0, 400, .inl fb)), (s0, .inr (7, [.ref s1, .ref s2, s_2, .int (u_3672.2.2.2.1 0)])), (s2, .inl (K 0, 800, .inl (u_3672.2.1 0)))] H := hP
            have hD : va_D A [(a0, .inr (6, [.ref t0, .ref s0, .int lw, .int (u_3500.2.2.2.1 0), r_4])), (t0, .inr (8, [.ref t1, .int ln, .int (u_3500.2.2.2.1 1), .int (u_3500.2.2.2.1 2), .int (u_3500.2.2.2.1 3), .int (u_3500.2.2.2.1 4)])), (t1, .inl (K 0, 400, .inl fb)), (s0, .inr (7, [.ref s1, .ref s2, s_2, .int (u_3672.2.2.2.1 0)])), (s2, .inl (K 0, 800, .inl (u_3672.2.1 0)))] := hD
            obtain ⟨h_3675, k_3673, k_3674, -⟩ := hw
            refine lv_pop hx hb dX6_sum_39 rfl ?_
            exact j_3593 (u_3672.2.2.2.1 0) (u_3672.2.1 0) (by omega) k_3674 _ _ hP hD hS ls (lv_sub hl [0, 1, 3, 4] rfl)
        · have c_3508i := i_eq (x := r_3499.toInt) (y := 0) rfl rfl c_3508
          refine lv_iconst (v := 0) hx hb dX6_sum_23 (by decide) ?_
          rw [← hQ]
          have hP9 := hP.sub (ws' := [(a0, .inr (6, [.ref t0, .ref s0, .int lw, .int (u_3500.2.2.2.1 0), r_4])), (t0, .inr (8, [.ref t1, .int ln, .int (u_3500.2.2.2.1 1), .int (u_3500.2.2.2.1 2), .int (u_3500.2.2.2.1 3), .int (u_3500.2.2.2.1 4)])), (t1, .inl (K 0, 400, .inl fb)), (s0, .inr (7, [.ref s1, .ref s2, s_2, .int (u_3500.2.2.2.1 5)])), (s2, .inl (K 0, 800, .inl (u_3500.2.1 0)))]) [0, 1, 2, 3, 4] rfl
          have hD9 := hD.sub (ws' := [(a0, .inr (6, [.ref t0, .ref s0, .int lw, .int (u_3500.2.2.2.1 0), r_4])), (t0, .inr (8, [.ref t1, .int ln, .int (u_3500.2.2.2.1 1), .int (u_3500.2.2.2.1 2), .int (u_3500.2.2.2.1 3), .int (u_3500.2.2.2.1 4)])), (t1, .inl (K 0, 400, .inl fb)), (s0, .inr (7, [.ref s1, .ref s2, s_2, .int (u_3500.2.2.2.1 5)])), (s2, .inl (K 0, 800, .inl (u_3500.2.1 0)))]) [0, 1, 2, 3, 4] (by decide) rfl
          exact W.zret (v := 0) hx hb hr (by decide) (fun t ht hW => ⟨⟨0, ((fun _ => 0, fun i => match i with | _ => (u_3500.2.1 0), fun _ => fun _ => 0, fun i => match i with | 0 => (u_3500.2.2.2.1 0) | 1 => (u_3500.2.2.2.1 1) | 2 => (u_3500.2.2.2.1 2) | 3 => (u_3500.2.2.2.1 3) | 4 => (u_3500.2.2.2.1 4) | _ => (u_3500.2.2.2.1 5), fun _ => 0, fun _ => fun _ => none) : Su), rfl, ⟨(show 0 ≤ (0 : Int32).toInt ∧ (0 : Int32).toInt ≤ 1 by decide), (show 0 ≤ ((u_3500.2.2.2.1 0) : Int32).toInt ∧ ((u_3500.2.2.2.1 0) : Int32).toInt ≤ 50 by omega), (show 0 ≤ ((u_3500.2.2.2.1 1) : Int32).toInt ∧ ((u_3500.2.2.2.1 1) : Int32).toInt ≤ 400 by omega), (show 0 ≤ ((u_3500.2.2.2.1 2) : Int32).toInt ∧ ((u_3500.2.2.2.1 2) : Int32).toInt ≤ 400 by omega), (show (-1) ≤ ((u_3500.2.2.2.1 4) : Int32).toInt ∧ ((u_3500.2.2.2.1 4) : Int32).toInt ≤ 1000000 by omega), (show 0 ≤ ((u_3500.2.2.2.1 5) : Int32).toInt ∧ ((u_3500.2.2.2.1 5) : Int32).toInt ≤ 800 by omega), k_3506, trivial⟩, (⟨by rw [ht]; exact hP9, hD9⟩ : Wd D A _ t)⟩, hS.F ht⟩) hS.2.2 dX6_sum_24
  exact lp_3496 ((402 - (0 : Int32).toInt : Int).toNat + 1) 0 (-1) (-1) pa tf tt ti tu us fc (by decide) (by decide) (by decide) (by omega) (by omega) (by omega) (by omega) (by omega) zfc (Nat.lt_succ_self _) _ _ hP hD hS ls (lv_sub hl [0, 1, 2, 3, 4] rfl)
