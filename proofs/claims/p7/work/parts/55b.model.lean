theorem dX12_ask_0 : decode cX12_ask 0 = .ok (.aload_n 0, 1) := by decide +kernel
theorem dX12_ask_1 : decode cX12_ask 1 = .ok (.iconst 0, 1) := by decide +kernel
theorem dX12_ask_2 : decode cX12_ask 2 = .ok (.putfield 158, 3) := by decide +kernel
theorem dX12_ask_5 : decode cX12_ask 5 = .ok (.iload_n 1, 1) := by decide +kernel
theorem dX12_ask_6 : decode cX12_ask 6 = .ok (.i2l, 1) := by decide +kernel
theorem dX12_ask_7 : decode cX12_ask 7 = .ok (.lconst 0, 1) := by decide +kernel
theorem dX12_ask_8 : decode cX12_ask 8 = .ok (.lconst 1, 1) := by decide +kernel
theorem dX12_ask_9 : decode cX12_ask 9 = .ok (.invokestatic 178, 3) := by decide +kernel
theorem dX12_ask_12 : decode cX12_ask 12 = .ok (.ifCond .ne 5, 3) := by decide +kernel
theorem dX12_ask_17 : decode cX12_ask 17 = .ok (.iconst 0, 1) := by decide +kernel
theorem dX12_ask_18 : decode cX12_ask 18 = .ok (.istore_n 2, 1) := by decide +kernel
theorem dX12_ask_19 : decode cX12_ask 19 = .ok (.iconst 0, 1) := by decide +kernel
theorem dX12_ask_20 : decode cX12_ask 20 = .ok (.istore_n 3, 1) := by decide +kernel
theorem dX12_ask_21 : decode cX12_ask 21 = .ok (.iload_n 3, 1) := by decide +kernel
theorem dX12_ask_22 : decode cX12_ask 22 = .ok (.bipush 8, 2) := by decide +kernel
theorem dX12_ask_24 : decode cX12_ask 24 = .ok (.if_icmp .ge 16, 3) := by decide +kernel
theorem dX12_ask_27 : decode cX12_ask 27 = .ok (.aload_n 0, 1) := by decide +kernel
theorem dX12_ask_28 : decode cX12_ask 28 = .ok (.getfield 132, 3) := by decide +kernel
theorem dX12_ask_31 : decode cX12_ask 31 = .ok (.iload_n 3, 1) := by decide +kernel
theorem dX12_ask_32 : decode cX12_ask 32 = .ok (.iconst 0, 1) := by decide +kernel
theorem dX12_ask_33 : decode cX12_ask 33 = .ok (.iastore, 1) := by decide +kernel
theorem dX12_ask_34 : decode cX12_ask 34 = .ok (.iinc 3 1, 3) := by decide +kernel
theorem dX12_ask_37 : decode cX12_ask 37 = .ok (.goto (-16), 3) := by decide +kernel
theorem dX12_ask_40 : decode cX12_ask 40 = .ok (.iconst 0, 1) := by decide +kernel
theorem dX12_ask_41 : decode cX12_ask 41 = .ok (.istore_n 3, 1) := by decide +kernel
theorem dX12_ask_42 : decode cX12_ask 42 = .ok (.iload_n 3, 1) := by decide +kernel
theorem dX12_ask_43 : decode cX12_ask 43 = .ok (.iconst 1, 1) := by decide +kernel
theorem dX12_ask_44 : decode cX12_ask 44 = .ok (.aload_n 0, 1) := by decide +kernel
theorem dX12_ask_45 : decode cX12_ask 45 = .ok (.getfield 13, 3) := by decide +kernel
theorem dX12_ask_48 : decode cX12_ask 48 = .ok (.iconst 0, 1) := by decide +kernel
theorem dX12_ask_49 : decode cX12_ask 49 = .ok (.iaload, 1) := by decide +kernel
theorem dX12_ask_50 : decode cX12_ask 50 = .ok (.ishl, 1) := by decide +kernel
theorem dX12_ask_51 : decode cX12_ask 51 = .ok (.if_icmp .ge 52, 3) := by decide +kernel
theorem dX12_ask_54 : decode cX12_ask 54 = .ok (.aload_n 0, 1) := by decide +kernel
theorem dX12_ask_55 : decode cX12_ask 55 = .ok (.iload_n 3, 1) := by decide +kernel
theorem dX12_ask_56 : decode cX12_ask 56 = .ok (.invokevirtual 515, 3) := by decide +kernel
theorem dX12_ask_59 : decode cX12_ask 59 = .ok (.ifCond .eq 38, 3) := by decide +kernel
theorem dX12_ask_62 : decode cX12_ask 62 = .ok (.iinc 2 1, 3) := by decide +kernel
theorem dX12_ask_65 : decode cX12_ask 65 = .ok (.iconst 0, 1) := by decide +kernel
theorem dX12_ask_66 : decode cX12_ask 66 = .ok (.istore 4, 2) := by decide +kernel
theorem dX12_ask_68 : decode cX12_ask 68 = .ok (.iload 4, 2) := by decide +kernel
theorem dX12_ask_70 : decode cX12_ask 70 = .ok (.bipush 8, 2) := by decide +kernel
theorem dX12_ask_72 : decode cX12_ask 72 = .ok (.if_icmp .ge 25, 3) := by decide +kernel
theorem dX12_ask_75 : decode cX12_ask 75 = .ok (.aload_n 0, 1) := by decide +kernel
theorem dX12_ask_76 : decode cX12_ask 76 = .ok (.getfield 132, 3) := by decide +kernel
theorem dX12_ask_79 : decode cX12_ask 79 = .ok (.iload 4, 2) := by decide +kernel
theorem dX12_ask_81 : decode cX12_ask 81 = .ok (.dup2, 1) := by decide +kernel
theorem dX12_ask_82 : decode cX12_ask 82 = .ok (.iaload, 1) := by decide +kernel
theorem dX12_ask_83 : decode cX12_ask 83 = .ok (.iload_n 3, 1) := by decide +kernel
theorem dX12_ask_84 : decode cX12_ask 84 = .ok (.iload 4, 2) := by decide +kernel
theorem dX12_ask_86 : decode cX12_ask 86 = .ok (.ishr, 1) := by decide +kernel
theorem dX12_ask_87 : decode cX12_ask 87 = .ok (.iconst 1, 1) := by decide +kernel
theorem dX12_ask_88 : decode cX12_ask 88 = .ok (.iand, 1) := by decide +kernel
theorem dX12_ask_89 : decode cX12_ask 89 = .ok (.iadd, 1) := by decide +kernel
theorem dX12_ask_90 : decode cX12_ask 90 = .ok (.iastore, 1) := by decide +kernel
theorem dX12_ask_91 : decode cX12_ask 91 = .ok (.iinc 4 1, 3) := by decide +kernel
theorem dX12_ask_94 : decode cX12_ask 94 = .ok (.goto (-26), 3) := by decide +kernel
theorem dX12_ask_97 : decode cX12_ask 97 = .ok (.iinc 3 1, 3) := by decide +kernel
theorem dX12_ask_100 : decode cX12_ask 100 = .ok (.goto (-58), 3) := by decide +kernel
theorem dX12_ask_103 : decode cX12_ask 103 = .ok (.iconst (-1), 1) := by decide +kernel
theorem dX12_ask_104 : decode cX12_ask 104 = .ok (.istore_n 3, 1) := by decide +kernel
theorem dX12_ask_105 : decode cX12_ask 105 = .ok (.ldc_w 476, 3) := by decide +kernel
theorem dX12_ask_108 : decode cX12_ask 108 = .ok (.istore 4, 2) := by decide +kernel
theorem dX12_ask_110 : decode cX12_ask 110 = .ok (.iconst 0, 1) := by decide +kernel
theorem dX12_ask_111 : decode cX12_ask 111 = .ok (.istore 5, 2) := by decide +kernel
theorem dX12_ask_113 : decode cX12_ask 113 = .ok (.iload 5, 2) := by decide +kernel
theorem dX12_ask_115 : decode cX12_ask 115 = .ok (.aload_n 0, 1) := by decide +kernel
theorem dX12_ask_116 : decode cX12_ask 116 = .ok (.getfield 13, 3) := by decide +kernel
theorem dX12_ask_119 : decode cX12_ask 119 = .ok (.iconst 0, 1) := by decide +kernel
theorem dX12_ask_120 : decode cX12_ask 120 = .ok (.iaload, 1) := by decide +kernel
theorem dX12_ask_121 : decode cX12_ask 121 = .ok (.if_icmp .ge 83, 3) := by decide +kernel
theorem dX12_ask_124 : decode cX12_ask 124 = .ok (.iload_n 2, 1) := by decide +kernel
theorem dX12_ask_125 : decode cX12_ask 125 = .ok (.ifCond .le 79, 3) := by decide +kernel
theorem dX12_ask_128 : decode cX12_ask 128 = .ok (.aload_n 0, 1) := by decide +kernel
theorem dX12_ask_129 : decode cX12_ask 129 = .ok (.getfield 132, 3) := by decide +kernel
theorem dX12_ask_132 : decode cX12_ask 132 = .ok (.iload 5, 2) := by decide +kernel
theorem dX12_ask_134 : decode cX12_ask 134 = .ok (.iaload, 1) := by decide +kernel
theorem dX12_ask_135 : decode cX12_ask 135 = .ok (.iload_n 2, 1) := by decide +kernel
theorem dX12_ask_136 : decode cX12_ask 136 = .ok (.aload_n 0, 1) := by decide +kernel
theorem dX12_ask_137 : decode cX12_ask 137 = .ok (.getfield 132, 3) := by decide +kernel
theorem dX12_ask_140 : decode cX12_ask 140 = .ok (.iload 5, 2) := by decide +kernel
theorem dX12_ask_142 : decode cX12_ask 142 = .ok (.iaload, 1) := by decide +kernel
theorem dX12_ask_143 : decode cX12_ask 143 = .ok (.isub, 1) := by decide +kernel
theorem dX12_ask_144 : decode cX12_ask 144 = .ok (.if_icmp .le 13, 3) := by decide +kernel
theorem dX12_ask_157 : decode cX12_ask 157 = .ok (.iload_n 2, 1) := by decide +kernel
theorem dX12_ask_158 : decode cX12_ask 158 = .ok (.aload_n 0, 1) := by decide +kernel
theorem dX12_ask_159 : decode cX12_ask 159 = .ok (.getfield 132, 3) := by decide +kernel
theorem dX12_ask_162 : decode cX12_ask 162 = .ok (.iload 5, 2) := by decide +kernel
theorem dX12_ask_164 : decode cX12_ask 164 = .ok (.iaload, 1) := by decide +kernel
theorem dX12_ask_165 : decode cX12_ask 165 = .ok (.isub, 1) := by decide +kernel
theorem dX12_ask_166 : decode cX12_ask 166 = .ok (.istore 6, 2) := by decide +kernel
theorem dX12_ask_168 : decode cX12_ask 168 = .ok (.iload 6, 2) := by decide +kernel
theorem dX12_ask_170 : decode cX12_ask 170 = .ok (.iload 4, 2) := by decide +kernel
theorem dX12_ask_172 : decode cX12_ask 172 = .ok (.if_icmp .ge 8, 3) := by decide +kernel
theorem dX12_ask_180 : decode cX12_ask 180 = .ok (.iload_n 3, 1) := by decide +kernel
theorem dX12_ask_181 : decode cX12_ask 181 = .ok (.istore_n 3, 1) := by decide +kernel
theorem dX12_ask_182 : decode cX12_ask 182 = .ok (.iload 6, 2) := by decide +kernel
theorem dX12_ask_184 : decode cX12_ask 184 = .ok (.iload 4, 2) := by decide +kernel
theorem dX12_ask_186 : decode cX12_ask 186 = .ok (.if_icmp .ge 8, 3) := by decide +kernel
theorem dX12_ask_194 : decode cX12_ask 194 = .ok (.iload 4, 2) := by decide +kernel
theorem dX12_ask_196 : decode cX12_ask 196 = .ok (.istore 4, 2) := by decide +kernel
theorem dX12_ask_198 : decode cX12_ask 198 = .ok (.iinc 5 1, 3) := by decide +kernel
theorem dX12_ask_201 : decode cX12_ask 201 = .ok (.goto (-88), 3) := by decide +kernel
theorem dX12_ask_175 : decode cX12_ask 175 = .ok (.iload 5, 2) := by decide +kernel
theorem dX12_ask_177 : decode cX12_ask 177 = .ok (.goto 4, 3) := by decide +kernel
theorem dX12_ask_189 : decode cX12_ask 189 = .ok (.iload 6, 2) := by decide +kernel
theorem dX12_ask_191 : decode cX12_ask 191 = .ok (.goto 5, 3) := by decide +kernel
theorem dX12_ask_147 : decode cX12_ask 147 = .ok (.aload_n 0, 1) := by decide +kernel
theorem dX12_ask_148 : decode cX12_ask 148 = .ok (.getfield 132, 3) := by decide +kernel
theorem dX12_ask_151 : decode cX12_ask 151 = .ok (.iload 5, 2) := by decide +kernel
theorem dX12_ask_153 : decode cX12_ask 153 = .ok (.iaload, 1) := by decide +kernel
theorem dX12_ask_154 : decode cX12_ask 154 = .ok (.goto 12, 3) := by decide +kernel
theorem dX12_ask_204 : decode cX12_ask 204 = .ok (.iload_n 3, 1) := by decide +kernel
theorem dX12_ask_205 : decode cX12_ask 205 = .ok (.iconst (-1), 1) := by decide +kernel
theorem dX12_ask_206 : decode cX12_ask 206 = .ok (.if_icmp .eq 7, 3) := by decide +kernel
theorem dX12_ask_209 : decode cX12_ask 209 = .ok (.iload_n 1, 1) := by decide +kernel
theorem dX12_ask_210 : decode cX12_ask 210 = .ok (.ifCond .ne 7, 3) := by decide +kernel
theorem dX12_ask_217 : decode cX12_ask 217 = .ok (.iload 4, 2) := by decide +kernel
theorem dX12_ask_219 : decode cX12_ask 219 = .ok (.ireturn, 1) := by decide +kernel
theorem dX12_ask_213 : decode cX12_ask 213 = .ok (.iload_n 3, 1) := by decide +kernel
theorem dX12_ask_214 : decode cX12_ask 214 = .ok (.goto 5, 3) := by decide +kernel
theorem dX12_ask_15 : decode cX12_ask 15 = .ok (.iconst (-1), 1) := by decide +kernel
theorem dX12_ask_16 : decode cX12_ask 16 = .ok (.ireturn, 1) := by decide +kernel
theorem dX12_chance_0 : decode cX12_chance 0 = .ok (.aload_n 0, 1) := by decide +kernel
theorem dX12_chance_1 : decode cX12_chance 1 = .ok (.iconst 0, 1) := by decide +kernel
theorem dX12_chance_2 : decode cX12_chance 2 = .ok (.putfield 158, 3) := by decide +kernel
theorem dX12_chance_5 : decode cX12_chance 5 = .ok (.iload_n 1, 1) := by decide +kernel
theorem dX12_chance_6 : decode cX12_chance 6 = .ok (.i2l, 1) := by decide +kernel
theorem dX12_chance_7 : decode cX12_chance 7 = .ok (.lconst 0, 1) := by decide +kernel
theorem dX12_chance_8 : decode cX12_chance 8 = .ok (.ldc2_w 212, 3) := by decide +kernel
theorem dX12_chance_11 : decode cX12_chance 11 = .ok (.invokestatic 178, 3) := by decide +kernel
theorem dX12_chance_14 : decode cX12_chance 14 = .ok (.ifCond .ne 7, 3) := by decide +kernel
theorem dX12_chance_21 : decode cX12_chance 21 = .ok (.ldc2_w 518, 3) := by decide +kernel
theorem dX12_chance_24 : decode cX12_chance 24 = .ok (.lstore_n 2, 1) := by decide +kernel
theorem dX12_chance_25 : decode cX12_chance 25 = .ok (.iconst 0, 1) := by decide +kernel
theorem dX12_chance_26 : decode cX12_chance 26 = .ok (.istore 4, 2) := by decide +kernel
theorem dX12_chance_28 : decode cX12_chance 28 = .ok (.iload 4, 2) := by decide +kernel
theorem dX12_chance_30 : decode cX12_chance 30 = .ok (.bipush 7, 2) := by decide +kernel
theorem dX12_chance_32 : decode cX12_chance 32 = .ok (.if_icmp .ge 60, 3) := by decide +kernel
theorem dX12_chance_35 : decode cX12_chance 35 = .ok (.iload_n 1, 1) := by decide +kernel
theorem dX12_chance_36 : decode cX12_chance 36 = .ok (.iload 4, 2) := by decide +kernel
theorem dX12_chance_38 : decode cX12_chance 38 = .ok (.invokestatic 436, 3) := by decide +kernel
theorem dX12_chance_41 : decode cX12_chance 41 = .ok (.ifCond .eq 45, 3) := by decide +kernel
theorem dX12_chance_44 : decode cX12_chance 44 = .ok (.lload_n 2, 1) := by decide +kernel
theorem dX12_chance_45 : decode cX12_chance 45 = .ok (.lstore 5, 2) := by decide +kernel
theorem dX12_chance_47 : decode cX12_chance 47 = .ok (.aload_n 0, 1) := by decide +kernel
theorem dX12_chance_48 : decode cX12_chance 48 = .ok (.iload 4, 2) := by decide +kernel
theorem dX12_chance_50 : decode cX12_chance 50 = .ok (.invokevirtual 392, 3) := by decide +kernel
theorem dX12_chance_53 : decode cX12_chance 53 = .ok (.istore 7, 2) := by decide +kernel
theorem dX12_chance_55 : decode cX12_chance 55 = .ok (.iload 7, 2) := by decide +kernel
theorem dX12_chance_57 : decode cX12_chance 57 = .ok (.ifCond .le 24, 3) := by decide +kernel
theorem dX12_chance_60 : decode cX12_chance 60 = .ok (.lload 5, 2) := by decide +kernel
theorem dX12_chance_62 : decode cX12_chance 62 = .ok (.aload_n 0, 1) := by decide +kernel
theorem dX12_chance_63 : decode cX12_chance 63 = .ok (.iconst 4, 1) := by decide +kernel
theorem dX12_chance_64 : decode cX12_chance 64 = .ok (.invokevirtual 182, 3) := by decide +kernel
theorem dX12_chance_67 : decode cX12_chance 67 = .ok (.i2l, 1) := by decide +kernel
theorem dX12_chance_68 : decode cX12_chance 68 = .ok (.lmul, 1) := by decide +kernel
theorem dX12_chance_69 : decode cX12_chance 69 = .ok (.ldc2_w 219, 3) := by decide +kernel
theorem dX12_chance_72 : decode cX12_chance 72 = .ok (.ldiv, 1) := by decide +kernel
theorem dX12_chance_73 : decode cX12_chance 73 = .ok (.lstore 5, 2) := by decide +kernel
theorem dX12_chance_75 : decode cX12_chance 75 = .ok (.iinc 7 (-1), 3) := by decide +kernel
theorem dX12_chance_78 : decode cX12_chance 78 = .ok (.goto (-23), 3) := by decide +kernel
theorem dX12_chance_81 : decode cX12_chance 81 = .ok (.lload_n 2, 1) := by decide +kernel
theorem dX12_chance_82 : decode cX12_chance 82 = .ok (.lload 5, 2) := by decide +kernel
theorem dX12_chance_84 : decode cX12_chance 84 = .ok (.lsub, 1) := by decide +kernel
theorem dX12_chance_85 : decode cX12_chance 85 = .ok (.lstore_n 2, 1) := by decide +kernel
theorem dX12_chance_86 : decode cX12_chance 86 = .ok (.iinc 4 1, 3) := by decide +kernel
theorem dX12_chance_89 : decode cX12_chance 89 = .ok (.goto (-61), 3) := by decide +kernel
theorem dX12_chance_92 : decode cX12_chance 92 = .ok (.lload_n 2, 1) := by decide +kernel
theorem dX12_chance_93 : decode cX12_chance 93 = .ok (.lreturn, 1) := by decide +kernel
theorem dX12_chance_17 : decode cX12_chance 17 = .ok (.ldc2_w 266, 3) := by decide +kernel
theorem dX12_chance_20 : decode cX12_chance 20 = .ok (.lreturn, 1) := by decide +kernel
set_option maxRecDepth 20000 in
theorem ggX12_ask_X12_in : GoodIn wsX12_ask wsX12_in := goodIn_r _ [8] (by decide +kernel) (by decide +kernel)
set_option maxRecDepth 20000 in
theorem gX12_ask_X12_in : GoodIn wsX12_ask (va_wsS RX12 178 yX12_in wsX12_in) := goodIn_app (goodIn_of _ (by decide +kernel)) ggX12_ask_X12_in
set_option maxRecDepth 100000 in
set_option maxHeartbeats 4000000 in
theorem ggX12_ask_X12_isAsHeard : GoodIn wsX12_ask wsX12_isAsHeard := goodIn_q _ [12, 15] [3, 13, 14, 7, 16, 17, 18, 19, 20, 21, 22, 23, 24, 25, 26, 27, 28, 29, 30, 31, 32, 33, 34, 35, 36, 37, 38, 39, 40, 41, 42, 43, 44, 45, 46, 47, 48, 49, 50, 51, 52, 53, 54, 55, 56, 57, 58, 59, 60, 61, 62, 63, 64, 65, 66, 67, 68, 69, 70, 71, 72, 73, 74, 75] rfl (by decide +kernel) (by decide +kernel)
set_option maxRecDepth 20000 in
theorem gX12_ask_X12_isAsHeard : GoodIn wsX12_ask (wsV RX12 515 RX12 yX12_isAsHeard wsX12_isAsHeard) := goodIn_app (goodIn_of _ (by decide +kernel)) ggX12_ask_X12_isAsHeard
set_option maxRecDepth 20000 in
theorem ggX12_chance_X12_in : GoodIn wsX12_chance wsX12_in := goodIn_r _ [9] (by decide +kernel) (by decide +kernel)
set_option maxRecDepth 20000 in
theorem gX12_chance_X12_in : GoodIn wsX12_chance (va_wsS RX12 178 yX12_in wsX12_in) := goodIn_app (goodIn_of _ (by decide +kernel)) ggX12_chance_X12_in
set_option maxRecDepth 20000 in
theorem ggX12_chance_X12_is : GoodIn wsX12_chance wsX12_is := goodIn_r _ [12] (by decide +kernel) (by decide +kernel)
set_option maxRecDepth 20000 in
theorem gX12_chance_X12_is : GoodIn wsX12_chance (va_wsS RX12 436 yX12_is wsX12_is) := goodIn_app (goodIn_of _ (by decide +kernel)) ggX12_chance_X12_is
set_option maxRecDepth 100000 in
set_option maxHeartbeats 4000000 in
theorem ggX12_chance_X12_soundWith : GoodIn wsX12_chance wsX12_soundWith := goodIn_q _ [16, 21, 25, 9] [17, 18, 19, 20, 8, 22, 23, 24, 6, 7, 26, 27, 28, 29, 30, 31, 32, 33, 34, 35, 36, 37, 38, 39, 40, 41, 42, 43, 44, 45, 46, 47, 48, 49, 50, 51, 52, 53, 54, 55, 56, 57, 58, 59, 60, 61, 62, 63, 64, 65, 66, 67, 68, 69, 70, 71, 72, 73, 74, 75, 76, 77, 78, 79, 80, 81, 82, 83, 84, 85] rfl (by decide +kernel) (by decide +kernel)
set_option maxRecDepth 20000 in
theorem gX12_chance_X12_soundWith : GoodIn wsX12_chance (wsV RX12 392 RX12 yX12_soundWith wsX12_soundWith) := goodIn_app (goodIn_of _ (by decide +kernel)) ggX12_chance_X12_soundWith
set_option maxRecDepth 100000 in
set_option maxHeartbeats 4000000 in
theorem ggX12_chance_X12_term : GoodIn wsX12_chance wsX12_term := goodIn_q _ [25] [17, 26, 27, 28, 29, 30, 31, 32, 33, 34, 35, 36, 37, 38, 39, 40, 41, 42, 43, 44, 45, 46, 47, 48, 49, 50, 51, 52, 53, 54, 55, 56, 57, 58, 59, 60, 61, 62, 63, 64, 65, 66, 67, 68, 69, 70, 71, 72, 73, 74, 75, 76, 77, 78, 79, 80, 81, 82, 83, 84, 85] rfl (by decide +kernel) (by decide +kernel)
set_option maxRecDepth 20000 in
theorem gX12_chance_X12_term : GoodIn wsX12_chance (wsV RX12 182 RX12 yX12_term wsX12_term) := goodIn_app (goodIn_of _ (by decide +kernel)) ggX12_chance_X12_term
set_option maxHeartbeats 4000000 in
set_option maxRecDepth 100000 in
theorem v_ask (l : Launch) (D : va_G) (K : Nat → ClassId) (m0 : Nat) (x : Int32) (thr : Int32) (m_1 : Value) (m_2 : Value) (w0 : Nat) (m_4 : Value) (m_5 : Value) (m_6 : Value) (m_7 : Value) (m_8 : Value) (m_9 : Value) (m_10 : Value) (m_11 : Value) (m_12 : Value) (m_13 : Value) (m_14 : Value) (m_15 : Value) (m_16 : Value) (m_17 : Value) (m_18 : Value) (m_19 : Value) (m_20 : Value) (m_21 : Value) (m_22 : Value) (m_23 : Value) (m_24 : Value) (m_25 : Value) (m_26 : Value) (m_27 : Value) (m_28 : Value) (m_29 : Value) (m_30 : Value) (m_31 : Value) (m_32 : Value) (m_33 : Value) (m_34 : Value) (m_35 : Value) (m_36 : Value) (m_37 : Value) (m_38 : Value) (m_39 : Value) (m_40 : Value) (m_41 : Value) (m_42 : Value) (m_43 : Value) (m_44 : Value) (m_45 : Value) (m_46 : Value) (m_47 : Value) (m_48 : Value) (b0 : Nat) (m_50 : Value) (m_51 : Value) (m_52 : Value) (m_53 : Value) (m_54 : Value) (m_55 : Value) (m_56 : Value) (m_57 : Value) (m_58 : Value) (m_59 : Value) (fw : Nat → Int32) (fb : Nat → Int32) (sz : Nat) (zfw : RwOK fw) : Met l yX12_ask wsX12_ask ({ frames := 2, cells := 0, slots := 0, locals := 45 }) (va_Pc [.ref m0, .int x] (Pre D K [(m0, .inr (12, [.int thr, m_1, m_2, .ref w0, m_4, m_5, m_6, m_7, m_8, m_9, m_10, m_11, m_12, m_13, m_14, m_15, m_16, m_17, m_18, m_19, m_20, m_21, m_22, m_23, m_24, m_25, m_26, m_27, m_28, m_29, m_30, m_31, m_32, m_33, m_34, m_35, m_36, m_37, m_38, m_39, m_40, m_41, m_42, m_43, m_44, m_45, m_46, m_47, m_48, .ref b0, m_50, m_51, m_52, m_53, m_54, m_55, m_56, m_57, m_58, m_59])), (w0, .inl (K 0, 5500, .inl fw)), (b0, .inl (K 0, 8, .inl fb))] sz)) (va_Qi (S := Su) (fun (r : Int32) (u : Su) => True) (fun u t => Wd D (va_A [(m0, .inr (12, [.int thr, m_1, m_2, .ref w0, m_4, m_5, m_6, m_7, m_8, m_9, m_10, m_11, m_12, m_13, m_14, m_15, m_16, m_17, m_18, m_19, m_20, m_21, m_22, m_23, m_24, m_25, m_26, m_27, m_28, m_29, m_30, m_31, m_32, m_33, m_34, m_35, m_36, m_37, m_38, m_39, m_40, m_41, m_42, m_43, m_44, m_45, m_46, m_47, m_48, .ref b0, m_50, m_51, m_52, m_53, m_54, m_55, m_56, m_57, m_58, m_59])), (w0, .inl (K 0, 5500, .inl fw)), (b0, .inl (K 0, 8, .inl fb))] sz) ((fun u => [(m0, .inr (12, [.int 0, m_1, m_2, .ref w0, m_4, m_5, m_6, m_7, m_8, m_9, m_10, m_11, m_12, m_13, m_14, m_15, m_16, m_17, m_18, m_19, m_20, m_21, m_22, m_23, m_24, m_25, m_26, m_27, m_28, m_29, m_30, m_31, m_32, m_33, m_34, m_35, m_36, m_37, m_38, m_39, m_40, m_41, m_42, m_43, m_44, m_45, m_46, m_47, m_48, .ref b0, m_50, m_51, m_52, m_53, m_54, m_55, m_56, m_57, m_58, m_59])), (w0, .inl (K 0, 5500, .inl fw)), (b0, .inl (K 0, 8, .inl (u.2.1 0)))]) u) t) (va_A [(m0, .inr (12, [.int thr, m_1, m_2, .ref w0, m_4, m_5, m_6, m_7, m_8, m_9, m_10, m_11, m_12, m_13, m_14, m_15, m_16, m_17, m_18, m_19, m_20, m_21, m_22, m_23, m_24, m_25, m_26, m_27, m_28, m_29, m_30, m_31, m_32, m_33, m_34, m_35, m_36, m_37, m_38, m_39, m_40, m_41, m_42, m_43, m_44, m_45, m_46, m_47, m_48, .ref b0, m_50, m_51, m_52, m_53, m_54, m_55, m_56, m_57, m_58, m_59])), (w0, .inl (K 0, 5500, .inl fw)), (b0, .inl (K 0, 8, .inl fb))] sz)) 0 0 (va_A [(m0, .inr (12, [.int thr, m_1, m_2, .ref w0, m_4, m_5, m_6, m_7, m_8, m_9, m_10, m_11, m_12, m_13, m_14, m_15, m_16, m_17, m_18, m_19, m_20, m_21, m_22, m_23, m_24, m_25, m_26, m_27, m_28, m_29, m_30, m_31, m_32, m_33, m_34, m_35, m_36, m_37, m_38, m_39, m_40, m_41, m_42, m_43, m_44, m_45, m_46, m_47, m_48, .ref b0, m_50, m_51, m_52, m_53, m_54, m_55, m_56, m_57, m_58, m_59])), (w0, .inl (K 0, 5500, .inl fw)), (b0, .inl (K 0, 8, .inl fb))] sz) := by
  refine Met.ofW (cc := cX12_ask) (maxL := 7) (ret := (some .int)) (by decide) rfl ?_
  intro p e s m args below meth c s₁ B hml hv
  obtain ⟨rfl, hsz, hP, hK, hD0, hN⟩ := hv
  have hx := B.exec
  have hb := B.bytes
  have hr := B.returns
  have hts := atoms_spec (ws := wsX12_ask) B.pre
  have hown : s.vm.findClass RX12 = some m.cls := findClass_of_methodNamed B.named
  have hlocks := B.notSynchronized
  subst hsz
  have hD := hD0.self (sz := s.heap.size)
  generalize hAe : va_A [(m0, .inr (12, [.int thr, m_1, m_2, .ref w0, m_4, m_5, m_6, m_7, m_8, m_9, m_10, m_11, m_12, m_13, m_14, m_15, m_16, m_17, m_18, m_19, m_20, m_21, m_22, m_23, m_24, m_25, m_26, m_27, m_28, m_29, m_30, m_31, m_32, m_33, m_34, m_35, m_36, m_37, m_38, m_39, m_40, m_41, m_42, m_43, m_44, m_45, m_46, m_47, m_48, .ref b0, m_50, m_51, m_52, m_53, m_54, m_55, m_56, m_57, m_58, m_59])), (w0, .inl (K 0, 5500, .inl fw)), (b0, .inl (K 0, 8, .inl fb))] s.heap.size = A at hD ⊢
  have hA : ∀ q : Nat, s.heap.size ≤ q → A q := fun q h => by rw [← hAe]; exact Or.inr h
  have hS : va_S A s.heap s.heap [] := va_S.rf
  have hP : va_P D vwCl [(m0, .inr (12, [.int thr, m_1, m_2, .ref w0, m_4, m_5, m_6, m_7, m_8, m_9, m_10, m_11, m_12, m_13, m_14, m_15, m_16, m_17, m_18, m_19, m_20, m_21, m_22, m_23, m_24, m_25, m_26, m_27, m_28, m_29, m_30, m_31, m_32, m_33, m_34, m_35, m_36, m_37, m_38, m_39, m_40, m_41, m_42, m_43, m_44, m_45, m_46, m_47, m_48, .ref b0, m_50, m_51, m_52, m_53, m_54, m_55, m_56, m_57, m_58, m_59])), (w0, .inl (K 0, 5500, .inl fw)), (b0, .inl (K 0, 8, .inl fb))] s.heap := hP
  have hl := lv_entry [.ref m0, .int x] (n := 7) (Nat.le_of_ble_eq_true rfl)
  rw [lg_entry_eq]
  generalize (lg_sl [.ref m0, .int x] ++ List.replicate (7 - (lg_sl [.ref m0, .int x]).length) Slot.unset).toArray = ls at hl ⊢
  have hl : lv_has ls 7 [(0, .ref m0), (1, .int x)] := hl
  have hw12 : ∀ w ∈ wsX120, w ∈ wsX12_ask := fun w h => (List.mem_cons_of_mem _ (List.mem_append_right _ h))
  generalize hQ : MQ below _ _ s _ _ _ = Q
  refine lv_aload_n hx hb dX12_ask_0 rfl (lv_at hl 0 rfl) ?_
  refine lv_iconst (v := 0) hx hb dX12_ask_1 (by decide) ?_
  refine va_put (ci := 12) (v := .int 0) (ty := .int) (C := RX12) (T := TX12) (N := 60) hx hb hts hw12 tyX12 tyX12_ok nmX12 hown hK hP hD hS 0 rfl rfl 0 (by decide) (hts (.fieldLink RX12 158 "SmokeTuneModel" "thrown" "I") (List.mem_cons_of_mem _ (List.mem_append_left _ (List.mem_of_getElem? (i := 0) rfl)))) (fun _ h9 => h9) rfl (by decide +kernel) (by first | rfl | decide) (by first | rfl | decide) (Nat.le_of_ble_eq_true rfl) dX12_ask_2 (fun H locs hP hD hS => ?_)
  have hP : va_P D vwCl [(m0, .inr (12, [.int 0, m_1, m_2, .ref w0, m_4, m_5, m_6, m_7, m_8, m_9, m_10, m_11, m_12, m_13, m_14, m_15, m_16, m_17, m_18, m_19, m_20, m_21, m_22, m_23, m_24, m_25, m_26, m_27, m_28, m_29, m_30, m_31, m_32, m_33, m_34, m_35, m_36, m_37, m_38, m_39, m_40, m_41, m_42, m_43, m_44, m_45, m_46, m_47, m_48, .ref b0, m_50, m_51, m_52, m_53, m_54, m_55, m_56, m_57, m_58, m_59])), (w0, .inl (K 0, 5500, .inl fw)), (b0, .inl (K 0, 8, .inl fb))] H := hP
  have hD : va_D A [(m0, .inr (12, [.int 0, m_1, m_2, .ref w0, m_4, m_5, m_6, m_7, m_8, m_9, m_10, m_11, m_12, m_13, m_14, m_15, m_16, m_17, m_18, m_19, m_20, m_21, m_22, m_23, m_24, m_25, m_26, m_27, m_28, m_29, m_30, m_31, m_32, m_33, m_34, m_35, m_36, m_37, m_38, m_39, m_40, m_41, m_42, m_43, m_44, m_45, m_46, m_47, m_48, .ref b0, m_50, m_51, m_52, m_53, m_54, m_55, m_56, m_57, m_58, m_59])), (w0, .inl (K 0, 5500, .inl fw)), (b0, .inl (K 0, 8, .inl fb))] := hD
  refine lv_iload_n hx hb dX12_ask_5 rfl (lv_at hl 1 rfl) ?_
  refine lv_i2l hx hb dX12_ask_6 rfl ?_
  refine lv_topl (fun x_3009 ex_3009 => ?_)
  have hx_3009 : x_3009.toInt = x.toInt := by rw [ex_3009]; exact i_wide rfl
  have hbx_3009 := i_rng (a := x) rfl
  refine lv_lconst (v := 0) hx hb dX12_ask_7 (by decide) ?_
  refine lv_lconst (v := 1) hx hb dX12_ask_8 (by decide) ?_
  refine pci (va_runS (As := [.long x_3009, .long 0, .long 1]) (rest := []) ⟨hx, hb, hml, hown, hts⟩ (v_in l D K x.toInt 0 1 x_3009 0 1 H.size hx_3009 (show (0 : Int64).toInt = 0 from rfl) (show (1 : Int64).toInt = 1 from rfl)) (va_cwS 3 hts gX12_ask_X12_in rfl rfl rfl (by decide +kernel) ⟨Nat.le_of_ble_eq_true rfl, Nat.le_of_ble_eq_true rfl⟩) (mkS hK hN (va_P.nil) (va_D.nil (A := fun _ => True))) rfl rfl hl.1 rfl (lv_room (Nat.le_of_ble_eq_true rfl)) dX12_ask_9 ⟨Nat.le_of_ble_eq_true rfl, Nat.le_of_ble_eq_true rfl⟩) (fun r_3010 hw => ?_)
  obtain ⟨hw, -⟩ := hw
  rcases hw with ⟨rfl, h_3011, h_3012⟩ | ⟨rfl, h_3013⟩
  · refine lv_if_ne (tgt := 17) hx hb dX12_ask_12 (by decide) (fun c_3014 => ?_) (fun c_3014 => absurd c_3014 (by decide))
    refine lv_iconst (v := 0) hx hb dX12_ask_17 (by decide) ?_
    refine lv_istore_n (lv' := [(2, .int 0), (0, .ref m0), (1, .int x)]) hx hb dX12_ask_18 rfl hl (by decide) rfl (fun ls hl => ?_)
    refine lv_iconst (v := 0) hx hb dX12_ask_19 (by decide) ?_
    refine lv_istore_n (lv' := [(3, .int 0), (2, .int 0), (0, .ref m0), (1, .int x)]) hx hb dX12_ask_20 rfl hl (by decide) rfl (fun ls hl => ?_)
    have lp_3042 : ∀ (nn_ : Nat) (v_3032 : Int32) (f_3033 : Nat → Int32) (hv_3032 : 0 ≤ v_3032.toInt ∧ v_3032.toInt ≤ 8) (hn : (9 - v_3032.toInt : Int).toNat < nn_) (H : Heap) (locs : List Loc) (hP : va_P D vwCl [(m0, .inr (12, [.int 0, m_1, m_2, .ref w0, m_4, m_5, m_6, m_7, m_8, m_9, m_10, m_11, m_12, m_13, m_14, m_15, m_16, m_17, m_18, m_19, m_20, m_21, m_22, m_23, m_24, m_25, m_26, m_27, m_28, m_29, m_30, m_31, m_32, m_33, m_34, m_35, m_36, m_37, m_38, m_39, m_40, m_41, m_42, m_43, m_44, m_45, m_46, m_47, m_48, .ref b0, m_50, m_51, m_52, m_53, m_54, m_55, m_56, m_57, m_58, m_59])), (w0, .inl (K 0, 5500, .inl fw)), (b0, .inl (K 0, 8, .inl f_3033))] H) (hD : va_D A [(m0, .inr (12, [.int 0, m_1, m_2, .ref w0, m_4, m_5, m_6, m_7, m_8, m_9, m_10, m_11, m_12, m_13, m_14, m_15, m_16, m_17, m_18, m_19, m_20, m_21, m_22, m_23, m_24, m_25, m_26, m_27, m_28, m_29, m_30, m_31, m_32, m_33, m_34, m_35, m_36, m_37, m_38, m_39, m_40, m_41, m_42, m_43, m_44, m_45, m_46, m_47, m_48, .ref b0, m_50, m_51, m_52, m_53, m_54, m_55, m_56, m_57, m_58, m_59])), (w0, .inl (K 0, 5500, .inl fw)), (b0, .inl (K 0, 8, .inl f_3033))]) (hS : va_S A s.heap H locs) (ls : Array Slot) (hl : lv_has ls 7 [(3, .int v_3032), (2, .int 0), (0, .ref m0), (1, .int x)]), W p l e ({ frames := 2, cells := 0, slots := 0, locals := 45 }) s m (([.ref m0, .int x] : List Value).toArray) below meth c H locs 0 0 Q (F0 m 21 ls []) := by
      intro nn_
      induction nn_ with
      | zero =>
        intro v_3032 f_3033 hv_3032 hn H locs hP hD hS ls hl
        exact absurd hn (Nat.not_lt_zero _)
      | succ nn_ ih_3043 =>
        intro v_3032 f_3033 hv_3032 hn H locs hP hD hS ls hl
        refine lv_iload_n hx hb dX12_ask_21 rfl (lv_at hl 0 rfl) ?_
        refine lv_bipush (v := 8) hx hb dX12_ask_22 (by decide) ?_
        refine lv_icmp_ge (tgt := 40) hx hb dX12_ask_24 (by decide) (fun c_3044 => ?_) (fun c_3044 => ?_)
        · have c_3044i := i_le (x := 8) (y := v_3032.toInt) rfl rfl c_3044
          refine lv_iconst (v := 0) hx hb dX12_ask_40 (by decide) ?_
          refine lv_istore_n (lv' := [(3, .int 0), (2, .int 0), (0, .ref m0), (1, .int x)]) hx hb dX12_ask_41 rfl hl (by decide) rfl (fun ls hl => ?_)
          have lp_3997 : ∀ (nn_ : Nat) (v_3723 : Int32) (v_3724 : Int32) (f_3725 : Nat → Int32) (hv_3723 : 0 ≤ v_3723.toInt ∧ v_3723.toInt ≤ 256) (hn : (257 - v_3723.toInt : Int).toNat < nn_) (H : Heap) (locs : List Loc) (hP : va_P D vwCl [(m0, .inr (12, [.int 0, m_1, m_2, .ref w0, m_4, m_5, m_6, m_7, m_8, m_9, m_10, m_11, m_12, m_13, m_14, m_15, m_16, m_17, m_18, m_19, m_20, m_21, m_22, m_23, m_24, m_25, m_26, m_27, m_28, m_29, m_30, m_31, m_32, m_33, m_34, m_35, m_36, m_37, m_38, m_39, m_40, m_41, m_42, m_43, m_44, m_45, m_46, m_47, m_48, .ref b0, m_50, m_51, m_52, m_53, m_54, m_55, m_56, m_57, m_58, m_59])), (w0, .inl (K 0, 5500, .inl fw)), (b0, .inl (K 0, 8, .inl f_3725))] H) (hD : va_D A [(m0, .inr (12, [.int 0, m_1, m_2, .ref w0, m_4, m_5, m_6, m_7, m_8, m_9, m_10, m_11, m_12, m_13, m_14, m_15, m_16, m_17, m_18, m_19, m_20, m_21, m_22, m_23, m_24, m_25, m_26, m_27, m_28, m_29, m_30, m_31, m_32, m_33, m_34, m_35, m_36, m_37, m_38, m_39, m_40, m_41, m_42, m_43, m_44, m_45, m_46, m_47, m_48, .ref b0, m_50, m_51, m_52, m_53, m_54, m_55, m_56, m_57, m_58, m_59])), (w0, .inl (K 0, 5500, .inl fw)), (b0, .inl (K 0, 8, .inl f_3725))]) (hS : va_S A s.heap H locs) (ls : Array Slot) (hl : lv_has ls 7 [(3, .int v_3723), (2, .int v_3724), (0, .ref m0), (1, .int x)]), W p l e ({ frames := 2, cells := 0, slots := 0, locals := 45 }) s m (([.ref m0, .int x] : List Value).toArray) below meth c H locs 0 0 Q (F0 m 42 ls []) := by
            intro nn_
            induction nn_ with
            | zero =>
              intro v_3723 v_3724 f_3725 hv_3723 hn H locs hP hD hS ls hl
              exact absurd hn (Nat.not_lt_zero _)
            | succ nn_ ih_3998 =>
              intro v_3723 v_3724 f_3725 hv_3723 hn H locs hP hD hS ls hl
              refine lv_iload_n hx hb dX12_ask_42 rfl (lv_at hl 0 rfl) ?_
              refine lv_iconst (v := 1) hx hb dX12_ask_43 (by decide) ?_
              refine lv_aload_n hx hb dX12_ask_44 rfl (lv_at hl 2 rfl) ?_
              refine va_get (ci := 12) (v := .ref w0) (C := RX12) (T := TX12) (N := 60) hx hb hts hw12 hown hK hP 0 rfl rfl 3 (by decide) (hts (.fieldLink RX12 13 "SmokeTuneModel" "row" "[I") (List.mem_cons_of_mem _ (List.mem_append_left _ (List.mem_of_getElem? (i := 2) rfl)))) (fun _ h9 => h9) rfl dX12_ask_45 ?_
              refine lv_iconst (v := 0) hx hb dX12_ask_48 (by decide) ?_
              refine va_iald hx hb hK hP 1 0 rfl rfl (i_in (x := 0) rfl (by omega)) dX12_ask_49 ?_
              refine lv_topi (fun x_3999 ex_3999 => ?_)
              have px_3999 := RwOK.at zfw (show (0 : Int32).toInt = 0 from rfl) (show 0 ≤ 0 ∧ 0 < 100 by omega)
              rw [← ex_3999] at px_3999
              have hx_3999 := PR.r_0 px_3999 (by omega)
              refine lv_ishl hx hb dX12_ask_50 ?_
              refine lv_topi (fun x_4000 ex_4000 => ?_)
              have hx_4000 : 1 ≤ x_4000.toInt ∧ x_4000.toInt ≤ 256 := by rw [ex_4000]; exact i_shl1 rfl (n := 8) (by decide) (by omega)
              refine lv_icmp_ge (tgt := 103) hx hb dX12_ask_51 (by decide) (fun c_4001 => ?_) (fun c_4001 => ?_)
              · have c_4001i := i_le (x := x_4000.toInt) (y := v_3723.toInt) rfl rfl c_4001
                refine lv_iconst (v := (-1)) hx hb dX12_ask_103 (by decide) ?_
                refine lv_istore_n (lv' := [(3, .int (-1)), (2, .int v_3724), (0, .ref m0), (1, .int x)]) hx hb dX12_ask_104 rfl hl (by decide) rfl (fun ls hl => ?_)
                refine lv_ldcw (v := 100000000) hx hb hown (hts (.constant RX12 476 (100000000)) (List.mem_cons_of_mem _ (List.mem_append_left _ (List.mem_of_getElem? (i := 3) rfl)))) dX12_ask_105 ?_
                refine lv_istore (lv' := [(4, .int 100000000), (3, .int (-1)), (2, .int v_3724), (0, .ref m0), (1, .int x)]) hx hb dX12_ask_108 hl (by decide) rfl (fun ls hl => ?_)
                refine lv_iconst (v := 0) hx hb dX12_ask_110 (by decide) ?_
                refine lv_istore (lv' := [(5, .int 0), (4, .int 100000000), (3, .int (-1)), (2, .int v_3724), (0, .ref m0), (1, .int x)]) hx hb dX12_ask_111 hl (by decide) rfl (fun ls hl => ?_)
                have lp_4289 : ∀ (nn_ : Nat) (v_4187 : Int32) (v_4188 : Int32) (v_4189 : Int32) (hv_4187 : 0 ≤ v_4187.toInt ∧ v_4187.toInt ≤ 8) (hv_4188 : v_4188.toInt ≤ 100000000) (hv_4189 : (-1) ≤ v_4189.toInt) (hn : (9 - v_4187.toInt : Int).toNat < nn_) (H : Heap) (locs : List Loc) (hP : va_P D vwCl [(m0, .inr (12, [.int 0, m_1, m_2, .ref w0, m_4, m_5, m_6, m_7, m_8, m_9, m_10, m_11, m_12, m_13, m_14, m_15, m_16, m_17, m_18, m_19, m_20, m_21, m_22, m_23, m_24, m_25, m_26, m_27, m_28, m_29, m_30, m_31, m_32, m_33, m_34, m_35, m_36, m_37, m_38, m_39, m_40, m_41, m_42, m_43, m_44, m_45, m_46, m_47, m_48, .ref b0, m_50, m_51, m_52, m_53, m_54, m_55, m_56, m_57, m_58, m_59])), (w0, .inl (K 0, 5500, .inl fw)), (b0, .inl (K 0, 8, .inl f_3725))] H) (hD : va_D A [(m0, .inr (12, [.int 0, m_1, m_2, .ref w0, m_4, m_5, m_6, m_7, m_8, m_9, m_10, m_11, m_12, m_13, m_14, m_15, m_16, m_17, m_18, m_19, m_20, m_21, m_22, m_23, m_24, m_25, m_26, m_27, m_28, m_29, m_30, m_31, m_32, m_33, m_34, m_35, m_36, m_37, m_38, m_39, m_40, m_41, m_42, m_43, m_44, m_45, m_46, m_47, m_48, .ref b0, m_50, m_51, m_52, m_53, m_54, m_55, m_56, m_57, m_58, m_59])), (w0, .inl (K 0, 5500, .inl fw)), (b0, .inl (K 0, 8, .inl f_3725))]) (hS : va_S A s.heap H locs) (ls : Array Slot) (hl : lv_has ls 7 [(5, .int v_4187), (4, .int v_4188), (3, .int v_4189), (2, .int v_3724), (0, .ref m0), (1, .int x)]), W p l e ({ frames := 2, cells := 0, slots := 0, locals := 45 }) s m (([.ref m0, .int x] : List Value).toArray) below meth c H locs 0 0 Q (F0 m 113 ls []) := by
                  intro nn_
                  induction nn_ with
                  | zero =>
                    intro v_4187 v_4188 v_4189 hv_4187 hv_4188 hv_4189 hn H locs hP hD hS ls hl
                    exact absurd hn (Nat.not_lt_zero _)
                  | succ nn_ ih_4290 =>
                    intro v_4187 v_4188 v_4189 hv_4187 hv_4188 hv_4189 hn H locs hP hD hS ls hl
                    refine lv_iload hx hb dX12_ask_113 (lv_at hl 0 rfl) ?_
                    refine lv_aload_n hx hb dX12_ask_115 rfl (lv_at hl 4 rfl) ?_
                    refine va_get (ci := 12) (v := .ref w0) (C := RX12) (T := TX12) (N := 60) hx hb hts hw12 hown hK hP 0 rfl rfl 3 (by decide) (hts (.fieldLink RX12 13 "SmokeTuneModel" "row" "[I") (List.mem_cons_of_mem _ (List.mem_append_left _ (List.mem_of_getElem? (i := 2) rfl)))) (fun _ h9 => h9) rfl dX12_ask_116 ?_
                    refine lv_iconst (v := 0) hx hb dX12_ask_119 (by decide) ?_
                    refine va_iald hx hb hK hP 1 0 rfl rfl (i_in (x := 0) rfl (by omega)) dX12_ask_120 ?_
                    refine lv_topi (fun x_4291 ex_4291 => ?_)
                    have px_4291 := RwOK.at zfw (show (0 : Int32).toInt = 0 from rfl) (show 0 ≤ 0 ∧ 0 < 100 by omega)
                    rw [← ex_4291] at px_4291
                    have hx_4291 := PR.r_0 px_4291 (by omega)
                    have j_4320 : ∀ (H : Heap) (locs : List Loc) (hP : va_P D vwCl [(m0, .inr (12, [.int 0, m_1, m_2, .ref w0, m_4, m_5, m_6, m_7, m_8, m_9, m_10, m_11, m_12, m_13, m_14, m_15, m_16, m_17, m_18, m_19, m_20, m_21, m_22, m_23, m_24, m_25, m_26, m_27, m_28, m_29, m_30, m_31, m_32, m_33, m_34, m_35, m_36, m_37, m_38, m_39, m_40, m_41, m_42, m_43, m_44, m_45, m_46, m_47, m_48, .ref b0, m_50, m_51, m_52, m_53, m_54, m_55, m_56, m_57, m_58, m_59])), (w0, .inl (K 0, 5500, .inl fw)), (b0, .inl (K 0, 8, .inl f_3725))] H) (hD : va_D A [(m0, .inr (12, [.int 0, m_1, m_2, .ref w0, m_4, m_5, m_6, m_7, m_8, m_9, m_10, m_11, m_12, m_13, m_14, m_15, m_16, m_17, m_18, m_19, m_20, m_21, m_22, m_23, m_24, m_25, m_26, m_27, m_28, m_29, m_30, m_31, m_32, m_33, m_34, m_35, m_36, m_37, m_38, m_39, m_40, m_41, m_42, m_43, m_44, m_45, m_46, m_47, m_48, .ref b0, m_50, m_51, m_52, m_53, m_54, m_55, m_56, m_57, m_58, m_59])), (w0, .inl (K 0, 5500, .inl fw)), (b0, .inl (K 0, 8, .inl f_3725))]) (hS : va_S A s.heap H locs) (ls : Array Slot) (hl : lv_has ls 7 [(4, .int v_4188), (3, .int v_4189), (1, .int x)]), W p l e ({ frames := 2, cells := 0, slots := 0, locals := 45 }) s m (([.ref m0, .int x] : List Value).toArray) below meth c H locs 0 0 Q (F0 m 204 ls []) := by
                      intro H locs hP hD hS ls hl
                      refine lv_iload_n hx hb dX12_ask_204 rfl (lv_at hl 1 rfl) ?_
                      refine lv_iconst (v := (-1)) hx hb dX12_ask_205 (by decide) ?_
                      have j_4323 : ∀ (H : Heap) (locs : List Loc) (hP : va_P D vwCl [(m0, .inr (12, [.int 0, m_1, m_2, .ref w0, m_4, m_5, m_6, m_7, m_8, m_9, m_10, m_11, m_12, m_13, m_14, m_15, m_16, m_17, m_18, m_19, m_20, m_21, m_22, m_23, m_24, m_25, m_26, m_27, m_28, m_29, m_30, m_31, m_32, m_33, m_34, m_35, m_36, m_37, m_38, m_39, m_40, m_41, m_42, m_43, m_44, m_45, m_46, m_47, m_48, .ref b0, m_50, m_51, m_52, m_53, m_54, m_55, m_56, m_57, m_58, m_59])), (w0, .inl (K 0, 5500, .inl fw)), (b0, .inl (K 0, 8, .inl f_3725))] H) (hD : va_D A [(m0, .inr (12, [.int 0, m_1, m_2, .ref w0, m_4, m_5, m_6, m_7, m_8, m_9, m_10, m_11, m_12, m_13, m_14, m_15, m_16, m_17, m_18, m_19, m_20, m_21, m_22, m_23, m_24, m_25, m_26, m_27, m_28, m_29, m_30, m_31, m_32, m_33, m_34, m_35, m_36, m_37, m_38, m_39, m_40, m_41, m_42, m_43, m_44, m_45, m_46, m_47, m_48, .ref b0, m_50, m_51, m_52, m_53, m_54, m_55, m_56, m_57, m_58, m_59])), (w0, .inl (K 0, 5500, .inl fw)), (b0, .inl (K 0, 8, .inl f_3725))]) (hS : va_S A s.heap H locs) (ls : Array Slot) (hl : lv_has ls 7 [(3, .int v_4189)]), W p l e ({ frames := 2, cells := 0, slots := 0, locals := 45 }) s m (([.ref m0, .int x] : List Value).toArray) below meth c H locs 0 0 Q (F0 m 213 ls []) := by
                        intro H locs hP hD hS ls hl
                        refine lv_iload_n hx hb dX12_ask_213 rfl (lv_at hl 0 rfl) ?_
                        refine lv_goto (tgt := 219) hx hb dX12_ask_214 (by decide) ?_
                        rw [← hQ]
                        have hP9 := hP.sub (ws' := [(m0, .inr (12, [.int 0, m_1, m_2, .ref w0, m_4, m_5, m_6, m_7, m_8, m_9, m_10, m_11, m_12, m_13, m_14, m_15, m_16, m_17, m_18, m_19, m_20, m_21, m_22, m_23, m_24, m_25, m_26, m_27, m_28, m_29, m_30, m_31, m_32, m_33, m_34, m_35, m_36, m_37, m_38, m_39, m_40, m_41, m_42, m_43, m_44, m_45, m_46, m_47, m_48, .ref b0, m_50, m_51, m_52, m_53, m_54, m_55, m_56, m_57, m_58, m_59])), (w0, .inl (K 0, 5500, .inl fw)), (b0, .inl (K 0, 8, .inl f_3725))]) [0, 1, 2] rfl
                        have hD9 := hD.sub (ws' := [(m0, .inr (12, [.int 0, m_1, m_2, .ref w0, m_4, m_5, m_6, m_7, m_8, m_9, m_10, m_11, m_12, m_13, m_14, m_15, m_16, m_17, m_18, m_19, m_20, m_21, m_22, m_23, m_24, m_25, m_26, m_27, m_28, m_29, m_30, m_31, m_32, m_33, m_34, m_35, m_36, m_37, m_38, m_39, m_40, m_41, m_42, m_43, m_44, m_45, m_46, m_47, m_48, .ref b0, m_50, m_51, m_52, m_53, m_54, m_55, m_56, m_57, m_58, m_59])), (w0, .inl (K 0, 5500, .inl fw)), (b0, .inl (K 0, 8, .inl f_3725))]) [0, 1, 2] (by decide) rfl
                        exact W.iret (v := v_4189) hx hb hr (fun t ht hW => ⟨⟨v_4189, ((fun _ => 0, fun i => match i with | _ => f_3725, fun _ => fun _ => 0, fun _ => 0, fun _ => 0, fun _ => fun _ => none) : Su), rfl, trivial, (⟨by rw [ht]; exact hP9, hD9⟩ : Wd D A _ t)⟩, hS.F ht⟩) hS.2.2 dX12_ask_219
                      refine lv_icmp_eq (tgt := 213) hx hb dX12_ask_206 (by decide) (fun c_4324 => ?_) (fun c_4324 => ?_)
                      · have c_4324i := i_eq (x := v_4189.toInt) (y := (-1)) rfl rfl c_4324
                        exact j_4323   _ _ hP hD hS ls (lv_sub hl [1] rfl)
                      · have c_4324i := i_ne (x := v_4189.toInt) (y := (-1)) rfl rfl c_4324
                        refine lv_iload_n hx hb dX12_ask_209 rfl (lv_at hl 2 rfl) ?_
                        refine lv_if_ne (tgt := 217) hx hb dX12_ask_210 (by decide) (fun c_4325 => ?_) (fun c_4325 => ?_)
                        · have c_4325i := i_ne (x := x.toInt) (y := 0) rfl rfl c_4325
                          refine lv_iload hx hb dX12_ask_217 (lv_at hl 0 rfl) ?_
                          rw [← hQ]
                          have hP9 := hP.sub (ws' := [(m0, .inr (12, [.int 0, m_1, m_2, .ref w0, m_4, m_5, m_6, m_7, m_8, m_9, m_10, m_11, m_12, m_13, m_14, m_15, m_16, m_17, m_18, m_19, m_20, m_21, m_22, m_23, m_24, m_25, m_26, m_27, m_28, m_29, m_30, m_31, m_32, m_33, m_34, m_35, m_36, m_37, m_38, m_39, m_40, m_41, m_42, m_43, m_44, m_45, m_46, m_47, m_48, .ref b0, m_50, m_51, m_52, m_53, m_54, m_55, m_56, m_57, m_58, m_59])), (w0, .inl (K 0, 5500, .inl fw)), (b0, .inl (K 0, 8, .inl f_3725))]) [0, 1, 2] rfl
                          have hD9 := hD.sub (ws' := [(m0, .inr (12, [.int 0, m_1, m_2, .ref w0, m_4, m_5, m_6, m_7, m_8, m_9, m_10, m_11, m_12, m_13, m_14, m_15, m_16, m_17, m_18, m_19, m_20, m_21, m_22, m_23, m_24, m_25, m_26, m_27, m_28, m_29, m_30, m_31, m_32, m_33, m_34, m_35, m_36, m_37, m_38, m_39, m_40, m_41, m_42, m_43, m_44, m_45, m_46, m_47, m_48, .ref b0, m_50, m_51, m_52, m_53, m_54, m_55, m_56, m_57, m_58, m_59])), (w0, .inl (K 0, 5500, .inl fw)), (b0, .inl (K 0, 8, .inl f_3725))]) [0, 1, 2] (by decide) rfl
                          exact W.iret (v := v_4188) hx hb hr (fun t ht hW => ⟨⟨v_4188, ((fun _ => 0, fun i => match i with | _ => f_3725, fun _ => fun _ => 0, fun _ => 0, fun _ => 0, fun _ => fun _ => none) : Su), rfl, trivial, (⟨by rw [ht]; exact hP9, hD9⟩ : Wd D A _ t)⟩, hS.F ht⟩) hS.2.2 dX12_ask_219
                        · have c_4325i := i_eq (x := x.toInt) (y := 0) rfl rfl c_4325
                          exact j_4323   _ _ hP hD hS ls (lv_sub hl [1] rfl)
                    refine lv_icmp_ge (tgt := 204) hx hb dX12_ask_121 (by decide) (fun c_4326 => ?_) (fun c_4326 => ?_)
                    · have c_4326i := i_le (x := x_4291.toInt) (y := v_4187.toInt) rfl rfl c_4326
                      exact j_4320   _ _ hP hD hS ls (lv_sub hl [1, 2, 5] rfl)
                    · have c_4326i := i_nle (x := x_4291.toInt) (y := v_4187.toInt) rfl rfl c_4326
                      refine lv_iload_n hx hb dX12_ask_124 rfl (lv_at hl 3 rfl) ?_
                      refine lv_if_le (tgt := 204) hx hb dX12_ask_125 (by decide) (fun c_4327 => ?_) (fun c_4327 => ?_)
                      · have c_4327i := i_le (x := v_3724.toInt) (y := 0) rfl rfl c_4327
                        exact j_4320   _ _ hP hD hS ls (lv_sub hl [1, 2, 5] rfl)
                      · have c_4327i := i_nle (x := v_3724.toInt) (y := 0) rfl rfl c_4327
                        refine lv_aload_n hx hb dX12_ask_128 rfl (lv_at hl 4 rfl) ?_
                        refine va_get (ci := 12) (v := .ref b0) (C := RX12) (T := TX12) (N := 60) hx hb hts hw12 hown hK hP 0 rfl rfl 49 (by decide) (hts (.fieldLink RX12 132 "SmokeTuneModel" "burning" "[I") (List.mem_cons_of_mem _ (List.mem_append_left _ (List.mem_of_getElem? (i := 1) rfl)))) (fun _ h9 => h9) rfl dX12_ask_129 ?_
                        refine lv_iload hx hb dX12_ask_132 (lv_at hl 0 rfl) ?_
                        refine va_iald hx hb hK hP 2 0 rfl rfl (i_in rfl (by omega)) dX12_ask_134 ?_
                        refine lv_topi (fun x_4328 ex_4328 => ?_)
                        refine lv_iload_n hx hb dX12_ask_135 rfl (lv_at hl 3 rfl) ?_
                        refine lv_aload_n hx hb dX12_ask_136 rfl (lv_at hl 4 rfl) ?_
                        refine va_get (ci := 12) (v := .ref b0) (C := RX12) (T := TX12) (N := 60) hx hb hts hw12 hown hK hP 0 rfl rfl 49 (by decide) (hts (.fieldLink RX12 132 "SmokeTuneModel" "burning" "[I") (List.mem_cons_of_mem _ (List.mem_append_left _ (List.mem_of_getElem? (i := 1) rfl)))) (fun _ h9 => h9) rfl dX12_ask_137 ?_
                        refine lv_iload hx hb dX12_ask_140 (lv_at hl 0 rfl) ?_
                        refine va_iald hx hb hK hP 2 0 rfl rfl (i_in rfl (by omega)) dX12_ask_142 ?_
                        refine lv_topi (fun x_4329 ex_4329 => ?_)
                        refine lv_isub hx hb dX12_ask_143 ?_
                        refine lv_topi (fun x_4330 ex_4330 => ?_)
                        refine lv_icmp_le (tgt := 157) hx hb dX12_ask_144 (by decide) (fun c_4331 => ?_) (fun c_4331 => ?_)
                        · have c_4331i := i_le (x := x_4328.toInt) (y := x_4330.toInt) rfl rfl c_4331
                          refine lv_iload_n hx hb dX12_ask_157 rfl (lv_at hl 3 rfl) ?_
                          refine lv_aload_n hx hb dX12_ask_158 rfl (lv_at hl 4 rfl) ?_
                          refine va_get (ci := 12) (v := .ref b0) (C := RX12) (T := TX12) (N := 60) hx hb hts hw12 hown hK hP 0 rfl rfl 49 (by decide) (hts (.fieldLink RX12 132 "SmokeTuneModel" "burning" "[I") (List.mem_cons_of_mem _ (List.mem_append_left _ (List.mem_of_getElem? (i := 1) rfl)))) (fun _ h9 => h9) rfl dX12_ask_159 ?_
                          refine lv_iload hx hb dX12_ask_162 (lv_at hl 0 rfl) ?_
                          refine va_iald hx hb hK hP 2 0 rfl rfl (i_in rfl (by omega)) dX12_ask_164 ?_
                          refine lv_topi (fun x_4332 ex_4332 => ?_)
                          refine lv_isub hx hb dX12_ask_165 ?_
                          refine lv_topi (fun x_4333 ex_4333 => ?_)
                          refine lv_istore (lv' := [(6, .int x_4333), (5, .int v_4187), (4, .int v_4188), (3, .int v_4189), (2, .int v_3724), (0, .ref m0), (1, .int x)]) hx hb dX12_ask_166 hl (by decide) rfl (fun ls hl => ?_)
                          refine lv_iload hx hb dX12_ask_168 (lv_at hl 0 rfl) ?_
                          refine lv_iload hx hb dX12_ask_170 (lv_at hl 2 rfl) ?_
                          refine lv_icmp_ge (tgt := 180) hx hb dX12_ask_172 (by decide) (fun c_4334 => ?_) (fun c_4334 => ?_)
                          · have c_4334i := i_le (x := v_4188.toInt) (y := x_4333.toInt) rfl rfl c_4334
                            refine lv_iload_n hx hb dX12_ask_180 rfl (lv_at hl 3 rfl) ?_
                            refine lv_istore_n (lv' := [(3, .int v_4189), (6, .int x_4333), (5, .int v_4187), (4, .int v_4188), (2, .int v_3724), (0, .ref m0), (1, .int x)]) hx hb dX12_ask_181 rfl hl (by decide) rfl (fun ls hl => ?_)
                            refine lv_iload hx hb dX12_ask_182 (lv_at hl 1 rfl) ?_
                            refine lv_iload hx hb dX12_ask_184 (lv_at hl 3 rfl) ?_
                            refine lv_icmp_ge (tgt := 194) hx hb dX12_ask_186 (by decide) (fun c_4335 => ?_) (fun c_4335 => ?_)
                            · have c_4335i := i_le (x := v_4188.toInt) (y := x_4333.toInt) rfl rfl c_4335
                              refine lv_iload hx hb dX12_ask_194 (lv_at hl 3 rfl) ?_
                              refine lv_istore (lv' := [(4, .int v_4188), (3, .int v_4189), (6, .int x_4333), (5, .int v_4187), (2, .int v_3724), (0, .ref m0), (1, .int x)]) hx hb dX12_ask_196 hl (by decide) rfl (fun ls hl => ?_)
                              obtain ⟨x_4336, ex_4336⟩ : ∃ y : Int32, y = v_4187 + Int32.ofInt 1 := ⟨_, rfl⟩
                              have hx_4336 : x_4336.toInt = (v_4187.toInt + 1) := by rw [ex_4336]; exact i_add rfl (show (Int32.ofInt 1).toInt = 1 from rfl) (by omega)
                              refine lv_iinc (v := x_4336) (lv' := [(5, .int x_4336), (4, .int v_4188), (3, .int v_4189), (6, .int x_4333), (2, .int v_3724), (0, .ref m0), (1, .int x)]) hx hb dX12_ask_198 hl (k := 3) rfl (by rw [ex_4336]) (by decide) rfl (fun ls hl => ?_)
                              refine lv_goto (tgt := 113) hx hb dX12_ask_201 (by decide) ?_
                              exact ih_4290 x_4336 v_4188 v_4189 (by rw [hx_4336]; omega) (by omega) (by omega) (by omega) _ _ hP hD hS ls (lv_sub hl [0, 1, 2, 4, 5, 6] rfl)
                            · have c_4335i := i_nle (x := v_4188.toInt) (y := x_4333.toInt) rfl rfl c_4335
                              refine lv_iload hx hb dX12_ask_189 (lv_at hl 1 rfl) ?_
                              refine lv_goto (tgt := 196) hx hb dX12_ask_191 (by decide) ?_
                              refine lv_istore (lv' := [(4, .int x_4333), (3, .int v_4189), (6, .int x_4333), (5, .int v_4187), (2, .int v_3724), (0, .ref m0), (1, .int x)]) hx hb dX12_ask_196 hl (by decide) rfl (fun ls hl => ?_)
                              obtain ⟨x_4337, ex_4337⟩ : ∃ y : Int32, y = v_4187 + Int32.ofInt 1 := ⟨_, rfl⟩
                              have hx_4337 : x_4337.toInt = (v_4187.toInt + 1) := by rw [ex_4337]; exact i_add rfl (show (Int32.ofInt 1).toInt = 1 from rfl) (by omega)
                              refine lv_iinc (v := x_4337) (lv' := [(5, .int x_4337), (4, .int x_4333), (3, .int v_4189), (6, .int x_4333), (2, .int v_3724), (0, .ref m0), (1, .int x)]) hx hb dX12_ask_198 hl (k := 3) rfl (by rw [ex_4337]) (by decide) rfl (fun ls hl => ?_)
                              refine lv_goto (tgt := 113) hx hb dX12_ask_201 (by decide) ?_
                              exact ih_4290 x_4337 x_4333 v_4189 (by rw [hx_4337]; omega) (by omega) (by omega) (by omega) _ _ hP hD hS ls (lv_sub hl [0, 1, 2, 4, 5, 6] rfl)
                          · have c_4334i := i_nle (x := v_4188.toInt) (y := x_4333.toInt) rfl rfl c_4334
                            refine lv_iload hx hb dX12_ask_175 (lv_at hl 1 rfl) ?_
                            refine lv_goto (tgt := 181) hx hb dX12_ask_177 (by decide) ?_
                            refine lv_istore_n (lv' := [(3, .int v_4187), (6, .int x_4333), (5, .int v_4187), (4, .int v_4188), (2, .int v_3724), (0, .ref m0), (1, .int x)]) hx hb dX12_ask_181 rfl hl (by decide) rfl (fun ls hl => ?_)
                            refine lv_iload hx hb dX12_ask_182 (lv_at hl 1 rfl) ?_
                            refine lv_iload hx hb dX12_ask_184 (lv_at hl 3 rfl) ?_
                            refine lv_icmp_ge (tgt := 194) hx hb dX12_ask_186 (by decide) (fun c_4338 => ?_) (fun c_4338 => ?_)
                            · have c_4338i := i_le (x := v_4188.toInt) (y := x_4333.toInt) rfl rfl c_4338
                              refine lv_iload hx hb dX12_ask_194 (lv_at hl 3 rfl) ?_
                              refine lv_istore (lv' := [(4, .int v_4188), (3, .int v_4187), (6, .int x_4333), (5, .int v_4187), (2, .int v_3724), (0, .ref m0), (1, .int x)]) hx hb dX12_ask_196 hl (by decide) rfl (fun ls hl => ?_)
                              obtain ⟨x_4339, ex_4339⟩ : ∃ y : Int32, y = v_4187 + Int32.ofInt 1 := ⟨_, rfl⟩
                              have hx_4339 : x_4339.toInt = (v_4187.toInt + 1) := by rw [ex_4339]; exact i_add rfl (show (Int32.ofInt 1).toInt = 1 from rfl) (by omega)
                              refine lv_iinc (v := x_4339) (lv' := [(5, .int x_4339), (4, .int v_4188), (3, .int v_4187), (6, .int x_4333), (2, .int v_3724), (0, .ref m0), (1, .int x)]) hx hb dX12_ask_198 hl (k := 3) rfl (by rw [ex_4339]) (by decide) rfl (fun ls hl => ?_)
                              refine lv_goto (tgt := 113) hx hb dX12_ask_201 (by decide) ?_
                              exact ih_4290 x_4339 v_4188 v_4187 (by rw [hx_4339]; omega) (by omega) (by omega) (by omega) _ _ hP hD hS ls (lv_sub hl [0, 1, 2, 4, 5, 6] rfl)
                            · have c_4338i := i_nle (x := v_4188.toInt) (y := x_4333.toInt) rfl rfl c_4338
                              refine lv_iload hx hb dX12_ask_189 (lv_at hl 1 rfl) ?_
                              refine lv_goto (tgt := 196) hx hb dX12_ask_191 (by decide) ?_
                              refine lv_istore (lv' := [(4, .int x_4333), (3, .int v_4187), (6, .int x_4333), (5, .int v_4187), (2, .int v_3724), (0, .ref m0), (1, .int x)]) hx hb dX12_ask_196 hl (by decide) rfl (fun ls hl => ?_)
                              obtain ⟨x_4340, ex_4340⟩ : ∃ y : Int32, y = v_4187 + Int32.ofInt 1 := ⟨_, rfl⟩
                              have hx_4340 : x_4340.toInt = (v_4187.toInt + 1) := by rw [ex_4340]; exact i_add rfl (show (Int32.ofInt 1).toInt = 1 from rfl) (by omega)
                              refine lv_iinc (v := x_4340) (lv' := [(5, .int x_4340), (4, .int x_4333), (3, .int v_4187), (6, .int x_4333), (2, .int v_3724), (0, .ref m0), (1, .int x)]) hx hb dX12_ask_198 hl (k := 3) rfl (by rw [ex_4340]) (by decide) rfl (fun ls hl => ?_)
                              refine lv_goto (tgt := 113) hx hb dX12_ask_201 (by decide) ?_
                              exact ih_4290 x_4340 x_4333 v_4187 (by rw [hx_4340]; omega) (by omega) (by omega) (by omega) _ _ hP hD hS ls (lv_sub hl [0, 1, 2, 4, 5, 6] rfl)
                        · have c_4331i := i_nle (x := x_4328.toInt) (y := x_4330.toInt) rfl rfl c_4331
                          refine lv_aload_n hx hb dX12_ask_147 rfl (lv_at hl 4 rfl) ?_
                          refine va_get (ci := 12) (v := .ref b0) (C := RX12) (T := TX12) (N := 60) hx hb hts hw12 hown hK hP 0 rfl rfl 49 (by decide) (hts (.fieldLink RX12 132 "SmokeTuneModel" "burning" "[I") (List.mem_cons_of_mem _ (List.mem_append_left _ (List.mem_of_getElem? (i := 1) rfl)))) (fun _ h9 => h9) rfl dX12_ask_148 ?_
                          refine lv_iload hx hb dX12_ask_151 (lv_at hl 0 rfl) ?_
                          refine va_iald hx hb hK hP 2 0 rfl rfl (i_in rfl (by omega)) dX12_ask_153 ?_
                          refine lv_topi (fun x_4341 ex_4341 => ?_)
                          refine lv_goto (tgt := 166) hx hb dX12_ask_154 (by decide) ?_
                          refine lv_istore (lv' := [(6, .int x_4341), (5, .int v_4187), (4, .int v_4188), (3, .int v_4189), (2, .int v_3724), (0, .ref m0), (1, .int x)]) hx hb dX12_ask_166 hl (by decide) rfl (fun ls hl => ?_)
                          refine lv_iload hx hb dX12_ask_168 (lv_at hl 0 rfl) ?_
                          refine lv_iload hx hb dX12_ask_170 (lv_at hl 2 rfl) ?_
                          refine lv_icmp_ge (tgt := 180) hx hb dX12_ask_172 (by decide) (fun c_4342 => ?_) (fun c_4342 => ?_)
                          · have c_4342i := i_le (x := v_4188.toInt) (y := x_4341.toInt) rfl rfl c_4342
                            refine lv_iload_n hx hb dX12_ask_180 rfl (lv_at hl 3 rfl) ?_
                            refine lv_istore_n (lv' := [(3, .int v_4189), (6, .int x_4341), (5, .int v_4187), (4, .int v_4188), (2, .int v_3724), (0, .ref m0), (1, .int x)]) hx hb dX12_ask_181 rfl hl (by decide) rfl (fun ls hl => ?_)
                            refine lv_iload hx hb dX12_ask_182 (lv_at hl 1 rfl) ?_
                            refine lv_iload hx hb dX12_ask_184 (lv_at hl 3 rfl) ?_
                            refine lv_icmp_ge (tgt := 194) hx hb dX12_ask_186 (by decide) (fun c_4343 => ?_) (fun c_4343 => ?_)
                            · have c_4343i := i_le (x := v_4188.toInt) (y := x_4341.toInt) rfl rfl c_4343
                              refine lv_iload hx hb dX12_ask_194 (lv_at hl 3 rfl) ?_
                              refine lv_istore (lv' := [(4, .int v_4188), (3, .int v_4189), (6, .int x_4341), (5, .int v_4187), (2, .int v_3724), (0, .ref m0), (1, .int x)]) hx hb dX12_ask_196 hl (by decide) rfl (fun ls hl => ?_)
                              obtain ⟨x_4344, ex_4344⟩ : ∃ y : Int32, y = v_4187 + Int32.ofInt 1 := ⟨_, rfl⟩
                              have hx_4344 : x_4344.toInt = (v_4187.toInt + 1) := by rw [ex_4344]; exact i_add rfl (show (Int32.ofInt 1).toInt = 1 from rfl) (by omega)
                              refine lv_iinc (v := x_4344) (lv' := [(5, .int x_4344), (4, .int v_4188), (3, .int v_4189), (6, .int x_4341), (2, .int v_3724), (0, .ref m0), (1, .int x)]) hx hb dX12_ask_198 hl (k := 3) rfl (by rw [ex_4344]) (by decide) rfl (fun ls hl => ?_)
                              refine lv_goto (tgt := 113) hx hb dX12_ask_201 (by decide) ?_
                              exact ih_4290 x_4344 v_4188 v_4189 (by rw [hx_4344]; omega) (by omega) (by omega) (by omega) _ _ hP hD hS ls (lv_sub hl [0, 1, 2, 4, 5, 6] rfl)
                            · have c_4343i := i_nle (x := v_4188.toInt) (y := x_4341.toInt) rfl rfl c_4343
                              refine lv_iload hx hb dX12_ask_189 (lv_at hl 1 rfl) ?_
                              refine lv_goto (tgt := 196) hx hb dX12_ask_191 (by decide) ?_
                              refine lv_istore (lv' := [(4, .int x_4341), (3, .int v_4189), (6, .int x_4341), (5, .int v_4187), (2, .int v_3724), (0, .ref m0), (1, .int x)]) hx hb dX12_ask_196 hl (by decide) rfl (fun ls hl => ?_)
                              obtain ⟨x_4345, ex_4345⟩ : ∃ y : Int32, y = v_4187 + Int32.ofInt 1 := ⟨_, rfl⟩
                              have hx_4345 : x_4345.toInt = (v_4187.toInt + 1) := by rw [ex_4345]; exact i_add rfl (show (Int32.ofInt 1).toInt = 1 from rfl) (by omega)
                              refine lv_iinc (v := x_4345) (lv' := [(5, .int x_4345), (4, .int x_4341), (3, .int v_4189), (6, .int x_4341), (2, .int v_3724), (0, .ref m0), (1, .int x)]) hx hb dX12_ask_198 hl (k := 3) rfl (by rw [ex_4345]) (by decide) rfl (fun ls hl => ?_)
                              refine lv_goto (tgt := 113) hx hb dX12_ask_201 (by decide) ?_
                              exact ih_4290 x_4345 x_4341 v_4189 (by rw [hx_4345]; omega) (by omega) (by omega) (by omega) _ _ hP hD hS ls (lv_sub hl [0, 1, 2, 4, 5, 6] rfl)
                          · have c_4342i := i_nle (x := v_4188.toInt) (y := x_4341.toInt) rfl rfl c_4342
                            refine lv_iload hx hb dX12_ask_175 (lv_at hl 1 rfl) ?_
                            refine lv_goto (tgt := 181) hx hb dX12_ask_177 (by decide) ?_
                            refine lv_istore_n (lv' := [(3, .int v_4187), (6, .int x_4341), (5, .int v_4187), (4, .int v_4188), (2, .int v_3724), (0, .ref m0), (1, .int x)]) hx hb dX12_ask_181 rfl hl (by decide) rfl (fun ls hl => ?_)
                            refine lv_iload hx hb dX12_ask_182 (lv_at hl 1 rfl) ?_
                            refine lv_iload hx hb dX12_ask_184 (lv_at hl 3 rfl) ?_
                            refine lv_icmp_ge (tgt := 194) hx hb dX12_ask_186 (by decide) (fun c_4346 => ?_) (fun c_4346 => ?_)
                            · have c_4346i := i_le (x := v_4188.toInt) (y := x_4341.toInt) rfl rfl c_4346
                              refine lv_iload hx hb dX12_ask_194 (lv_at hl 3 rfl) ?_
                              refine lv_istore (lv' := [(4, .int v_4188), (3, .int v_4187), (6, .int x_4341), (5, .int v_4187), (2, .int v_3724), (0, .ref m0), (1, .int x)]) hx hb dX12_ask_196 hl (by decide) rfl (fun ls hl => ?_)
                              obtain ⟨x_4347, ex_4347⟩ : ∃ y : Int32, y = v_4187 + Int32.ofInt 1 := ⟨_, rfl⟩
                              have hx_4347 : x_4347.toInt = (v_4187.toInt + 1) := by rw [ex_4347]; exact i_add rfl (show (Int32.ofInt 1).toInt = 1 from rfl) (by omega)
                              refine lv_iinc (v := x_4347) (lv' := [(5, .int x_4347), (4, .int v_4188), (3, .int v_4187), (6, .int x_4341), (2, .int v_3724), (0, .ref m0), (1, .int x)]) hx hb dX12_ask_198 hl (k := 3) rfl (by rw [ex_4347]) (by decide) rfl (fun ls hl => ?_)
                              refine lv_goto (tgt := 113) hx hb dX12_ask_201 (by decide) ?_
                              exact ih_4290 x_4347 v_4188 v_4187 (by rw [hx_4347]; omega) (by omega) (by omega) (by omega) _ _ hP hD hS ls (lv_sub hl [0, 1, 2, 4, 5, 6] rfl)
                            · have c_4346i := i_nle (x := v_4188.toInt) (y := x_4341.toInt) rfl rfl c_4346
                              refine lv_iload hx hb dX12_ask_189 (lv_at hl 1 rfl) ?_
                              refine lv_goto (tgt := 196) hx hb dX12_ask_191 (by decide) ?_
                              refine lv_istore (lv' := [(4, .int x_4341), (3, .int v_4187), (6, .int x_4341), (5, .int v_4187), (2, .int v_3724), (0, .ref m0), (1, .int x)]) hx hb dX12_ask_196 hl (by decide) rfl (fun ls hl => ?_)
                              obtain ⟨x_4348, ex_4348⟩ : ∃ y : Int32, y = v_4187 + Int32.ofInt 1 := ⟨_, rfl⟩
                              have hx_4348 : x_4348.toInt = (v_4187.toInt + 1) := by rw [ex_4348]; exact i_add rfl (show (Int32.ofInt 1).toInt = 1 from rfl) (by omega)
                              refine lv_iinc (v := x_4348) (lv' := [(5, .int x_4348), (4, .int x_4341), (3, .int v_4187), (6, .int x_4341), (2, .int v_3724), (0, .ref m0), (1, .int x)]) hx hb dX12_ask_198 hl (k := 3) rfl (by rw [ex_4348]) (by decide) rfl (fun ls hl => ?_)
                              refine lv_goto (tgt := 113) hx hb dX12_ask_201 (by decide) ?_
                              exact ih_4290 x_4348 x_4341 v_4187 (by rw [hx_4348]; omega) (by omega) (by omega) (by omega) _ _ hP hD hS ls (lv_sub hl [0, 1, 2, 4, 5, 6] rfl)
                exact lp_4289 ((9 - (0 : Int32).toInt : Int).toNat + 1) 0 100000000 (-1) (by decide) (by decide) (by decide) (Nat.lt_succ_self _) _ _ hP hD hS ls (lv_sub hl [0, 1, 2, 3, 4, 5] rfl)
              · have c_4001i := i_nle (x := x_4000.toInt) (y := v_3723.toInt) rfl rfl c_4001
                refine lv_aload_n hx hb dX12_ask_54 rfl (lv_at hl 2 rfl) ?_
                refine lv_iload_n hx hb dX12_ask_55 rfl (lv_at hl 0 rfl) ?_
                refine pci (va_runV (As := [.int v_3723]) (rest := []) ⟨hx, hb, hml, hown, hts⟩ (v_isAsHeard l D K m0 v_3723 (.int 0) m_1 m_2 w0 m_4 m_5 m_6 m_7 m_8 m_9 m_10 m_11 m_12 m_13 m_14 m_15 m_16 m_17 m_18 m_19 m_20 m_21 m_22 m_23 m_24 m_25 m_26 m_27 m_28 m_29 m_30 m_31 m_32 m_33 m_34 m_35 m_36 m_37 m_38 m_39 m_40 m_41 m_42 m_43 m_44 m_45 m_46 m_47 m_48 (.ref b0) m_50 m_51 m_52 m_53 m_54 m_55 m_56 m_57 m_58 m_59 fw H.size zfw) (cwV 1 hts gX12_ask_X12_isAsHeard rfl rfl rfl (by decide +kernel) ⟨Nat.le_of_ble_eq_true rfl, Nat.le_of_ble_eq_true rfl⟩) (mkV hK hN (hP.sub [0, 1] rfl) (hD.sub [0, 1] (by decide) rfl) (ci := 12) (q0 := 0) rfl rfl) rfl rfl hl.1 rfl (lv_room (Nat.le_of_ble_eq_true rfl)) dX12_ask_56 ⟨Nat.le_of_ble_eq_true rfl, Nat.le_of_ble_eq_true rfl⟩) (fun r_4349 hw => ?_)
                obtain ⟨h_4350, -⟩ := hw
                have j_4416 : ∀ (v_4413 : Int32) (f_4414 : Nat → Int32) (H : Heap) (locs : List Loc) (hP : va_P D vwCl [(m0, .inr (12, [.int 0, m_1, m_2, .ref w0, m_4, m_5, m_6, m_7, m_8, m_9, m_10, m_11, m_12, m_13, m_14, m_15, m_16, m_17, m_18, m_19, m_20, m_21, m_22, m_23, m_24, m_25, m_26, m_27, m_28, m_29, m_30, m_31, m_32, m_33, m_34, m_35, m_36, m_37, m_38, m_39, m_40, m_41, m_42, m_43, m_44, m_45, m_46, m_47, m_48, .ref b0, m_50, m_51, m_52, m_53, m_54, m_55, m_56, m_57, m_58, m_59])), (w0, .inl (K 0, 5500, .inl fw)), (b0, .inl (K 0, 8, .inl f_4414))] H) (hD : va_D A [(m0, .inr (12, [.int 0, m_1, m_2, .ref w0, m_4, m_5, m_6, m_7, m_8, m_9, m_10, m_11, m_12, m_13, m_14, m_15, m_16, m_17, m_18, m_19, m_20, m_21, m_22, m_23, m_24, m_25, m_26, m_27, m_28, m_29, m_30, m_31, m_32, m_33, m_34, m_35, m_36, m_37, m_38, m_39, m_40, m_41, m_42, m_43, m_44, m_45, m_46, m_47, m_48, .ref b0, m_50, m_51, m_52, m_53, m_54, m_55, m_56, m_57, m_58, m_59])), (w0, .inl (K 0, 5500, .inl fw)), (b0, .inl (K 0, 8, .inl f_4414))]) (hS : va_S A s.heap H locs) (ls : Array Slot) (hl : lv_has ls 7 [(3, .int v_3723), (2, .int v_4413), (0, .ref m0), (1, .int x)]), W p l e ({ frames := 2, cells := 0, slots := 0, locals := 45 }) s m (([.ref m0, .int x] : List Value).toArray) below meth c H locs 0 0 Q (F0 m 97 ls []) := by
                  intro v_4413 f_4414 H locs hP hD hS ls hl
                  obtain ⟨x_4417, ex_4417⟩ : ∃ y : Int32, y = v_3723 + Int32.ofInt 1 := ⟨_, rfl⟩
                  have hx_4417 : x_4417.toInt = (v_3723.toInt + 1) := by rw [ex_4417]; exact i_add rfl (show (Int32.ofInt 1).toInt = 1 from rfl) (by omega)
                  refine lv_iinc (v := x_4417) (lv' := [(3, .int x_4417), (2, .int v_4413), (0, .ref m0), (1, .int x)]) hx hb dX12_ask_97 hl (k := 0) rfl (by rw [ex_4417]) (by decide) rfl (fun ls hl => ?_)
                  refine lv_goto (tgt := 42) hx hb dX12_ask_100 (by decide) ?_
                  exact ih_3998 x_4417 v_4413 f_4414 (by rw [hx_4417]; omega) (by omega) _ _ hP hD hS ls (lv_sub hl [0, 1, 2, 3] rfl)
                refine lv_if_eq (tgt := 97) hx hb dX12_ask_59 (by decide) (fun c_4418 => ?_) (fun c_4418 => ?_)
                · have c_4418i := i_eq (x := r_4349.toInt) (y := 0) rfl rfl c_4418
                  exact j_4416 v_3724 f_3725  _ _ hP hD hS ls (lv_sub hl [0, 1, 2, 3] rfl)
                · have c_4418i := i_ne (x := r_4349.toInt) (y := 0) rfl rfl c_4418
                  obtain ⟨x_4419, ex_4419⟩ : ∃ y : Int32, y = v_3724 + Int32.ofInt 1 := ⟨_, rfl⟩
                  refine lv_iinc (v := x_4419) (lv' := [(2, .int x_4419), (3, .int v_3723), (0, .ref m0), (1, .int x)]) hx hb dX12_ask_62 hl (k := 1) rfl (by rw [ex_4419]) (by decide) rfl (fun ls hl => ?_)
                  refine lv_iconst (v := 0) hx hb dX12_ask_65 (by decide) ?_
                  refine lv_istore (lv' := [(4, .int 0), (2, .int x_4419), (3, .int v_3723), (0, .ref m0), (1, .int x)]) hx hb dX12_ask_66 hl (by decide) rfl (fun ls hl => ?_)
                  have lp_4471 : ∀ (nn_ : Nat) (v_4453 : Int32) (f_4454 : Nat → Int32) (hv_4453 : 0 ≤ v_4453.toInt ∧ v_4453.toInt ≤ 8) (hn : (9 - v_4453.toInt : Int).toNat < nn_) (H : Heap) (locs : List Loc) (hP : va_P D vwCl [(m0, .inr (12, [.int 0, m_1, m_2, .ref w0, m_4, m_5, m_6, m_7, m_8, m_9, m_10, m_11, m_12, m_13, m_14, m_15, m_16, m_17, m_18, m_19, m_20, m_21, m_22, m_23, m_24, m_25, m_26, m_27, m_28, m_29, m_30, m_31, m_32, m_33, m_34, m_35, m_36, m_37, m_38, m_39, m_40, m_41, m_42, m_43, m_44, m_45, m_46, m_47, m_48, .ref b0, m_50, m_51, m_52, m_53, m_54, m_55, m_56, m_57, m_58, m_59])), (w0, .inl (K 0, 5500, .inl fw)), (b0, .inl (K 0, 8, .inl f_4454))] H) (hD : va_D A [(m0, .inr (12, [.int 0, m_1, m_2, .ref w0, m_4, m_5, m_6, m_7, m_8, m_9, m_10, m_11, m_12, m_13, m_14, m_15, m_16, m_17, m_18, m_19, m_20, m_21, m_22, m_23, m_24, m_25, m_26, m_27, m_28, m_29, m_30, m_31, m_32, m_33, m_34, m_35, m_36, m_37, m_38, m_39, m_40, m_41, m_42, m_43, m_44, m_45, m_46, m_47, m_48, .ref b0, m_50, m_51, m_52, m_53, m_54, m_55, m_56, m_57, m_58, m_59])), (w0, .inl (K 0, 5500, .inl fw)), (b0, .inl (K 0, 8, .inl f_4454))]) (hS : va_S A s.heap H locs) (ls : Array Slot) (hl : lv_has ls 7 [(4, .int v_4453), (2, .int x_4419), (3, .int v_3723), (0, .ref m0), (1, .int x)]), W p l e ({ frames := 2, cells := 0, slots := 0, locals := 45 }) s m (([.ref m0, .int x] : List Value).toArray) below meth c H locs 0 0 Q (F0 m 68 ls []) := by
                    intro nn_
                    induction nn_ with
                    | zero =>
                      intro v_4453 f_4454 hv_4453 hn H locs hP hD hS ls hl
                      exact absurd hn (Nat.not_lt_zero _)
                    | succ nn_ ih_4472 =>
                      intro v_4453 f_4454 hv_4453 hn H locs hP hD hS ls hl
                      refine lv_iload hx hb dX12_ask_68 (lv_at hl 0 rfl) ?_
                      refine lv_bipush (v := 8) hx hb dX12_ask_70 (by decide) ?_
                      refine lv_icmp_ge (tgt := 97) hx hb dX12_ask_72 (by decide) (fun c_4473 => ?_) (fun c_4473 => ?_)
                      · have c_4473i := i_le (x := 8) (y := v_4453.toInt) rfl rfl c_4473
                        exact j_4416 x_4419 f_4454  _ _ hP hD hS ls (lv_sub hl [2, 1, 3, 4] rfl)
                      · have c_4473i := i_nle (x := 8) (y := v_4453.toInt) rfl rfl c_4473
                        refine lv_aload_n hx hb dX12_ask_75 rfl (lv_at hl 3 rfl) ?_
                        refine va_get (ci := 12) (v := .ref b0) (C := RX12) (T := TX12) (N := 60) hx hb hts hw12 hown hK hP 0 rfl rfl 49 (by decide) (hts (.fieldLink RX12 132 "SmokeTuneModel" "burning" "[I") (List.mem_cons_of_mem _ (List.mem_append_left _ (List.mem_of_getElem? (i := 1) rfl)))) (fun _ h9 => h9) rfl dX12_ask_76 ?_
                        refine lv_iload hx hb dX12_ask_79 (lv_at hl 0 rfl) ?_
                        refine lv_dup2_11 hx hb dX12_ask_81 rfl rfl ?_
                        refine va_iald hx hb hK hP 2 0 rfl rfl (i_in rfl (by omega)) dX12_ask_82 ?_
                        refine lv_topi (fun x_4474 ex_4474 => ?_)
                        refine lv_iload_n hx hb dX12_ask_83 rfl (lv_at hl 2 rfl) ?_
                        refine lv_iload hx hb dX12_ask_84 (lv_at hl 0 rfl) ?_
                        refine lv_ishr hx hb dX12_ask_86 ?_
                        refine lv_topi (fun x_4475 ex_4475 => ?_)
                        have hx_4475 : 0 ≤ x_4475.toInt ∧ x_4475.toInt ≤ v_3723.toInt := by rw [ex_4475]; exact i_shr rfl (by omega)
                        refine lv_iconst (v := 1) hx hb dX12_ask_87 (by decide) ?_
                        refine lv_iand hx hb dX12_ask_88 ?_
                        refine lv_topi (fun x_4476 ex_4476 => ?_)
                        have hx_4476 : 0 ≤ x_4476.toInt ∧ x_4476.toInt ≤ 1 := by rw [ex_4476]; exact i_mask x_4475 1 rfl (by decide)
                        refine lv_iadd hx hb dX12_ask_89 ?_
                        refine lv_topi (fun x_4477 ex_4477 => ?_)
                        refine va_iast hx hb hK hP hD hS 2 0 rfl rfl (i_in rfl (by omega)) dX12_ask_90 (fun H locs hP hD hS => ?_)
                        generalize hf_4478 : (upd f_4454 (v_4453 : Int32).toNatClampNeg x_4477) = f_4478 at hP hD
                        have hP : va_P D vwCl [(m0, .inr (12, [.int 0, m_1, m_2, .ref w0, m_4, m_5, m_6, m_7, m_8, m_9, m_10, m_11, m_12, m_13, m_14, m_15, m_16, m_17, m_18, m_19, m_20, m_21, m_22, m_23, m_24, m_25, m_26, m_27, m_28, m_29, m_30, m_31, m_32, m_33, m_34, m_35, m_36, m_37, m_38, m_39, m_40, m_41, m_42, m_43, m_44, m_45, m_46, m_47, m_48, .ref b0, m_50, m_51, m_52, m_53, m_54, m_55, m_56, m_57, m_58, m_59])), (w0, .inl (K 0, 5500, .inl fw)), (b0, .inl (K 0, 8, .inl f_4478))] H := hP
                        have hD : va_D A [(m0, .inr (12, [.int 0, m_1, m_2, .ref w0, m_4, m_5, m_6, m_7, m_8, m_9, m_10, m_11, m_12, m_13, m_14, m_15, m_16, m_17, m_18, m_19, m_20, m_21, m_22, m_23, m_24, m_25, m_26, m_27, m_28, m_29, m_30, m_31, m_32, m_33, m_34, m_35, m_36, m_37, m_38, m_39, m_40, m_41, m_42, m_43, m_44, m_45, m_46, m_47, m_48, .ref b0, m_50, m_51, m_52, m_53, m_54, m_55, m_56, m_57, m_58, m_59])), (w0, .inl (K 0, 5500, .inl fw)), (b0, .inl (K 0, 8, .inl f_4478))] := hD
                        obtain ⟨x_4479, ex_4479⟩ : ∃ y : Int32, y = v_4453 + Int32.ofInt 1 := ⟨_, rfl⟩
                        have hx_4479 : x_4479.toInt = (v_4453.toInt + 1) := by rw [ex_4479]; exact i_add rfl (show (Int32.ofInt 1).toInt = 1 from rfl) (by omega)
                        refine lv_iinc (v := x_4479) (lv' := [(4, .int x_4479), (2, .int x_4419), (3, .int v_3723), (0, .ref m0), (1, .int x)]) hx hb dX12_ask_91 hl (k := 0) rfl (by rw [ex_4479]) (by decide) rfl (fun ls hl => ?_)
                        refine lv_goto (tgt := 68) hx hb dX12_ask_94 (by decide) ?_
                        exact ih_4472 x_4479 f_4478 (by rw [hx_4479]; omega) (by omega) _ _ hP hD hS ls (lv_sub hl [0, 1, 2, 3, 4] rfl)
                  exact lp_4471 ((9 - (0 : Int32).toInt : Int).toNat + 1) 0 f_3725 (by decide) (Nat.lt_succ_self _) _ _ hP hD hS ls (lv_sub hl [0, 1, 2, 3, 4] rfl)
          exact lp_3997 ((257 - (0 : Int32).toInt : Int).toNat + 1) 0 0 f_3033 (by decide) (Nat.lt_succ_self _) _ _ hP hD hS ls (lv_sub hl [0, 1, 2, 3] rfl)
        · have c_3044i := i_nle (x := 8) (y := v_3032.toInt) rfl rfl c_3044
          refine lv_aload_n hx hb dX12_ask_27 rfl (lv_at hl 2 rfl) ?_
          refine va_get (ci := 12) (v := .ref b0) (C := RX12) (T := TX12) (N := 60) hx hb hts hw12 hown hK hP 0 rfl rfl 49 (by decide) (hts (.fieldLink RX12 132 "SmokeTuneModel" "burning" "[I") (List.mem_cons_of_mem _ (List.mem_append_left _ (List.mem_of_getElem? (i := 1) rfl)))) (fun _ h9 => h9) rfl dX12_ask_28 ?_
          refine lv_iload_n hx hb dX12_ask_31 rfl (lv_at hl 0 rfl) ?_
          refine lv_iconst (v := 0) hx hb dX12_ask_32 (by decide) ?_
          refine va_iast hx hb hK hP hD hS 2 0 rfl rfl (i_in rfl (by omega)) dX12_ask_33 (fun H locs hP hD hS => ?_)
          generalize hf_4480 : (upd f_3033 (v_3032 : Int32).toNatClampNeg 0) = f_4480 at hP hD
          have hP : va_P D vwCl [(m0, .inr (12, [.int 0, m_1, m_2, .ref w0, m_4, m_5, m_6, m_7, m_8, m_9, m_10, m_11, m_12, m_13, m_14, m_15, m_16, m_17, m_18, m_19, m_20, m_21, m_22, m_23, m_24, m_25, m_26, m_27, m_28, m_29, m_30, m_31, m_32, m_33, m_34, m_35, m_36, m_37, m_38, m_39, m_40, m_41, m_42, m_43, m_44, m_45, m_46, m_47, m_48, .ref b0, m_50, m_51, m_52, m_53, m_54, m_55, m_56, m_57, m_58, m_59])), (w0, .inl (K 0, 5500, .inl fw)), (b0, .inl (K 0, 8, .inl f_4480))] H := hP
          have hD : va_D A [(m0, .inr (12, [.int 0, m_1, m_2, .ref w0, m_4, m_5, m_6, m_7, m_8, m_9, m_10, m_11, m_12, m_13, m_14, m_15, m_16, m_17, m_18, m_19, m_20, m_21, m_22, m_23, m_24, m_25, m_26, m_27, m_28, m_29, m_30, m_31, m_32, m_33, m_34, m_35, m_36, m_37, m_38, m_39, m_40, m_41, m_42, m_43, m_44, m_45, m_46, m_47, m_48, .ref b0, m_50, m_51, m_52, m_53, m_54, m_55, m_56, m_57, m_58, m_59])), (w0, .inl (K 0, 5500, .inl fw)), (b0, .inl (K 0, 8, .inl f_4480))] := hD
          obtain ⟨x_4481, ex_4481⟩ : ∃ y : Int32, y = v_3032 + Int32.ofInt 1 := ⟨_, rfl⟩
          have hx_4481 : x_4481.toInt = (v_3032.toInt + 1) := by rw [ex_4481]; exact i_add rfl (show (Int32.ofInt 1).toInt = 1 from rfl) (by omega)
          refine lv_iinc (v := x_4481) (lv' := [(3, .int x_4481), (2, .int 0), (0, .ref m0), (1, .int x)]) hx hb dX12_ask_34 hl (k := 0) rfl (by rw [ex_4481]) (by decide) rfl (fun ls hl => ?_)
          refine lv_goto (tgt := 21) hx hb dX12_ask_37 (by decide) ?_
          exact ih_3043 x_4481 f_4480 (by rw [hx_4481]; omega) (by omega) _ _ hP hD hS ls (lv_sub hl [0, 1, 2, 3] rfl)
    exact lp_3042 ((9 - (0 : Int32).toInt : Int).toNat + 1) 0 fb (by decide) (Nat.lt_succ_self _) _ _ hP hD hS ls (lv_sub hl [0, 1, 2, 3] rfl)
  · refine lv_if_ne (tgt := 17) hx hb dX12_ask_12 (by decide) (fun c_4482 => absurd (by decide) c_4482) (fun c_4482 => ?_)
    refine lv_iconst (v := (-1)) hx hb dX12_ask_15 (by decide) ?_
    rw [← hQ]
    have hP9 := hP.sub (ws' := [(m0, .inr (12, [.int 0, m_1, m_2, .ref w0, m_4, m_5, m_6, m_7, m_8, m_9, m_10, m_11, m_12, m_13, m_14, m_15, m_16, m_17, m_18, m_19, m_20, m_21, m_22, m_23, m_24, m_25, m_26, m_27, m_28, m_29, m_30, m_31, m_32, m_33, m_34, m_35, m_36, m_37, m_38, m_39, m_40, m_41, m_42, m_43, m_44, m_45, m_46, m_47, m_48, .ref b0, m_50, m_51, m_52, m_53, m_54, m_55, m_56, m_57, m_58, m_59])), (w0, .inl (K 0, 5500, .inl fw)), (b0, .inl (K 0, 8, .inl fb))]) [0, 1, 2] rfl
    have hD9 := hD.sub (ws' := [(m0, .inr (12, [.int 0, m_1, m_2, .ref w0, m_4, m_5, m_6, m_7, m_8, m_9, m_10, m_11, m_12, m_13, m_14, m_15, m_16, m_17, m_18, m_19, m_20, m_21, m_22, m_23, m_24, m_25, m_26, m_27, m_28, m_29, m_30, m_31, m_32, m_33, m_34, m_35, m_36, m_37, m_38, m_39, m_40, m_41, m_42, m_43, m_44, m_45, m_46, m_47, m_48, .ref b0, m_50, m_51, m_52, m_53, m_54, m_55, m_56, m_57, m_58, m_59])), (w0, .inl (K 0, 5500, .inl fw)), (b0, .inl (K 0, 8, .inl fb))]) [0, 1, 2] (by decide) rfl
    exact W.iret (v := (-1)) hx hb hr (fun t ht hW => ⟨⟨(-1), ((fun _ => 0, fun i => match i with | _ => fb, fun _ => fun _ => 0, fun _ => 0, fun _ => 0, fun _ => fun _ => none) : Su), rfl, trivial, (⟨by rw [ht]; exact hP9, hD9⟩ : Wd D A _ t)⟩, hS.F ht⟩) hS.2.2 dX12_ask_16
set_option maxHeartbeats 4000000 in
set_option maxRecDepth 100000 in
theorem v_chance (l : Launch) (D : va_G) (K : Nat → ClassId) (m0 : Nat) (x : Int32) (thr : Int32) (m_1 : Value) (m_2 : Value) (w0 : Nat) (m_4 : Value) (m_5 : Value) (m_6 : Value) (m_7 : Value) (m_8 : Value) (m_9 : Value) (m_10 : Value) (m_11 : Value) (m_12 : Value) (m_13 : Value) (m_14 : Value) (m_15 : Value) (m_16 : Value) (m_17 : Value) (m_18 : Value) (m_19 : Value) (m_20 : Value) (m_21 : Value) (m_22 : Value) (m_23 : Value) (m_24 : Value) (m_25 : Value) (m_26 : Value) (m_27 : Value) (m_28 : Value) (m_29 : Value) (m_30 : Value) (m_31 : Value) (m_32 : Value) (m_33 : Value) (m_34 : Value) (m_35 : Value) (m_36 : Value) (m_37 : Value) (m_38 : Value) (m_39 : Value) (m_40 : Value) (m_41 : Value) (m_42 : Value) (m_43 : Value) (m_44 : Value) (m_45 : Value) (m_46 : Value) (m_47 : Value) (m_48 : Value) (m_49 : Value) (m_50 : Value) (m_51 : Value) (m_52 : Value) (m_53 : Value) (m_54 : Value) (m_55 : Value) (m_56 : Value) (m_57 : Value) (m_58 : Value) (m_59 : Value) (fw : Nat → Int32) (sz : Nat) (zfw : RwOK fw) : Met l yX12_chance wsX12_chance ({ frames := 3, cells := 0, slots := 0, locals := 69 }) (va_Pc [.ref m0, .int x] (Pre D K [(m0, .inr (12, [.int thr, m_1, m_2, .ref w0, m_4, m_5, m_6, m_7, m_8, m_9, m_10, m_11, m_12, m_13, m_14, m_15, m_16, m_17, m_18, m_19, m_20, m_21, m_22, m_23, m_24, m_25, m_26, m_27, m_28, m_29, m_30, m_31, m_32, m_33, m_34, m_35, m_36, m_37, m_38, m_39, m_40, m_41, m_42, m_43, m_44, m_45, m_46, m_47, m_48, m_49, m_50, m_51, m_52, m_53, m_54, m_55, m_56, m_57, m_58, m_59])), (w0, .inl (K 0, 5500, .inl fw))] sz)) (va_Ql (S := Su) (fun (r : Int64) (u : Su) => True) (fun u t => Wd D (va_A [(m0, .inr (12, [.int thr, m_1, m_2, .ref w0, m_4, m_5, m_6, m_7, m_8, m_9, m_10, m_11, m_12, m_13, m_14, m_15, m_16, m_17, m_18, m_19, m_20, m_21, m_22, m_23, m_24, m_25, m_26, m_27, m_28, m_29, m_30, m_31, m_32, m_33, m_34, m_35, m_36, m_37, m_38, m_39, m_40, m_41, m_42, m_43, m_44, m_45, m_46, m_47, m_48, m_49, m_50, m_51, m_52, m_53, m_54, m_55, m_56, m_57, m_58, m_59])), (w0, .inl (K 0, 5500, .inl fw))] sz) ((fun u => [(m0, .inr (12, [.int 0, m_1, m_2, .ref w0, m_4, m_5, m_6, m_7, m_8, m_9, m_10, m_11, m_12, m_13, m_14, m_15, m_16, m_17, m_18, m_19, m_20, m_21, m_22, m_23, m_24, m_25, m_26, m_27, m_28, m_29, m_30, m_31, m_32, m_33, m_34, m_35, m_36, m_37, m_38, m_39, m_40, m_41, m_42, m_43, m_44, m_45, m_46, m_47, m_48, m_49, m_50, m_51, m_52, m_53, m_54, m_55, m_56, m_57, m_58, m_59])), (w0, .inl (K 0, 5500, .inl fw))]) u) t) (va_A [(m0, .inr (12, [.int thr, m_1, m_2, .ref w0, m_4, m_5, m_6, m_7, m_8, m_9, m_10, m_11, m_12, m_13, m_14, m_15, m_16, m_17, m_18, m_19, m_20, m_21, m_22, m_23, m_24, m_25, m_26, m_27, m_28, m_29, m_30, m_31, m_32, m_33, m_34, m_35, m_36, m_37, m_38, m_39, m_40, m_41, m_42, m_43, m_44, m_45, m_46, m_47, m_48, m_49, m_50, m_51, m_52, m_53, m_54, m_55, m_56, m_57, m_58, m_59])), (w0, .inl (K 0, 5500, .inl fw))] sz)) 0 0 (va_A [(m0, .inr (12, [.int thr, m_1, m_2, .ref w0, m_4, m_5, m_6, m_7, m_8, m_9, m_10, m_11, m_12, m_13, m_14, m_15, m_16, m_17, m_18, m_19, m_20, m_21, m_22, m_23, m_24, m_25, m_26, m_27, m_28, m_29, m_30, m_31, m_32, m_33, m_34, m_35, m_36, m_37, m_38, m_39, m_40, m_41, m_42, m_43, m_44, m_45, m_46, m_47, m_48, m_49, m_50, m_51, m_52, m_53, m_54, m_55, m_56, m_57, m_58, m_59])), (w0, .inl (K 0, 5500, .inl fw))] sz) := by
  refine Met.ofW (cc := cX12_chance) (maxL := 8) (ret := (some .long)) (by decide) rfl ?_
  intro p e s m args below meth c s₁ B hml hv
  obtain ⟨rfl, hsz, hP, hK, hD0, hN⟩ := hv
  have hx := B.exec
  have hb := B.bytes
  have hr := B.returns
  have hts := atoms_spec (ws := wsX12_chance) B.pre
  have hown : s.vm.findClass RX12 = some m.cls := findClass_of_methodNamed B.named
  have hlocks := B.notSynchronized
  subst hsz
  have hD := hD0.self (sz := s.heap.size)
  generalize hAe : va_A [(m0, .inr (12, [.int thr, m_1, m_2, .ref w0, m_4, m_5, m_6, m_7, m_8, m_9, m_10, m_11, m_12, m_13, m_14, m_15, m_16, m_17, m_18, m_19, m_20, m_21, m_22, m_23, m_24, m_25, m_26, m_27, m_28, m_29, m_30, m_31, m_32, m_33, m_34, m_35, m_36, m_37, m_38, m_39, m_40, m_41, m_42, m_43, m_44, m_45, m_46, m_47, m_48, m_49, m_50, m_51, m_52, m_53, m_54, m_55, m_56, m_57, m_58, m_59])), (w0, .inl (K 0, 5500, .inl fw))] s.heap.size = A at hD ⊢
  have hA : ∀ q : Nat, s.heap.size ≤ q → A q := fun q h => by rw [← hAe]; exact Or.inr h
  have hS : va_S A s.heap s.heap [] := va_S.rf
  have hP : va_P D vwCl [(m0, .inr (12, [.int thr, m_1, m_2, .ref w0, m_4, m_5, m_6, m_7, m_8, m_9, m_10, m_11, m_12, m_13, m_14, m_15, m_16, m_17, m_18, m_19, m_20, m_21, m_22, m_23, m_24, m_25, m_26, m_27, m_28, m_29, m_30, m_31, m_32, m_33, m_34, m_35, m_36, m_37, m_38, m_39, m_40, m_41, m_42, m_43, m_44, m_45, m_46, m_47, m_48, m_49, m_50, m_51, m_52, m_53, m_54, m_55, m_56, m_57, m_58, m_59])), (w0, .inl (K 0, 5500, .inl fw))] s.heap := hP
  have hl := lv_entry [.ref m0, .int x] (n := 8) (Nat.le_of_ble_eq_true rfl)
  rw [lg_entry_eq]
  generalize (lg_sl [.ref m0, .int x] ++ List.replicate (8 - (lg_sl [.ref m0, .int x]).length) Slot.unset).toArray = ls at hl ⊢
  have hl : lv_has ls 8 [(0, .ref m0), (1, .int x)] := hl
  have hw12 : ∀ w ∈ wsX120, w ∈ wsX12_chance := fun w h => (List.mem_cons_of_mem _ (List.mem_append_right _ h))
  generalize hQ : MQ below _ _ s _ _ _ = Q
  refine lv_aload_n hx hb dX12_chance_0 rfl (lv_at hl 0 rfl) ?_
  refine lv_iconst (v := 0) hx hb dX12_chance_1 (by decide) ?_
  refine va_put (ci := 12) (v := .int 0) (ty := .int) (C := RX12) (T := TX12) (N := 60) hx hb hts hw12 tyX12 tyX12_ok nmX12 hown hK hP hD hS 0 rfl rfl 0 (by decide) (hts (.fieldLink RX12 158 "SmokeTuneModel" "thrown" "I") (List.mem_cons_of_mem _ (List.mem_append_left _ (List.mem_append_left _ (List.mem_of_getElem? (i := 0) rfl))))) (fun _ h9 => h9) rfl (by decide +kernel) (by first | rfl | decide) (by first | rfl | decide) (Nat.le_of_ble_eq_true rfl) dX12_chance_2 (fun H locs hP hD hS => ?_)
  have hP : va_P D vwCl [(m0, .inr (12, [.int 0, m_1, m_2, .ref w0, m_4, m_5, m_6, m_7, m_8, m_9, m_10, m_11, m_12, m_13, m_14, m_15, m_16, m_17, m_18, m_19, m_20, m_21, m_22, m_23, m_24, m_25, m_26, m_27, m_28, m_29, m_30, m_31, m_32, m_33, m_34, m_35, m_36, m_37, m_38, m_39, m_40, m_41, m_42, m_43, m_44, m_45, m_46, m_47, m_48, m_49, m_50, m_51, m_52, m_53, m_54, m_55, m_56, m_57, m_58, m_59])), (w0, .inl (K 0, 5500, .inl fw))] H := hP
  have hD : va_D A [(m0, .inr (12, [.int 0, m_1, m_2, .ref w0, m_4, m_5, m_6, m_7, m_8, m_9, m_10, m_11, m_12, m_13, m_14, m_15, m_16, m_17, m_18, m_19, m_20, m_21, m_22, m_23, m_24, m_25, m_26, m_27, m_28, m_29, m_30, m_31, m_32, m_33, m_34, m_35, m_36, m_37, m_38, m_39, m_40, m_41, m_42, m_43, m_44, m_45, m_46, m_47, m_48, m_49, m_50, m_51, m_52, m_53, m_54, m_55, m_56, m_57, m_58, m_59])), (w0, .inl (K 0, 5500, .inl fw))] := hD
  refine lv_iload_n hx hb dX12_chance_5 rfl (lv_at hl 1 rfl) ?_
  refine lv_i2l hx hb dX12_chance_6 rfl ?_
  refine lv_topl (fun x_1397 ex_1397 => ?_)
  have hx_1397 : x_1397.toInt = x.toInt := by rw [ex_1397]; exact i_wide rfl
  have hbx_1397 := i_rng (a := x) rfl
  refine lv_lconst (v := 0) hx hb dX12_chance_7 (by decide) ?_
  refine lv_ldc2 (v := 127) hx hb hown (hts (.constantLong RX12 212 (127)) (List.mem_cons_of_mem _ (List.mem_append_left _ (List.mem_append_left _ (List.mem_of_getElem? (i := 1) rfl))))) dX12_chance_8 ?_
  refine pci (va_runS (As := [.long x_1397, .long 0, .long 127]) (rest := []) ⟨hx, hb, hml, hown, hts⟩ (v_in l D K x.toInt 0 127 x_1397 0 127 H.size hx_1397 (show (0 : Int64).toInt = 0 from rfl) (show (127 : Int64).toInt = 127 from rfl)) (va_cwS 3 hts gX12_chance_X12_in rfl rfl rfl (by decide +kernel) ⟨Nat.le_of_ble_eq_true rfl, Nat.le_of_ble_eq_true rfl⟩) (mkS hK hN (va_P.nil) (va_D.nil (A := fun _ => True))) rfl rfl hl.1 rfl (lv_room (Nat.le_of_ble_eq_true rfl)) dX12_chance_11 ⟨Nat.le_of_ble_eq_true rfl, Nat.le_of_ble_eq_true rfl⟩) (fun r_1398 hw => ?_)
  obtain ⟨hw, -⟩ := hw
  rcases hw with ⟨rfl, h_1399, h_1400⟩ | ⟨rfl, h_1401⟩
  · refine lv_if_ne (tgt := 21) hx hb dX12_chance_14 (by decide) (fun c_1402 => ?_) (fun c_1402 => absurd c_1402 (by decide))
    refine lv_ldc2 (v := 1000000000000) hx hb hown (hts (.constantLong RX12 518 (1000000000000)) (List.mem_cons_of_mem _ (List.mem_append_left _ (List.mem_append_left _ (List.mem_of_getElem? (i := 3) rfl))))) dX12_chance_21 ?_
    refine lv_lstore_n (lv' := [(2, .long 1000000000000), (0, .ref m0), (1, .int x)]) hx hb dX12_chance_24 rfl hl (by decide) rfl (fun ls hl => ?_)
    refine lv_iconst (v := 0) hx hb dX12_chance_25 (by decide) ?_
    refine lv_istore (lv' := [(4, .int 0), (2, .long 1000000000000), (0, .ref m0), (1, .int x)]) hx hb dX12_chance_26 hl (by decide) rfl (fun ls hl => ?_)
    have lp_1969 : ∀ (nn_ : Nat) (v_1779 : Int32) (v_1780 : Int64) (hv_1779 : 0 ≤ v_1779.toInt ∧ v_1779.toInt ≤ 7) (hn : (8 - v_1779.toInt : Int).toNat < nn_) (H : Heap) (locs : List Loc) (hP : va_P D vwCl [(m0, .inr (12, [.int 0, m_1, m_2, .ref w0, m_4, m_5, m_6, m_7, m_8, m_9, m_10, m_11, m_12, m_13, m_14, m_15, m_16, m_17, m_18, m_19, m_20, m_21, m_22, m_23, m_24, m_25, m_26, m_27, m_28, m_29, m_30, m_31, m_32, m_33, m_34, m_35, m_36, m_37, m_38, m_39, m_40, m_41, m_42, m_43, m_44, m_45, m_46, m_47, m_48, m_49, m_50, m_51, m_52, m_53, m_54, m_55, m_56, m_57, m_58, m_59])), (w0, .inl (K 0, 5500, .inl fw))] H) (hD : va_D A [(m0, .inr (12, [.int 0, m_1, m_2, .ref w0, m_4, m_5, m_6, m_7, m_8, m_9, m_10, m_11, m_12, m_13, m_14, m_15, m_16, m_17, m_18, m_19, m_20, m_21, m_22, m_23, m_24, m_25, m_26, m_27, m_28, m_29, m_30, m_31, m_32, m_33, m_34, m_35, m_36, m_37, m_38, m_39, m_40, m_41, m_42, m_43, m_44, m_45, m_46, m_47, m_48, m_49, m_50, m_51, m_52, m_53, m_54, m_55, m_56, m_57, m_58, m_59])), (w0, .inl (K 0, 5500, .inl fw))]) (hS : va_S A s.heap H locs) (ls : Array Slot) (hl : lv_has ls 8 [(4, .int v_1779), (2, .long v_1780), (0, .ref m0), (1, .int x)]), W p l e ({ frames := 3, cells := 0, slots := 0, locals := 69 }) s m (([.ref m0, .int x] : List Value).toArray) below meth c H locs 0 0 Q (F0 m 28 ls []) := by
      intro nn_
      induction nn_ with
      | zero =>
        intro v_1779 v_1780 hv_1779 hn H locs hP hD hS ls hl
        exact absurd hn (Nat.not_lt_zero _)
      | succ nn_ ih_1970 =>
        intro v_1779 v_1780 hv_1779 hn H locs hP hD hS ls hl
        refine lv_iload hx hb dX12_chance_28 (lv_at hl 0 rfl) ?_
        refine lv_bipush (v := 7) hx hb dX12_chance_30 (by decide) ?_
        refine lv_icmp_ge (tgt := 92) hx hb dX12_chance_32 (by decide) (fun c_1971 => ?_) (fun c_1971 => ?_)
        · have c_1971i := i_le (x := 7) (y := v_1779.toInt) rfl rfl c_1971
          refine lv_lload_n hx hb dX12_chance_92 rfl (lv_at hl 1 rfl) ?_
          rw [← hQ]
          have hP9 := hP.sub (ws' := [(m0, .inr (12, [.int 0, m_1, m_2, .ref w0, m_4, m_5, m_6, m_7, m_8, m_9, m_10, m_11, m_12, m_13, m_14, m_15, m_16, m_17, m_18, m_19, m_20, m_21, m_22, m_23, m_24, m_25, m_26, m_27, m_28, m_29, m_30, m_31, m_32, m_33, m_34, m_35, m_36, m_37, m_38, m_39, m_40, m_41, m_42, m_43, m_44, m_45, m_46, m_47, m_48, m_49, m_50, m_51, m_52, m_53, m_54, m_55, m_56, m_57, m_58, m_59])), (w0, .inl (K 0, 5500, .inl fw))]) [0, 1] rfl
          have hD9 := hD.sub (ws' := [(m0, .inr (12, [.int 0, m_1, m_2, .ref w0, m_4, m_5, m_6, m_7, m_8, m_9, m_10, m_11, m_12, m_13, m_14, m_15, m_16, m_17, m_18, m_19, m_20, m_21, m_22, m_23, m_24, m_25, m_26, m_27, m_28, m_29, m_30, m_31, m_32, m_33, m_34, m_35, m_36, m_37, m_38, m_39, m_40, m_41, m_42, m_43, m_44, m_45, m_46, m_47, m_48, m_49, m_50, m_51, m_52, m_53, m_54, m_55, m_56, m_57, m_58, m_59])), (w0, .inl (K 0, 5500, .inl fw))]) [0, 1] (by decide) rfl
          exact W.lret (v := v_1780) hx hb hr (fun t ht hW => ⟨⟨v_1780, ((fun _ => 0, fun _ => fun _ => 0, fun _ => fun _ => 0, fun _ => 0, fun _ => 0, fun _ => fun _ => none) : Su), rfl, trivial, (⟨by rw [ht]; exact hP9, hD9⟩ : Wd D A _ t)⟩, hS.F ht⟩) hS.2.2 dX12_chance_93
        · have c_1971i := i_nle (x := 7) (y := v_1779.toInt) rfl rfl c_1971
          refine lv_iload_n hx hb dX12_chance_35 rfl (lv_at hl 3 rfl) ?_
          refine lv_iload hx hb dX12_chance_36 (lv_at hl 0 rfl) ?_
          have j_2018 : ∀ (v_2016 : Int64) (H : Heap) (locs : List Loc) (hP : va_P D vwCl [(m0, .inr (12, [.int 0, m_1, m_2, .ref w0, m_4, m_5, m_6, m_7, m_8, m_9, m_10, m_11, m_12, m_13, m_14, m_15, m_16, m_17, m_18, m_19, m_20, m_21, m_22, m_23, m_24, m_25, m_26, m_27, m_28, m_29, m_30, m_31, m_32, m_33, m_34, m_35, m_36, m_37, m_38, m_39, m_40, m_41, m_42, m_43, m_44, m_45, m_46, m_47, m_48, m_49, m_50, m_51, m_52, m_53, m_54, m_55, m_56, m_57, m_58, m_59])), (w0, .inl (K 0, 5500, .inl fw))] H) (hD : va_D A [(m0, .inr (12, [.int 0, m_1, m_2, .ref w0, m_4, m_5, m_6, m_7, m_8, m_9, m_10, m_11, m_12, m_13, m_14, m_15, m_16, m_17, m_18, m_19, m_20, m_21, m_22, m_23, m_24, m_25, m_26, m_27, m_28, m_29, m_30, m_31, m_32, m_33, m_34, m_35, m_36, m_37, m_38, m_39, m_40, m_41, m_42, m_43, m_44, m_45, m_46, m_47, m_48, m_49, m_50, m_51, m_52, m_53, m_54, m_55, m_56, m_57, m_58, m_59])), (w0, .inl (K 0, 5500, .inl fw))]) (hS : va_S A s.heap H locs) (ls : Array Slot) (hl : lv_has ls 8 [(4, .int v_1779), (2, .long v_2016), (0, .ref m0), (1, .int x)]), W p l e ({ frames := 3, cells := 0, slots := 0, locals := 69 }) s m (([.ref m0, .int x] : List Value).toArray) below meth c H locs 0 0 Q (F0 m 86 ls []) := by
            intro v_2016 H locs hP hD hS ls hl
            obtain ⟨x_2019, ex_2019⟩ : ∃ y : Int32, y = v_1779 + Int32.ofInt 1 := ⟨_, rfl⟩
            have hx_2019 : x_2019.toInt = (v_1779.toInt + 1) := by rw [ex_2019]; exact i_add rfl (show (Int32.ofInt 1).toInt = 1 from rfl) (by omega)
            refine lv_iinc (v := x_2019) (lv' := [(4, .int x_2019), (2, .long v_2016), (0, .ref m0), (1, .int x)]) hx hb dX12_chance_86 hl (k := 0) rfl (by rw [ex_2019]) (by decide) rfl (fun ls hl => ?_)
            refine lv_goto (tgt := 28) hx hb dX12_chance_89 (by decide) ?_
            exact ih_1970 x_2019 v_2016 (by rw [hx_2019]; omega) (by omega) _ _ hP hD hS ls (lv_sub hl [0, 1, 2, 3] rfl)
          refine pci (va_runS (As := [.int x, .int v_1779]) (rest := []) ⟨hx, hb, hml, hown, hts⟩ (v_is l D K x v_1779 H.size) (va_cwS 2 hts gX12_chance_X12_is rfl rfl rfl (by decide +kernel) ⟨Nat.le_of_ble_eq_true rfl, Nat.le_of_ble_eq_true rfl⟩) (mkS hK hN (va_P.nil) (va_D.nil (A := fun _ => True))) rfl rfl hl.1 rfl (lv_room (Nat.le_of_ble_eq_true rfl)) dX12_chance_38 ⟨Nat.le_of_ble_eq_true rfl, Nat.le_of_ble_eq_true rfl⟩) (fun r_2020 hw => ?_)
          obtain ⟨h_2021, -⟩ := hw
          refine lv_if_eq (tgt := 86) hx hb dX12_chance_41 (by decide) (fun c_2022 => ?_) (fun c_2022 => ?_)
          · have c_2022i := i_eq (x := r_2020.toInt) (y := 0) rfl rfl c_2022
            exact j_2018 v_1780  _ _ hP hD hS ls (lv_sub hl [0, 1, 2, 3] rfl)
          · have c_2022i := i_ne (x := r_2020.toInt) (y := 0) rfl rfl c_2022
            refine lv_lload_n hx hb dX12_chance_44 rfl (lv_at hl 1 rfl) ?_
            refine lv_lstore (lv' := [(5, .long v_1780), (4, .int v_1779), (2, .long v_1780), (0, .ref m0), (1, .int x)]) hx hb dX12_chance_45 hl (by decide) rfl (fun ls hl => ?_)
            refine lv_aload_n hx hb dX12_chance_47 rfl (lv_at hl 3 rfl) ?_
            refine lv_iload hx hb dX12_chance_48 (lv_at hl 1 rfl) ?_
            refine pci (va_runV (As := [.int v_1779]) (rest := []) ⟨hx, hb, hml, hown, hts⟩ (v_soundWith l D K m0 v_1779 (.int 0) m_1 m_2 w0 m_4 m_5 m_6 m_7 m_8 m_9 m_10 m_11 m_12 m_13 m_14 m_15 m_16 m_17 m_18 m_19 m_20 m_21 m_22 m_23 m_24 m_25 m_26 m_27 m_28 m_29 m_30 m_31 m_32 m_33 m_34 m_35 m_36 m_37 m_38 m_39 m_40 m_41 m_42 m_43 m_44 m_45 m_46 m_47 m_48 m_49 m_50 m_51 m_52 m_53 m_54 m_55 m_56 m_57 m_58 m_59 fw H.size zfw) (cwV 1 hts gX12_chance_X12_soundWith rfl rfl rfl (by decide +kernel) ⟨Nat.le_of_ble_eq_true rfl, Nat.le_of_ble_eq_true rfl⟩) (mkV hK hN (hP.sub [0, 1] rfl) (hD.sub [0, 1] (by decide) rfl) (ci := 12) (q0 := 0) rfl rfl) rfl rfl hl.1 rfl (lv_room (Nat.le_of_ble_eq_true rfl)) dX12_chance_50 ⟨Nat.le_of_ble_eq_true rfl, Nat.le_of_ble_eq_true rfl⟩) (fun r_2023 hw => ?_)
            obtain ⟨h_2024, -⟩ := hw
            refine lv_istore (lv' := [(7, .int r_2023), (5, .long v_1780), (4, .int v_1779), (2, .long v_1780), (0, .ref m0), (1, .int x)]) hx hb dX12_chance_53 hl (by decide) rfl (fun ls hl => ?_)
            have lp_2055 : ∀ (nn_ : Nat) (v_2039 : Int32) (v_2040 : Int64) (hv_2039 : 0 ≤ v_2039.toInt ∧ v_2039.toInt ≤ 8) (hn : (v_2039.toInt - (-1) : Int).toNat < nn_) (H : Heap) (locs : List Loc) (hP : va_P D vwCl [(m0, .inr (12, [.int 0, m_1, m_2, .ref w0, m_4, m_5, m_6, m_7, m_8, m_9, m_10, m_11, m_12, m_13, m_14, m_15, m_16, m_17, m_18, m_19, m_20, m_21, m_22, m_23, m_24, m_25, m_26, m_27, m_28, m_29, m_30, m_31, m_32, m_33, m_34, m_35, m_36, m_37, m_38, m_39, m_40, m_41, m_42, m_43, m_44, m_45, m_46, m_47, m_48, m_49, m_50, m_51, m_52, m_53, m_54, m_55, m_56, m_57, m_58, m_59])), (w0, .inl (K 0, 5500, .inl fw))] H) (hD : va_D A [(m0, .inr (12, [.int 0, m_1, m_2, .ref w0, m_4, m_5, m_6, m_7, m_8, m_9, m_10, m_11, m_12, m_13, m_14, m_15, m_16, m_17, m_18, m_19, m_20, m_21, m_22, m_23, m_24, m_25, m_26, m_27, m_28, m_29, m_30, m_31, m_32, m_33, m_34, m_35, m_36, m_37, m_38, m_39, m_40, m_41, m_42, m_43, m_44, m_45, m_46, m_47, m_48, m_49, m_50, m_51, m_52, m_53, m_54, m_55, m_56, m_57, m_58, m_59])), (w0, .inl (K 0, 5500, .inl fw))]) (hS : va_S A s.heap H locs) (ls : Array Slot) (hl : lv_has ls 8 [(7, .int v_2039), (5, .long v_2040), (4, .int v_1779), (2, .long v_1780), (0, .ref m0), (1, .int x)]), W p l e ({ frames := 3, cells := 0, slots := 0, locals := 69 }) s m (([.ref m0, .int x] : List Value).toArray) below meth c H locs 0 0 Q (F0 m 55 ls []) := by
              intro nn_
              induction nn_ with
              | zero =>
                intro v_2039 v_2040 hv_2039 hn H locs hP hD hS ls hl
                exact absurd hn (Nat.not_lt_zero _)
              | succ nn_ ih_2056 =>
                intro v_2039 v_2040 hv_2039 hn H locs hP hD hS ls hl
                refine lv_iload hx hb dX12_chance_55 (lv_at hl 0 rfl) ?_
                refine lv_if_le (tgt := 81) hx hb dX12_chance_57 (by decide) (fun c_2057 => ?_) (fun c_2057 => ?_)
                · have c_2057i := i_le (x := v_2039.toInt) (y := 0) rfl rfl c_2057
                  refine lv_lload_n hx hb dX12_chance_81 rfl (lv_at hl 3 rfl) ?_
                  refine lv_lload hx hb dX12_chance_82 (lv_at hl 1 rfl) ?_
                  refine lv_lsub hx hb dX12_chance_84 ?_
                  refine lv_topl (fun x_2058 ex_2058 => ?_)
                  refine lv_lstore_n (lv' := [(2, .long x_2058), (7, .int v_2039), (5, .long v_2040), (4, .int v_1779), (0, .ref m0), (1, .int x)]) hx hb dX12_chance_85 rfl hl (by decide) rfl (fun ls hl => ?_)
                  exact j_2018 x_2058  _ _ hP hD hS ls (lv_sub hl [3, 0, 4, 5] rfl)
                · have c_2057i := i_nle (x := v_2039.toInt) (y := 0) rfl rfl c_2057
                  refine lv_lload hx hb dX12_chance_60 (lv_at hl 1 rfl) ?_
                  refine lv_aload_n hx hb dX12_chance_62 rfl (lv_at hl 4 rfl) ?_
                  refine lv_iconst (v := 4) hx hb dX12_chance_63 (by decide) ?_
                  refine pci (va_runV (As := [.int 4]) (rest := [.long v_2040]) ⟨hx, hb, hml, hown, hts⟩ (v_term l D K m0 4 (.int 0) m_1 m_2 w0 m_4 m_5 m_6 m_7 m_8 m_9 m_10 m_11 m_12 m_13 m_14 m_15 m_16 m_17 m_18 m_19 m_20 m_21 m_22 m_23 m_24 m_25 m_26 m_27 m_28 m_29 m_30 m_31 m_32 m_33 m_34 m_35 m_36 m_37 m_38 m_39 m_40 m_41 m_42 m_43 m_44 m_45 m_46 m_47 m_48 m_49 m_50 m_51 m_52 m_53 m_54 m_55 m_56 m_57 m_58 m_59 fw H.size (by first | omega | decide) zfw) (cwV 1 hts gX12_chance_X12_term rfl rfl rfl (by decide +kernel) ⟨Nat.le_of_ble_eq_true rfl, Nat.le_of_ble_eq_true rfl⟩) (mkV hK hN (hP.sub [0, 1] rfl) (hD.sub [0, 1] (by decide) rfl) (ci := 12) (q0 := 0) rfl rfl) rfl rfl hl.1 rfl (lv_room (Nat.le_of_ble_eq_true rfl)) dX12_chance_64 ⟨Nat.le_of_ble_eq_true rfl, Nat.le_of_ble_eq_true rfl⟩) (fun r_2059 hw => ?_)
                  refine lv_i2l hx hb dX12_chance_67 rfl ?_
                  refine lv_topl (fun x_2060 ex_2060 => ?_)
                  have hx_2060 : x_2060.toInt = r_2059.toInt := by rw [ex_2060]; exact i_wide rfl
                  refine lv_lmul hx hb dX12_chance_68 ?_
                  refine lv_topl (fun x_2061 ex_2061 => ?_)
                  refine lv_ldc2 (v := 10) hx hb hown (hts (.constantLong RX12 219 (10)) (List.mem_cons_of_mem _ (List.mem_append_left _ (List.mem_append_left _ (List.mem_of_getElem? (i := 4) rfl))))) dX12_chance_69 ?_
                  refine lv_ldiv hx hb dX12_chance_72 (by decide) ?_
                  refine lv_topl (fun x_2062 ex_2062 => ?_)
                  refine lv_lstore (lv' := [(5, .long x_2062), (7, .int v_2039), (4, .int v_1779), (2, .long v_1780), (0, .ref m0), (1, .int x)]) hx hb dX12_chance_73 hl (by decide) rfl (fun ls hl => ?_)
                  obtain ⟨x_2063, ex_2063⟩ : ∃ y : Int32, y = v_2039 + Int32.ofInt (-1) := ⟨_, rfl⟩
                  have hx_2063 : x_2063.toInt = (v_2039.toInt + (-1)) := by rw [ex_2063]; exact i_add rfl (show (Int32.ofInt (-1)).toInt = (-1) from rfl) (by omega)
                  refine lv_iinc (v := x_2063) (lv' := [(7, .int x_2063), (5, .long x_2062), (4, .int v_1779), (2, .long v_1780), (0, .ref m0), (1, .int x)]) hx hb dX12_chance_75 hl (k := 1) rfl (by rw [ex_2063]) (by decide) rfl (fun ls hl => ?_)
                  refine lv_goto (tgt := 55) hx hb dX12_chance_78 (by decide) ?_
                  exact ih_2056 x_2063 x_2062 (by rw [hx_2063]; omega) (by omega) _ _ hP hD hS ls (lv_sub hl [0, 1, 2, 3, 4, 5] rfl)
            exact lp_2055 (((r_2023 : Int32).toInt - (-1) : Int).toNat + 1) r_2023 v_1780 (by omega) (Nat.lt_succ_self _) _ _ hP hD hS ls (lv_sub hl [0, 1, 2, 3, 4, 5] rfl)
    exact lp_1969 ((8 - (0 : Int32).toInt : Int).toNat + 1) 0 1000000000000 (by decide) (Nat.lt_succ_self _) _ _ hP hD hS ls (lv_sub hl [0, 1, 2, 3] rfl)
  · refine lv_if_ne (tgt := 21) hx hb dX12_chance_14 (by decide) (fun c_2064 => absurd (by decide) c_2064) (fun c_2064 => ?_)
    refine lv_ldc2 (v := (-1)) hx hb hown (hts (.constantLong RX12 266 (-1)) (List.mem_cons_of_mem _ (List.mem_append_left _ (List.mem_append_left _ (List.mem_of_getElem? (i := 2) rfl))))) dX12_chance_17 ?_
    rw [← hQ]
    have hP9 := hP.sub (ws' := [(m0, .inr (12, [.int 0, m_1, m_2, .ref w0, m_4, m_5, m_6, m_7, m_8, m_9, m_10, m_11, m_12, m_13, m_14, m_15, m_16, m_17, m_18, m_19, m_20, m_21, m_22, m_23, m_24, m_25, m_26, m_27, m_28, m_29, m_30, m_31, m_32, m_33, m_34, m_35, m_36, m_37, m_38, m_39, m_40, m_41, m_42, m_43, m_44, m_45, m_46, m_47, m_48, m_49, m_50, m_51, m_52, m_53, m_54, m_55, m_56, m_57, m_58, m_59])), (w0, .inl (K 0, 5500, .inl fw))]) [0, 1] rfl
    have hD9 := hD.sub (ws' := [(m0, .inr (12, [.int 0, m_1, m_2, .ref w0, m_4, m_5, m_6, m_7, m_8, m_9, m_10, m_11, m_12, m_13, m_14, m_15, m_16, m_17, m_18, m_19, m_20, m_21, m_22, m_23, m_24, m_25, m_26, m_27, m_28, m_29, m_30, m_31, m_32, m_33, m_34, m_35, m_36, m_37, m_38, m_39, m_40, m_41, m_42, m_43, m_44, m_45, m_46, m_47, m_48, m_49, m_50, m_51, m_52, m_53, m_54, m_55, m_56, m_57, m_58, m_59])), (w0, .inl (K 0, 5500, .inl fw))]) [0, 1] (by decide) rfl
    exact W.lret (v := (-1)) hx hb hr (fun t ht hW => ⟨⟨(-1), ((fun _ => 0, fun _ => fun _ => 0, fun _ => fun _ => 0, fun _ => 0, fun _ => 0, fun _ => fun _ => none) : Su), rfl, trivial, (⟨by rw [ht]; exact hP9, hD9⟩ : Wd D A _ t)⟩, hS.F ht⟩) hS.2.2 dX12_chance_20
