theorem dX12_days_0 : decode cX12_days 0 = .ok (.aload_n 0, 1) := by decide +kernel
theorem dX12_days_1 : decode cX12_days 1 = .ok (.iconst 0, 1) := by decide +kernel
theorem dX12_days_2 : decode cX12_days 2 = .ok (.putfield 158, 3) := by decide +kernel
theorem dX12_days_5 : decode cX12_days 5 = .ok (.iload_n 1, 1) := by decide +kernel
theorem dX12_days_6 : decode cX12_days 6 = .ok (.i2l, 1) := by decide +kernel
theorem dX12_days_7 : decode cX12_days 7 = .ok (.lconst 0, 1) := by decide +kernel
theorem dX12_days_8 : decode cX12_days 8 = .ok (.ldc2_w 268, 3) := by decide +kernel
theorem dX12_days_11 : decode cX12_days 11 = .ok (.invokestatic 178, 3) := by decide +kernel
theorem dX12_days_14 : decode cX12_days 14 = .ok (.ifCond .eq 15, 3) := by decide +kernel
theorem dX12_days_17 : decode cX12_days 17 = .ok (.iload_n 2, 1) := by decide +kernel
theorem dX12_days_18 : decode cX12_days 18 = .ok (.i2l, 1) := by decide +kernel
theorem dX12_days_19 : decode cX12_days 19 = .ok (.lconst 1, 1) := by decide +kernel
theorem dX12_days_20 : decode cX12_days 20 = .ok (.ldc2_w 562, 3) := by decide +kernel
theorem dX12_days_23 : decode cX12_days 23 = .ok (.invokestatic 178, 3) := by decide +kernel
theorem dX12_days_26 : decode cX12_days 26 = .ok (.ifCond .ne 9, 3) := by decide +kernel
theorem dX12_days_35 : decode cX12_days 35 = .ok (.aload_n 0, 1) := by decide +kernel
theorem dX12_days_36 : decode cX12_days 36 = .ok (.bipush 16, 2) := by decide +kernel
theorem dX12_days_38 : decode cX12_days 38 = .ok (.invokevirtual 167, 3) := by decide +kernel
theorem dX12_days_41 : decode cX12_days 41 = .ok (.aload_n 0, 1) := by decide +kernel
theorem dX12_days_42 : decode cX12_days 42 = .ok (.iload_n 1, 1) := by decide +kernel
theorem dX12_days_43 : decode cX12_days 43 = .ok (.i2l, 1) := by decide +kernel
theorem dX12_days_44 : decode cX12_days 44 = .ok (.putfield 553, 3) := by decide +kernel
theorem dX12_days_47 : decode cX12_days 47 = .ok (.aload_n 0, 1) := by decide +kernel
theorem dX12_days_48 : decode cX12_days 48 = .ok (.getfield 13, 3) := by decide +kernel
theorem dX12_days_51 : decode cX12_days 51 = .ok (.bipush 10, 2) := by decide +kernel
theorem dX12_days_53 : decode cX12_days 53 = .ok (.iaload, 1) := by decide +kernel
theorem dX12_days_54 : decode cX12_days 54 = .ok (.istore_n 3, 1) := by decide +kernel
theorem dX12_days_55 : decode cX12_days 55 = .ok (.iconst 0, 1) := by decide +kernel
theorem dX12_days_56 : decode cX12_days 56 = .ok (.istore 4, 2) := by decide +kernel
theorem dX12_days_58 : decode cX12_days 58 = .ok (.iconst 0, 1) := by decide +kernel
theorem dX12_days_59 : decode cX12_days 59 = .ok (.istore 5, 2) := by decide +kernel
theorem dX12_days_61 : decode cX12_days 61 = .ok (.iload 5, 2) := by decide +kernel
theorem dX12_days_63 : decode cX12_days 63 = .ok (.iload_n 2, 1) := by decide +kernel
theorem dX12_days_64 : decode cX12_days 64 = .ok (.if_icmp .ge 69, 3) := by decide +kernel
theorem dX12_days_67 : decode cX12_days 67 = .ok (.aload_n 0, 1) := by decide +kernel
theorem dX12_days_68 : decode cX12_days 68 = .ok (.invokevirtual 467, 3) := by decide +kernel
theorem dX12_days_71 : decode cX12_days 71 = .ok (.ifCond .eq 62, 3) := by decide +kernel
theorem dX12_days_74 : decode cX12_days 74 = .ok (.aload_n 0, 1) := by decide +kernel
theorem dX12_days_75 : decode cX12_days 75 = .ok (.getfield 13, 3) := by decide +kernel
theorem dX12_days_78 : decode cX12_days 78 = .ok (.iconst 0, 1) := by decide +kernel
theorem dX12_days_79 : decode cX12_days 79 = .ok (.iaload, 1) := by decide +kernel
theorem dX12_days_80 : decode cX12_days 80 = .ok (.ifCond .le 30, 3) := by decide +kernel
theorem dX12_days_83 : decode cX12_days 83 = .ok (.aload_n 0, 1) := by decide +kernel
theorem dX12_days_84 : decode cX12_days 84 = .ok (.aload_n 0, 1) := by decide +kernel
theorem dX12_days_85 : decode cX12_days 85 = .ok (.getfield 13, 3) := by decide +kernel
theorem dX12_days_88 : decode cX12_days 88 = .ok (.iconst 0, 1) := by decide +kernel
theorem dX12_days_89 : decode cX12_days 89 = .ok (.iaload, 1) := by decide +kernel
theorem dX12_days_90 : decode cX12_days 90 = .ok (.invokevirtual 564, 3) := by decide +kernel
theorem dX12_days_93 : decode cX12_days 93 = .ok (.istore 6, 2) := by decide +kernel
theorem dX12_days_95 : decode cX12_days 95 = .ok (.aload_n 0, 1) := by decide +kernel
theorem dX12_days_96 : decode cX12_days 96 = .ok (.iload 6, 2) := by decide +kernel
theorem dX12_days_98 : decode cX12_days 98 = .ok (.invokevirtual 445, 3) := by decide +kernel
theorem dX12_days_101 : decode cX12_days 101 = .ok (.ifCond .eq 9, 3) := by decide +kernel
theorem dX12_days_104 : decode cX12_days 104 = .ok (.aload_n 0, 1) := by decide +kernel
theorem dX12_days_105 : decode cX12_days 105 = .ok (.iload 6, 2) := by decide +kernel
theorem dX12_days_107 : decode cX12_days 107 = .ok (.invokevirtual 451, 3) := by decide +kernel
theorem dX12_days_110 : decode cX12_days 110 = .ok (.iload 4, 2) := by decide +kernel
theorem dX12_days_112 : decode cX12_days 112 = .ok (.aload_n 0, 1) := by decide +kernel
theorem dX12_days_113 : decode cX12_days 113 = .ok (.invokevirtual 470, 3) := by decide +kernel
theorem dX12_days_116 : decode cX12_days 116 = .ok (.ifCond .eq 7, 3) := by decide +kernel
theorem dX12_days_123 : decode cX12_days 123 = .ok (.iconst 0, 1) := by decide +kernel
theorem dX12_days_124 : decode cX12_days 124 = .ok (.iadd, 1) := by decide +kernel
theorem dX12_days_125 : decode cX12_days 125 = .ok (.istore 4, 2) := by decide +kernel
theorem dX12_days_127 : decode cX12_days 127 = .ok (.iinc 5 1, 3) := by decide +kernel
theorem dX12_days_130 : decode cX12_days 130 = .ok (.goto (-69), 3) := by decide +kernel
theorem dX12_days_119 : decode cX12_days 119 = .ok (.iconst 1, 1) := by decide +kernel
theorem dX12_days_120 : decode cX12_days 120 = .ok (.goto 4, 3) := by decide +kernel
theorem dX12_days_133 : decode cX12_days 133 = .ok (.aload_n 0, 1) := by decide +kernel
theorem dX12_days_134 : decode cX12_days 134 = .ok (.aload_n 0, 1) := by decide +kernel
theorem dX12_days_135 : decode cX12_days 135 = .ok (.getfield 13, 3) := by decide +kernel
theorem dX12_days_138 : decode cX12_days 138 = .ok (.iconst 0, 1) := by decide +kernel
theorem dX12_days_139 : decode cX12_days 139 = .ok (.iaload, 1) := by decide +kernel
theorem dX12_days_140 : decode cX12_days 140 = .ok (.putfield 155, 3) := by decide +kernel
theorem dX12_days_143 : decode cX12_days 143 = .ok (.iconst 0, 1) := by decide +kernel
theorem dX12_days_144 : decode cX12_days 144 = .ok (.istore 5, 2) := by decide +kernel
theorem dX12_days_146 : decode cX12_days 146 = .ok (.iload 5, 2) := by decide +kernel
theorem dX12_days_148 : decode cX12_days 148 = .ok (.aload_n 0, 1) := by decide +kernel
theorem dX12_days_149 : decode cX12_days 149 = .ok (.getfield 155, 3) := by decide +kernel
theorem dX12_days_152 : decode cX12_days 152 = .ok (.if_icmp .ge 49, 3) := by decide +kernel
theorem dX12_days_155 : decode cX12_days 155 = .ok (.aload_n 0, 1) := by decide +kernel
theorem dX12_days_156 : decode cX12_days 156 = .ok (.getfield 152, 3) := by decide +kernel
theorem dX12_days_159 : decode cX12_days 159 = .ok (.iconst 2, 1) := by decide +kernel
theorem dX12_days_160 : decode cX12_days 160 = .ok (.iload 5, 2) := by decide +kernel
theorem dX12_days_162 : decode cX12_days 162 = .ok (.imul, 1) := by decide +kernel
theorem dX12_days_163 : decode cX12_days 163 = .ok (.aload_n 0, 1) := by decide +kernel
theorem dX12_days_164 : decode cX12_days 164 = .ok (.getfield 13, 3) := by decide +kernel
theorem dX12_days_167 : decode cX12_days 167 = .ok (.bipush 11, 2) := by decide +kernel
theorem dX12_days_169 : decode cX12_days 169 = .ok (.iload 5, 2) := by decide +kernel
theorem dX12_days_171 : decode cX12_days 171 = .ok (.iadd, 1) := by decide +kernel
theorem dX12_days_172 : decode cX12_days 172 = .ok (.iaload, 1) := by decide +kernel
theorem dX12_days_173 : decode cX12_days 173 = .ok (.iastore, 1) := by decide +kernel
theorem dX12_days_174 : decode cX12_days 174 = .ok (.aload_n 0, 1) := by decide +kernel
theorem dX12_days_175 : decode cX12_days 175 = .ok (.getfield 152, 3) := by decide +kernel
theorem dX12_days_178 : decode cX12_days 178 = .ok (.iconst 2, 1) := by decide +kernel
theorem dX12_days_179 : decode cX12_days 179 = .ok (.iload 5, 2) := by decide +kernel
theorem dX12_days_181 : decode cX12_days 181 = .ok (.imul, 1) := by decide +kernel
theorem dX12_days_182 : decode cX12_days 182 = .ok (.iconst 1, 1) := by decide +kernel
theorem dX12_days_183 : decode cX12_days 183 = .ok (.iadd, 1) := by decide +kernel
theorem dX12_days_184 : decode cX12_days 184 = .ok (.aload_n 0, 1) := by decide +kernel
theorem dX12_days_185 : decode cX12_days 185 = .ok (.getfield 13, 3) := by decide +kernel
theorem dX12_days_188 : decode cX12_days 188 = .ok (.bipush 19, 2) := by decide +kernel
theorem dX12_days_190 : decode cX12_days 190 = .ok (.iload 5, 2) := by decide +kernel
theorem dX12_days_192 : decode cX12_days 192 = .ok (.iadd, 1) := by decide +kernel
theorem dX12_days_193 : decode cX12_days 193 = .ok (.iaload, 1) := by decide +kernel
theorem dX12_days_194 : decode cX12_days 194 = .ok (.iastore, 1) := by decide +kernel
theorem dX12_days_195 : decode cX12_days 195 = .ok (.iinc 5 1, 3) := by decide +kernel
theorem dX12_days_198 : decode cX12_days 198 = .ok (.goto (-52), 3) := by decide +kernel
theorem dX12_days_201 : decode cX12_days 201 = .ok (.aload_n 0, 1) := by decide +kernel
theorem dX12_days_202 : decode cX12_days 202 = .ok (.aload_n 0, 1) := by decide +kernel
theorem dX12_days_203 : decode cX12_days 203 = .ok (.getfield 13, 3) := by decide +kernel
theorem dX12_days_206 : decode cX12_days 206 = .ok (.bipush 10, 2) := by decide +kernel
theorem dX12_days_208 : decode cX12_days 208 = .ok (.iaload, 1) := by decide +kernel
theorem dX12_days_209 : decode cX12_days 209 = .ok (.iload_n 3, 1) := by decide +kernel
theorem dX12_days_210 : decode cX12_days 210 = .ok (.isub, 1) := by decide +kernel
theorem dX12_days_211 : decode cX12_days 211 = .ok (.putfield 567, 3) := by decide +kernel
theorem dX12_days_214 : decode cX12_days 214 = .ok (.aload_n 0, 1) := by decide +kernel
theorem dX12_days_215 : decode cX12_days 215 = .ok (.bipush 16, 2) := by decide +kernel
theorem dX12_days_217 : decode cX12_days 217 = .ok (.invokevirtual 175, 3) := by decide +kernel
theorem dX12_days_220 : decode cX12_days 220 = .ok (.aload_n 0, 1) := by decide +kernel
theorem dX12_days_221 : decode cX12_days 221 = .ok (.iload 4, 2) := by decide +kernel
theorem dX12_days_223 : decode cX12_days 223 = .ok (.invokevirtual 171, 3) := by decide +kernel
theorem dX12_days_226 : decode cX12_days 226 = .ok (.ireturn, 1) := by decide +kernel
theorem dX12_days_29 : decode cX12_days 29 = .ok (.aload_n 0, 1) := by decide +kernel
theorem dX12_days_30 : decode cX12_days 30 = .ok (.iconst (-1), 1) := by decide +kernel
theorem dX12_days_31 : decode cX12_days 31 = .ok (.invokevirtual 171, 3) := by decide +kernel
theorem dX12_days_34 : decode cX12_days 34 = .ok (.ireturn, 1) := by decide +kernel
set_option maxRecDepth 100000 in
set_option maxHeartbeats 4000000 in
theorem ggX12_days_X12_tell : GoodIn wsX12_days wsX12_tell := goodIn_q _ [16] [17, 18, 137, 138, 139, 140, 141, 142, 143, 144, 145, 146, 147, 148, 149, 150, 151, 152, 153, 154, 155, 156, 157, 158, 159, 160, 161, 162, 163, 164, 165, 166, 167, 168, 169, 170, 171, 172, 173, 174, 175, 176, 177, 178, 179, 180, 181, 182, 183, 184, 185, 186, 187, 188, 189, 190, 191, 192, 193, 194, 195, 196] rfl (by decide +kernel) (by decide +kernel)
set_option maxRecDepth 20000 in
theorem gX12_days_X12_tell : GoodIn wsX12_days (wsV RX12 171 RX12 yX12_tell wsX12_tell) := goodIn_app (goodIn_of _ (by decide +kernel)) ggX12_days_X12_tell
theorem ggX12_days_X12_in : GoodIn wsX12_days wsX12_in := goodIn_q _ [12] [] rfl (by decide +kernel) (by decide +kernel)
set_option maxRecDepth 20000 in
theorem gX12_days_X12_in : GoodIn wsX12_days (va_wsS RX12 178 yX12_in wsX12_in) := goodIn_app (goodIn_of _ (by decide +kernel)) ggX12_days_X12_in
set_option maxRecDepth 100000 in
set_option maxHeartbeats 4000000 in
theorem ggX12_days_X12_keepAll : GoodIn wsX12_days wsX12_keepAll := goodIn_q _ [22] [23, 5, 137, 138, 139, 140, 141, 142, 143, 144, 145, 146, 147, 148, 149, 150, 151, 152, 153, 154, 155, 156, 157, 158, 159, 160, 161, 162, 163, 164, 165, 166, 167, 168, 169, 170, 171, 172, 173, 174, 175, 176, 177, 178, 179, 180, 181, 182, 183, 184, 185, 186, 187, 188, 189, 190, 191, 192, 193, 194, 195, 196] rfl (by decide +kernel) (by decide +kernel)
set_option maxRecDepth 20000 in
theorem gX12_days_X12_keepAll : GoodIn wsX12_days (wsV RX12 167 RX12 yX12_keepAll wsX12_keepAll) := goodIn_app (goodIn_of _ (by decide +kernel)) ggX12_days_X12_keepAll
set_option maxRecDepth 100000 in
set_option maxHeartbeats 4000000 in
theorem ggX12_days_X12_putBack : GoodIn wsX12_days wsX12_putBack := goodIn_q _ [136] [5, 23, 137, 138, 139, 140, 141, 142, 143, 144, 145, 146, 147, 148, 149, 150, 151, 152, 153, 154, 155, 156, 157, 158, 159, 160, 161, 162, 163, 164, 165, 166, 167, 168, 169, 170, 171, 172, 173, 174, 175, 176, 177, 178, 179, 180, 181, 182, 183, 184, 185, 186, 187, 188, 189, 190, 191, 192, 193, 194, 195, 196] rfl (by decide +kernel) (by decide +kernel)
set_option maxRecDepth 20000 in
theorem gX12_days_X12_putBack : GoodIn wsX12_days (wsV RX12 175 RX12 yX12_putBack wsX12_putBack) := goodIn_app (goodIn_of _ (by decide +kernel)) ggX12_days_X12_putBack
set_option maxRecDepth 100000 in
set_option maxHeartbeats 4000000 in
theorem ggX12_days_X12_canPass : GoodIn wsX12_days wsX12_canPass := goodIn_q _ [27, 31] [28, 29, 30, 11, 5, 137, 138, 139, 140, 141, 142, 143, 144, 145, 146, 147, 148, 149, 150, 151, 152, 153, 154, 155, 156, 157, 158, 159, 160, 161, 162, 163, 164, 165, 166, 167, 168, 169, 170, 171, 172, 173, 174, 175, 176, 177, 178, 179, 180, 181, 182, 183, 184, 185, 186, 187, 188, 189, 190, 191, 192, 193, 194, 195, 196] rfl (by decide +kernel) (by decide +kernel)
set_option maxRecDepth 20000 in
theorem gX12_days_X12_canPass : GoodIn wsX12_days (wsV RX12 467 RX12 yX12_canPass wsX12_canPass) := goodIn_app (goodIn_of _ (by decide +kernel)) ggX12_days_X12_canPass
set_option maxRecDepth 100000 in
set_option maxHeartbeats 4000000 in
theorem ggX12_days_X12_passIt : GoodIn wsX12_days wsX12_passIt := goodIn_q _ [107, 113, 31, 117, 79, 12, 121, 124, 50, 57, 63, 75, 83, 87, 103, 128, 132] [5, 108, 109, 110, 111, 112, 11, 28, 29, 30, 114, 115, 116, 76, 77, 78, 9, 10, 118, 119, 120, 122, 123, 47, 48, 49, 51, 52, 53, 54, 55, 56, 58, 59, 60, 61, 62, 64, 65, 66, 67, 68, 69, 70, 71, 72, 73, 74, 80, 81, 82, 84, 85, 86, 101, 102, 125, 126, 127, 129, 130, 131, 137, 138, 139, 140, 141, 142, 143, 144, 145, 146, 147, 148, 149, 150, 151, 152, 153, 154, 155, 156, 157, 158, 159, 160, 161, 162, 163, 164, 165, 166, 167, 168, 169, 170, 171, 172, 173, 174, 175, 176, 177, 178, 179, 180, 181, 182, 183, 184, 185, 186, 187, 188, 189, 190, 191, 192, 193, 194, 195, 196] rfl (by decide +kernel) (by decide +kernel)
set_option maxRecDepth 20000 in
theorem gX12_days_X12_passIt : GoodIn wsX12_days (wsV RX12 470 RX12 yX12_passIt wsX12_passIt) := goodIn_app (goodIn_of _ (by decide +kernel)) ggX12_days_X12_passIt
set_option maxRecDepth 100000 in
set_option maxHeartbeats 4000000 in
theorem ggX12_days_X12_draw : GoodIn wsX12_days wsX12_draw := goodIn_q _ [35] [4, 36, 37, 38, 137, 138, 139, 140, 141, 142, 143, 144, 145, 146, 147, 148, 149, 150, 151, 152, 153, 154, 155, 156, 157, 158, 159, 160, 161, 162, 163, 164, 165, 166, 167, 168, 169, 170, 171, 172, 173, 174, 175, 176, 177, 178, 179, 180, 181, 182, 183, 184, 185, 186, 187, 188, 189, 190, 191, 192, 193, 194, 195, 196] rfl (by decide +kernel) (by decide +kernel)
set_option maxRecDepth 20000 in
theorem gX12_days_X12_draw : GoodIn wsX12_days (wsV RX12 564 RX12 yX12_draw wsX12_draw) := goodIn_app (goodIn_of _ (by decide +kernel)) ggX12_days_X12_draw
set_option maxRecDepth 100000 in
set_option maxHeartbeats 4000000 in
theorem ggX12_days_X12_canStoke : GoodIn wsX12_days wsX12_canStoke := goodIn_q _ [42, 46, 50, 31, 57, 63, 75, 79, 12, 83, 87] [5, 43, 44, 45, 11, 47, 48, 49, 51, 52, 53, 28, 29, 30, 54, 55, 56, 58, 59, 60, 61, 62, 64, 65, 66, 67, 68, 69, 70, 71, 72, 73, 74, 76, 77, 78, 9, 10, 80, 81, 82, 84, 85, 86, 137, 138, 139, 140, 141, 142, 143, 144, 145, 146, 147, 148, 149, 150, 151, 152, 153, 154, 155, 156, 157, 158, 159, 160, 161, 162, 163, 164, 165, 166, 167, 168, 169, 170, 171, 172, 173, 174, 175, 176, 177, 178, 179, 180, 181, 182, 183, 184, 185, 186, 187, 188, 189, 190, 191, 192, 193, 194, 195, 196] rfl (by decide +kernel) (by decide +kernel)
set_option maxRecDepth 20000 in
theorem gX12_days_X12_canStoke : GoodIn wsX12_days (wsV RX12 445 RX12 yX12_canStoke wsX12_canStoke) := goodIn_app (goodIn_of _ (by decide +kernel)) ggX12_days_X12_canStoke
set_option maxRecDepth 100000 in
set_option maxHeartbeats 4000000 in
theorem ggX12_days_X12_stokeIt : GoodIn wsX12_days wsX12_stokeIt := goodIn_q _ [91, 95, 99, 50, 31, 57, 63, 75, 79, 12, 83, 87, 103] [5, 92, 93, 94, 11, 96, 97, 98, 100, 47, 48, 49, 51, 52, 53, 28, 29, 30, 54, 55, 56, 58, 59, 60, 61, 62, 64, 65, 66, 67, 68, 69, 70, 71, 72, 73, 74, 76, 77, 78, 9, 10, 80, 81, 82, 84, 85, 86, 101, 102, 137, 138, 139, 140, 141, 142, 143, 144, 145, 146, 147, 148, 149, 150, 151, 152, 153, 154, 155, 156, 157, 158, 159, 160, 161, 162, 163, 164, 165, 166, 167, 168, 169, 170, 171, 172, 173, 174, 175, 176, 177, 178, 179, 180, 181, 182, 183, 184, 185, 186, 187, 188, 189, 190, 191, 192, 193, 194, 195, 196] rfl (by decide +kernel) (by decide +kernel)
set_option maxRecDepth 20000 in
theorem gX12_days_X12_stokeIt : GoodIn wsX12_days (wsV RX12 451 RX12 yX12_stokeIt wsX12_stokeIt) := goodIn_app (goodIn_of _ (by decide +kernel)) ggX12_days_X12_stokeIt
