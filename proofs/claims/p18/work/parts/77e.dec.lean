theorem BL_law_1106 : bsegs (ByteArray.data cL_law |>.toList.drop 1106) 1106 [(1106, [87]), (1107, [167, 0, 3]), (1110, [132, 3, 6]), (1113, [167, 251, 185]), (1116, [4]), (1117, [172])] = true := by decide +kernel
theorem dL_law_1106 : decode cL_law 1106 = .ok (.pop, 1) := dk_87 (bs_at BL_law_1106 0 rfl)
theorem dL_law_1107 : decode cL_law 1107 = .ok (.goto 3, 3) := dk_167 0 3 (bs_at BL_law_1106 1 rfl) rfl
theorem dL_law_1110 : decode cL_law 1110 = .ok (.iinc 3 6, 3) := dk_132 3 6 (bs_at BL_law_1106 2 rfl) rfl
theorem dL_law_1113 : decode cL_law 1113 = .ok (.goto (-1095), 3) := dk_167 251 185 (bs_at BL_law_1106 3 rfl) rfl
theorem dL_law_1116 : decode cL_law 1116 = .ok (.iconst 1, 1) := dk_4 (bs_at BL_law_1106 4 rfl)
theorem dL_law_1117 : decode cL_law 1117 = .ok (.ireturn, 1) := dk_172 (bs_at BL_law_1106 5 rfl)
