theorem dX8_find_0 : decode cX8_find 0 = .ok (.iconst 0, 1) := by decide +kernel
theorem dX8_find_1 : decode cX8_find 1 = .ok (.istore_n 2, 1) := by decide +kernel
theorem dX8_find_2 : decode cX8_find 2 = .ok (.iconst 0, 1) := by decide +kernel
theorem dX8_find_3 : decode cX8_find 3 = .ok (.istore_n 3, 1) := by decide +kernel
theorem dX8_find_4 : decode cX8_find 4 = .ok (.iconst 0, 1) := by decide +kernel
theorem dX8_find_5 : decode cX8_find 5 = .ok (.istore 4, 2) := by decide +kernel
theorem dX8_find_7 : decode cX8_find 7 = .ok (.iload 4, 2) := by decide +kernel
theorem dX8_find_9 : decode cX8_find 9 = .ok (.aload_n 1, 1) := by decide +kernel
theorem dX8_find_10 : decode cX8_find 10 = .ok (.invokevirtual 38, 3) := by decide +kernel
theorem dX8_find_13 : decode cX8_find 13 = .ok (.if_icmp .gt 106, 3) := by decide +kernel
theorem dX8_find_119 : decode cX8_find 119 = .ok (.iconst (-1), 1) := by decide +kernel
theorem dX8_find_120 : decode cX8_find 120 = .ok (.ireturn, 1) := by decide +kernel
theorem dX8_find_16 : decode cX8_find 16 = .ok (.iload 4, 2) := by decide +kernel
theorem dX8_find_18 : decode cX8_find 18 = .ok (.aload_n 1, 1) := by decide +kernel
theorem dX8_find_19 : decode cX8_find 19 = .ok (.invokevirtual 38, 3) := by decide +kernel
theorem dX8_find_22 : decode cX8_find 22 = .ok (.if_icmp .ge 12, 3) := by decide +kernel
theorem dX8_find_34 : decode cX8_find 34 = .ok (.bipush 32, 2) := by decide +kernel
theorem dX8_find_36 : decode cX8_find 36 = .ok (.istore 5, 2) := by decide +kernel
theorem dX8_find_38 : decode cX8_find 38 = .ok (.iload 5, 2) := by decide +kernel
theorem dX8_find_40 : decode cX8_find 40 = .ok (.bipush 32, 2) := by decide +kernel
theorem dX8_find_42 : decode cX8_find 42 = .ok (.if_icmp .eq 47, 3) := by decide +kernel
theorem dX8_find_89 : decode cX8_find 89 = .ok (.iload_n 3, 1) := by decide +kernel
theorem dX8_find_90 : decode cX8_find 90 = .ok (.ifCond .le 18, 3) := by decide +kernel
theorem dX8_find_108 : decode cX8_find 108 = .ok (.iinc 2 1, 3) := by decide +kernel
theorem dX8_find_111 : decode cX8_find 111 = .ok (.iconst 0, 1) := by decide +kernel
theorem dX8_find_112 : decode cX8_find 112 = .ok (.istore_n 3, 1) := by decide +kernel
theorem dX8_find_113 : decode cX8_find 113 = .ok (.iinc 4 1, 3) := by decide +kernel
theorem dX8_find_116 : decode cX8_find 116 = .ok (.goto (-109), 3) := by decide +kernel
theorem dX8_find_25 : decode cX8_find 25 = .ok (.aload_n 1, 1) := by decide +kernel
theorem dX8_find_26 : decode cX8_find 26 = .ok (.iload 4, 2) := by decide +kernel
theorem dX8_find_28 : decode cX8_find 28 = .ok (.invokevirtual 43, 3) := by decide +kernel
theorem dX8_find_31 : decode cX8_find 31 = .ok (.goto 5, 3) := by decide +kernel
theorem dX8_find_45 : decode cX8_find 45 = .ok (.iload_n 3, 1) := by decide +kernel
theorem dX8_find_46 : decode cX8_find 46 = .ok (.ifCond .lt 38, 3) := by decide +kernel
theorem dX8_find_84 : decode cX8_find 84 = .ok (.iconst (-1), 1) := by decide +kernel
theorem dX8_find_85 : decode cX8_find 85 = .ok (.istore_n 3, 1) := by decide +kernel
theorem dX8_find_86 : decode cX8_find 86 = .ok (.goto 27, 3) := by decide +kernel
theorem dX8_find_49 : decode cX8_find 49 = .ok (.aload_n 0, 1) := by decide +kernel
theorem dX8_find_50 : decode cX8_find 50 = .ok (.getfield 19, 3) := by decide +kernel
theorem dX8_find_53 : decode cX8_find 53 = .ok (.iload_n 3, 1) := by decide +kernel
theorem dX8_find_54 : decode cX8_find 54 = .ok (.iadd, 1) := by decide +kernel
theorem dX8_find_55 : decode cX8_find 55 = .ok (.aload_n 0, 1) := by decide +kernel
theorem dX8_find_56 : decode cX8_find 56 = .ok (.getfield 22, 3) := by decide +kernel
theorem dX8_find_59 : decode cX8_find 59 = .ok (.if_icmp .ge 25, 3) := by decide +kernel
theorem dX6_clause_0 : decode cX6_clause 0 = .ok (.aload_n 0, 1) := by decide +kernel
theorem dX6_clause_1 : decode cX6_clause 1 = .ok (.getfield 12, 3) := by decide +kernel
theorem dX6_clause_4 : decode cX6_clause 4 = .ok (.aload_n 0, 1) := by decide +kernel
theorem dX6_clause_5 : decode cX6_clause 5 = .ok (.getfield 27, 3) := by decide +kernel
theorem dX6_clause_8 : decode cX6_clause 8 = .ok (.ifCond .eq 8, 3) := by decide +kernel
theorem dX6_clause_11 : decode cX6_clause 11 = .ok (.ldc 63, 2) := by decide +kernel
theorem dX6_clause_13 : decode cX6_clause 13 = .ok (.goto 5, 3) := by decide +kernel
theorem dX6_clause_18 : decode cX6_clause 18 = .ok (.invokevirtual 67, 3) := by decide +kernel
theorem dX6_clause_21 : decode cX6_clause 21 = .ok (.istore_n 2, 1) := by decide +kernel
theorem dX6_clause_22 : decode cX6_clause 22 = .ok (.iload_n 2, 1) := by decide +kernel
theorem dX6_clause_23 : decode cX6_clause 23 = .ok (.ifCond .lt 11, 3) := by decide +kernel
theorem dX6_clause_34 : decode cX6_clause 34 = .ok (.iconst 0, 1) := by decide +kernel
theorem dX6_clause_35 : decode cX6_clause 35 = .ok (.ireturn, 1) := by decide +kernel
theorem dX6_clause_16 : decode cX6_clause 16 = .ok (.ldc 65, 2) := by decide +kernel
theorem dX8_step_0 : decode cX8_step 0 = .ok (.aload_n 0, 1) := by decide +kernel
theorem dX8_step_1 : decode cX8_step 1 = .ok (.aload_n 0, 1) := by decide +kernel
theorem dX8_step_2 : decode cX8_step 2 = .ok (.getfield 22, 3) := by decide +kernel
theorem dX8_step_5 : decode cX8_step 5 = .ok (.putfield 19, 3) := by decide +kernel
theorem dX8_step_8 : decode cX8_step 8 = .ok (.aload_n 0, 1) := by decide +kernel
theorem dX8_step_9 : decode cX8_step 9 = .ok (.getfield 19, 3) := by decide +kernel
theorem dX8_step_12 : decode cX8_step 12 = .ok (.aload_n 0, 1) := by decide +kernel
theorem dX8_step_13 : decode cX8_step 13 = .ok (.getfield 15, 3) := by decide +kernel
theorem dX8_step_16 : decode cX8_step 16 = .ok (.if_icmp .ge 30, 3) := by decide +kernel
theorem dX8_step_46 : decode cX8_step 46 = .ok (.aload_n 0, 1) := by decide +kernel
theorem dX8_step_47 : decode cX8_step 47 = .ok (.aload_n 0, 1) := by decide +kernel
theorem dX8_step_48 : decode cX8_step 48 = .ok (.getfield 19, 3) := by decide +kernel
theorem dX8_step_51 : decode cX8_step 51 = .ok (.aload_n 0, 1) := by decide +kernel
theorem dX8_step_52 : decode cX8_step 52 = .ok (.getfield 15, 3) := by decide +kernel
theorem dX8_step_55 : decode cX8_step 55 = .ok (.if_icmp .ge 15, 3) := by decide +kernel
theorem dX8_step_70 : decode cX8_step 70 = .ok (.iconst (-1), 1) := by decide +kernel
theorem dX8_step_71 : decode cX8_step 71 = .ok (.putfield 25, 3) := by decide +kernel
theorem dX8_step_74 : decode cX8_step 74 = .ok (.aload_n 0, 1) := by decide +kernel
theorem dX8_step_75 : decode cX8_step 75 = .ok (.aload_n 0, 1) := by decide +kernel
theorem dX8_step_76 : decode cX8_step 76 = .ok (.getfield 25, 3) := by decide +kernel
theorem dX8_step_79 : decode cX8_step 79 = .ok (.bipush 48, 2) := by decide +kernel
theorem dX8_step_81 : decode cX8_step 81 = .ok (.if_icmp .lt 22, 3) := by decide +kernel
theorem dX8_step_103 : decode cX8_step 103 = .ok (.iconst (-1), 1) := by decide +kernel
theorem dX8_step_104 : decode cX8_step 104 = .ok (.putfield 28, 3) := by decide +kernel
theorem dX8_step_107 : decode cX8_step 107 = .ok (.aload_n 0, 1) := by decide +kernel
theorem dX8_step_108 : decode cX8_step 108 = .ok (.getfield 25, 3) := by decide +kernel
theorem dX8_step_111 : decode cX8_step 111 = .ok (.bipush 97, 2) := by decide +kernel
theorem dX8_step_113 : decode cX8_step 113 = .ok (.if_icmp .lt 16, 3) := by decide +kernel
theorem dX8_step_129 : decode cX8_step 129 = .ok (.iconst 0, 1) := by decide +kernel
theorem dX8_step_130 : decode cX8_step 130 = .ok (.istore_n 1, 1) := by decide +kernel
theorem dX8_step_131 : decode cX8_step 131 = .ok (.aload_n 0, 1) := by decide +kernel
theorem dX8_step_132 : decode cX8_step 132 = .ok (.aload_n 0, 1) := by decide +kernel
theorem dX8_step_133 : decode cX8_step 133 = .ok (.getfield 15, 3) := by decide +kernel
theorem dX8_step_136 : decode cX8_step 136 = .ok (.aload_n 0, 1) := by decide +kernel
theorem dX8_step_137 : decode cX8_step 137 = .ok (.getfield 19, 3) := by decide +kernel
theorem dX8_step_140 : decode cX8_step 140 = .ok (.iconst 1, 1) := by decide +kernel
theorem dX8_step_141 : decode cX8_step 141 = .ok (.iadd, 1) := by decide +kernel
theorem dX8_step_142 : decode cX8_step 142 = .ok (.invokestatic 31, 3) := by decide +kernel
theorem dX8_step_145 : decode cX8_step 145 = .ok (.putfield 22, 3) := by decide +kernel
theorem dX8_step_148 : decode cX8_step 148 = .ok (.aload_n 0, 1) := by decide +kernel
theorem dX8_step_149 : decode cX8_step 149 = .ok (.getfield 22, 3) := by decide +kernel
theorem dX8_step_152 : decode cX8_step 152 = .ok (.aload_n 0, 1) := by decide +kernel
theorem dX8_step_153 : decode cX8_step 153 = .ok (.getfield 15, 3) := by decide +kernel
theorem dX8_step_156 : decode cX8_step 156 = .ok (.if_icmp .ge 116, 3) := by decide +kernel
theorem dX8_step_272 : decode cX8_step 272 = .ok (.return_, 1) := by decide +kernel
theorem dX6_reads_0 : decode cX6_reads 0 = .ok (.aload_n 0, 1) := by decide +kernel
theorem dX6_reads_1 : decode cX6_reads 1 = .ok (.iload_n 1, 1) := by decide +kernel
theorem dX6_reads_2 : decode cX6_reads 2 = .ok (.putfield 27, 3) := by decide +kernel
theorem dX6_reads_5 : decode cX6_reads 5 = .ok (.aload_n 0, 1) := by decide +kernel
theorem dX6_reads_6 : decode cX6_reads 6 = .ok (.iconst 0, 1) := by decide +kernel
theorem dX6_reads_7 : decode cX6_reads 7 = .ok (.putfield 31, 3) := by decide +kernel
theorem dX6_reads_10 : decode cX6_reads 10 = .ok (.aload_n 0, 1) := by decide +kernel
theorem dX6_reads_11 : decode cX6_reads 11 = .ok (.getfield 23, 3) := by decide +kernel
theorem dX6_reads_14 : decode cX6_reads 14 = .ok (.iconst 0, 1) := by decide +kernel
theorem dX6_reads_15 : decode cX6_reads 15 = .ok (.putfield 38, 3) := by decide +kernel
theorem dX6_reads_18 : decode cX6_reads 18 = .ok (.aload_n 0, 1) := by decide +kernel
theorem dX6_reads_19 : decode cX6_reads 19 = .ok (.getfield 23, 3) := by decide +kernel
theorem dX6_reads_22 : decode cX6_reads 22 = .ok (.iconst 0, 1) := by decide +kernel
theorem dX6_reads_23 : decode cX6_reads 23 = .ok (.putfield 41, 3) := by decide +kernel
theorem dX6_reads_26 : decode cX6_reads 26 = .ok (.aload_n 0, 1) := by decide +kernel
theorem dX6_reads_27 : decode cX6_reads 27 = .ok (.getfield 12, 3) := by decide +kernel
theorem dX6_reads_30 : decode cX6_reads 30 = .ok (.iconst 0, 1) := by decide +kernel
theorem dX6_reads_31 : decode cX6_reads 31 = .ok (.putfield 44, 3) := by decide +kernel
theorem dX6_reads_34 : decode cX6_reads 34 = .ok (.aload_n 0, 1) := by decide +kernel
theorem dX6_reads_35 : decode cX6_reads 35 = .ok (.getfield 12, 3) := by decide +kernel
theorem dX6_reads_38 : decode cX6_reads 38 = .ok (.invokevirtual 47, 3) := by decide +kernel
theorem dX6_reads_41 : decode cX6_reads 41 = .ok (.iconst 0, 1) := by decide +kernel
theorem dX6_reads_42 : decode cX6_reads 42 = .ok (.istore_n 2, 1) := by decide +kernel
theorem dX6_reads_43 : decode cX6_reads 43 = .ok (.iconst 0, 1) := by decide +kernel
theorem dX6_reads_44 : decode cX6_reads 44 = .ok (.istore_n 3, 1) := by decide +kernel
theorem dX6_reads_45 : decode cX6_reads 45 = .ok (.iload_n 3, 1) := by decide +kernel
theorem dX6_reads_46 : decode cX6_reads 46 = .ok (.bipush 12, 2) := by decide +kernel
theorem dX6_reads_48 : decode cX6_reads 48 = .ok (.if_icmp .ge 77, 3) := by decide +kernel
theorem dX6_reads_51 : decode cX6_reads 51 = .ok (.iload_n 2, 1) := by decide +kernel
theorem dX6_reads_52 : decode cX6_reads 52 = .ok (.ifCond .ne 73, 3) := by decide +kernel
theorem dX6_reads_55 : decode cX6_reads 55 = .ok (.aload_n 0, 1) := by decide +kernel
theorem dX6_reads_56 : decode cX6_reads 56 = .ok (.iload_n 3, 1) := by decide +kernel
theorem dX6_reads_57 : decode cX6_reads 57 = .ok (.invokevirtual 50, 3) := by decide +kernel
theorem dX6_reads_60 : decode cX6_reads 60 = .ok (.ifCond .ne 6, 3) := by decide +kernel
theorem dX6_reads_63 : decode cX6_reads 63 = .ok (.goto 62, 3) := by decide +kernel
theorem dX6_reads_125 : decode cX6_reads 125 = .ok (.aload_n 0, 1) := by decide +kernel
theorem dX6_reads_126 : decode cX6_reads 126 = .ok (.iload_n 2, 1) := by decide +kernel
theorem dX6_reads_127 : decode cX6_reads 127 = .ok (.ifCond .eq 7, 3) := by decide +kernel
theorem dX6_reads_134 : decode cX6_reads 134 = .ok (.aload_n 0, 1) := by decide +kernel
theorem dX6_reads_135 : decode cX6_reads 135 = .ok (.getfield 12, 3) := by decide +kernel
theorem dX6_reads_138 : decode cX6_reads 138 = .ok (.getfield 57, 3) := by decide +kernel
theorem dX6_reads_141 : decode cX6_reads 141 = .ok (.putfield 35, 3) := by decide +kernel
theorem dX6_reads_144 : decode cX6_reads 144 = .ok (.aload_n 0, 1) := by decide +kernel
theorem dX6_reads_145 : decode cX6_reads 145 = .ok (.getfield 12, 3) := by decide +kernel
theorem dX6_reads_148 : decode cX6_reads 148 = .ok (.iconst 0, 1) := by decide +kernel
theorem dX6_reads_149 : decode cX6_reads 149 = .ok (.putfield 60, 3) := by decide +kernel
theorem dX6_reads_152 : decode cX6_reads 152 = .ok (.iload_n 2, 1) := by decide +kernel
theorem dX6_reads_153 : decode cX6_reads 153 = .ok (.ireturn, 1) := by decide +kernel
theorem dX11_law_0 : decode cX11_law 0 = .ok (.aload_n 0, 1) := by decide +kernel
theorem dX11_law_1 : decode cX11_law 1 = .ok (.getfield 10, 3) := by decide +kernel
theorem dX11_law_4 : decode cX11_law 4 = .ok (.getfield 173, 3) := by decide +kernel
theorem dX11_law_7 : decode cX11_law 7 = .ok (.bipush 6, 2) := by decide +kernel
theorem dX11_law_9 : decode cX11_law 9 = .ok (.if_icmp .lt 18, 3) := by decide +kernel
theorem dX11_law_27 : decode cX11_law 27 = .ok (.aload_n 0, 1) := by decide +kernel
theorem dX11_law_28 : decode cX11_law 28 = .ok (.getfield 30, 3) := by decide +kernel
theorem dX11_law_31 : decode cX11_law 31 = .ok (.iconst 1, 1) := by decide +kernel
theorem dX11_law_32 : decode cX11_law 32 = .ok (.invokevirtual 176, 3) := by decide +kernel
theorem dX11_law_35 : decode cX11_law 35 = .ok (.ifCond .ne 10, 3) := by decide +kernel
theorem dX11_law_38 : decode cX11_law 38 = .ok (.aload_n 0, 1) := by decide +kernel
theorem dX11_law_39 : decode cX11_law 39 = .ok (.bipush (-6), 2) := by decide +kernel
theorem dX11_law_41 : decode cX11_law 41 = .ok (.invokevirtual 101, 3) := by decide +kernel
theorem dX11_law_44 : decode cX11_law 44 = .ok (.ireturn, 1) := by decide +kernel
theorem dX11_orders_0 : decode cX11_orders 0 = .ok (.aload_n 0, 1) := by decide +kernel
theorem dX11_orders_1 : decode cX11_orders 1 = .ok (.getfield 42, 3) := by decide +kernel
theorem dX11_orders_4 : decode cX11_orders 4 = .ok (.iconst (-1), 1) := by decide +kernel
theorem dX11_orders_5 : decode cX11_orders 5 = .ok (.putfield 193, 3) := by decide +kernel
theorem dX11_orders_8 : decode cX11_orders 8 = .ok (.aload_n 0, 1) := by decide +kernel
theorem dX11_orders_9 : decode cX11_orders 9 = .ok (.getfield 30, 3) := by decide +kernel
theorem dX11_orders_12 : decode cX11_orders 12 = .ok (.iconst 0, 1) := by decide +kernel
theorem dX11_orders_13 : decode cX11_orders 13 = .ok (.invokevirtual 176, 3) := by decide +kernel
theorem dX11_orders_16 : decode cX11_orders 16 = .ok (.ifCond .ne 10, 3) := by decide +kernel
theorem dX11_orders_19 : decode cX11_orders 19 = .ok (.aload_n 0, 1) := by decide +kernel
theorem dX11_orders_20 : decode cX11_orders 20 = .ok (.bipush (-6), 2) := by decide +kernel
theorem dX11_orders_22 : decode cX11_orders 22 = .ok (.invokevirtual 101, 3) := by decide +kernel
theorem dX11_orders_25 : decode cX11_orders 25 = .ok (.ireturn, 1) := by decide +kernel
set_option maxRecDepth 20000 in
theorem ggX8_find_J0_length_8abf5 : GoodIn wsX8_find wsJ0_length_8abf5 := goodIn_r _ [8, 9, 10, 11, 12, 7, 13, 14, 15] (by decide +kernel) (by decide +kernel)
set_option maxRecDepth 20000 in
theorem gX8_find_J0_length_8abf5 : GoodIn wsX8_find (wsV RX8 38 RJ0 yJ0_length_8abf5 wsJ0_length_8abf5) := goodIn_app (goodIn_of _ (by decide +kernel)) ggX8_find_J0_length_8abf5
set_option maxRecDepth 20000 in
theorem ggX8_find_J0_charAt_5068e : GoodIn wsX8_find wsJ0_charAt_5068e := goodIn_r _ [19, 9, 20, 21, 22, 7, 23, 14, 15, 24, 25, 26, 27, 28, 29, 30, 31, 32, 33, 34, 35, 36, 37, 38, 39, 40, 41, 42, 43, 44, 45, 46, 47, 48, 49, 50, 51, 52] (by decide +kernel) (by decide +kernel)
set_option maxRecDepth 20000 in
theorem gX8_find_J0_charAt_5068e : GoodIn wsX8_find (wsV RX8 43 RJ0 yJ0_charAt_5068e wsJ0_charAt_5068e) := goodIn_app (goodIn_of _ (by decide +kernel)) ggX8_find_J0_charAt_5068e
set_option maxRecDepth 20000 in
theorem ggX6_clause_X8_find : GoodIn wsX6_clause wsX8_find := goodIn_r _ [9, 10, 11, 12, 13, 14, 15, 16, 17, 18, 19, 20, 21, 22, 23, 24, 25, 26, 27, 28, 29, 30, 31, 32, 33, 34, 35, 36, 37, 38, 39, 40, 41, 42, 43, 44, 45, 46, 47, 48, 49, 50, 51, 52, 53, 54, 55, 56, 57, 58, 59, 60, 61, 129, 130, 131, 132, 133, 134] (by decide +kernel) (by decide +kernel)
set_option maxRecDepth 20000 in
theorem gX6_clause_X8_find_n67 : GoodIn wsX6_clause (wsX8_find) := ggX6_clause_X8_find
set_option maxRecDepth 20000 in
theorem ggX6_reads_X8_step : GoodIn wsX6_reads wsX8_step := goodIn_r _ [9, 10, 11, 12, 13, 14, 15, 16, 17, 18, 19, 20, 134, 135, 136, 137, 138, 139] (by decide +kernel) (by decide +kernel)
set_option maxRecDepth 20000 in
theorem gX6_reads_X8_step_n47 : GoodIn wsX6_reads (wsX8_step) := ggX6_reads_X8_step
set_option maxRecDepth 20000 in
theorem ggX6_reads_X6_clause : GoodIn wsX6_reads wsX6_clause := goodIn_r _ [25, 4, 1, 26, 3, 27, 28, 7, 29, 30, 11, 10, 13, 31, 32, 33, 34, 35, 36, 37, 38, 39, 40, 41, 42, 43, 44, 45, 46, 47, 48, 49, 50, 51, 52, 53, 54, 55, 56, 57, 58, 59, 60, 61, 62, 63, 64, 65, 66, 67, 68, 69, 70, 71, 72, 73, 74, 75, 76, 77, 78, 79, 6, 8, 9, 12, 14, 15, 16, 17, 18, 19, 20, 80, 81, 82, 83, 84, 85, 86, 87, 88, 89, 90, 91, 24, 92, 93, 94, 95, 96, 97, 98, 99, 100, 101, 102, 103, 104, 105, 106, 107, 108, 109, 110, 111, 2, 112, 113, 114, 115, 116, 117, 118, 119, 120, 121, 122, 123, 124, 125, 126, 127, 128, 129, 130, 131, 132, 133, 134, 135, 136, 137, 138, 139] (by decide +kernel) (by decide +kernel)
set_option maxRecDepth 20000 in
theorem gX6_reads_X6_clause : GoodIn wsX6_reads (wsV RX6 50 RX6 yX6_clause wsX6_clause) := goodIn_app (goodIn_of _ (by decide +kernel)) ggX6_reads_X6_clause
set_option maxRecDepth 20000 in
theorem ggX11_law_X6_reads : GoodIn wsX11_law wsX6_reads := goodIn_r _ [17, 18, 19, 20, 21, 22, 23, 24, 25, 26, 27, 28, 29, 30, 31, 32, 33, 34, 35, 36, 37, 38, 39, 40, 15, 41, 42, 43, 44, 45, 46, 47, 48, 49, 50, 51, 52, 53, 54, 55, 56, 57, 58, 59, 60, 61, 62, 63, 64, 65, 66, 67, 68, 69, 70, 71, 72, 73, 74, 75, 76, 77, 78, 79, 80, 81, 82, 83, 84, 85, 86, 87, 88, 89, 90, 91, 92, 93, 94, 95, 96, 97, 98, 99, 100, 101, 102, 103, 104, 105, 106, 107, 108, 109, 110, 111, 112, 113, 114, 115, 116, 117, 118, 119, 120, 121, 122, 123, 124, 125, 126, 127, 128, 129, 130, 131, 132, 133, 134, 135, 136, 137, 138, 139, 140, 212, 213, 214, 215, 216, 217, 218, 219, 220, 206, 207, 208, 209, 210, 211] (by decide +kernel) (by decide +kernel)
set_option maxRecDepth 20000 in
theorem gX11_law_X6_reads_n176 : GoodIn wsX11_law (wsX6_reads) := ggX11_law_X6_reads
set_option maxRecDepth 20000 in
theorem ggX11_law_X11_refuse : GoodIn wsX11_law wsX11_refuse := goodIn_r _ [8, 9, 10, 11, 12, 7, 13, 179, 180, 181, 182, 183, 184, 185, 186, 187, 188, 189, 190, 191, 192, 193, 194, 195] (by decide +kernel) (by decide +kernel)
set_option maxRecDepth 20000 in
theorem gX11_law_X11_refuse : GoodIn wsX11_law (wsV RX11 101 RX11 yX11_refuse wsX11_refuse) := goodIn_app (goodIn_of _ (by decide +kernel)) ggX11_law_X11_refuse
set_option maxRecDepth 20000 in
theorem ggX11_orders_X6_reads : GoodIn wsX11_orders wsX6_reads := goodIn_r _ [8, 9, 10, 11, 12, 13, 14, 15, 16, 17, 18, 19, 20, 21, 22, 23, 24, 25, 26, 27, 28, 29, 30, 31, 6, 32, 33, 34, 35, 36, 37, 38, 39, 40, 41, 42, 43, 44, 45, 46, 47, 48, 49, 50, 51, 52, 53, 54, 55, 56, 57, 58, 59, 60, 61, 62, 63, 64, 65, 66, 67, 68, 69, 70, 71, 72, 73, 74, 75, 76, 77, 78, 79, 80, 81, 82, 83, 84, 85, 86, 87, 88, 89, 90, 91, 92, 93, 94, 95, 96, 97, 98, 99, 100, 101, 102, 103, 104, 105, 106, 107, 108, 109, 110, 111, 112, 113, 114, 115, 116, 117, 118, 119, 120, 121, 122, 123, 124, 125, 126, 127, 128, 129, 130, 131, 326, 327, 328, 329, 330, 331, 332, 333, 334, 335, 336, 337, 338, 339, 340] (by decide +kernel) (by decide +kernel)
set_option maxRecDepth 20000 in
theorem gX11_orders_X6_reads_n176 : GoodIn wsX11_orders (wsX6_reads) := ggX11_orders_X6_reads
set_option maxRecDepth 20000 in
theorem ggX11_orders_X11_refuse : GoodIn wsX11_orders wsX11_refuse := goodIn_r _ [136, 137, 138, 139, 140, 135, 141, 301, 302, 303, 304, 305, 306, 307, 308, 309, 310, 311, 312, 313, 314, 315, 316, 317] (by decide +kernel) (by decide +kernel)
set_option maxRecDepth 20000 in
theorem gX11_orders_X11_refuse : GoodIn wsX11_orders (wsV RX11 101 RX11 yX11_refuse wsX11_refuse) := goodIn_app (goodIn_of _ (by decide +kernel)) ggX11_orders_X11_refuse
set_option maxHeartbeats 4000000 in
set_option maxRecDepth 100000 in
theorem j_length_1 (l : Launch) (D : va_G) (K : Nat → ClassId) (g : Nat → Nat) (sz : Nat) : Met l yJ0_length_8abf5 wsJ0_length_8abf5 ({ frames := 1, cells := 0, slots := 0, locals := 20 }) (va_Pc [.ref (g 4)] (PreX D K [] sz g (fun _ => False))) (vp_Si (fun r : Int32 => (r = 19))) 0 0 (fun _ => False) := by
  refine Met.ofW (cc := cJ0_length_8abf5) (maxL := 1) (ret := (some .int)) (by decide) rfl ?_
  intro p e s m args below meth c s₁ B hml hv
  obtain ⟨rfl, ⟨hsz, hP, hK, hD0, hN⟩, hG⟩ := hv
  have hx := B.exec
  have hb := B.bytes
  have hr := B.returns
  have hts := atoms_spec (ws := wsJ0_length_8abf5) B.pre
  have hown : s.vm.findClass RJ0 = some m.cls := findClass_of_methodNamed B.named
  have hlocks := B.notSynchronized
  subst hsz
  have hD := hD0
  have hS : va_S (fun _ => False) s.heap s.heap [] := va_S.rf
  have hP : va_P D vwCl [] s.heap := hP
  have hl := lv_entry [.ref (g 4)] (n := 1) (Nat.le_of_ble_eq_true rfl)
  rw [lg_entry_eq]
  generalize (lg_sl [.ref (g 4)] ++ List.replicate (1 - (lg_sl [.ref (g 4)]).length) Slot.unset).toArray = ls at hl ⊢
  have hl : lv_has ls 1 [(0, .ref (g 4))] := hl
  refine lv_aload_n hx hb dJ0_length_8abf5_0 rfl (lv_at hl 0 rfl) ?_
  refine vk_getf hx hb hG.2.2.2.2.2.2.1 hS hown (hts (.fieldLink RJ0 9 "java/lang/String" "value" "[B") (List.mem_cons_of_mem _ (List.mem_of_getElem? (i := 0) rfl))) (fun _ h9 => h9) dJ0_length_8abf5_1 ?_
  refine va_tlen (v := 19) hx hb hG.2.2.2.2.2.2.2 hS rfl dJ0_length_8abf5_4 ?_
  refine lv_aload_n hx hb dJ0_length_8abf5_5 rfl (lv_at hl 0 rfl) ?_
  refine pci (va_runV (As := []) (rest := [.int 19]) ⟨hx, hb, hml, hown, hts⟩ (j_coder_1 l D K g s.heap.size) (cwV 0 hts gJ0_length_8abf5_J0_coder_7d493 rfl rfl rfl (by decide +kernel) ⟨Nat.le_of_ble_eq_true rfl, Nat.le_of_ble_eq_true rfl⟩) (mkVS hK hN hG.2.2.2.2 hS (fun U hU hW => Gl.atF hG hS hW hU)) rfl rfl hl.1 rfl (lv_room (Nat.le_of_ble_eq_true rfl)) dJ0_length_8abf5_6 ⟨Nat.le_of_ble_eq_true rfl, Nat.le_of_ble_eq_true rfl⟩) (fun r_1 hw => ?_)
  obtain rfl : r_1 = 0 := hw
  refine lv_ishr hx hb dJ0_length_8abf5_9 ?_
  refine lv_topi (fun x_2 ex_2 => ?_)
  obtain rfl : x_2 = 19 := ex_2.trans (by first | rfl | decide)
  exact W.iret (v := 19) hx hb hr (fun t ht hW => ⟨_, rfl, (by first | exact rfl), ht⟩) (fun q hq => by cases hq) dJ0_length_8abf5_10
set_option maxHeartbeats 4000000 in
set_option maxRecDepth 100000 in
theorem j_char1_1 (l : Launch) (D : va_G) (K : Nat → ClassId) (x : Int32) (g : Nat → Nat) (X : Int) (sz : Nat) (qx : x.toInt = X) (hix : 0 ≤ X ∧ X < 19) : Met l yJ1_charAt_3b067 wsJ1_charAt_3b067 ({ frames := 2, cells := 0, slots := 0, locals := 43 }) (va_Pc [.ref (g 5), .int x] (PreX D K [] sz g (fun _ => False))) (vp_Si (fun r : Int32 => narrow .char (.int r) = .int r)) 0 0 (fun _ => False) := by
  refine Met.ofW (cc := cJ1_charAt_3b067) (maxL := 2) (ret := (some .char)) (by decide) rfl ?_
  intro p e s m args below meth c s₁ B hml hv
  obtain ⟨rfl, ⟨hsz, hP, hK, hD0, hN⟩, hG⟩ := hv
  have hx := B.exec
  have hb := B.bytes
  have hr := B.returns
  have hts := atoms_spec (ws := wsJ1_charAt_3b067) B.pre
  have hown : s.vm.findClass RJ1 = some m.cls := findClass_of_methodNamed B.named
  have hlocks := B.notSynchronized
  subst hsz
  have hD := hD0
  have hS : va_S (fun _ => False) s.heap s.heap [] := va_S.rf
  have hP : va_P D vwCl [] s.heap := hP
  have hl := lv_entry [.ref (g 5), .int x] (n := 2) (Nat.le_of_ble_eq_true rfl)
  rw [lg_entry_eq]
  generalize (lg_sl [.ref (g 5), .int x] ++ List.replicate (2 - (lg_sl [.ref (g 5), .int x]).length) Slot.unset).toArray = ls at hl ⊢
  have hl : lv_has ls 2 [(0, .ref (g 5)), (1, .int x)] := hl
  refine lv_iload_n hx hb dJ1_charAt_3b067_0 rfl (lv_at hl 1 rfl) ?_
  refine lv_aload_n hx hb dJ1_charAt_3b067_1 rfl (lv_at hl 0 rfl) ?_
  refine va_tlen (v := 19) hx hb hG.2.2.2.2.2.2.2 hS rfl dJ1_charAt_3b067_2 ?_
  refine pcv (va_runS (As := [.int x, .int 19]) (rest := []) ⟨hx, hb, hml, hown, hts⟩ (j_check_19 l D K x g X s.heap.size qx (by omega)) (va_cwS 2 hts gJ1_charAt_3b067_J0_checkIndex_df160 rfl rfl rfl (by decide +kernel) ⟨Nat.le_of_ble_eq_true rfl, Nat.le_of_ble_eq_true rfl⟩) (mkSX hK hN (hP.sub [] rfl) (hD.sub [] (by decide) rfl) (fun U hU hW => Gl.atF hG hS hW hU)) rfl rfl hl.1 rfl (lv_room (Nat.le_of_ble_eq_true rfl)) dJ1_charAt_3b067_3 ⟨Nat.le_of_ble_eq_true rfl, Nat.le_of_ble_eq_true rfl⟩) (fun hw => ?_)
  refine lv_aload_n hx hb dJ1_charAt_3b067_6 rfl (lv_at hl 0 rfl) ?_
  refine lv_iload_n hx hb dJ1_charAt_3b067_7 rfl (lv_at hl 1 rfl) ?_
  refine va_tb (v := .int (sb1 (x : Int32).toNatClampNeg)) hx hb hG.2.2.2.2.2.2.2 hS (i_in qx (by omega)) rfl dJ1_charAt_3b067_8 ?_
  refine lv_topi (fun x_2 ex_2 => ?_)
  refine lv_sipush (v := 255) hx hb dJ1_charAt_3b067_9 (by decide) ?_
  refine lv_iand hx hb dJ1_charAt_3b067_12 ?_
  refine lv_topi (fun x_3 ex_3 => ?_)
  refine lv_i2c hx hb dJ1_charAt_3b067_13 rfl ?_
  exact W.zret (v := (x_3.toUInt32 % 65536).toInt32) hx hb hr (by first | rfl | decide | exact pk_nc _ | assumption) (fun t ht hW => ⟨_, rfl, pk_nc _, ht⟩) (fun q hq => by cases hq) dJ1_charAt_3b067_14
set_option maxHeartbeats 4000000 in
set_option maxRecDepth 100000 in
theorem j_char_1 (l : Launch) (D : va_G) (K : Nat → ClassId) (x : Int32) (g : Nat → Nat) (X : Int) (sz : Nat) (qx : x.toInt = X) (hix : 0 ≤ X ∧ X < 19) : Met l yJ0_charAt_5068e wsJ0_charAt_5068e ({ frames := 3, cells := 0, slots := 0, locals := 64 }) (va_Pc [.ref (g 4), .int x] (PreX D K [] sz g (fun _ => False))) (vp_Si (fun r : Int32 => narrow .char (.int r) = .int r)) 0 0 (fun _ => False) := by
  refine Met.ofW (cc := cJ0_charAt_5068e) (maxL := 2) (ret := (some .char)) (by decide) rfl ?_
  intro p e s m args below meth c s₁ B hml hv
  obtain ⟨rfl, ⟨hsz, hP, hK, hD0, hN⟩, hG⟩ := hv
  have hx := B.exec
  have hb := B.bytes
  have hr := B.returns
  have hts := atoms_spec (ws := wsJ0_charAt_5068e) B.pre
  have hown : s.vm.findClass RJ0 = some m.cls := findClass_of_methodNamed B.named
  have hlocks := B.notSynchronized
  subst hsz
  have hD := hD0
  have hS : va_S (fun _ => False) s.heap s.heap [] := va_S.rf
  have hP : va_P D vwCl [] s.heap := hP
  have hl := lv_entry [.ref (g 4), .int x] (n := 2) (Nat.le_of_ble_eq_true rfl)
  rw [lg_entry_eq]
  generalize (lg_sl [.ref (g 4), .int x] ++ List.replicate (2 - (lg_sl [.ref (g 4), .int x]).length) Slot.unset).toArray = ls at hl ⊢
  have hl : lv_has ls 2 [(0, .ref (g 4)), (1, .int x)] := hl
  refine lv_aload_n hx hb dJ0_charAt_5068e_0 rfl (lv_at hl 0 rfl) ?_
  refine pci (va_runV (As := []) (rest := []) ⟨hx, hb, hml, hown, hts⟩ (j_latin_1 l D K g s.heap.size) (cwV 0 hts gJ0_charAt_5068e_J0_isLatin1_aae02 rfl rfl rfl (by decide +kernel) ⟨Nat.le_of_ble_eq_true rfl, Nat.le_of_ble_eq_true rfl⟩) (mkVS hK hN hG.2.2.2.2 hS (fun U hU hW => Gl.atF hG hS hW hU)) rfl rfl hl.1 rfl (lv_room (Nat.le_of_ble_eq_true rfl)) dJ0_charAt_5068e_1 ⟨Nat.le_of_ble_eq_true rfl, Nat.le_of_ble_eq_true rfl⟩) (fun r_1 hw => ?_)
  obtain rfl : r_1 = 1 := hw
  refine lv_if_eq (tgt := 16) hx hb dJ0_charAt_5068e_4 (by decide) (fun c_2 => absurd c_2 (by decide)) (fun c_2 => ?_)
  refine lv_aload_n hx hb dJ0_charAt_5068e_7 rfl (lv_at hl 0 rfl) ?_
  refine vk_getf hx hb hG.2.2.2.2.2.2.1 hS hown (hts (.fieldLink RJ0 9 "java/lang/String" "value" "[B") (List.mem_cons_of_mem _ (List.mem_append_left _ (List.mem_of_getElem? (i := 0) rfl)))) (fun _ h9 => h9) dJ0_charAt_5068e_8 ?_
  refine lv_iload_n hx hb dJ0_charAt_5068e_11 rfl (lv_at hl 1 rfl) ?_
  refine pci (va_runS (As := [.ref (g 5), .int x]) (rest := []) ⟨hx, hb, hml, hown, hts⟩ (j_char1_1 l D K x g X s.heap.size qx (by omega)) (va_cwS 2 hts gJ0_charAt_5068e_J1_charAt_3b067 rfl rfl rfl (by decide +kernel) ⟨Nat.le_of_ble_eq_true rfl, Nat.le_of_ble_eq_true rfl⟩) (mkSX hK hN (hP.sub [] rfl) (hD.sub [] (by decide) rfl) (fun U hU hW => Gl.atF hG hS hW hU)) rfl rfl hl.1 rfl (lv_room (Nat.le_of_ble_eq_true rfl)) dJ0_charAt_5068e_12 ⟨Nat.le_of_ble_eq_true rfl, Nat.le_of_ble_eq_true rfl⟩) (fun r_3 hw => ?_)
  exact W.zret (v := r_3) hx hb hr (by first | rfl | decide | exact pk_nc _ | assumption) (fun t ht hW => ⟨_, rfl, hw, ht⟩) (fun q hq => by cases hq) dJ0_charAt_5068e_15
set_option maxHeartbeats 4000000 in
set_option maxRecDepth 100000 in
theorem c_find_0 (l : Launch) (D : va_G) (K : Nat → ClassId) (a0 : Nat) (k0 : Value) (k1 : Value) (k4 : Value) (k5 : Value) (g : Nat → Nat) (sz : Nat) : Met l yX8_find wsX8_find ({ frames := 4, cells := 0, slots := 0, locals := 85 }) (va_Pc [.ref a0, .ref (g 2)] (PreX D K [(a0, .inr (8, [k0, k1, .int 0, .int 0, k4, k5]))] sz g (fun _ => False))) (vp_Si (fun r : Int32 => (r = (-1)))) 0 0 (fun _ => False) := by
  refine Met.ofW (cc := cX8_find) (maxL := 6) (ret := (some .int)) (by decide) rfl ?_
  intro p e s m args below meth c s₁ B hml hv
  obtain ⟨rfl, ⟨hsz, hP, hK, hD0, hN⟩, hG⟩ := hv
  have hx := B.exec
  have hb := B.bytes
  have hr := B.returns
  have hts := atoms_spec (ws := wsX8_find) B.pre
  have hown : s.vm.findClass RX8 = some m.cls := findClass_of_methodNamed B.named
  have hlocks := B.notSynchronized
  subst hsz
  have hD := hD0
  have hS : va_S (fun _ => False) s.heap s.heap [] := va_S.rf
  have hP : va_P D vwCl [(a0, .inr (8, [k0, k1, .int 0, .int 0, k4, k5]))] s.heap := hP
  have hl := lv_entry [.ref a0, .ref (g 2)] (n := 6) (Nat.le_of_ble_eq_true rfl)
  rw [lg_entry_eq]
  generalize (lg_sl [.ref a0, .ref (g 2)] ++ List.replicate (6 - (lg_sl [.ref a0, .ref (g 2)]).length) Slot.unset).toArray = ls at hl ⊢
  have hl : lv_has ls 6 [(0, .ref a0), (1, .ref (g 2))] := hl
  have hw8 : ∀ w ∈ wsX80, w ∈ wsX8_find := fun w h => (List.mem_cons_of_mem _ (List.mem_append_right _ h))
  generalize hQ : MQ below _ _ s _ _ _ = Q
  refine lv_iconst (v := 0) hx hb dX8_find_0 (by decide) ?_
  refine lv_istore_n (lv' := [(2, .int 0), (0, .ref a0), (1, .ref (g 2))]) hx hb dX8_find_1 rfl hl (by decide) rfl (fun ls hl => ?_)
  refine lv_iconst (v := 0) hx hb dX8_find_2 (by decide) ?_
  refine lv_istore_n (lv' := [(3, .int 0), (2, .int 0), (0, .ref a0), (1, .ref (g 2))]) hx hb dX8_find_3 rfl hl (by decide) rfl (fun ls hl => ?_)
  refine lv_iconst (v := 0) hx hb dX8_find_4 (by decide) ?_
  refine lv_istore (lv' := [(4, .int 0), (3, .int 0), (2, .int 0), (0, .ref a0), (1, .ref (g 2))]) hx hb dX8_find_5 hl (by decide) rfl (fun ls hl => ?_)
  have lp_1 : ∀ (n : Nat) (i : Nat) (pl : Int32) (sm : Int32) (hn : 25 ≤ i + n) (hi : i ≤ 24) (hs : -1 ≤ sm.toInt ∧ sm.toInt ≤ 0) (ls : Array Slot) (hl : lv_has ls 6 [(4, .int (nI i)), (3, .int sm), (2, .int pl), (0, .ref a0), (1, .ref (g 2))]), W p l e ({ frames := 4, cells := 0, slots := 0, locals := 85 }) s m (([.ref a0, .ref (g 2)] : List Value).toArray) below meth c s.heap [] 0 0 Q (F0 m 7 ls []) := by
    intro n
    induction n with
    | zero =>
      intro i pl sm hn hi hs ls hl
      exfalso; omega
    | succ n ih =>
      intro i pl sm hn hi hs ls hl
      refine lv_iload hx hb dX8_find_7 (lv_at hl 0 rfl) ?_
      refine lv_aload_n hx hb dX8_find_9 rfl (lv_at hl 4 rfl) ?_
      refine pci (va_runV (As := []) (rest := [.int (nI i)]) ⟨hx, hb, hml, hown, hts⟩ (j_length_0 l D K g s.heap.size) (cwV 0 hts gX8_find_J0_length_8abf5 rfl rfl rfl (by decide +kernel) ⟨Nat.le_of_ble_eq_true rfl, Nat.le_of_ble_eq_true rfl⟩) (mkVS hK hN hG.2.2.1.2 hS (fun U hU hW => Gl.atF hG hS hW hU)) rfl rfl hl.1 rfl (lv_room (Nat.le_of_ble_eq_true rfl)) dX8_find_10 ⟨Nat.le_of_ble_eq_true rfl, Nat.le_of_ble_eq_true rfl⟩) (fun r_2 hw => ?_)
      obtain rfl : r_2 = 23 := hw
      refine lv_icmp_gt (tgt := 119) hx hb dX8_find_13 (by decide) (fun c_3 => ?_) (fun c_3 => ?_)
      · have c_3i := i_lt (x := 23) (y := ((i : Nat) : Int)) rfl (nI_toInt (by omega)) c_3
        refine lv_iconst (v := (-1)) hx hb dX8_find_119 (by decide) ?_
        subst hQ
        exact W.iret (v := (-1)) hx hb hr (fun t ht hW => ⟨_, rfl, (by first | exact rfl), ht⟩) (fun q hq => by cases hq) dX8_find_120
      · have c_3i := i_nlt (x := 23) (y := ((i : Nat) : Int)) rfl (nI_toInt (by omega)) c_3
        refine lv_iload hx hb dX8_find_16 (lv_at hl 0 rfl) ?_
        refine lv_aload_n hx hb dX8_find_18 rfl (lv_at hl 4 rfl) ?_
        refine pci (va_runV (As := []) (rest := [.int (nI i)]) ⟨hx, hb, hml, hown, hts⟩ (j_length_0 l D K g s.heap.size) (cwV 0 hts gX8_find_J0_length_8abf5 rfl rfl rfl (by decide +kernel) ⟨Nat.le_of_ble_eq_true rfl, Nat.le_of_ble_eq_true rfl⟩) (mkVS hK hN hG.2.2.1.2 hS (fun U hU hW => Gl.atF hG hS hW hU)) rfl rfl hl.1 rfl (lv_room (Nat.le_of_ble_eq_true rfl)) dX8_find_19 ⟨Nat.le_of_ble_eq_true rfl, Nat.le_of_ble_eq_true rfl⟩) (fun r_4 hw => ?_)
        obtain rfl : r_4 = 23 := hw
        refine lv_icmp_ge (tgt := 34) hx hb dX8_find_22 (by decide) (fun c_5 => ?_) (fun c_5 => ?_)
        · have c_5i := i_le (x := 23) (y := ((i : Nat) : Int)) rfl (nI_toInt (by omega)) c_5
          refine lv_bipush (v := 32) hx hb dX8_find_34 (by decide) ?_
          refine lv_istore (lv' := [(5, .int 32), (4, .int (nI i)), (3, .int sm), (2, .int pl), (0, .ref a0), (1, .ref (g 2))]) hx hb dX8_find_36 hl (by decide) rfl (fun ls hl => ?_)
          refine lv_iload hx hb dX8_find_38 (lv_at hl 0 rfl) ?_
          refine lv_bipush (v := 32) hx hb dX8_find_40 (by decide) ?_
          refine lv_icmp_eq (tgt := 89) hx hb dX8_find_42 (by decide) (fun c_6 => ?_) (fun c_6 => absurd (by decide) c_6)
          refine lv_iload_n hx hb dX8_find_89 rfl (lv_at hl 2 rfl) ?_
          refine lv_if_le (tgt := 108) hx hb dX8_find_90 (by decide) (fun c_7 => ?_) (fun c_7 => ?_)
          · have c_7i := i_le (x := sm.toInt) (y := 0) rfl rfl c_7
            obtain ⟨x_8, ex_8⟩ : ∃ y : Int32, y = pl + Int32.ofInt 1 := ⟨_, rfl⟩
            refine lv_iinc (v := x_8) (lv' := [(2, .int x_8), (5, .int 32), (4, .int (nI i)), (3, .int sm), (0, .ref a0), (1, .ref (g 2))]) hx hb dX8_find_108 hl (k := 3) rfl (by rw [ex_8]) (by decide) rfl (fun ls hl => ?_)
            refine lv_iconst (v := 0) hx hb dX8_find_111 (by decide) ?_
            refine lv_istore_n (lv' := [(3, .int 0), (2, .int x_8), (5, .int 32), (4, .int (nI i)), (0, .ref a0), (1, .ref (g 2))]) hx hb dX8_find_112 rfl hl (by decide) rfl (fun ls hl => ?_)
            refine lv_iinc (v := nI (i + 1)) (lv' := [(4, .int (nI (i + 1))), (3, .int 0), (2, .int x_8), (5, .int 32), (0, .ref a0), (1, .ref (g 2))]) hx hb dX8_find_113 hl (k := 3) rfl (nI_1 i) (by decide) rfl (fun ls hl => ?_)
            refine lv_goto (tgt := 7) hx hb dX8_find_116 (by decide) ?_
            exact ih (i + 1) x_8 0 (by omega) (by omega) (by decide) ls (lv_sub hl [0, 1, 2, 4, 5] rfl)
          · have c_7i := i_nle (x := sm.toInt) (y := 0) rfl rfl c_7
            exfalso; omega
        · have c_5i := i_nle (x := 23) (y := ((i : Nat) : Int)) rfl (nI_toInt (by omega)) c_5
          refine lv_aload_n hx hb dX8_find_25 rfl (lv_at hl 4 rfl) ?_
          refine lv_iload hx hb dX8_find_26 (lv_at hl 0 rfl) ?_
          refine pci (va_runV (As := [.int (nI i)]) (rest := []) ⟨hx, hb, hml, hown, hts⟩ (j_char_0 l D K (nI i) g ((i : Nat) : Int) s.heap.size (nI_toInt (by omega)) (by omega)) (cwV 1 hts gX8_find_J0_charAt_5068e rfl rfl rfl (by decide +kernel) ⟨Nat.le_of_ble_eq_true rfl, Nat.le_of_ble_eq_true rfl⟩) (mkVS hK hN hG.2.2.1.2 hS (fun U hU hW => Gl.atF hG hS hW hU)) rfl rfl hl.1 rfl (lv_room (Nat.le_of_ble_eq_true rfl)) dX8_find_28 ⟨Nat.le_of_ble_eq_true rfl, Nat.le_of_ble_eq_true rfl⟩) (fun r_9 hw => ?_)
          refine lv_goto (tgt := 36) hx hb dX8_find_31 (by decide) ?_
          refine lv_istore (lv' := [(5, .int r_9), (4, .int (nI i)), (3, .int sm), (2, .int pl), (0, .ref a0), (1, .ref (g 2))]) hx hb dX8_find_36 hl (by decide) rfl (fun ls hl => ?_)
          refine lv_iload hx hb dX8_find_38 (lv_at hl 0 rfl) ?_
          refine lv_bipush (v := 32) hx hb dX8_find_40 (by decide) ?_
          refine lv_icmp_eq (tgt := 89) hx hb dX8_find_42 (by decide) (fun c_10 => ?_) (fun c_10 => ?_)
          · have c_10i := i_eq (x := r_9.toInt) (y := 32) rfl rfl c_10
            refine lv_iload_n hx hb dX8_find_89 rfl (lv_at hl 2 rfl) ?_
            refine lv_if_le (tgt := 108) hx hb dX8_find_90 (by decide) (fun c_11 => ?_) (fun c_11 => ?_)
            · have c_11i := i_le (x := sm.toInt) (y := 0) rfl rfl c_11
              obtain ⟨x_12, ex_12⟩ : ∃ y : Int32, y = pl + Int32.ofInt 1 := ⟨_, rfl⟩
              refine lv_iinc (v := x_12) (lv' := [(2, .int x_12), (5, .int r_9), (4, .int (nI i)), (3, .int sm), (0, .ref a0), (1, .ref (g 2))]) hx hb dX8_find_108 hl (k := 3) rfl (by rw [ex_12]) (by decide) rfl (fun ls hl => ?_)
              refine lv_iconst (v := 0) hx hb dX8_find_111 (by decide) ?_
              refine lv_istore_n (lv' := [(3, .int 0), (2, .int x_12), (5, .int r_9), (4, .int (nI i)), (0, .ref a0), (1, .ref (g 2))]) hx hb dX8_find_112 rfl hl (by decide) rfl (fun ls hl => ?_)
              refine lv_iinc (v := nI (i + 1)) (lv' := [(4, .int (nI (i + 1))), (3, .int 0), (2, .int x_12), (5, .int r_9), (0, .ref a0), (1, .ref (g 2))]) hx hb dX8_find_113 hl (k := 3) rfl (nI_1 i) (by decide) rfl (fun ls hl => ?_)
              refine lv_goto (tgt := 7) hx hb dX8_find_116 (by decide) ?_
              exact ih (i + 1) x_12 0 (by omega) (by omega) (by decide) ls (lv_sub hl [0, 1, 2, 4, 5] rfl)
            · have c_11i := i_nle (x := sm.toInt) (y := 0) rfl rfl c_11
              exfalso; omega
          · have c_10i := i_ne (x := r_9.toInt) (y := 32) rfl rfl c_10
            refine lv_iload_n hx hb dX8_find_45 rfl (lv_at hl 2 rfl) ?_
            refine lv_if_lt (tgt := 84) hx hb dX8_find_46 (by decide) (fun c_13 => ?_) (fun c_13 => ?_)
            · have c_13i := i_lt (x := sm.toInt) (y := 0) rfl rfl c_13
              refine lv_iconst (v := (-1)) hx hb dX8_find_84 (by decide) ?_
              refine lv_istore_n (lv' := [(3, .int (-1)), (5, .int r_9), (4, .int (nI i)), (2, .int pl), (0, .ref a0), (1, .ref (g 2))]) hx hb dX8_find_85 rfl hl (by decide) rfl (fun ls hl => ?_)
              refine lv_goto (tgt := 113) hx hb dX8_find_86 (by decide) ?_
              refine lv_iinc (v := nI (i + 1)) (lv' := [(4, .int (nI (i + 1))), (3, .int (-1)), (5, .int r_9), (2, .int pl), (0, .ref a0), (1, .ref (g 2))]) hx hb dX8_find_113 hl (k := 2) rfl (nI_1 i) (by decide) rfl (fun ls hl => ?_)
              refine lv_goto (tgt := 7) hx hb dX8_find_116 (by decide) ?_
              exact ih (i + 1) pl (-1) (by omega) (by omega) (by decide) ls (lv_sub hl [0, 1, 3, 4, 5] rfl)
            · have c_13i := i_nlt (x := sm.toInt) (y := 0) rfl rfl c_13
              refine lv_aload_n hx hb dX8_find_49 rfl (lv_at hl 4 rfl) ?_
              refine va_get (ci := 8) (v := .int 0) (C := RX8) (T := TX8) (N := 6) hx hb hts hw8 hown hK hP 0 rfl rfl 2 (by decide) (hts (.fieldLink RX8 19 "SmokeTune$Tape" "from" "I") (List.mem_cons_of_mem _ (List.mem_append_left _ (List.mem_append_left _ (List.mem_of_getElem? (i := 0) rfl))))) (fun _ h9 => h9) rfl dX8_find_50 ?_
              refine lv_iload_n hx hb dX8_find_53 rfl (lv_at hl 2 rfl) ?_
              refine lv_iadd hx hb dX8_find_54 ?_
              refine lv_topi (fun x_14 ex_14 => ?_)
              have hx_14 : x_14.toInt = (0 + sm.toInt) := by rw [ex_14]; exact i_add rfl rfl (by omega)
              refine lv_aload_n hx hb dX8_find_55 rfl (lv_at hl 4 rfl) ?_
              refine va_get (ci := 8) (v := .int 0) (C := RX8) (T := TX8) (N := 6) hx hb hts hw8 hown hK hP 0 rfl rfl 3 (by decide) (hts (.fieldLink RX8 22 "SmokeTune$Tape" "to" "I") (List.mem_cons_of_mem _ (List.mem_append_left _ (List.mem_append_left _ (List.mem_of_getElem? (i := 1) rfl))))) (fun _ h9 => h9) rfl dX8_find_56 ?_
              refine lv_icmp_ge (tgt := 84) hx hb dX8_find_59 (by decide) (fun c_15 => ?_) (fun c_15 => ?_)
              · have c_15i := i_le (x := 0) (y := (0 + sm.toInt)) rfl hx_14 c_15
                refine lv_iconst (v := (-1)) hx hb dX8_find_84 (by decide) ?_
                refine lv_istore_n (lv' := [(3, .int (-1)), (5, .int r_9), (4, .int (nI i)), (2, .int pl), (0, .ref a0), (1, .ref (g 2))]) hx hb dX8_find_85 rfl hl (by decide) rfl (fun ls hl => ?_)
                refine lv_goto (tgt := 113) hx hb dX8_find_86 (by decide) ?_
                refine lv_iinc (v := nI (i + 1)) (lv' := [(4, .int (nI (i + 1))), (3, .int (-1)), (5, .int r_9), (2, .int pl), (0, .ref a0), (1, .ref (g 2))]) hx hb dX8_find_113 hl (k := 2) rfl (nI_1 i) (by decide) rfl (fun ls hl => ?_)
                refine lv_goto (tgt := 7) hx hb dX8_find_116 (by decide) ?_
                exact ih (i + 1) pl (-1) (by omega) (by omega) (by decide) ls (lv_sub hl [0, 1, 3, 4, 5] rfl)
              · have c_15i := i_nle (x := 0) (y := (0 + sm.toInt)) rfl hx_14 c_15
                exfalso; omega
  exact lp_1 25 0 0 0 (by omega) (by omega) (by decide) ls (lv_sub hl [0, 1, 2, 3, 4] rfl)
set_option maxHeartbeats 4000000 in
set_option maxRecDepth 100000 in
theorem c_clause_0 (l : Launch) (D : va_G) (K : Nat → ClassId) (a0 : Nat) (a1 : Nat) (g1 : Value) (g3 : Value) (g4 : Value) (k0 : Value) (k1 : Value) (k4 : Value) (k5 : Value) (g : Nat → Nat) (sz : Nat) : Met l yX6_clause wsX6_clause ({ frames := 5, cells := 0, slots := 0, locals := 110 }) (va_Pc [.ref a0, .int 0] (PreX D K [(a0, .inr (6, [.ref a1, g1, .int 1, g3, g4])), (a1, .inr (8, [k0, k1, .int 0, .int 0, k4, k5]))] sz g (fun _ => False))) (vp_Si (fun r : Int32 => (r = 0))) 0 0 (fun _ => False) := by
  refine Met.ofW (cc := cX6_clause) (maxL := 5) (ret := (some .boolean)) (by decide) rfl ?_
  intro p e s m args below meth c s₁ B hml hv
  obtain ⟨rfl, ⟨hsz, hP, hK, hD0, hN⟩, hG⟩ := hv
  have hx := B.exec
  have hb := B.bytes
  have hr := B.returns
  have hts := atoms_spec (ws := wsX6_clause) B.pre
  have hown : s.vm.findClass RX6 = some m.cls := findClass_of_methodNamed B.named
  have hlocks := B.notSynchronized
  subst hsz
  have hD := hD0
  have hS : va_S (fun _ => False) s.heap s.heap [] := va_S.rf
  have hP : va_P D vwCl [(a0, .inr (6, [.ref a1, g1, .int 1, g3, g4])), (a1, .inr (8, [k0, k1, .int 0, .int 0, k4, k5]))] s.heap := hP
  have hl := lv_entry [.ref a0, .int 0] (n := 5) (Nat.le_of_ble_eq_true rfl)
  rw [lg_entry_eq]
  generalize (lg_sl [.ref a0, .int 0] ++ List.replicate (5 - (lg_sl [.ref a0, .int 0]).length) Slot.unset).toArray = ls at hl ⊢
  have hl : lv_has ls 5 [(0, .ref a0), (1, .int 0)] := hl
  have hw6 : ∀ w ∈ wsX60, w ∈ wsX6_clause := fun w h => (List.mem_cons_of_mem _ (List.mem_append_left _ (List.mem_append_left _ (List.mem_append_right _ h))))
  have hw7 : ∀ w ∈ wsX70, w ∈ wsX6_clause := fun w h => (List.mem_cons_of_mem _ (List.mem_append_left _ (List.mem_append_right _ h)))
  have hw8 : ∀ w ∈ wsX80, w ∈ wsX6_clause := fun w h => (List.mem_cons_of_mem _ (List.mem_append_right _ h))
  refine lv_aload_n hx hb dX6_clause_0 rfl (lv_at hl 0 rfl) ?_
  refine va_get (ci := 6) (v := .ref a1) (C := RX6) (T := TX6) (N := 5) hx hb hts hw6 hown hK hP 0 rfl rfl 0 (by decide) (hts (.fieldLink RX6 12 "SmokeTune$Reader" "tape" "LSmokeTune$Tape;") (List.mem_cons_of_mem _ (List.mem_append_left _ (List.mem_append_left _ (List.mem_append_left _ (List.mem_append_left _ (List.mem_of_getElem? (i := 0) rfl))))))) (fun _ h9 => h9) rfl dX6_clause_1 ?_
  refine lv_aload_n hx hb dX6_clause_4 rfl (lv_at hl 0 rfl) ?_
  refine va_get (ci := 6) (v := .int 1) (C := RX6) (T := TX6) (N := 5) hx hb hts hw6 hown hK hP 0 rfl rfl 2 (by decide) (hts (.fieldLink RX6 27 "SmokeTune$Reader" "lawful" "Z") (List.mem_cons_of_mem _ (List.mem_append_left _ (List.mem_append_left _ (List.mem_append_left _ (List.mem_append_left _ (List.mem_of_getElem? (i := 1) rfl))))))) (fun _ h9 => h9) rfl dX6_clause_5 ?_
  refine lv_if_eq (tgt := 16) hx hb dX6_clause_8 (by decide) (fun c_1 => absurd c_1 (by decide)) (fun c_1 => ?_)
  refine va_ldcS hx hb hown hG.2.2.1.1 dX6_clause_11 ?_
  refine lv_goto (tgt := 18) hx hb dX6_clause_13 (by decide) ?_
  refine pci (va_runVN (As := [.ref (g 2)]) (rest := []) ⟨hx, hb, hml, hown, hts⟩ (c_find_0 l D K a1 k0 k1 k4 k5 g s.heap.size) ⟨va_cnB 1 hts gX6_clause_X8_find_n67 rfl rfl rfl (nst_at hN 33 rfl) (hts (.initialized RX8) (List.mem_cons_of_mem _ (List.mem_append_left _ (List.mem_append_left _ (List.mem_append_left _ (List.mem_append_left _ (List.mem_of_getElem? (i := 6) rfl))))))) (by decide +kernel) ⟨Nat.le_of_ble_eq_true rfl, Nat.le_of_ble_eq_true rfl⟩, (hts (.instanceMethod yX8_find) (List.mem_cons_of_mem _ (List.mem_append_left _ (List.mem_append_left _ (List.mem_append_left _ (List.mem_append_left _ (List.mem_of_getElem? (i := 5) rfl))))))), (hts (.selects RX8 yX8_find yX8_find) (List.mem_cons_of_mem _ (List.mem_append_left _ (List.mem_append_left _ (List.mem_append_left _ (List.mem_append_left _ (List.mem_of_getElem? (i := 7) rfl)))))))⟩ (mkVX hK hN (hP.sub [1] rfl) (hD.sub [1] (by decide) rfl) (ci := 8) (q0 := 0) rfl rfl (fun U hU hW => Gl.atF hG hS hW hU)) rfl rfl hl.1 rfl (lv_room (Nat.le_of_ble_eq_true rfl)) dX6_clause_18 ⟨Nat.le_of_ble_eq_true rfl, Nat.le_of_ble_eq_true rfl⟩) (fun r_2 hw => ?_)
  obtain rfl : r_2 = (-1) := hw
  refine lv_istore_n (lv' := [(2, .int (-1)), (0, .ref a0), (1, .int 0)]) hx hb dX6_clause_21 rfl hl (by decide) rfl (fun ls hl => ?_)
  refine lv_iload_n hx hb dX6_clause_22 rfl (lv_at hl 0 rfl) ?_
  refine lv_if_lt (tgt := 34) hx hb dX6_clause_23 (by decide) (fun c_3 => ?_) (fun c_3 => absurd (by decide) c_3)
  refine lv_iconst (v := 0) hx hb dX6_clause_34 (by decide) ?_
  exact W.zret (v := 0) hx hb hr (by first | rfl | decide | exact pk_nc _ | assumption) (fun t ht hW => ⟨_, rfl, (by first | exact rfl), ht⟩) (fun q hq => by cases hq) dX6_clause_35
set_option maxHeartbeats 4000000 in
set_option maxRecDepth 100000 in
theorem c_find_1 (l : Launch) (D : va_G) (K : Nat → ClassId) (a0 : Nat) (k0 : Value) (k1 : Value) (k4 : Value) (k5 : Value) (g : Nat → Nat) (sz : Nat) : Met l yX8_find wsX8_find ({ frames := 4, cells := 0, slots := 0, locals := 85 }) (va_Pc [.ref a0, .ref (g 4)] (PreX D K [(a0, .inr (8, [k0, k1, .int 0, .int 0, k4, k5]))] sz g (fun _ => False))) (vp_Si (fun r : Int32 => (r = (-1)))) 0 0 (fun _ => False) := by
  refine Met.ofW (cc := cX8_find) (maxL := 6) (ret := (some .int)) (by decide) rfl ?_
  intro p e s m args below meth c s₁ B hml hv
  obtain ⟨rfl, ⟨hsz, hP, hK, hD0, hN⟩, hG⟩ := hv
  have hx := B.exec
  have hb := B.bytes
  have hr := B.returns
  have hts := atoms_spec (ws := wsX8_find) B.pre
  have hown : s.vm.findClass RX8 = some m.cls := findClass_of_methodNamed B.named
  have hlocks := B.notSynchronized
  subst hsz
  have hD := hD0
  have hS : va_S (fun _ => False) s.heap s.heap [] := va_S.rf
  have hP : va_P D vwCl [(a0, .inr (8, [k0, k1, .int 0, .int 0, k4, k5]))] s.heap := hP
  have hl := lv_entry [.ref a0, .ref (g 4)] (n := 6) (Nat.le_of_ble_eq_true rfl)
  rw [lg_entry_eq]
  generalize (lg_sl [.ref a0, .ref (g 4)] ++ List.replicate (6 - (lg_sl [.ref a0, .ref (g 4)]).length) Slot.unset).toArray = ls at hl ⊢
  have hl : lv_has ls 6 [(0, .ref a0), (1, .ref (g 4))] := hl
  have hw8 : ∀ w ∈ wsX80, w ∈ wsX8_find := fun w h => (List.mem_cons_of_mem _ (List.mem_append_right _ h))
  generalize hQ : MQ below _ _ s _ _ _ = Q
  refine lv_iconst (v := 0) hx hb dX8_find_0 (by decide) ?_
  refine lv_istore_n (lv' := [(2, .int 0), (0, .ref a0), (1, .ref (g 4))]) hx hb dX8_find_1 rfl hl (by decide) rfl (fun ls hl => ?_)
  refine lv_iconst (v := 0) hx hb dX8_find_2 (by decide) ?_
  refine lv_istore_n (lv' := [(3, .int 0), (2, .int 0), (0, .ref a0), (1, .ref (g 4))]) hx hb dX8_find_3 rfl hl (by decide) rfl (fun ls hl => ?_)
  refine lv_iconst (v := 0) hx hb dX8_find_4 (by decide) ?_
  refine lv_istore (lv' := [(4, .int 0), (3, .int 0), (2, .int 0), (0, .ref a0), (1, .ref (g 4))]) hx hb dX8_find_5 hl (by decide) rfl (fun ls hl => ?_)
  have lp_1 : ∀ (n : Nat) (i : Nat) (pl : Int32) (sm : Int32) (hn : 21 ≤ i + n) (hi : i ≤ 20) (hs : -1 ≤ sm.toInt ∧ sm.toInt ≤ 0) (ls : Array Slot) (hl : lv_has ls 6 [(4, .int (nI i)), (3, .int sm), (2, .int pl), (0, .ref a0), (1, .ref (g 4))]), W p l e ({ frames := 4, cells := 0, slots := 0, locals := 85 }) s m (([.ref a0, .ref (g 4)] : List Value).toArray) below meth c s.heap [] 0 0 Q (F0 m 7 ls []) := by
    intro n
    induction n with
    | zero =>
      intro i pl sm hn hi hs ls hl
      exfalso; omega
    | succ n ih =>
      intro i pl sm hn hi hs ls hl
      refine lv_iload hx hb dX8_find_7 (lv_at hl 0 rfl) ?_
      refine lv_aload_n hx hb dX8_find_9 rfl (lv_at hl 4 rfl) ?_
      refine pci (va_runV (As := []) (rest := [.int (nI i)]) ⟨hx, hb, hml, hown, hts⟩ (j_length_1 l D K g s.heap.size) (cwV 0 hts gX8_find_J0_length_8abf5 rfl rfl rfl (by decide +kernel) ⟨Nat.le_of_ble_eq_true rfl, Nat.le_of_ble_eq_true rfl⟩) (mkVS hK hN hG.2.2.2.2 hS (fun U hU hW => Gl.atF hG hS hW hU)) rfl rfl hl.1 rfl (lv_room (Nat.le_of_ble_eq_true rfl)) dX8_find_10 ⟨Nat.le_of_ble_eq_true rfl, Nat.le_of_ble_eq_true rfl⟩) (fun r_2 hw => ?_)
      obtain rfl : r_2 = 19 := hw
      refine lv_icmp_gt (tgt := 119) hx hb dX8_find_13 (by decide) (fun c_3 => ?_) (fun c_3 => ?_)
      · have c_3i := i_lt (x := 19) (y := ((i : Nat) : Int)) rfl (nI_toInt (by omega)) c_3
        refine lv_iconst (v := (-1)) hx hb dX8_find_119 (by decide) ?_
        subst hQ
        exact W.iret (v := (-1)) hx hb hr (fun t ht hW => ⟨_, rfl, (by first | exact rfl), ht⟩) (fun q hq => by cases hq) dX8_find_120
      · have c_3i := i_nlt (x := 19) (y := ((i : Nat) : Int)) rfl (nI_toInt (by omega)) c_3
        refine lv_iload hx hb dX8_find_16 (lv_at hl 0 rfl) ?_
        refine lv_aload_n hx hb dX8_find_18 rfl (lv_at hl 4 rfl) ?_
        refine pci (va_runV (As := []) (rest := [.int (nI i)]) ⟨hx, hb, hml, hown, hts⟩ (j_length_1 l D K g s.heap.size) (cwV 0 hts gX8_find_J0_length_8abf5 rfl rfl rfl (by decide +kernel) ⟨Nat.le_of_ble_eq_true rfl, Nat.le_of_ble_eq_true rfl⟩) (mkVS hK hN hG.2.2.2.2 hS (fun U hU hW => Gl.atF hG hS hW hU)) rfl rfl hl.1 rfl (lv_room (Nat.le_of_ble_eq_true rfl)) dX8_find_19 ⟨Nat.le_of_ble_eq_true rfl, Nat.le_of_ble_eq_true rfl⟩) (fun r_4 hw => ?_)
        obtain rfl : r_4 = 19 := hw
        refine lv_icmp_ge (tgt := 34) hx hb dX8_find_22 (by decide) (fun c_5 => ?_) (fun c_5 => ?_)
        · have c_5i := i_le (x := 19) (y := ((i : Nat) : Int)) rfl (nI_toInt (by omega)) c_5
          refine lv_bipush (v := 32) hx hb dX8_find_34 (by decide) ?_
          refine lv_istore (lv' := [(5, .int 32), (4, .int (nI i)), (3, .int sm), (2, .int pl), (0, .ref a0), (1, .ref (g 4))]) hx hb dX8_find_36 hl (by decide) rfl (fun ls hl => ?_)
          refine lv_iload hx hb dX8_find_38 (lv_at hl 0 rfl) ?_
          refine lv_bipush (v := 32) hx hb dX8_find_40 (by decide) ?_
          refine lv_icmp_eq (tgt := 89) hx hb dX8_find_42 (by decide) (fun c_6 => ?_) (fun c_6 => absurd (by decide) c_6)
          refine lv_iload_n hx hb dX8_find_89 rfl (lv_at hl 2 rfl) ?_
          refine lv_if_le (tgt := 108) hx hb dX8_find_90 (by decide) (fun c_7 => ?_) (fun c_7 => ?_)
          · have c_7i := i_le (x := sm.toInt) (y := 0) rfl rfl c_7
            obtain ⟨x_8, ex_8⟩ : ∃ y : Int32, y = pl + Int32.ofInt 1 := ⟨_, rfl⟩
            refine lv_iinc (v := x_8) (lv' := [(2, .int x_8), (5, .int 32), (4, .int (nI i)), (3, .int sm), (0, .ref a0), (1, .ref (g 4))]) hx hb dX8_find_108 hl (k := 3) rfl (by rw [ex_8]) (by decide) rfl (fun ls hl => ?_)
            refine lv_iconst (v := 0) hx hb dX8_find_111 (by decide) ?_
            refine lv_istore_n (lv' := [(3, .int 0), (2, .int x_8), (5, .int 32), (4, .int (nI i)), (0, .ref a0), (1, .ref (g 4))]) hx hb dX8_find_112 rfl hl (by decide) rfl (fun ls hl => ?_)
            refine lv_iinc (v := nI (i + 1)) (lv' := [(4, .int (nI (i + 1))), (3, .int 0), (2, .int x_8), (5, .int 32), (0, .ref a0), (1, .ref (g 4))]) hx hb dX8_find_113 hl (k := 3) rfl (nI_1 i) (by decide) rfl (fun ls hl => ?_)
            refine lv_goto (tgt := 7) hx hb dX8_find_116 (by decide) ?_
            exact ih (i + 1) x_8 0 (by omega) (by omega) (by decide) ls (lv_sub hl [0, 1, 2, 4, 5] rfl)
          · have c_7i := i_nle (x := sm.toInt) (y := 0) rfl rfl c_7
            exfalso; omega
        · have c_5i := i_nle (x := 19) (y := ((i : Nat) : Int)) rfl (nI_toInt (by omega)) c_5
          refine lv_aload_n hx hb dX8_find_25 rfl (lv_at hl 4 rfl) ?_
          refine lv_iload hx hb dX8_find_26 (lv_at hl 0 rfl) ?_
          refine pci (va_runV (As := [.int (nI i)]) (rest := []) ⟨hx, hb, hml, hown, hts⟩ (j_char_1 l D K (nI i) g ((i : Nat) : Int) s.heap.size (nI_toInt (by omega)) (by omega)) (cwV 1 hts gX8_find_J0_charAt_5068e rfl rfl rfl (by decide +kernel) ⟨Nat.le_of_ble_eq_true rfl, Nat.le_of_ble_eq_true rfl⟩) (mkVS hK hN hG.2.2.2.2 hS (fun U hU hW => Gl.atF hG hS hW hU)) rfl rfl hl.1 rfl (lv_room (Nat.le_of_ble_eq_true rfl)) dX8_find_28 ⟨Nat.le_of_ble_eq_true rfl, Nat.le_of_ble_eq_true rfl⟩) (fun r_9 hw => ?_)
          refine lv_goto (tgt := 36) hx hb dX8_find_31 (by decide) ?_
          refine lv_istore (lv' := [(5, .int r_9), (4, .int (nI i)), (3, .int sm), (2, .int pl), (0, .ref a0), (1, .ref (g 4))]) hx hb dX8_find_36 hl (by decide) rfl (fun ls hl => ?_)
          refine lv_iload hx hb dX8_find_38 (lv_at hl 0 rfl) ?_
          refine lv_bipush (v := 32) hx hb dX8_find_40 (by decide) ?_
          refine lv_icmp_eq (tgt := 89) hx hb dX8_find_42 (by decide) (fun c_10 => ?_) (fun c_10 => ?_)
          · have c_10i := i_eq (x := r_9.toInt) (y := 32) rfl rfl c_10
            refine lv_iload_n hx hb dX8_find_89 rfl (lv_at hl 2 rfl) ?_
            refine lv_if_le (tgt := 108) hx hb dX8_find_90 (by decide) (fun c_11 => ?_) (fun c_11 => ?_)
            · have c_11i := i_le (x := sm.toInt) (y := 0) rfl rfl c_11
              obtain ⟨x_12, ex_12⟩ : ∃ y : Int32, y = pl + Int32.ofInt 1 := ⟨_, rfl⟩
              refine lv_iinc (v := x_12) (lv' := [(2, .int x_12), (5, .int r_9), (4, .int (nI i)), (3, .int sm), (0, .ref a0), (1, .ref (g 4))]) hx hb dX8_find_108 hl (k := 3) rfl (by rw [ex_12]) (by decide) rfl (fun ls hl => ?_)
              refine lv_iconst (v := 0) hx hb dX8_find_111 (by decide) ?_
              refine lv_istore_n (lv' := [(3, .int 0), (2, .int x_12), (5, .int r_9), (4, .int (nI i)), (0, .ref a0), (1, .ref (g 4))]) hx hb dX8_find_112 rfl hl (by decide) rfl (fun ls hl => ?_)
              refine lv_iinc (v := nI (i + 1)) (lv' := [(4, .int (nI (i + 1))), (3, .int 0), (2, .int x_12), (5, .int r_9), (0, .ref a0), (1, .ref (g 4))]) hx hb dX8_find_113 hl (k := 3) rfl (nI_1 i) (by decide) rfl (fun ls hl => ?_)
              refine lv_goto (tgt := 7) hx hb dX8_find_116 (by decide) ?_
              exact ih (i + 1) x_12 0 (by omega) (by omega) (by decide) ls (lv_sub hl [0, 1, 2, 4, 5] rfl)
            · have c_11i := i_nle (x := sm.toInt) (y := 0) rfl rfl c_11
              exfalso; omega
          · have c_10i := i_ne (x := r_9.toInt) (y := 32) rfl rfl c_10
            refine lv_iload_n hx hb dX8_find_45 rfl (lv_at hl 2 rfl) ?_
            refine lv_if_lt (tgt := 84) hx hb dX8_find_46 (by decide) (fun c_13 => ?_) (fun c_13 => ?_)
            · have c_13i := i_lt (x := sm.toInt) (y := 0) rfl rfl c_13
              refine lv_iconst (v := (-1)) hx hb dX8_find_84 (by decide) ?_
              refine lv_istore_n (lv' := [(3, .int (-1)), (5, .int r_9), (4, .int (nI i)), (2, .int pl), (0, .ref a0), (1, .ref (g 4))]) hx hb dX8_find_85 rfl hl (by decide) rfl (fun ls hl => ?_)
              refine lv_goto (tgt := 113) hx hb dX8_find_86 (by decide) ?_
              refine lv_iinc (v := nI (i + 1)) (lv' := [(4, .int (nI (i + 1))), (3, .int (-1)), (5, .int r_9), (2, .int pl), (0, .ref a0), (1, .ref (g 4))]) hx hb dX8_find_113 hl (k := 2) rfl (nI_1 i) (by decide) rfl (fun ls hl => ?_)
              refine lv_goto (tgt := 7) hx hb dX8_find_116 (by decide) ?_
              exact ih (i + 1) pl (-1) (by omega) (by omega) (by decide) ls (lv_sub hl [0, 1, 3, 4, 5] rfl)
            · have c_13i := i_nlt (x := sm.toInt) (y := 0) rfl rfl c_13
              refine lv_aload_n hx hb dX8_find_49 rfl (lv_at hl 4 rfl) ?_
              refine va_get (ci := 8) (v := .int 0) (C := RX8) (T := TX8) (N := 6) hx hb hts hw8 hown hK hP 0 rfl rfl 2 (by decide) (hts (.fieldLink RX8 19 "SmokeTune$Tape" "from" "I") (List.mem_cons_of_mem _ (List.mem_append_left _ (List.mem_append_left _ (List.mem_of_getElem? (i := 0) rfl))))) (fun _ h9 => h9) rfl dX8_find_50 ?_
              refine lv_iload_n hx hb dX8_find_53 rfl (lv_at hl 2 rfl) ?_
              refine lv_iadd hx hb dX8_find_54 ?_
              refine lv_topi (fun x_14 ex_14 => ?_)
              have hx_14 : x_14.toInt = (0 + sm.toInt) := by rw [ex_14]; exact i_add rfl rfl (by omega)
              refine lv_aload_n hx hb dX8_find_55 rfl (lv_at hl 4 rfl) ?_
              refine va_get (ci := 8) (v := .int 0) (C := RX8) (T := TX8) (N := 6) hx hb hts hw8 hown hK hP 0 rfl rfl 3 (by decide) (hts (.fieldLink RX8 22 "SmokeTune$Tape" "to" "I") (List.mem_cons_of_mem _ (List.mem_append_left _ (List.mem_append_left _ (List.mem_of_getElem? (i := 1) rfl))))) (fun _ h9 => h9) rfl dX8_find_56 ?_
              refine lv_icmp_ge (tgt := 84) hx hb dX8_find_59 (by decide) (fun c_15 => ?_) (fun c_15 => ?_)
              · have c_15i := i_le (x := 0) (y := (0 + sm.toInt)) rfl hx_14 c_15
                refine lv_iconst (v := (-1)) hx hb dX8_find_84 (by decide) ?_
                refine lv_istore_n (lv' := [(3, .int (-1)), (5, .int r_9), (4, .int (nI i)), (2, .int pl), (0, .ref a0), (1, .ref (g 4))]) hx hb dX8_find_85 rfl hl (by decide) rfl (fun ls hl => ?_)
                refine lv_goto (tgt := 113) hx hb dX8_find_86 (by decide) ?_
                refine lv_iinc (v := nI (i + 1)) (lv' := [(4, .int (nI (i + 1))), (3, .int (-1)), (5, .int r_9), (2, .int pl), (0, .ref a0), (1, .ref (g 4))]) hx hb dX8_find_113 hl (k := 2) rfl (nI_1 i) (by decide) rfl (fun ls hl => ?_)
                refine lv_goto (tgt := 7) hx hb dX8_find_116 (by decide) ?_
                exact ih (i + 1) pl (-1) (by omega) (by omega) (by decide) ls (lv_sub hl [0, 1, 3, 4, 5] rfl)
              · have c_15i := i_nle (x := 0) (y := (0 + sm.toInt)) rfl hx_14 c_15
                exfalso; omega
  exact lp_1 21 0 0 0 (by omega) (by omega) (by decide) ls (lv_sub hl [0, 1, 2, 3, 4] rfl)
set_option maxHeartbeats 4000000 in
set_option maxRecDepth 100000 in
theorem c_clause_1 (l : Launch) (D : va_G) (K : Nat → ClassId) (a0 : Nat) (a1 : Nat) (g1 : Value) (g3 : Value) (g4 : Value) (k0 : Value) (k1 : Value) (k4 : Value) (k5 : Value) (g : Nat → Nat) (sz : Nat) : Met l yX6_clause wsX6_clause ({ frames := 5, cells := 0, slots := 0, locals := 110 }) (va_Pc [.ref a0, .int 0] (PreX D K [(a0, .inr (6, [.ref a1, g1, .int 0, g3, g4])), (a1, .inr (8, [k0, k1, .int 0, .int 0, k4, k5]))] sz g (fun _ => False))) (vp_Si (fun r : Int32 => (r = 0))) 0 0 (fun _ => False) := by
  refine Met.ofW (cc := cX6_clause) (maxL := 5) (ret := (some .boolean)) (by decide) rfl ?_
  intro p e s m args below meth c s₁ B hml hv
  obtain ⟨rfl, ⟨hsz, hP, hK, hD0, hN⟩, hG⟩ := hv
  have hx := B.exec
  have hb := B.bytes
  have hr := B.returns
  have hts := atoms_spec (ws := wsX6_clause) B.pre
  have hown : s.vm.findClass RX6 = some m.cls := findClass_of_methodNamed B.named
  have hlocks := B.notSynchronized
  subst hsz
  have hD := hD0
  have hS : va_S (fun _ => False) s.heap s.heap [] := va_S.rf
  have hP : va_P D vwCl [(a0, .inr (6, [.ref a1, g1, .int 0, g3, g4])), (a1, .inr (8, [k0, k1, .int 0, .int 0, k4, k5]))] s.heap := hP
  have hl := lv_entry [.ref a0, .int 0] (n := 5) (Nat.le_of_ble_eq_true rfl)
  rw [lg_entry_eq]
  generalize (lg_sl [.ref a0, .int 0] ++ List.replicate (5 - (lg_sl [.ref a0, .int 0]).length) Slot.unset).toArray = ls at hl ⊢
  have hl : lv_has ls 5 [(0, .ref a0), (1, .int 0)] := hl
  have hw6 : ∀ w ∈ wsX60, w ∈ wsX6_clause := fun w h => (List.mem_cons_of_mem _ (List.mem_append_left _ (List.mem_append_left _ (List.mem_append_right _ h))))
  have hw7 : ∀ w ∈ wsX70, w ∈ wsX6_clause := fun w h => (List.mem_cons_of_mem _ (List.mem_append_left _ (List.mem_append_right _ h)))
  have hw8 : ∀ w ∈ wsX80, w ∈ wsX6_clause := fun w h => (List.mem_cons_of_mem _ (List.mem_append_right _ h))
  refine lv_aload_n hx hb dX6_clause_0 rfl (lv_at hl 0 rfl) ?_
  refine va_get (ci := 6) (v := .ref a1) (C := RX6) (T := TX6) (N := 5) hx hb hts hw6 hown hK hP 0 rfl rfl 0 (by decide) (hts (.fieldLink RX6 12 "SmokeTune$Reader" "tape" "LSmokeTune$Tape;") (List.mem_cons_of_mem _ (List.mem_append_left _ (List.mem_append_left _ (List.mem_append_left _ (List.mem_append_left _ (List.mem_of_getElem? (i := 0) rfl))))))) (fun _ h9 => h9) rfl dX6_clause_1 ?_
  refine lv_aload_n hx hb dX6_clause_4 rfl (lv_at hl 0 rfl) ?_
  refine va_get (ci := 6) (v := .int 0) (C := RX6) (T := TX6) (N := 5) hx hb hts hw6 hown hK hP 0 rfl rfl 2 (by decide) (hts (.fieldLink RX6 27 "SmokeTune$Reader" "lawful" "Z") (List.mem_cons_of_mem _ (List.mem_append_left _ (List.mem_append_left _ (List.mem_append_left _ (List.mem_append_left _ (List.mem_of_getElem? (i := 1) rfl))))))) (fun _ h9 => h9) rfl dX6_clause_5 ?_
  refine lv_if_eq (tgt := 16) hx hb dX6_clause_8 (by decide) (fun c_1 => ?_) (fun c_1 => absurd (by decide) c_1)
  refine va_ldcS hx hb hown hG.2.2.2.1 dX6_clause_16 ?_
  refine pci (va_runVN (As := [.ref (g 4)]) (rest := []) ⟨hx, hb, hml, hown, hts⟩ (c_find_1 l D K a1 k0 k1 k4 k5 g s.heap.size) ⟨va_cnB 1 hts gX6_clause_X8_find_n67 rfl rfl rfl (nst_at hN 33 rfl) (hts (.initialized RX8) (List.mem_cons_of_mem _ (List.mem_append_left _ (List.mem_append_left _ (List.mem_append_left _ (List.mem_append_left _ (List.mem_of_getElem? (i := 6) rfl))))))) (by decide +kernel) ⟨Nat.le_of_ble_eq_true rfl, Nat.le_of_ble_eq_true rfl⟩, (hts (.instanceMethod yX8_find) (List.mem_cons_of_mem _ (List.mem_append_left _ (List.mem_append_left _ (List.mem_append_left _ (List.mem_append_left _ (List.mem_of_getElem? (i := 5) rfl))))))), (hts (.selects RX8 yX8_find yX8_find) (List.mem_cons_of_mem _ (List.mem_append_left _ (List.mem_append_left _ (List.mem_append_left _ (List.mem_append_left _ (List.mem_of_getElem? (i := 7) rfl)))))))⟩ (mkVX hK hN (hP.sub [1] rfl) (hD.sub [1] (by decide) rfl) (ci := 8) (q0 := 0) rfl rfl (fun U hU hW => Gl.atF hG hS hW hU)) rfl rfl hl.1 rfl (lv_room (Nat.le_of_ble_eq_true rfl)) dX6_clause_18 ⟨Nat.le_of_ble_eq_true rfl, Nat.le_of_ble_eq_true rfl⟩) (fun r_2 hw => ?_)
  obtain rfl : r_2 = (-1) := hw
  refine lv_istore_n (lv' := [(2, .int (-1)), (0, .ref a0), (1, .int 0)]) hx hb dX6_clause_21 rfl hl (by decide) rfl (fun ls hl => ?_)
  refine lv_iload_n hx hb dX6_clause_22 rfl (lv_at hl 0 rfl) ?_
  refine lv_if_lt (tgt := 34) hx hb dX6_clause_23 (by decide) (fun c_3 => ?_) (fun c_3 => absurd (by decide) c_3)
  refine lv_iconst (v := 0) hx hb dX6_clause_34 (by decide) ?_
  exact W.zret (v := 0) hx hb hr (by first | rfl | decide | exact pk_nc _ | assumption) (fun t ht hW => ⟨_, rfl, (by first | exact rfl), ht⟩) (fun q hq => by cases hq) dX6_clause_35
set_option maxHeartbeats 4000000 in
set_option maxRecDepth 100000 in
theorem c_step (l : Launch) (D : va_G) (K : Nat → ClassId) (a0 : Nat) (g0 : Value) (g2 : Value) (g4 : Value) (g5 : Value) (sz : Nat) : Met l yX8_step wsX8_step ({ frames := 1, cells := 0, slots := 0, locals := 14 }) (va_Pc [.ref a0] (Pre D K [(a0, .inr (8, [g0, .int 0, g2, .int 0, g4, g5]))] sz)) (va_Qv (S := (Nat → Nat) × (Nat → Nat → Int32) × (Nat → Nat → Int64) × (Nat → Int32)) (fun _ => True) (fun u t => Wd D (va_A [(a0, .inr (8, [g0, .int 0, g2, .int 0, g4, g5]))] sz) ((fun u => [(a0, .inr (8, [g0, .int 0, .int 0, .int 0, .int (-1), .int (-1)]))]) u) t) (va_A [(a0, .inr (8, [g0, .int 0, g2, .int 0, g4, g5]))] sz)) 0 0 (va_A [(a0, .inr (8, [g0, .int 0, g2, .int 0, g4, g5]))] sz) := by
  refine Met.ofW (cc := cX8_step) (maxL := 5) (ret := none) (by decide) rfl ?_
  intro p e s m args below meth c s₁ B hml hv
  obtain ⟨rfl, hsz, hP, hK, hD0, hN⟩ := hv
  have hx := B.exec
  have hb := B.bytes
  have hr := B.returns
  have hts := atoms_spec (ws := wsX8_step) B.pre
  have hown : s.vm.findClass RX8 = some m.cls := findClass_of_methodNamed B.named
  have hlocks := B.notSynchronized
  subst hsz
  have hD := hD0.self (sz := s.heap.size)
  generalize hAe : va_A [(a0, .inr (8, [g0, .int 0, g2, .int 0, g4, g5]))] s.heap.size = A at hD ⊢
  have hA : ∀ q : Nat, s.heap.size ≤ q → A q := fun q h => by rw [← hAe]; exact Or.inr h
  have hS : va_S A s.heap s.heap [] := va_S.rf
  have hP : va_P D vwCl [(a0, .inr (8, [g0, .int 0, g2, .int 0, g4, g5]))] s.heap := hP
  have hl := lv_entry [.ref a0] (n := 5) (Nat.le_of_ble_eq_true rfl)
  rw [lg_entry_eq]
  generalize (lg_sl [.ref a0] ++ List.replicate (5 - (lg_sl [.ref a0]).length) Slot.unset).toArray = ls at hl ⊢
  have hl : lv_has ls 5 [(0, .ref a0)] := hl
  have hw8 : ∀ w ∈ wsX80, w ∈ wsX8_step := fun w h => (List.mem_cons_of_mem _ (List.mem_append_right _ h))
  refine lv_aload_n hx hb dX8_step_0 rfl (lv_at hl 0 rfl) ?_
  refine lv_aload_n hx hb dX8_step_1 rfl (lv_at hl 0 rfl) ?_
  refine va_get (ci := 8) (v := .int 0) (C := RX8) (T := TX8) (N := 6) hx hb hts hw8 hown hK hP 0 rfl rfl 3 (by decide) (hts (.fieldLink RX8 22 "SmokeTune$Tape" "to" "I") (List.mem_cons_of_mem _ (List.mem_append_left _ (List.mem_of_getElem? (i := 0) rfl)))) (fun _ h9 => h9) rfl dX8_step_2 ?_
  refine va_put (ci := 8) (v := .int 0) (ty := .int) (C := RX8) (T := TX8) (N := 6) hx hb hts hw8 tyX8 tyX8_ok nmX8 hown hK hP hD hS 0 rfl rfl 2 (by decide) (hts (.fieldLink RX8 19 "SmokeTune$Tape" "from" "I") (List.mem_cons_of_mem _ (List.mem_append_left _ (List.mem_of_getElem? (i := 1) rfl)))) (fun _ h9 => h9) rfl (by decide +kernel) (by first | rfl | decide) (by first | rfl | decide) (Nat.le_of_ble_eq_true rfl) dX8_step_5 (fun H locs hP hD hS => ?_)
  have hP : va_P D vwCl [(a0, .inr (8, [g0, .int 0, .int 0, .int 0, g4, g5]))] H := hP
  have hD : va_D A [(a0, .inr (8, [g0, .int 0, .int 0, .int 0, g4, g5]))] := hD
  refine lv_aload_n hx hb dX8_step_8 rfl (lv_at hl 0 rfl) ?_
  refine va_get (ci := 8) (v := .int 0) (C := RX8) (T := TX8) (N := 6) hx hb hts hw8 hown hK hP 0 rfl rfl 2 (by decide) (hts (.fieldLink RX8 19 "SmokeTune$Tape" "from" "I") (List.mem_cons_of_mem _ (List.mem_append_left _ (List.mem_of_getElem? (i := 1) rfl)))) (fun _ h9 => h9) rfl dX8_step_9 ?_
  refine lv_aload_n hx hb dX8_step_12 rfl (lv_at hl 0 rfl) ?_
  refine va_get (ci := 8) (v := .int 0) (C := RX8) (T := TX8) (N := 6) hx hb hts hw8 hown hK hP 0 rfl rfl 1 (by decide) (hts (.fieldLink RX8 15 "SmokeTune$Tape" "length" "I") (List.mem_cons_of_mem _ (List.mem_append_left _ (List.mem_of_getElem? (i := 2) rfl)))) (fun _ h9 => h9) rfl dX8_step_13 ?_
  refine lv_icmp_ge (tgt := 46) hx hb dX8_step_16 (by decide) (fun c_1 => ?_) (fun c_1 => absurd (by decide) c_1)
  refine lv_aload_n hx hb dX8_step_46 rfl (lv_at hl 0 rfl) ?_
  refine lv_aload_n hx hb dX8_step_47 rfl (lv_at hl 0 rfl) ?_
  refine va_get (ci := 8) (v := .int 0) (C := RX8) (T := TX8) (N := 6) hx hb hts hw8 hown hK hP 0 rfl rfl 2 (by decide) (hts (.fieldLink RX8 19 "SmokeTune$Tape" "from" "I") (List.mem_cons_of_mem _ (List.mem_append_left _ (List.mem_of_getElem? (i := 1) rfl)))) (fun _ h9 => h9) rfl dX8_step_48 ?_
  refine lv_aload_n hx hb dX8_step_51 rfl (lv_at hl 0 rfl) ?_
  refine va_get (ci := 8) (v := .int 0) (C := RX8) (T := TX8) (N := 6) hx hb hts hw8 hown hK hP 0 rfl rfl 1 (by decide) (hts (.fieldLink RX8 15 "SmokeTune$Tape" "length" "I") (List.mem_cons_of_mem _ (List.mem_append_left _ (List.mem_of_getElem? (i := 2) rfl)))) (fun _ h9 => h9) rfl dX8_step_52 ?_
  refine lv_icmp_ge (tgt := 70) hx hb dX8_step_55 (by decide) (fun c_2 => ?_) (fun c_2 => absurd (by decide) c_2)
  refine lv_iconst (v := (-1)) hx hb dX8_step_70 (by decide) ?_
  refine va_put (ci := 8) (v := .int (-1)) (ty := .int) (C := RX8) (T := TX8) (N := 6) hx hb hts hw8 tyX8 tyX8_ok nmX8 hown hK hP hD hS 0 rfl rfl 4 (by decide) (hts (.fieldLink RX8 25 "SmokeTune$Tape" "first" "I") (List.mem_cons_of_mem _ (List.mem_append_left _ (List.mem_of_getElem? (i := 4) rfl)))) (fun _ h9 => h9) rfl (by decide +kernel) (by first | rfl | decide) (by first | rfl | decide) (Nat.le_of_ble_eq_true rfl) dX8_step_71 (fun H locs hP hD hS => ?_)
  have hP : va_P D vwCl [(a0, .inr (8, [g0, .int 0, .int 0, .int 0, .int (-1), g5]))] H := hP
  have hD : va_D A [(a0, .inr (8, [g0, .int 0, .int 0, .int 0, .int (-1), g5]))] := hD
  refine lv_aload_n hx hb dX8_step_74 rfl (lv_at hl 0 rfl) ?_
  refine lv_aload_n hx hb dX8_step_75 rfl (lv_at hl 0 rfl) ?_
  refine va_get (ci := 8) (v := .int (-1)) (C := RX8) (T := TX8) (N := 6) hx hb hts hw8 hown hK hP 0 rfl rfl 4 (by decide) (hts (.fieldLink RX8 25 "SmokeTune$Tape" "first" "I") (List.mem_cons_of_mem _ (List.mem_append_left _ (List.mem_of_getElem? (i := 4) rfl)))) (fun _ h9 => h9) rfl dX8_step_76 ?_
  refine lv_bipush (v := 48) hx hb dX8_step_79 (by decide) ?_
  refine lv_icmp_lt (tgt := 103) hx hb dX8_step_81 (by decide) (fun c_3 => ?_) (fun c_3 => absurd (by decide) c_3)
  refine lv_iconst (v := (-1)) hx hb dX8_step_103 (by decide) ?_
  refine va_put (ci := 8) (v := .int (-1)) (ty := .int) (C := RX8) (T := TX8) (N := 6) hx hb hts hw8 tyX8 tyX8_ok nmX8 hown hK hP hD hS 0 rfl rfl 5 (by decide) (hts (.fieldLink RX8 28 "SmokeTune$Tape" "number" "I") (List.mem_cons_of_mem _ (List.mem_append_left _ (List.mem_of_getElem? (i := 5) rfl)))) (fun _ h9 => h9) rfl (by decide +kernel) (by first | rfl | decide) (by first | rfl | decide) (Nat.le_of_ble_eq_true rfl) dX8_step_104 (fun H locs hP hD hS => ?_)
  have hP : va_P D vwCl [(a0, .inr (8, [g0, .int 0, .int 0, .int 0, .int (-1), .int (-1)]))] H := hP
  have hD : va_D A [(a0, .inr (8, [g0, .int 0, .int 0, .int 0, .int (-1), .int (-1)]))] := hD
  refine lv_aload_n hx hb dX8_step_107 rfl (lv_at hl 0 rfl) ?_
  refine va_get (ci := 8) (v := .int (-1)) (C := RX8) (T := TX8) (N := 6) hx hb hts hw8 hown hK hP 0 rfl rfl 4 (by decide) (hts (.fieldLink RX8 25 "SmokeTune$Tape" "first" "I") (List.mem_cons_of_mem _ (List.mem_append_left _ (List.mem_of_getElem? (i := 4) rfl)))) (fun _ h9 => h9) rfl dX8_step_108 ?_
  refine lv_bipush (v := 97) hx hb dX8_step_111 (by decide) ?_
  refine lv_icmp_lt (tgt := 129) hx hb dX8_step_113 (by decide) (fun c_4 => ?_) (fun c_4 => absurd (by decide) c_4)
  refine lv_iconst (v := 0) hx hb dX8_step_129 (by decide) ?_
  refine lv_istore_n (lv' := [(1, .int 0), (0, .ref a0)]) hx hb dX8_step_130 rfl hl (by decide) rfl (fun ls hl => ?_)
  refine lv_aload_n hx hb dX8_step_131 rfl (lv_at hl 1 rfl) ?_
  refine lv_aload_n hx hb dX8_step_132 rfl (lv_at hl 1 rfl) ?_
  refine va_get (ci := 8) (v := .int 0) (C := RX8) (T := TX8) (N := 6) hx hb hts hw8 hown hK hP 0 rfl rfl 1 (by decide) (hts (.fieldLink RX8 15 "SmokeTune$Tape" "length" "I") (List.mem_cons_of_mem _ (List.mem_append_left _ (List.mem_of_getElem? (i := 2) rfl)))) (fun _ h9 => h9) rfl dX8_step_133 ?_
  refine lv_aload_n hx hb dX8_step_136 rfl (lv_at hl 1 rfl) ?_
  refine va_get (ci := 8) (v := .int 0) (C := RX8) (T := TX8) (N := 6) hx hb hts hw8 hown hK hP 0 rfl rfl 2 (by decide) (hts (.fieldLink RX8 19 "SmokeTune$Tape" "from" "I") (List.mem_cons_of_mem _ (List.mem_append_left _ (List.mem_of_getElem? (i := 1) rfl)))) (fun _ h9 => h9) rfl dX8_step_137 ?_
  refine lv_iconst (v := 1) hx hb dX8_step_140 (by decide) ?_
  refine lv_iadd hx hb dX8_step_141 ?_
  refine lv_topi (fun x_5 ex_5 => ?_)
  obtain rfl : x_5 = 1 := ex_5.trans (by first | rfl | decide)
  refine va_mmin hx hb (hml.trans hl.1.symm) hown (hts (.methodLink RX8 31 Lib.Math.min.name) (List.mem_cons_of_mem _ (List.mem_append_left _ (List.mem_of_getElem? (i := 6) rfl)))) (hts (.static Lib.Math.min.name) (List.mem_cons_of_mem _ (List.mem_append_left _ (List.mem_of_getElem? (i := 7) rfl)))) (hts (.initialized "java/lang/Math") (List.mem_cons_of_mem _ (List.mem_append_left _ (List.mem_of_getElem? (i := 8) rfl)))) (hts (.code Lib.Math.min.name Lib.Math.min.code 2 (some .int)) (List.mem_cons_of_mem _ (List.mem_append_left _ (List.mem_of_getElem? (i := 9) rfl)))) (Nat.le_of_ble_eq_true rfl) (Nat.le_of_ble_eq_true rfl) (Nat.le_of_ble_eq_true rfl) (Nat.le_of_ble_eq_true rfl) dX8_step_142 ?_
  refine lv_topi (fun x_6 ex_6 => ?_)
  obtain rfl : x_6 = 0 := ex_6.trans (by first | rfl | decide)
  refine va_put (ci := 8) (v := .int 0) (ty := .int) (C := RX8) (T := TX8) (N := 6) hx hb hts hw8 tyX8 tyX8_ok nmX8 hown hK hP hD hS 0 rfl rfl 3 (by decide) (hts (.fieldLink RX8 22 "SmokeTune$Tape" "to" "I") (List.mem_cons_of_mem _ (List.mem_append_left _ (List.mem_of_getElem? (i := 0) rfl)))) (fun _ h9 => h9) rfl (by decide +kernel) (by first | rfl | decide) (by first | rfl | decide) (Nat.le_of_ble_eq_true rfl) dX8_step_145 (fun H locs hP hD hS => ?_)
  have hP : va_P D vwCl [(a0, .inr (8, [g0, .int 0, .int 0, .int 0, .int (-1), .int (-1)]))] H := hP
  have hD : va_D A [(a0, .inr (8, [g0, .int 0, .int 0, .int 0, .int (-1), .int (-1)]))] := hD
  refine lv_aload_n hx hb dX8_step_148 rfl (lv_at hl 1 rfl) ?_
  refine va_get (ci := 8) (v := .int 0) (C := RX8) (T := TX8) (N := 6) hx hb hts hw8 hown hK hP 0 rfl rfl 3 (by decide) (hts (.fieldLink RX8 22 "SmokeTune$Tape" "to" "I") (List.mem_cons_of_mem _ (List.mem_append_left _ (List.mem_of_getElem? (i := 0) rfl)))) (fun _ h9 => h9) rfl dX8_step_149 ?_
  refine lv_aload_n hx hb dX8_step_152 rfl (lv_at hl 1 rfl) ?_
  refine va_get (ci := 8) (v := .int 0) (C := RX8) (T := TX8) (N := 6) hx hb hts hw8 hown hK hP 0 rfl rfl 1 (by decide) (hts (.fieldLink RX8 15 "SmokeTune$Tape" "length" "I") (List.mem_cons_of_mem _ (List.mem_append_left _ (List.mem_of_getElem? (i := 2) rfl)))) (fun _ h9 => h9) rfl dX8_step_153 ?_
  refine lv_icmp_ge (tgt := 272) hx hb dX8_step_156 (by decide) (fun c_7 => ?_) (fun c_7 => absurd (by decide) c_7)
  have hP9 := hP.sub (ws' := [(a0, .inr (8, [g0, .int 0, .int 0, .int 0, .int (-1), .int (-1)]))]) [0] rfl
  have hD9 := hD.sub (ws' := [(a0, .inr (8, [g0, .int 0, .int 0, .int 0, .int (-1), .int (-1)]))]) [0] (by decide) rfl
  exact W.vret hx hb hr (fun t ht hW => ⟨⟨(fun _ => 0, fun _ => fun _ => 0, fun _ => fun _ => 0, fun _ => 0), rfl, trivial, (⟨by rw [ht]; exact hP9, hD9⟩ : Wd D A _ t)⟩, hS.F ht⟩) hS.2.2 dX8_step_272
set_option maxHeartbeats 4000000 in
set_option maxRecDepth 100000 in
theorem c_reads_0 (l : Launch) (D : va_G) (K : Nat → ClassId) (a0 : Nat) (a1 : Nat) (a2 : Nat) (g2 : Value) (g3 : Value) (g4 : Value) (k0 : Value) (k2 : Value) (k3 : Value) (k4 : Value) (k5 : Value) (p0 : Value) (p1 : Value) (p2 : Value) (p3 : Value) (g : Nat → Nat) (sz : Nat) : Met l yX6_reads wsX6_reads ({ frames := 6, cells := 0, slots := 0, locals := 134 }) (va_Pc [.ref a0, .int 1] (PreX D K [(a0, .inr (6, [.ref a1, .ref a2, g2, g3, g4])), (a1, .inr (8, [k0, .int 0, k2, k3, k4, k5])), (a2, .inr (7, [p0, p1, p2, p3]))] sz g (va_A [(a0, .inr (6, [.ref a1, .ref a2, g2, g3, g4])), (a1, .inr (8, [k0, .int 0, k2, k3, k4, k5])), (a2, .inr (7, [p0, p1, p2, p3]))] sz))) (va_Qi (S := Unit) (fun (r : Int32) (_ : Unit) => (r = 0)) (fun u t => Wd D (va_A [(a0, .inr (6, [.ref a1, .ref a2, g2, g3, g4])), (a1, .inr (8, [k0, .int 0, k2, k3, k4, k5])), (a2, .inr (7, [p0, p1, p2, p3]))] sz) ((fun _ => []) u) t) (va_A [(a0, .inr (6, [.ref a1, .ref a2, g2, g3, g4])), (a1, .inr (8, [k0, .int 0, k2, k3, k4, k5])), (a2, .inr (7, [p0, p1, p2, p3]))] sz)) 0 0 (va_A [(a0, .inr (6, [.ref a1, .ref a2, g2, g3, g4])), (a1, .inr (8, [k0, .int 0, k2, k3, k4, k5])), (a2, .inr (7, [p0, p1, p2, p3]))] sz) := by
  refine Met.ofW (cc := cX6_reads) (maxL := 4) (ret := (some .boolean)) (by decide) rfl ?_
  intro p e s m args below meth c s₁ B hml hv
  obtain ⟨rfl, ⟨hsz, hP, hK, hD0, hN⟩, hG⟩ := hv
  have hx := B.exec
  have hb := B.bytes
  have hr := B.returns
  have hts := atoms_spec (ws := wsX6_reads) B.pre
  have hown : s.vm.findClass RX6 = some m.cls := findClass_of_methodNamed B.named
  have hlocks := B.notSynchronized
  subst hsz
  have hD := hD0.self (sz := s.heap.size)
  generalize hAe : va_A [(a0, .inr (6, [.ref a1, .ref a2, g2, g3, g4])), (a1, .inr (8, [k0, .int 0, k2, k3, k4, k5])), (a2, .inr (7, [p0, p1, p2, p3]))] s.heap.size = A at hD hG ⊢
  have hA : ∀ q : Nat, s.heap.size ≤ q → A q := fun q h => by rw [← hAe]; exact Or.inr h
  have hS : va_S A s.heap s.heap [] := va_S.rf
  have hP : va_P D vwCl [(a0, .inr (6, [.ref a1, .ref a2, g2, g3, g4])), (a1, .inr (8, [k0, .int 0, k2, k3, k4, k5])), (a2, .inr (7, [p0, p1, p2, p3]))] s.heap := hP
  have hl := lv_entry [.ref a0, .int 1] (n := 4) (Nat.le_of_ble_eq_true rfl)
  rw [lg_entry_eq]
  generalize (lg_sl [.ref a0, .int 1] ++ List.replicate (4 - (lg_sl [.ref a0, .int 1]).length) Slot.unset).toArray = ls at hl ⊢
  have hl : lv_has ls 4 [(0, .ref a0), (1, .int 1)] := hl
  have hw6 : ∀ w ∈ wsX60, w ∈ wsX6_reads := fun w h => (List.mem_cons_of_mem _ (List.mem_append_left _ (List.mem_append_left _ (List.mem_append_right _ h))))
  have hw7 : ∀ w ∈ wsX70, w ∈ wsX6_reads := fun w h => (List.mem_cons_of_mem _ (List.mem_append_left _ (List.mem_append_right _ h)))
  have hw8 : ∀ w ∈ wsX80, w ∈ wsX6_reads := fun w h => (List.mem_cons_of_mem _ (List.mem_append_right _ h))
  refine lv_aload_n hx hb dX6_reads_0 rfl (lv_at hl 0 rfl) ?_
  refine lv_iload_n hx hb dX6_reads_1 rfl (lv_at hl 1 rfl) ?_
  refine va_put (ci := 6) (v := .int 1) (ty := .boolean) (C := RX6) (T := TX6) (N := 5) hx hb hts hw6 tyX6 tyX6_ok nmX6 hown hK hP hD hS 0 rfl rfl 2 (by decide) (hts (.fieldLink RX6 27 "SmokeTune$Reader" "lawful" "Z") (List.mem_cons_of_mem _ (List.mem_append_left _ (List.mem_append_left _ (List.mem_append_left _ (List.mem_append_left _ (List.mem_of_getElem? (i := 0) rfl))))))) (fun _ h9 => h9) rfl (by decide +kernel) (by first | rfl | decide) (by first | rfl | decide) (Nat.le_of_ble_eq_true rfl) dX6_reads_2 (fun H locs hP hD hS => ?_)
  have hP : va_P D vwCl [(a0, .inr (6, [.ref a1, .ref a2, .int 1, g3, g4])), (a1, .inr (8, [k0, .int 0, k2, k3, k4, k5])), (a2, .inr (7, [p0, p1, p2, p3]))] H := hP
  have hD : va_D A [(a0, .inr (6, [.ref a1, .ref a2, .int 1, g3, g4])), (a1, .inr (8, [k0, .int 0, k2, k3, k4, k5])), (a2, .inr (7, [p0, p1, p2, p3]))] := hD
  refine lv_aload_n hx hb dX6_reads_5 rfl (lv_at hl 0 rfl) ?_
  refine lv_iconst (v := 0) hx hb dX6_reads_6 (by decide) ?_
  refine va_put (ci := 6) (v := .int 0) (ty := .int) (C := RX6) (T := TX6) (N := 5) hx hb hts hw6 tyX6 tyX6_ok nmX6 hown hK hP hD hS 0 rfl rfl 3 (by decide) (hts (.fieldLink RX6 31 "SmokeTune$Reader" "parts" "I") (List.mem_cons_of_mem _ (List.mem_append_left _ (List.mem_append_left _ (List.mem_append_left _ (List.mem_append_left _ (List.mem_of_getElem? (i := 1) rfl))))))) (fun _ h9 => h9) rfl (by decide +kernel) (by first | rfl | decide) (by first | rfl | decide) (Nat.le_of_ble_eq_true rfl) dX6_reads_7 (fun H locs hP hD hS => ?_)
  have hP : va_P D vwCl [(a0, .inr (6, [.ref a1, .ref a2, .int 1, .int 0, g4])), (a1, .inr (8, [k0, .int 0, k2, k3, k4, k5])), (a2, .inr (7, [p0, p1, p2, p3]))] H := hP
  have hD : va_D A [(a0, .inr (6, [.ref a1, .ref a2, .int 1, .int 0, g4])), (a1, .inr (8, [k0, .int 0, k2, k3, k4, k5])), (a2, .inr (7, [p0, p1, p2, p3]))] := hD
  refine lv_aload_n hx hb dX6_reads_10 rfl (lv_at hl 0 rfl) ?_
  refine va_get (ci := 6) (v := .ref a2) (C := RX6) (T := TX6) (N := 5) hx hb hts hw6 hown hK hP 0 rfl rfl 1 (by decide) (hts (.fieldLink RX6 23 "SmokeTune$Reader" "text" "LSmokeTune$Script;") (List.mem_cons_of_mem _ (List.mem_append_left _ (List.mem_append_left _ (List.mem_append_left _ (List.mem_append_left _ (List.mem_of_getElem? (i := 2) rfl))))))) (fun _ h9 => h9) rfl dX6_reads_11 ?_
  refine lv_iconst (v := 0) hx hb dX6_reads_14 (by decide) ?_
  refine va_putN (ci := 7) (v := .int 0) (ty := .int) (C := RX7) (T := TX7) (N := 4) hx hb hts hw7 tyX7 tyX7_ok nmX7 hown hK hP hD hS 2 rfl rfl 2 (by decide) (nst_use hN 127 rfl) (fun _ h9 => h9) rfl (by decide +kernel) (by first | rfl | decide) (by first | rfl | decide) (Nat.le_of_ble_eq_true rfl) dX6_reads_15 (fun H locs hP hD hS => ?_)
  have hP : va_P D vwCl [(a0, .inr (6, [.ref a1, .ref a2, .int 1, .int 0, g4])), (a1, .inr (8, [k0, .int 0, k2, k3, k4, k5])), (a2, .inr (7, [p0, p1, .int 0, p3]))] H := hP
  have hD : va_D A [(a0, .inr (6, [.ref a1, .ref a2, .int 1, .int 0, g4])), (a1, .inr (8, [k0, .int 0, k2, k3, k4, k5])), (a2, .inr (7, [p0, p1, .int 0, p3]))] := hD
  refine lv_aload_n hx hb dX6_reads_18 rfl (lv_at hl 0 rfl) ?_
  refine va_get (ci := 6) (v := .ref a2) (C := RX6) (T := TX6) (N := 5) hx hb hts hw6 hown hK hP 0 rfl rfl 1 (by decide) (hts (.fieldLink RX6 23 "SmokeTune$Reader" "text" "LSmokeTune$Script;") (List.mem_cons_of_mem _ (List.mem_append_left _ (List.mem_append_left _ (List.mem_append_left _ (List.mem_append_left _ (List.mem_of_getElem? (i := 2) rfl))))))) (fun _ h9 => h9) rfl dX6_reads_19 ?_
  refine lv_iconst (v := 0) hx hb dX6_reads_22 (by decide) ?_
  refine va_putN (ci := 7) (v := .int 0) (ty := .int) (C := RX7) (T := TX7) (N := 4) hx hb hts hw7 tyX7 tyX7_ok nmX7 hown hK hP hD hS 2 rfl rfl 3 (by decide) (nst_use hN 130 rfl) (fun _ h9 => h9) rfl (by decide +kernel) (by first | rfl | decide) (by first | rfl | decide) (Nat.le_of_ble_eq_true rfl) dX6_reads_23 (fun H locs hP hD hS => ?_)
  have hP : va_P D vwCl [(a0, .inr (6, [.ref a1, .ref a2, .int 1, .int 0, g4])), (a1, .inr (8, [k0, .int 0, k2, k3, k4, k5])), (a2, .inr (7, [p0, p1, .int 0, .int 0]))] H := hP
  have hD : va_D A [(a0, .inr (6, [.ref a1, .ref a2, .int 1, .int 0, g4])), (a1, .inr (8, [k0, .int 0, k2, k3, k4, k5])), (a2, .inr (7, [p0, p1, .int 0, .int 0]))] := hD
  refine lv_aload_n hx hb dX6_reads_26 rfl (lv_at hl 0 rfl) ?_
  refine va_get (ci := 6) (v := .ref a1) (C := RX6) (T := TX6) (N := 5) hx hb hts hw6 hown hK hP 0 rfl rfl 0 (by decide) (hts (.fieldLink RX6 12 "SmokeTune$Reader" "tape" "LSmokeTune$Tape;") (List.mem_cons_of_mem _ (List.mem_append_left _ (List.mem_append_left _ (List.mem_append_left _ (List.mem_append_left _ (List.mem_of_getElem? (i := 3) rfl))))))) (fun _ h9 => h9) rfl dX6_reads_27 ?_
  refine lv_iconst (v := 0) hx hb dX6_reads_30 (by decide) ?_
  refine va_putN (ci := 8) (v := .int 0) (ty := .int) (C := RX8) (T := TX8) (N := 6) hx hb hts hw8 tyX8 tyX8_ok nmX8 hown hK hP hD hS 1 rfl rfl 3 (by decide) (nst_use hN 122 rfl) (fun _ h9 => h9) rfl (by decide +kernel) (by first | rfl | decide) (by first | rfl | decide) (Nat.le_of_ble_eq_true rfl) dX6_reads_31 (fun H locs hP hD hS => ?_)
  have hP : va_P D vwCl [(a0, .inr (6, [.ref a1, .ref a2, .int 1, .int 0, g4])), (a1, .inr (8, [k0, .int 0, k2, .int 0, k4, k5])), (a2, .inr (7, [p0, p1, .int 0, .int 0]))] H := hP
  have hD : va_D A [(a0, .inr (6, [.ref a1, .ref a2, .int 1, .int 0, g4])), (a1, .inr (8, [k0, .int 0, k2, .int 0, k4, k5])), (a2, .inr (7, [p0, p1, .int 0, .int 0]))] := hD
  refine lv_aload_n hx hb dX6_reads_34 rfl (lv_at hl 0 rfl) ?_
  refine va_get (ci := 6) (v := .ref a1) (C := RX6) (T := TX6) (N := 5) hx hb hts hw6 hown hK hP 0 rfl rfl 0 (by decide) (hts (.fieldLink RX6 12 "SmokeTune$Reader" "tape" "LSmokeTune$Tape;") (List.mem_cons_of_mem _ (List.mem_append_left _ (List.mem_append_left _ (List.mem_append_left _ (List.mem_append_left _ (List.mem_of_getElem? (i := 3) rfl))))))) (fun _ h9 => h9) rfl dX6_reads_35 ?_
  refine kcv (wr := [(a0, .inr (6, [.ref a1, .ref a2, .int 1, .int 0, g4])), (a2, .inr (7, [p0, p1, .int 0, .int 0]))]) (va_runVN (As := []) (rest := []) ⟨hx, hb, hml, hown, hts⟩ (c_step l D K a1 k0 k2 k4 k5 H.size) ⟨va_cnB 0 hts gX6_reads_X8_step_n47 rfl rfl rfl (nst_at hN 32 rfl) (hts (.initialized RX8) (List.mem_cons_of_mem _ (List.mem_append_left _ (List.mem_append_left _ (List.mem_append_left _ (List.mem_append_left _ (List.mem_of_getElem? (i := 6) rfl))))))) (by decide +kernel) ⟨Nat.le_of_ble_eq_true rfl, Nat.le_of_ble_eq_true rfl⟩, (hts (.instanceMethod yX8_step) (List.mem_cons_of_mem _ (List.mem_append_left _ (List.mem_append_left _ (List.mem_append_left _ (List.mem_append_left _ (List.mem_of_getElem? (i := 5) rfl))))))), (hts (.selects RX8 yX8_step yX8_step) (List.mem_cons_of_mem _ (List.mem_append_left _ (List.mem_append_left _ (List.mem_append_left _ (List.mem_append_left _ (List.mem_of_getElem? (i := 7) rfl)))))))⟩ (mkV hK hN (hP.sub [1] rfl) (hD.sub [1] (by decide) rfl) (ci := 8) (q0 := 0) rfl rfl) rfl rfl hl.1 rfl (lv_room (Nat.le_of_ble_eq_true rfl)) dX6_reads_38 ⟨Nat.le_of_ble_eq_true rfl, Nat.le_of_ble_eq_true rfl⟩) hP hD hS hA [1] [0, 2] rfl rfl (by decide) (by decide) (fun u_2 H locs hw hP hD hS => ?_)
  have hP : va_P D vwCl [(a0, .inr (6, [.ref a1, .ref a2, .int 1, .int 0, g4])), (a2, .inr (7, [p0, p1, .int 0, .int 0])), (a1, .inr (8, [k0, .int 0, .int 0, .int 0, .int (-1), .int (-1)]))] H := hP
  have hD : va_D A [(a0, .inr (6, [.ref a1, .ref a2, .int 1, .int 0, g4])), (a2, .inr (7, [p0, p1, .int 0, .int 0])), (a1, .inr (8, [k0, .int 0, .int 0, .int 0, .int (-1), .int (-1)]))] := hD
  refine lv_iconst (v := 0) hx hb dX6_reads_41 (by decide) ?_
  refine lv_istore_n (lv' := [(2, .int 0), (0, .ref a0), (1, .int 1)]) hx hb dX6_reads_42 rfl hl (by decide) rfl (fun ls hl => ?_)
  refine lv_iconst (v := 0) hx hb dX6_reads_43 (by decide) ?_
  refine lv_istore_n (lv' := [(3, .int 0), (2, .int 0), (0, .ref a0), (1, .int 1)]) hx hb dX6_reads_44 rfl hl (by decide) rfl (fun ls hl => ?_)
  refine lv_iload_n hx hb dX6_reads_45 rfl (lv_at hl 0 rfl) ?_
  refine lv_bipush (v := 12) hx hb dX6_reads_46 (by decide) ?_
  refine lv_icmp_ge (tgt := 125) hx hb dX6_reads_48 (by decide) (fun c_3 => absurd c_3 (by decide)) (fun c_3 => ?_)
  refine lv_iload_n hx hb dX6_reads_51 rfl (lv_at hl 1 rfl) ?_
  refine lv_if_ne (tgt := 125) hx hb dX6_reads_52 (by decide) (fun c_4 => absurd (by decide) c_4) (fun c_4 => ?_)
  refine lv_aload_n hx hb dX6_reads_55 rfl (lv_at hl 2 rfl) ?_
  refine lv_iload_n hx hb dX6_reads_56 rfl (lv_at hl 0 rfl) ?_
  refine pci (va_runV (As := [.int 0]) (rest := []) ⟨hx, hb, hml, hown, hts⟩ (c_clause_0 l D K a0 a1 (.ref a2) (.int 0) g4 k0 (.int 0) (.int (-1)) (.int (-1)) g H.size) (cwV 1 hts gX6_reads_X6_clause rfl rfl rfl (by decide +kernel) ⟨Nat.le_of_ble_eq_true rfl, Nat.le_of_ble_eq_true rfl⟩) (mkVX hK hN (hP.sub [0, 2] rfl) (hD.sub [0, 2] (by decide) rfl) (ci := 6) (q0 := 0) rfl rfl (fun U hU hW => Gl.atF hG hS hW hU)) rfl rfl hl.1 rfl (lv_room (Nat.le_of_ble_eq_true rfl)) dX6_reads_57 ⟨Nat.le_of_ble_eq_true rfl, Nat.le_of_ble_eq_true rfl⟩) (fun r_5 hw => ?_)
  obtain rfl : r_5 = 0 := hw
  refine lv_if_ne (tgt := 66) hx hb dX6_reads_60 (by decide) (fun c_6 => absurd (by decide) c_6) (fun c_6 => ?_)
  refine lv_goto (tgt := 125) hx hb dX6_reads_63 (by decide) ?_
  refine lv_aload_n hx hb dX6_reads_125 rfl (lv_at hl 2 rfl) ?_
  refine lv_iload_n hx hb dX6_reads_126 rfl (lv_at hl 1 rfl) ?_
  refine lv_if_eq (tgt := 134) hx hb dX6_reads_127 (by decide) (fun c_7 => ?_) (fun c_7 => absurd (by decide) c_7)
  refine lv_aload_n hx hb dX6_reads_134 rfl (lv_at hl 2 rfl) ?_
  refine va_get (ci := 6) (v := .ref a1) (C := RX6) (T := TX6) (N := 5) hx hb hts hw6 hown hK hP 0 rfl rfl 0 (by decide) (hts (.fieldLink RX6 12 "SmokeTune$Reader" "tape" "LSmokeTune$Tape;") (List.mem_cons_of_mem _ (List.mem_append_left _ (List.mem_append_left _ (List.mem_append_left _ (List.mem_append_left _ (List.mem_of_getElem? (i := 3) rfl))))))) (fun _ h9 => h9) rfl dX6_reads_135 ?_
  refine va_getN (ci := 8) (v := .int 0) (C := RX8) (T := TX8) (N := 6) hx hb hts hw8 hown hK hP 2 rfl rfl 2 (by decide) (nst_use hN 121 rfl) (fun _ h9 => h9) rfl dX6_reads_138 ?_
  refine va_put (ci := 6) (v := .int 0) (ty := .int) (C := RX6) (T := TX6) (N := 5) hx hb hts hw6 tyX6 tyX6_ok nmX6 hown hK hP hD hS 0 rfl rfl 4 (by decide) (hts (.fieldLink RX6 35 "SmokeTune$Reader" "faultAt" "I") (List.mem_cons_of_mem _ (List.mem_append_left _ (List.mem_append_left _ (List.mem_append_left _ (List.mem_append_left _ (List.mem_of_getElem? (i := 4) rfl))))))) (fun _ h9 => h9) rfl (by decide +kernel) (by first | rfl | decide) (by first | rfl | decide) (Nat.le_of_ble_eq_true rfl) dX6_reads_141 (fun H locs hP hD hS => ?_)
  have hP : va_P D vwCl [(a0, .inr (6, [.ref a1, .ref a2, .int 1, .int 0, .int 0])), (a2, .inr (7, [p0, p1, .int 0, .int 0])), (a1, .inr (8, [k0, .int 0, .int 0, .int 0, .int (-1), .int (-1)]))] H := hP
  have hD : va_D A [(a0, .inr (6, [.ref a1, .ref a2, .int 1, .int 0, .int 0])), (a2, .inr (7, [p0, p1, .int 0, .int 0])), (a1, .inr (8, [k0, .int 0, .int 0, .int 0, .int (-1), .int (-1)]))] := hD
  refine lv_aload_n hx hb dX6_reads_144 rfl (lv_at hl 2 rfl) ?_
  refine va_get (ci := 6) (v := .ref a1) (C := RX6) (T := TX6) (N := 5) hx hb hts hw6 hown hK hP 0 rfl rfl 0 (by decide) (hts (.fieldLink RX6 12 "SmokeTune$Reader" "tape" "LSmokeTune$Tape;") (List.mem_cons_of_mem _ (List.mem_append_left _ (List.mem_append_left _ (List.mem_append_left _ (List.mem_append_left _ (List.mem_of_getElem? (i := 3) rfl))))))) (fun _ h9 => h9) rfl dX6_reads_145 ?_
  refine lv_iconst (v := 0) hx hb dX6_reads_148 (by decide) ?_
  refine va_putN (ci := 8) (v := .int 0) (ty := .int) (C := RX8) (T := TX8) (N := 6) hx hb hts hw8 tyX8 tyX8_ok nmX8 hown hK hP hD hS 2 rfl rfl 1 (by decide) (nst_use hN 119 rfl) (fun _ h9 => h9) rfl (by decide +kernel) (by first | rfl | decide) (by first | rfl | decide) (Nat.le_of_ble_eq_true rfl) dX6_reads_149 (fun H locs hP hD hS => ?_)
  have hP : va_P D vwCl [(a0, .inr (6, [.ref a1, .ref a2, .int 1, .int 0, .int 0])), (a2, .inr (7, [p0, p1, .int 0, .int 0])), (a1, .inr (8, [k0, .int 0, .int 0, .int 0, .int (-1), .int (-1)]))] H := hP
  have hD : va_D A [(a0, .inr (6, [.ref a1, .ref a2, .int 1, .int 0, .int 0])), (a2, .inr (7, [p0, p1, .int 0, .int 0])), (a1, .inr (8, [k0, .int 0, .int 0, .int 0, .int (-1), .int (-1)]))] := hD
  refine lv_iload_n hx hb dX6_reads_152 rfl (lv_at hl 1 rfl) ?_
  exact W.zret (v := 0) hx hb hr (by first | rfl | decide) (fun t ht hW => ⟨⟨0, (), rfl, (by first | exact rfl), Wd.nil⟩, hS.F ht⟩) hS.2.2 dX6_reads_153
set_option maxHeartbeats 4000000 in
set_option maxRecDepth 100000 in
theorem c_reads_1 (l : Launch) (D : va_G) (K : Nat → ClassId) (a0 : Nat) (a1 : Nat) (a2 : Nat) (g2 : Value) (g3 : Value) (g4 : Value) (k0 : Value) (k2 : Value) (k3 : Value) (k4 : Value) (k5 : Value) (p0 : Value) (p1 : Value) (p2 : Value) (p3 : Value) (g : Nat → Nat) (sz : Nat) : Met l yX6_reads wsX6_reads ({ frames := 6, cells := 0, slots := 0, locals := 134 }) (va_Pc [.ref a0, .int 0] (PreX D K [(a0, .inr (6, [.ref a1, .ref a2, g2, g3, g4])), (a1, .inr (8, [k0, .int 0, k2, k3, k4, k5])), (a2, .inr (7, [p0, p1, p2, p3]))] sz g (va_A [(a0, .inr (6, [.ref a1, .ref a2, g2, g3, g4])), (a1, .inr (8, [k0, .int 0, k2, k3, k4, k5])), (a2, .inr (7, [p0, p1, p2, p3]))] sz))) (va_Qi (S := Unit) (fun (r : Int32) (_ : Unit) => (r = 0)) (fun u t => Wd D (va_A [(a0, .inr (6, [.ref a1, .ref a2, g2, g3, g4])), (a1, .inr (8, [k0, .int 0, k2, k3, k4, k5])), (a2, .inr (7, [p0, p1, p2, p3]))] sz) ((fun _ => []) u) t) (va_A [(a0, .inr (6, [.ref a1, .ref a2, g2, g3, g4])), (a1, .inr (8, [k0, .int 0, k2, k3, k4, k5])), (a2, .inr (7, [p0, p1, p2, p3]))] sz)) 0 0 (va_A [(a0, .inr (6, [.ref a1, .ref a2, g2, g3, g4])), (a1, .inr (8, [k0, .int 0, k2, k3, k4, k5])), (a2, .inr (7, [p0, p1, p2, p3]))] sz) := by
  refine Met.ofW (cc := cX6_reads) (maxL := 4) (ret := (some .boolean)) (by decide) rfl ?_
  intro p e s m args below meth c s₁ B hml hv
  obtain ⟨rfl, ⟨hsz, hP, hK, hD0, hN⟩, hG⟩ := hv
  have hx := B.exec
  have hb := B.bytes
  have hr := B.returns
  have hts := atoms_spec (ws := wsX6_reads) B.pre
  have hown : s.vm.findClass RX6 = some m.cls := findClass_of_methodNamed B.named
  have hlocks := B.notSynchronized
  subst hsz
  have hD := hD0.self (sz := s.heap.size)
  generalize hAe : va_A [(a0, .inr (6, [.ref a1, .ref a2, g2, g3, g4])), (a1, .inr (8, [k0, .int 0, k2, k3, k4, k5])), (a2, .inr (7, [p0, p1, p2, p3]))] s.heap.size = A at hD hG ⊢
  have hA : ∀ q : Nat, s.heap.size ≤ q → A q := fun q h => by rw [← hAe]; exact Or.inr h
  have hS : va_S A s.heap s.heap [] := va_S.rf
  have hP : va_P D vwCl [(a0, .inr (6, [.ref a1, .ref a2, g2, g3, g4])), (a1, .inr (8, [k0, .int 0, k2, k3, k4, k5])), (a2, .inr (7, [p0, p1, p2, p3]))] s.heap := hP
  have hl := lv_entry [.ref a0, .int 0] (n := 4) (Nat.le_of_ble_eq_true rfl)
  rw [lg_entry_eq]
  generalize (lg_sl [.ref a0, .int 0] ++ List.replicate (4 - (lg_sl [.ref a0, .int 0]).length) Slot.unset).toArray = ls at hl ⊢
  have hl : lv_has ls 4 [(0, .ref a0), (1, .int 0)] := hl
  have hw6 : ∀ w ∈ wsX60, w ∈ wsX6_reads := fun w h => (List.mem_cons_of_mem _ (List.mem_append_left _ (List.mem_append_left _ (List.mem_append_right _ h))))
  have hw7 : ∀ w ∈ wsX70, w ∈ wsX6_reads := fun w h => (List.mem_cons_of_mem _ (List.mem_append_left _ (List.mem_append_right _ h)))
  have hw8 : ∀ w ∈ wsX80, w ∈ wsX6_reads := fun w h => (List.mem_cons_of_mem _ (List.mem_append_right _ h))
  refine lv_aload_n hx hb dX6_reads_0 rfl (lv_at hl 0 rfl) ?_
  refine lv_iload_n hx hb dX6_reads_1 rfl (lv_at hl 1 rfl) ?_
  refine va_put (ci := 6) (v := .int 0) (ty := .boolean) (C := RX6) (T := TX6) (N := 5) hx hb hts hw6 tyX6 tyX6_ok nmX6 hown hK hP hD hS 0 rfl rfl 2 (by decide) (hts (.fieldLink RX6 27 "SmokeTune$Reader" "lawful" "Z") (List.mem_cons_of_mem _ (List.mem_append_left _ (List.mem_append_left _ (List.mem_append_left _ (List.mem_append_left _ (List.mem_of_getElem? (i := 0) rfl))))))) (fun _ h9 => h9) rfl (by decide +kernel) (by first | rfl | decide) (by first | rfl | decide) (Nat.le_of_ble_eq_true rfl) dX6_reads_2 (fun H locs hP hD hS => ?_)
  have hP : va_P D vwCl [(a0, .inr (6, [.ref a1, .ref a2, .int 0, g3, g4])), (a1, .inr (8, [k0, .int 0, k2, k3, k4, k5])), (a2, .inr (7, [p0, p1, p2, p3]))] H := hP
  have hD : va_D A [(a0, .inr (6, [.ref a1, .ref a2, .int 0, g3, g4])), (a1, .inr (8, [k0, .int 0, k2, k3, k4, k5])), (a2, .inr (7, [p0, p1, p2, p3]))] := hD
  refine lv_aload_n hx hb dX6_reads_5 rfl (lv_at hl 0 rfl) ?_
  refine lv_iconst (v := 0) hx hb dX6_reads_6 (by decide) ?_
  refine va_put (ci := 6) (v := .int 0) (ty := .int) (C := RX6) (T := TX6) (N := 5) hx hb hts hw6 tyX6 tyX6_ok nmX6 hown hK hP hD hS 0 rfl rfl 3 (by decide) (hts (.fieldLink RX6 31 "SmokeTune$Reader" "parts" "I") (List.mem_cons_of_mem _ (List.mem_append_left _ (List.mem_append_left _ (List.mem_append_left _ (List.mem_append_left _ (List.mem_of_getElem? (i := 1) rfl))))))) (fun _ h9 => h9) rfl (by decide +kernel) (by first | rfl | decide) (by first | rfl | decide) (Nat.le_of_ble_eq_true rfl) dX6_reads_7 (fun H locs hP hD hS => ?_)
  have hP : va_P D vwCl [(a0, .inr (6, [.ref a1, .ref a2, .int 0, .int 0, g4])), (a1, .inr (8, [k0, .int 0, k2, k3, k4, k5])), (a2, .inr (7, [p0, p1, p2, p3]))] H := hP
  have hD : va_D A [(a0, .inr (6, [.ref a1, .ref a2, .int 0, .int 0, g4])), (a1, .inr (8, [k0, .int 0, k2, k3, k4, k5])), (a2, .inr (7, [p0, p1, p2, p3]))] := hD
  refine lv_aload_n hx hb dX6_reads_10 rfl (lv_at hl 0 rfl) ?_
  refine va_get (ci := 6) (v := .ref a2) (C := RX6) (T := TX6) (N := 5) hx hb hts hw6 hown hK hP 0 rfl rfl 1 (by decide) (hts (.fieldLink RX6 23 "SmokeTune$Reader" "text" "LSmokeTune$Script;") (List.mem_cons_of_mem _ (List.mem_append_left _ (List.mem_append_left _ (List.mem_append_left _ (List.mem_append_left _ (List.mem_of_getElem? (i := 2) rfl))))))) (fun _ h9 => h9) rfl dX6_reads_11 ?_
  refine lv_iconst (v := 0) hx hb dX6_reads_14 (by decide) ?_
  refine va_putN (ci := 7) (v := .int 0) (ty := .int) (C := RX7) (T := TX7) (N := 4) hx hb hts hw7 tyX7 tyX7_ok nmX7 hown hK hP hD hS 2 rfl rfl 2 (by decide) (nst_use hN 127 rfl) (fun _ h9 => h9) rfl (by decide +kernel) (by first | rfl | decide) (by first | rfl | decide) (Nat.le_of_ble_eq_true rfl) dX6_reads_15 (fun H locs hP hD hS => ?_)
  have hP : va_P D vwCl [(a0, .inr (6, [.ref a1, .ref a2, .int 0, .int 0, g4])), (a1, .inr (8, [k0, .int 0, k2, k3, k4, k5])), (a2, .inr (7, [p0, p1, .int 0, p3]))] H := hP
  have hD : va_D A [(a0, .inr (6, [.ref a1, .ref a2, .int 0, .int 0, g4])), (a1, .inr (8, [k0, .int 0, k2, k3, k4, k5])), (a2, .inr (7, [p0, p1, .int 0, p3]))] := hD
  refine lv_aload_n hx hb dX6_reads_18 rfl (lv_at hl 0 rfl) ?_
  refine va_get (ci := 6) (v := .ref a2) (C := RX6) (T := TX6) (N := 5) hx hb hts hw6 hown hK hP 0 rfl rfl 1 (by decide) (hts (.fieldLink RX6 23 "SmokeTune$Reader" "text" "LSmokeTune$Script;") (List.mem_cons_of_mem _ (List.mem_append_left _ (List.mem_append_left _ (List.mem_append_left _ (List.mem_append_left _ (List.mem_of_getElem? (i := 2) rfl))))))) (fun _ h9 => h9) rfl dX6_reads_19 ?_
  refine lv_iconst (v := 0) hx hb dX6_reads_22 (by decide) ?_
  refine va_putN (ci := 7) (v := .int 0) (ty := .int) (C := RX7) (T := TX7) (N := 4) hx hb hts hw7 tyX7 tyX7_ok nmX7 hown hK hP hD hS 2 rfl rfl 3 (by decide) (nst_use hN 130 rfl) (fun _ h9 => h9) rfl (by decide +kernel) (by first | rfl | decide) (by first | rfl | decide) (Nat.le_of_ble_eq_true rfl) dX6_reads_23 (fun H locs hP hD hS => ?_)
  have hP : va_P D vwCl [(a0, .inr (6, [.ref a1, .ref a2, .int 0, .int 0, g4])), (a1, .inr (8, [k0, .int 0, k2, k3, k4, k5])), (a2, .inr (7, [p0, p1, .int 0, .int 0]))] H := hP
  have hD : va_D A [(a0, .inr (6, [.ref a1, .ref a2, .int 0, .int 0, g4])), (a1, .inr (8, [k0, .int 0, k2, k3, k4, k5])), (a2, .inr (7, [p0, p1, .int 0, .int 0]))] := hD
  refine lv_aload_n hx hb dX6_reads_26 rfl (lv_at hl 0 rfl) ?_
  refine va_get (ci := 6) (v := .ref a1) (C := RX6) (T := TX6) (N := 5) hx hb hts hw6 hown hK hP 0 rfl rfl 0 (by decide) (hts (.fieldLink RX6 12 "SmokeTune$Reader" "tape" "LSmokeTune$Tape;") (List.mem_cons_of_mem _ (List.mem_append_left _ (List.mem_append_left _ (List.mem_append_left _ (List.mem_append_left _ (List.mem_of_getElem? (i := 3) rfl))))))) (fun _ h9 => h9) rfl dX6_reads_27 ?_
  refine lv_iconst (v := 0) hx hb dX6_reads_30 (by decide) ?_
  refine va_putN (ci := 8) (v := .int 0) (ty := .int) (C := RX8) (T := TX8) (N := 6) hx hb hts hw8 tyX8 tyX8_ok nmX8 hown hK hP hD hS 1 rfl rfl 3 (by decide) (nst_use hN 122 rfl) (fun _ h9 => h9) rfl (by decide +kernel) (by first | rfl | decide) (by first | rfl | decide) (Nat.le_of_ble_eq_true rfl) dX6_reads_31 (fun H locs hP hD hS => ?_)
  have hP : va_P D vwCl [(a0, .inr (6, [.ref a1, .ref a2, .int 0, .int 0, g4])), (a1, .inr (8, [k0, .int 0, k2, .int 0, k4, k5])), (a2, .inr (7, [p0, p1, .int 0, .int 0]))] H := hP
  have hD : va_D A [(a0, .inr (6, [.ref a1, .ref a2, .int 0, .int 0, g4])), (a1, .inr (8, [k0, .int 0, k2, .int 0, k4, k5])), (a2, .inr (7, [p0, p1, .int 0, .int 0]))] := hD
  refine lv_aload_n hx hb dX6_reads_34 rfl (lv_at hl 0 rfl) ?_
  refine va_get (ci := 6) (v := .ref a1) (C := RX6) (T := TX6) (N := 5) hx hb hts hw6 hown hK hP 0 rfl rfl 0 (by decide) (hts (.fieldLink RX6 12 "SmokeTune$Reader" "tape" "LSmokeTune$Tape;") (List.mem_cons_of_mem _ (List.mem_append_left _ (List.mem_append_left _ (List.mem_append_left _ (List.mem_append_left _ (List.mem_of_getElem? (i := 3) rfl))))))) (fun _ h9 => h9) rfl dX6_reads_35 ?_
  refine kcv (wr := [(a0, .inr (6, [.ref a1, .ref a2, .int 0, .int 0, g4])), (a2, .inr (7, [p0, p1, .int 0, .int 0]))]) (va_runVN (As := []) (rest := []) ⟨hx, hb, hml, hown, hts⟩ (c_step l D K a1 k0 k2 k4 k5 H.size) ⟨va_cnB 0 hts gX6_reads_X8_step_n47 rfl rfl rfl (nst_at hN 32 rfl) (hts (.initialized RX8) (List.mem_cons_of_mem _ (List.mem_append_left _ (List.mem_append_left _ (List.mem_append_left _ (List.mem_append_left _ (List.mem_of_getElem? (i := 6) rfl))))))) (by decide +kernel) ⟨Nat.le_of_ble_eq_true rfl, Nat.le_of_ble_eq_true rfl⟩, (hts (.instanceMethod yX8_step) (List.mem_cons_of_mem _ (List.mem_append_left _ (List.mem_append_left _ (List.mem_append_left _ (List.mem_append_left _ (List.mem_of_getElem? (i := 5) rfl))))))), (hts (.selects RX8 yX8_step yX8_step) (List.mem_cons_of_mem _ (List.mem_append_left _ (List.mem_append_left _ (List.mem_append_left _ (List.mem_append_left _ (List.mem_of_getElem? (i := 7) rfl)))))))⟩ (mkV hK hN (hP.sub [1] rfl) (hD.sub [1] (by decide) rfl) (ci := 8) (q0 := 0) rfl rfl) rfl rfl hl.1 rfl (lv_room (Nat.le_of_ble_eq_true rfl)) dX6_reads_38 ⟨Nat.le_of_ble_eq_true rfl, Nat.le_of_ble_eq_true rfl⟩) hP hD hS hA [1] [0, 2] rfl rfl (by decide) (by decide) (fun u_2 H locs hw hP hD hS => ?_)
  have hP : va_P D vwCl [(a0, .inr (6, [.ref a1, .ref a2, .int 0, .int 0, g4])), (a2, .inr (7, [p0, p1, .int 0, .int 0])), (a1, .inr (8, [k0, .int 0, .int 0, .int 0, .int (-1), .int (-1)]))] H := hP
  have hD : va_D A [(a0, .inr (6, [.ref a1, .ref a2, .int 0, .int 0, g4])), (a2, .inr (7, [p0, p1, .int 0, .int 0])), (a1, .inr (8, [k0, .int 0, .int 0, .int 0, .int (-1), .int (-1)]))] := hD
  refine lv_iconst (v := 0) hx hb dX6_reads_41 (by decide) ?_
  refine lv_istore_n (lv' := [(2, .int 0), (0, .ref a0), (1, .int 0)]) hx hb dX6_reads_42 rfl hl (by decide) rfl (fun ls hl => ?_)
  refine lv_iconst (v := 0) hx hb dX6_reads_43 (by decide) ?_
  refine lv_istore_n (lv' := [(3, .int 0), (2, .int 0), (0, .ref a0), (1, .int 0)]) hx hb dX6_reads_44 rfl hl (by decide) rfl (fun ls hl => ?_)
  refine lv_iload_n hx hb dX6_reads_45 rfl (lv_at hl 0 rfl) ?_
  refine lv_bipush (v := 12) hx hb dX6_reads_46 (by decide) ?_
  refine lv_icmp_ge (tgt := 125) hx hb dX6_reads_48 (by decide) (fun c_3 => absurd c_3 (by decide)) (fun c_3 => ?_)
  refine lv_iload_n hx hb dX6_reads_51 rfl (lv_at hl 1 rfl) ?_
  refine lv_if_ne (tgt := 125) hx hb dX6_reads_52 (by decide) (fun c_4 => absurd (by decide) c_4) (fun c_4 => ?_)
  refine lv_aload_n hx hb dX6_reads_55 rfl (lv_at hl 2 rfl) ?_
  refine lv_iload_n hx hb dX6_reads_56 rfl (lv_at hl 0 rfl) ?_
  refine pci (va_runV (As := [.int 0]) (rest := []) ⟨hx, hb, hml, hown, hts⟩ (c_clause_1 l D K a0 a1 (.ref a2) (.int 0) g4 k0 (.int 0) (.int (-1)) (.int (-1)) g H.size) (cwV 1 hts gX6_reads_X6_clause rfl rfl rfl (by decide +kernel) ⟨Nat.le_of_ble_eq_true rfl, Nat.le_of_ble_eq_true rfl⟩) (mkVX hK hN (hP.sub [0, 2] rfl) (hD.sub [0, 2] (by decide) rfl) (ci := 6) (q0 := 0) rfl rfl (fun U hU hW => Gl.atF hG hS hW hU)) rfl rfl hl.1 rfl (lv_room (Nat.le_of_ble_eq_true rfl)) dX6_reads_57 ⟨Nat.le_of_ble_eq_true rfl, Nat.le_of_ble_eq_true rfl⟩) (fun r_5 hw => ?_)
  obtain rfl : r_5 = 0 := hw
  refine lv_if_ne (tgt := 66) hx hb dX6_reads_60 (by decide) (fun c_6 => absurd (by decide) c_6) (fun c_6 => ?_)
  refine lv_goto (tgt := 125) hx hb dX6_reads_63 (by decide) ?_
  refine lv_aload_n hx hb dX6_reads_125 rfl (lv_at hl 2 rfl) ?_
  refine lv_iload_n hx hb dX6_reads_126 rfl (lv_at hl 1 rfl) ?_
  refine lv_if_eq (tgt := 134) hx hb dX6_reads_127 (by decide) (fun c_7 => ?_) (fun c_7 => absurd (by decide) c_7)
  refine lv_aload_n hx hb dX6_reads_134 rfl (lv_at hl 2 rfl) ?_
  refine va_get (ci := 6) (v := .ref a1) (C := RX6) (T := TX6) (N := 5) hx hb hts hw6 hown hK hP 0 rfl rfl 0 (by decide) (hts (.fieldLink RX6 12 "SmokeTune$Reader" "tape" "LSmokeTune$Tape;") (List.mem_cons_of_mem _ (List.mem_append_left _ (List.mem_append_left _ (List.mem_append_left _ (List.mem_append_left _ (List.mem_of_getElem? (i := 3) rfl))))))) (fun _ h9 => h9) rfl dX6_reads_135 ?_
  refine va_getN (ci := 8) (v := .int 0) (C := RX8) (T := TX8) (N := 6) hx hb hts hw8 hown hK hP 2 rfl rfl 2 (by decide) (nst_use hN 121 rfl) (fun _ h9 => h9) rfl dX6_reads_138 ?_
  refine va_put (ci := 6) (v := .int 0) (ty := .int) (C := RX6) (T := TX6) (N := 5) hx hb hts hw6 tyX6 tyX6_ok nmX6 hown hK hP hD hS 0 rfl rfl 4 (by decide) (hts (.fieldLink RX6 35 "SmokeTune$Reader" "faultAt" "I") (List.mem_cons_of_mem _ (List.mem_append_left _ (List.mem_append_left _ (List.mem_append_left _ (List.mem_append_left _ (List.mem_of_getElem? (i := 4) rfl))))))) (fun _ h9 => h9) rfl (by decide +kernel) (by first | rfl | decide) (by first | rfl | decide) (Nat.le_of_ble_eq_true rfl) dX6_reads_141 (fun H locs hP hD hS => ?_)
  have hP : va_P D vwCl [(a0, .inr (6, [.ref a1, .ref a2, .int 0, .int 0, .int 0])), (a2, .inr (7, [p0, p1, .int 0, .int 0])), (a1, .inr (8, [k0, .int 0, .int 0, .int 0, .int (-1), .int (-1)]))] H := hP
  have hD : va_D A [(a0, .inr (6, [.ref a1, .ref a2, .int 0, .int 0, .int 0])), (a2, .inr (7, [p0, p1, .int 0, .int 0])), (a1, .inr (8, [k0, .int 0, .int 0, .int 0, .int (-1), .int (-1)]))] := hD
  refine lv_aload_n hx hb dX6_reads_144 rfl (lv_at hl 2 rfl) ?_
  refine va_get (ci := 6) (v := .ref a1) (C := RX6) (T := TX6) (N := 5) hx hb hts hw6 hown hK hP 0 rfl rfl 0 (by decide) (hts (.fieldLink RX6 12 "SmokeTune$Reader" "tape" "LSmokeTune$Tape;") (List.mem_cons_of_mem _ (List.mem_append_left _ (List.mem_append_left _ (List.mem_append_left _ (List.mem_append_left _ (List.mem_of_getElem? (i := 3) rfl))))))) (fun _ h9 => h9) rfl dX6_reads_145 ?_
  refine lv_iconst (v := 0) hx hb dX6_reads_148 (by decide) ?_
  refine va_putN (ci := 8) (v := .int 0) (ty := .int) (C := RX8) (T := TX8) (N := 6) hx hb hts hw8 tyX8 tyX8_ok nmX8 hown hK hP hD hS 2 rfl rfl 1 (by decide) (nst_use hN 119 rfl) (fun _ h9 => h9) rfl (by decide +kernel) (by first | rfl | decide) (by first | rfl | decide) (Nat.le_of_ble_eq_true rfl) dX6_reads_149 (fun H locs hP hD hS => ?_)
  have hP : va_P D vwCl [(a0, .inr (6, [.ref a1, .ref a2, .int 0, .int 0, .int 0])), (a2, .inr (7, [p0, p1, .int 0, .int 0])), (a1, .inr (8, [k0, .int 0, .int 0, .int 0, .int (-1), .int (-1)]))] H := hP
  have hD : va_D A [(a0, .inr (6, [.ref a1, .ref a2, .int 0, .int 0, .int 0])), (a2, .inr (7, [p0, p1, .int 0, .int 0])), (a1, .inr (8, [k0, .int 0, .int 0, .int 0, .int (-1), .int (-1)]))] := hD
  refine lv_iload_n hx hb dX6_reads_152 rfl (lv_at hl 1 rfl) ?_
  exact W.zret (v := 0) hx hb hr (by first | rfl | decide) (fun t ht hW => ⟨⟨0, (), rfl, (by first | exact rfl), Wd.nil⟩, hS.F ht⟩) hS.2.2 dX6_reads_153
set_option maxHeartbeats 4000000 in
set_option maxRecDepth 100000 in
theorem t_law (l : Launch) (D : va_G) (K : Nat → ClassId) (a0 : Nat) (a2 : Nat) (g1 : Value) (g2 : Value) (g3 : Value) (b0 : Nat) (g5 : Value) (g6 : Value) (g7 : Value) (g8 : Value) (g9 : Value) (g10 : Value) (g11 : Value) (a1 : Nat) (g13 : Value) (g14 : Value) (g15 : Value) (g16 : Value) (f : Nat → Int32) (r0 : Value) (r1 : Value) (r2 : Value) (r3 : Value) (r4 : Value) (r6 : Value) (r7 : Value) (r8 : Value) (r9 : Value) (b1 : Nat) (b2 : Nat) (k2 : Value) (k3 : Value) (k4 : Value) (p0 : Value) (p2 : Value) (p3 : Value) (p4 : Value) (p5 : Value) (q0 : Value) (q1 : Value) (q2 : Value) (q3 : Value) (g : Nat → Nat) (sz : Nat) : Met l yX11_law wsX11_law ({ frames := 7, cells := 0, slots := 0, locals := 157 }) (va_Pc [.ref a0] (PreX D K [(a0, .inr (11, [.ref a2, g1, g2, g3, .ref b0, g5, g6, g7, g8, g9, g10, g11, .ref a1, g13, g14, g15, g16])), (a1, .inl (K 0, 5, .inl f)), (a2, .inr (9, [r0, r1, r2, r3, r4, .int 0, r6, r7, r8, r9])), (b0, .inr (6, [.ref b1, .ref b2, k2, k3, k4])), (b1, .inr (8, [p0, .int 0, p2, p3, p4, p5])), (b2, .inr (7, [q0, q1, q2, q3]))] sz g (va_A [(a0, .inr (11, [.ref a2, g1, g2, g3, .ref b0, g5, g6, g7, g8, g9, g10, g11, .ref a1, g13, g14, g15, g16])), (a1, .inl (K 0, 5, .inl f)), (a2, .inr (9, [r0, r1, r2, r3, r4, .int 0, r6, r7, r8, r9])), (b0, .inr (6, [.ref b1, .ref b2, k2, k3, k4])), (b1, .inr (8, [p0, .int 0, p2, p3, p4, p5])), (b2, .inr (7, [q0, q1, q2, q3]))] sz))) (va_Qi (S := Unit) (fun (r : Int32) (_ : Unit) => (r = (-6))) (fun u t => Wd D (va_A [(a0, .inr (11, [.ref a2, g1, g2, g3, .ref b0, g5, g6, g7, g8, g9, g10, g11, .ref a1, g13, g14, g15, g16])), (a1, .inl (K 0, 5, .inl f)), (a2, .inr (9, [r0, r1, r2, r3, r4, .int 0, r6, r7, r8, r9])), (b0, .inr (6, [.ref b1, .ref b2, k2, k3, k4])), (b1, .inr (8, [p0, .int 0, p2, p3, p4, p5])), (b2, .inr (7, [q0, q1, q2, q3]))] sz) ((fun _ => []) u) t) (va_A [(a0, .inr (11, [.ref a2, g1, g2, g3, .ref b0, g5, g6, g7, g8, g9, g10, g11, .ref a1, g13, g14, g15, g16])), (a1, .inl (K 0, 5, .inl f)), (a2, .inr (9, [r0, r1, r2, r3, r4, .int 0, r6, r7, r8, r9])), (b0, .inr (6, [.ref b1, .ref b2, k2, k3, k4])), (b1, .inr (8, [p0, .int 0, p2, p3, p4, p5])), (b2, .inr (7, [q0, q1, q2, q3]))] sz)) 0 0 (va_A [(a0, .inr (11, [.ref a2, g1, g2, g3, .ref b0, g5, g6, g7, g8, g9, g10, g11, .ref a1, g13, g14, g15, g16])), (a1, .inl (K 0, 5, .inl f)), (a2, .inr (9, [r0, r1, r2, r3, r4, .int 0, r6, r7, r8, r9])), (b0, .inr (6, [.ref b1, .ref b2, k2, k3, k4])), (b1, .inr (8, [p0, .int 0, p2, p3, p4, p5])), (b2, .inr (7, [q0, q1, q2, q3]))] sz) := by
  refine Met.ofW (cc := cX11_law) (maxL := 1) (ret := (some .int)) (by decide) rfl ?_
  intro p e s m args below meth c s₁ B hml hv
  obtain ⟨rfl, ⟨hsz, hP, hK, hD0, hN⟩, hG⟩ := hv
  have hx := B.exec
  have hb := B.bytes
  have hr := B.returns
  have hts := atoms_spec (ws := wsX11_law) B.pre
  have hown : s.vm.findClass RX11 = some m.cls := findClass_of_methodNamed B.named
  have hlocks := B.notSynchronized
  subst hsz
  have hD := hD0.self (sz := s.heap.size)
  generalize hAe : va_A [(a0, .inr (11, [.ref a2, g1, g2, g3, .ref b0, g5, g6, g7, g8, g9, g10, g11, .ref a1, g13, g14, g15, g16])), (a1, .inl (K 0, 5, .inl f)), (a2, .inr (9, [r0, r1, r2, r3, r4, .int 0, r6, r7, r8, r9])), (b0, .inr (6, [.ref b1, .ref b2, k2, k3, k4])), (b1, .inr (8, [p0, .int 0, p2, p3, p4, p5])), (b2, .inr (7, [q0, q1, q2, q3]))] s.heap.size = A at hD hG ⊢
  have hA : ∀ q : Nat, s.heap.size ≤ q → A q := fun q h => by rw [← hAe]; exact Or.inr h
  have hS : va_S A s.heap s.heap [] := va_S.rf
  have hP : va_P D vwCl [(a0, .inr (11, [.ref a2, g1, g2, g3, .ref b0, g5, g6, g7, g8, g9, g10, g11, .ref a1, g13, g14, g15, g16])), (a1, .inl (K 0, 5, .inl f)), (a2, .inr (9, [r0, r1, r2, r3, r4, .int 0, r6, r7, r8, r9])), (b0, .inr (6, [.ref b1, .ref b2, k2, k3, k4])), (b1, .inr (8, [p0, .int 0, p2, p3, p4, p5])), (b2, .inr (7, [q0, q1, q2, q3]))] s.heap := hP
  have hl := lv_entry [.ref a0] (n := 1) (Nat.le_of_ble_eq_true rfl)
  rw [lg_entry_eq]
  generalize (lg_sl [.ref a0] ++ List.replicate (1 - (lg_sl [.ref a0]).length) Slot.unset).toArray = ls at hl ⊢
  have hl : lv_has ls 1 [(0, .ref a0)] := hl
  have hw6 : ∀ w ∈ wsX60, w ∈ wsX11_law := fun w h => (List.mem_cons_of_mem _ (List.mem_append_left _ (List.mem_append_right _ h)))
  have hw7 : ∀ w ∈ wsX70, w ∈ wsX11_law := fun w h => (List.mem_cons_of_mem _ (List.mem_append_right _ h))
  have hw8 : ∀ w ∈ wsX80, w ∈ wsX11_law := fun w h => (List.mem_cons_of_mem _ (List.mem_append_left _ (List.mem_append_left _ (List.mem_append_right _ h))))
  have hw9 : ∀ w ∈ wsX90, w ∈ wsX11_law := fun w h => (List.mem_cons_of_mem _ (List.mem_append_left _ (List.mem_append_left _ (List.mem_append_left _ (List.mem_append_right _ h)))))
  have hw11 : ∀ w ∈ wsX110, w ∈ wsX11_law := fun w h => (List.mem_cons_of_mem _ (List.mem_append_left _ (List.mem_append_left _ (List.mem_append_left _ (List.mem_append_left _ (List.mem_append_right _ h))))))
  refine lv_aload_n hx hb dX11_law_0 rfl (lv_at hl 0 rfl) ?_
  refine va_get (ci := 11) (v := .ref a2) (C := RX11) (T := TX11) (N := 17) hx hb hts hw11 hown hK hP 0 rfl rfl 0 (by decide) (hts (.fieldLink RX11 10 "SmokeTune" "town" "LSmokeTune$Town;") (List.mem_cons_of_mem _ (List.mem_append_left _ (List.mem_append_left _ (List.mem_append_left _ (List.mem_append_left _ (List.mem_append_left _ (List.mem_append_left _ (List.mem_of_getElem? (i := 0) rfl))))))))) (fun _ h9 => h9) rfl dX11_law_1 ?_
  refine va_getN (ci := 9) (v := .int 0) (C := RX9) (T := TX9) (N := 10) hx hb hts hw9 hown hK hP 2 rfl rfl 5 (by decide) (nst_use hN 110 rfl) (fun _ h9 => h9) rfl dX11_law_4 ?_
  refine lv_bipush (v := 6) hx hb dX11_law_7 (by decide) ?_
  refine lv_icmp_lt (tgt := 27) hx hb dX11_law_9 (by decide) (fun c_1 => ?_) (fun c_1 => absurd (by decide) c_1)
  refine lv_aload_n hx hb dX11_law_27 rfl (lv_at hl 0 rfl) ?_
  refine va_get (ci := 11) (v := .ref b0) (C := RX11) (T := TX11) (N := 17) hx hb hts hw11 hown hK hP 0 rfl rfl 4 (by decide) (hts (.fieldLink RX11 30 "SmokeTune" "reader" "LSmokeTune$Reader;") (List.mem_cons_of_mem _ (List.mem_append_left _ (List.mem_append_left _ (List.mem_append_left _ (List.mem_append_left _ (List.mem_append_left _ (List.mem_append_left _ (List.mem_of_getElem? (i := 2) rfl))))))))) (fun _ h9 => h9) rfl dX11_law_28 ?_
  refine lv_iconst (v := 1) hx hb dX11_law_31 (by decide) ?_
  refine kci (wr := [(a0, .inr (11, [.ref a2, g1, g2, g3, .ref b0, g5, g6, g7, g8, g9, g10, g11, .ref a1, g13, g14, g15, g16])), (a1, .inl (K 0, 5, .inl f)), (a2, .inr (9, [r0, r1, r2, r3, r4, .int 0, r6, r7, r8, r9]))]) (va_runVN (As := [.int 1]) (rest := []) ⟨hx, hb, hml, hown, hts⟩ (c_reads_0 l D K b0 b1 b2 k2 k3 k4 p0 p2 p3 p4 p5 q0 q1 q2 q3 g s.heap.size) ⟨va_cnB 1 hts gX11_law_X6_reads_n176 rfl rfl rfl (nst_at hN 31 rfl) (hts (.initialized RX6) (List.mem_cons_of_mem _ (List.mem_append_left _ (List.mem_append_left _ (List.mem_append_left _ (List.mem_append_left _ (List.mem_append_left _ (List.mem_append_left _ (List.mem_of_getElem? (i := 14) rfl))))))))) (by decide +kernel) ⟨Nat.le_of_ble_eq_true rfl, Nat.le_of_ble_eq_true rfl⟩, (hts (.instanceMethod yX6_reads) (List.mem_cons_of_mem _ (List.mem_append_left _ (List.mem_append_left _ (List.mem_append_left _ (List.mem_append_left _ (List.mem_append_left _ (List.mem_append_left _ (List.mem_of_getElem? (i := 13) rfl))))))))), (hts (.selects RX6 yX6_reads yX6_reads) (List.mem_cons_of_mem _ (List.mem_append_left _ (List.mem_append_left _ (List.mem_append_left _ (List.mem_append_left _ (List.mem_append_left _ (List.mem_append_left _ (List.mem_of_getElem? (i := 15) rfl)))))))))⟩ (mkVX hK hN (hP.sub [3, 4, 5] rfl) (hD.sub [3, 4, 5] (by decide) rfl) (ci := 6) (q0 := 0) rfl rfl (fun U hU hW => Gl.at hG hS hW hU (fun q h => va_free hD hS hA [3, 4, 5] rfl q h))) rfl rfl hl.1 rfl (lv_room (Nat.le_of_ble_eq_true rfl)) dX11_law_32 ⟨Nat.le_of_ble_eq_true rfl, Nat.le_of_ble_eq_true rfl⟩) hP hD hS hA [3, 4, 5] [0, 1, 2] rfl rfl (by decide) (by decide) (fun r_2 u_3 H locs hw hP hD hS => ?_)
  have hP : va_P D vwCl [(a0, .inr (11, [.ref a2, g1, g2, g3, .ref b0, g5, g6, g7, g8, g9, g10, g11, .ref a1, g13, g14, g15, g16])), (a1, .inl (K 0, 5, .inl f)), (a2, .inr (9, [r0, r1, r2, r3, r4, .int 0, r6, r7, r8, r9]))] H := hP
  have hD : va_D A [(a0, .inr (11, [.ref a2, g1, g2, g3, .ref b0, g5, g6, g7, g8, g9, g10, g11, .ref a1, g13, g14, g15, g16])), (a1, .inl (K 0, 5, .inl f)), (a2, .inr (9, [r0, r1, r2, r3, r4, .int 0, r6, r7, r8, r9]))] := hD
  obtain rfl : r_2 = 0 := hw
  refine lv_if_ne (tgt := 45) hx hb dX11_law_35 (by decide) (fun c_4 => absurd (by decide) c_4) (fun c_4 => ?_)
  refine lv_aload_n hx hb dX11_law_38 rfl (lv_at hl 0 rfl) ?_
  refine lv_bipush (v := (-6)) hx hb dX11_law_39 (by decide) ?_
  refine kci (wr := [(a2, .inr (9, [r0, r1, r2, r3, r4, .int 0, r6, r7, r8, r9]))]) (va_runV (As := [.int (-6)]) (rest := []) ⟨hx, hb, hml, hown, hts⟩ (c_refuse_6 l D K a0 (.ref a2) g1 g2 g3 (.ref b0) g5 g6 g7 g8 g9 g10 g11 a1 g13 g14 g15 g16 f H.size) (cwV 1 hts gX11_law_X11_refuse rfl rfl rfl (by decide +kernel) ⟨Nat.le_of_ble_eq_true rfl, Nat.le_of_ble_eq_true rfl⟩) (mkV hK hN (hP.sub [0, 1] rfl) (hD.sub [0, 1] (by decide) rfl) (ci := 11) (q0 := 0) rfl rfl) rfl rfl hl.1 rfl (lv_room (Nat.le_of_ble_eq_true rfl)) dX11_law_41 ⟨Nat.le_of_ble_eq_true rfl, Nat.le_of_ble_eq_true rfl⟩) hP hD hS hA [0, 1] [2] rfl rfl (by decide) (by decide) (fun r_5 u_6 H locs hw hP hD hS => ?_)
  have hP : va_P D vwCl [(a2, .inr (9, [r0, r1, r2, r3, r4, .int 0, r6, r7, r8, r9]))] H := hP
  have hD : va_D A [(a2, .inr (9, [r0, r1, r2, r3, r4, .int 0, r6, r7, r8, r9]))] := hD
  obtain rfl : r_5 = (-6) := hw
  exact W.iret (v := (-6)) hx hb hr (fun t ht hW => ⟨⟨(-6), (), rfl, (by first | exact rfl), Wd.nil⟩, hS.F ht⟩) hS.2.2 dX11_law_44
set_option maxHeartbeats 4000000 in
set_option maxRecDepth 100000 in
theorem t_orders (l : Launch) (D : va_G) (K : Nat → ClassId) (a0 : Nat) (g0 : Value) (g1 : Value) (g2 : Value) (g3 : Value) (b0 : Nat) (g5 : Value) (a2 : Nat) (g7 : Value) (g8 : Value) (g9 : Value) (g10 : Value) (g11 : Value) (a1 : Nat) (g13 : Value) (g14 : Value) (g15 : Value) (g16 : Value) (f : Nat → Int32) (r0 : Value) (r1 : Value) (r2 : Value) (r3 : Value) (r4 : Value) (r5 : Value) (r6 : Value) (r7 : Value) (b1 : Nat) (b2 : Nat) (k2 : Value) (k3 : Value) (k4 : Value) (p0 : Value) (p2 : Value) (p3 : Value) (p4 : Value) (p5 : Value) (q0 : Value) (q1 : Value) (q2 : Value) (q3 : Value) (g : Nat → Nat) (sz : Nat) : Met l yX11_orders wsX11_orders ({ frames := 7, cells := 0, slots := 0, locals := 157 }) (va_Pc [.ref a0] (PreX D K [(a0, .inr (11, [g0, g1, g2, g3, .ref b0, g5, .ref a2, g7, g8, g9, g10, g11, .ref a1, g13, g14, g15, g16])), (a1, .inl (K 0, 5, .inl f)), (a2, .inr (1, [r0, r1, r2, r3, r4, r5, r6, r7])), (b0, .inr (6, [.ref b1, .ref b2, k2, k3, k4])), (b1, .inr (8, [p0, .int 0, p2, p3, p4, p5])), (b2, .inr (7, [q0, q1, q2, q3]))] sz g (va_A [(a0, .inr (11, [g0, g1, g2, g3, .ref b0, g5, .ref a2, g7, g8, g9, g10, g11, .ref a1, g13, g14, g15, g16])), (a1, .inl (K 0, 5, .inl f)), (a2, .inr (1, [r0, r1, r2, r3, r4, r5, r6, r7])), (b0, .inr (6, [.ref b1, .ref b2, k2, k3, k4])), (b1, .inr (8, [p0, .int 0, p2, p3, p4, p5])), (b2, .inr (7, [q0, q1, q2, q3]))] sz))) (va_Qi (S := Unit) (fun (r : Int32) (_ : Unit) => (r = (-6))) (fun u t => Wd D (va_A [(a0, .inr (11, [g0, g1, g2, g3, .ref b0, g5, .ref a2, g7, g8, g9, g10, g11, .ref a1, g13, g14, g15, g16])), (a1, .inl (K 0, 5, .inl f)), (a2, .inr (1, [r0, r1, r2, r3, r4, r5, r6, r7])), (b0, .inr (6, [.ref b1, .ref b2, k2, k3, k4])), (b1, .inr (8, [p0, .int 0, p2, p3, p4, p5])), (b2, .inr (7, [q0, q1, q2, q3]))] sz) ((fun _ => []) u) t) (va_A [(a0, .inr (11, [g0, g1, g2, g3, .ref b0, g5, .ref a2, g7, g8, g9, g10, g11, .ref a1, g13, g14, g15, g16])), (a1, .inl (K 0, 5, .inl f)), (a2, .inr (1, [r0, r1, r2, r3, r4, r5, r6, r7])), (b0, .inr (6, [.ref b1, .ref b2, k2, k3, k4])), (b1, .inr (8, [p0, .int 0, p2, p3, p4, p5])), (b2, .inr (7, [q0, q1, q2, q3]))] sz)) 0 0 (va_A [(a0, .inr (11, [g0, g1, g2, g3, .ref b0, g5, .ref a2, g7, g8, g9, g10, g11, .ref a1, g13, g14, g15, g16])), (a1, .inl (K 0, 5, .inl f)), (a2, .inr (1, [r0, r1, r2, r3, r4, r5, r6, r7])), (b0, .inr (6, [.ref b1, .ref b2, k2, k3, k4])), (b1, .inr (8, [p0, .int 0, p2, p3, p4, p5])), (b2, .inr (7, [q0, q1, q2, q3]))] sz) := by
  refine Met.ofW (cc := cX11_orders) (maxL := 2) (ret := (some .int)) (by decide) rfl ?_
  intro p e s m args below meth c s₁ B hml hv
  obtain ⟨rfl, ⟨hsz, hP, hK, hD0, hN⟩, hG⟩ := hv
  have hx := B.exec
  have hb := B.bytes
  have hr := B.returns
  have hts := atoms_spec (ws := wsX11_orders) B.pre
  have hown : s.vm.findClass RX11 = some m.cls := findClass_of_methodNamed B.named
  have hlocks := B.notSynchronized
  subst hsz
  have hD := hD0.self (sz := s.heap.size)
  generalize hAe : va_A [(a0, .inr (11, [g0, g1, g2, g3, .ref b0, g5, .ref a2, g7, g8, g9, g10, g11, .ref a1, g13, g14, g15, g16])), (a1, .inl (K 0, 5, .inl f)), (a2, .inr (1, [r0, r1, r2, r3, r4, r5, r6, r7])), (b0, .inr (6, [.ref b1, .ref b2, k2, k3, k4])), (b1, .inr (8, [p0, .int 0, p2, p3, p4, p5])), (b2, .inr (7, [q0, q1, q2, q3]))] s.heap.size = A at hD hG ⊢
  have hA : ∀ q : Nat, s.heap.size ≤ q → A q := fun q h => by rw [← hAe]; exact Or.inr h
  have hS : va_S A s.heap s.heap [] := va_S.rf
  have hP : va_P D vwCl [(a0, .inr (11, [g0, g1, g2, g3, .ref b0, g5, .ref a2, g7, g8, g9, g10, g11, .ref a1, g13, g14, g15, g16])), (a1, .inl (K 0, 5, .inl f)), (a2, .inr (1, [r0, r1, r2, r3, r4, r5, r6, r7])), (b0, .inr (6, [.ref b1, .ref b2, k2, k3, k4])), (b1, .inr (8, [p0, .int 0, p2, p3, p4, p5])), (b2, .inr (7, [q0, q1, q2, q3]))] s.heap := hP
  have hl := lv_entry [.ref a0] (n := 2) (Nat.le_of_ble_eq_true rfl)
  rw [lg_entry_eq]
  generalize (lg_sl [.ref a0] ++ List.replicate (2 - (lg_sl [.ref a0]).length) Slot.unset).toArray = ls at hl ⊢
  have hl : lv_has ls 2 [(0, .ref a0)] := hl
  have hw0 : ∀ w ∈ wsX00, w ∈ wsX11_orders := fun w h => (List.mem_cons_of_mem _ (List.mem_append_right _ h))
  have hw1 : ∀ w ∈ wsX10, w ∈ wsX11_orders := fun w h => (List.mem_cons_of_mem _ (List.mem_append_left _ (List.mem_append_left _ (List.mem_append_left _ (List.mem_append_left _ (List.mem_append_left _ (List.mem_append_left _ (List.mem_append_left _ (List.mem_append_left _ (List.mem_append_right _ h))))))))))
  have hw2 : ∀ w ∈ wsX20, w ∈ wsX11_orders := fun w h => (List.mem_cons_of_mem _ (List.mem_append_left _ (List.mem_append_left _ (List.mem_append_left _ (List.mem_append_right _ h)))))
  have hw3 : ∀ w ∈ wsX30, w ∈ wsX11_orders := fun w h => (List.mem_cons_of_mem _ (List.mem_append_left _ (List.mem_append_left _ (List.mem_append_right _ h))))
  have hw6 : ∀ w ∈ wsX60, w ∈ wsX11_orders := fun w h => (List.mem_cons_of_mem _ (List.mem_append_left _ (List.mem_append_left _ (List.mem_append_left _ (List.mem_append_left _ (List.mem_append_left _ (List.mem_append_left _ (List.mem_append_left _ (List.mem_append_right _ h)))))))))
  have hw7 : ∀ w ∈ wsX70, w ∈ wsX11_orders := fun w h => (List.mem_cons_of_mem _ (List.mem_append_left _ (List.mem_append_left _ (List.mem_append_left _ (List.mem_append_left _ (List.mem_append_left _ (List.mem_append_left _ (List.mem_append_right _ h))))))))
  have hw8 : ∀ w ∈ wsX80, w ∈ wsX11_orders := fun w h => (List.mem_cons_of_mem _ (List.mem_append_left _ (List.mem_append_left _ (List.mem_append_left _ (List.mem_append_left _ (List.mem_append_left _ (List.mem_append_right _ h)))))))
  have hw9 : ∀ w ∈ wsX90, w ∈ wsX11_orders := fun w h => (List.mem_cons_of_mem _ (List.mem_append_left _ (List.mem_append_left _ (List.mem_append_left _ (List.mem_append_left _ (List.mem_append_right _ h))))))
  have hw10 : ∀ w ∈ wsX100, w ∈ wsX11_orders := fun w h => (List.mem_cons_of_mem _ (List.mem_append_left _ (List.mem_append_right _ h)))
  have hw11 : ∀ w ∈ wsX110, w ∈ wsX11_orders := fun w h => (List.mem_cons_of_mem _ (List.mem_append_left _ (List.mem_append_left _ (List.mem_append_left _ (List.mem_append_left _ (List.mem_append_left _ (List.mem_append_left _ (List.mem_append_left _ (List.mem_append_left _ (List.mem_append_left _ (List.mem_append_right _ h)))))))))))
  refine lv_aload_n hx hb dX11_orders_0 rfl (lv_at hl 0 rfl) ?_
  refine va_get (ci := 11) (v := .ref a2) (C := RX11) (T := TX11) (N := 17) hx hb hts hw11 hown hK hP 0 rfl rfl 6 (by decide) (hts (.fieldLink RX11 42 "SmokeTune" "crew" "LSmokeTune$Crew;") (List.mem_cons_of_mem _ (List.mem_append_left _ (List.mem_append_left _ (List.mem_append_left _ (List.mem_append_left _ (List.mem_append_left _ (List.mem_append_left _ (List.mem_append_left _ (List.mem_append_left _ (List.mem_append_left _ (List.mem_append_left _ (List.mem_append_left _ (List.mem_of_getElem? (i := 0) rfl)))))))))))))) (fun _ h9 => h9) rfl dX11_orders_1 ?_
  refine lv_iconst (v := (-1)) hx hb dX11_orders_4 (by decide) ?_
  refine va_putN (ci := 1) (v := .int (-1)) (ty := .int) (C := RX1) (T := TX1) (N := 8) hx hb hts hw1 tyX1 tyX1_ok nmX1 hown hK hP hD hS 2 rfl rfl 7 (by decide) (nst_use hN 139 rfl) (fun _ h9 => h9) rfl (by decide +kernel) (by first | rfl | decide) (by first | rfl | decide) (Nat.le_of_ble_eq_true rfl) dX11_orders_5 (fun H locs hP hD hS => ?_)
  have hP : va_P D vwCl [(a0, .inr (11, [g0, g1, g2, g3, .ref b0, g5, .ref a2, g7, g8, g9, g10, g11, .ref a1, g13, g14, g15, g16])), (a1, .inl (K 0, 5, .inl f)), (a2, .inr (1, [r0, r1, r2, r3, r4, r5, r6, .int (-1)])), (b0, .inr (6, [.ref b1, .ref b2, k2, k3, k4])), (b1, .inr (8, [p0, .int 0, p2, p3, p4, p5])), (b2, .inr (7, [q0, q1, q2, q3]))] H := hP
  have hD : va_D A [(a0, .inr (11, [g0, g1, g2, g3, .ref b0, g5, .ref a2, g7, g8, g9, g10, g11, .ref a1, g13, g14, g15, g16])), (a1, .inl (K 0, 5, .inl f)), (a2, .inr (1, [r0, r1, r2, r3, r4, r5, r6, .int (-1)])), (b0, .inr (6, [.ref b1, .ref b2, k2, k3, k4])), (b1, .inr (8, [p0, .int 0, p2, p3, p4, p5])), (b2, .inr (7, [q0, q1, q2, q3]))] := hD
  refine lv_aload_n hx hb dX11_orders_8 rfl (lv_at hl 0 rfl) ?_
  refine va_get (ci := 11) (v := .ref b0) (C := RX11) (T := TX11) (N := 17) hx hb hts hw11 hown hK hP 0 rfl rfl 4 (by decide) (hts (.fieldLink RX11 30 "SmokeTune" "reader" "LSmokeTune$Reader;") (List.mem_cons_of_mem _ (List.mem_append_left _ (List.mem_append_left _ (List.mem_append_left _ (List.mem_append_left _ (List.mem_append_left _ (List.mem_append_left _ (List.mem_append_left _ (List.mem_append_left _ (List.mem_append_left _ (List.mem_append_left _ (List.mem_append_left _ (List.mem_of_getElem? (i := 1) rfl)))))))))))))) (fun _ h9 => h9) rfl dX11_orders_9 ?_
  refine lv_iconst (v := 0) hx hb dX11_orders_12 (by decide) ?_
  refine kci (wr := [(a0, .inr (11, [g0, g1, g2, g3, .ref b0, g5, .ref a2, g7, g8, g9, g10, g11, .ref a1, g13, g14, g15, g16])), (a1, .inl (K 0, 5, .inl f)), (a2, .inr (1, [r0, r1, r2, r3, r4, r5, r6, .int (-1)]))]) (va_runVN (As := [.int 0]) (rest := []) ⟨hx, hb, hml, hown, hts⟩ (c_reads_1 l D K b0 b1 b2 k2 k3 k4 p0 p2 p3 p4 p5 q0 q1 q2 q3 g H.size) ⟨va_cnB 1 hts gX11_orders_X6_reads_n176 rfl rfl rfl (nst_at hN 31 rfl) (hts (.initialized RX6) (List.mem_cons_of_mem _ (List.mem_append_left _ (List.mem_append_left _ (List.mem_append_left _ (List.mem_append_left _ (List.mem_append_left _ (List.mem_append_left _ (List.mem_append_left _ (List.mem_append_left _ (List.mem_append_left _ (List.mem_append_left _ (List.mem_append_left _ (List.mem_of_getElem? (i := 5) rfl)))))))))))))) (by decide +kernel) ⟨Nat.le_of_ble_eq_true rfl, Nat.le_of_ble_eq_true rfl⟩, (hts (.instanceMethod yX6_reads) (List.mem_cons_of_mem _ (List.mem_append_left _ (List.mem_append_left _ (List.mem_append_left _ (List.mem_append_left _ (List.mem_append_left _ (List.mem_append_left _ (List.mem_append_left _ (List.mem_append_left _ (List.mem_append_left _ (List.mem_append_left _ (List.mem_append_left _ (List.mem_of_getElem? (i := 4) rfl)))))))))))))), (hts (.selects RX6 yX6_reads yX6_reads) (List.mem_cons_of_mem _ (List.mem_append_left _ (List.mem_append_left _ (List.mem_append_left _ (List.mem_append_left _ (List.mem_append_left _ (List.mem_append_left _ (List.mem_append_left _ (List.mem_append_left _ (List.mem_append_left _ (List.mem_append_left _ (List.mem_append_left _ (List.mem_of_getElem? (i := 6) rfl))))))))))))))⟩ (mkVX hK hN (hP.sub [3, 4, 5] rfl) (hD.sub [3, 4, 5] (by decide) rfl) (ci := 6) (q0 := 0) rfl rfl (fun U hU hW => Gl.at hG hS hW hU (fun q h => va_free hD hS hA [3, 4, 5] rfl q h))) rfl rfl hl.1 rfl (lv_room (Nat.le_of_ble_eq_true rfl)) dX11_orders_13 ⟨Nat.le_of_ble_eq_true rfl, Nat.le_of_ble_eq_true rfl⟩) hP hD hS hA [3, 4, 5] [0, 1, 2] rfl rfl (by decide) (by decide) (fun r_1 u_2 H locs hw hP hD hS => ?_)
  have hP : va_P D vwCl [(a0, .inr (11, [g0, g1, g2, g3, .ref b0, g5, .ref a2, g7, g8, g9, g10, g11, .ref a1, g13, g14, g15, g16])), (a1, .inl (K 0, 5, .inl f)), (a2, .inr (1, [r0, r1, r2, r3, r4, r5, r6, .int (-1)]))] H := hP
  have hD : va_D A [(a0, .inr (11, [g0, g1, g2, g3, .ref b0, g5, .ref a2, g7, g8, g9, g10, g11, .ref a1, g13, g14, g15, g16])), (a1, .inl (K 0, 5, .inl f)), (a2, .inr (1, [r0, r1, r2, r3, r4, r5, r6, .int (-1)]))] := hD
  obtain rfl : r_1 = 0 := hw
  refine lv_if_ne (tgt := 26) hx hb dX11_orders_16 (by decide) (fun c_3 => absurd (by decide) c_3) (fun c_3 => ?_)
  refine lv_aload_n hx hb dX11_orders_19 rfl (lv_at hl 0 rfl) ?_
  refine lv_bipush (v := (-6)) hx hb dX11_orders_20 (by decide) ?_
  refine kci (wr := [(a2, .inr (1, [r0, r1, r2, r3, r4, r5, r6, .int (-1)]))]) (va_runV (As := [.int (-6)]) (rest := []) ⟨hx, hb, hml, hown, hts⟩ (c_refuse_6 l D K a0 g0 g1 g2 g3 (.ref b0) g5 (.ref a2) g7 g8 g9 g10 g11 a1 g13 g14 g15 g16 f H.size) (cwV 1 hts gX11_orders_X11_refuse rfl rfl rfl (by decide +kernel) ⟨Nat.le_of_ble_eq_true rfl, Nat.le_of_ble_eq_true rfl⟩) (mkV hK hN (hP.sub [0, 1] rfl) (hD.sub [0, 1] (by decide) rfl) (ci := 11) (q0 := 0) rfl rfl) rfl rfl hl.1 rfl (lv_room (Nat.le_of_ble_eq_true rfl)) dX11_orders_22 ⟨Nat.le_of_ble_eq_true rfl, Nat.le_of_ble_eq_true rfl⟩) hP hD hS hA [0, 1] [2] rfl rfl (by decide) (by decide) (fun r_4 u_5 H locs hw hP hD hS => ?_)
  have hP : va_P D vwCl [(a2, .inr (1, [r0, r1, r2, r3, r4, r5, r6, .int (-1)]))] H := hP
  have hD : va_D A [(a2, .inr (1, [r0, r1, r2, r3, r4, r5, r6, .int (-1)]))] := hD
  obtain rfl : r_4 = (-6) := hw
  exact W.iret (v := (-6)) hx hb hr (fun t ht hW => ⟨⟨(-6), (), rfl, (by first | exact rfl), Wd.nil⟩, hS.F ht⟩) hS.2.2 dX11_orders_25
