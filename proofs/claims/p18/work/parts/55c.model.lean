theorem dX12_compare_0 : decode cX12_compare 0 = .ok (.aload_n 0, 1) := by decide +kernel
theorem dX12_compare_1 : decode cX12_compare 1 = .ok (.iconst 0, 1) := by decide +kernel
theorem dX12_compare_2 : decode cX12_compare 2 = .ok (.putfield 158, 3) := by decide +kernel
theorem dX12_compare_5 : decode cX12_compare 5 = .ok (.aload_n 0, 1) := by decide +kernel
theorem dX12_compare_6 : decode cX12_compare 6 = .ok (.iload_n 1, 1) := by decide +kernel
theorem dX12_compare_7 : decode cX12_compare 7 = .ok (.invokevirtual 383, 3) := by decide +kernel
theorem dX12_compare_10 : decode cX12_compare 10 = .ok (.ifCond .eq 15, 3) := by decide +kernel
theorem dX12_compare_13 : decode cX12_compare 13 = .ok (.iload_n 2, 1) := by decide +kernel
theorem dX12_compare_14 : decode cX12_compare 14 = .ok (.i2l, 1) := by decide +kernel
theorem dX12_compare_15 : decode cX12_compare 15 = .ok (.lconst 1, 1) := by decide +kernel
theorem dX12_compare_16 : decode cX12_compare 16 = .ok (.ldc2_w 520, 3) := by decide +kernel
theorem dX12_compare_19 : decode cX12_compare 19 = .ok (.invokestatic 178, 3) := by decide +kernel
theorem dX12_compare_22 : decode cX12_compare 22 = .ok (.ifCond .ne 5, 3) := by decide +kernel
theorem dX12_compare_27 : decode cX12_compare 27 = .ok (.aload_n 0, 1) := by decide +kernel
theorem dX12_compare_28 : decode cX12_compare 28 = .ok (.bipush 16, 2) := by decide +kernel
theorem dX12_compare_30 : decode cX12_compare 30 = .ok (.invokevirtual 167, 3) := by decide +kernel
theorem dX12_compare_33 : decode cX12_compare 33 = .ok (.iconst 0, 1) := by decide +kernel
theorem dX12_compare_34 : decode cX12_compare 34 = .ok (.istore_n 3, 1) := by decide +kernel
theorem dX12_compare_35 : decode cX12_compare 35 = .ok (.iconst 0, 1) := by decide +kernel
theorem dX12_compare_36 : decode cX12_compare 36 = .ok (.istore 4, 2) := by decide +kernel
theorem dX12_compare_38 : decode cX12_compare 38 = .ok (.iload 4, 2) := by decide +kernel
theorem dX12_compare_40 : decode cX12_compare 40 = .ok (.iload_n 2, 1) := by decide +kernel
theorem dX12_compare_41 : decode cX12_compare 41 = .ok (.if_icmp .ge 96, 3) := by decide +kernel
theorem dX12_compare_44 : decode cX12_compare 44 = .ok (.iconst 0, 1) := by decide +kernel
theorem dX12_compare_45 : decode cX12_compare 45 = .ok (.istore 5, 2) := by decide +kernel
theorem dX12_compare_47 : decode cX12_compare 47 = .ok (.iload 5, 2) := by decide +kernel
theorem dX12_compare_49 : decode cX12_compare 49 = .ok (.aload_n 0, 1) := by decide +kernel
theorem dX12_compare_50 : decode cX12_compare 50 = .ok (.getfield 13, 3) := by decide +kernel
theorem dX12_compare_53 : decode cX12_compare 53 = .ok (.iconst 0, 1) := by decide +kernel
theorem dX12_compare_54 : decode cX12_compare 54 = .ok (.iaload, 1) := by decide +kernel
theorem dX12_compare_55 : decode cX12_compare 55 = .ok (.if_icmp .ge 72, 3) := by decide +kernel
theorem dX12_compare_58 : decode cX12_compare 58 = .ok (.aload_n 0, 1) := by decide +kernel
theorem dX12_compare_59 : decode cX12_compare 59 = .ok (.getfield 13, 3) := by decide +kernel
theorem dX12_compare_62 : decode cX12_compare 62 = .ok (.bipush 11, 2) := by decide +kernel
theorem dX12_compare_64 : decode cX12_compare 64 = .ok (.iload 5, 2) := by decide +kernel
theorem dX12_compare_66 : decode cX12_compare 66 = .ok (.iadd, 1) := by decide +kernel
theorem dX12_compare_67 : decode cX12_compare 67 = .ok (.iaload, 1) := by decide +kernel
theorem dX12_compare_68 : decode cX12_compare 68 = .ok (.aload_n 0, 1) := by decide +kernel
theorem dX12_compare_69 : decode cX12_compare 69 = .ok (.iconst 2, 1) := by decide +kernel
theorem dX12_compare_70 : decode cX12_compare 70 = .ok (.invokevirtual 182, 3) := by decide +kernel
theorem dX12_compare_73 : decode cX12_compare 73 = .ok (.if_icmp .ge 13, 3) := by decide +kernel
theorem dX12_compare_76 : decode cX12_compare 76 = .ok (.aload_n 0, 1) := by decide +kernel
theorem dX12_compare_77 : decode cX12_compare 77 = .ok (.iload_n 1, 1) := by decide +kernel
theorem dX12_compare_78 : decode cX12_compare 78 = .ok (.iload 5, 2) := by decide +kernel
theorem dX12_compare_80 : decode cX12_compare 80 = .ok (.invokevirtual 442, 3) := by decide +kernel
theorem dX12_compare_83 : decode cX12_compare 83 = .ok (.iinc 3 1, 3) := by decide +kernel
theorem dX12_compare_86 : decode cX12_compare 86 = .ok (.aload_n 0, 1) := by decide +kernel
theorem dX12_compare_87 : decode cX12_compare 87 = .ok (.getfield 13, 3) := by decide +kernel
theorem dX12_compare_90 : decode cX12_compare 90 = .ok (.bipush 11, 2) := by decide +kernel
theorem dX12_compare_92 : decode cX12_compare 92 = .ok (.iload 5, 2) := by decide +kernel
theorem dX12_compare_94 : decode cX12_compare 94 = .ok (.iadd, 1) := by decide +kernel
theorem dX12_compare_95 : decode cX12_compare 95 = .ok (.aload_n 0, 1) := by decide +kernel
theorem dX12_compare_96 : decode cX12_compare 96 = .ok (.getfield 13, 3) := by decide +kernel
theorem dX12_compare_99 : decode cX12_compare 99 = .ok (.bipush 11, 2) := by decide +kernel
theorem dX12_compare_101 : decode cX12_compare 101 = .ok (.iload 5, 2) := by decide +kernel
theorem dX12_compare_103 : decode cX12_compare 103 = .ok (.iadd, 1) := by decide +kernel
theorem dX12_compare_104 : decode cX12_compare 104 = .ok (.iaload, 1) := by decide +kernel
theorem dX12_compare_105 : decode cX12_compare 105 = .ok (.aload_n 0, 1) := by decide +kernel
theorem dX12_compare_106 : decode cX12_compare 106 = .ok (.iload_n 1, 1) := by decide +kernel
theorem dX12_compare_107 : decode cX12_compare 107 = .ok (.iload 5, 2) := by decide +kernel
theorem dX12_compare_109 : decode cX12_compare 109 = .ok (.invokevirtual 200, 3) := by decide +kernel
theorem dX12_compare_112 : decode cX12_compare 112 = .ok (.isub, 1) := by decide +kernel
theorem dX12_compare_113 : decode cX12_compare 113 = .ok (.i2l, 1) := by decide +kernel
theorem dX12_compare_114 : decode cX12_compare 114 = .ok (.iconst 0, 1) := by decide +kernel
theorem dX12_compare_115 : decode cX12_compare 115 = .ok (.bipush 20, 2) := by decide +kernel
theorem dX12_compare_117 : decode cX12_compare 117 = .ok (.invokestatic 419, 3) := by decide +kernel
theorem dX12_compare_120 : decode cX12_compare 120 = .ok (.iastore, 1) := by decide +kernel
theorem dX12_compare_121 : decode cX12_compare 121 = .ok (.iinc 5 1, 3) := by decide +kernel
theorem dX12_compare_124 : decode cX12_compare 124 = .ok (.goto (-77), 3) := by decide +kernel
theorem dX12_compare_127 : decode cX12_compare 127 = .ok (.aload_n 0, 1) := by decide +kernel
theorem dX12_compare_128 : decode cX12_compare 128 = .ok (.invokevirtual 464, 3) := by decide +kernel
theorem dX12_compare_131 : decode cX12_compare 131 = .ok (.iinc 4 1, 3) := by decide +kernel
theorem dX12_compare_134 : decode cX12_compare 134 = .ok (.goto (-96), 3) := by decide +kernel
theorem dX12_compare_137 : decode cX12_compare 137 = .ok (.aload_n 0, 1) := by decide +kernel
theorem dX12_compare_138 : decode cX12_compare 138 = .ok (.bipush 16, 2) := by decide +kernel
theorem dX12_compare_140 : decode cX12_compare 140 = .ok (.invokevirtual 175, 3) := by decide +kernel
theorem dX12_compare_143 : decode cX12_compare 143 = .ok (.iload_n 3, 1) := by decide +kernel
theorem dX12_compare_144 : decode cX12_compare 144 = .ok (.ireturn, 1) := by decide +kernel
theorem dX12_compare_25 : decode cX12_compare 25 = .ok (.iconst (-1), 1) := by decide +kernel
theorem dX12_compare_26 : decode cX12_compare 26 = .ok (.ireturn, 1) := by decide +kernel
theorem dX12_draw_0 : decode cX12_draw 0 = .ok (.aload_n 0, 1) := by decide +kernel
theorem dX12_draw_1 : decode cX12_draw 1 = .ok (.aload_n 0, 1) := by decide +kernel
theorem dX12_draw_2 : decode cX12_draw 2 = .ok (.getfield 553, 3) := by decide +kernel
theorem dX12_draw_5 : decode cX12_draw 5 = .ok (.ldc2_w 556, 3) := by decide +kernel
theorem dX12_draw_8 : decode cX12_draw 8 = .ok (.lmul, 1) := by decide +kernel
theorem dX12_draw_9 : decode cX12_draw 9 = .ok (.ldc2_w 558, 3) := by decide +kernel
theorem dX12_draw_12 : decode cX12_draw 12 = .ok (.ladd, 1) := by decide +kernel
theorem dX12_draw_13 : decode cX12_draw 13 = .ok (.ldc2_w 560, 3) := by decide +kernel
theorem dX12_draw_16 : decode cX12_draw 16 = .ok (.lrem, 1) := by decide +kernel
theorem dX12_draw_17 : decode cX12_draw 17 = .ok (.putfield 553, 3) := by decide +kernel
theorem dX12_draw_20 : decode cX12_draw 20 = .ok (.aload_n 0, 1) := by decide +kernel
theorem dX12_draw_21 : decode cX12_draw 21 = .ok (.getfield 553, 3) := by decide +kernel
theorem dX12_draw_24 : decode cX12_draw 24 = .ok (.iload_n 1, 1) := by decide +kernel
theorem dX12_draw_25 : decode cX12_draw 25 = .ok (.i2l, 1) := by decide +kernel
theorem dX12_draw_26 : decode cX12_draw 26 = .ok (.lrem, 1) := by decide +kernel
theorem dX12_draw_27 : decode cX12_draw 27 = .ok (.l2i, 1) := by decide +kernel
theorem dX12_draw_28 : decode cX12_draw 28 = .ok (.ireturn, 1) := by decide +kernel
set_option maxRecDepth 100000 in
set_option maxHeartbeats 4000000 in
theorem ggX12_compare_X12_isLaw : GoodIn wsX12_compare wsX12_isLaw := goodIn_q _ [8, 11] [3, 9, 10, 7, 86, 87, 88, 89, 90, 91, 92, 93, 94, 95, 96, 97, 98, 99, 100, 101, 102, 103, 104, 105, 106, 107, 108, 109, 110, 111, 112, 113, 114, 115, 116, 117, 118, 119, 120, 121, 122, 123, 124, 125, 126, 127, 128, 129, 130, 131, 132, 133, 134, 135, 136, 137, 138, 139, 140, 141, 142, 143, 144, 145] rfl (by decide +kernel) (by decide +kernel)
set_option maxRecDepth 20000 in
theorem gX12_compare_X12_isLaw : GoodIn wsX12_compare (wsV RX12 383 RX12 yX12_isLaw wsX12_isLaw) := goodIn_app (goodIn_of _ (by decide +kernel)) ggX12_compare_X12_isLaw
theorem ggX12_compare_X12_in : GoodIn wsX12_compare wsX12_in := goodIn_q _ [11] [] rfl (by decide +kernel) (by decide +kernel)
set_option maxRecDepth 20000 in
theorem gX12_compare_X12_in : GoodIn wsX12_compare (va_wsS RX12 178 yX12_in wsX12_in) := goodIn_app (goodIn_of _ (by decide +kernel)) ggX12_compare_X12_in
set_option maxRecDepth 100000 in
set_option maxHeartbeats 4000000 in
theorem ggX12_compare_X12_keepAll : GoodIn wsX12_compare wsX12_keepAll := goodIn_q _ [15] [16, 3, 86, 87, 88, 89, 90, 91, 92, 93, 94, 95, 96, 97, 98, 99, 100, 101, 102, 103, 104, 105, 106, 107, 108, 109, 110, 111, 112, 113, 114, 115, 116, 117, 118, 119, 120, 121, 122, 123, 124, 125, 126, 127, 128, 129, 130, 131, 132, 133, 134, 135, 136, 137, 138, 139, 140, 141, 142, 143, 144, 145] rfl (by decide +kernel) (by decide +kernel)
set_option maxRecDepth 20000 in
theorem gX12_compare_X12_keepAll : GoodIn wsX12_compare (wsV RX12 167 RX12 yX12_keepAll wsX12_keepAll) := goodIn_app (goodIn_of _ (by decide +kernel)) ggX12_compare_X12_keepAll
set_option maxRecDepth 100000 in
set_option maxHeartbeats 4000000 in
theorem ggX12_compare_X12_putBack : GoodIn wsX12_compare wsX12_putBack := goodIn_q _ [85] [3, 16, 86, 87, 88, 89, 90, 91, 92, 93, 94, 95, 96, 97, 98, 99, 100, 101, 102, 103, 104, 105, 106, 107, 108, 109, 110, 111, 112, 113, 114, 115, 116, 117, 118, 119, 120, 121, 122, 123, 124, 125, 126, 127, 128, 129, 130, 131, 132, 133, 134, 135, 136, 137, 138, 139, 140, 141, 142, 143, 144, 145] rfl (by decide +kernel) (by decide +kernel)
set_option maxRecDepth 20000 in
theorem gX12_compare_X12_putBack : GoodIn wsX12_compare (wsV RX12 175 RX12 yX12_putBack wsX12_putBack) := goodIn_app (goodIn_of _ (by decide +kernel)) ggX12_compare_X12_putBack
set_option maxRecDepth 100000 in
set_option maxHeartbeats 4000000 in
theorem ggX12_compare_X12_goOn : GoodIn wsX12_compare wsX12_goOn := goodIn_q _ [81, 20] [3, 17, 18, 19, 7, 86, 87, 88, 89, 90, 91, 92, 93, 94, 95, 96, 97, 98, 99, 100, 101, 102, 103, 104, 105, 106, 107, 108, 109, 110, 111, 112, 113, 114, 115, 116, 117, 118, 119, 120, 121, 122, 123, 124, 125, 126, 127, 128, 129, 130, 131, 132, 133, 134, 135, 136, 137, 138, 139, 140, 141, 142, 143, 144, 145] rfl (by decide +kernel) (by decide +kernel)
set_option maxRecDepth 20000 in
theorem gX12_compare_X12_goOn : GoodIn wsX12_compare (wsV RX12 464 RX12 yX12_goOn wsX12_goOn) := goodIn_app (goodIn_of _ (by decide +kernel)) ggX12_compare_X12_goOn
set_option maxRecDepth 100000 in
set_option maxHeartbeats 4000000 in
theorem ggX12_compare_X12_term : GoodIn wsX12_compare wsX12_term := goodIn_q _ [20] [3, 86, 87, 88, 89, 90, 91, 92, 93, 94, 95, 96, 97, 98, 99, 100, 101, 102, 103, 104, 105, 106, 107, 108, 109, 110, 111, 112, 113, 114, 115, 116, 117, 118, 119, 120, 121, 122, 123, 124, 125, 126, 127, 128, 129, 130, 131, 132, 133, 134, 135, 136, 137, 138, 139, 140, 141, 142, 143, 144, 145] rfl (by decide +kernel) (by decide +kernel)
set_option maxRecDepth 20000 in
theorem gX12_compare_X12_term : GoodIn wsX12_compare (wsV RX12 182 RX12 yX12_term wsX12_term) := goodIn_app (goodIn_of _ (by decide +kernel)) ggX12_compare_X12_term
set_option maxRecDepth 100000 in
set_option maxHeartbeats 4000000 in
theorem ggX12_compare_X12_burnsOf : GoodIn wsX12_compare wsX12_burnsOf := goodIn_q _ [77, 33, 20, 40, 46, 58, 62, 11, 66, 70, 73] [30, 31, 32, 7, 34, 35, 3, 36, 17, 18, 19, 37, 38, 39, 41, 42, 43, 44, 45, 47, 48, 49, 50, 51, 52, 53, 54, 55, 56, 57, 59, 60, 61, 9, 10, 63, 64, 65, 67, 68, 69, 71, 72, 86, 87, 88, 89, 90, 91, 92, 93, 94, 95, 96, 97, 98, 99, 100, 101, 102, 103, 104, 105, 106, 107, 108, 109, 110, 111, 112, 113, 114, 115, 116, 117, 118, 119, 120, 121, 122, 123, 124, 125, 126, 127, 128, 129, 130, 131, 132, 133, 134, 135, 136, 137, 138, 139, 140, 141, 142, 143, 144, 145] rfl (by decide +kernel) (by decide +kernel)
set_option maxRecDepth 20000 in
theorem gX12_compare_X12_burnsOf : GoodIn wsX12_compare (wsV RX12 200 RX12 yX12_burnsOf wsX12_burnsOf) := goodIn_app (goodIn_of _ (by decide +kernel)) ggX12_compare_X12_burnsOf
theorem ggX12_compare_X12_within : GoodIn wsX12_compare wsX12_within := goodIn_q _ [73] [] rfl (by decide +kernel) (by decide +kernel)
set_option maxRecDepth 20000 in
theorem gX12_compare_X12_within : GoodIn wsX12_compare (va_wsS RX12 419 yX12_within wsX12_within) := goodIn_app (goodIn_of _ (by decide +kernel)) ggX12_compare_X12_within
set_option maxRecDepth 100000 in
set_option maxHeartbeats 4000000 in
theorem ggX12_compare_X12_flare : GoodIn wsX12_compare wsX12_flare := goodIn_q _ [24, 28, 33, 20, 40, 46, 58, 62, 11, 66, 70, 73] [3, 25, 26, 27, 7, 29, 30, 31, 32, 34, 35, 36, 17, 18, 19, 37, 38, 39, 41, 42, 43, 44, 45, 47, 48, 49, 50, 51, 52, 53, 54, 55, 56, 57, 59, 60, 61, 9, 10, 63, 64, 65, 67, 68, 69, 71, 72, 86, 87, 88, 89, 90, 91, 92, 93, 94, 95, 96, 97, 98, 99, 100, 101, 102, 103, 104, 105, 106, 107, 108, 109, 110, 111, 112, 113, 114, 115, 116, 117, 118, 119, 120, 121, 122, 123, 124, 125, 126, 127, 128, 129, 130, 131, 132, 133, 134, 135, 136, 137, 138, 139, 140, 141, 142, 143, 144, 145] rfl (by decide +kernel) (by decide +kernel)
set_option maxRecDepth 20000 in
theorem gX12_compare_X12_flare : GoodIn wsX12_compare (wsV RX12 442 RX12 yX12_flare wsX12_flare) := goodIn_app (goodIn_of _ (by decide +kernel)) ggX12_compare_X12_flare
set_option maxRecDepth 100000 in
noncomputable def E_v_compare_j25 (lw : Int32) (bro : Int32) (val : Int64) (sm : Int64) (fw : Nat → Int32) (fe : Nat → Int64) (frs : Nat → Int64) (fu : Nat → Int32) : Int32 × Int32 × Int32 × Int64 × Int64 × (Nat → Int32) × (Nat → Int64) × (Nat → Int64) × (Nat → Int32) :=
  (((-1), lw, bro, val, sm, fw, fe, frs, fu) : Int32 × Int32 × Int32 × Int64 × Int64 × (Nat → Int32) × (Nat → Int64) × (Nat → Int64) × (Nat → Int32))
set_option maxRecDepth 100000 in
noncomputable def E_v_compare_j86 (x : Int32) (v_20793 : Int32) (rec_20933 : Int32 → Int32 → Int32 → Int32 → Int64 → Int64 → (Nat → Int64) → (Nat → Int64) → (Nat → Int32) → (Int32 × Int32 × Int32 × Int64 × Int64 × (Nat → Int32) × (Nat → Int64) × (Nat → Int64) × (Nat → Int32))) (v_20955 : Int32) (v_20956 : Int32) (v_20957 : Int32) (v_20958 : Int64) (v_20959 : Int64) (f_20960 : Nat → Int64) (f_20961 : Nat → Int64) (f_20962 : Nat → Int32) : Int32 × Int32 × Int32 × Int64 × Int64 × (Nat → Int32) × (Nat → Int64) × (Nat → Int64) × (Nat → Int32) :=
  Lt (11 + v_20793 : Int32) (fun x_20979 => Lt (11 + v_20793 : Int32) (fun x_20980 => Lt (f_20962 (x_20980 : Int32).toNatClampNeg : Int32) (fun x_20981 => Lt2 (E_v_burnsOf x v_20793 v_20956 v_20957 v_20958 v_20959 f_20962 f_20960 f_20961) (fun r_20982 q0_r_20982 => Lt2 q0_r_20982 (fun u_20983_2_2_2_1_0 q1_u_20983_2_2_2_1_0 => Lt2 q1_u_20983_2_2_2_1_0 (fun u_20983_2_2_2_1_1 q2_u_20983_2_2_2_1_1 => Lt2 q2_u_20983_2_2_2_1_1 (fun u_20983_2_2_2_2_1_0 q3_u_20983_2_2_2_2_1_0 => Lt2 q3_u_20983_2_2_2_2_1_0 (fun u_20983_2_2_2_2_1_1 q4_u_20983_2_2_2_2_1_1 => Lt2 q4_u_20983_2_2_2_2_1_1 (fun u_20983_2_2_1_0 u_20983_2_2_1_1 => Lt (x_20981 - r_20982 : Int32) (fun x_20987 => Lt ((x_20987 : Int32).toInt64 : Int64) (fun x_20988 => Lt (E_v_within_20 x_20988) (fun r_20989 => Lt (upd f_20962 (x_20979 : Int32).toNatClampNeg r_20989 : Nat → Int32) (fun f_20992 => Lt (v_20793 + Int32.ofInt 1 : Int32) (fun x_20993 => rec_20933 x_20993 v_20955 u_20983_2_2_2_1_0 u_20983_2_2_2_1_1 u_20983_2_2_2_2_1_0 u_20983_2_2_2_2_1_1 u_20983_2_2_1_0 u_20983_2_2_1_1 f_20992))))))))))))))
set_option maxRecDepth 100000 in
noncomputable def E_v_compare_l47 (x : Int32) (v_19540 : Int32) (rec_20516 : Int32 → Int32 → Int32 → Int32 → Int64 → Int64 → (Nat → Int64) → (Nat → Int64) → (Nat → Int32) → (Int32 × Int32 × Int32 × Int64 × Int64 × (Nat → Int32) × (Nat → Int64) × (Nat → Int64) × (Nat → Int32))) (rec_20933 : Int32 → Int32 → Int32 → Int32 → Int64 → Int64 → (Nat → Int64) → (Nat → Int64) → (Nat → Int32) → (Int32 × Int32 × Int32 × Int64 × Int64 × (Nat → Int32) × (Nat → Int64) × (Nat → Int64) × (Nat → Int32))) (v_20793 : Int32) (v_20794 : Int32) (v_20795 : Int32) (v_20796 : Int32) (v_20797 : Int64) (v_20798 : Int64) (f_20799 : Nat → Int64) (f_20800 : Nat → Int64) (f_20801 : Nat → Int32) : Int32 × Int32 × Int32 × Int64 × Int64 × (Nat → Int32) × (Nat → Int64) × (Nat → Int64) × (Nat → Int32) :=
  Lt (f_20801 (0 : Int32).toNatClampNeg : Int32) (fun x_20935 => if x_20935 ≤ v_20793 then (Lt (E_v_goOn f_20801) (fun u_20938_2_1_0 => Lt (v_19540 + Int32.ofInt 1 : Int32) (fun x_20942 => rec_20516 x_20942 v_20794 v_20795 v_20796 v_20797 v_20798 f_20799 f_20800 u_20938_2_1_0))) else (Lt (11 + v_20793 : Int32) (fun x_20943 => Lt (f_20801 (x_20943 : Int32).toNatClampNeg : Int32) (fun x_20944 => Lt (E_v_term 2 f_20801) (fun r_20945 => if r_20945 ≤ x_20944 then (E_v_compare_j86 x v_20793 rec_20933 v_20794 v_20795 v_20796 v_20797 v_20798 f_20799 f_20800 f_20801) else (Lt2 (E_v_flare x v_20793 v_20795 v_20796 v_20797 v_20798 f_20801 f_20799 f_20800) (fun u_20996_2_2_2_1_0 q0_u_20996_2_2_2_1_0 => Lt2 q0_u_20996_2_2_2_1_0 (fun u_20996_2_2_2_1_1 q1_u_20996_2_2_2_1_1 => Lt2 q1_u_20996_2_2_2_1_1 (fun u_20996_2_2_2_2_1_0 q2_u_20996_2_2_2_2_1_0 => Lt2 q2_u_20996_2_2_2_2_1_0 (fun u_20996_2_2_2_2_1_1 q3_u_20996_2_2_2_2_1_1 => Lt2 q3_u_20996_2_2_2_2_1_1 (fun u_20996_2_1_0 q4_u_20996_2_1_0 => Lt2 q4_u_20996_2_1_0 (fun u_20996_2_2_1_0 u_20996_2_2_1_1 => Lt (v_20794 + Int32.ofInt 1 : Int32) (fun x_21001 => E_v_compare_j86 x v_20793 rec_20933 x_21001 u_20996_2_2_2_1_0 u_20996_2_2_2_1_1 u_20996_2_2_2_2_1_0 u_20996_2_2_2_2_1_1 u_20996_2_2_1_0 u_20996_2_2_1_1 u_20996_2_1_0)))))))))))))
set_option maxRecDepth 100000 in
noncomputable def E_v_compare_l38 (x : Int32) (y : Int32) (u_17527_2_1_0 : Nat → Int32) (rec_20516 : Int32 → Int32 → Int32 → Int32 → Int64 → Int64 → (Nat → Int64) → (Nat → Int64) → (Nat → Int32) → (Int32 × Int32 × Int32 × Int64 × Int64 × (Nat → Int32) × (Nat → Int64) × (Nat → Int64) × (Nat → Int32))) (v_19540 : Int32) (v_19541 : Int32) (v_19542 : Int32) (v_19543 : Int32) (v_19544 : Int64) (v_19545 : Int64) (f_19546 : Nat → Int64) (f_19547 : Nat → Int64) (f_19548 : Nat → Int32) : Int32 × Int32 × Int32 × Int64 × Int64 × (Nat → Int32) × (Nat → Int64) × (Nat → Int64) × (Nat → Int32) :=
  if y ≤ v_19540 then (Lt (E_v_putBack 16 f_19548 u_17527_2_1_0) (fun u_20520_2_1_0 => ((v_19541, v_19542, v_19543, v_19544, v_19545, u_20520_2_1_0, f_19546, f_19547, u_17527_2_1_0) : Int32 × Int32 × Int32 × Int64 × Int64 × (Nat → Int32) × (Nat → Int64) × (Nat → Int64) × (Nat → Int32)))) else (Lp (α := Int32 → Int32 → Int32 → Int32 → Int64 → Int64 → (Nat → Int64) → (Nat → Int64) → (Nat → Int32) → (Int32 × Int32 × Int32 × Int64 × Int64 × (Nat → Int32) × (Nat → Int64) × (Nat → Int64) × (Nat → Int32))) (E_v_compare_l47 x v_19540 rec_20516) (fun _ _ _ _ _ _ _ _ _ => ((0, 0, 0, 0, 0, fun _ => 0, fun _ => 0, fun _ => 0, fun _ => 0) : Int32 × Int32 × Int32 × Int64 × Int64 × (Nat → Int32) × (Nat → Int64) × (Nat → Int64) × (Nat → Int32))) ((9 - (0 : Int32).toInt : Int).toNat + 1) 0 v_19541 v_19542 v_19543 v_19544 v_19545 f_19546 f_19547 f_19548)
set_option maxRecDepth 100000 in
noncomputable def E_v_compare (x : Int32) (y : Int32) (thr : Int32) (lw : Int32) (bro : Int32) (val : Int64) (sm : Int64) (fw : Nat → Int32) (fe : Nat → Int64) (frs : Nat → Int64) (fu : Nat → Int32) : Int32 × Int32 × Int32 × Int64 × Int64 × (Nat → Int32) × (Nat → Int64) × (Nat → Int64) × (Nat → Int32) :=
  Lt (E_v_isLaw x fw) (fun r_17514 => if r_17514 = 1 then (Lt ((y : Int32).toInt64 : Int64) (fun x_17519 => Lt (E_v_in x_17519 1 60) (fun r_17520 => if r_17520 = 1 then (Lt (E_v_keepAll 16 fw fu) (fun u_17527_2_1_0 => Lp (α := Int32 → Int32 → Int32 → Int32 → Int64 → Int64 → (Nat → Int64) → (Nat → Int64) → (Nat → Int32) → (Int32 × Int32 × Int32 × Int64 × Int64 × (Nat → Int32) × (Nat → Int64) × (Nat → Int64) × (Nat → Int32))) (E_v_compare_l38 x y u_17527_2_1_0) (fun _ _ _ _ _ _ _ _ _ => ((0, 0, 0, 0, 0, fun _ => 0, fun _ => 0, fun _ => 0, fun _ => 0) : Int32 × Int32 × Int32 × Int64 × Int64 × (Nat → Int32) × (Nat → Int64) × (Nat → Int64) × (Nat → Int32))) ((61 - (0 : Int32).toInt : Int).toNat + 1) 0 0 lw bro val sm fe frs fw)) else (E_v_compare_j25 lw bro val sm fw fe frs fu)))) else (E_v_compare_j25 lw bro val sm fw fe frs fu))
set_option maxHeartbeats 4000000 in
set_option maxRecDepth 100000 in
theorem v_compare (l : Launch) (D : va_G) (K : Nat → ClassId) (m0 : Nat) (x : Int32) (y : Int32) (thr : Int32) (m_1 : Value) (m_2 : Value) (w0 : Nat) (m_4 : Value) (m_5 : Value) (u0 : Nat) (m_7 : Value) (m_8 : Value) (m_9 : Value) (m_10 : Value) (m_11 : Value) (m_12 : Value) (m_13 : Value) (m_14 : Value) (m_15 : Value) (m_16 : Value) (m_17 : Value) (m_18 : Value) (m_19 : Value) (m_21 : Value) (m_22 : Value) (m_23 : Value) (m_24 : Value) (m_25 : Value) (m_26 : Value) (m_27 : Value) (m_28 : Value) (m_29 : Value) (m_30 : Value) (m_31 : Value) (m_32 : Value) (m_33 : Value) (lw : Int32) (e0 : Nat) (m_36 : Value) (q0 : Nat) (bro : Int32) (val : Int64) (sm : Int64) (m_41 : Value) (m_42 : Value) (m_43 : Value) (m_44 : Value) (m_45 : Value) (m_46 : Value) (m_47 : Value) (m_48 : Value) (m_49 : Value) (m_50 : Value) (m_51 : Value) (m_52 : Value) (m_53 : Value) (m_54 : Value) (m_55 : Value) (m_56 : Value) (m_57 : Value) (m_58 : Value) (m_59 : Value) (fw : Nat → Int32) (gr : Nat → Int32) (fe : Nat → Int64) (frs : Nat → Int64) (fu : Nat → Int32) (sz : Nat) (zbro : 0 ≤ bro.toInt ∧ bro.toInt ≤ 1) (zfw : RwOK fw) (zgr : FzM gr fw) (zfu : Pu 558 fu) : Met l yX12_compare wsX12_compare ({ frames := 6, cells := 0, slots := 0, locals := 146 }) (va_Pc [.ref m0, .int x, .int y] (Pre D K [(m0, .inr (12, [.int thr, m_1, m_2, .ref w0, m_4, m_5, .ref u0, m_7, m_8, m_9, m_10, m_11, m_12, m_13, m_14, m_15, m_16, m_17, m_18, m_19, .int 0, m_21, m_22, m_23, m_24, m_25, m_26, m_27, m_28, m_29, m_30, m_31, m_32, m_33, .int lw, .ref e0, m_36, .ref q0, .int bro, .long val, .long sm, m_41, m_42, m_43, m_44, m_45, m_46, m_47, m_48, m_49, m_50, m_51, m_52, m_53, m_54, m_55, m_56, m_57, m_58, m_59])), (w0, .inl (K 0, 5500, .inl fw)), (e0, .inl (K 2, 13, .inr (.inl fe))), (q0, .inl (K 2, 400, .inr (.inl frs))), (u0, .inl (K 0, 558, .inl fu))] sz)) (va_Qi (S := Su) (fun (r : Int32) (u : Su) => (0 ≤ (u.2.2.2.1 1).toInt ∧ (u.2.2.2.1 1).toInt ≤ 1) ∧ (RwOK (u.2.1 0)) ∧ (FzM gr (u.2.1 0)) ∧ (Pu 558 (u.2.1 1)) ∧ ((r, (u.2.2.2.1 0), (u.2.2.2.1 1), (u.2.2.2.2.1 0), (u.2.2.2.2.1 1), (u.2.1 0), (u.2.2.1 0), (u.2.2.1 1), (u.2.1 1)) = E_v_compare x y thr lw bro val sm fw fe frs fu) ∧ True) (fun u t => Wd D (va_A [(m0, .inr (12, [.int thr, m_1, m_2, .ref w0, m_4, m_5, .ref u0, m_7, m_8, m_9, m_10, m_11, m_12, m_13, m_14, m_15, m_16, m_17, m_18, m_19, .int 0, m_21, m_22, m_23, m_24, m_25, m_26, m_27, m_28, m_29, m_30, m_31, m_32, m_33, .int lw, .ref e0, m_36, .ref q0, .int bro, .long val, .long sm, m_41, m_42, m_43, m_44, m_45, m_46, m_47, m_48, m_49, m_50, m_51, m_52, m_53, m_54, m_55, m_56, m_57, m_58, m_59])), (w0, .inl (K 0, 5500, .inl fw)), (e0, .inl (K 2, 13, .inr (.inl fe))), (q0, .inl (K 2, 400, .inr (.inl frs))), (u0, .inl (K 0, 558, .inl fu))] sz) ((fun u => [(m0, .inr (12, [.int 0, m_1, m_2, .ref w0, m_4, m_5, .ref u0, m_7, m_8, m_9, m_10, m_11, m_12, m_13, m_14, m_15, m_16, m_17, m_18, m_19, .int 0, m_21, m_22, m_23, m_24, m_25, m_26, m_27, m_28, m_29, m_30, m_31, m_32, m_33, .int (u.2.2.2.1 0), .ref e0, m_36, .ref q0, .int (u.2.2.2.1 1), .long (u.2.2.2.2.1 0), .long (u.2.2.2.2.1 1), m_41, m_42, m_43, m_44, m_45, m_46, m_47, m_48, m_49, m_50, m_51, m_52, m_53, m_54, m_55, m_56, m_57, m_58, m_59])), (w0, .inl (K 0, 5500, .inl (u.2.1 0))), (e0, .inl (K 2, 13, .inr (.inl (u.2.2.1 0)))), (q0, .inl (K 2, 400, .inr (.inl (u.2.2.1 1)))), (u0, .inl (K 0, 558, .inl (u.2.1 1)))]) u) t) (va_A [(m0, .inr (12, [.int thr, m_1, m_2, .ref w0, m_4, m_5, .ref u0, m_7, m_8, m_9, m_10, m_11, m_12, m_13, m_14, m_15, m_16, m_17, m_18, m_19, .int 0, m_21, m_22, m_23, m_24, m_25, m_26, m_27, m_28, m_29, m_30, m_31, m_32, m_33, .int lw, .ref e0, m_36, .ref q0, .int bro, .long val, .long sm, m_41, m_42, m_43, m_44, m_45, m_46, m_47, m_48, m_49, m_50, m_51, m_52, m_53, m_54, m_55, m_56, m_57, m_58, m_59])), (w0, .inl (K 0, 5500, .inl fw)), (e0, .inl (K 2, 13, .inr (.inl fe))), (q0, .inl (K 2, 400, .inr (.inl frs))), (u0, .inl (K 0, 558, .inl fu))] sz)) 0 0 (va_A [(m0, .inr (12, [.int thr, m_1, m_2, .ref w0, m_4, m_5, .ref u0, m_7, m_8, m_9, m_10, m_11, m_12, m_13, m_14, m_15, m_16, m_17, m_18, m_19, .int 0, m_21, m_22, m_23, m_24, m_25, m_26, m_27, m_28, m_29, m_30, m_31, m_32, m_33, .int lw, .ref e0, m_36, .ref q0, .int bro, .long val, .long sm, m_41, m_42, m_43, m_44, m_45, m_46, m_47, m_48, m_49, m_50, m_51, m_52, m_53, m_54, m_55, m_56, m_57, m_58, m_59])), (w0, .inl (K 0, 5500, .inl fw)), (e0, .inl (K 2, 13, .inr (.inl fe))), (q0, .inl (K 2, 400, .inr (.inl frs))), (u0, .inl (K 0, 558, .inl fu))] sz) := by
  refine Met.ofW (cc := cX12_compare) (maxL := 6) (ret := (some .int)) (by decide) rfl ?_
  intro p e s m args below meth c s₁ B hml hv
  obtain ⟨rfl, hsz, hP, hK, hD0, hN⟩ := hv
  have hx := B.exec
  have hb := B.bytes
  have hr := B.returns
  have hts := atoms_spec (ws := wsX12_compare) B.pre
  have hown : s.vm.findClass RX12 = some m.cls := findClass_of_methodNamed B.named
  have hlocks := B.notSynchronized
  subst hsz
  have hD := hD0.self (sz := s.heap.size)
  generalize hAe : va_A [(m0, .inr (12, [.int thr, m_1, m_2, .ref w0, m_4, m_5, .ref u0, m_7, m_8, m_9, m_10, m_11, m_12, m_13, m_14, m_15, m_16, m_17, m_18, m_19, .int 0, m_21, m_22, m_23, m_24, m_25, m_26, m_27, m_28, m_29, m_30, m_31, m_32, m_33, .int lw, .ref e0, m_36, .ref q0, .int bro, .long val, .long sm, m_41, m_42, m_43, m_44, m_45, m_46, m_47, m_48, m_49, m_50, m_51, m_52, m_53, m_54, m_55, m_56, m_57, m_58, m_59])), (w0, .inl (K 0, 5500, .inl fw)), (e0, .inl (K 2, 13, .inr (.inl fe))), (q0, .inl (K 2, 400, .inr (.inl frs))), (u0, .inl (K 0, 558, .inl fu))] s.heap.size = A at hD ⊢
  have hA : ∀ q : Nat, s.heap.size ≤ q → A q := fun q h => by rw [← hAe]; exact Or.inr h
  have hS : va_S A s.heap s.heap [] := va_S.rf
  have hP : va_P D vwCl [(m0, .inr (12, [.int thr, m_1, m_2, .ref w0, m_4, m_5, .ref u0, m_7, m_8, m_9, m_10, m_11, m_12, m_13, m_14, m_15, m_16, m_17, m_18, m_19, .int 0, m_21, m_22, m_23, m_24, m_25, m_26, m_27, m_28, m_29, m_30, m_31, m_32, m_33, .int lw, .ref e0, m_36, .ref q0, .int bro, .long val, .long sm, m_41, m_42, m_43, m_44, m_45, m_46, m_47, m_48, m_49, m_50, m_51, m_52, m_53, m_54, m_55, m_56, m_57, m_58, m_59])), (w0, .inl (K 0, 5500, .inl fw)), (e0, .inl (K 2, 13, .inr (.inl fe))), (q0, .inl (K 2, 400, .inr (.inl frs))), (u0, .inl (K 0, 558, .inl fu))] s.heap := hP
  have hl := lv_entry [.ref m0, .int x, .int y] (n := 6) (Nat.le_of_ble_eq_true rfl)
  rw [lg_entry_eq]
  generalize (lg_sl [.ref m0, .int x, .int y] ++ List.replicate (6 - (lg_sl [.ref m0, .int x, .int y]).length) Slot.unset).toArray = ls at hl ⊢
  have hl : lv_has ls 6 [(0, .ref m0), (1, .int x), (2, .int y)] := hl
  have hw12 : ∀ w ∈ wsX120, w ∈ wsX12_compare := fun w h => (List.mem_cons_of_mem _ (List.mem_append_right _ h))
  generalize hQ : MQ below _ _ s _ _ _ = Q
  have hE := E_v_compare.eq_def x y thr lw bro val sm fw fe frs fu
  refine lv_aload_n hx hb dX12_compare_0 rfl (lv_at hl 0 rfl) ?_
  refine lv_iconst (v := 0) hx hb dX12_compare_1 (by decide) ?_
  refine va_put (ci := 12) (v := .int 0) (ty := .int) (C := RX12) (T := TX12) (N := 60) hx hb hts hw12 tyX12 tyX12_ok nmX12 hown hK hP hD hS 0 rfl rfl 0 (by decide) (hts (.fieldLink RX12 158 "SmokeTuneModel" "thrown" "I") (List.mem_cons_of_mem _ (List.mem_append_left _ (List.mem_append_left _ (List.mem_of_getElem? (i := 0) rfl))))) (fun _ h9 => h9) rfl (by decide +kernel) (by first | rfl | decide) (by first | rfl | decide) (Nat.le_of_ble_eq_true rfl) dX12_compare_2 (fun H locs hP hD hS => ?_)
  have hP : va_P D vwCl [(m0, .inr (12, [.int 0, m_1, m_2, .ref w0, m_4, m_5, .ref u0, m_7, m_8, m_9, m_10, m_11, m_12, m_13, m_14, m_15, m_16, m_17, m_18, m_19, .int 0, m_21, m_22, m_23, m_24, m_25, m_26, m_27, m_28, m_29, m_30, m_31, m_32, m_33, .int lw, .ref e0, m_36, .ref q0, .int bro, .long val, .long sm, m_41, m_42, m_43, m_44, m_45, m_46, m_47, m_48, m_49, m_50, m_51, m_52, m_53, m_54, m_55, m_56, m_57, m_58, m_59])), (w0, .inl (K 0, 5500, .inl fw)), (e0, .inl (K 2, 13, .inr (.inl fe))), (q0, .inl (K 2, 400, .inr (.inl frs))), (u0, .inl (K 0, 558, .inl fu))] H := hP
  have hD : va_D A [(m0, .inr (12, [.int 0, m_1, m_2, .ref w0, m_4, m_5, .ref u0, m_7, m_8, m_9, m_10, m_11, m_12, m_13, m_14, m_15, m_16, m_17, m_18, m_19, .int 0, m_21, m_22, m_23, m_24, m_25, m_26, m_27, m_28, m_29, m_30, m_31, m_32, m_33, .int lw, .ref e0, m_36, .ref q0, .int bro, .long val, .long sm, m_41, m_42, m_43, m_44, m_45, m_46, m_47, m_48, m_49, m_50, m_51, m_52, m_53, m_54, m_55, m_56, m_57, m_58, m_59])), (w0, .inl (K 0, 5500, .inl fw)), (e0, .inl (K 2, 13, .inr (.inl fe))), (q0, .inl (K 2, 400, .inr (.inl frs))), (u0, .inl (K 0, 558, .inl fu))] := hD
  refine lv_aload_n hx hb dX12_compare_5 rfl (lv_at hl 0 rfl) ?_
  refine lv_iload_n hx hb dX12_compare_6 rfl (lv_at hl 1 rfl) ?_
  have j_17513 : ∀ (hE : E_v_compare x y thr lw bro val sm fw fe frs fu = E_v_compare_j25 lw bro val sm fw fe frs fu) (H : Heap) (locs : List Loc) (hP : va_P D vwCl [(m0, .inr (12, [.int 0, m_1, m_2, .ref w0, m_4, m_5, .ref u0, m_7, m_8, m_9, m_10, m_11, m_12, m_13, m_14, m_15, m_16, m_17, m_18, m_19, .int 0, m_21, m_22, m_23, m_24, m_25, m_26, m_27, m_28, m_29, m_30, m_31, m_32, m_33, .int lw, .ref e0, m_36, .ref q0, .int bro, .long val, .long sm, m_41, m_42, m_43, m_44, m_45, m_46, m_47, m_48, m_49, m_50, m_51, m_52, m_53, m_54, m_55, m_56, m_57, m_58, m_59])), (w0, .inl (K 0, 5500, .inl fw)), (e0, .inl (K 2, 13, .inr (.inl fe))), (q0, .inl (K 2, 400, .inr (.inl frs))), (u0, .inl (K 0, 558, .inl fu))] H) (hD : va_D A [(m0, .inr (12, [.int 0, m_1, m_2, .ref w0, m_4, m_5, .ref u0, m_7, m_8, m_9, m_10, m_11, m_12, m_13, m_14, m_15, m_16, m_17, m_18, m_19, .int 0, m_21, m_22, m_23, m_24, m_25, m_26, m_27, m_28, m_29, m_30, m_31, m_32, m_33, .int lw, .ref e0, m_36, .ref q0, .int bro, .long val, .long sm, m_41, m_42, m_43, m_44, m_45, m_46, m_47, m_48, m_49, m_50, m_51, m_52, m_53, m_54, m_55, m_56, m_57, m_58, m_59])), (w0, .inl (K 0, 5500, .inl fw)), (e0, .inl (K 2, 13, .inr (.inl fe))), (q0, .inl (K 2, 400, .inr (.inl frs))), (u0, .inl (K 0, 558, .inl fu))]) (hS : va_S A s.heap H locs) (ls : Array Slot) (hl : lv_has ls 6 []), W p l e ({ frames := 6, cells := 0, slots := 0, locals := 146 }) s m (([.ref m0, .int x, .int y] : List Value).toArray) below meth c H locs 0 0 Q (F0 m 25 ls []) := by
    intro hE H locs hP hD hS ls hl
    replace hE := hE.trans (E_v_compare_j25.eq_def _ _ _ _ _ _ _ _)
    refine lv_iconst (v := (-1)) hx hb dX12_compare_25 (by decide) ?_
    rw [← hQ]
    have hP9 := hP.sub (ws' := [(m0, .inr (12, [.int 0, m_1, m_2, .ref w0, m_4, m_5, .ref u0, m_7, m_8, m_9, m_10, m_11, m_12, m_13, m_14, m_15, m_16, m_17, m_18, m_19, .int 0, m_21, m_22, m_23, m_24, m_25, m_26, m_27, m_28, m_29, m_30, m_31, m_32, m_33, .int lw, .ref e0, m_36, .ref q0, .int bro, .long val, .long sm, m_41, m_42, m_43, m_44, m_45, m_46, m_47, m_48, m_49, m_50, m_51, m_52, m_53, m_54, m_55, m_56, m_57, m_58, m_59])), (w0, .inl (K 0, 5500, .inl fw)), (e0, .inl (K 2, 13, .inr (.inl fe))), (q0, .inl (K 2, 400, .inr (.inl frs))), (u0, .inl (K 0, 558, .inl fu))]) [0, 1, 2, 3, 4] rfl
    have hD9 := hD.sub (ws' := [(m0, .inr (12, [.int 0, m_1, m_2, .ref w0, m_4, m_5, .ref u0, m_7, m_8, m_9, m_10, m_11, m_12, m_13, m_14, m_15, m_16, m_17, m_18, m_19, .int 0, m_21, m_22, m_23, m_24, m_25, m_26, m_27, m_28, m_29, m_30, m_31, m_32, m_33, .int lw, .ref e0, m_36, .ref q0, .int bro, .long val, .long sm, m_41, m_42, m_43, m_44, m_45, m_46, m_47, m_48, m_49, m_50, m_51, m_52, m_53, m_54, m_55, m_56, m_57, m_58, m_59])), (w0, .inl (K 0, 5500, .inl fw)), (e0, .inl (K 2, 13, .inr (.inl fe))), (q0, .inl (K 2, 400, .inr (.inl frs))), (u0, .inl (K 0, 558, .inl fu))]) [0, 1, 2, 3, 4] (by decide) rfl
    exact W.iret (v := (-1)) hx hb hr (fun t ht hW => ⟨⟨(-1), ((fun _ => 0, fun i => match i with | 0 => fw | _ => fu, fun i => match i with | 0 => fe | _ => frs, fun i => match i with | 0 => lw | _ => bro, fun i => match i with | 0 => val | _ => sm, fun _ => fun _ => none) : Su), rfl, ⟨(show 0 ≤ (bro : Int32).toInt ∧ (bro : Int32).toInt ≤ 1 by omega), zfw, zgr, zfu, hE.symm, trivial⟩, (⟨by rw [ht]; exact hP9, hD9⟩ : Wd D A _ t)⟩, hS.F ht⟩) hS.2.2 dX12_compare_26
  refine pci (va_runV (As := [.int x]) (rest := []) ⟨hx, hb, hml, hown, hts⟩ (v_isLaw l D K x.toInt m0 x (.int 0) m_1 m_2 w0 m_4 m_5 (.ref u0) m_7 m_8 m_9 m_10 m_11 m_12 m_13 m_14 m_15 m_16 m_17 m_18 m_19 (.int 0) m_21 m_22 m_23 m_24 m_25 m_26 m_27 m_28 m_29 m_30 m_31 m_32 m_33 (.int lw) (.ref e0) m_36 (.ref q0) (.int bro) (.long val) (.long sm) m_41 m_42 m_43 m_44 m_45 m_46 m_47 m_48 m_49 m_50 m_51 m_52 m_53 m_54 m_55 m_56 m_57 m_58 m_59 fw H.size rfl zfw) (cwV 1 hts gX12_compare_X12_isLaw rfl rfl rfl (by decide +kernel) ⟨Nat.le_of_ble_eq_true rfl, Nat.le_of_ble_eq_true rfl⟩) (mkV hK hN (hP.sub [0, 1] rfl) (hD.sub [0, 1] (by decide) rfl) (ci := 12) (q0 := 0) rfl rfl) rfl rfl hl.1 rfl (lv_room (Nat.le_of_ble_eq_true rfl)) dX12_compare_7 ⟨Nat.le_of_ble_eq_true rfl, Nat.le_of_ble_eq_true rfl⟩) (fun r_17514 hw => ?_)
  obtain ⟨hw, k_17515, -⟩ := hw
  replace hE := hE.trans (Lt_in k_17515)
  rcases hw with ⟨rfl, h_17516, h_17517⟩ | rfl
  · replace hE := (hE).trans (if_pos rfl)
    refine lv_if_eq (tgt := 25) hx hb dX12_compare_10 (by decide) (fun c_17518 => absurd c_17518 (by decide)) (fun c_17518 => ?_)
    refine lv_iload_n hx hb dX12_compare_13 rfl (lv_at hl 2 rfl) ?_
    refine lv_i2l hx hb dX12_compare_14 rfl ?_
    refine lv_topl (fun x_17519 ex_17519 => ?_)
    replace hE := hE.trans (Lt_in ex_17519)
    have hx_17519 : x_17519.toInt = y.toInt := by rw [ex_17519]; exact i_wide rfl
    have hbx_17519 := i_rng (a := y) rfl
    refine lv_lconst (v := 1) hx hb dX12_compare_15 (by decide) ?_
    refine lv_ldc2 (v := 60) hx hb hown (hts (.constantLong RX12 520 (60)) (List.mem_cons_of_mem _ (List.mem_append_left _ (List.mem_append_left _ (List.mem_of_getElem? (i := 1) rfl))))) dX12_compare_16 ?_
    refine pci (va_runS (As := [.long x_17519, .long 1, .long 60]) (rest := []) ⟨hx, hb, hml, hown, hts⟩ (v_in l D K y.toInt 1 60 x_17519 1 60 H.size hx_17519 (show (1 : Int64).toInt = 1 from rfl) (show (60 : Int64).toInt = 60 from rfl)) (va_cwS 3 hts gX12_compare_X12_in rfl rfl rfl (by decide +kernel) ⟨Nat.le_of_ble_eq_true rfl, Nat.le_of_ble_eq_true rfl⟩) (mkS hK hN (va_P.nil) (va_D.nil (A := fun _ => True))) rfl rfl hl.1 rfl (lv_room (Nat.le_of_ble_eq_true rfl)) dX12_compare_19 ⟨Nat.le_of_ble_eq_true rfl, Nat.le_of_ble_eq_true rfl⟩) (fun r_17520 hw => ?_)
    obtain ⟨hw, k_17521, -⟩ := hw
    replace hE := hE.trans (Lt_in k_17521)
    rcases hw with ⟨rfl, h_17522, h_17523⟩ | ⟨rfl, h_17524⟩
    · replace hE := (hE).trans (if_pos rfl)
      refine lv_if_ne (tgt := 27) hx hb dX12_compare_22 (by decide) (fun c_17525 => ?_) (fun c_17525 => absurd c_17525 (by decide))
      refine lv_aload_n hx hb dX12_compare_27 rfl (lv_at hl 0 rfl) ?_
      refine lv_bipush (v := 16) hx hb dX12_compare_28 (by decide) ?_
      refine kcv (S := Su) (wr := [(e0, .inl (K 2, 13, .inr (.inl fe))), (q0, .inl (K 2, 400, .inr (.inl frs)))]) (va_runV (As := [.int 16]) (rest := []) ⟨hx, hb, hml, hown, hts⟩ (v_keepAll l D K m0 16 (.int 0) m_1 m_2 w0 m_4 m_5 u0 m_7 m_8 m_9 m_10 m_11 m_12 m_13 m_14 m_15 m_16 m_17 m_18 m_19 (.int 0) m_21 m_22 m_23 m_24 m_25 m_26 m_27 m_28 m_29 m_30 m_31 m_32 m_33 (.int lw) (.ref e0) m_36 (.ref q0) (.int bro) (.long val) (.long sm) m_41 m_42 m_43 m_44 m_45 m_46 m_47 m_48 m_49 m_50 m_51 m_52 m_53 m_54 m_55 m_56 m_57 m_58 m_59 fw gr fu H.size (by first | omega | decide) zfw zgr zfu) (cwV 1 hts gX12_compare_X12_keepAll rfl rfl rfl (by decide +kernel) ⟨Nat.le_of_ble_eq_true rfl, Nat.le_of_ble_eq_true rfl⟩) (mkV hK hN (hP.sub [0, 1, 4] rfl) (hD.sub [0, 1, 4] (by decide) rfl) (ci := 12) (q0 := 0) rfl rfl) rfl rfl hl.1 rfl (lv_room (Nat.le_of_ble_eq_true rfl)) dX12_compare_30 ⟨Nat.le_of_ble_eq_true rfl, Nat.le_of_ble_eq_true rfl⟩) hP hD hS hA [0, 1, 4] [2, 3] rfl rfl (by decide) (by decide) (fun u_17527 H locs hw hP hD hS => ?_)
      have hP : va_P D vwCl [(e0, .inl (K 2, 13, .inr (.inl fe))), (q0, .inl (K 2, 400, .inr (.inl frs))), (m0, .inr (12, [.int 0, m_1, m_2, .ref w0, m_4, m_5, .ref u0, m_7, m_8, m_9, m_10, m_11, m_12, m_13, m_14, m_15, m_16, m_17, m_18, m_19, .int 0, m_21, m_22, m_23, m_24, m_25, m_26, m_27, m_28, m_29, m_30, m_31, m_32, m_33, .int lw, .ref e0, m_36, .ref q0, .int bro, .long val, .long sm, m_41, m_42, m_43, m_44, m_45, m_46, m_47, m_48, m_49, m_50, m_51, m_52, m_53, m_54, m_55, m_56, m_57, m_58, m_59])), (w0, .inl (K 0, 5500, .inl fw)), (u0, .inl (K 0, 558, .inl (u_17527.2.1 0)))] H := hP
      have hD : va_D A [(e0, .inl (K 2, 13, .inr (.inl fe))), (q0, .inl (K 2, 400, .inr (.inl frs))), (m0, .inr (12, [.int 0, m_1, m_2, .ref w0, m_4, m_5, .ref u0, m_7, m_8, m_9, m_10, m_11, m_12, m_13, m_14, m_15, m_16, m_17, m_18, m_19, .int 0, m_21, m_22, m_23, m_24, m_25, m_26, m_27, m_28, m_29, m_30, m_31, m_32, m_33, .int lw, .ref e0, m_36, .ref q0, .int bro, .long val, .long sm, m_41, m_42, m_43, m_44, m_45, m_46, m_47, m_48, m_49, m_50, m_51, m_52, m_53, m_54, m_55, m_56, m_57, m_58, m_59])), (w0, .inl (K 0, 5500, .inl fw)), (u0, .inl (K 0, 558, .inl (u_17527.2.1 0)))] := hD
      obtain ⟨k_17528, k_17529, -⟩ := hw
      replace hE := hE.trans (Lt_in k_17529)
      refine lv_iconst (v := 0) hx hb dX12_compare_33 (by decide) ?_
      refine lv_istore_n (lv' := [(3, .int 0), (0, .ref m0), (1, .int x), (2, .int y)]) hx hb dX12_compare_34 rfl hl (by decide) rfl (fun ls hl => ?_)
      refine lv_iconst (v := 0) hx hb dX12_compare_35 (by decide) ?_
      refine lv_istore (lv' := [(4, .int 0), (3, .int 0), (0, .ref m0), (1, .int x), (2, .int y)]) hx hb dX12_compare_36 hl (by decide) rfl (fun ls hl => ?_)
      have lp_20516 : ∀ (nn_ : Nat) (v_19540 : Int32) (v_19541 : Int32) (v_19542 : Int32) (v_19543 : Int32) (v_19544 : Int64) (v_19545 : Int64) (f_19546 : Nat → Int64) (f_19547 : Nat → Int64) (f_19548 : Nat → Int32) (hv_19540 : 0 ≤ v_19540.toInt ∧ v_19540.toInt ≤ 60) (hv_19543 : 0 ≤ v_19543.toInt ∧ v_19543.toInt ≤ 1) (hf_19548_0 : RwOK f_19548) (hf_19548_1 : FzM gr f_19548) (hn : (61 - v_19540.toInt : Int).toNat < nn_) (hE : E_v_compare x y thr lw bro val sm fw fe frs fu = Lp (α := Int32 → Int32 → Int32 → Int32 → Int64 → Int64 → (Nat → Int64) → (Nat → Int64) → (Nat → Int32) → (Int32 × Int32 × Int32 × Int64 × Int64 × (Nat → Int32) × (Nat → Int64) × (Nat → Int64) × (Nat → Int32))) (E_v_compare_l38 x y (u_17527.2.1 0)) (fun _ _ _ _ _ _ _ _ _ => ((0, 0, 0, 0, 0, fun _ => 0, fun _ => 0, fun _ => 0, fun _ => 0) : Int32 × Int32 × Int32 × Int64 × Int64 × (Nat → Int32) × (Nat → Int64) × (Nat → Int64) × (Nat → Int32))) nn_ v_19540 v_19541 v_19542 v_19543 v_19544 v_19545 f_19546 f_19547 f_19548) (H : Heap) (locs : List Loc) (hP : va_P D vwCl [(e0, .inl (K 2, 13, .inr (.inl f_19546))), (q0, .inl (K 2, 400, .inr (.inl f_19547))), (m0, .inr (12, [.int 0, m_1, m_2, .ref w0, m_4, m_5, .ref u0, m_7, m_8, m_9, m_10, m_11, m_12, m_13, m_14, m_15, m_16, m_17, m_18, m_19, .int 0, m_21, m_22, m_23, m_24, m_25, m_26, m_27, m_28, m_29, m_30, m_31, m_32, m_33, .int v_19542, .ref e0, m_36, .ref q0, .int v_19543, .long v_19544, .long v_19545, m_41, m_42, m_43, m_44, m_45, m_46, m_47, m_48, m_49, m_50, m_51, m_52, m_53, m_54, m_55, m_56, m_57, m_58, m_59])), (w0, .inl (K 0, 5500, .inl f_19548)), (u0, .inl (K 0, 558, .inl (u_17527.2.1 0)))] H) (hD : va_D A [(e0, .inl (K 2, 13, .inr (.inl f_19546))), (q0, .inl (K 2, 400, .inr (.inl f_19547))), (m0, .inr (12, [.int 0, m_1, m_2, .ref w0, m_4, m_5, .ref u0, m_7, m_8, m_9, m_10, m_11, m_12, m_13, m_14, m_15, m_16, m_17, m_18, m_19, .int 0, m_21, m_22, m_23, m_24, m_25, m_26, m_27, m_28, m_29, m_30, m_31, m_32, m_33, .int v_19542, .ref e0, m_36, .ref q0, .int v_19543, .long v_19544, .long v_19545, m_41, m_42, m_43, m_44, m_45, m_46, m_47, m_48, m_49, m_50, m_51, m_52, m_53, m_54, m_55, m_56, m_57, m_58, m_59])), (w0, .inl (K 0, 5500, .inl f_19548)), (u0, .inl (K 0, 558, .inl (u_17527.2.1 0)))]) (hS : va_S A s.heap H locs) (ls : Array Slot) (hl : lv_has ls 6 [(4, .int v_19540), (3, .int v_19541), (0, .ref m0), (1, .int x), (2, .int y)]), W p l e ({ frames := 6, cells := 0, slots := 0, locals := 146 }) s m (([.ref m0, .int x, .int y] : List Value).toArray) below meth c H locs 0 0 Q (F0 m 38 ls []) := by
        intro nn_
        induction nn_ with
        | zero =>
          intro v_19540 v_19541 v_19542 v_19543 v_19544 v_19545 f_19546 f_19547 f_19548 hv_19540 hv_19543 hf_19548_0 hf_19548_1 hn hE H locs hP hD hS ls hl
          exact absurd hn (Nat.not_lt_zero _)
        | succ nn_ ih_20517 =>
          intro v_19540 v_19541 v_19542 v_19543 v_19544 v_19545 f_19546 f_19547 f_19548 hv_19540 hv_19543 hf_19548_0 hf_19548_1 hn hE H locs hP hD hS ls hl
          replace hE : E_v_compare x y thr lw bro val sm fw fe frs fu = E_v_compare_l38 x y (u_17527.2.1 0) (Lp (α := Int32 → Int32 → Int32 → Int32 → Int64 → Int64 → (Nat → Int64) → (Nat → Int64) → (Nat → Int32) → (Int32 × Int32 × Int32 × Int64 × Int64 × (Nat → Int32) × (Nat → Int64) × (Nat → Int64) × (Nat → Int32))) (E_v_compare_l38 x y (u_17527.2.1 0)) (fun _ _ _ _ _ _ _ _ _ => ((0, 0, 0, 0, 0, fun _ => 0, fun _ => 0, fun _ => 0, fun _ => 0) : Int32 × Int32 × Int32 × Int64 × Int64 × (Nat → Int32) × (Nat → Int64) × (Nat → Int64) × (Nat → Int32))) nn_) v_19540 v_19541 v_19542 v_19543 v_19544 v_19545 f_19546 f_19547 f_19548 := hE
          obtain ⟨rec_20516, hrec_20516⟩ : ∃ z9, z9 = Lp (α := Int32 → Int32 → Int32 → Int32 → Int64 → Int64 → (Nat → Int64) → (Nat → Int64) → (Nat → Int32) → (Int32 × Int32 × Int32 × Int64 × Int64 × (Nat → Int32) × (Nat → Int64) × (Nat → Int64) × (Nat → Int32))) (E_v_compare_l38 x y (u_17527.2.1 0)) (fun _ _ _ _ _ _ _ _ _ => ((0, 0, 0, 0, 0, fun _ => 0, fun _ => 0, fun _ => 0, fun _ => 0) : Int32 × Int32 × Int32 × Int64 × Int64 × (Nat → Int32) × (Nat → Int64) × (Nat → Int64) × (Nat → Int32))) nn_ := ⟨_, rfl⟩
          rw [← hrec_20516] at hE
          replace hE := hE.trans (E_v_compare_l38.eq_def _ _ _ _ _ _ _ _ _ _ _ _ _)
          refine lv_iload hx hb dX12_compare_38 (lv_at hl 0 rfl) ?_
          refine lv_iload_n hx hb dX12_compare_40 rfl (lv_at hl 4 rfl) ?_
          refine lv_icmp_ge (tgt := 137) hx hb dX12_compare_41 (by decide) (fun c_20518 => ?_) (fun c_20518 => ?_)
          · have c_20518i := i_le (x := y.toInt) (y := v_19540.toInt) rfl rfl c_20518
            replace hE := hE.trans (if_pos c_20518)
            refine lv_aload_n hx hb dX12_compare_137 rfl (lv_at hl 2 rfl) ?_
            refine lv_bipush (v := 16) hx hb dX12_compare_138 (by decide) ?_
            refine kcv (S := Su) (wr := [(e0, .inl (K 2, 13, .inr (.inl f_19546))), (q0, .inl (K 2, 400, .inr (.inl f_19547)))]) (va_runV (As := [.int 16]) (rest := []) ⟨hx, hb, hml, hown, hts⟩ (v_putBack l D K m0 16 (.int 0) m_1 m_2 w0 m_4 m_5 u0 m_7 m_8 m_9 m_10 m_11 m_12 m_13 m_14 m_15 m_16 m_17 m_18 m_19 (.int 0) m_21 m_22 m_23 m_24 m_25 m_26 m_27 m_28 m_29 m_30 m_31 m_32 m_33 (.int v_19542) (.ref e0) m_36 (.ref q0) (.int v_19543) (.long v_19544) (.long v_19545) m_41 m_42 m_43 m_44 m_45 m_46 m_47 m_48 m_49 m_50 m_51 m_52 m_53 m_54 m_55 m_56 m_57 m_58 m_59 f_19548 gr (u_17527.2.1 0) H.size (by first | omega | decide) hf_19548_0 hf_19548_1 k_17528) (cwV 1 hts gX12_compare_X12_putBack rfl rfl rfl (by decide +kernel) ⟨Nat.le_of_ble_eq_true rfl, Nat.le_of_ble_eq_true rfl⟩) (mkV hK hN (hP.sub [2, 3, 4] rfl) (hD.sub [2, 3, 4] (by decide) rfl) (ci := 12) (q0 := 0) rfl rfl) rfl rfl hl.1 rfl (lv_room (Nat.le_of_ble_eq_true rfl)) dX12_compare_140 ⟨Nat.le_of_ble_eq_true rfl, Nat.le_of_ble_eq_true rfl⟩) hP hD hS hA [2, 3, 4] [0, 1] rfl rfl (by decide) (by decide) (fun u_20520 H locs hw hP hD hS => ?_)
            have hP : va_P D vwCl [(e0, .inl (K 2, 13, .inr (.inl f_19546))), (q0, .inl (K 2, 400, .inr (.inl f_19547))), (m0, .inr (12, [.int 0, m_1, m_2, .ref w0, m_4, m_5, .ref u0, m_7, m_8, m_9, m_10, m_11, m_12, m_13, m_14, m_15, m_16, m_17, m_18, m_19, .int 0, m_21, m_22, m_23, m_24, m_25, m_26, m_27, m_28, m_29, m_30, m_31, m_32, m_33, .int v_19542, .ref e0, m_36, .ref q0, .int v_19543, .long v_19544, .long v_19545, m_41, m_42, m_43, m_44, m_45, m_46, m_47, m_48, m_49, m_50, m_51, m_52, m_53, m_54, m_55, m_56, m_57, m_58, m_59])), (w0, .inl (K 0, 5500, .inl (u_20520.2.1 0))), (u0, .inl (K 0, 558, .inl (u_17527.2.1 0)))] H := hP
            have hD : va_D A [(e0, .inl (K 2, 13, .inr (.inl f_19546))), (q0, .inl (K 2, 400, .inr (.inl f_19547))), (m0, .inr (12, [.int 0, m_1, m_2, .ref w0, m_4, m_5, .ref u0, m_7, m_8, m_9, m_10, m_11, m_12, m_13, m_14, m_15, m_16, m_17, m_18, m_19, .int 0, m_21, m_22, m_23, m_24, m_25, m_26, m_27, m_28, m_29, m_30, m_31, m_32, m_33, .int v_19542, .ref e0, m_36, .ref q0, .int v_19543, .long v_19544, .long v_19545, m_41, m_42, m_43, m_44, m_45, m_46, m_47, m_48, m_49, m_50, m_51, m_52, m_53, m_54, m_55, m_56, m_57, m_58, m_59])), (w0, .inl (K 0, 5500, .inl (u_20520.2.1 0))), (u0, .inl (K 0, 558, .inl (u_17527.2.1 0)))] := hD
            obtain ⟨k_20521, k_20522, k_20523, -⟩ := hw
            replace hE := hE.trans (Lt_in k_20523)
            refine lv_iload_n hx hb dX12_compare_143 rfl (lv_at hl 1 rfl) ?_
            rw [← hQ]
            have hP9 := hP.sub (ws' := [(m0, .inr (12, [.int 0, m_1, m_2, .ref w0, m_4, m_5, .ref u0, m_7, m_8, m_9, m_10, m_11, m_12, m_13, m_14, m_15, m_16, m_17, m_18, m_19, .int 0, m_21, m_22, m_23, m_24, m_25, m_26, m_27, m_28, m_29, m_30, m_31, m_32, m_33, .int v_19542, .ref e0, m_36, .ref q0, .int v_19543, .long v_19544, .long v_19545, m_41, m_42, m_43, m_44, m_45, m_46, m_47, m_48, m_49, m_50, m_51, m_52, m_53, m_54, m_55, m_56, m_57, m_58, m_59])), (w0, .inl (K 0, 5500, .inl (u_20520.2.1 0))), (e0, .inl (K 2, 13, .inr (.inl f_19546))), (q0, .inl (K 2, 400, .inr (.inl f_19547))), (u0, .inl (K 0, 558, .inl (u_17527.2.1 0)))]) [2, 3, 0, 1, 4] rfl
            have hD9 := hD.sub (ws' := [(m0, .inr (12, [.int 0, m_1, m_2, .ref w0, m_4, m_5, .ref u0, m_7, m_8, m_9, m_10, m_11, m_12, m_13, m_14, m_15, m_16, m_17, m_18, m_19, .int 0, m_21, m_22, m_23, m_24, m_25, m_26, m_27, m_28, m_29, m_30, m_31, m_32, m_33, .int v_19542, .ref e0, m_36, .ref q0, .int v_19543, .long v_19544, .long v_19545, m_41, m_42, m_43, m_44, m_45, m_46, m_47, m_48, m_49, m_50, m_51, m_52, m_53, m_54, m_55, m_56, m_57, m_58, m_59])), (w0, .inl (K 0, 5500, .inl (u_20520.2.1 0))), (e0, .inl (K 2, 13, .inr (.inl f_19546))), (q0, .inl (K 2, 400, .inr (.inl f_19547))), (u0, .inl (K 0, 558, .inl (u_17527.2.1 0)))]) [2, 3, 0, 1, 4] (by decide) rfl
            exact W.iret (v := v_19541) hx hb hr (fun t ht hW => ⟨⟨v_19541, ((fun _ => 0, fun i => match i with | 0 => (u_20520.2.1 0) | _ => (u_17527.2.1 0), fun i => match i with | 0 => f_19546 | _ => f_19547, fun i => match i with | 0 => v_19542 | _ => v_19543, fun i => match i with | 0 => v_19544 | _ => v_19545, fun _ => fun _ => none) : Su), rfl, ⟨(show 0 ≤ (v_19543 : Int32).toInt ∧ (v_19543 : Int32).toInt ≤ 1 by omega), k_20521, k_20522, k_17528, hE.symm, trivial⟩, (⟨by rw [ht]; exact hP9, hD9⟩ : Wd D A _ t)⟩, hS.F ht⟩) hS.2.2 dX12_compare_144
          · have c_20518i := i_nle (x := y.toInt) (y := v_19540.toInt) rfl rfl c_20518
            replace hE := hE.trans (if_neg c_20518)
            refine lv_iconst (v := 0) hx hb dX12_compare_44 (by decide) ?_
            refine lv_istore (lv' := [(5, .int 0), (4, .int v_19540), (3, .int v_19541), (0, .ref m0), (1, .int x), (2, .int y)]) hx hb dX12_compare_45 hl (by decide) rfl (fun ls hl => ?_)
            have lp_20933 : ∀ (nn_ : Nat) (v_20793 : Int32) (v_20794 : Int32) (v_20795 : Int32) (v_20796 : Int32) (v_20797 : Int64) (v_20798 : Int64) (f_20799 : Nat → Int64) (f_20800 : Nat → Int64) (f_20801 : Nat → Int32) (hv_20793 : 0 ≤ v_20793.toInt ∧ v_20793.toInt ≤ 8) (hv_20796 : 0 ≤ v_20796.toInt ∧ v_20796.toInt ≤ 1) (hf_20801_0 : RwOK f_20801) (hf_20801_1 : FzM gr f_20801) (hn : (9 - v_20793.toInt : Int).toNat < nn_) (hE : E_v_compare x y thr lw bro val sm fw fe frs fu = Lp (α := Int32 → Int32 → Int32 → Int32 → Int64 → Int64 → (Nat → Int64) → (Nat → Int64) → (Nat → Int32) → (Int32 × Int32 × Int32 × Int64 × Int64 × (Nat → Int32) × (Nat → Int64) × (Nat → Int64) × (Nat → Int32))) (E_v_compare_l47 x v_19540 rec_20516) (fun _ _ _ _ _ _ _ _ _ => ((0, 0, 0, 0, 0, fun _ => 0, fun _ => 0, fun _ => 0, fun _ => 0) : Int32 × Int32 × Int32 × Int64 × Int64 × (Nat → Int32) × (Nat → Int64) × (Nat → Int64) × (Nat → Int32))) nn_ v_20793 v_20794 v_20795 v_20796 v_20797 v_20798 f_20799 f_20800 f_20801) (H : Heap) (locs : List Loc) (hP : va_P D vwCl [(e0, .inl (K 2, 13, .inr (.inl f_20799))), (q0, .inl (K 2, 400, .inr (.inl f_20800))), (m0, .inr (12, [.int 0, m_1, m_2, .ref w0, m_4, m_5, .ref u0, m_7, m_8, m_9, m_10, m_11, m_12, m_13, m_14, m_15, m_16, m_17, m_18, m_19, .int 0, m_21, m_22, m_23, m_24, m_25, m_26, m_27, m_28, m_29, m_30, m_31, m_32, m_33, .int v_20795, .ref e0, m_36, .ref q0, .int v_20796, .long v_20797, .long v_20798, m_41, m_42, m_43, m_44, m_45, m_46, m_47, m_48, m_49, m_50, m_51, m_52, m_53, m_54, m_55, m_56, m_57, m_58, m_59])), (w0, .inl (K 0, 5500, .inl f_20801)), (u0, .inl (K 0, 558, .inl (u_17527.2.1 0)))] H) (hD : va_D A [(e0, .inl (K 2, 13, .inr (.inl f_20799))), (q0, .inl (K 2, 400, .inr (.inl f_20800))), (m0, .inr (12, [.int 0, m_1, m_2, .ref w0, m_4, m_5, .ref u0, m_7, m_8, m_9, m_10, m_11, m_12, m_13, m_14, m_15, m_16, m_17, m_18, m_19, .int 0, m_21, m_22, m_23, m_24, m_25, m_26, m_27, m_28, m_29, m_30, m_31, m_32, m_33, .int v_20795, .ref e0, m_36, .ref q0, .int v_20796, .long v_20797, .long v_20798, m_41, m_42, m_43, m_44, m_45, m_46, m_47, m_48, m_49, m_50, m_51, m_52, m_53, m_54, m_55, m_56, m_57, m_58, m_59])), (w0, .inl (K 0, 5500, .inl f_20801)), (u0, .inl (K 0, 558, .inl (u_17527.2.1 0)))]) (hS : va_S A s.heap H locs) (ls : Array Slot) (hl : lv_has ls 6 [(5, .int v_20793), (4, .int v_19540), (3, .int v_20794), (0, .ref m0), (1, .int x), (2, .int y)]), W p l e ({ frames := 6, cells := 0, slots := 0, locals := 146 }) s m (([.ref m0, .int x, .int y] : List Value).toArray) below meth c H locs 0 0 Q (F0 m 47 ls []) := by
              intro nn_
              induction nn_ with
              | zero =>
                intro v_20793 v_20794 v_20795 v_20796 v_20797 v_20798 f_20799 f_20800 f_20801 hv_20793 hv_20796 hf_20801_0 hf_20801_1 hn hE H locs hP hD hS ls hl
                exact absurd hn (Nat.not_lt_zero _)
              | succ nn_ ih_20934 =>
                intro v_20793 v_20794 v_20795 v_20796 v_20797 v_20798 f_20799 f_20800 f_20801 hv_20793 hv_20796 hf_20801_0 hf_20801_1 hn hE H locs hP hD hS ls hl
                replace hE : E_v_compare x y thr lw bro val sm fw fe frs fu = E_v_compare_l47 x v_19540 rec_20516 (Lp (α := Int32 → Int32 → Int32 → Int32 → Int64 → Int64 → (Nat → Int64) → (Nat → Int64) → (Nat → Int32) → (Int32 × Int32 × Int32 × Int64 × Int64 × (Nat → Int32) × (Nat → Int64) × (Nat → Int64) × (Nat → Int32))) (E_v_compare_l47 x v_19540 rec_20516) (fun _ _ _ _ _ _ _ _ _ => ((0, 0, 0, 0, 0, fun _ => 0, fun _ => 0, fun _ => 0, fun _ => 0) : Int32 × Int32 × Int32 × Int64 × Int64 × (Nat → Int32) × (Nat → Int64) × (Nat → Int64) × (Nat → Int32))) nn_) v_20793 v_20794 v_20795 v_20796 v_20797 v_20798 f_20799 f_20800 f_20801 := hE
                obtain ⟨rec_20933, hrec_20933⟩ : ∃ z9, z9 = Lp (α := Int32 → Int32 → Int32 → Int32 → Int64 → Int64 → (Nat → Int64) → (Nat → Int64) → (Nat → Int32) → (Int32 × Int32 × Int32 × Int64 × Int64 × (Nat → Int32) × (Nat → Int64) × (Nat → Int64) × (Nat → Int32))) (E_v_compare_l47 x v_19540 rec_20516) (fun _ _ _ _ _ _ _ _ _ => ((0, 0, 0, 0, 0, fun _ => 0, fun _ => 0, fun _ => 0, fun _ => 0) : Int32 × Int32 × Int32 × Int64 × Int64 × (Nat → Int32) × (Nat → Int64) × (Nat → Int64) × (Nat → Int32))) nn_ := ⟨_, rfl⟩
                rw [← hrec_20933] at hE
                replace hE := hE.trans (E_v_compare_l47.eq_def _ _ _ _ _ _ _ _ _ _ _ _ _)
                refine lv_iload hx hb dX12_compare_47 (lv_at hl 0 rfl) ?_
                refine lv_aload_n hx hb dX12_compare_49 rfl (lv_at hl 3 rfl) ?_
                refine va_get (ci := 12) (v := .ref w0) (C := RX12) (T := TX12) (N := 60) hx hb hts hw12 hown hK hP 2 rfl rfl 3 (by decide) (hts (.fieldLink RX12 13 "SmokeTuneModel" "row" "[I") (List.mem_cons_of_mem _ (List.mem_append_left _ (List.mem_append_left _ (List.mem_of_getElem? (i := 2) rfl))))) (fun _ h9 => h9) rfl dX12_compare_50 ?_
                refine lv_iconst (v := 0) hx hb dX12_compare_53 (by decide) ?_
                refine va_iald hx hb hK hP 3 0 rfl rfl (i_in (x := 0) rfl (by omega)) dX12_compare_54 ?_
                refine lv_topi (fun x_20935 ex_20935 => ?_)
                replace hE := hE.trans (Lt_in ex_20935)
                have px_20935 := RwOK.at hf_20801_0 (show (0 : Int32).toInt = 0 from rfl) (show 0 ≤ 0 ∧ 0 < 100 by omega)
                rw [← ex_20935] at px_20935
                have hx_20935 := PR.r_0 px_20935 (by omega)
                refine lv_icmp_ge (tgt := 127) hx hb dX12_compare_55 (by decide) (fun c_20936 => ?_) (fun c_20936 => ?_)
                · have c_20936i := i_le (x := x_20935.toInt) (y := v_20793.toInt) rfl rfl c_20936
                  replace hE := hE.trans (if_pos c_20936)
                  refine lv_aload_n hx hb dX12_compare_127 rfl (lv_at hl 3 rfl) ?_
                  refine kcv (S := Su) (wr := [(e0, .inl (K 2, 13, .inr (.inl f_20799))), (q0, .inl (K 2, 400, .inr (.inl f_20800))), (u0, .inl (K 0, 558, .inl (u_17527.2.1 0)))]) (va_runV (As := []) (rest := []) ⟨hx, hb, hml, hown, hts⟩ (v_goOn l D K m0 (.int 0) m_1 m_2 w0 m_4 m_5 (.ref u0) m_7 m_8 m_9 m_10 m_11 m_12 m_13 m_14 m_15 m_16 m_17 m_18 m_19 (.int 0) m_21 m_22 m_23 m_24 m_25 m_26 m_27 m_28 m_29 m_30 m_31 m_32 m_33 (.int v_20795) (.ref e0) m_36 (.ref q0) (.int v_20796) (.long v_20797) (.long v_20798) m_41 m_42 m_43 m_44 m_45 m_46 m_47 m_48 m_49 m_50 m_51 m_52 m_53 m_54 m_55 m_56 m_57 m_58 m_59 f_20801 gr H.size hf_20801_0 hf_20801_1) (cwV 0 hts gX12_compare_X12_goOn rfl rfl rfl (by decide +kernel) ⟨Nat.le_of_ble_eq_true rfl, Nat.le_of_ble_eq_true rfl⟩) (mkV hK hN (hP.sub [2, 3] rfl) (hD.sub [2, 3] (by decide) rfl) (ci := 12) (q0 := 0) rfl rfl) rfl rfl hl.1 rfl (lv_room (Nat.le_of_ble_eq_true rfl)) dX12_compare_128 ⟨Nat.le_of_ble_eq_true rfl, Nat.le_of_ble_eq_true rfl⟩) hP hD hS hA [2, 3] [0, 1, 4] rfl rfl (by decide) (by decide) (fun u_20938 H locs hw hP hD hS => ?_)
                  have hP : va_P D vwCl [(e0, .inl (K 2, 13, .inr (.inl f_20799))), (q0, .inl (K 2, 400, .inr (.inl f_20800))), (u0, .inl (K 0, 558, .inl (u_17527.2.1 0))), (m0, .inr (12, [.int 0, m_1, m_2, .ref w0, m_4, m_5, .ref u0, m_7, m_8, m_9, m_10, m_11, m_12, m_13, m_14, m_15, m_16, m_17, m_18, m_19, .int 0, m_21, m_22, m_23, m_24, m_25, m_26, m_27, m_28, m_29, m_30, m_31, m_32, m_33, .int v_20795, .ref e0, m_36, .ref q0, .int v_20796, .long v_20797, .long v_20798, m_41, m_42, m_43, m_44, m_45, m_46, m_47, m_48, m_49, m_50, m_51, m_52, m_53, m_54, m_55, m_56, m_57, m_58, m_59])), (w0, .inl (K 0, 5500, .inl (u_20938.2.1 0)))] H := hP
                  have hD : va_D A [(e0, .inl (K 2, 13, .inr (.inl f_20799))), (q0, .inl (K 2, 400, .inr (.inl f_20800))), (u0, .inl (K 0, 558, .inl (u_17527.2.1 0))), (m0, .inr (12, [.int 0, m_1, m_2, .ref w0, m_4, m_5, .ref u0, m_7, m_8, m_9, m_10, m_11, m_12, m_13, m_14, m_15, m_16, m_17, m_18, m_19, .int 0, m_21, m_22, m_23, m_24, m_25, m_26, m_27, m_28, m_29, m_30, m_31, m_32, m_33, .int v_20795, .ref e0, m_36, .ref q0, .int v_20796, .long v_20797, .long v_20798, m_41, m_42, m_43, m_44, m_45, m_46, m_47, m_48, m_49, m_50, m_51, m_52, m_53, m_54, m_55, m_56, m_57, m_58, m_59])), (w0, .inl (K 0, 5500, .inl (u_20938.2.1 0)))] := hD
                  obtain ⟨k_20939, k_20940, k_20941, -⟩ := hw
                  replace hE := hE.trans (Lt_in k_20941)
                  obtain ⟨x_20942, ex_20942⟩ : ∃ y : Int32, y = v_19540 + Int32.ofInt 1 := ⟨_, rfl⟩
                  replace hE := hE.trans (Lt_in ex_20942)
                  have hx_20942 : x_20942.toInt = (v_19540.toInt + 1) := by rw [ex_20942]; exact i_add rfl (show (Int32.ofInt 1).toInt = 1 from rfl) (by omega)
                  refine lv_iinc (v := x_20942) (lv' := [(4, .int x_20942), (5, .int v_20793), (3, .int v_20794), (0, .ref m0), (1, .int x), (2, .int y)]) hx hb dX12_compare_131 hl (k := 1) rfl (by rw [ex_20942]) (by decide) rfl (fun ls hl => ?_)
                  refine lv_goto (tgt := 38) hx hb dX12_compare_134 (by decide) ?_
                  exact ih_20517 x_20942 v_20794 v_20795 v_20796 v_20797 v_20798 f_20799 f_20800 (u_20938.2.1 0) (by rw [hx_20942]; omega) (by omega) k_20939 k_20940 (by omega) (hE.trans (by rw [hrec_20516])) _ _ (hP.sub [0, 1, 3, 4, 2] rfl) (hD.sub [0, 1, 3, 4, 2] (by decide) rfl) hS ls (lv_sub hl [0, 2, 3, 4, 5] rfl)
                · have c_20936i := i_nle (x := x_20935.toInt) (y := v_20793.toInt) rfl rfl c_20936
                  replace hE := hE.trans (if_neg c_20936)
                  refine lv_aload_n hx hb dX12_compare_58 rfl (lv_at hl 3 rfl) ?_
                  refine va_get (ci := 12) (v := .ref w0) (C := RX12) (T := TX12) (N := 60) hx hb hts hw12 hown hK hP 2 rfl rfl 3 (by decide) (hts (.fieldLink RX12 13 "SmokeTuneModel" "row" "[I") (List.mem_cons_of_mem _ (List.mem_append_left _ (List.mem_append_left _ (List.mem_of_getElem? (i := 2) rfl))))) (fun _ h9 => h9) rfl dX12_compare_59 ?_
                  refine lv_bipush (v := 11) hx hb dX12_compare_62 (by decide) ?_
                  refine lv_iload hx hb dX12_compare_64 (lv_at hl 0 rfl) ?_
                  refine lv_iadd hx hb dX12_compare_66 ?_
                  refine lv_topi (fun x_20943 ex_20943 => ?_)
                  replace hE := hE.trans (Lt_in ex_20943)
                  have hx_20943 : x_20943.toInt = (11 + v_20793.toInt) := by rw [ex_20943]; exact i_add (show (11 : Int32).toInt = 11 from rfl) rfl (by omega)
                  refine va_iald hx hb hK hP 3 0 rfl rfl (i_in hx_20943 (by omega)) dX12_compare_67 ?_
                  refine lv_topi (fun x_20944 ex_20944 => ?_)
                  replace hE := hE.trans (Lt_in ex_20944)
                  have px_20944 := RwOK.at hf_20801_0 hx_20943 (show 0 ≤ (11 + v_20793.toInt) ∧ (11 + v_20793.toInt) < 100 by omega)
                  rw [← ex_20944] at px_20944
                  have hx_20944 := PR.r_11 px_20944 (by omega)
                  refine lv_aload_n hx hb dX12_compare_68 rfl (lv_at hl 3 rfl) ?_
                  refine lv_iconst (v := 2) hx hb dX12_compare_69 (by decide) ?_
                  refine pci (va_runV (As := [.int 2]) (rest := [.int x_20944]) ⟨hx, hb, hml, hown, hts⟩ (v_term l D K m0 2 (.int 0) m_1 m_2 w0 m_4 m_5 (.ref u0) m_7 m_8 m_9 m_10 m_11 m_12 m_13 m_14 m_15 m_16 m_17 m_18 m_19 (.int 0) m_21 m_22 m_23 m_24 m_25 m_26 m_27 m_28 m_29 m_30 m_31 m_32 m_33 (.int v_20795) (.ref e0) m_36 (.ref q0) (.int v_20796) (.long v_20797) (.long v_20798) m_41 m_42 m_43 m_44 m_45 m_46 m_47 m_48 m_49 m_50 m_51 m_52 m_53 m_54 m_55 m_56 m_57 m_58 m_59 f_20801 H.size (by first | omega | decide) hf_20801_0) (cwV 1 hts gX12_compare_X12_term rfl rfl rfl (by decide +kernel) ⟨Nat.le_of_ble_eq_true rfl, Nat.le_of_ble_eq_true rfl⟩) (mkV hK hN (hP.sub [2, 3] rfl) (hD.sub [2, 3] (by decide) rfl) (ci := 12) (q0 := 0) rfl rfl) rfl rfl hl.1 rfl (lv_room (Nat.le_of_ble_eq_true rfl)) dX12_compare_70 ⟨Nat.le_of_ble_eq_true rfl, Nat.le_of_ble_eq_true rfl⟩) (fun r_20945 hw => ?_)
                  obtain ⟨k_20946, -⟩ := hw
                  replace hE := hE.trans (Lt_in k_20946)
                  have j_20978 : ∀ (v_20955 : Int32) (v_20956 : Int32) (v_20957 : Int32) (v_20958 : Int64) (v_20959 : Int64) (f_20960 : Nat → Int64) (f_20961 : Nat → Int64) (f_20962 : Nat → Int32) (hv_20957 : 0 ≤ v_20957.toInt ∧ v_20957.toInt ≤ 1) (hf_20962_0 : RwOK f_20962) (hf_20962_1 : FzM gr f_20962) (hE : E_v_compare x y thr lw bro val sm fw fe frs fu = E_v_compare_j86 x v_20793 rec_20933 v_20955 v_20956 v_20957 v_20958 v_20959 f_20960 f_20961 f_20962) (H : Heap) (locs : List Loc) (hP : va_P D vwCl [(e0, .inl (K 2, 13, .inr (.inl f_20960))), (q0, .inl (K 2, 400, .inr (.inl f_20961))), (m0, .inr (12, [.int 0, m_1, m_2, .ref w0, m_4, m_5, .ref u0, m_7, m_8, m_9, m_10, m_11, m_12, m_13, m_14, m_15, m_16, m_17, m_18, m_19, .int 0, m_21, m_22, m_23, m_24, m_25, m_26, m_27, m_28, m_29, m_30, m_31, m_32, m_33, .int v_20956, .ref e0, m_36, .ref q0, .int v_20957, .long v_20958, .long v_20959, m_41, m_42, m_43, m_44, m_45, m_46, m_47, m_48, m_49, m_50, m_51, m_52, m_53, m_54, m_55, m_56, m_57, m_58, m_59])), (w0, .inl (K 0, 5500, .inl f_20962)), (u0, .inl (K 0, 558, .inl (u_17527.2.1 0)))] H) (hD : va_D A [(e0, .inl (K 2, 13, .inr (.inl f_20960))), (q0, .inl (K 2, 400, .inr (.inl f_20961))), (m0, .inr (12, [.int 0, m_1, m_2, .ref w0, m_4, m_5, .ref u0, m_7, m_8, m_9, m_10, m_11, m_12, m_13, m_14, m_15, m_16, m_17, m_18, m_19, .int 0, m_21, m_22, m_23, m_24, m_25, m_26, m_27, m_28, m_29, m_30, m_31, m_32, m_33, .int v_20956, .ref e0, m_36, .ref q0, .int v_20957, .long v_20958, .long v_20959, m_41, m_42, m_43, m_44, m_45, m_46, m_47, m_48, m_49, m_50, m_51, m_52, m_53, m_54, m_55, m_56, m_57, m_58, m_59])), (w0, .inl (K 0, 5500, .inl f_20962)), (u0, .inl (K 0, 558, .inl (u_17527.2.1 0)))]) (hS : va_S A s.heap H locs) (ls : Array Slot) (hl : lv_has ls 6 [(5, .int v_20793), (4, .int v_19540), (3, .int v_20955), (0, .ref m0), (1, .int x), (2, .int y)]), W p l e ({ frames := 6, cells := 0, slots := 0, locals := 146 }) s m (([.ref m0, .int x, .int y] : List Value).toArray) below meth c H locs 0 0 Q (F0 m 86 ls []) := by
                    intro v_20955 v_20956 v_20957 v_20958 v_20959 f_20960 f_20961 f_20962 hv_20957 hf_20962_0 hf_20962_1 hE H locs hP hD hS ls hl
                    replace hE := hE.trans (E_v_compare_j86.eq_def _ _ _ _ _ _ _ _ _ _ _)
                    refine lv_aload_n hx hb dX12_compare_86 rfl (lv_at hl 3 rfl) ?_
                    refine va_get (ci := 12) (v := .ref w0) (C := RX12) (T := TX12) (N := 60) hx hb hts hw12 hown hK hP 2 rfl rfl 3 (by decide) (hts (.fieldLink RX12 13 "SmokeTuneModel" "row" "[I") (List.mem_cons_of_mem _ (List.mem_append_left _ (List.mem_append_left _ (List.mem_of_getElem? (i := 2) rfl))))) (fun _ h9 => h9) rfl dX12_compare_87 ?_
                    refine lv_bipush (v := 11) hx hb dX12_compare_90 (by decide) ?_
                    refine lv_iload hx hb dX12_compare_92 (lv_at hl 0 rfl) ?_
                    refine lv_iadd hx hb dX12_compare_94 ?_
                    refine lv_topi (fun x_20979 ex_20979 => ?_)
                    replace hE := hE.trans (Lt_in ex_20979)
                    have hx_20979 : x_20979.toInt = (11 + v_20793.toInt) := by rw [ex_20979]; exact i_add (show (11 : Int32).toInt = 11 from rfl) rfl (by omega)
                    refine lv_aload_n hx hb dX12_compare_95 rfl (lv_at hl 3 rfl) ?_
                    refine va_get (ci := 12) (v := .ref w0) (C := RX12) (T := TX12) (N := 60) hx hb hts hw12 hown hK hP 2 rfl rfl 3 (by decide) (hts (.fieldLink RX12 13 "SmokeTuneModel" "row" "[I") (List.mem_cons_of_mem _ (List.mem_append_left _ (List.mem_append_left _ (List.mem_of_getElem? (i := 2) rfl))))) (fun _ h9 => h9) rfl dX12_compare_96 ?_
                    refine lv_bipush (v := 11) hx hb dX12_compare_99 (by decide) ?_
                    refine lv_iload hx hb dX12_compare_101 (lv_at hl 0 rfl) ?_
                    refine lv_iadd hx hb dX12_compare_103 ?_
                    refine lv_topi (fun x_20980 ex_20980 => ?_)
                    replace hE := hE.trans (Lt_in ex_20980)
                    have hx_20980 : x_20980.toInt = (11 + v_20793.toInt) := by rw [ex_20980]; exact i_add (show (11 : Int32).toInt = 11 from rfl) rfl (by omega)
                    refine va_iald hx hb hK hP 3 0 rfl rfl (i_in hx_20980 (by omega)) dX12_compare_104 ?_
                    refine lv_topi (fun x_20981 ex_20981 => ?_)
                    replace hE := hE.trans (Lt_in ex_20981)
                    have px_20981 := RwOK.at hf_20962_0 hx_20980 (show 0 ≤ (11 + v_20793.toInt) ∧ (11 + v_20793.toInt) < 100 by omega)
                    rw [← ex_20981] at px_20981
                    have hx_20981 := PR.r_11 px_20981 (by omega)
                    refine lv_aload_n hx hb dX12_compare_105 rfl (lv_at hl 3 rfl) ?_
                    refine lv_iload_n hx hb dX12_compare_106 rfl (lv_at hl 4 rfl) ?_
                    refine lv_iload hx hb dX12_compare_107 (lv_at hl 0 rfl) ?_
                    refine kci (S := Su) (wr := [(u0, .inl (K 0, 558, .inl (u_17527.2.1 0)))]) (va_runV (As := [.int x, .int v_20793]) (rest := [.int x_20981, .int x_20979, .ref w0]) ⟨hx, hb, hml, hown, hts⟩ (v_burnsOf l D K m0 x v_20793 (.int 0) m_1 m_2 w0 m_4 m_5 (.ref u0) m_7 m_8 m_9 m_10 m_11 m_12 m_13 m_14 m_15 m_16 m_17 m_18 m_19 m_21 m_22 m_23 m_24 m_25 m_26 m_27 m_28 m_29 m_30 m_31 m_32 m_33 v_20956 e0 m_36 q0 v_20957 v_20958 v_20959 m_41 m_42 m_43 m_44 m_45 m_46 m_47 m_48 m_49 m_50 m_51 m_52 m_53 m_54 m_55 m_56 m_57 m_58 m_59 f_20962 gr f_20960 f_20961 H.size (by first | omega | decide) (by first | omega | decide) (by first | omega | decide) hf_20962_0 hf_20962_1) (cwV 2 hts gX12_compare_X12_burnsOf rfl rfl rfl (by decide +kernel) ⟨Nat.le_of_ble_eq_true rfl, Nat.le_of_ble_eq_true rfl⟩) (mkV hK hN (hP.sub [2, 3, 0, 1] rfl) (hD.sub [2, 3, 0, 1] (by decide) rfl) (ci := 12) (q0 := 0) rfl rfl) rfl rfl hl.1 rfl (lv_room (Nat.le_of_ble_eq_true rfl)) dX12_compare_109 ⟨Nat.le_of_ble_eq_true rfl, Nat.le_of_ble_eq_true rfl⟩) hP hD hS hA [2, 3, 0, 1] [4] rfl rfl (by decide) (by decide) (fun r_20982 u_20983 H locs hw hP hD hS => ?_)
                    have hP : va_P D vwCl [(u0, .inl (K 0, 558, .inl (u_17527.2.1 0))), (m0, .inr (12, [.int 0, m_1, m_2, .ref w0, m_4, m_5, .ref u0, m_7, m_8, m_9, m_10, m_11, m_12, m_13, m_14, m_15, m_16, m_17, m_18, m_19, .int 0, m_21, m_22, m_23, m_24, m_25, m_26, m_27, m_28, m_29, m_30, m_31, m_32, m_33, .int (u_20983.2.2.2.1 0), .ref e0, m_36, .ref q0, .int (u_20983.2.2.2.1 1), .long (u_20983.2.2.2.2.1 0), .long (u_20983.2.2.2.2.1 1), m_41, m_42, m_43, m_44, m_45, m_46, m_47, m_48, m_49, m_50, m_51, m_52, m_53, m_54, m_55, m_56, m_57, m_58, m_59])), (w0, .inl (K 0, 5500, .inl f_20962)), (e0, .inl (K 2, 13, .inr (.inl (u_20983.2.2.1 0)))), (q0, .inl (K 2, 400, .inr (.inl (u_20983.2.2.1 1))))] H := hP
                    have hD : va_D A [(u0, .inl (K 0, 558, .inl (u_17527.2.1 0))), (m0, .inr (12, [.int 0, m_1, m_2, .ref w0, m_4, m_5, .ref u0, m_7, m_8, m_9, m_10, m_11, m_12, m_13, m_14, m_15, m_16, m_17, m_18, m_19, .int 0, m_21, m_22, m_23, m_24, m_25, m_26, m_27, m_28, m_29, m_30, m_31, m_32, m_33, .int (u_20983.2.2.2.1 0), .ref e0, m_36, .ref q0, .int (u_20983.2.2.2.1 1), .long (u_20983.2.2.2.2.1 0), .long (u_20983.2.2.2.2.1 1), m_41, m_42, m_43, m_44, m_45, m_46, m_47, m_48, m_49, m_50, m_51, m_52, m_53, m_54, m_55, m_56, m_57, m_58, m_59])), (w0, .inl (K 0, 5500, .inl f_20962)), (e0, .inl (K 2, 13, .inr (.inl (u_20983.2.2.1 0)))), (q0, .inl (K 2, 400, .inr (.inl (u_20983.2.2.1 1))))] := hD
                    obtain ⟨h_20986, k_20984, k_20985, -⟩ := hw
                    replace hE := (((((hE.trans (Lt2_in k_20985)).trans (Lt2_in rfl)).trans (Lt2_in rfl)).trans (Lt2_in rfl)).trans (Lt2_in rfl)).trans (Lt2_in rfl)
                    refine lv_isub hx hb dX12_compare_112 ?_
                    refine lv_topi (fun x_20987 ex_20987 => ?_)
                    replace hE := hE.trans (Lt_in ex_20987)
                    have hx_20987 : x_20987.toInt = (x_20981.toInt - r_20982.toInt) := by rw [ex_20987]; exact i_sub rfl rfl (by omega)
                    refine lv_i2l hx hb dX12_compare_113 rfl ?_
                    refine lv_topl (fun x_20988 ex_20988 => ?_)
                    replace hE := hE.trans (Lt_in ex_20988)
                    have hx_20988 : x_20988.toInt = (x_20981.toInt - r_20982.toInt) := by rw [ex_20988]; exact i_wide hx_20987
                    refine lv_iconst (v := 0) hx hb dX12_compare_114 (by decide) ?_
                    refine lv_bipush (v := 20) hx hb dX12_compare_115 (by decide) ?_
                    refine pci (va_runS (As := [.long x_20988, .int 0, .int 20]) (rest := [.int x_20979, .ref w0]) ⟨hx, hb, hml, hown, hts⟩ (v_within_20 l D K x_20988 H.size) (va_cwS 3 hts gX12_compare_X12_within rfl rfl rfl (by decide +kernel) ⟨Nat.le_of_ble_eq_true rfl, Nat.le_of_ble_eq_true rfl⟩) (mkS hK hN (va_P.nil) (va_D.nil (A := fun _ => True))) rfl rfl hl.1 rfl (lv_room (Nat.le_of_ble_eq_true rfl)) dX12_compare_117 ⟨Nat.le_of_ble_eq_true rfl, Nat.le_of_ble_eq_true rfl⟩) (fun r_20989 hw => ?_)
                    obtain ⟨h_20991, k_20990, -⟩ := hw
                    replace hE := hE.trans (Lt_in k_20990)
                    refine va_iast hx hb hK hP hD hS 2 0 rfl rfl (i_in hx_20979 (by omega)) dX12_compare_120 (fun H locs hP hD hS => ?_)
                    generalize hf_20992 : (upd f_20962 (x_20979 : Int32).toNatClampNeg r_20989) = f_20992 at hP hD
                    replace hE := hE.trans (Lt_in hf_20992.symm)
                    have hf_20992_0 : RwOK f_20992 := by rw [← hf_20992]; exact RwOK.upd hf_20962_0 hx_20979 (by omega) rfl (PR.w_11 (by omega) (by omega))
                    have hf_20992_1 : FzM gr f_20992 := by rw [← hf_20992]; exact FzM.put hf_20962_1 hx_20979 (by omega)
                    have hP : va_P D vwCl [(u0, .inl (K 0, 558, .inl (u_17527.2.1 0))), (m0, .inr (12, [.int 0, m_1, m_2, .ref w0, m_4, m_5, .ref u0, m_7, m_8, m_9, m_10, m_11, m_12, m_13, m_14, m_15, m_16, m_17, m_18, m_19, .int 0, m_21, m_22, m_23, m_24, m_25, m_26, m_27, m_28, m_29, m_30, m_31, m_32, m_33, .int (u_20983.2.2.2.1 0), .ref e0, m_36, .ref q0, .int (u_20983.2.2.2.1 1), .long (u_20983.2.2.2.2.1 0), .long (u_20983.2.2.2.2.1 1), m_41, m_42, m_43, m_44, m_45, m_46, m_47, m_48, m_49, m_50, m_51, m_52, m_53, m_54, m_55, m_56, m_57, m_58, m_59])), (w0, .inl (K 0, 5500, .inl f_20992)), (e0, .inl (K 2, 13, .inr (.inl (u_20983.2.2.1 0)))), (q0, .inl (K 2, 400, .inr (.inl (u_20983.2.2.1 1))))] H := hP
                    have hD : va_D A [(u0, .inl (K 0, 558, .inl (u_17527.2.1 0))), (m0, .inr (12, [.int 0, m_1, m_2, .ref w0, m_4, m_5, .ref u0, m_7, m_8, m_9, m_10, m_11, m_12, m_13, m_14, m_15, m_16, m_17, m_18, m_19, .int 0, m_21, m_22, m_23, m_24, m_25, m_26, m_27, m_28, m_29, m_30, m_31, m_32, m_33, .int (u_20983.2.2.2.1 0), .ref e0, m_36, .ref q0, .int (u_20983.2.2.2.1 1), .long (u_20983.2.2.2.2.1 0), .long (u_20983.2.2.2.2.1 1), m_41, m_42, m_43, m_44, m_45, m_46, m_47, m_48, m_49, m_50, m_51, m_52, m_53, m_54, m_55, m_56, m_57, m_58, m_59])), (w0, .inl (K 0, 5500, .inl f_20992)), (e0, .inl (K 2, 13, .inr (.inl (u_20983.2.2.1 0)))), (q0, .inl (K 2, 400, .inr (.inl (u_20983.2.2.1 1))))] := hD
                    obtain ⟨x_20993, ex_20993⟩ : ∃ y : Int32, y = v_20793 + Int32.ofInt 1 := ⟨_, rfl⟩
                    replace hE := hE.trans (Lt_in ex_20993)
                    have hx_20993 : x_20993.toInt = (v_20793.toInt + 1) := by rw [ex_20993]; exact i_add rfl (show (Int32.ofInt 1).toInt = 1 from rfl) (by omega)
                    refine lv_iinc (v := x_20993) (lv' := [(5, .int x_20993), (4, .int v_19540), (3, .int v_20955), (0, .ref m0), (1, .int x), (2, .int y)]) hx hb dX12_compare_121 hl (k := 0) rfl (by rw [ex_20993]) (by decide) rfl (fun ls hl => ?_)
                    refine lv_goto (tgt := 47) hx hb dX12_compare_124 (by decide) ?_
                    exact ih_20934 x_20993 v_20955 (u_20983.2.2.2.1 0) (u_20983.2.2.2.1 1) (u_20983.2.2.2.2.1 0) (u_20983.2.2.2.2.1 1) (u_20983.2.2.1 0) (u_20983.2.2.1 1) f_20992 (by rw [hx_20993]; omega) (by omega) hf_20992_0 hf_20992_1 (by omega) (hE.trans (by rw [hrec_20933])) _ _ (hP.sub [3, 4, 1, 2, 0] rfl) (hD.sub [3, 4, 1, 2, 0] (by decide) rfl) hS ls (lv_sub hl [0, 1, 2, 3, 4, 5] rfl)
                  refine lv_icmp_ge (tgt := 86) hx hb dX12_compare_73 (by decide) (fun c_20994 => ?_) (fun c_20994 => ?_)
                  · have c_20994i := i_le (x := r_20945.toInt) (y := x_20944.toInt) rfl rfl c_20994
                    replace hE := hE.trans (if_pos c_20994)
                    exact j_20978 v_20794 v_20795 v_20796 v_20797 v_20798 f_20799 f_20800 f_20801 (by omega) hf_20801_0 hf_20801_1 hE _ _ hP hD hS ls (lv_sub hl [0, 1, 2, 3, 4, 5] rfl)
                  · have c_20994i := i_nle (x := r_20945.toInt) (y := x_20944.toInt) rfl rfl c_20994
                    replace hE := hE.trans (if_neg c_20994)
                    refine lv_aload_n hx hb dX12_compare_76 rfl (lv_at hl 3 rfl) ?_
                    refine lv_iload_n hx hb dX12_compare_77 rfl (lv_at hl 4 rfl) ?_
                    refine lv_iload hx hb dX12_compare_78 (lv_at hl 0 rfl) ?_
                    refine kcv (S := Su) (wr := [(u0, .inl (K 0, 558, .inl (u_17527.2.1 0)))]) (va_runV (As := [.int x, .int v_20793]) (rest := []) ⟨hx, hb, hml, hown, hts⟩ (v_flare l D K m0 x v_20793 (.int 0) m_1 m_2 w0 m_4 m_5 (.ref u0) m_7 m_8 m_9 m_10 m_11 m_12 m_13 m_14 m_15 m_16 m_17 m_18 m_19 m_21 m_22 m_23 m_24 m_25 m_26 m_27 m_28 m_29 m_30 m_31 m_32 m_33 v_20795 e0 m_36 q0 v_20796 v_20797 v_20798 m_41 m_42 m_43 m_44 m_45 m_46 m_47 m_48 m_49 m_50 m_51 m_52 m_53 m_54 m_55 m_56 m_57 m_58 m_59 f_20801 gr f_20799 f_20800 H.size (by first | omega | decide) (by first | omega | decide) (by first | omega | decide) hf_20801_0 hf_20801_1) (cwV 2 hts gX12_compare_X12_flare rfl rfl rfl (by decide +kernel) ⟨Nat.le_of_ble_eq_true rfl, Nat.le_of_ble_eq_true rfl⟩) (mkV hK hN (hP.sub [2, 3, 0, 1] rfl) (hD.sub [2, 3, 0, 1] (by decide) rfl) (ci := 12) (q0 := 0) rfl rfl) rfl rfl hl.1 rfl (lv_room (Nat.le_of_ble_eq_true rfl)) dX12_compare_80 ⟨Nat.le_of_ble_eq_true rfl, Nat.le_of_ble_eq_true rfl⟩) hP hD hS hA [2, 3, 0, 1] [4] rfl rfl (by decide) (by decide) (fun u_20996 H locs hw hP hD hS => ?_)
                    have hP : va_P D vwCl [(u0, .inl (K 0, 558, .inl (u_17527.2.1 0))), (m0, .inr (12, [.int 0, m_1, m_2, .ref w0, m_4, m_5, .ref u0, m_7, m_8, m_9, m_10, m_11, m_12, m_13, m_14, m_15, m_16, m_17, m_18, m_19, .int 0, m_21, m_22, m_23, m_24, m_25, m_26, m_27, m_28, m_29, m_30, m_31, m_32, m_33, .int (u_20996.2.2.2.1 0), .ref e0, m_36, .ref q0, .int (u_20996.2.2.2.1 1), .long (u_20996.2.2.2.2.1 0), .long (u_20996.2.2.2.2.1 1), m_41, m_42, m_43, m_44, m_45, m_46, m_47, m_48, m_49, m_50, m_51, m_52, m_53, m_54, m_55, m_56, m_57, m_58, m_59])), (w0, .inl (K 0, 5500, .inl (u_20996.2.1 0))), (e0, .inl (K 2, 13, .inr (.inl (u_20996.2.2.1 0)))), (q0, .inl (K 2, 400, .inr (.inl (u_20996.2.2.1 1))))] H := hP
                    have hD : va_D A [(u0, .inl (K 0, 558, .inl (u_17527.2.1 0))), (m0, .inr (12, [.int 0, m_1, m_2, .ref w0, m_4, m_5, .ref u0, m_7, m_8, m_9, m_10, m_11, m_12, m_13, m_14, m_15, m_16, m_17, m_18, m_19, .int 0, m_21, m_22, m_23, m_24, m_25, m_26, m_27, m_28, m_29, m_30, m_31, m_32, m_33, .int (u_20996.2.2.2.1 0), .ref e0, m_36, .ref q0, .int (u_20996.2.2.2.1 1), .long (u_20996.2.2.2.2.1 0), .long (u_20996.2.2.2.2.1 1), m_41, m_42, m_43, m_44, m_45, m_46, m_47, m_48, m_49, m_50, m_51, m_52, m_53, m_54, m_55, m_56, m_57, m_58, m_59])), (w0, .inl (K 0, 5500, .inl (u_20996.2.1 0))), (e0, .inl (K 2, 13, .inr (.inl (u_20996.2.2.1 0)))), (q0, .inl (K 2, 400, .inr (.inl (u_20996.2.2.1 1))))] := hD
                    obtain ⟨k_20997, k_20998, k_20999, k_21000, -⟩ := hw
                    replace hE := (((((hE.trans (Lt2_in k_21000)).trans (Lt2_in rfl)).trans (Lt2_in rfl)).trans (Lt2_in rfl)).trans (Lt2_in rfl)).trans (Lt2_in rfl)
                    obtain ⟨x_21001, ex_21001⟩ : ∃ y : Int32, y = v_20794 + Int32.ofInt 1 := ⟨_, rfl⟩
                    replace hE := hE.trans (Lt_in ex_21001)
                    refine lv_iinc (v := x_21001) (lv' := [(3, .int x_21001), (5, .int v_20793), (4, .int v_19540), (0, .ref m0), (1, .int x), (2, .int y)]) hx hb dX12_compare_83 hl (k := 2) rfl (by rw [ex_21001]) (by decide) rfl (fun ls hl => ?_)
                    exact j_20978 x_21001 (u_20996.2.2.2.1 0) (u_20996.2.2.2.1 1) (u_20996.2.2.2.2.1 0) (u_20996.2.2.2.2.1 1) (u_20996.2.2.1 0) (u_20996.2.2.1 1) (u_20996.2.1 0) (by omega) k_20998 k_20999 hE _ _ (hP.sub [3, 4, 1, 2, 0] rfl) (hD.sub [3, 4, 1, 2, 0] (by decide) rfl) hS ls (lv_sub hl [1, 2, 0, 3, 4, 5] rfl)
            exact lp_20933 ((9 - (0 : Int32).toInt : Int).toNat + 1) 0 v_19541 v_19542 v_19543 v_19544 v_19545 f_19546 f_19547 f_19548 (by decide) (by omega) hf_19548_0 hf_19548_1 (Nat.lt_succ_self _) hE _ _ hP hD hS ls (lv_sub hl [0, 1, 2, 3, 4, 5] rfl)
      exact lp_20516 ((61 - (0 : Int32).toInt : Int).toNat + 1) 0 0 lw bro val sm fe frs fw (by decide) (by omega) zfw zgr (Nat.lt_succ_self _) hE _ _ hP hD hS ls (lv_sub hl [0, 1, 2, 3, 4] rfl)
    · replace hE := (hE).trans (if_neg (by first | decide | (intro h9; have h8 := congrArg Int32.toInt h9; omega)))
      refine lv_if_ne (tgt := 27) hx hb dX12_compare_22 (by decide) (fun c_21002 => absurd (by decide) c_21002) (fun c_21002 => ?_)
      exact j_17513   hE _ _ hP hD hS ls (lv_sub hl [] rfl)
  · replace hE := (hE).trans (if_neg (by first | decide | (intro h9; have h8 := congrArg Int32.toInt h9; omega)))
    refine lv_if_eq (tgt := 25) hx hb dX12_compare_10 (by decide) (fun c_21003 => ?_) (fun c_21003 => absurd (by decide) c_21003)
    exact j_17513   hE _ _ hP hD hS ls (lv_sub hl [] rfl)
set_option maxRecDepth 100000 in
noncomputable def E_v_draw (x : Int32) (sta_ : Int64) : Int32 × Int64 :=
  Lt (sta_ * 1103 : Int64) (fun x_73 => Lt (x_73 + 12345 : Int64) (fun x_74 => Lt (x_74 - x_74 / 1000003 * 1000003 : Int64) (fun x_75 => Lt ((x : Int32).toInt64 : Int64) (fun x_76 => Lt (x_75 - x_75 / x_76 * x_76 : Int64) (fun x_77 => Lt ((x_77 : Int64).toInt32 : Int32) (fun x_78 => ((x_78, x_75) : Int32 × Int64)))))))
set_option maxHeartbeats 4000000 in
set_option maxRecDepth 100000 in
theorem v_draw (l : Launch) (D : va_G) (K : Nat → ClassId) (m0 : Nat) (x : Int32) (m_0 : Value) (m_1 : Value) (m_2 : Value) (m_3 : Value) (m_4 : Value) (m_5 : Value) (m_6 : Value) (m_7 : Value) (m_8 : Value) (m_9 : Value) (m_10 : Value) (m_11 : Value) (m_12 : Value) (m_13 : Value) (m_14 : Value) (m_15 : Value) (m_16 : Value) (m_17 : Value) (m_18 : Value) (m_19 : Value) (m_20 : Value) (m_21 : Value) (m_22 : Value) (m_23 : Value) (m_24 : Value) (m_25 : Value) (m_26 : Value) (m_27 : Value) (m_28 : Value) (m_29 : Value) (m_30 : Value) (m_31 : Value) (m_32 : Value) (m_33 : Value) (m_34 : Value) (m_35 : Value) (m_36 : Value) (m_37 : Value) (m_38 : Value) (m_39 : Value) (m_40 : Value) (m_41 : Value) (m_42 : Value) (m_43 : Value) (m_44 : Value) (m_45 : Value) (m_46 : Value) (m_47 : Value) (m_48 : Value) (m_49 : Value) (m_50 : Value) (m_51 : Value) (m_52 : Value) (m_53 : Value) (m_54 : Value) (m_55 : Value) (sta_ : Int64) (m_57 : Value) (m_58 : Value) (m_59 : Value) (sz : Nat) (zx : 1 ≤ x.toInt ∧ x.toInt ≤ 8) (zsta : 0 ≤ sta_.toInt ∧ sta_.toInt ≤ 1000002) : Met l yX12_draw wsX12_draw ({ frames := 0, cells := 0, slots := 0, locals := 0 }) (va_Pc [.ref m0, .int x] (Pre D K [(m0, .inr (12, [m_0, m_1, m_2, m_3, m_4, m_5, m_6, m_7, m_8, m_9, m_10, m_11, m_12, m_13, m_14, m_15, m_16, m_17, m_18, m_19, m_20, m_21, m_22, m_23, m_24, m_25, m_26, m_27, m_28, m_29, m_30, m_31, m_32, m_33, m_34, m_35, m_36, m_37, m_38, m_39, m_40, m_41, m_42, m_43, m_44, m_45, m_46, m_47, m_48, m_49, m_50, m_51, m_52, m_53, m_54, m_55, .long sta_, m_57, m_58, m_59]))] sz)) (va_Qi (S := Su) (fun (r : Int32) (u : Su) => (0 ≤ r.toInt ∧ r.toInt ≤ 7) ∧ (0 ≤ (u.2.2.2.2.1 0).toInt ∧ (u.2.2.2.2.1 0).toInt ≤ 1000002) ∧ ((r, (u.2.2.2.2.1 0)) = E_v_draw x sta_) ∧ True) (fun u t => Wd D (va_A [(m0, .inr (12, [m_0, m_1, m_2, m_3, m_4, m_5, m_6, m_7, m_8, m_9, m_10, m_11, m_12, m_13, m_14, m_15, m_16, m_17, m_18, m_19, m_20, m_21, m_22, m_23, m_24, m_25, m_26, m_27, m_28, m_29, m_30, m_31, m_32, m_33, m_34, m_35, m_36, m_37, m_38, m_39, m_40, m_41, m_42, m_43, m_44, m_45, m_46, m_47, m_48, m_49, m_50, m_51, m_52, m_53, m_54, m_55, .long sta_, m_57, m_58, m_59]))] sz) ((fun u => [(m0, .inr (12, [m_0, m_1, m_2, m_3, m_4, m_5, m_6, m_7, m_8, m_9, m_10, m_11, m_12, m_13, m_14, m_15, m_16, m_17, m_18, m_19, m_20, m_21, m_22, m_23, m_24, m_25, m_26, m_27, m_28, m_29, m_30, m_31, m_32, m_33, m_34, m_35, m_36, m_37, m_38, m_39, m_40, m_41, m_42, m_43, m_44, m_45, m_46, m_47, m_48, m_49, m_50, m_51, m_52, m_53, m_54, m_55, .long (u.2.2.2.2.1 0), m_57, m_58, m_59]))]) u) t) (va_A [(m0, .inr (12, [m_0, m_1, m_2, m_3, m_4, m_5, m_6, m_7, m_8, m_9, m_10, m_11, m_12, m_13, m_14, m_15, m_16, m_17, m_18, m_19, m_20, m_21, m_22, m_23, m_24, m_25, m_26, m_27, m_28, m_29, m_30, m_31, m_32, m_33, m_34, m_35, m_36, m_37, m_38, m_39, m_40, m_41, m_42, m_43, m_44, m_45, m_46, m_47, m_48, m_49, m_50, m_51, m_52, m_53, m_54, m_55, .long sta_, m_57, m_58, m_59]))] sz)) 0 0 (va_A [(m0, .inr (12, [m_0, m_1, m_2, m_3, m_4, m_5, m_6, m_7, m_8, m_9, m_10, m_11, m_12, m_13, m_14, m_15, m_16, m_17, m_18, m_19, m_20, m_21, m_22, m_23, m_24, m_25, m_26, m_27, m_28, m_29, m_30, m_31, m_32, m_33, m_34, m_35, m_36, m_37, m_38, m_39, m_40, m_41, m_42, m_43, m_44, m_45, m_46, m_47, m_48, m_49, m_50, m_51, m_52, m_53, m_54, m_55, .long sta_, m_57, m_58, m_59]))] sz) := by
  refine Met.ofW (cc := cX12_draw) (maxL := 2) (ret := (some .int)) (by decide) rfl ?_
  intro p e s m args below meth c s₁ B hml hv
  obtain ⟨rfl, hsz, hP, hK, hD0, hN⟩ := hv
  have hx := B.exec
  have hb := B.bytes
  have hr := B.returns
  have hts := atoms_spec (ws := wsX12_draw) B.pre
  have hown : s.vm.findClass RX12 = some m.cls := findClass_of_methodNamed B.named
  have hlocks := B.notSynchronized
  subst hsz
  have hD := hD0.self (sz := s.heap.size)
  generalize hAe : va_A [(m0, .inr (12, [m_0, m_1, m_2, m_3, m_4, m_5, m_6, m_7, m_8, m_9, m_10, m_11, m_12, m_13, m_14, m_15, m_16, m_17, m_18, m_19, m_20, m_21, m_22, m_23, m_24, m_25, m_26, m_27, m_28, m_29, m_30, m_31, m_32, m_33, m_34, m_35, m_36, m_37, m_38, m_39, m_40, m_41, m_42, m_43, m_44, m_45, m_46, m_47, m_48, m_49, m_50, m_51, m_52, m_53, m_54, m_55, .long sta_, m_57, m_58, m_59]))] s.heap.size = A at hD ⊢
  have hA : ∀ q : Nat, s.heap.size ≤ q → A q := fun q h => by rw [← hAe]; exact Or.inr h
  have hS : va_S A s.heap s.heap [] := va_S.rf
  have hP : va_P D vwCl [(m0, .inr (12, [m_0, m_1, m_2, m_3, m_4, m_5, m_6, m_7, m_8, m_9, m_10, m_11, m_12, m_13, m_14, m_15, m_16, m_17, m_18, m_19, m_20, m_21, m_22, m_23, m_24, m_25, m_26, m_27, m_28, m_29, m_30, m_31, m_32, m_33, m_34, m_35, m_36, m_37, m_38, m_39, m_40, m_41, m_42, m_43, m_44, m_45, m_46, m_47, m_48, m_49, m_50, m_51, m_52, m_53, m_54, m_55, .long sta_, m_57, m_58, m_59]))] s.heap := hP
  have hl := lv_entry [.ref m0, .int x] (n := 2) (Nat.le_of_ble_eq_true rfl)
  rw [lg_entry_eq]
  generalize (lg_sl [.ref m0, .int x] ++ List.replicate (2 - (lg_sl [.ref m0, .int x]).length) Slot.unset).toArray = ls at hl ⊢
  have hl : lv_has ls 2 [(0, .ref m0), (1, .int x)] := hl
  have hw12 : ∀ w ∈ wsX120, w ∈ wsX12_draw := fun w h => (List.mem_cons_of_mem _ (List.mem_append_right _ h))
  generalize hQ : MQ below _ _ s _ _ _ = Q
  have hE := E_v_draw.eq_def x sta_
  refine lv_aload_n hx hb dX12_draw_0 rfl (lv_at hl 0 rfl) ?_
  refine lv_aload_n hx hb dX12_draw_1 rfl (lv_at hl 0 rfl) ?_
  refine va_get (ci := 12) (v := .long sta_) (C := RX12) (T := TX12) (N := 60) hx hb hts hw12 hown hK hP 0 rfl rfl 56 (by decide) (hts (.fieldLink RX12 553 "SmokeTuneModel" "state" "J") (List.mem_cons_of_mem _ (List.mem_append_left _ (List.mem_of_getElem? (i := 0) rfl)))) (fun _ h9 => h9) rfl dX12_draw_2 ?_
  refine lv_ldc2 (v := 1103) hx hb hown (hts (.constantLong RX12 556 (1103)) (List.mem_cons_of_mem _ (List.mem_append_left _ (List.mem_of_getElem? (i := 1) rfl)))) dX12_draw_5 ?_
  refine lv_lmul hx hb dX12_draw_8 ?_
  refine lv_topl (fun x_73 ex_73 => ?_)
  replace hE := hE.trans (Lt_in ex_73)
  have hx_73 : x_73.toInt = (sta_.toInt * 1103) := by rw [ex_73]; exact l_mul rfl (show (1103 : Int64).toInt = 1103 from rfl) (by omega)
  refine lv_ldc2 (v := 12345) hx hb hown (hts (.constantLong RX12 558 (12345)) (List.mem_cons_of_mem _ (List.mem_append_left _ (List.mem_of_getElem? (i := 2) rfl)))) dX12_draw_9 ?_
  refine lv_ladd hx hb dX12_draw_12 ?_
  refine lv_topl (fun x_74 ex_74 => ?_)
  replace hE := hE.trans (Lt_in ex_74)
  have hx_74 : x_74.toInt = ((sta_.toInt * 1103) + 12345) := by rw [ex_74]; exact l_add hx_73 (show (12345 : Int64).toInt = 12345 from rfl) (by omega)
  refine lv_ldc2 (v := 1000003) hx hb hown (hts (.constantLong RX12 560 (1000003)) (List.mem_cons_of_mem _ (List.mem_append_left _ (List.mem_of_getElem? (i := 3) rfl)))) dX12_draw_13 ?_
  refine lv_lrem hx hb dX12_draw_16 (by decide) ?_
  refine lv_topl (fun x_75 ex_75 => ?_)
  replace hE := hE.trans (Lt_in ex_75)
  have hx_75 : x_75.toInt = (((sta_.toInt * 1103) + 12345) % 1000003) := by rw [ex_75]; exact l_rem hx_74 (show (1000003 : Int64).toInt = 1000003 from rfl) (by omega) (by omega)
  refine va_put (ci := 12) (v := .long x_75) (ty := .long) (C := RX12) (T := TX12) (N := 60) hx hb hts hw12 tyX12 tyX12_ok nmX12 hown hK hP hD hS 0 rfl rfl 56 (by decide) (hts (.fieldLink RX12 553 "SmokeTuneModel" "state" "J") (List.mem_cons_of_mem _ (List.mem_append_left _ (List.mem_of_getElem? (i := 0) rfl)))) (fun _ h9 => h9) rfl (by decide +kernel) (by first | rfl | decide) (by first | rfl | decide) (Nat.le_of_ble_eq_true rfl) dX12_draw_17 (fun H locs hP hD hS => ?_)
  have hP : va_P D vwCl [(m0, .inr (12, [m_0, m_1, m_2, m_3, m_4, m_5, m_6, m_7, m_8, m_9, m_10, m_11, m_12, m_13, m_14, m_15, m_16, m_17, m_18, m_19, m_20, m_21, m_22, m_23, m_24, m_25, m_26, m_27, m_28, m_29, m_30, m_31, m_32, m_33, m_34, m_35, m_36, m_37, m_38, m_39, m_40, m_41, m_42, m_43, m_44, m_45, m_46, m_47, m_48, m_49, m_50, m_51, m_52, m_53, m_54, m_55, .long x_75, m_57, m_58, m_59]))] H := hP
  have hD : va_D A [(m0, .inr (12, [m_0, m_1, m_2, m_3, m_4, m_5, m_6, m_7, m_8, m_9, m_10, m_11, m_12, m_13, m_14, m_15, m_16, m_17, m_18, m_19, m_20, m_21, m_22, m_23, m_24, m_25, m_26, m_27, m_28, m_29, m_30, m_31, m_32, m_33, m_34, m_35, m_36, m_37, m_38, m_39, m_40, m_41, m_42, m_43, m_44, m_45, m_46, m_47, m_48, m_49, m_50, m_51, m_52, m_53, m_54, m_55, .long x_75, m_57, m_58, m_59]))] := hD
  refine lv_aload_n hx hb dX12_draw_20 rfl (lv_at hl 0 rfl) ?_
  refine va_get (ci := 12) (v := .long x_75) (C := RX12) (T := TX12) (N := 60) hx hb hts hw12 hown hK hP 0 rfl rfl 56 (by decide) (hts (.fieldLink RX12 553 "SmokeTuneModel" "state" "J") (List.mem_cons_of_mem _ (List.mem_append_left _ (List.mem_of_getElem? (i := 0) rfl)))) (fun _ h9 => h9) rfl dX12_draw_21 ?_
  refine lv_iload_n hx hb dX12_draw_24 rfl (lv_at hl 1 rfl) ?_
  refine lv_i2l hx hb dX12_draw_25 rfl ?_
  refine lv_topl (fun x_76 ex_76 => ?_)
  replace hE := hE.trans (Lt_in ex_76)
  have hx_76 : x_76.toInt = x.toInt := by rw [ex_76]; exact i_wide rfl
  refine lv_lrem hx hb dX12_draw_26 (fun h9 => by have h8 := l_eq (x := x.toInt) (y := 0) hx_76 rfl h9; omega) ?_
  refine lv_topl (fun x_77 ex_77 => ?_)
  replace hE := hE.trans (Lt_in ex_77)
  have hx_77 : 0 ≤ x_77.toInt ∧ x_77.toInt < x.toInt := by rw [ex_77]; exact l_remb hx_75 hx_76 (by omega) (by omega)
  refine lv_l2i hx hb dX12_draw_27 rfl ?_
  refine lv_topi (fun x_78 ex_78 => ?_)
  replace hE := hE.trans (Lt_in ex_78)
  have hx_78 : x_78.toInt = x_77.toInt := by rw [ex_78]; exact l_nar rfl (by omega)
  rw [← hQ]
  have hP9 := hP.sub (ws' := [(m0, .inr (12, [m_0, m_1, m_2, m_3, m_4, m_5, m_6, m_7, m_8, m_9, m_10, m_11, m_12, m_13, m_14, m_15, m_16, m_17, m_18, m_19, m_20, m_21, m_22, m_23, m_24, m_25, m_26, m_27, m_28, m_29, m_30, m_31, m_32, m_33, m_34, m_35, m_36, m_37, m_38, m_39, m_40, m_41, m_42, m_43, m_44, m_45, m_46, m_47, m_48, m_49, m_50, m_51, m_52, m_53, m_54, m_55, .long x_75, m_57, m_58, m_59]))]) [0] rfl
  have hD9 := hD.sub (ws' := [(m0, .inr (12, [m_0, m_1, m_2, m_3, m_4, m_5, m_6, m_7, m_8, m_9, m_10, m_11, m_12, m_13, m_14, m_15, m_16, m_17, m_18, m_19, m_20, m_21, m_22, m_23, m_24, m_25, m_26, m_27, m_28, m_29, m_30, m_31, m_32, m_33, m_34, m_35, m_36, m_37, m_38, m_39, m_40, m_41, m_42, m_43, m_44, m_45, m_46, m_47, m_48, m_49, m_50, m_51, m_52, m_53, m_54, m_55, .long x_75, m_57, m_58, m_59]))]) [0] (by decide) rfl
  exact W.iret (v := x_78) hx hb hr (fun t ht hW => ⟨⟨x_78, ((fun _ => 0, fun _ => fun _ => 0, fun _ => fun _ => 0, fun _ => 0, fun i => match i with | _ => x_75, fun _ => fun _ => none) : Su), rfl, ⟨(show 0 ≤ x_78.toInt ∧ x_78.toInt ≤ 7 by rw [hx_78]; omega), (show 0 ≤ (x_75 : Int64).toInt ∧ (x_75 : Int64).toInt ≤ 1000002 by rw [hx_75]; omega), hE.symm, trivial⟩, (⟨by rw [ht]; exact hP9, hD9⟩ : Wd D A _ t)⟩, hS.F ht⟩) hS.2.2 dX12_draw_28
