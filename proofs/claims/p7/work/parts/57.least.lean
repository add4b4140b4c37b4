theorem dX12_coalBy_0 : decode cX12_coalBy 0 = .ok (.bipush 63, 2) := by decide +kernel
theorem dX12_coalBy_2 : decode cX12_coalBy 2 = .ok (.iload_n 1, 1) := by decide +kernel
theorem dX12_coalBy_3 : decode cX12_coalBy 3 = .ok (.imul, 1) := by decide +kernel
theorem dX12_coalBy_4 : decode cX12_coalBy 4 = .ok (.iconst 3, 1) := by decide +kernel
theorem dX12_coalBy_5 : decode cX12_coalBy 5 = .ok (.iload_n 2, 1) := by decide +kernel
theorem dX12_coalBy_6 : decode cX12_coalBy 6 = .ok (.imul, 1) := by decide +kernel
theorem dX12_coalBy_7 : decode cX12_coalBy 7 = .ok (.iadd, 1) := by decide +kernel
theorem dX12_coalBy_8 : decode cX12_coalBy 8 = .ok (.iload_n 3, 1) := by decide +kernel
theorem dX12_coalBy_9 : decode cX12_coalBy 9 = .ok (.iadd, 1) := by decide +kernel
theorem dX12_coalBy_10 : decode cX12_coalBy 10 = .ok (.istore 4, 2) := by decide +kernel
theorem dX12_coalBy_12 : decode cX12_coalBy 12 = .ok (.aload_n 0, 1) := by decide +kernel
theorem dX12_coalBy_13 : decode cX12_coalBy 13 = .ok (.getfield 117, 3) := by decide +kernel
theorem dX12_coalBy_16 : decode cX12_coalBy 16 = .ok (.iload 4, 2) := by decide +kernel
theorem dX12_coalBy_18 : decode cX12_coalBy 18 = .ok (.baload, 1) := by decide +kernel
theorem dX12_coalBy_19 : decode cX12_coalBy 19 = .ok (.ifCond .ne 9, 3) := by decide +kernel
theorem dX12_coalBy_28 : decode cX12_coalBy 28 = .ok (.iload_n 3, 1) := by decide +kernel
theorem dX12_coalBy_29 : decode cX12_coalBy 29 = .ok (.i2l, 1) := by decide +kernel
theorem dX12_coalBy_30 : decode cX12_coalBy 30 = .ok (.aload_n 0, 1) := by decide +kernel
theorem dX12_coalBy_31 : decode cX12_coalBy 31 = .ok (.getfield 111, 3) := by decide +kernel
theorem dX12_coalBy_34 : decode cX12_coalBy 34 = .ok (.bipush 21, 2) := by decide +kernel
theorem dX12_coalBy_36 : decode cX12_coalBy 36 = .ok (.iload_n 1, 1) := by decide +kernel
theorem dX12_coalBy_37 : decode cX12_coalBy 37 = .ok (.iconst 1, 1) := by decide +kernel
theorem dX12_coalBy_38 : decode cX12_coalBy 38 = .ok (.iadd, 1) := by decide +kernel
theorem dX12_coalBy_39 : decode cX12_coalBy 39 = .ok (.imul, 1) := by decide +kernel
theorem dX12_coalBy_40 : decode cX12_coalBy 40 = .ok (.aload_n 0, 1) := by decide +kernel
theorem dX12_coalBy_41 : decode cX12_coalBy 41 = .ok (.getfield 114, 3) := by decide +kernel
theorem dX12_coalBy_44 : decode cX12_coalBy 44 = .ok (.iload 4, 2) := by decide +kernel
theorem dX12_coalBy_46 : decode cX12_coalBy 46 = .ok (.iaload, 1) := by decide +kernel
theorem dX12_coalBy_47 : decode cX12_coalBy 47 = .ok (.iadd, 1) := by decide +kernel
theorem dX12_coalBy_48 : decode cX12_coalBy 48 = .ok (.iaload, 1) := by decide +kernel
theorem dX12_coalBy_49 : decode cX12_coalBy 49 = .ok (.i2l, 1) := by decide +kernel
theorem dX12_coalBy_50 : decode cX12_coalBy 50 = .ok (.ladd, 1) := by decide +kernel
theorem dX12_coalBy_51 : decode cX12_coalBy 51 = .ok (.iconst 0, 1) := by decide +kernel
theorem dX12_coalBy_52 : decode cX12_coalBy 52 = .ok (.ldc_w 476, 3) := by decide +kernel
theorem dX12_coalBy_55 : decode cX12_coalBy 55 = .ok (.invokestatic 419, 3) := by decide +kernel
theorem dX12_coalBy_58 : decode cX12_coalBy 58 = .ok (.ireturn, 1) := by decide +kernel
theorem dX12_coalBy_22 : decode cX12_coalBy 22 = .ok (.ldc_w 476, 3) := by decide +kernel
theorem dX12_coalBy_25 : decode cX12_coalBy 25 = .ok (.goto 33, 3) := by decide +kernel
theorem dX12_layHour_0 : decode cX12_layHour 0 = .ok (.iconst 0, 1) := by decide +kernel
theorem dX12_layHour_1 : decode cX12_layHour 1 = .ok (.istore 4, 2) := by decide +kernel
theorem dX12_layHour_3 : decode cX12_layHour 3 = .ok (.iload 4, 2) := by decide +kernel
theorem dX12_layHour_5 : decode cX12_layHour 5 = .ok (.bipush 20, 2) := by decide +kernel
theorem dX12_layHour_7 : decode cX12_layHour 7 = .ok (.if_icmp .gt 159, 3) := by decide +kernel
theorem dX12_layHour_10 : decode cX12_layHour 10 = .ok (.aload_n 0, 1) := by decide +kernel
theorem dX12_layHour_11 : decode cX12_layHour 11 = .ok (.getfield 13, 3) := by decide +kernel
theorem dX12_layHour_14 : decode cX12_layHour 14 = .ok (.bipush 11, 2) := by decide +kernel
theorem dX12_layHour_16 : decode cX12_layHour 16 = .ok (.iload_n 1, 1) := by decide +kernel
theorem dX12_layHour_17 : decode cX12_layHour 17 = .ok (.iadd, 1) := by decide +kernel
theorem dX12_layHour_18 : decode cX12_layHour 18 = .ok (.iload 4, 2) := by decide +kernel
theorem dX12_layHour_20 : decode cX12_layHour 20 = .ok (.iastore, 1) := by decide +kernel
theorem dX12_layHour_21 : decode cX12_layHour 21 = .ok (.iconst 1, 1) := by decide +kernel
theorem dX12_layHour_22 : decode cX12_layHour 22 = .ok (.istore 5, 2) := by decide +kernel
theorem dX12_layHour_24 : decode cX12_layHour 24 = .ok (.iconst 0, 1) := by decide +kernel
theorem dX12_layHour_25 : decode cX12_layHour 25 = .ok (.istore 6, 2) := by decide +kernel
theorem dX12_layHour_27 : decode cX12_layHour 27 = .ok (.iload 6, 2) := by decide +kernel
theorem dX12_layHour_29 : decode cX12_layHour 29 = .ok (.iconst 3, 1) := by decide +kernel
theorem dX12_layHour_30 : decode cX12_layHour 30 = .ok (.if_icmp .ge 130, 3) := by decide +kernel
theorem dX12_layHour_33 : decode cX12_layHour 33 = .ok (.iload 5, 2) := by decide +kernel
theorem dX12_layHour_35 : decode cX12_layHour 35 = .ok (.ifCond .eq 20, 3) := by decide +kernel
theorem dX12_layHour_38 : decode cX12_layHour 38 = .ok (.iload 6, 2) := by decide +kernel
theorem dX12_layHour_40 : decode cX12_layHour 40 = .ok (.ifCond .eq 11, 3) := by decide +kernel
theorem dX12_layHour_51 : decode cX12_layHour 51 = .ok (.iconst 1, 1) := by decide +kernel
theorem dX12_layHour_52 : decode cX12_layHour 52 = .ok (.goto 4, 3) := by decide +kernel
theorem dX12_layHour_56 : decode cX12_layHour 56 = .ok (.istore 5, 2) := by decide +kernel
theorem dX12_layHour_58 : decode cX12_layHour 58 = .ok (.iload 6, 2) := by decide +kernel
theorem dX12_layHour_60 : decode cX12_layHour 60 = .ok (.ifCond .le 19, 3) := by decide +kernel
theorem dX12_layHour_79 : decode cX12_layHour 79 = .ok (.bipush 63, 2) := by decide +kernel
theorem dX12_layHour_81 : decode cX12_layHour 81 = .ok (.iload_n 2, 1) := by decide +kernel
theorem dX12_layHour_82 : decode cX12_layHour 82 = .ok (.imul, 1) := by decide +kernel
theorem dX12_layHour_83 : decode cX12_layHour 83 = .ok (.iconst 3, 1) := by decide +kernel
theorem dX12_layHour_84 : decode cX12_layHour 84 = .ok (.iload 4, 2) := by decide +kernel
theorem dX12_layHour_86 : decode cX12_layHour 86 = .ok (.imul, 1) := by decide +kernel
theorem dX12_layHour_87 : decode cX12_layHour 87 = .ok (.iadd, 1) := by decide +kernel
theorem dX12_layHour_88 : decode cX12_layHour 88 = .ok (.iload 6, 2) := by decide +kernel
theorem dX12_layHour_90 : decode cX12_layHour 90 = .ok (.iadd, 1) := by decide +kernel
theorem dX12_layHour_91 : decode cX12_layHour 91 = .ok (.istore 7, 2) := by decide +kernel
theorem dX12_layHour_93 : decode cX12_layHour 93 = .ok (.aload_n 0, 1) := by decide +kernel
theorem dX12_layHour_94 : decode cX12_layHour 94 = .ok (.getfield 117, 3) := by decide +kernel
theorem dX12_layHour_97 : decode cX12_layHour 97 = .ok (.iload 7, 2) := by decide +kernel
theorem dX12_layHour_99 : decode cX12_layHour 99 = .ok (.iload 5, 2) := by decide +kernel
theorem dX12_layHour_101 : decode cX12_layHour 101 = .ok (.ifCond .eq 16, 3) := by decide +kernel
theorem dX12_layHour_104 : decode cX12_layHour 104 = .ok (.aload_n 0, 1) := by decide +kernel
theorem dX12_layHour_105 : decode cX12_layHour 105 = .ok (.iload_n 1, 1) := by decide +kernel
theorem dX12_layHour_106 : decode cX12_layHour 106 = .ok (.invokevirtual 185, 3) := by decide +kernel
theorem dX12_layHour_109 : decode cX12_layHour 109 = .ok (.iload_n 3, 1) := by decide +kernel
theorem dX12_layHour_110 : decode cX12_layHour 110 = .ok (.if_icmp .ne 7, 3) := by decide +kernel
theorem dX12_layHour_117 : decode cX12_layHour 117 = .ok (.iconst 0, 1) := by decide +kernel
theorem dX12_layHour_118 : decode cX12_layHour 118 = .ok (.bastore, 1) := by decide +kernel
theorem dX12_layHour_119 : decode cX12_layHour 119 = .ok (.aload_n 0, 1) := by decide +kernel
theorem dX12_layHour_120 : decode cX12_layHour 120 = .ok (.getfield 114, 3) := by decide +kernel
theorem dX12_layHour_123 : decode cX12_layHour 123 = .ok (.iload 7, 2) := by decide +kernel
theorem dX12_layHour_125 : decode cX12_layHour 125 = .ok (.aload_n 0, 1) := by decide +kernel
theorem dX12_layHour_126 : decode cX12_layHour 126 = .ok (.getfield 13, 3) := by decide +kernel
theorem dX12_layHour_129 : decode cX12_layHour 129 = .ok (.bipush 11, 2) := by decide +kernel
theorem dX12_layHour_131 : decode cX12_layHour 131 = .ok (.iload_n 1, 1) := by decide +kernel
theorem dX12_layHour_132 : decode cX12_layHour 132 = .ok (.iadd, 1) := by decide +kernel
theorem dX12_layHour_133 : decode cX12_layHour 133 = .ok (.iaload, 1) := by decide +kernel
theorem dX12_layHour_134 : decode cX12_layHour 134 = .ok (.aload_n 0, 1) := by decide +kernel
theorem dX12_layHour_135 : decode cX12_layHour 135 = .ok (.aload_n 0, 1) := by decide +kernel
theorem dX12_layHour_136 : decode cX12_layHour 136 = .ok (.getfield 13, 3) := by decide +kernel
theorem dX12_layHour_139 : decode cX12_layHour 139 = .ok (.iconst 3, 1) := by decide +kernel
theorem dX12_layHour_140 : decode cX12_layHour 140 = .ok (.iaload, 1) := by decide +kernel
theorem dX12_layHour_141 : decode cX12_layHour 141 = .ok (.iload_n 1, 1) := by decide +kernel
theorem dX12_layHour_142 : decode cX12_layHour 142 = .ok (.invokevirtual 200, 3) := by decide +kernel
theorem dX12_layHour_145 : decode cX12_layHour 145 = .ok (.isub, 1) := by decide +kernel
theorem dX12_layHour_146 : decode cX12_layHour 146 = .ok (.i2l, 1) := by decide +kernel
theorem dX12_layHour_147 : decode cX12_layHour 147 = .ok (.iconst 0, 1) := by decide +kernel
theorem dX12_layHour_148 : decode cX12_layHour 148 = .ok (.bipush 20, 2) := by decide +kernel
theorem dX12_layHour_150 : decode cX12_layHour 150 = .ok (.invokestatic 419, 3) := by decide +kernel
theorem dX12_layHour_153 : decode cX12_layHour 153 = .ok (.iastore, 1) := by decide +kernel
theorem dX12_layHour_154 : decode cX12_layHour 154 = .ok (.iinc 6 1, 3) := by decide +kernel
theorem dX12_layHour_157 : decode cX12_layHour 157 = .ok (.goto (-130), 3) := by decide +kernel
theorem dX12_layHour_113 : decode cX12_layHour 113 = .ok (.iconst 1, 1) := by decide +kernel
theorem dX12_layHour_114 : decode cX12_layHour 114 = .ok (.goto 4, 3) := by decide +kernel
theorem dX12_layHour_43 : decode cX12_layHour 43 = .ok (.aload_n 0, 1) := by decide +kernel
theorem dX12_layHour_44 : decode cX12_layHour 44 = .ok (.iload_n 1, 1) := by decide +kernel
theorem dX12_layHour_45 : decode cX12_layHour 45 = .ok (.invokevirtual 207, 3) := by decide +kernel
theorem dX12_layHour_48 : decode cX12_layHour 48 = .ok (.ifCond .ne 7, 3) := by decide +kernel
theorem dX12_layHour_63 : decode cX12_layHour 63 = .ok (.iload 5, 2) := by decide +kernel
theorem dX12_layHour_65 : decode cX12_layHour 65 = .ok (.ifCond .eq 14, 3) := by decide +kernel
theorem dX12_layHour_68 : decode cX12_layHour 68 = .ok (.aload_n 0, 1) := by decide +kernel
theorem dX12_layHour_69 : decode cX12_layHour 69 = .ok (.aload_n 0, 1) := by decide +kernel
theorem dX12_layHour_70 : decode cX12_layHour 70 = .ok (.getfield 13, 3) := by decide +kernel
theorem dX12_layHour_73 : decode cX12_layHour 73 = .ok (.iconst 3, 1) := by decide +kernel
theorem dX12_layHour_74 : decode cX12_layHour 74 = .ok (.iaload, 1) := by decide +kernel
theorem dX12_layHour_75 : decode cX12_layHour 75 = .ok (.iload_n 1, 1) := by decide +kernel
theorem dX12_layHour_76 : decode cX12_layHour 76 = .ok (.invokevirtual 442, 3) := by decide +kernel
theorem dX12_layHour_55 : decode cX12_layHour 55 = .ok (.iconst 0, 1) := by decide +kernel
theorem dX12_layHour_160 : decode cX12_layHour 160 = .ok (.iinc 4 1, 3) := by decide +kernel
theorem dX12_layHour_163 : decode cX12_layHour 163 = .ok (.goto (-160), 3) := by decide +kernel
theorem dX12_layHour_166 : decode cX12_layHour 166 = .ok (.return_, 1) := by decide +kernel
set_option maxRecDepth 20000 in
theorem ggX12_coalBy_X12_within : GoodIn wsX12_coalBy wsX12_within := goodIn_r _ [8] (by decide +kernel) (by decide +kernel)
set_option maxRecDepth 20000 in
theorem gX12_coalBy_X12_within : GoodIn wsX12_coalBy (va_wsS RX12 419 yX12_within wsX12_within) := goodIn_app (goodIn_of _ (by decide +kernel)) ggX12_coalBy_X12_within
set_option maxRecDepth 100000 in
set_option maxHeartbeats 4000000 in
theorem ggX12_layHour_X12_burnsOf : GoodIn wsX12_layHour wsX12_burnsOf := goodIn_q _ [72, 12, 19, 23, 29, 41, 45, 48, 52, 56, 68] [9, 10, 11, 7, 13, 14, 1, 15, 16, 17, 18, 20, 21, 22, 24, 25, 26, 27, 28, 30, 31, 32, 33, 34, 35, 36, 37, 38, 39, 40, 42, 43, 44, 46, 47, 49, 50, 51, 53, 54, 55, 66, 67, 73, 74, 75, 76, 77, 78, 79, 80, 81, 82, 83, 84, 85, 86, 87, 88, 89, 90, 91, 92, 93, 94, 95, 96, 97, 98, 99, 100, 101, 102, 103, 104, 105, 106, 107, 108, 109, 110, 111, 112, 113, 114, 115, 116, 117, 118, 119, 120, 121, 122, 123, 124, 125, 126, 127, 128, 129, 130, 131, 132] rfl (by decide +kernel) (by decide +kernel)
set_option maxRecDepth 20000 in
theorem gX12_layHour_X12_burnsOf : GoodIn wsX12_layHour (wsV RX12 200 RX12 yX12_burnsOf wsX12_burnsOf) := goodIn_app (goodIn_of _ (by decide +kernel)) ggX12_layHour_X12_burnsOf
set_option maxRecDepth 20000 in
theorem ggX12_layHour_X12_within : GoodIn wsX12_layHour wsX12_within := goodIn_r _ [68] (by decide +kernel) (by decide +kernel)
set_option maxRecDepth 20000 in
theorem gX12_layHour_X12_within : GoodIn wsX12_layHour (va_wsS RX12 419 yX12_within wsX12_within) := goodIn_app (goodIn_of _ (by decide +kernel)) ggX12_layHour_X12_within
set_option maxRecDepth 100000 in
set_option maxHeartbeats 4000000 in
theorem ggX12_layHour_X12_isSounding : GoodIn wsX12_layHour wsX12_isSounding := goodIn_q _ [45, 19, 48] [1, 16, 17, 18, 7, 46, 47, 73, 74, 75, 76, 77, 78, 79, 80, 81, 82, 83, 84, 85, 86, 87, 88, 89, 90, 91, 92, 93, 94, 95, 96, 97, 98, 99, 100, 101, 102, 103, 104, 105, 106, 107, 108, 109, 110, 111, 112, 113, 114, 115, 116, 117, 118, 119, 120, 121, 122, 123, 124, 125, 126, 127, 128, 129, 130, 131, 132] rfl (by decide +kernel) (by decide +kernel)
set_option maxRecDepth 20000 in
theorem gX12_layHour_X12_isSounding : GoodIn wsX12_layHour (wsV RX12 185 RX12 yX12_isSounding wsX12_isSounding) := goodIn_app (goodIn_of _ (by decide +kernel)) ggX12_layHour_X12_isSounding
set_option maxRecDepth 100000 in
set_option maxHeartbeats 4000000 in
theorem ggX12_layHour_X12_flare : GoodIn wsX12_layHour wsX12_flare := goodIn_q _ [60, 64, 12, 19, 23, 29, 41, 45, 48, 52, 56, 68] [1, 61, 62, 63, 7, 65, 9, 10, 11, 13, 14, 15, 16, 17, 18, 20, 21, 22, 24, 25, 26, 27, 28, 30, 31, 32, 33, 34, 35, 36, 37, 38, 39, 40, 42, 43, 44, 46, 47, 49, 50, 51, 53, 54, 55, 66, 67, 73, 74, 75, 76, 77, 78, 79, 80, 81, 82, 83, 84, 85, 86, 87, 88, 89, 90, 91, 92, 93, 94, 95, 96, 97, 98, 99, 100, 101, 102, 103, 104, 105, 106, 107, 108, 109, 110, 111, 112, 113, 114, 115, 116, 117, 118, 119, 120, 121, 122, 123, 124, 125, 126, 127, 128, 129, 130, 131, 132] rfl (by decide +kernel) (by decide +kernel)
set_option maxRecDepth 20000 in
theorem gX12_layHour_X12_flare : GoodIn wsX12_layHour (wsV RX12 442 RX12 yX12_flare wsX12_flare) := goodIn_app (goodIn_of _ (by decide +kernel)) ggX12_layHour_X12_flare
set_option maxRecDepth 100000 in
set_option maxHeartbeats 4000000 in
theorem ggX12_layHour_X12_isBarred : GoodIn wsX12_layHour wsX12_isBarred := goodIn_q _ [8, 12, 19, 23, 29, 41, 45, 48, 52, 56] [1, 9, 10, 11, 7, 13, 14, 15, 16, 17, 18, 20, 21, 22, 24, 25, 26, 27, 28, 30, 31, 32, 33, 34, 35, 36, 37, 38, 39, 40, 42, 43, 44, 46, 47, 49, 50, 51, 53, 54, 55, 73, 74, 75, 76, 77, 78, 79, 80, 81, 82, 83, 84, 85, 86, 87, 88, 89, 90, 91, 92, 93, 94, 95, 96, 97, 98, 99, 100, 101, 102, 103, 104, 105, 106, 107, 108, 109, 110, 111, 112, 113, 114, 115, 116, 117, 118, 119, 120, 121, 122, 123, 124, 125, 126, 127, 128, 129, 130, 131, 132] rfl (by decide +kernel) (by decide +kernel)
set_option maxRecDepth 20000 in
theorem gX12_layHour_X12_isBarred : GoodIn wsX12_layHour (wsV RX12 207 RX12 yX12_isBarred wsX12_isBarred) := goodIn_app (goodIn_of _ (by decide +kernel)) ggX12_layHour_X12_isBarred
def wi (v : Int) : Int := if v < 0 then 0 else if 100000000 < v then 100000000 else v
theorem wi_rng (v : Int) : 0 ≤ wi v ∧ wi v ≤ 100000000 := by
  unfold wi
  split
  · omega
  · split <;> omega
def cbv (fi ft fl : Nat → Int32) (k f n : Int) : Int := if fi (63 * k + 3 * f + n).toNat = 0 then 100000000 else wi (n + (fl (21 * (k + 1) + (ft (63 * k + 3 * f + n).toNat).toInt).toNat).toInt)
theorem cbv_rng (fi ft fl : Nat → Int32) (k f n : Int) : 0 ≤ cbv fi ft fl k f n ∧ cbv fi ft fl k f n ≤ 100000000 := by
  unfold cbv
  split
  · omega
  · exact wi_rng _
def Mn (fi ft fl : Nat → Int32) (k f m v : Int) : Prop := (v = 100000000 ∨ ∃ m', 0 ≤ m' ∧ m' < m ∧ v = cbv fi ft fl k f m') ∧ ∀ m', 0 ≤ m' → m' < m → v ≤ cbv fi ft fl k f m'
theorem Mn.base {fi ft fl : Nat → Int32} {k f : Int} : Mn fi ft fl k f 0 100000000 := ⟨Or.inl rfl, fun m' h1 h2 => absurd h2 (by omega)⟩
theorem Mn.lt {fi ft fl : Nat → Int32} {k f m v r : Int} (h : Mn fi ft fl k f m v) (hm : 0 ≤ m) (hr : r = cbv fi ft fl k f m) (hl : r < v) : Mn fi ft fl k f (m + 1) r := by
  refine ⟨Or.inr ⟨m, hm, by omega, hr⟩, fun m' h1 h2 => ?_⟩
  by_cases e : m' = m
  · subst e; omega
  · have := h.2 m' h1 (by omega)
    omega
theorem Mn.ge {fi ft fl : Nat → Int32} {k f m v r : Int} (h : Mn fi ft fl k f m v) (hr : r = cbv fi ft fl k f m) (hl : v ≤ r) : Mn fi ft fl k f (m + 1) v := by
  refine ⟨?_, fun m' h1 h2 => ?_⟩
  · rcases h.1 with e | ⟨m', h1, h2, h3⟩
    · exact Or.inl e
    · exact Or.inr ⟨m', h1, by omega, h3⟩
  · by_cases e : m' = m
    · subst e; omega
    · exact h.2 m' h1 (by omega)
theorem Mn.fin {fi ft fl : Nat → Int32} {k f v : Int} (h : Mn fi ft fl k f 3 v) : ∃ m', 0 ≤ m' ∧ m' ≤ 2 ∧ v = cbv fi ft fl k f m' := by
  rcases h.1 with e | ⟨m', h1, h2, h3⟩
  · have h0 := h.2 0 (by omega) (by omega)
    have hr := cbv_rng fi ft fl k f 0
    exact ⟨0, by omega, by omega, by omega⟩
  · exact ⟨m', h1, by omega, h3⟩
def LOK (fi ft fl : Nat → Int32) (k0 f0 n : Int) : Prop := ∀ k f : Int, 0 ≤ k → k < n → 0 ≤ f → f ≤ 20 → (k0 < k ∨ (k = k0 ∧ f < f0)) → ∃ m : Int, 0 ≤ m ∧ m ≤ 2 ∧ (fl (21 * k + f).toNat).toInt = cbv fi ft fl k f m
theorem LOK.base {fi ft fl : Nat → Int32} {k0 n : Int} (h : k0 + 1 = n) : LOK fi ft fl k0 0 n := fun k f h1 h2 h3 h4 h5 => absurd h5 (by omega)
theorem LOK.down {fi ft fl : Nat → Int32} {k0 f0 n : Int} (h : LOK fi ft fl k0 f0 n) (hf : 20 < f0) : LOK fi ft fl (k0 - 1) 0 n := fun k f h1 h2 h3 h4 h5 => h k f h1 h2 h3 h4 (by omega)
theorem LOK.put {fi ft fl : Nat → Int32} {k0 f0 n : Int} {v : Int32} (h : LOK fi ft fl k0 f0 n) (hk : 0 ≤ k0 ∧ n ≤ 12) (hf : 0 ≤ f0 ∧ f0 ≤ 20) (ht : Rg 819 0 20 ft) (hv : ∃ m', 0 ≤ m' ∧ m' ≤ 2 ∧ v.toInt = cbv fi ft fl k0 f0 m') : LOK fi ft (upd fl (21 * k0 + f0).toNat v) k0 (f0 + 1) n := by
  intro k f h1 h2 h3 h4 h5
  have same : ∀ m, 0 ≤ m → m ≤ 2 → cbv fi ft (upd fl (21 * k0 + f0).toNat v) k f m = cbv fi ft fl k f m := by
    intro m m1 m2
    unfold cbv
    have hr := ht (63 * k + 3 * f + m).toNat (by omega)
    rw [pk_un (show ¬ (21 * (k + 1) + (ft (63 * k + 3 * f + m).toNat).toInt).toNat = (21 * k0 + f0).toNat by omega)]
  by_cases e : k = k0 ∧ f = f0
  · obtain ⟨rfl, rfl⟩ := e
    obtain ⟨m', m1, m2, m3⟩ := hv
    exact ⟨m', m1, m2, by rw [pk_us, same m' m1 m2]; exact m3⟩
  · obtain ⟨m, m1, m2, m3⟩ := h k f h1 h2 h3 h4 (by omega)
    exact ⟨m, m1, m2, by rw [pk_un (show ¬ (21 * k + f).toNat = (21 * k0 + f0).toNat by omega), same m m1 m2]; exact m3⟩
def WLe (fi ft fl : Nat → Int32) (k f i : Int) : Prop := ∃ m, i ≤ m ∧ 0 ≤ i ∧ m ≤ 2 ∧ (fl (21 * k + f).toNat).toInt = cbv fi ft fl k f m
theorem WLe.base {fi ft fl : Nat → Int32} {k f n : Int} (h : LOK fi ft fl (-1) 0 n) (hk : 0 ≤ k ∧ k < n) (hf : 0 ≤ f ∧ f ≤ 20) : WLe fi ft fl k f 0 := by
  obtain ⟨m, m1, m2, m3⟩ := h k f hk.1 hk.2 hf.1 hf.2 (by omega)
  exact ⟨m, m1, by omega, m2, m3⟩
theorem WLe.next {fi ft fl : Nat → Int32} {k f i r x : Int} (h : WLe fi ft fl k f i) (hr : r = cbv fi ft fl k f i) (hx : x = (fl (21 * k + f).toNat).toInt) (hn : r ≠ x) : i + 1 ≤ 2 ∧ WLe fi ft fl k f (i + 1) := by
  obtain ⟨m, m1, m0, m2, m3⟩ := h
  have : i ≠ m := fun e => hn (by rw [hr, hx, m3, e])
  exact ⟨by omega, m, by omega, by omega, m2, m3⟩
set_option maxHeartbeats 4000000 in
set_option maxRecDepth 100000 in
theorem v_withinX (l : Launch) (D : va_G) (K : Nat → ClassId) (x : Int64) (sz : Nat) : Met l yX12_within wsX12_within ({ frames := 0, cells := 0, slots := 0, locals := 0 }) (va_Pc [.long x, .int 0, .int 100000000] (Pre D K [] sz)) (vp_Si (fun r : Int32 => r.toInt = wi x.toInt ∧ True)) 0 0 (fun _ => False) := by
  refine Met.ofW (cc := cX12_within) (maxL := 4) (ret := (some .int)) (by decide) rfl ?_
  intro p e s m args below meth c s₁ B hml hv
  obtain ⟨rfl, hsz, hP, hK, hD0, hN⟩ := hv
  have hx := B.exec
  have hb := B.bytes
  have hr := B.returns
  have hts := atoms_spec (ws := wsX12_within) B.pre
  have hown : s.vm.findClass RX12 = some m.cls := findClass_of_methodNamed B.named
  have hlocks := B.notSynchronized
  subst hsz
  have hD := hD0
  have hP : va_P D vwCl [] s.heap := hP
  have hl := lv_entry [.long x, .int 0, .int 100000000] (n := 4) (Nat.le_of_ble_eq_true rfl)
  rw [lg_entry_eq]
  generalize (lg_sl [.long x, .int 0, .int 100000000] ++ List.replicate (4 - (lg_sl [.long x, .int 0, .int 100000000]).length) Slot.unset).toArray = ls at hl ⊢
  have hl : lv_has ls 4 [(0, .long x), (2, .int 0), (3, .int 100000000)] := hl
  generalize hQ : MQ below _ _ s _ _ _ = Q
  refine lv_lload_n hx hb dX12_within_0 rfl (lv_at hl 0 rfl) ?_
  refine lv_iload_n hx hb dX12_within_1 rfl (lv_at hl 1 rfl) ?_
  refine lv_i2l (v := 0) hx hb dX12_within_2 (by decide) ?_
  refine W.lcmp hx hb dX12_within_3 ?_
  refine lv_if_ge (tgt := 11) hx hb dX12_within_4 (by decide) (fun c_64 => ?_) (fun c_64 => ?_)
  · have c_64i := l_le (x := 0) (y := x.toInt) rfl rfl ((lg_cmp_ge x 0).mp c_64)
    refine lv_lload_n hx hb dX12_within_11 rfl (lv_at hl 0 rfl) ?_
    refine lv_iload_n hx hb dX12_within_12 rfl (lv_at hl 2 rfl) ?_
    refine lv_i2l (v := 100000000) hx hb dX12_within_13 (by decide) ?_
    refine W.lcmp hx hb dX12_within_14 ?_
    refine lv_if_le (tgt := 22) hx hb dX12_within_15 (by decide) (fun c_65 => ?_) (fun c_65 => ?_)
    · have c_65i := l_le (x := x.toInt) (y := 100000000) rfl rfl ((lg_cmp_le x 100000000).mp c_65)
      refine lv_lload_n hx hb dX12_within_22 rfl (lv_at hl 0 rfl) ?_
      refine lv_l2i hx hb dX12_within_23 rfl ?_
      refine lv_topi (fun x_66 ex_66 => ?_)
      have hx_66 : x_66.toInt = x.toInt := by rw [ex_66]; exact l_nar rfl (by omega)
      rw [← hQ]
      exact W.iret (v := x_66) hx hb hr (fun t ht hW => ⟨_, rfl, ⟨(by show x_66.toInt = wi x.toInt; rw [hx_66]; unfold wi; (repeat' split) <;> omega), trivial⟩, ht⟩) (fun q hq => by cases hq) dX12_within_24
    · have c_65i := l_nle (x := x.toInt) (y := 100000000) rfl rfl (fun q => c_65 ((lg_cmp_le x 100000000).mpr q))
      refine lv_iload_n hx hb dX12_within_18 rfl (lv_at hl 2 rfl) ?_
      refine lv_goto (tgt := 24) hx hb dX12_within_19 (by decide) ?_
      rw [← hQ]
      exact W.iret (v := 100000000) hx hb hr (fun t ht hW => ⟨_, rfl, ⟨(by show (100000000 : Int) = wi x.toInt; unfold wi; (repeat' split) <;> omega), trivial⟩, ht⟩) (fun q hq => by cases hq) dX12_within_24
  · have c_64i := l_nle (x := 0) (y := x.toInt) rfl rfl (fun q => c_64 ((lg_cmp_ge x 0).mpr q))
    refine lv_iload_n hx hb dX12_within_7 rfl (lv_at hl 1 rfl) ?_
    refine lv_goto (tgt := 24) hx hb dX12_within_8 (by decide) ?_
    rw [← hQ]
    exact W.iret (v := 0) hx hb hr (fun t ht hW => ⟨_, rfl, ⟨(by show (0 : Int) = wi x.toInt; unfold wi; (repeat' split) <;> omega), trivial⟩, ht⟩) (fun q hq => by cases hq) dX12_within_24
set_option maxHeartbeats 4000000 in
set_option maxRecDepth 100000 in
theorem v_coalBy (l : Launch) (D : va_G) (K : Nat → ClassId) (m0 : Nat) (x : Int32) (y : Int32) (z : Int32) (m_0 : Value) (m_1 : Value) (m_2 : Value) (m_3 : Value) (m_4 : Value) (m_5 : Value) (m_6 : Value) (m_7 : Value) (m_8 : Value) (m_9 : Value) (m_10 : Value) (m_11 : Value) (m_12 : Value) (m_13 : Value) (m_14 : Value) (m_15 : Value) (m_16 : Value) (m_17 : Value) (m_18 : Value) (m_19 : Value) (m_20 : Value) (m_21 : Value) (m_22 : Value) (m_23 : Value) (m_24 : Value) (m_25 : Value) (m_26 : Value) (m_27 : Value) (m_28 : Value) (m_29 : Value) (m_30 : Value) (m_31 : Value) (m_32 : Value) (m_33 : Value) (m_34 : Value) (m_35 : Value) (m_36 : Value) (m_37 : Value) (m_38 : Value) (m_39 : Value) (m_40 : Value) (m_41 : Value) (le : Nat) (tf : Nat) (i3 : Nat) (m_45 : Value) (m_46 : Value) (m_47 : Value) (m_48 : Value) (m_49 : Value) (m_50 : Value) (m_51 : Value) (m_52 : Value) (m_53 : Value) (m_54 : Value) (m_55 : Value) (m_56 : Value) (m_57 : Value) (m_58 : Value) (m_59 : Value) (fi : Nat → Int32) (ft : Nat → Int32) (fl : Nat → Int32) (sz : Nat) (zx : 0 ≤ x.toInt ∧ x.toInt ≤ 11) (zy : 0 ≤ y.toInt ∧ y.toInt ≤ 20) (zz : 0 ≤ z.toInt ∧ z.toInt ≤ 2) (zft : Rg 819 0 20 ft) : Met l yX12_coalBy wsX12_coalBy ({ frames := 1, cells := 0, slots := 0, locals := 23 }) (va_Pc [.ref m0, .int x, .int y, .int z] (Pre D K [(m0, .inr (12, [m_0, m_1, m_2, m_3, m_4, m_5, m_6, m_7, m_8, m_9, m_10, m_11, m_12, m_13, m_14, m_15, m_16, m_17, m_18, m_19, m_20, m_21, m_22, m_23, m_24, m_25, m_26, m_27, m_28, m_29, m_30, m_31, m_32, m_33, m_34, m_35, m_36, m_37, m_38, m_39, m_40, m_41, .ref le, .ref tf, .ref i3, m_45, m_46, m_47, m_48, m_49, m_50, m_51, m_52, m_53, m_54, m_55, m_56, m_57, m_58, m_59])), (i3, .inl (K 1, 819, .inl fi)), (tf, .inl (K 0, 819, .inl ft)), (le, .inl (K 0, 273, .inl fl))] sz)) (vp_Si (fun r : Int32 => (r.toInt = cbv fi ft fl x.toInt y.toInt z.toInt ∧ 0 ≤ r.toInt ∧ r.toInt ≤ 100000000) ∧ True)) 0 0 (fun _ => False) := by
  refine Met.ofW (cc := cX12_coalBy) (maxL := 5) (ret := (some .int)) (by decide) rfl ?_
  intro p e s m args below meth c s₁ B hml hv
  obtain ⟨rfl, hsz, hP, hK, hD0, hN⟩ := hv
  have hx := B.exec
  have hb := B.bytes
  have hr := B.returns
  have hts := atoms_spec (ws := wsX12_coalBy) B.pre
  have hown : s.vm.findClass RX12 = some m.cls := findClass_of_methodNamed B.named
  have hlocks := B.notSynchronized
  subst hsz
  have hD := hD0
  have hP : va_P D vwCl [(m0, .inr (12, [m_0, m_1, m_2, m_3, m_4, m_5, m_6, m_7, m_8, m_9, m_10, m_11, m_12, m_13, m_14, m_15, m_16, m_17, m_18, m_19, m_20, m_21, m_22, m_23, m_24, m_25, m_26, m_27, m_28, m_29, m_30, m_31, m_32, m_33, m_34, m_35, m_36, m_37, m_38, m_39, m_40, m_41, .ref le, .ref tf, .ref i3, m_45, m_46, m_47, m_48, m_49, m_50, m_51, m_52, m_53, m_54, m_55, m_56, m_57, m_58, m_59])), (i3, .inl (K 1, 819, .inl fi)), (tf, .inl (K 0, 819, .inl ft)), (le, .inl (K 0, 273, .inl fl))] s.heap := hP
  have hl := lv_entry [.ref m0, .int x, .int y, .int z] (n := 5) (Nat.le_of_ble_eq_true rfl)
  rw [lg_entry_eq]
  generalize (lg_sl [.ref m0, .int x, .int y, .int z] ++ List.replicate (5 - (lg_sl [.ref m0, .int x, .int y, .int z]).length) Slot.unset).toArray = ls at hl ⊢
  have hl : lv_has ls 5 [(0, .ref m0), (1, .int x), (2, .int y), (3, .int z)] := hl
  have hw12 : ∀ w ∈ wsX120, w ∈ wsX12_coalBy := fun w h => (List.mem_cons_of_mem _ (List.mem_append_right _ h))
  generalize hQ : MQ below _ _ s _ _ _ = Q
  refine lv_bipush (v := 63) hx hb dX12_coalBy_0 (by decide) ?_
  refine lv_iload_n hx hb dX12_coalBy_2 rfl (lv_at hl 1 rfl) ?_
  refine lv_imul hx hb dX12_coalBy_3 ?_
  refine lv_topi (fun x_91 ex_91 => ?_)
  have hx_91 : x_91.toInt = (63 * x.toInt) := by rw [ex_91]; exact i_mul (show (63 : Int32).toInt = 63 from rfl) rfl (by omega)
  refine lv_iconst (v := 3) hx hb dX12_coalBy_4 (by decide) ?_
  refine lv_iload_n hx hb dX12_coalBy_5 rfl (lv_at hl 2 rfl) ?_
  refine lv_imul hx hb dX12_coalBy_6 ?_
  refine lv_topi (fun x_92 ex_92 => ?_)
  have hx_92 : x_92.toInt = (3 * y.toInt) := by rw [ex_92]; exact i_mul (show (3 : Int32).toInt = 3 from rfl) rfl (by omega)
  refine lv_iadd hx hb dX12_coalBy_7 ?_
  refine lv_topi (fun x_93 ex_93 => ?_)
  have hx_93 : x_93.toInt = ((63 * x.toInt) + (3 * y.toInt)) := by rw [ex_93]; exact i_add hx_91 hx_92 (by omega)
  refine lv_iload_n hx hb dX12_coalBy_8 rfl (lv_at hl 3 rfl) ?_
  refine lv_iadd hx hb dX12_coalBy_9 ?_
  refine lv_topi (fun x_94 ex_94 => ?_)
  have hx_94 : x_94.toInt = (((63 * x.toInt) + (3 * y.toInt)) + z.toInt) := by rw [ex_94]; exact i_add hx_93 rfl (by omega)
  refine lv_istore (lv' := [(4, .int x_94), (0, .ref m0), (1, .int x), (2, .int y), (3, .int z)]) hx hb dX12_coalBy_10 hl (by decide) rfl (fun ls hl => ?_)
  refine lv_aload_n hx hb dX12_coalBy_12 rfl (lv_at hl 1 rfl) ?_
  refine va_get (ci := 12) (v := .ref i3) (C := RX12) (T := TX12) (N := 60) hx hb hts hw12 hown hK hP 0 rfl rfl 44 (by decide) (hts (.fieldLink RX12 117 "SmokeTuneModel" "isSo3" "[Z") (List.mem_cons_of_mem _ (List.mem_append_left _ (List.mem_of_getElem? (i := 0) rfl)))) (fun _ h9 => h9) rfl dX12_coalBy_13 ?_
  refine lv_iload hx hb dX12_coalBy_16 (lv_at hl 0 rfl) ?_
  refine va_zald hx hb hK hP 1 1 rfl rfl (i_in hx_94 (by omega)) dX12_coalBy_18 ?_
  refine lv_topi (fun x_95 ex_95 => ?_)
  refine lv_if_ne (tgt := 28) hx hb dX12_coalBy_19 (by decide) (fun c_96 => ?_) (fun c_96 => ?_)
  · have c_96i := i_ne (x := x_95.toInt) (y := 0) rfl rfl c_96
    refine lv_iload_n hx hb dX12_coalBy_28 rfl (lv_at hl 4 rfl) ?_
    refine lv_i2l hx hb dX12_coalBy_29 rfl ?_
    refine lv_topl (fun x_97 ex_97 => ?_)
    have hx_97 : x_97.toInt = z.toInt := by rw [ex_97]; exact i_wide rfl
    refine lv_aload_n hx hb dX12_coalBy_30 rfl (lv_at hl 1 rfl) ?_
    refine va_get (ci := 12) (v := .ref le) (C := RX12) (T := TX12) (N := 60) hx hb hts hw12 hown hK hP 0 rfl rfl 42 (by decide) (hts (.fieldLink RX12 111 "SmokeTuneModel" "least" "[I") (List.mem_cons_of_mem _ (List.mem_append_left _ (List.mem_of_getElem? (i := 2) rfl)))) (fun _ h9 => h9) rfl dX12_coalBy_31 ?_
    refine lv_bipush (v := 21) hx hb dX12_coalBy_34 (by decide) ?_
    refine lv_iload_n hx hb dX12_coalBy_36 rfl (lv_at hl 2 rfl) ?_
    refine lv_iconst (v := 1) hx hb dX12_coalBy_37 (by decide) ?_
    refine lv_iadd hx hb dX12_coalBy_38 ?_
    refine lv_topi (fun x_98 ex_98 => ?_)
    have hx_98 : x_98.toInt = (x.toInt + 1) := by rw [ex_98]; exact i_add rfl (show (1 : Int32).toInt = 1 from rfl) (by omega)
    refine lv_imul hx hb dX12_coalBy_39 ?_
    refine lv_topi (fun x_99 ex_99 => ?_)
    have hx_99 : x_99.toInt = (21 * (x.toInt + 1)) := by rw [ex_99]; exact i_mul (show (21 : Int32).toInt = 21 from rfl) hx_98 (by omega)
    refine lv_aload_n hx hb dX12_coalBy_40 rfl (lv_at hl 1 rfl) ?_
    refine va_get (ci := 12) (v := .ref tf) (C := RX12) (T := TX12) (N := 60) hx hb hts hw12 hown hK hP 0 rfl rfl 43 (by decide) (hts (.fieldLink RX12 114 "SmokeTuneModel" "thenFire" "[I") (List.mem_cons_of_mem _ (List.mem_append_left _ (List.mem_of_getElem? (i := 3) rfl)))) (fun _ h9 => h9) rfl dX12_coalBy_41 ?_
    refine lv_iload hx hb dX12_coalBy_44 (lv_at hl 0 rfl) ?_
    refine va_iald hx hb hK hP 2 0 rfl rfl (i_in hx_94 (by omega)) dX12_coalBy_46 ?_
    refine lv_topi (fun x_100 ex_100 => ?_)
    have hx_100 := Rg.at zft hx_94 (show 0 ≤ (((63 * x.toInt) + (3 * y.toInt)) + z.toInt) ∧ (((63 * x.toInt) + (3 * y.toInt)) + z.toInt) < _ by omega)
    rw [← ex_100] at hx_100
    refine lv_iadd hx hb dX12_coalBy_47 ?_
    refine lv_topi (fun x_101 ex_101 => ?_)
    have hx_101 : x_101.toInt = ((21 * (x.toInt + 1)) + x_100.toInt) := by rw [ex_101]; exact i_add hx_99 rfl (by omega)
    refine va_iald hx hb hK hP 3 0 rfl rfl (i_in hx_101 (by omega)) dX12_coalBy_48 ?_
    refine lv_topi (fun x_102 ex_102 => ?_)
    refine lv_i2l hx hb dX12_coalBy_49 rfl ?_
    refine lv_topl (fun x_103 ex_103 => ?_)
    have hx_103 : x_103.toInt = x_102.toInt := by rw [ex_103]; exact i_wide rfl
    have hbx_103 := i_rng (a := x_102) rfl
    refine lv_ladd hx hb dX12_coalBy_50 ?_
    refine lv_topl (fun x_104 ex_104 => ?_)
    have hx_104 : x_104.toInt = (z.toInt + x_102.toInt) := by rw [ex_104]; exact l_add hx_97 hx_103 (by omega)
    refine lv_iconst (v := 0) hx hb dX12_coalBy_51 (by decide) ?_
    refine lv_ldcw (v := 100000000) hx hb hown (hts (.constant RX12 476 (100000000)) (List.mem_cons_of_mem _ (List.mem_append_left _ (List.mem_of_getElem? (i := 1) rfl)))) dX12_coalBy_52 ?_
    refine pci (va_runS (As := [.long x_104, .int 0, .int 100000000]) (rest := []) ⟨hx, hb, hml, hown, hts⟩ (v_withinX l D K x_104 s.heap.size) (va_cwS 3 hts gX12_coalBy_X12_within rfl rfl rfl (by decide +kernel) ⟨Nat.le_of_ble_eq_true rfl, Nat.le_of_ble_eq_true rfl⟩) (mkS hK hN (va_P.nil) (va_D.nil (A := fun _ => True))) rfl rfl hl.1 rfl (lv_room (Nat.le_of_ble_eq_true rfl)) dX12_coalBy_55 ⟨Nat.le_of_ble_eq_true rfl, Nat.le_of_ble_eq_true rfl⟩) (fun r_105 hw => ?_)
    obtain ⟨hwi_r_105, -⟩ := hw
    rw [← hQ]
    have q0 : x_95 = fi ((((63 * x.toInt) + (3 * y.toInt)) + z.toInt)).toNat := by rw [ex_95, i_clamp hx_94]
    have q1 : x_100 = ft ((((63 * x.toInt) + (3 * y.toInt)) + z.toInt)).toNat := by rw [ex_100, i_clamp hx_94]
    have q2 : x_102 = fl (21 * (x.toInt + 1) + (ft ((((63 * x.toInt) + (3 * y.toInt)) + z.toInt)).toNat).toInt).toNat := by rw [ex_102, i_clamp hx_101, ← q1]
    have q3 : r_105.toInt = cbv fi ft fl x.toInt y.toInt z.toInt := by
      unfold cbv
      have q9 : ¬ (fi ((((63 * x.toInt) + (3 * y.toInt)) + z.toInt)).toNat = 0) := fun h9 => absurd (show x_95.toInt = 0 by rw [q0, h9]; rfl) (by omega)
      rw [if_neg q9, ← q2, hwi_r_105, hx_104]
    exact W.iret (v := r_105) hx hb hr (fun t ht hW => ⟨_, rfl, ⟨⟨q3, by rw [q3]; exact cbv_rng _ _ _ _ _ _⟩, trivial⟩, ht⟩) (fun q hq => by cases hq) dX12_coalBy_58
  · have c_96i := i_eq (x := x_95.toInt) (y := 0) rfl rfl c_96
    refine lv_ldcw (v := 100000000) hx hb hown (hts (.constant RX12 476 (100000000)) (List.mem_cons_of_mem _ (List.mem_append_left _ (List.mem_of_getElem? (i := 1) rfl)))) dX12_coalBy_22 ?_
    refine lv_goto (tgt := 58) hx hb dX12_coalBy_25 (by decide) ?_
    rw [← hQ]
    have q0 : x_95 = fi ((((63 * x.toInt) + (3 * y.toInt)) + z.toInt)).toNat := by rw [ex_95, i_clamp hx_94]
    exact W.iret (v := 100000000) hx hb hr (fun t ht hW => ⟨_, rfl, ⟨(show (100000000 : Int) = cbv fi ft fl x.toInt y.toInt z.toInt ∧ (0 : Int) ≤ 100000000 ∧ (100000000 : Int) ≤ 100000000 from ⟨by unfold cbv; rw [if_pos (by rw [← q0]; exact i_lit (b := 0) (show x_95.toInt = 0 by omega) rfl)], by decide, by decide⟩), trivial⟩, ht⟩) (fun q hq => by cases hq) dX12_coalBy_58
set_option maxHeartbeats 4000000 in
set_option maxRecDepth 100000 in
theorem v_layHour (l : Launch) (D : va_G) (K : Nat → ClassId) (m0 : Nat) (x : Int32) (y : Int32) (z : Int32) (m_0 : Value) (m_1 : Value) (m_2 : Value) (w0 : Nat) (m_4 : Value) (m_5 : Value) (m_6 : Value) (m_7 : Value) (m_8 : Value) (m_9 : Value) (m_10 : Value) (m_11 : Value) (m_12 : Value) (m_13 : Value) (m_14 : Value) (m_15 : Value) (m_16 : Value) (m_17 : Value) (m_18 : Value) (m_19 : Value) (m_21 : Value) (m_22 : Value) (m_23 : Value) (m_24 : Value) (m_25 : Value) (m_26 : Value) (m_27 : Value) (m_28 : Value) (m_29 : Value) (m_30 : Value) (m_31 : Value) (m_32 : Value) (m_33 : Value) (lw : Int32) (e0 : Nat) (m_36 : Value) (q0 : Nat) (bro : Int32) (val : Int64) (sm : Int64) (m_41 : Value) (m_42 : Value) (tf : Nat) (i3 : Nat) (m_45 : Value) (m_46 : Value) (m_47 : Value) (m_48 : Value) (m_49 : Value) (m_50 : Value) (m_51 : Value) (m_52 : Value) (m_53 : Value) (m_54 : Value) (m_55 : Value) (m_56 : Value) (m_57 : Value) (m_58 : Value) (m_59 : Value) (fw : Nat → Int32) (fe : Nat → Int64) (frs : Nat → Int64) (fi : Nat → Int32) (ft : Nat → Int32) (sz : Nat) (zbro : 0 ≤ bro.toInt ∧ bro.toInt ≤ 1) (zx : 0 ≤ x.toInt ∧ x.toInt ≤ 7) (zy : 0 ≤ y.toInt ∧ y.toInt ≤ 11) (zz : 0 ≤ z.toInt ∧ z.toInt ≤ 1) (zfw : RwOK fw) (zft : Rg 819 0 20 ft) : Met l yX12_layHour wsX12_layHour ({ frames := 6, cells := 0, slots := 0, locals := 146 }) (va_Pc [.ref m0, .int x, .int y, .int z] (Pre D K [(m0, .inr (12, [m_0, m_1, m_2, .ref w0, m_4, m_5, m_6, m_7, m_8, m_9, m_10, m_11, m_12, m_13, m_14, m_15, m_16, m_17, m_18, m_19, .int 0, m_21, m_22, m_23, m_24, m_25, m_26, m_27, m_28, m_29, m_30, m_31, m_32, m_33, .int lw, .ref e0, m_36, .ref q0, .int bro, .long val, .long sm, m_41, m_42, .ref tf, .ref i3, m_45, m_46, m_47, m_48, m_49, m_50, m_51, m_52, m_53, m_54, m_55, m_56, m_57, m_58, m_59])), (w0, .inl (K 0, 5500, .inl fw)), (e0, .inl (K 2, 13, .inr (.inl fe))), (q0, .inl (K 2, 400, .inr (.inl frs))), (i3, .inl (K 1, 819, .inl fi)), (tf, .inl (K 0, 819, .inl ft))] sz)) (va_Qv (S := Su) (fun (u : Su) => (0 ≤ (u.2.2.2.1 1).toInt ∧ (u.2.2.2.1 1).toInt ≤ 1) ∧ (RwOK (u.2.1 0)) ∧ (Rg 819 0 20 (u.2.1 2)) ∧ True) (fun u t => Wd D (va_A [(m0, .inr (12, [m_0, m_1, m_2, .ref w0, m_4, m_5, m_6, m_7, m_8, m_9, m_10, m_11, m_12, m_13, m_14, m_15, m_16, m_17, m_18, m_19, .int 0, m_21, m_22, m_23, m_24, m_25, m_26, m_27, m_28, m_29, m_30, m_31, m_32, m_33, .int lw, .ref e0, m_36, .ref q0, .int bro, .long val, .long sm, m_41, m_42, .ref tf, .ref i3, m_45, m_46, m_47, m_48, m_49, m_50, m_51, m_52, m_53, m_54, m_55, m_56, m_57, m_58, m_59])), (w0, .inl (K 0, 5500, .inl fw)), (e0, .inl (K 2, 13, .inr (.inl fe))), (q0, .inl (K 2, 400, .inr (.inl frs))), (i3, .inl (K 1, 819, .inl fi)), (tf, .inl (K 0, 819, .inl ft))] sz) ((fun u => [(m0, .inr (12, [m_0, m_1, m_2, .ref w0, m_4, m_5, m_6, m_7, m_8, m_9, m_10, m_11, m_12, m_13, m_14, m_15, m_16, m_17, m_18, m_19, .int 0, m_21, m_22, m_23, m_24, m_25, m_26, m_27, m_28, m_29, m_30, m_31, m_32, m_33, .int (u.2.2.2.1 0), .ref e0, m_36, .ref q0, .int (u.2.2.2.1 1), .long (u.2.2.2.2.1 0), .long (u.2.2.2.2.1 1), m_41, m_42, .ref tf, .ref i3, m_45, m_46, m_47, m_48, m_49, m_50, m_51, m_52, m_53, m_54, m_55, m_56, m_57, m_58, m_59])), (w0, .inl (K 0, 5500, .inl (u.2.1 0))), (e0, .inl (K 2, 13, .inr (.inl (u.2.2.1 0)))), (q0, .inl (K 2, 400, .inr (.inl (u.2.2.1 1)))), (i3, .inl (K 1, 819, .inl (u.2.1 1))), (tf, .inl (K 0, 819, .inl (u.2.1 2)))]) u) t) (va_A [(m0, .inr (12, [m_0, m_1, m_2, .ref w0, m_4, m_5, m_6, m_7, m_8, m_9, m_10, m_11, m_12, m_13, m_14, m_15, m_16, m_17, m_18, m_19, .int 0, m_21, m_22, m_23, m_24, m_25, m_26, m_27, m_28, m_29, m_30, m_31, m_32, m_33, .int lw, .ref e0, m_36, .ref q0, .int bro, .long val, .long sm, m_41, m_42, .ref tf, .ref i3, m_45, m_46, m_47, m_48, m_49, m_50, m_51, m_52, m_53, m_54, m_55, m_56, m_57, m_58, m_59])), (w0, .inl (K 0, 5500, .inl fw)), (e0, .inl (K 2, 13, .inr (.inl fe))), (q0, .inl (K 2, 400, .inr (.inl frs))), (i3, .inl (K 1, 819, .inl fi)), (tf, .inl (K 0, 819, .inl ft))] sz)) 0 0 (va_A [(m0, .inr (12, [m_0, m_1, m_2, .ref w0, m_4, m_5, m_6, m_7, m_8, m_9, m_10, m_11, m_12, m_13, m_14, m_15, m_16, m_17, m_18, m_19, .int 0, m_21, m_22, m_23, m_24, m_25, m_26, m_27, m_28, m_29, m_30, m_31, m_32, m_33, .int lw, .ref e0, m_36, .ref q0, .int bro, .long val, .long sm, m_41, m_42, .ref tf, .ref i3, m_45, m_46, m_47, m_48, m_49, m_50, m_51, m_52, m_53, m_54, m_55, m_56, m_57, m_58, m_59])), (w0, .inl (K 0, 5500, .inl fw)), (e0, .inl (K 2, 13, .inr (.inl fe))), (q0, .inl (K 2, 400, .inr (.inl frs))), (i3, .inl (K 1, 819, .inl fi)), (tf, .inl (K 0, 819, .inl ft))] sz) := by
  refine Met.ofW (cc := cX12_layHour) (maxL := 8) (ret := none) (by decide) rfl ?_
  intro p e s m args below meth c s₁ B hml hv
  obtain ⟨rfl, hsz, hP, hK, hD0, hN⟩ := hv
  have hx := B.exec
  have hb := B.bytes
  have hr := B.returns
  have hts := atoms_spec (ws := wsX12_layHour) B.pre
  have hown : s.vm.findClass RX12 = some m.cls := findClass_of_methodNamed B.named
  have hlocks := B.notSynchronized
  subst hsz
  have hD := hD0.self (sz := s.heap.size)
  generalize hAe : va_A [(m0, .inr (12, [m_0, m_1, m_2, .ref w0, m_4, m_5, m_6, m_7, m_8, m_9, m_10, m_11, m_12, m_13, m_14, m_15, m_16, m_17, m_18, m_19, .int 0, m_21, m_22, m_23, m_24, m_25, m_26, m_27, m_28, m_29, m_30, m_31, m_32, m_33, .int lw, .ref e0, m_36, .ref q0, .int bro, .long val, .long sm, m_41, m_42, .ref tf, .ref i3, m_45, m_46, m_47, m_48, m_49, m_50, m_51, m_52, m_53, m_54, m_55, m_56, m_57, m_58, m_59])), (w0, .inl (K 0, 5500, .inl fw)), (e0, .inl (K 2, 13, .inr (.inl fe))), (q0, .inl (K 2, 400, .inr (.inl frs))), (i3, .inl (K 1, 819, .inl fi)), (tf, .inl (K 0, 819, .inl ft))] s.heap.size = A at hD ⊢
  have hA : ∀ q : Nat, s.heap.size ≤ q → A q := fun q h => by rw [← hAe]; exact Or.inr h
  have hS : va_S A s.heap s.heap [] := va_S.rf
  have hP : va_P D vwCl [(m0, .inr (12, [m_0, m_1, m_2, .ref w0, m_4, m_5, m_6, m_7, m_8, m_9, m_10, m_11, m_12, m_13, m_14, m_15, m_16, m_17, m_18, m_19, .int 0, m_21, m_22, m_23, m_24, m_25, m_26, m_27, m_28, m_29, m_30, m_31, m_32, m_33, .int lw, .ref e0, m_36, .ref q0, .int bro, .long val, .long sm, m_41, m_42, .ref tf, .ref i3, m_45, m_46, m_47, m_48, m_49, m_50, m_51, m_52, m_53, m_54, m_55, m_56, m_57, m_58, m_59])), (w0, .inl (K 0, 5500, .inl fw)), (e0, .inl (K 2, 13, .inr (.inl fe))), (q0, .inl (K 2, 400, .inr (.inl frs))), (i3, .inl (K 1, 819, .inl fi)), (tf, .inl (K 0, 819, .inl ft))] s.heap := hP
  have hl := lv_entry [.ref m0, .int x, .int y, .int z] (n := 8) (Nat.le_of_ble_eq_true rfl)
  rw [lg_entry_eq]
  generalize (lg_sl [.ref m0, .int x, .int y, .int z] ++ List.replicate (8 - (lg_sl [.ref m0, .int x, .int y, .int z]).length) Slot.unset).toArray = ls at hl ⊢
  have hl : lv_has ls 8 [(0, .ref m0), (1, .int x), (2, .int y), (3, .int z)] := hl
  have hw12 : ∀ w ∈ wsX120, w ∈ wsX12_layHour := fun w h => (List.mem_cons_of_mem _ (List.mem_append_right _ h))
  generalize hQ : MQ below _ _ s _ _ _ = Q
  refine lv_iconst (v := 0) hx hb dX12_layHour_0 (by decide) ?_
  refine lv_istore (lv' := [(4, .int 0), (0, .ref m0), (1, .int x), (2, .int y), (3, .int z)]) hx hb dX12_layHour_1 hl (by decide) rfl (fun ls hl => ?_)
  have lp_25672 : ∀ (nn_ : Nat) (v_23106 : Int32) (v_23107 : Int32) (v_23108 : Int32) (v_23109 : Int64) (v_23110 : Int64) (f_23111 : Nat → Int32) (f_23112 : Nat → Int64) (f_23113 : Nat → Int64) (f_23114 : Nat → Int32) (f_23115 : Nat → Int32) (hv_23106 : 0 ≤ v_23106.toInt ∧ v_23106.toInt ≤ 21) (hv_23108 : 0 ≤ v_23108.toInt ∧ v_23108.toInt ≤ 1) (hf_23111_0 : RwOK f_23111) (hf_23115_0 : Rg 819 0 20 f_23115) (hn : (22 - v_23106.toInt : Int).toNat < nn_) (H : Heap) (locs : List Loc) (hP : va_P D vwCl [(m0, .inr (12, [m_0, m_1, m_2, .ref w0, m_4, m_5, m_6, m_7, m_8, m_9, m_10, m_11, m_12, m_13, m_14, m_15, m_16, m_17, m_18, m_19, .int 0, m_21, m_22, m_23, m_24, m_25, m_26, m_27, m_28, m_29, m_30, m_31, m_32, m_33, .int v_23107, .ref e0, m_36, .ref q0, .int v_23108, .long v_23109, .long v_23110, m_41, m_42, .ref tf, .ref i3, m_45, m_46, m_47, m_48, m_49, m_50, m_51, m_52, m_53, m_54, m_55, m_56, m_57, m_58, m_59])), (w0, .inl (K 0, 5500, .inl f_23111)), (e0, .inl (K 2, 13, .inr (.inl f_23112))), (q0, .inl (K 2, 400, .inr (.inl f_23113))), (i3, .inl (K 1, 819, .inl f_23114)), (tf, .inl (K 0, 819, .inl f_23115))] H) (hD : va_D A [(m0, .inr (12, [m_0, m_1, m_2, .ref w0, m_4, m_5, m_6, m_7, m_8, m_9, m_10, m_11, m_12, m_13, m_14, m_15, m_16, m_17, m_18, m_19, .int 0, m_21, m_22, m_23, m_24, m_25, m_26, m_27, m_28, m_29, m_30, m_31, m_32, m_33, .int v_23107, .ref e0, m_36, .ref q0, .int v_23108, .long v_23109, .long v_23110, m_41, m_42, .ref tf, .ref i3, m_45, m_46, m_47, m_48, m_49, m_50, m_51, m_52, m_53, m_54, m_55, m_56, m_57, m_58, m_59])), (w0, .inl (K 0, 5500, .inl f_23111)), (e0, .inl (K 2, 13, .inr (.inl f_23112))), (q0, .inl (K 2, 400, .inr (.inl f_23113))), (i3, .inl (K 1, 819, .inl f_23114)), (tf, .inl (K 0, 819, .inl f_23115))]) (hS : va_S A s.heap H locs) (ls : Array Slot) (hl : lv_has ls 8 [(4, .int v_23106), (0, .ref m0), (1, .int x), (2, .int y), (3, .int z)]), W p l e ({ frames := 6, cells := 0, slots := 0, locals := 146 }) s m (([.ref m0, .int x, .int y, .int z] : List Value).toArray) below meth c H locs 0 0 Q (F0 m 3 ls []) := by
    intro nn_
    induction nn_ with
    | zero =>
      intro v_23106 v_23107 v_23108 v_23109 v_23110 f_23111 f_23112 f_23113 f_23114 f_23115 hv_23106 hv_23108 hf_23111_0 hf_23115_0 hn H locs hP hD hS ls hl
      exact absurd hn (Nat.not_lt_zero _)
    | succ nn_ ih_25673 =>
      intro v_23106 v_23107 v_23108 v_23109 v_23110 f_23111 f_23112 f_23113 f_23114 f_23115 hv_23106 hv_23108 hf_23111_0 hf_23115_0 hn H locs hP hD hS ls hl
      refine lv_iload hx hb dX12_layHour_3 (lv_at hl 0 rfl) ?_
      refine lv_bipush (v := 20) hx hb dX12_layHour_5 (by decide) ?_
      refine lv_icmp_gt (tgt := 166) hx hb dX12_layHour_7 (by decide) (fun c_25674 => ?_) (fun c_25674 => ?_)
      · have c_25674i := i_lt (x := 20) (y := v_23106.toInt) rfl rfl c_25674
        rw [← hQ]
        have hP9 := hP.sub (ws' := [(m0, .inr (12, [m_0, m_1, m_2, .ref w0, m_4, m_5, m_6, m_7, m_8, m_9, m_10, m_11, m_12, m_13, m_14, m_15, m_16, m_17, m_18, m_19, .int 0, m_21, m_22, m_23, m_24, m_25, m_26, m_27, m_28, m_29, m_30, m_31, m_32, m_33, .int v_23107, .ref e0, m_36, .ref q0, .int v_23108, .long v_23109, .long v_23110, m_41, m_42, .ref tf, .ref i3, m_45, m_46, m_47, m_48, m_49, m_50, m_51, m_52, m_53, m_54, m_55, m_56, m_57, m_58, m_59])), (w0, .inl (K 0, 5500, .inl f_23111)), (e0, .inl (K 2, 13, .inr (.inl f_23112))), (q0, .inl (K 2, 400, .inr (.inl f_23113))), (i3, .inl (K 1, 819, .inl f_23114)), (tf, .inl (K 0, 819, .inl f_23115))]) [0, 1, 2, 3, 4, 5] rfl
        have hD9 := hD.sub (ws' := [(m0, .inr (12, [m_0, m_1, m_2, .ref w0, m_4, m_5, m_6, m_7, m_8, m_9, m_10, m_11, m_12, m_13, m_14, m_15, m_16, m_17, m_18, m_19, .int 0, m_21, m_22, m_23, m_24, m_25, m_26, m_27, m_28, m_29, m_30, m_31, m_32, m_33, .int v_23107, .ref e0, m_36, .ref q0, .int v_23108, .long v_23109, .long v_23110, m_41, m_42, .ref tf, .ref i3, m_45, m_46, m_47, m_48, m_49, m_50, m_51, m_52, m_53, m_54, m_55, m_56, m_57, m_58, m_59])), (w0, .inl (K 0, 5500, .inl f_23111)), (e0, .inl (K 2, 13, .inr (.inl f_23112))), (q0, .inl (K 2, 400, .inr (.inl f_23113))), (i3, .inl (K 1, 819, .inl f_23114)), (tf, .inl (K 0, 819, .inl f_23115))]) [0, 1, 2, 3, 4, 5] (by decide) rfl
        exact W.vret hx hb hr (fun t ht hW => ⟨⟨((fun _ => 0, fun i => match i with | 0 => f_23111 | 1 => f_23114 | _ => f_23115, fun i => match i with | 0 => f_23112 | _ => f_23113, fun i => match i with | 0 => v_23107 | _ => v_23108, fun i => match i with | 0 => v_23109 | _ => v_23110, fun _ => fun _ => none) : Su), rfl, ⟨(show 0 ≤ (v_23108 : Int32).toInt ∧ (v_23108 : Int32).toInt ≤ 1 by omega), hf_23111_0, hf_23115_0, trivial⟩, (⟨by rw [ht]; exact hP9, hD9⟩ : Wd D A _ t)⟩, hS.F ht⟩) hS.2.2 dX12_layHour_166
      · have c_25674i := i_nlt (x := 20) (y := v_23106.toInt) rfl rfl c_25674
        refine lv_aload_n hx hb dX12_layHour_10 rfl (lv_at hl 1 rfl) ?_
        refine va_get (ci := 12) (v := .ref w0) (C := RX12) (T := TX12) (N := 60) hx hb hts hw12 hown hK hP 0 rfl rfl 3 (by decide) (hts (.fieldLink RX12 13 "SmokeTuneModel" "row" "[I") (List.mem_cons_of_mem _ (List.mem_append_left _ (List.mem_append_left _ (List.mem_of_getElem? (i := 0) rfl))))) (fun _ h9 => h9) rfl dX12_layHour_11 ?_
        refine lv_bipush (v := 11) hx hb dX12_layHour_14 (by decide) ?_
        refine lv_iload_n hx hb dX12_layHour_16 rfl (lv_at hl 2 rfl) ?_
        refine lv_iadd hx hb dX12_layHour_17 ?_
        refine lv_topi (fun x_25675 ex_25675 => ?_)
        have hx_25675 : x_25675.toInt = (11 + x.toInt) := by rw [ex_25675]; exact i_add (show (11 : Int32).toInt = 11 from rfl) rfl (by omega)
        refine lv_iload hx hb dX12_layHour_18 (lv_at hl 0 rfl) ?_
        refine va_iast hx hb hK hP hD hS 1 0 rfl rfl (i_in hx_25675 (by omega)) dX12_layHour_20 (fun H locs hP hD hS => ?_)
        generalize hf_25676 : (upd f_23111 (x_25675 : Int32).toNatClampNeg v_23106) = f_25676 at hP hD
        have hf_25676_0 : RwOK f_25676 := by rw [← hf_25676]; exact RwOK.upd hf_23111_0 hx_25675 (by omega) rfl (PR.w_11 (by omega) (by omega))
        have hP : va_P D vwCl [(m0, .inr (12, [m_0, m_1, m_2, .ref w0, m_4, m_5, m_6, m_7, m_8, m_9, m_10, m_11, m_12, m_13, m_14, m_15, m_16, m_17, m_18, m_19, .int 0, m_21, m_22, m_23, m_24, m_25, m_26, m_27, m_28, m_29, m_30, m_31, m_32, m_33, .int v_23107, .ref e0, m_36, .ref q0, .int v_23108, .long v_23109, .long v_23110, m_41, m_42, .ref tf, .ref i3, m_45, m_46, m_47, m_48, m_49, m_50, m_51, m_52, m_53, m_54, m_55, m_56, m_57, m_58, m_59])), (w0, .inl (K 0, 5500, .inl f_25676)), (e0, .inl (K 2, 13, .inr (.inl f_23112))), (q0, .inl (K 2, 400, .inr (.inl f_23113))), (i3, .inl (K 1, 819, .inl f_23114)), (tf, .inl (K 0, 819, .inl f_23115))] H := hP
        have hD : va_D A [(m0, .inr (12, [m_0, m_1, m_2, .ref w0, m_4, m_5, m_6, m_7, m_8, m_9, m_10, m_11, m_12, m_13, m_14, m_15, m_16, m_17, m_18, m_19, .int 0, m_21, m_22, m_23, m_24, m_25, m_26, m_27, m_28, m_29, m_30, m_31, m_32, m_33, .int v_23107, .ref e0, m_36, .ref q0, .int v_23108, .long v_23109, .long v_23110, m_41, m_42, .ref tf, .ref i3, m_45, m_46, m_47, m_48, m_49, m_50, m_51, m_52, m_53, m_54, m_55, m_56, m_57, m_58, m_59])), (w0, .inl (K 0, 5500, .inl f_25676)), (e0, .inl (K 2, 13, .inr (.inl f_23112))), (q0, .inl (K 2, 400, .inr (.inl f_23113))), (i3, .inl (K 1, 819, .inl f_23114)), (tf, .inl (K 0, 819, .inl f_23115))] := hD
        refine lv_iconst (v := 1) hx hb dX12_layHour_21 (by decide) ?_
        refine lv_istore (lv' := [(5, .int 1), (4, .int v_23106), (0, .ref m0), (1, .int x), (2, .int y), (3, .int z)]) hx hb dX12_layHour_22 hl (by decide) rfl (fun ls hl => ?_)
        refine lv_iconst (v := 0) hx hb dX12_layHour_24 (by decide) ?_
        refine lv_istore (lv' := [(6, .int 0), (5, .int 1), (4, .int v_23106), (0, .ref m0), (1, .int x), (2, .int y), (3, .int z)]) hx hb dX12_layHour_25 hl (by decide) rfl (fun ls hl => ?_)
        have lp_26755 : ∀ (nn_ : Nat) (v_26355 : Int32) (v_26356 : Int32) (v_26357 : Int32) (v_26358 : Int32) (v_26359 : Int64) (v_26360 : Int64) (f_26361 : Nat → Int32) (f_26362 : Nat → Int64) (f_26363 : Nat → Int64) (f_26364 : Nat → Int32) (f_26365 : Nat → Int32) (hv_26355 : 0 ≤ v_26355.toInt ∧ v_26355.toInt ≤ 3) (hv_26356 : 0 ≤ v_26356.toInt ∧ v_26356.toInt ≤ 1) (hv_26358 : 0 ≤ v_26358.toInt ∧ v_26358.toInt ≤ 1) (hf_26361_0 : RwOK f_26361) (hf_26365_0 : Rg 819 0 20 f_26365) (hn : (4 - v_26355.toInt : Int).toNat < nn_) (H : Heap) (locs : List Loc) (hP : va_P D vwCl [(m0, .inr (12, [m_0, m_1, m_2, .ref w0, m_4, m_5, m_6, m_7, m_8, m_9, m_10, m_11, m_12, m_13, m_14, m_15, m_16, m_17, m_18, m_19, .int 0, m_21, m_22, m_23, m_24, m_25, m_26, m_27, m_28, m_29, m_30, m_31, m_32, m_33, .int v_26357, .ref e0, m_36, .ref q0, .int v_26358, .long v_26359, .long v_26360, m_41, m_42, .ref tf, .ref i3, m_45, m_46, m_47, m_48, m_49, m_50, m_51, m_52, m_53, m_54, m_55, m_56, m_57, m_58, m_59])), (w0, .inl (K 0, 5500, .inl f_26361)), (e0, .inl (K 2, 13, .inr (.inl f_26362))), (q0, .inl (K 2, 400, .inr (.inl f_26363))), (i3, .inl (K 1, 819, .inl f_26364)), (tf, .inl (K 0, 819, .inl f_26365))] H) (hD : va_D A [(m0, .inr (12, [m_0, m_1, m_2, .ref w0, m_4, m_5, m_6, m_7, m_8, m_9, m_10, m_11, m_12, m_13, m_14, m_15, m_16, m_17, m_18, m_19, .int 0, m_21, m_22, m_23, m_24, m_25, m_26, m_27, m_28, m_29, m_30, m_31, m_32, m_33, .int v_26357, .ref e0, m_36, .ref q0, .int v_26358, .long v_26359, .long v_26360, m_41, m_42, .ref tf, .ref i3, m_45, m_46, m_47, m_48, m_49, m_50, m_51, m_52, m_53, m_54, m_55, m_56, m_57, m_58, m_59])), (w0, .inl (K 0, 5500, .inl f_26361)), (e0, .inl (K 2, 13, .inr (.inl f_26362))), (q0, .inl (K 2, 400, .inr (.inl f_26363))), (i3, .inl (K 1, 819, .inl f_26364)), (tf, .inl (K 0, 819, .inl f_26365))]) (hS : va_S A s.heap H locs) (ls : Array Slot) (hl : lv_has ls 8 [(6, .int v_26355), (5, .int v_26356), (4, .int v_23106), (0, .ref m0), (1, .int x), (2, .int y), (3, .int z)]), W p l e ({ frames := 6, cells := 0, slots := 0, locals := 146 }) s m (([.ref m0, .int x, .int y, .int z] : List Value).toArray) below meth c H locs 0 0 Q (F0 m 27 ls []) := by
          intro nn_
          induction nn_ with
          | zero =>
            intro v_26355 v_26356 v_26357 v_26358 v_26359 v_26360 f_26361 f_26362 f_26363 f_26364 f_26365 hv_26355 hv_26356 hv_26358 hf_26361_0 hf_26365_0 hn H locs hP hD hS ls hl
            exact absurd hn (Nat.not_lt_zero _)
          | succ nn_ ih_26756 =>
            intro v_26355 v_26356 v_26357 v_26358 v_26359 v_26360 f_26361 f_26362 f_26363 f_26364 f_26365 hv_26355 hv_26356 hv_26358 hf_26361_0 hf_26365_0 hn H locs hP hD hS ls hl
            refine lv_iload hx hb dX12_layHour_27 (lv_at hl 0 rfl) ?_
            refine lv_iconst (v := 3) hx hb dX12_layHour_29 (by decide) ?_
            refine lv_icmp_ge (tgt := 160) hx hb dX12_layHour_30 (by decide) (fun c_26757 => ?_) (fun c_26757 => ?_)
            · have c_26757i := i_le (x := 3) (y := v_26355.toInt) rfl rfl c_26757
              obtain ⟨x_26758, ex_26758⟩ : ∃ y : Int32, y = v_23106 + Int32.ofInt 1 := ⟨_, rfl⟩
              have hx_26758 : x_26758.toInt = (v_23106.toInt + 1) := by rw [ex_26758]; exact i_add rfl (show (Int32.ofInt 1).toInt = 1 from rfl) (by omega)
              refine lv_iinc (v := x_26758) (lv' := [(4, .int x_26758), (6, .int v_26355), (5, .int v_26356), (0, .ref m0), (1, .int x), (2, .int y), (3, .int z)]) hx hb dX12_layHour_160 hl (k := 2) rfl (by rw [ex_26758]) (by decide) rfl (fun ls hl => ?_)
              refine lv_goto (tgt := 3) hx hb dX12_layHour_163 (by decide) ?_
              exact ih_25673 x_26758 v_26357 v_26358 v_26359 v_26360 f_26361 f_26362 f_26363 f_26364 f_26365 (by rw [hx_26758]; omega) (by omega) hf_26361_0 hf_26365_0 (by omega) _ _ hP hD hS ls (lv_sub hl [0, 3, 4, 5, 6] rfl)
            · have c_26757i := i_nle (x := 3) (y := v_26355.toInt) rfl rfl c_26757
              refine lv_iload hx hb dX12_layHour_33 (lv_at hl 1 rfl) ?_
              have j_26859 : ∀ (v_26801 : Int32) (v_26802 : Int32) (v_26803 : Int32) (v_26804 : Int64) (v_26805 : Int64) (f_26806 : Nat → Int32) (f_26807 : Nat → Int64) (f_26808 : Nat → Int64) (hv_26801 : 0 ≤ v_26801.toInt ∧ v_26801.toInt ≤ 1) (hv_26803 : 0 ≤ v_26803.toInt ∧ v_26803.toInt ≤ 1) (hf_26806_0 : RwOK f_26806) (H : Heap) (locs : List Loc) (hP : va_P D vwCl [(m0, .inr (12, [m_0, m_1, m_2, .ref w0, m_4, m_5, m_6, m_7, m_8, m_9, m_10, m_11, m_12, m_13, m_14, m_15, m_16, m_17, m_18, m_19, .int 0, m_21, m_22, m_23, m_24, m_25, m_26, m_27, m_28, m_29, m_30, m_31, m_32, m_33, .int v_26802, .ref e0, m_36, .ref q0, .int v_26803, .long v_26804, .long v_26805, m_41, m_42, .ref tf, .ref i3, m_45, m_46, m_47, m_48, m_49, m_50, m_51, m_52, m_53, m_54, m_55, m_56, m_57, m_58, m_59])), (w0, .inl (K 0, 5500, .inl f_26806)), (e0, .inl (K 2, 13, .inr (.inl f_26807))), (q0, .inl (K 2, 400, .inr (.inl f_26808))), (i3, .inl (K 1, 819, .inl f_26364)), (tf, .inl (K 0, 819, .inl f_26365))] H) (hD : va_D A [(m0, .inr (12, [m_0, m_1, m_2, .ref w0, m_4, m_5, m_6, m_7, m_8, m_9, m_10, m_11, m_12, m_13, m_14, m_15, m_16, m_17, m_18, m_19, .int 0, m_21, m_22, m_23, m_24, m_25, m_26, m_27, m_28, m_29, m_30, m_31, m_32, m_33, .int v_26802, .ref e0, m_36, .ref q0, .int v_26803, .long v_26804, .long v_26805, m_41, m_42, .ref tf, .ref i3, m_45, m_46, m_47, m_48, m_49, m_50, m_51, m_52, m_53, m_54, m_55, m_56, m_57, m_58, m_59])), (w0, .inl (K 0, 5500, .inl f_26806)), (e0, .inl (K 2, 13, .inr (.inl f_26807))), (q0, .inl (K 2, 400, .inr (.inl f_26808))), (i3, .inl (K 1, 819, .inl f_26364)), (tf, .inl (K 0, 819, .inl f_26365))]) (hS : va_S A s.heap H locs) (ls : Array Slot) (hl : lv_has ls 8 [(5, .int v_26801), (6, .int v_26355), (4, .int v_23106), (0, .ref m0), (1, .int x), (2, .int y), (3, .int z)]), W p l e ({ frames := 6, cells := 0, slots := 0, locals := 146 }) s m (([.ref m0, .int x, .int y, .int z] : List Value).toArray) below meth c H locs 0 0 Q (F0 m 79 ls []) := by
                intro v_26801 v_26802 v_26803 v_26804 v_26805 f_26806 f_26807 f_26808 hv_26801 hv_26803 hf_26806_0 H locs hP hD hS ls hl
                refine lv_bipush (v := 63) hx hb dX12_layHour_79 (by decide) ?_
                refine lv_iload_n hx hb dX12_layHour_81 rfl (lv_at hl 5 rfl) ?_
                refine lv_imul hx hb dX12_layHour_82 ?_
                refine lv_topi (fun x_26860 ex_26860 => ?_)
                have hx_26860 : x_26860.toInt = (63 * y.toInt) := by rw [ex_26860]; exact i_mul (show (63 : Int32).toInt = 63 from rfl) rfl (by omega)
                refine lv_iconst (v := 3) hx hb dX12_layHour_83 (by decide) ?_
                refine lv_iload hx hb dX12_layHour_84 (lv_at hl 2 rfl) ?_
                refine lv_imul hx hb dX12_layHour_86 ?_
                refine lv_topi (fun x_26861 ex_26861 => ?_)
                have hx_26861 : x_26861.toInt = (3 * v_23106.toInt) := by rw [ex_26861]; exact i_mul (show (3 : Int32).toInt = 3 from rfl) rfl (by omega)
                refine lv_iadd hx hb dX12_layHour_87 ?_
                refine lv_topi (fun x_26862 ex_26862 => ?_)
                have hx_26862 : x_26862.toInt = ((63 * y.toInt) + (3 * v_23106.toInt)) := by rw [ex_26862]; exact i_add hx_26860 hx_26861 (by omega)
                refine lv_iload hx hb dX12_layHour_88 (lv_at hl 1 rfl) ?_
                refine lv_iadd hx hb dX12_layHour_90 ?_
                refine lv_topi (fun x_26863 ex_26863 => ?_)
                have hx_26863 : x_26863.toInt = (((63 * y.toInt) + (3 * v_23106.toInt)) + v_26355.toInt) := by rw [ex_26863]; exact i_add hx_26862 rfl (by omega)
                refine lv_istore (lv' := [(7, .int x_26863), (5, .int v_26801), (6, .int v_26355), (4, .int v_23106), (0, .ref m0), (1, .int x), (2, .int y), (3, .int z)]) hx hb dX12_layHour_91 hl (by decide) rfl (fun ls hl => ?_)
                refine lv_aload_n hx hb dX12_layHour_93 rfl (lv_at hl 4 rfl) ?_
                refine va_get (ci := 12) (v := .ref i3) (C := RX12) (T := TX12) (N := 60) hx hb hts hw12 hown hK hP 0 rfl rfl 44 (by decide) (hts (.fieldLink RX12 117 "SmokeTuneModel" "isSo3" "[Z") (List.mem_cons_of_mem _ (List.mem_append_left _ (List.mem_append_left _ (List.mem_of_getElem? (i := 1) rfl))))) (fun _ h9 => h9) rfl dX12_layHour_94 ?_
                refine lv_iload hx hb dX12_layHour_97 (lv_at hl 0 rfl) ?_
                refine lv_iload hx hb dX12_layHour_99 (lv_at hl 1 rfl) ?_
                refine lv_if_eq (tgt := 117) hx hb dX12_layHour_101 (by decide) (fun c_26864 => ?_) (fun c_26864 => ?_)
                · have c_26864i := i_eq (x := v_26801.toInt) (y := 0) rfl rfl c_26864
                  refine lv_iconst (v := 0) hx hb dX12_layHour_117 (by decide) ?_
                  refine va_zast hx hb hK hP hD hS 4 1 rfl rfl (i_in hx_26863 (by omega)) dX12_layHour_118 (fun H locs hP hD hS => ?_)
                  generalize hf_26865 : (upd f_26364 (x_26863 : Int32).toNatClampNeg (vp_nar .boolean 0)) = f_26865 at hP hD
                  have hP : va_P D vwCl [(m0, .inr (12, [m_0, m_1, m_2, .ref w0, m_4, m_5, m_6, m_7, m_8, m_9, m_10, m_11, m_12, m_13, m_14, m_15, m_16, m_17, m_18, m_19, .int 0, m_21, m_22, m_23, m_24, m_25, m_26, m_27, m_28, m_29, m_30, m_31, m_32, m_33, .int v_26802, .ref e0, m_36, .ref q0, .int v_26803, .long v_26804, .long v_26805, m_41, m_42, .ref tf, .ref i3, m_45, m_46, m_47, m_48, m_49, m_50, m_51, m_52, m_53, m_54, m_55, m_56, m_57, m_58, m_59])), (w0, .inl (K 0, 5500, .inl f_26806)), (e0, .inl (K 2, 13, .inr (.inl f_26807))), (q0, .inl (K 2, 400, .inr (.inl f_26808))), (i3, .inl (K 1, 819, .inl f_26865)), (tf, .inl (K 0, 819, .inl f_26365))] H := hP
                  have hD : va_D A [(m0, .inr (12, [m_0, m_1, m_2, .ref w0, m_4, m_5, m_6, m_7, m_8, m_9, m_10, m_11, m_12, m_13, m_14, m_15, m_16, m_17, m_18, m_19, .int 0, m_21, m_22, m_23, m_24, m_25, m_26, m_27, m_28, m_29, m_30, m_31, m_32, m_33, .int v_26802, .ref e0, m_36, .ref q0, .int v_26803, .long v_26804, .long v_26805, m_41, m_42, .ref tf, .ref i3, m_45, m_46, m_47, m_48, m_49, m_50, m_51, m_52, m_53, m_54, m_55, m_56, m_57, m_58, m_59])), (w0, .inl (K 0, 5500, .inl f_26806)), (e0, .inl (K 2, 13, .inr (.inl f_26807))), (q0, .inl (K 2, 400, .inr (.inl f_26808))), (i3, .inl (K 1, 819, .inl f_26865)), (tf, .inl (K 0, 819, .inl f_26365))] := hD
                  refine lv_aload_n hx hb dX12_layHour_119 rfl (lv_at hl 4 rfl) ?_
                  refine va_get (ci := 12) (v := .ref tf) (C := RX12) (T := TX12) (N := 60) hx hb hts hw12 hown hK hP 0 rfl rfl 43 (by decide) (hts (.fieldLink RX12 114 "SmokeTuneModel" "thenFire" "[I") (List.mem_cons_of_mem _ (List.mem_append_left _ (List.mem_append_left _ (List.mem_of_getElem? (i := 2) rfl))))) (fun _ h9 => h9) rfl dX12_layHour_120 ?_
                  refine lv_iload hx hb dX12_layHour_123 (lv_at hl 0 rfl) ?_
                  refine lv_aload_n hx hb dX12_layHour_125 rfl (lv_at hl 4 rfl) ?_
                  refine va_get (ci := 12) (v := .ref w0) (C := RX12) (T := TX12) (N := 60) hx hb hts hw12 hown hK hP 0 rfl rfl 3 (by decide) (hts (.fieldLink RX12 13 "SmokeTuneModel" "row" "[I") (List.mem_cons_of_mem _ (List.mem_append_left _ (List.mem_append_left _ (List.mem_of_getElem? (i := 0) rfl))))) (fun _ h9 => h9) rfl dX12_layHour_126 ?_
                  refine lv_bipush (v := 11) hx hb dX12_layHour_129 (by decide) ?_
                  refine lv_iload_n hx hb dX12_layHour_131 rfl (lv_at hl 5 rfl) ?_
                  refine lv_iadd hx hb dX12_layHour_132 ?_
                  refine lv_topi (fun x_26866 ex_26866 => ?_)
                  have hx_26866 : x_26866.toInt = (11 + x.toInt) := by rw [ex_26866]; exact i_add (show (11 : Int32).toInt = 11 from rfl) rfl (by omega)
                  refine va_iald hx hb hK hP 1 0 rfl rfl (i_in hx_26866 (by omega)) dX12_layHour_133 ?_
                  refine lv_topi (fun x_26867 ex_26867 => ?_)
                  have px_26867 := RwOK.at hf_26806_0 hx_26866 (show 0 ≤ (11 + x.toInt) ∧ (11 + x.toInt) < 100 by omega)
                  rw [← ex_26867] at px_26867
                  have hx_26867 := PR.r_11 px_26867 (by omega)
                  refine lv_aload_n hx hb dX12_layHour_134 rfl (lv_at hl 4 rfl) ?_
                  refine lv_aload_n hx hb dX12_layHour_135 rfl (lv_at hl 4 rfl) ?_
                  refine va_get (ci := 12) (v := .ref w0) (C := RX12) (T := TX12) (N := 60) hx hb hts hw12 hown hK hP 0 rfl rfl 3 (by decide) (hts (.fieldLink RX12 13 "SmokeTuneModel" "row" "[I") (List.mem_cons_of_mem _ (List.mem_append_left _ (List.mem_append_left _ (List.mem_of_getElem? (i := 0) rfl))))) (fun _ h9 => h9) rfl dX12_layHour_136 ?_
                  refine lv_iconst (v := 3) hx hb dX12_layHour_139 (by decide) ?_
                  refine va_iald hx hb hK hP 1 0 rfl rfl (i_in (x := 3) rfl (by omega)) dX12_layHour_140 ?_
                  refine lv_topi (fun x_26868 ex_26868 => ?_)
                  have px_26868 := RwOK.at hf_26806_0 (show (3 : Int32).toInt = 3 from rfl) (show 0 ≤ 3 ∧ 3 < 100 by omega)
                  rw [← ex_26868] at px_26868
                  have hx_26868 := PR.r_3 px_26868 (by omega)
                  refine lv_iload_n hx hb dX12_layHour_141 rfl (lv_at hl 5 rfl) ?_
                  refine kci (S := Su) (wr := [(i3, .inl (K 1, 819, .inl f_26865)), (tf, .inl (K 0, 819, .inl f_26365))]) (va_runV (As := [.int x_26868, .int x]) (rest := [.int x_26867, .int x_26863, .ref tf]) ⟨hx, hb, hml, hown, hts⟩ (v_burnsOf l D K m0 x_26868 x m_0 m_1 m_2 w0 m_4 m_5 m_6 m_7 m_8 m_9 m_10 m_11 m_12 m_13 m_14 m_15 m_16 m_17 m_18 m_19 m_21 m_22 m_23 m_24 m_25 m_26 m_27 m_28 m_29 m_30 m_31 m_32 m_33 v_26802 e0 m_36 q0 v_26803 v_26804 v_26805 m_41 m_42 (.ref tf) (.ref i3) m_45 m_46 m_47 m_48 m_49 m_50 m_51 m_52 m_53 m_54 m_55 m_56 m_57 m_58 m_59 f_26806 f_26807 f_26808 H.size (by first | omega | decide) (by first | omega | decide) (by first | omega | decide) hf_26806_0) (cwV 2 hts gX12_layHour_X12_burnsOf rfl rfl rfl (by decide +kernel) ⟨Nat.le_of_ble_eq_true rfl, Nat.le_of_ble_eq_true rfl⟩) (mkV hK hN (hP.sub [0, 1, 2, 3] rfl) (hD.sub [0, 1, 2, 3] (by decide) rfl) (ci := 12) (q0 := 0) rfl rfl) rfl rfl hl.1 rfl (lv_room (Nat.le_of_ble_eq_true rfl)) dX12_layHour_142 ⟨Nat.le_of_ble_eq_true rfl, Nat.le_of_ble_eq_true rfl⟩) hP hD hS hA [0, 1, 2, 3] [4, 5] rfl rfl (by decide) (by decide) (fun r_26869 u_26870 H locs hw hP hD hS => ?_)
                  have hP : va_P D vwCl [(i3, .inl (K 1, 819, .inl f_26865)), (tf, .inl (K 0, 819, .inl f_26365)), (m0, .inr (12, [m_0, m_1, m_2, .ref w0, m_4, m_5, m_6, m_7, m_8, m_9, m_10, m_11, m_12, m_13, m_14, m_15, m_16, m_17, m_18, m_19, .int 0, m_21, m_22, m_23, m_24, m_25, m_26, m_27, m_28, m_29, m_30, m_31, m_32, m_33, .int (u_26870.2.2.2.1 0), .ref e0, m_36, .ref q0, .int (u_26870.2.2.2.1 1), .long (u_26870.2.2.2.2.1 0), .long (u_26870.2.2.2.2.1 1), m_41, m_42, .ref tf, .ref i3, m_45, m_46, m_47, m_48, m_49, m_50, m_51, m_52, m_53, m_54, m_55, m_56, m_57, m_58, m_59])), (w0, .inl (K 0, 5500, .inl f_26806)), (e0, .inl (K 2, 13, .inr (.inl (u_26870.2.2.1 0)))), (q0, .inl (K 2, 400, .inr (.inl (u_26870.2.2.1 1))))] H := hP
                  have hD : va_D A [(i3, .inl (K 1, 819, .inl f_26865)), (tf, .inl (K 0, 819, .inl f_26365)), (m0, .inr (12, [m_0, m_1, m_2, .ref w0, m_4, m_5, m_6, m_7, m_8, m_9, m_10, m_11, m_12, m_13, m_14, m_15, m_16, m_17, m_18, m_19, .int 0, m_21, m_22, m_23, m_24, m_25, m_26, m_27, m_28, m_29, m_30, m_31, m_32, m_33, .int (u_26870.2.2.2.1 0), .ref e0, m_36, .ref q0, .int (u_26870.2.2.2.1 1), .long (u_26870.2.2.2.2.1 0), .long (u_26870.2.2.2.2.1 1), m_41, m_42, .ref tf, .ref i3, m_45, m_46, m_47, m_48, m_49, m_50, m_51, m_52, m_53, m_54, m_55, m_56, m_57, m_58, m_59])), (w0, .inl (K 0, 5500, .inl f_26806)), (e0, .inl (K 2, 13, .inr (.inl (u_26870.2.2.1 0)))), (q0, .inl (K 2, 400, .inr (.inl (u_26870.2.2.1 1))))] := hD
                  obtain ⟨h_26872, k_26871, -⟩ := hw
                  refine lv_isub hx hb dX12_layHour_145 ?_
                  refine lv_topi (fun x_26873 ex_26873 => ?_)
                  have hx_26873 : x_26873.toInt = (x_26867.toInt - r_26869.toInt) := by rw [ex_26873]; exact i_sub rfl rfl (by omega)
                  refine lv_i2l hx hb dX12_layHour_146 rfl ?_
                  refine lv_topl (fun x_26874 ex_26874 => ?_)
                  have hx_26874 : x_26874.toInt = (x_26867.toInt - r_26869.toInt) := by rw [ex_26874]; exact i_wide hx_26873
                  refine lv_iconst (v := 0) hx hb dX12_layHour_147 (by decide) ?_
                  refine lv_bipush (v := 20) hx hb dX12_layHour_148 (by decide) ?_
                  refine pci (va_runS (As := [.long x_26874, .int 0, .int 20]) (rest := [.int x_26863, .ref tf]) ⟨hx, hb, hml, hown, hts⟩ (v_within_20 l D K x_26874 H.size) (va_cwS 3 hts gX12_layHour_X12_within rfl rfl rfl (by decide +kernel) ⟨Nat.le_of_ble_eq_true rfl, Nat.le_of_ble_eq_true rfl⟩) (mkS hK hN (va_P.nil) (va_D.nil (A := fun _ => True))) rfl rfl hl.1 rfl (lv_room (Nat.le_of_ble_eq_true rfl)) dX12_layHour_150 ⟨Nat.le_of_ble_eq_true rfl, Nat.le_of_ble_eq_true rfl⟩) (fun r_26875 hw => ?_)
                  obtain ⟨h_26876, -⟩ := hw
                  refine va_iast hx hb hK hP hD hS 1 0 rfl rfl (i_in hx_26863 (by omega)) dX12_layHour_153 (fun H locs hP hD hS => ?_)
                  generalize hf_26877 : (upd f_26365 (x_26863 : Int32).toNatClampNeg r_26875) = f_26877 at hP hD
                  have hf_26877_0 : Rg 819 0 20 f_26877 := by rw [← hf_26877]; exact Rg.upd hf_26365_0 rfl (by omega)
                  have hP : va_P D vwCl [(i3, .inl (K 1, 819, .inl f_26865)), (tf, .inl (K 0, 819, .inl f_26877)), (m0, .inr (12, [m_0, m_1, m_2, .ref w0, m_4, m_5, m_6, m_7, m_8, m_9, m_10, m_11, m_12, m_13, m_14, m_15, m_16, m_17, m_18, m_19, .int 0, m_21, m_22, m_23, m_24, m_25, m_26, m_27, m_28, m_29, m_30, m_31, m_32, m_33, .int (u_26870.2.2.2.1 0), .ref e0, m_36, .ref q0, .int (u_26870.2.2.2.1 1), .long (u_26870.2.2.2.2.1 0), .long (u_26870.2.2.2.2.1 1), m_41, m_42, .ref tf, .ref i3, m_45, m_46, m_47, m_48, m_49, m_50, m_51, m_52, m_53, m_54, m_55, m_56, m_57, m_58, m_59])), (w0, .inl (K 0, 5500, .inl f_26806)), (e0, .inl (K 2, 13, .inr (.inl (u_26870.2.2.1 0)))), (q0, .inl (K 2, 400, .inr (.inl (u_26870.2.2.1 1))))] H := hP
                  have hD : va_D A [(i3, .inl (K 1, 819, .inl f_26865)), (tf, .inl (K 0, 819, .inl f_26877)), (m0, .inr (12, [m_0, m_1, m_2, .ref w0, m_4, m_5, m_6, m_7, m_8, m_9, m_10, m_11, m_12, m_13, m_14, m_15, m_16, m_17, m_18, m_19, .int 0, m_21, m_22, m_23, m_24, m_25, m_26, m_27, m_28, m_29, m_30, m_31, m_32, m_33, .int (u_26870.2.2.2.1 0), .ref e0, m_36, .ref q0, .int (u_26870.2.2.2.1 1), .long (u_26870.2.2.2.2.1 0), .long (u_26870.2.2.2.2.1 1), m_41, m_42, .ref tf, .ref i3, m_45, m_46, m_47, m_48, m_49, m_50, m_51, m_52, m_53, m_54, m_55, m_56, m_57, m_58, m_59])), (w0, .inl (K 0, 5500, .inl f_26806)), (e0, .inl (K 2, 13, .inr (.inl (u_26870.2.2.1 0)))), (q0, .inl (K 2, 400, .inr (.inl (u_26870.2.2.1 1))))] := hD
                  obtain ⟨x_26878, ex_26878⟩ : ∃ y : Int32, y = v_26355 + Int32.ofInt 1 := ⟨_, rfl⟩
                  have hx_26878 : x_26878.toInt = (v_26355.toInt + 1) := by rw [ex_26878]; exact i_add rfl (show (Int32.ofInt 1).toInt = 1 from rfl) (by omega)
                  refine lv_iinc (v := x_26878) (lv' := [(6, .int x_26878), (7, .int x_26863), (5, .int v_26801), (4, .int v_23106), (0, .ref m0), (1, .int x), (2, .int y), (3, .int z)]) hx hb dX12_layHour_154 hl (k := 2) rfl (by rw [ex_26878]) (by decide) rfl (fun ls hl => ?_)
                  refine lv_goto (tgt := 27) hx hb dX12_layHour_157 (by decide) ?_
                  exact ih_26756 x_26878 v_26801 (u_26870.2.2.2.1 0) (u_26870.2.2.2.1 1) (u_26870.2.2.2.2.1 0) (u_26870.2.2.2.2.1 1) f_26806 (u_26870.2.2.1 0) (u_26870.2.2.1 1) f_26865 f_26877 (by rw [hx_26878]; omega) (by omega) (by omega) hf_26806_0 hf_26877_0 (by omega) _ _ (hP.sub [2, 3, 4, 5, 0, 1] rfl) (hD.sub [2, 3, 4, 5, 0, 1] (by decide) rfl) hS ls (lv_sub hl [0, 2, 3, 4, 5, 6, 7] rfl)
                · have c_26864i := i_ne (x := v_26801.toInt) (y := 0) rfl rfl c_26864
                  refine lv_aload_n hx hb dX12_layHour_104 rfl (lv_at hl 4 rfl) ?_
                  refine lv_iload_n hx hb dX12_layHour_105 rfl (lv_at hl 5 rfl) ?_
                  refine pci (va_runV (As := [.int x]) (rest := [.int x_26863, .ref i3]) ⟨hx, hb, hml, hown, hts⟩ (v_isSounding l D K m0 x m_0 m_1 m_2 w0 m_4 m_5 m_6 m_7 m_8 m_9 m_10 m_11 m_12 m_13 m_14 m_15 m_16 m_17 m_18 m_19 (.int 0) m_21 m_22 m_23 m_24 m_25 m_26 m_27 m_28 m_29 m_30 m_31 m_32 m_33 (.int v_26802) (.ref e0) m_36 (.ref q0) (.int v_26803) (.long v_26804) (.long v_26805) m_41 m_42 (.ref tf) (.ref i3) m_45 m_46 m_47 m_48 m_49 m_50 m_51 m_52 m_53 m_54 m_55 m_56 m_57 m_58 m_59 f_26806 H.size (by first | omega | decide) hf_26806_0) (cwV 1 hts gX12_layHour_X12_isSounding rfl rfl rfl (by decide +kernel) ⟨Nat.le_of_ble_eq_true rfl, Nat.le_of_ble_eq_true rfl⟩) (mkV hK hN (hP.sub [0, 1] rfl) (hD.sub [0, 1] (by decide) rfl) (ci := 12) (q0 := 0) rfl rfl) rfl rfl hl.1 rfl (lv_room (Nat.le_of_ble_eq_true rfl)) dX12_layHour_106 ⟨Nat.le_of_ble_eq_true rfl, Nat.le_of_ble_eq_true rfl⟩) (fun r_26879 hw => ?_)
                  obtain ⟨h_26880, -⟩ := hw
                  refine lv_iload_n hx hb dX12_layHour_109 rfl (lv_at hl 7 rfl) ?_
                  refine lv_icmp_ne (tgt := 117) hx hb dX12_layHour_110 (by decide) (fun c_26881 => ?_) (fun c_26881 => ?_)
                  · have c_26881i := i_ne (x := r_26879.toInt) (y := z.toInt) rfl rfl c_26881
                    refine lv_iconst (v := 0) hx hb dX12_layHour_117 (by decide) ?_
                    refine va_zast hx hb hK hP hD hS 4 1 rfl rfl (i_in hx_26863 (by omega)) dX12_layHour_118 (fun H locs hP hD hS => ?_)
                    generalize hf_26882 : (upd f_26364 (x_26863 : Int32).toNatClampNeg (vp_nar .boolean 0)) = f_26882 at hP hD
                    have hP : va_P D vwCl [(m0, .inr (12, [m_0, m_1, m_2, .ref w0, m_4, m_5, m_6, m_7, m_8, m_9, m_10, m_11, m_12, m_13, m_14, m_15, m_16, m_17, m_18, m_19, .int 0, m_21, m_22, m_23, m_24, m_25, m_26, m_27, m_28, m_29, m_30, m_31, m_32, m_33, .int v_26802, .ref e0, m_36, .ref q0, .int v_26803, .long v_26804, .long v_26805, m_41, m_42, .ref tf, .ref i3, m_45, m_46, m_47, m_48, m_49, m_50, m_51, m_52, m_53, m_54, m_55, m_56, m_57, m_58, m_59])), (w0, .inl (K 0, 5500, .inl f_26806)), (e0, .inl (K 2, 13, .inr (.inl f_26807))), (q0, .inl (K 2, 400, .inr (.inl f_26808))), (i3, .inl (K 1, 819, .inl f_26882)), (tf, .inl (K 0, 819, .inl f_26365))] H := hP
                    have hD : va_D A [(m0, .inr (12, [m_0, m_1, m_2, .ref w0, m_4, m_5, m_6, m_7, m_8, m_9, m_10, m_11, m_12, m_13, m_14, m_15, m_16, m_17, m_18, m_19, .int 0, m_21, m_22, m_23, m_24, m_25, m_26, m_27, m_28, m_29, m_30, m_31, m_32, m_33, .int v_26802, .ref e0, m_36, .ref q0, .int v_26803, .long v_26804, .long v_26805, m_41, m_42, .ref tf, .ref i3, m_45, m_46, m_47, m_48, m_49, m_50, m_51, m_52, m_53, m_54, m_55, m_56, m_57, m_58, m_59])), (w0, .inl (K 0, 5500, .inl f_26806)), (e0, .inl (K 2, 13, .inr (.inl f_26807))), (q0, .inl (K 2, 400, .inr (.inl f_26808))), (i3, .inl (K 1, 819, .inl f_26882)), (tf, .inl (K 0, 819, .inl f_26365))] := hD
                    refine lv_aload_n hx hb dX12_layHour_119 rfl (lv_at hl 4 rfl) ?_
                    refine va_get (ci := 12) (v := .ref tf) (C := RX12) (T := TX12) (N := 60) hx hb hts hw12 hown hK hP 0 rfl rfl 43 (by decide) (hts (.fieldLink RX12 114 "SmokeTuneModel" "thenFire" "[I") (List.mem_cons_of_mem _ (List.mem_append_left _ (List.mem_append_left _ (List.mem_of_getElem? (i := 2) rfl))))) (fun _ h9 => h9) rfl dX12_layHour_120 ?_
                    refine lv_iload hx hb dX12_layHour_123 (lv_at hl 0 rfl) ?_
                    refine lv_aload_n hx hb dX12_layHour_125 rfl (lv_at hl 4 rfl) ?_
                    refine va_get (ci := 12) (v := .ref w0) (C := RX12) (T := TX12) (N := 60) hx hb hts hw12 hown hK hP 0 rfl rfl 3 (by decide) (hts (.fieldLink RX12 13 "SmokeTuneModel" "row" "[I") (List.mem_cons_of_mem _ (List.mem_append_left _ (List.mem_append_left _ (List.mem_of_getElem? (i := 0) rfl))))) (fun _ h9 => h9) rfl dX12_layHour_126 ?_
                    refine lv_bipush (v := 11) hx hb dX12_layHour_129 (by decide) ?_
                    refine lv_iload_n hx hb dX12_layHour_131 rfl (lv_at hl 5 rfl) ?_
                    refine lv_iadd hx hb dX12_layHour_132 ?_
                    refine lv_topi (fun x_26883 ex_26883 => ?_)
                    have hx_26883 : x_26883.toInt = (11 + x.toInt) := by rw [ex_26883]; exact i_add (show (11 : Int32).toInt = 11 from rfl) rfl (by omega)
                    refine va_iald hx hb hK hP 1 0 rfl rfl (i_in hx_26883 (by omega)) dX12_layHour_133 ?_
                    refine lv_topi (fun x_26884 ex_26884 => ?_)
                    have px_26884 := RwOK.at hf_26806_0 hx_26883 (show 0 ≤ (11 + x.toInt) ∧ (11 + x.toInt) < 100 by omega)
                    rw [← ex_26884] at px_26884
                    have hx_26884 := PR.r_11 px_26884 (by omega)
                    refine lv_aload_n hx hb dX12_layHour_134 rfl (lv_at hl 4 rfl) ?_
                    refine lv_aload_n hx hb dX12_layHour_135 rfl (lv_at hl 4 rfl) ?_
                    refine va_get (ci := 12) (v := .ref w0) (C := RX12) (T := TX12) (N := 60) hx hb hts hw12 hown hK hP 0 rfl rfl 3 (by decide) (hts (.fieldLink RX12 13 "SmokeTuneModel" "row" "[I") (List.mem_cons_of_mem _ (List.mem_append_left _ (List.mem_append_left _ (List.mem_of_getElem? (i := 0) rfl))))) (fun _ h9 => h9) rfl dX12_layHour_136 ?_
                    refine lv_iconst (v := 3) hx hb dX12_layHour_139 (by decide) ?_
                    refine va_iald hx hb hK hP 1 0 rfl rfl (i_in (x := 3) rfl (by omega)) dX12_layHour_140 ?_
                    refine lv_topi (fun x_26885 ex_26885 => ?_)
                    have px_26885 := RwOK.at hf_26806_0 (show (3 : Int32).toInt = 3 from rfl) (show 0 ≤ 3 ∧ 3 < 100 by omega)
                    rw [← ex_26885] at px_26885
                    have hx_26885 := PR.r_3 px_26885 (by omega)
                    refine lv_iload_n hx hb dX12_layHour_141 rfl (lv_at hl 5 rfl) ?_
                    refine kci (S := Su) (wr := [(i3, .inl (K 1, 819, .inl f_26882)), (tf, .inl (K 0, 819, .inl f_26365))]) (va_runV (As := [.int x_26885, .int x]) (rest := [.int x_26884, .int x_26863, .ref tf]) ⟨hx, hb, hml, hown, hts⟩ (v_burnsOf l D K m0 x_26885 x m_0 m_1 m_2 w0 m_4 m_5 m_6 m_7 m_8 m_9 m_10 m_11 m_12 m_13 m_14 m_15 m_16 m_17 m_18 m_19 m_21 m_22 m_23 m_24 m_25 m_26 m_27 m_28 m_29 m_30 m_31 m_32 m_33 v_26802 e0 m_36 q0 v_26803 v_26804 v_26805 m_41 m_42 (.ref tf) (.ref i3) m_45 m_46 m_47 m_48 m_49 m_50 m_51 m_52 m_53 m_54 m_55 m_56 m_57 m_58 m_59 f_26806 f_26807 f_26808 H.size (by first | omega | decide) (by first | omega | decide) (by first | omega | decide) hf_26806_0) (cwV 2 hts gX12_layHour_X12_burnsOf rfl rfl rfl (by decide +kernel) ⟨Nat.le_of_ble_eq_true rfl, Nat.le_of_ble_eq_true rfl⟩) (mkV hK hN (hP.sub [0, 1, 2, 3] rfl) (hD.sub [0, 1, 2, 3] (by decide) rfl) (ci := 12) (q0 := 0) rfl rfl) rfl rfl hl.1 rfl (lv_room (Nat.le_of_ble_eq_true rfl)) dX12_layHour_142 ⟨Nat.le_of_ble_eq_true rfl, Nat.le_of_ble_eq_true rfl⟩) hP hD hS hA [0, 1, 2, 3] [4, 5] rfl rfl (by decide) (by decide) (fun r_26886 u_26887 H locs hw hP hD hS => ?_)
                    have hP : va_P D vwCl [(i3, .inl (K 1, 819, .inl f_26882)), (tf, .inl (K 0, 819, .inl f_26365)), (m0, .inr (12, [m_0, m_1, m_2, .ref w0, m_4, m_5, m_6, m_7, m_8, m_9, m_10, m_11, m_12, m_13, m_14, m_15, m_16, m_17, m_18, m_19, .int 0, m_21, m_22, m_23, m_24, m_25, m_26, m_27, m_28, m_29, m_30, m_31, m_32, m_33, .int (u_26887.2.2.2.1 0), .ref e0, m_36, .ref q0, .int (u_26887.2.2.2.1 1), .long (u_26887.2.2.2.2.1 0), .long (u_26887.2.2.2.2.1 1), m_41, m_42, .ref tf, .ref i3, m_45, m_46, m_47, m_48, m_49, m_50, m_51, m_52, m_53, m_54, m_55, m_56, m_57, m_58, m_59])), (w0, .inl (K 0, 5500, .inl f_26806)), (e0, .inl (K 2, 13, .inr (.inl (u_26887.2.2.1 0)))), (q0, .inl (K 2, 400, .inr (.inl (u_26887.2.2.1 1))))] H := hP
                    have hD : va_D A [(i3, .inl (K 1, 819, .inl f_26882)), (tf, .inl (K 0, 819, .inl f_26365)), (m0, .inr (12, [m_0, m_1, m_2, .ref w0, m_4, m_5, m_6, m_7, m_8, m_9, m_10, m_11, m_12, m_13, m_14, m_15, m_16, m_17, m_18, m_19, .int 0, m_21, m_22, m_23, m_24, m_25, m_26, m_27, m_28, m_29, m_30, m_31, m_32, m_33, .int (u_26887.2.2.2.1 0), .ref e0, m_36, .ref q0, .int (u_26887.2.2.2.1 1), .long (u_26887.2.2.2.2.1 0), .long (u_26887.2.2.2.2.1 1), m_41, m_42, .ref tf, .ref i3, m_45, m_46, m_47, m_48, m_49, m_50, m_51, m_52, m_53, m_54, m_55, m_56, m_57, m_58, m_59])), (w0, .inl (K 0, 5500, .inl f_26806)), (e0, .inl (K 2, 13, .inr (.inl (u_26887.2.2.1 0)))), (q0, .inl (K 2, 400, .inr (.inl (u_26887.2.2.1 1))))] := hD
                    obtain ⟨h_26889, k_26888, -⟩ := hw
                    refine lv_isub hx hb dX12_layHour_145 ?_
                    refine lv_topi (fun x_26890 ex_26890 => ?_)
                    have hx_26890 : x_26890.toInt = (x_26884.toInt - r_26886.toInt) := by rw [ex_26890]; exact i_sub rfl rfl (by omega)
                    refine lv_i2l hx hb dX12_layHour_146 rfl ?_
                    refine lv_topl (fun x_26891 ex_26891 => ?_)
                    have hx_26891 : x_26891.toInt = (x_26884.toInt - r_26886.toInt) := by rw [ex_26891]; exact i_wide hx_26890
                    refine lv_iconst (v := 0) hx hb dX12_layHour_147 (by decide) ?_
                    refine lv_bipush (v := 20) hx hb dX12_layHour_148 (by decide) ?_
                    refine pci (va_runS (As := [.long x_26891, .int 0, .int 20]) (rest := [.int x_26863, .ref tf]) ⟨hx, hb, hml, hown, hts⟩ (v_within_20 l D K x_26891 H.size) (va_cwS 3 hts gX12_layHour_X12_within rfl rfl rfl (by decide +kernel) ⟨Nat.le_of_ble_eq_true rfl, Nat.le_of_ble_eq_true rfl⟩) (mkS hK hN (va_P.nil) (va_D.nil (A := fun _ => True))) rfl rfl hl.1 rfl (lv_room (Nat.le_of_ble_eq_true rfl)) dX12_layHour_150 ⟨Nat.le_of_ble_eq_true rfl, Nat.le_of_ble_eq_true rfl⟩) (fun r_26892 hw => ?_)
                    obtain ⟨h_26893, -⟩ := hw
                    refine va_iast hx hb hK hP hD hS 1 0 rfl rfl (i_in hx_26863 (by omega)) dX12_layHour_153 (fun H locs hP hD hS => ?_)
                    generalize hf_26894 : (upd f_26365 (x_26863 : Int32).toNatClampNeg r_26892) = f_26894 at hP hD
                    have hf_26894_0 : Rg 819 0 20 f_26894 := by rw [← hf_26894]; exact Rg.upd hf_26365_0 rfl (by omega)
                    have hP : va_P D vwCl [(i3, .inl (K 1, 819, .inl f_26882)), (tf, .inl (K 0, 819, .inl f_26894)), (m0, .inr (12, [m_0, m_1, m_2, .ref w0, m_4, m_5, m_6, m_7, m_8, m_9, m_10, m_11, m_12, m_13, m_14, m_15, m_16, m_17, m_18, m_19, .int 0, m_21, m_22, m_23, m_24, m_25, m_26, m_27, m_28, m_29, m_30, m_31, m_32, m_33, .int (u_26887.2.2.2.1 0), .ref e0, m_36, .ref q0, .int (u_26887.2.2.2.1 1), .long (u_26887.2.2.2.2.1 0), .long (u_26887.2.2.2.2.1 1), m_41, m_42, .ref tf, .ref i3, m_45, m_46, m_47, m_48, m_49, m_50, m_51, m_52, m_53, m_54, m_55, m_56, m_57, m_58, m_59])), (w0, .inl (K 0, 5500, .inl f_26806)), (e0, .inl (K 2, 13, .inr (.inl (u_26887.2.2.1 0)))), (q0, .inl (K 2, 400, .inr (.inl (u_26887.2.2.1 1))))] H := hP
                    have hD : va_D A [(i3, .inl (K 1, 819, .inl f_26882)), (tf, .inl (K 0, 819, .inl f_26894)), (m0, .inr (12, [m_0, m_1, m_2, .ref w0, m_4, m_5, m_6, m_7, m_8, m_9, m_10, m_11, m_12, m_13, m_14, m_15, m_16, m_17, m_18, m_19, .int 0, m_21, m_22, m_23, m_24, m_25, m_26, m_27, m_28, m_29, m_30, m_31, m_32, m_33, .int (u_26887.2.2.2.1 0), .ref e0, m_36, .ref q0, .int (u_26887.2.2.2.1 1), .long (u_26887.2.2.2.2.1 0), .long (u_26887.2.2.2.2.1 1), m_41, m_42, .ref tf, .ref i3, m_45, m_46, m_47, m_48, m_49, m_50, m_51, m_52, m_53, m_54, m_55, m_56, m_57, m_58, m_59])), (w0, .inl (K 0, 5500, .inl f_26806)), (e0, .inl (K 2, 13, .inr (.inl (u_26887.2.2.1 0)))), (q0, .inl (K 2, 400, .inr (.inl (u_26887.2.2.1 1))))] := hD
                    obtain ⟨x_26895, ex_26895⟩ : ∃ y : Int32, y = v_26355 + Int32.ofInt 1 := ⟨_, rfl⟩
                    have hx_26895 : x_26895.toInt = (v_26355.toInt + 1) := by rw [ex_26895]; exact i_add rfl (show (Int32.ofInt 1).toInt = 1 from rfl) (by omega)
                    refine lv_iinc (v := x_26895) (lv' := [(6, .int x_26895), (7, .int x_26863), (5, .int v_26801), (4, .int v_23106), (0, .ref m0), (1, .int x), (2, .int y), (3, .int z)]) hx hb dX12_layHour_154 hl (k := 2) rfl (by rw [ex_26895]) (by decide) rfl (fun ls hl => ?_)
                    refine lv_goto (tgt := 27) hx hb dX12_layHour_157 (by decide) ?_
                    exact ih_26756 x_26895 v_26801 (u_26887.2.2.2.1 0) (u_26887.2.2.2.1 1) (u_26887.2.2.2.2.1 0) (u_26887.2.2.2.2.1 1) f_26806 (u_26887.2.2.1 0) (u_26887.2.2.1 1) f_26882 f_26894 (by rw [hx_26895]; omega) (by omega) (by omega) hf_26806_0 hf_26894_0 (by omega) _ _ (hP.sub [2, 3, 4, 5, 0, 1] rfl) (hD.sub [2, 3, 4, 5, 0, 1] (by decide) rfl) hS ls (lv_sub hl [0, 2, 3, 4, 5, 6, 7] rfl)
                  · have c_26881i := i_eq (x := r_26879.toInt) (y := z.toInt) rfl rfl c_26881
                    refine lv_iconst (v := 1) hx hb dX12_layHour_113 (by decide) ?_
                    refine lv_goto (tgt := 118) hx hb dX12_layHour_114 (by decide) ?_
                    refine va_zast hx hb hK hP hD hS 4 1 rfl rfl (i_in hx_26863 (by omega)) dX12_layHour_118 (fun H locs hP hD hS => ?_)
                    generalize hf_26896 : (upd f_26364 (x_26863 : Int32).toNatClampNeg (vp_nar .boolean 1)) = f_26896 at hP hD
                    have hP : va_P D vwCl [(m0, .inr (12, [m_0, m_1, m_2, .ref w0, m_4, m_5, m_6, m_7, m_8, m_9, m_10, m_11, m_12, m_13, m_14, m_15, m_16, m_17, m_18, m_19, .int 0, m_21, m_22, m_23, m_24, m_25, m_26, m_27, m_28, m_29, m_30, m_31, m_32, m_33, .int v_26802, .ref e0, m_36, .ref q0, .int v_26803, .long v_26804, .long v_26805, m_41, m_42, .ref tf, .ref i3, m_45, m_46, m_47, m_48, m_49, m_50, m_51, m_52, m_53, m_54, m_55, m_56, m_57, m_58, m_59])), (w0, .inl (K 0, 5500, .inl f_26806)), (e0, .inl (K 2, 13, .inr (.inl f_26807))), (q0, .inl (K 2, 400, .inr (.inl f_26808))), (i3, .inl (K 1, 819, .inl f_26896)), (tf, .inl (K 0, 819, .inl f_26365))] H := hP
                    have hD : va_D A [(m0, .inr (12, [m_0, m_1, m_2, .ref w0, m_4, m_5, m_6, m_7, m_8, m_9, m_10, m_11, m_12, m_13, m_14, m_15, m_16, m_17, m_18, m_19, .int 0, m_21, m_22, m_23, m_24, m_25, m_26, m_27, m_28, m_29, m_30, m_31, m_32, m_33, .int v_26802, .ref e0, m_36, .ref q0, .int v_26803, .long v_26804, .long v_26805, m_41, m_42, .ref tf, .ref i3, m_45, m_46, m_47, m_48, m_49, m_50, m_51, m_52, m_53, m_54, m_55, m_56, m_57, m_58, m_59])), (w0, .inl (K 0, 5500, .inl f_26806)), (e0, .inl (K 2, 13, .inr (.inl f_26807))), (q0, .inl (K 2, 400, .inr (.inl f_26808))), (i3, .inl (K 1, 819, .inl f_26896)), (tf, .inl (K 0, 819, .inl f_26365))] := hD
                    refine lv_aload_n hx hb dX12_layHour_119 rfl (lv_at hl 4 rfl) ?_
                    refine va_get (ci := 12) (v := .ref tf) (C := RX12) (T := TX12) (N := 60) hx hb hts hw12 hown hK hP 0 rfl rfl 43 (by decide) (hts (.fieldLink RX12 114 "SmokeTuneModel" "thenFire" "[I") (List.mem_cons_of_mem _ (List.mem_append_left _ (List.mem_append_left _ (List.mem_of_getElem? (i := 2) rfl))))) (fun _ h9 => h9) rfl dX12_layHour_120 ?_
                    refine lv_iload hx hb dX12_layHour_123 (lv_at hl 0 rfl) ?_
                    refine lv_aload_n hx hb dX12_layHour_125 rfl (lv_at hl 4 rfl) ?_
                    refine va_get (ci := 12) (v := .ref w0) (C := RX12) (T := TX12) (N := 60) hx hb hts hw12 hown hK hP 0 rfl rfl 3 (by decide) (hts (.fieldLink RX12 13 "SmokeTuneModel" "row" "[I") (List.mem_cons_of_mem _ (List.mem_append_left _ (List.mem_append_left _ (List.mem_of_getElem? (i := 0) rfl))))) (fun _ h9 => h9) rfl dX12_layHour_126 ?_
                    refine lv_bipush (v := 11) hx hb dX12_layHour_129 (by decide) ?_
                    refine lv_iload_n hx hb dX12_layHour_131 rfl (lv_at hl 5 rfl) ?_
                    refine lv_iadd hx hb dX12_layHour_132 ?_
                    refine lv_topi (fun x_26897 ex_26897 => ?_)
                    have hx_26897 : x_26897.toInt = (11 + x.toInt) := by rw [ex_26897]; exact i_add (show (11 : Int32).toInt = 11 from rfl) rfl (by omega)
                    refine va_iald hx hb hK hP 1 0 rfl rfl (i_in hx_26897 (by omega)) dX12_layHour_133 ?_
                    refine lv_topi (fun x_26898 ex_26898 => ?_)
                    have px_26898 := RwOK.at hf_26806_0 hx_26897 (show 0 ≤ (11 + x.toInt) ∧ (11 + x.toInt) < 100 by omega)
                    rw [← ex_26898] at px_26898
                    have hx_26898 := PR.r_11 px_26898 (by omega)
                    refine lv_aload_n hx hb dX12_layHour_134 rfl (lv_at hl 4 rfl) ?_
                    refine lv_aload_n hx hb dX12_layHour_135 rfl (lv_at hl 4 rfl) ?_
                    refine va_get (ci := 12) (v := .ref w0) (C := RX12) (T := TX12) (N := 60) hx hb hts hw12 hown hK hP 0 rfl rfl 3 (by decide) (hts (.fieldLink RX12 13 "SmokeTuneModel" "row" "[I") (List.mem_cons_of_mem _ (List.mem_append_left _ (List.mem_append_left _ (List.mem_of_getElem? (i := 0) rfl))))) (fun _ h9 => h9) rfl dX12_layHour_136 ?_
                    refine lv_iconst (v := 3) hx hb dX12_layHour_139 (by decide) ?_
                    refine va_iald hx hb hK hP 1 0 rfl rfl (i_in (x := 3) rfl (by omega)) dX12_layHour_140 ?_
                    refine lv_topi (fun x_26899 ex_26899 => ?_)
                    have px_26899 := RwOK.at hf_26806_0 (show (3 : Int32).toInt = 3 from rfl) (show 0 ≤ 3 ∧ 3 < 100 by omega)
                    rw [← ex_26899] at px_26899
                    have hx_26899 := PR.r_3 px_26899 (by omega)
                    refine lv_iload_n hx hb dX12_layHour_141 rfl (lv_at hl 5 rfl) ?_
                    refine kci (S := Su) (wr := [(i3, .inl (K 1, 819, .inl f_26896)), (tf, .inl (K 0, 819, .inl f_26365))]) (va_runV (As := [.int x_26899, .int x]) (rest := [.int x_26898, .int x_26863, .ref tf]) ⟨hx, hb, hml, hown, hts⟩ (v_burnsOf l D K m0 x_26899 x m_0 m_1 m_2 w0 m_4 m_5 m_6 m_7 m_8 m_9 m_10 m_11 m_12 m_13 m_14 m_15 m_16 m_17 m_18 m_19 m_21 m_22 m_23 m_24 m_25 m_26 m_27 m_28 m_29 m_30 m_31 m_32 m_33 v_26802 e0 m_36 q0 v_26803 v_26804 v_26805 m_41 m_42 (.ref tf) (.ref i3) m_45 m_46 m_47 m_48 m_49 m_50 m_51 m_52 m_53 m_54 m_55 m_56 m_57 m_58 m_59 f_26806 f_26807 f_26808 H.size (by first | omega | decide) (by first | omega | decide) (by first | omega | decide) hf_26806_0) (cwV 2 hts gX12_layHour_X12_burnsOf rfl rfl rfl (by decide +kernel) ⟨Nat.le_of_ble_eq_true rfl, Nat.le_of_ble_eq_true rfl⟩) (mkV hK hN (hP.sub [0, 1, 2, 3] rfl) (hD.sub [0, 1, 2, 3] (by decide) rfl) (ci := 12) (q0 := 0) rfl rfl) rfl rfl hl.1 rfl (lv_room (Nat.le_of_ble_eq_true rfl)) dX12_layHour_142 ⟨Nat.le_of_ble_eq_true rfl, Nat.le_of_ble_eq_true rfl⟩) hP hD hS hA [0, 1, 2, 3] [4, 5] rfl rfl (by decide) (by decide) (fun r_26900 u_26901 H locs hw hP hD hS => ?_)
                    have hP : va_P D vwCl [(i3, .inl (K 1, 819, .inl f_26896)), (tf, .inl (K 0, 819, .inl f_26365)), (m0, .inr (12, [m_0, m_1, m_2, .ref w0, m_4, m_5, m_6, m_7, m_8, m_9, m_10, m_11, m_12, m_13, m_14, m_15, m_16, m_17, m_18, m_19, .int 0, m_21, m_22, m_23, m_24, m_25, m_26, m_27, m_28, m_29, m_30, m_31, m_32, m_33, .int (u_26901.2.2.2.1 0), .ref e0, m_36, .ref q0, .int (u_26901.2.2.2.1 1), .long (u_26901.2.2.2.2.1 0), .long (u_26901.2.2.2.2.1 1), m_41, m_42, .ref tf, .ref i3, m_45, m_46, m_47, m_48, m_49, m_50, m_51, m_52, m_53, m_54, m_55, m_56, m_57, m_58, m_59])), (w0, .inl (K 0, 5500, .inl f_26806)), (e0, .inl (K 2, 13, .inr (.inl (u_26901.2.2.1 0)))), (q0, .inl (K 2, 400, .inr (.inl (u_26901.2.2.1 1))))] H := hP
                    have hD : va_D A [(i3, .inl (K 1, 819, .inl f_26896)), (tf, .inl (K 0, 819, .inl f_26365)), (m0, .inr (12, [m_0, m_1, m_2, .ref w0, m_4, m_5, m_6, m_7, m_8, m_9, m_10, m_11, m_12, m_13, m_14, m_15, m_16, m_17, m_18, m_19, .int 0, m_21, m_22, m_23, m_24, m_25, m_26, m_27, m_28, m_29, m_30, m_31, m_32, m_33, .int (u_26901.2.2.2.1 0), .ref e0, m_36, .ref q0, .int (u_26901.2.2.2.1 1), .long (u_26901.2.2.2.2.1 0), .long (u_26901.2.2.2.2.1 1), m_41, m_42, .ref tf, .ref i3, m_45, m_46, m_47, m_48, m_49, m_50, m_51, m_52, m_53, m_54, m_55, m_56, m_57, m_58, m_59])), (w0, .inl (K 0, 5500, .inl f_26806)), (e0, .inl (K 2, 13, .inr (.inl (u_26901.2.2.1 0)))), (q0, .inl (K 2, 400, .inr (.inl (u_26901.2.2.1 1))))] := hD
                    obtain ⟨h_26903, k_26902, -⟩ := hw
                    refine lv_isub hx hb dX12_layHour_145 ?_
                    refine lv_topi (fun x_26904 ex_26904 => ?_)
                    have hx_26904 : x_26904.toInt = (x_26898.toInt - r_26900.toInt) := by rw [ex_26904]; exact i_sub rfl rfl (by omega)
                    refine lv_i2l hx hb dX12_layHour_146 rfl ?_
                    refine lv_topl (fun x_26905 ex_26905 => ?_)
                    have hx_26905 : x_26905.toInt = (x_26898.toInt - r_26900.toInt) := by rw [ex_26905]; exact i_wide hx_26904
                    refine lv_iconst (v := 0) hx hb dX12_layHour_147 (by decide) ?_
                    refine lv_bipush (v := 20) hx hb dX12_layHour_148 (by decide) ?_
                    refine pci (va_runS (As := [.long x_26905, .int 0, .int 20]) (rest := [.int x_26863, .ref tf]) ⟨hx, hb, hml, hown, hts⟩ (v_within_20 l D K x_26905 H.size) (va_cwS 3 hts gX12_layHour_X12_within rfl rfl rfl (by decide +kernel) ⟨Nat.le_of_ble_eq_true rfl, Nat.le_of_ble_eq_true rfl⟩) (mkS hK hN (va_P.nil) (va_D.nil (A := fun _ => True))) rfl rfl hl.1 rfl (lv_room (Nat.le_of_ble_eq_true rfl)) dX12_layHour_150 ⟨Nat.le_of_ble_eq_true rfl, Nat.le_of_ble_eq_true rfl⟩) (fun r_26906 hw => ?_)
                    obtain ⟨h_26907, -⟩ := hw
                    refine va_iast hx hb hK hP hD hS 1 0 rfl rfl (i_in hx_26863 (by omega)) dX12_layHour_153 (fun H locs hP hD hS => ?_)
                    generalize hf_26908 : (upd f_26365 (x_26863 : Int32).toNatClampNeg r_26906) = f_26908 at hP hD
                    have hf_26908_0 : Rg 819 0 20 f_26908 := by rw [← hf_26908]; exact Rg.upd hf_26365_0 rfl (by omega)
                    have hP : va_P D vwCl [(i3, .inl (K 1, 819, .inl f_26896)), (tf, .inl (K 0, 819, .inl f_26908)), (m0, .inr (12, [m_0, m_1, m_2, .ref w0, m_4, m_5, m_6, m_7, m_8, m_9, m_10, m_11, m_12, m_13, m_14, m_15, m_16, m_17, m_18, m_19, .int 0, m_21, m_22, m_23, m_24, m_25, m_26, m_27, m_28, m_29, m_30, m_31, m_32, m_33, .int (u_26901.2.2.2.1 0), .ref e0, m_36, .ref q0, .int (u_26901.2.2.2.1 1), .long (u_26901.2.2.2.2.1 0), .long (u_26901.2.2.2.2.1 1), m_41, m_42, .ref tf, .ref i3, m_45, m_46, m_47, m_48, m_49, m_50, m_51, m_52, m_53, m_54, m_55, m_56, m_57, m_58, m_59])), (w0, .inl (K 0, 5500, .inl f_26806)), (e0, .inl (K 2, 13, .inr (.inl (u_26901.2.2.1 0)))), (q0, .inl (K 2, 400, .inr (.inl (u_26901.2.2.1 1))))] H := hP
                    have hD : va_D A [(i3, .inl (K 1, 819, .inl f_26896)), (tf, .inl (K 0, 819, .inl f_26908)), (m0, .inr (12, [m_0, m_1, m_2, .ref w0, m_4, m_5, m_6, m_7, m_8, m_9, m_10, m_11, m_12, m_13, m_14, m_15, m_16, m_17, m_18, m_19, .int 0, m_21, m_22, m_23, m_24, m_25, m_26, m_27, m_28, m_29, m_30, m_31, m_32, m_33, .int (u_26901.2.2.2.1 0), .ref e0, m_36, .ref q0, .int (u_26901.2.2.2.1 1), .long (u_26901.2.2.2.2.1 0), .long (u_26901.2.2.2.2.1 1), m_41, m_42, .ref tf, .ref i3, m_45, m_46, m_47, m_48, m_49, m_50, m_51, m_52, m_53, m_54, m_55, m_56, m_57, m_58, m_59])), (w0, .inl (K 0, 5500, .inl f_26806)), (e0, .inl (K 2, 13, .inr (.inl (u_26901.2.2.1 0)))), (q0, .inl (K 2, 400, .inr (.inl (u_26901.2.2.1 1))))] := hD
                    obtain ⟨x_26909, ex_26909⟩ : ∃ y : Int32, y = v_26355 + Int32.ofInt 1 := ⟨_, rfl⟩
                    have hx_26909 : x_26909.toInt = (v_26355.toInt + 1) := by rw [ex_26909]; exact i_add rfl (show (Int32.ofInt 1).toInt = 1 from rfl) (by omega)
                    refine lv_iinc (v := x_26909) (lv' := [(6, .int x_26909), (7, .int x_26863), (5, .int v_26801), (4, .int v_23106), (0, .ref m0), (1, .int x), (2, .int y), (3, .int z)]) hx hb dX12_layHour_154 hl (k := 2) rfl (by rw [ex_26909]) (by decide) rfl (fun ls hl => ?_)
                    refine lv_goto (tgt := 27) hx hb dX12_layHour_157 (by decide) ?_
                    exact ih_26756 x_26909 v_26801 (u_26901.2.2.2.1 0) (u_26901.2.2.2.1 1) (u_26901.2.2.2.2.1 0) (u_26901.2.2.2.2.1 1) f_26806 (u_26901.2.2.1 0) (u_26901.2.2.1 1) f_26896 f_26908 (by rw [hx_26909]; omega) (by omega) (by omega) hf_26806_0 hf_26908_0 (by omega) _ _ (hP.sub [2, 3, 4, 5, 0, 1] rfl) (hD.sub [2, 3, 4, 5, 0, 1] (by decide) rfl) hS ls (lv_sub hl [0, 2, 3, 4, 5, 6, 7] rfl)
              have j_26910 : ∀ (v_26793 : Int32) (v_26794 : Int32) (v_26795 : Int64) (v_26796 : Int64) (f_26797 : Nat → Int64) (f_26798 : Nat → Int64) (hv_26794 : 0 ≤ v_26794.toInt ∧ v_26794.toInt ≤ 1) (H : Heap) (locs : List Loc) (hP : va_P D vwCl [(m0, .inr (12, [m_0, m_1, m_2, .ref w0, m_4, m_5, m_6, m_7, m_8, m_9, m_10, m_11, m_12, m_13, m_14, m_15, m_16, m_17, m_18, m_19, .int 0, m_21, m_22, m_23, m_24, m_25, m_26, m_27, m_28, m_29, m_30, m_31, m_32, m_33, .int v_26793, .ref e0, m_36, .ref q0, .int v_26794, .long v_26795, .long v_26796, m_41, m_42, .ref tf, .ref i3, m_45, m_46, m_47, m_48, m_49, m_50, m_51, m_52, m_53, m_54, m_55, m_56, m_57, m_58, m_59])), (w0, .inl (K 0, 5500, .inl f_26361)), (e0, .inl (K 2, 13, .inr (.inl f_26797))), (q0, .inl (K 2, 400, .inr (.inl f_26798))), (i3, .inl (K 1, 819, .inl f_26364)), (tf, .inl (K 0, 819, .inl f_26365))] H) (hD : va_D A [(m0, .inr (12, [m_0, m_1, m_2, .ref w0, m_4, m_5, m_6, m_7, m_8, m_9, m_10, m_11, m_12, m_13, m_14, m_15, m_16, m_17, m_18, m_19, .int 0, m_21, m_22, m_23, m_24, m_25, m_26, m_27, m_28, m_29, m_30, m_31, m_32, m_33, .int v_26793, .ref e0, m_36, .ref q0, .int v_26794, .long v_26795, .long v_26796, m_41, m_42, .ref tf, .ref i3, m_45, m_46, m_47, m_48, m_49, m_50, m_51, m_52, m_53, m_54, m_55, m_56, m_57, m_58, m_59])), (w0, .inl (K 0, 5500, .inl f_26361)), (e0, .inl (K 2, 13, .inr (.inl f_26797))), (q0, .inl (K 2, 400, .inr (.inl f_26798))), (i3, .inl (K 1, 819, .inl f_26364)), (tf, .inl (K 0, 819, .inl f_26365))]) (hS : va_S A s.heap H locs) (ls : Array Slot) (hl : lv_has ls 8 [(6, .int v_26355), (4, .int v_23106), (0, .ref m0), (1, .int x), (2, .int y), (3, .int z)]), W p l e ({ frames := 6, cells := 0, slots := 0, locals := 146 }) s m (([.ref m0, .int x, .int y, .int z] : List Value).toArray) below meth c H locs 0 0 Q (F0 m 55 ls []) := by
                intro v_26793 v_26794 v_26795 v_26796 f_26797 f_26798 hv_26794 H locs hP hD hS ls hl
                refine lv_iconst (v := 0) hx hb dX12_layHour_55 (by decide) ?_
                refine lv_istore (lv' := [(5, .int 0), (6, .int v_26355), (4, .int v_23106), (0, .ref m0), (1, .int x), (2, .int y), (3, .int z)]) hx hb dX12_layHour_56 hl (by decide) rfl (fun ls hl => ?_)
                refine lv_iload hx hb dX12_layHour_58 (lv_at hl 1 rfl) ?_
                refine lv_if_le (tgt := 79) hx hb dX12_layHour_60 (by decide) (fun c_26911 => ?_) (fun c_26911 => ?_)
                · have c_26911i := i_le (x := v_26355.toInt) (y := 0) rfl rfl c_26911
                  exact j_26859 0 v_26793 v_26794 v_26795 v_26796 f_26361 f_26797 f_26798 (by decide) (by omega) hf_26361_0 _ _ hP hD hS ls (lv_sub hl [0, 1, 2, 3, 4, 5, 6] rfl)
                · have c_26911i := i_nle (x := v_26355.toInt) (y := 0) rfl rfl c_26911
                  refine lv_iload hx hb dX12_layHour_63 (lv_at hl 0 rfl) ?_
                  refine lv_if_eq (tgt := 79) hx hb dX12_layHour_65 (by decide) (fun c_26912 => ?_) (fun c_26912 => absurd (by decide) c_26912)
                  exact j_26859 0 v_26793 v_26794 v_26795 v_26796 f_26361 f_26797 f_26798 (by decide) (by omega) hf_26361_0 _ _ hP hD hS ls (lv_sub hl [0, 1, 2, 3, 4, 5, 6] rfl)
              refine lv_if_eq (tgt := 55) hx hb dX12_layHour_35 (by decide) (fun c_26913 => ?_) (fun c_26913 => ?_)
              · have c_26913i := i_eq (x := v_26356.toInt) (y := 0) rfl rfl c_26913
                exact j_26910 v_26357 v_26358 v_26359 v_26360 f_26362 f_26363 (by omega) _ _ hP hD hS ls (lv_sub hl [0, 2, 3, 4, 5, 6] rfl)
              · have c_26913i := i_ne (x := v_26356.toInt) (y := 0) rfl rfl c_26913
                refine lv_iload hx hb dX12_layHour_38 (lv_at hl 0 rfl) ?_
                have j_26933 : ∀ (v_26920 : Int32) (v_26921 : Int32) (v_26922 : Int64) (v_26923 : Int64) (f_26924 : Nat → Int64) (f_26925 : Nat → Int64) (hv_26921 : 0 ≤ v_26921.toInt ∧ v_26921.toInt ≤ 1) (H : Heap) (locs : List Loc) (hP : va_P D vwCl [(m0, .inr (12, [m_0, m_1, m_2, .ref w0, m_4, m_5, m_6, m_7, m_8, m_9, m_10, m_11, m_12, m_13, m_14, m_15, m_16, m_17, m_18, m_19, .int 0, m_21, m_22, m_23, m_24, m_25, m_26, m_27, m_28, m_29, m_30, m_31, m_32, m_33, .int v_26920, .ref e0, m_36, .ref q0, .int v_26921, .long v_26922, .long v_26923, m_41, m_42, .ref tf, .ref i3, m_45, m_46, m_47, m_48, m_49, m_50, m_51, m_52, m_53, m_54, m_55, m_56, m_57, m_58, m_59])), (w0, .inl (K 0, 5500, .inl f_26361)), (e0, .inl (K 2, 13, .inr (.inl f_26924))), (q0, .inl (K 2, 400, .inr (.inl f_26925))), (i3, .inl (K 1, 819, .inl f_26364)), (tf, .inl (K 0, 819, .inl f_26365))] H) (hD : va_D A [(m0, .inr (12, [m_0, m_1, m_2, .ref w0, m_4, m_5, m_6, m_7, m_8, m_9, m_10, m_11, m_12, m_13, m_14, m_15, m_16, m_17, m_18, m_19, .int 0, m_21, m_22, m_23, m_24, m_25, m_26, m_27, m_28, m_29, m_30, m_31, m_32, m_33, .int v_26920, .ref e0, m_36, .ref q0, .int v_26921, .long v_26922, .long v_26923, m_41, m_42, .ref tf, .ref i3, m_45, m_46, m_47, m_48, m_49, m_50, m_51, m_52, m_53, m_54, m_55, m_56, m_57, m_58, m_59])), (w0, .inl (K 0, 5500, .inl f_26361)), (e0, .inl (K 2, 13, .inr (.inl f_26924))), (q0, .inl (K 2, 400, .inr (.inl f_26925))), (i3, .inl (K 1, 819, .inl f_26364)), (tf, .inl (K 0, 819, .inl f_26365))]) (hS : va_S A s.heap H locs) (ls : Array Slot) (hl : lv_has ls 8 [(6, .int v_26355), (4, .int v_23106), (0, .ref m0), (1, .int x), (2, .int y), (3, .int z)]), W p l e ({ frames := 6, cells := 0, slots := 0, locals := 146 }) s m (([.ref m0, .int x, .int y, .int z] : List Value).toArray) below meth c H locs 0 0 Q (F0 m 51 ls []) := by
                  intro v_26920 v_26921 v_26922 v_26923 f_26924 f_26925 hv_26921 H locs hP hD hS ls hl
                  refine lv_iconst (v := 1) hx hb dX12_layHour_51 (by decide) ?_
                  refine lv_goto (tgt := 56) hx hb dX12_layHour_52 (by decide) ?_
                  refine lv_istore (lv' := [(5, .int 1), (6, .int v_26355), (4, .int v_23106), (0, .ref m0), (1, .int x), (2, .int y), (3, .int z)]) hx hb dX12_layHour_56 hl (by decide) rfl (fun ls hl => ?_)
                  refine lv_iload hx hb dX12_layHour_58 (lv_at hl 1 rfl) ?_
                  refine lv_if_le (tgt := 79) hx hb dX12_layHour_60 (by decide) (fun c_26934 => ?_) (fun c_26934 => ?_)
                  · have c_26934i := i_le (x := v_26355.toInt) (y := 0) rfl rfl c_26934
                    exact j_26859 1 v_26920 v_26921 v_26922 v_26923 f_26361 f_26924 f_26925 (by decide) (by omega) hf_26361_0 _ _ hP hD hS ls (lv_sub hl [0, 1, 2, 3, 4, 5, 6] rfl)
                  · have c_26934i := i_nle (x := v_26355.toInt) (y := 0) rfl rfl c_26934
                    refine lv_iload hx hb dX12_layHour_63 (lv_at hl 0 rfl) ?_
                    refine lv_if_eq (tgt := 79) hx hb dX12_layHour_65 (by decide) (fun c_26935 => absurd c_26935 (by decide)) (fun c_26935 => ?_)
                    refine lv_aload_n hx hb dX12_layHour_68 rfl (lv_at hl 3 rfl) ?_
                    refine lv_aload_n hx hb dX12_layHour_69 rfl (lv_at hl 3 rfl) ?_
                    refine va_get (ci := 12) (v := .ref w0) (C := RX12) (T := TX12) (N := 60) hx hb hts hw12 hown hK hP 0 rfl rfl 3 (by decide) (hts (.fieldLink RX12 13 "SmokeTuneModel" "row" "[I") (List.mem_cons_of_mem _ (List.mem_append_left _ (List.mem_append_left _ (List.mem_of_getElem? (i := 0) rfl))))) (fun _ h9 => h9) rfl dX12_layHour_70 ?_
                    refine lv_iconst (v := 3) hx hb dX12_layHour_73 (by decide) ?_
                    refine va_iald hx hb hK hP 1 0 rfl rfl (i_in (x := 3) rfl (by omega)) dX12_layHour_74 ?_
                    refine lv_topi (fun x_26936 ex_26936 => ?_)
                    have px_26936 := RwOK.at hf_26361_0 (show (3 : Int32).toInt = 3 from rfl) (show 0 ≤ 3 ∧ 3 < 100 by omega)
                    rw [← ex_26936] at px_26936
                    have hx_26936 := PR.r_3 px_26936 (by omega)
                    refine lv_iload_n hx hb dX12_layHour_75 rfl (lv_at hl 4 rfl) ?_
                    refine kcv (S := Su) (wr := [(i3, .inl (K 1, 819, .inl f_26364)), (tf, .inl (K 0, 819, .inl f_26365))]) (va_runV (As := [.int x_26936, .int x]) (rest := []) ⟨hx, hb, hml, hown, hts⟩ (v_flare l D K m0 x_26936 x m_0 m_1 m_2 w0 m_4 m_5 m_6 m_7 m_8 m_9 m_10 m_11 m_12 m_13 m_14 m_15 m_16 m_17 m_18 m_19 m_21 m_22 m_23 m_24 m_25 m_26 m_27 m_28 m_29 m_30 m_31 m_32 m_33 v_26920 e0 m_36 q0 v_26921 v_26922 v_26923 m_41 m_42 (.ref tf) (.ref i3) m_45 m_46 m_47 m_48 m_49 m_50 m_51 m_52 m_53 m_54 m_55 m_56 m_57 m_58 m_59 f_26361 f_26924 f_26925 H.size (by first | omega | decide) (by first | omega | decide) (by first | omega | decide) hf_26361_0) (cwV 2 hts gX12_layHour_X12_flare rfl rfl rfl (by decide +kernel) ⟨Nat.le_of_ble_eq_true rfl, Nat.le_of_ble_eq_true rfl⟩) (mkV hK hN (hP.sub [0, 1, 2, 3] rfl) (hD.sub [0, 1, 2, 3] (by decide) rfl) (ci := 12) (q0 := 0) rfl rfl) rfl rfl hl.1 rfl (lv_room (Nat.le_of_ble_eq_true rfl)) dX12_layHour_76 ⟨Nat.le_of_ble_eq_true rfl, Nat.le_of_ble_eq_true rfl⟩) hP hD hS hA [0, 1, 2, 3] [4, 5] rfl rfl (by decide) (by decide) (fun u_26938 H locs hw hP hD hS => ?_)
                    have hP : va_P D vwCl [(i3, .inl (K 1, 819, .inl f_26364)), (tf, .inl (K 0, 819, .inl f_26365)), (m0, .inr (12, [m_0, m_1, m_2, .ref w0, m_4, m_5, m_6, m_7, m_8, m_9, m_10, m_11, m_12, m_13, m_14, m_15, m_16, m_17, m_18, m_19, .int 0, m_21, m_22, m_23, m_24, m_25, m_26, m_27, m_28, m_29, m_30, m_31, m_32, m_33, .int (u_26938.2.2.2.1 0), .ref e0, m_36, .ref q0, .int (u_26938.2.2.2.1 1), .long (u_26938.2.2.2.2.1 0), .long (u_26938.2.2.2.2.1 1), m_41, m_42, .ref tf, .ref i3, m_45, m_46, m_47, m_48, m_49, m_50, m_51, m_52, m_53, m_54, m_55, m_56, m_57, m_58, m_59])), (w0, .inl (K 0, 5500, .inl (u_26938.2.1 0))), (e0, .inl (K 2, 13, .inr (.inl (u_26938.2.2.1 0)))), (q0, .inl (K 2, 400, .inr (.inl (u_26938.2.2.1 1))))] H := hP
                    have hD : va_D A [(i3, .inl (K 1, 819, .inl f_26364)), (tf, .inl (K 0, 819, .inl f_26365)), (m0, .inr (12, [m_0, m_1, m_2, .ref w0, m_4, m_5, m_6, m_7, m_8, m_9, m_10, m_11, m_12, m_13, m_14, m_15, m_16, m_17, m_18, m_19, .int 0, m_21, m_22, m_23, m_24, m_25, m_26, m_27, m_28, m_29, m_30, m_31, m_32, m_33, .int (u_26938.2.2.2.1 0), .ref e0, m_36, .ref q0, .int (u_26938.2.2.2.1 1), .long (u_26938.2.2.2.2.1 0), .long (u_26938.2.2.2.2.1 1), m_41, m_42, .ref tf, .ref i3, m_45, m_46, m_47, m_48, m_49, m_50, m_51, m_52, m_53, m_54, m_55, m_56, m_57, m_58, m_59])), (w0, .inl (K 0, 5500, .inl (u_26938.2.1 0))), (e0, .inl (K 2, 13, .inr (.inl (u_26938.2.2.1 0)))), (q0, .inl (K 2, 400, .inr (.inl (u_26938.2.2.1 1))))] := hD
                    obtain ⟨k_26939, k_26940, -⟩ := hw
                    exact j_26859 1 (u_26938.2.2.2.1 0) (u_26938.2.2.2.1 1) (u_26938.2.2.2.2.1 0) (u_26938.2.2.2.2.1 1) (u_26938.2.1 0) (u_26938.2.2.1 0) (u_26938.2.2.1 1) (by decide) (by omega) k_26940 _ _ (hP.sub [2, 3, 4, 5, 0, 1] rfl) (hD.sub [2, 3, 4, 5, 0, 1] (by decide) rfl) hS ls (lv_sub hl [0, 1, 2, 3, 4, 5, 6] rfl)
                refine lv_if_eq (tgt := 51) hx hb dX12_layHour_40 (by decide) (fun c_26941 => ?_) (fun c_26941 => ?_)
                · have c_26941i := i_eq (x := v_26355.toInt) (y := 0) rfl rfl c_26941
                  exact j_26933 v_26357 v_26358 v_26359 v_26360 f_26362 f_26363 (by omega) _ _ hP hD hS ls (lv_sub hl [0, 2, 3, 4, 5, 6] rfl)
                · have c_26941i := i_ne (x := v_26355.toInt) (y := 0) rfl rfl c_26941
                  refine lv_aload_n hx hb dX12_layHour_43 rfl (lv_at hl 3 rfl) ?_
                  refine lv_iload_n hx hb dX12_layHour_44 rfl (lv_at hl 4 rfl) ?_
                  refine kci (S := Su) (wr := [(i3, .inl (K 1, 819, .inl f_26364)), (tf, .inl (K 0, 819, .inl f_26365))]) (va_runV (As := [.int x]) (rest := []) ⟨hx, hb, hml, hown, hts⟩ (v_isBarred l D K m0 x m_0 m_1 m_2 w0 m_4 m_5 m_6 m_7 m_8 m_9 m_10 m_11 m_12 m_13 m_14 m_15 m_16 m_17 m_18 m_19 m_21 m_22 m_23 m_24 m_25 m_26 m_27 m_28 m_29 m_30 m_31 m_32 m_33 v_26357 e0 m_36 q0 v_26358 v_26359 v_26360 m_41 m_42 (.ref tf) (.ref i3) m_45 m_46 m_47 m_48 m_49 m_50 m_51 m_52 m_53 m_54 m_55 m_56 m_57 m_58 m_59 f_26361 f_26362 f_26363 H.size (by first | omega | decide) (by first | omega | decide) hf_26361_0) (cwV 1 hts gX12_layHour_X12_isBarred rfl rfl rfl (by decide +kernel) ⟨Nat.le_of_ble_eq_true rfl, Nat.le_of_ble_eq_true rfl⟩) (mkV hK hN (hP.sub [0, 1, 2, 3] rfl) (hD.sub [0, 1, 2, 3] (by decide) rfl) (ci := 12) (q0 := 0) rfl rfl) rfl rfl hl.1 rfl (lv_room (Nat.le_of_ble_eq_true rfl)) dX12_layHour_45 ⟨Nat.le_of_ble_eq_true rfl, Nat.le_of_ble_eq_true rfl⟩) hP hD hS hA [0, 1, 2, 3] [4, 5] rfl rfl (by decide) (by decide) (fun r_26942 u_26943 H locs hw hP hD hS => ?_)
                  have hP : va_P D vwCl [(i3, .inl (K 1, 819, .inl f_26364)), (tf, .inl (K 0, 819, .inl f_26365)), (m0, .inr (12, [m_0, m_1, m_2, .ref w0, m_4, m_5, m_6, m_7, m_8, m_9, m_10, m_11, m_12, m_13, m_14, m_15, m_16, m_17, m_18, m_19, .int 0, m_21, m_22, m_23, m_24, m_25, m_26, m_27, m_28, m_29, m_30, m_31, m_32, m_33, .int (u_26943.2.2.2.1 0), .ref e0, m_36, .ref q0, .int (u_26943.2.2.2.1 1), .long (u_26943.2.2.2.2.1 0), .long (u_26943.2.2.2.2.1 1), m_41, m_42, .ref tf, .ref i3, m_45, m_46, m_47, m_48, m_49, m_50, m_51, m_52, m_53, m_54, m_55, m_56, m_57, m_58, m_59])), (w0, .inl (K 0, 5500, .inl f_26361)), (e0, .inl (K 2, 13, .inr (.inl (u_26943.2.2.1 0)))), (q0, .inl (K 2, 400, .inr (.inl (u_26943.2.2.1 1))))] H := hP
                  have hD : va_D A [(i3, .inl (K 1, 819, .inl f_26364)), (tf, .inl (K 0, 819, .inl f_26365)), (m0, .inr (12, [m_0, m_1, m_2, .ref w0, m_4, m_5, m_6, m_7, m_8, m_9, m_10, m_11, m_12, m_13, m_14, m_15, m_16, m_17, m_18, m_19, .int 0, m_21, m_22, m_23, m_24, m_25, m_26, m_27, m_28, m_29, m_30, m_31, m_32, m_33, .int (u_26943.2.2.2.1 0), .ref e0, m_36, .ref q0, .int (u_26943.2.2.2.1 1), .long (u_26943.2.2.2.2.1 0), .long (u_26943.2.2.2.2.1 1), m_41, m_42, .ref tf, .ref i3, m_45, m_46, m_47, m_48, m_49, m_50, m_51, m_52, m_53, m_54, m_55, m_56, m_57, m_58, m_59])), (w0, .inl (K 0, 5500, .inl f_26361)), (e0, .inl (K 2, 13, .inr (.inl (u_26943.2.2.1 0)))), (q0, .inl (K 2, 400, .inr (.inl (u_26943.2.2.1 1))))] := hD
                  obtain ⟨h_26945, k_26944, -⟩ := hw
                  refine lv_if_ne (tgt := 55) hx hb dX12_layHour_48 (by decide) (fun c_26946 => ?_) (fun c_26946 => ?_)
                  · have c_26946i := i_ne (x := r_26942.toInt) (y := 0) rfl rfl c_26946
                    exact j_26910 (u_26943.2.2.2.1 0) (u_26943.2.2.2.1 1) (u_26943.2.2.2.2.1 0) (u_26943.2.2.2.2.1 1) (u_26943.2.2.1 0) (u_26943.2.2.1 1) (by omega) _ _ (hP.sub [2, 3, 4, 5, 0, 1] rfl) (hD.sub [2, 3, 4, 5, 0, 1] (by decide) rfl) hS ls (lv_sub hl [0, 2, 3, 4, 5, 6] rfl)
                  · have c_26946i := i_eq (x := r_26942.toInt) (y := 0) rfl rfl c_26946
                    exact j_26933 (u_26943.2.2.2.1 0) (u_26943.2.2.2.1 1) (u_26943.2.2.2.2.1 0) (u_26943.2.2.2.2.1 1) (u_26943.2.2.1 0) (u_26943.2.2.1 1) (by omega) _ _ (hP.sub [2, 3, 4, 5, 0, 1] rfl) (hD.sub [2, 3, 4, 5, 0, 1] (by decide) rfl) hS ls (lv_sub hl [0, 2, 3, 4, 5, 6] rfl)
        exact lp_26755 ((4 - (0 : Int32).toInt : Int).toNat + 1) 0 1 v_23107 v_23108 v_23109 v_23110 f_25676 f_23112 f_23113 f_23114 f_23115 (by decide) (by decide) (by omega) hf_25676_0 hf_23115_0 (Nat.lt_succ_self _) _ _ hP hD hS ls (lv_sub hl [0, 1, 2, 3, 4, 5, 6] rfl)
  exact lp_25672 ((22 - (0 : Int32).toInt : Int).toNat + 1) 0 lw bro val sm fw fe frs fi ft (by decide) (by omega) zfw zft (Nat.lt_succ_self _) _ _ hP hD hS ls (lv_sub hl [0, 1, 2, 3, 4] rfl)
