theorem dX12_coalBy_0 : decode cX12_coalBy 0 = .ok (.bipush 63, 2) := by decide +kernel
theorem dX12_coalBy_2 : decode cX12_coalBy 2 = .ok (.iload_n 1, 1) := by decide +kernel
theorem dX12_coalBy_3 : decode cX12_coalBy 3 = .ok (.imul, 1) := by decide +kernel
theorem dX12_coalBy_4 : decode cX12_coalBy 4 = .ok (.iconst 3, 1) := by decide +kernel
theorem dX12_coalBy_5 : decode cX12_coalBy 5 = .ok (.iload_n 2, 1) := by decide +kernel
theorem dX12_coalBy_6 : decode cX12_coalBy 6 = .ok (.imul, 1) := by decide +kernel
theorem dX12_coalBy_7 : decode cX12_coalBy 7 = .ok (.iadd, 1) := by decide +kernel
theorem dX12_coalBy_8 : decode cX12_coalBy 8 = .ok (.iload_n 3, 1) := by decide +kernel
theorem dX12_coalBy_9 : decode cX12_coalBy 9 = .ok (.iadd, 1) := by decide +kernel
theorem dX12_coalBy_10 : decode cX12_coalBy 10 = .ok (.istore 4, 2) := by decide +kernel
theorem dX12_coalBy_12 : decode cX12_coalBy 12 = .ok (.aload_n 0, 1) := by decide +kernel
theorem dX12_coalBy_13 : decode cX12_coalBy 13 = .ok (.getfield 117, 3) := by decide +kernel
theorem dX12_coalBy_16 : decode cX12_coalBy 16 = .ok (.iload 4, 2) := by decide +kernel
theorem dX12_coalBy_18 : decode cX12_coalBy 18 = .ok (.baload, 1) := by decide +kernel
theorem dX12_coalBy_19 : decode cX12_coalBy 19 = .ok (.ifCond .ne 9, 3) := by decide +kernel
theorem dX12_coalBy_28 : decode cX12_coalBy 28 = .ok (.iload_n 3, 1) := by decide +kernel
theorem dX12_coalBy_29 : decode cX12_coalBy 29 = .ok (.i2l, 1) := by decide +kernel
theorem dX12_coalBy_30 : decode cX12_coalBy 30 = .ok (.aload_n 0, 1) := by decide +kernel
theorem dX12_coalBy_31 : decode cX12_coalBy 31 = .ok (.getfield 111, 3) := by decide +kernel
theorem dX12_coalBy_34 : decode cX12_coalBy 34 = .ok (.bipush 21, 2) := by decide +kernel
theorem dX12_coalBy_36 : decode cX12_coalBy 36 = .ok (.iload_n 1, 1) := by decide +kernel
theorem dX12_coalBy_37 : decode cX12_coalBy 37 = .ok (.iconst 1, 1) := by decide +kernel
theorem dX12_coalBy_38 : decode cX12_coalBy 38 = .ok (.iadd, 1) := by decide +kernel
theorem dX12_coalBy_39 : decode cX12_coalBy 39 = .ok (.imul, 1) := by decide +kernel
theorem dX12_coalBy_40 : decode cX12_coalBy 40 = .ok (.aload_n 0, 1) := by decide +kernel
theorem dX12_coalBy_41 : decode cX12_coalBy 41 = .ok (.getfield 114, 3) := by decide +kernel
theorem dX12_coalBy_44 : decode cX12_coalBy 44 = .ok (.iload 4, 2) := by decide +kernel
theorem dX12_coalBy_46 : decode cX12_coalBy 46 = .ok (.iaload, 1) := by decide +kernel
theorem dX12_coalBy_47 : decode cX12_coalBy 47 = .ok (.iadd, 1) := by decide +kernel
theorem dX12_coalBy_48 : decode cX12_coalBy 48 = .ok (.iaload, 1) := by decide +kernel
theorem dX12_coalBy_49 : decode cX12_coalBy 49 = .ok (.i2l, 1) := by decide +kernel
theorem dX12_coalBy_50 : decode cX12_coalBy 50 = .ok (.ladd, 1) := by decide +kernel
theorem dX12_coalBy_51 : decode cX12_coalBy 51 = .ok (.iconst 0, 1) := by decide +kernel
theorem dX12_coalBy_52 : decode cX12_coalBy 52 = .ok (.ldc_w 476, 3) := by decide +kernel
theorem dX12_coalBy_55 : decode cX12_coalBy 55 = .ok (.invokestatic 419, 3) := by decide +kernel
theorem dX12_coalBy_58 : decode cX12_coalBy 58 = .ok (.ireturn, 1) := by decide +kernel
theorem dX12_coalBy_22 : decode cX12_coalBy 22 = .ok (.ldc_w 476, 3) := by decide +kernel
theorem dX12_coalBy_25 : decode cX12_coalBy 25 = .ok (.goto 33, 3) := by decide +kernel
theorem dX12_layHour_0 : decode cX12_layHour 0 = .ok (.iconst 0, 1) := by decide +kernel
theorem dX12_layHour_1 : decode cX12_layHour 1 = .ok (.istore 4, 2) := by decide +kernel
theorem dX12_layHour_3 : decode cX12_layHour 3 = .ok (.iload 4, 2) := by decide +kernel
theorem dX12_layHour_5 : decode cX12_layHour 5 = .ok (.bipush 20, 2) := by decide +kernel
theorem dX12_layHour_7 : decode cX12_layHour 7 = .ok (.if_icmp .gt 159, 3) := by decide +kernel
theorem dX12_layHour_10 : decode cX12_layHour 10 = .ok (.aload_n 0, 1) := by decide +kernel
theorem dX12_layHour_11 : decode cX12_layHour 11 = .ok (.getfield 13, 3) := by decide +kernel
theorem dX12_layHour_14 : decode cX12_layHour 14 = .ok (.bipush 11, 2) := by decide +kernel
theorem dX12_layHour_16 : decode cX12_layHour 16 = .ok (.iload_n 1, 1) := by decide +kernel
theorem dX12_layHour_17 : decode cX12_layHour 17 = .ok (.iadd, 1) := by decide +kernel
theorem dX12_layHour_18 : decode cX12_layHour 18 = .ok (.iload 4, 2) := by decide +kernel
theorem dX12_layHour_20 : decode cX12_layHour 20 = .ok (.iastore, 1) := by decide +kernel
theorem dX12_layHour_21 : decode cX12_layHour 21 = .ok (.iconst 1, 1) := by decide +kernel
theorem dX12_layHour_22 : decode cX12_layHour 22 = .ok (.istore 5, 2) := by decide +kernel
theorem dX12_layHour_24 : decode cX12_layHour 24 = .ok (.iconst 0, 1) := by decide +kernel
theorem dX12_layHour_25 : decode cX12_layHour 25 = .ok (.istore 6, 2) := by decide +kernel
theorem dX12_layHour_27 : decode cX12_layHour 27 = .ok (.iload 6, 2) := by decide +kernel
theorem dX12_layHour_29 : decode cX12_layHour 29 = .ok (.iconst 3, 1) := by decide +kernel
theorem dX12_layHour_30 : decode cX12_layHour 30 = .ok (.if_icmp .ge 130, 3) := by decide +kernel
theorem dX12_layHour_33 : decode cX12_layHour 33 = .ok (.iload 5, 2) := by decide +kernel
theorem dX12_layHour_35 : decode cX12_layHour 35 = .ok (.ifCond .eq 20, 3) := by decide +kernel
theorem dX12_layHour_38 : decode cX12_layHour 38 = .ok (.iload 6, 2) := by decide +kernel
theorem dX12_layHour_40 : decode cX12_layHour 40 = .ok (.ifCond .eq 11, 3) := by decide +kernel
theorem dX12_layHour_51 : decode cX12_layHour 51 = .ok (.iconst 1, 1) := by decide +kernel
theorem dX12_layHour_52 : decode cX12_layHour 52 = .ok (.goto 4, 3) := by decide +kernel
theorem dX12_layHour_56 : decode cX12_layHour 56 = .ok (.istore 5, 2) := by decide +kernel
theorem dX12_layHour_58 : decode cX12_layHour 58 = .ok (.iload 6, 2) := by decide +kernel
theorem dX12_layHour_60 : decode cX12_layHour 60 = .ok (.ifCond .le 19, 3) := by decide +kernel
theorem dX12_layHour_79 : decode cX12_layHour 79 = .ok (.bipush 63, 2) := by decide +kernel
theorem dX12_layHour_81 : decode cX12_layHour 81 = .ok (.iload_n 2, 1) := by decide +kernel
theorem dX12_layHour_82 : decode cX12_layHour 82 = .ok (.imul, 1) := by decide +kernel
theorem dX12_layHour_83 : decode cX12_layHour 83 = .ok (.iconst 3, 1) := by decide +kernel
theorem dX12_layHour_84 : decode cX12_layHour 84 = .ok (.iload 4, 2) := by decide +kernel
theorem dX12_layHour_86 : decode cX12_layHour 86 = .ok (.imul, 1) := by decide +kernel
theorem dX12_layHour_87 : decode cX12_layHour 87 = .ok (.iadd, 1) := by decide +kernel
theorem dX12_layHour_88 : decode cX12_layHour 88 = .ok (.iload 6, 2) := by decide +kernel
theorem dX12_layHour_90 : decode cX12_layHour 90 = .ok (.iadd, 1) := by decide +kernel
theorem dX12_layHour_91 : decode cX12_layHour 91 = .ok (.istore 7, 2) := by decide +kernel
theorem dX12_layHour_93 : decode cX12_layHour 93 = .ok (.aload_n 0, 1) := by decide +kernel
theorem dX12_layHour_94 : decode cX12_layHour 94 = .ok (.getfield 117, 3) := by decide +kernel
theorem dX12_layHour_97 : decode cX12_layHour 97 = .ok (.iload 7, 2) := by decide +kernel
theorem dX12_layHour_99 : decode cX12_layHour 99 = .ok (.iload 5, 2) := by decide +kernel
theorem dX12_layHour_101 : decode cX12_layHour 101 = .ok (.ifCond .eq 16, 3) := by decide +kernel
theorem dX12_layHour_104 : decode cX12_layHour 104 = .ok (.aload_n 0, 1) := by decide +kernel
theorem dX12_layHour_105 : decode cX12_layHour 105 = .ok (.iload_n 1, 1) := by decide +kernel
theorem dX12_layHour_106 : decode cX12_layHour 106 = .ok (.invokevirtual 185, 3) := by decide +kernel
theorem dX12_layHour_109 : decode cX12_layHour 109 = .ok (.iload_n 3, 1) := by decide +kernel
theorem dX12_layHour_110 : decode cX12_layHour 110 = .ok (.if_icmp .ne 7, 3) := by decide +kernel
theorem dX12_layHour_117 : decode cX12_layHour 117 = .ok (.iconst 0, 1) := by decide +kernel
theorem dX12_layHour_118 : decode cX12_layHour 118 = .ok (.bastore, 1) := by decide +kernel
theorem dX12_layHour_119 : decode cX12_layHour 119 = .ok (.aload_n 0, 1) := by decide +kernel
theorem dX12_layHour_120 : decode cX12_layHour 120 = .ok (.getfield 114, 3) := by decide +kernel
theorem dX12_layHour_123 : decode cX12_layHour 123 = .ok (.iload 7, 2) := by decide +kernel
theorem dX12_layHour_125 : decode cX12_layHour 125 = .ok (.aload_n 0, 1) := by decide +kernel
theorem dX12_layHour_126 : decode cX12_layHour 126 = .ok (.getfield 13, 3) := by decide +kernel
theorem dX12_layHour_129 : decode cX12_layHour 129 = .ok (.bipush 11, 2) := by decide +kernel
theorem dX12_layHour_131 : decode cX12_layHour 131 = .ok (.iload_n 1, 1) := by decide +kernel
theorem dX12_layHour_132 : decode cX12_layHour 132 = .ok (.iadd, 1) := by decide +kernel
theorem dX12_layHour_133 : decode cX12_layHour 133 = .ok (.iaload, 1) := by decide +kernel
theorem dX12_layHour_134 : decode cX12_layHour 134 = .ok (.aload_n 0, 1) := by decide +kernel
theorem dX12_layHour_135 : decode cX12_layHour 135 = .ok (.aload_n 0, 1) := by decide +kernel
theorem dX12_layHour_136 : decode cX12_layHour 136 = .ok (.getfield 13, 3) := by decide +kernel
theorem dX12_layHour_139 : decode cX12_layHour 139 = .ok (.iconst 3, 1) := by decide +kernel
theorem dX12_layHour_140 : decode cX12_layHour 140 = .ok (.iaload, 1) := by decide +kernel
theorem dX12_layHour_141 : decode cX12_layHour 141 = .ok (.iload_n 1, 1) := by decide +kernel
theorem dX12_layHour_142 : decode cX12_layHour 142 = .ok (.invokevirtual 200, 3) := by decide +kernel
theorem dX12_layHour_145 : decode cX12_layHour 145 = .ok (.isub, 1) := by decide +kernel
theorem dX12_layHour_146 : decode cX12_layHour 146 = .ok (.i2l, 1) := by decide +kernel
theorem dX12_layHour_147 : decode cX12_layHour 147 = .ok (.iconst 0, 1) := by decide +kernel
theorem dX12_layHour_148 : decode cX12_layHour 148 = .ok (.bipush 20, 2) := by decide +kernel
theorem dX12_layHour_150 : decode cX12_layHour 150 = .ok (.invokestatic 419, 3) := by decide +kernel
theorem dX12_layHour_153 : decode cX12_layHour 153 = .ok (.iastore, 1) := by decide +kernel
theorem dX12_layHour_154 : decode cX12_layHour 154 = .ok (.iinc 6 1, 3) := by decide +kernel
theorem dX12_layHour_157 : decode cX12_layHour 157 = .ok (.goto (-130), 3) := by decide +kernel
theorem dX12_layHour_113 : decode cX12_layHour 113 = .ok (.iconst 1, 1) := by decide +kernel
theorem dX12_layHour_114 : decode cX12_layHour 114 = .ok (.goto 4, 3) := by decide +kernel
theorem dX12_layHour_43 : decode cX12_layHour 43 = .ok (.aload_n 0, 1) := by decide +kernel
theorem dX12_layHour_44 : decode cX12_layHour 44 = .ok (.iload_n 1, 1) := by decide +kernel
theorem dX12_layHour_45 : decode cX12_layHour 45 = .ok (.invokevirtual 207, 3) := by decide +kernel
theorem dX12_layHour_48 : decode cX12_layHour 48 = .ok (.ifCond .ne 7, 3) := by decide +kernel
theorem dX12_layHour_63 : decode cX12_layHour 63 = .ok (.iload 5, 2) := by decide +kernel
theorem dX12_layHour_65 : decode cX12_layHour 65 = .ok (.ifCond .eq 14, 3) := by decide +kernel
theorem dX12_layHour_68 : decode cX12_layHour 68 = .ok (.aload_n 0, 1) := by decide +kernel
theorem dX12_layHour_69 : decode cX12_layHour 69 = .ok (.aload_n 0, 1) := by decide +kernel
theorem dX12_layHour_70 : decode cX12_layHour 70 = .ok (.getfield 13, 3) := by decide +kernel
theorem dX12_layHour_73 : decode cX12_layHour 73 = .ok (.iconst 3, 1) := by decide +kernel
theorem dX12_layHour_74 : decode cX12_layHour 74 = .ok (.iaload, 1) := by decide +kernel
theorem dX12_layHour_75 : decode cX12_layHour 75 = .ok (.iload_n 1, 1) := by decide +kernel
theorem dX12_layHour_76 : decode cX12_layHour 76 = .ok (.invokevirtual 442, 3) := by decide +kernel
theorem dX12_layHour_55 : decode cX12_layHour 55 = .ok (.iconst 0, 1) := by decide +kernel
theorem dX12_layHour_160 : decode cX12_layHour 160 = .ok (.iinc 4 1, 3) := by decide +kernel
theorem dX12_layHour_163 : decode cX12_layHour 163 = .ok (.goto (-160), 3) := by decide +kernel
theorem dX12_layHour_166 : decode cX12_layHour 166 = .ok (.return_, 1) := by decide +kernel
set_option maxRecDepth 20000 in
theorem ggX12_coalBy_X12_within : GoodIn wsX12_coalBy wsX12_within := goodIn_r _ [8] (by decide +kernel) (by decide +kernel)
set_option maxRecDepth 20000 in
theorem gX12_coalBy_X12_within : GoodIn wsX12_coalBy (va_wsS RX12 419 yX12_within wsX12_within) := goodIn_app (goodIn_of _ (by decide +kernel)) ggX12_coalBy_X12_within
set_option maxRecDepth 100000 in
set_option maxHeartbeats 4000000 in
theorem ggX12_layHour_X12_burnsOf : GoodIn wsX12_layHour wsX12_burnsOf := goodIn_q _ [72, 12, 19, 23, 29, 41, 45, 48, 52, 56, 68] [9, 10, 11, 7, 13, 14, 1, 15, 16, 17, 18, 20, 21, 22, 24, 25, 26, 27, 28, 30, 31, 32, 33, 34, 35, 36, 37, 38, 39, 40, 42, 43, 44, 46, 47, 49, 50, 51, 53, 54, 55, 66, 67, 73, 74, 75, 76, 77, 78, 79, 80, 81, 82, 83, 84, 85, 86, 87, 88, 89, 90, 91, 92, 93, 94, 95, 96, 97, 98, 99, 100, 101, 102, 103, 104, 105, 106, 107, 108, 109, 110, 111, 112, 113, 114, 115, 116, 117, 118, 119, 120, 121, 122, 123, 124, 125, 126, 127, 128, 129, 130, 131, 132] rfl (by decide +kernel) (by decide +kernel)
set_option maxRecDepth 20000 in
theorem gX12_layHour_X12_burnsOf : GoodIn wsX12_layHour (wsV RX12 200 RX12 yX12_burnsOf wsX12_burnsOf) := goodIn_app (goodIn_of _ (by decide +kernel)) ggX12_layHour_X12_burnsOf
set_option maxRecDepth 20000 in
theorem ggX12_layHour_X12_within : GoodIn wsX12_layHour wsX12_within := goodIn_r _ [68] (by decide +kernel) (by decide +kernel)
set_option maxRecDepth 20000 in
theorem gX12_layHour_X12_within : GoodIn wsX12_layHour (va_wsS RX12 419 yX12_within wsX12_within) := goodIn_app (goodIn_of _ (by decide +kernel)) ggX12_layHour_X12_within
set_option maxRecDepth 100000 in
set_option maxHeartbeats 4000000 in
theorem ggX12_layHour_X12_isSounding : GoodIn wsX12_layHour wsX12_isSounding := goodIn_q _ [45, 19, 48] [1, 16, 17, 18, 7, 46, 47, 73, 74, 75, 76, 77, 78, 79, 80, 81, 82, 83, 84, 85, 86, 87, 88, 89, 90, 91, 92, 93, 94, 95, 96, 97, 98, 99, 100, 101, 102, 103, 104, 105, 106, 107, 108, 109, 110, 111, 112, 113, 114, 115, 116, 117, 118, 119, 120, 121, 122, 123, 124, 125, 126, 127, 128, 129, 130, 131, 132] rfl (by decide +kernel) (by decide +kernel)
set_option maxRecDepth 20000 in
theorem gX12_layHour_X12_isSounding : GoodIn wsX12_layHour (wsV RX12 185 RX12 yX12_isSounding wsX12_isSounding) := goodIn_app (goodIn_of _ (by decide +kernel)) ggX12_layHour_X12_isSounding
set_option maxRecDepth 100000 in
set_option maxHeartbeats 4000000 in
theorem ggX12_layHour_X12_flare : GoodIn wsX12_layHour wsX12_flare := goodIn_q _ [60, 64, 12, 19, 23, 29, 41, 45, 48, 52, 56, 68] [1, 61, 62, 63, 7, 65, 9, 10, 11, 13, 14, 15, 16, 17, 18, 20, 21, 22, 24, 25, 26, 27, 28, 30, 31, 32, 33, 34, 35, 36, 37, 38, 39, 40, 42, 43, 44, 46, 47, 49, 50, 51, 53, 54, 55, 66, 67, 73, 74, 75, 76, 77, 78, 79, 80, 81, 82, 83, 84, 85, 86, 87, 88, 89, 90, 91, 92, 93, 94, 95, 96, 97, 98, 99, 100, 101, 102, 103, 104, 105, 106, 107, 108, 109, 110, 111, 112, 113, 114, 115, 116, 117, 118, 119, 120, 121, 122, 123, 124, 125, 126, 127, 128, 129, 130, 131, 132] rfl (by decide +kernel) (by decide +kernel)
set_option maxRecDepth 20000 in
theorem gX12_layHour_X12_flare : GoodIn wsX12_layHour (wsV RX12 442 RX12 yX12_flare wsX12_flare) := goodIn_app (goodIn_of _ (by decide +kernel)) ggX12_layHour_X12_flare
set_option maxRecDepth 100000 in
set_option maxHeartbeats 4000000 in
theorem ggX12_layHour_X12_isBarred : GoodIn wsX12_layHour wsX12_isBarred := goodIn_q _ [8, 12, 19, 23, 29, 41, 45, 48, 52, 56] [1, 9, 10, 11, 7, 13, 14, 15, 16, 17, 18, 20, 21, 22, 24, 25, 26, 27, 28, 30, 31, 32, 33, 34, 35, 36, 37, 38, 39, 40, 42, 43, 44, 46, 47, 49, 50, 51, 53, 54, 55, 73, 74, 75, 76, 77, 78, 79, 80, 81, 82, 83, 84, 85, 86, 87, 88, 89, 90, 91, 92, 93, 94, 95, 96, 97, 98, 99, 100, 101, 102, 103, 104, 105, 106, 107, 108, 109, 110, 111, 112, 113, 114, 115, 116, 117, 118, 119, 120, 121, 122, 123, 124, 125, 126, 127, 128, 129, 130, 131, 132] rfl (by decide +kernel) (by decide +kernel)
set_option maxRecDepth 20000 in
theorem gX12_layHour_X12_isBarred : GoodIn wsX12_layHour (wsV RX12 207 RX12 yX12_isBarred wsX12_isBarred) := goodIn_app (goodIn_of _ (by decide +kernel)) ggX12_layHour_X12_isBarred
def wi (v : Int) : Int := if v < 0 then 0 else if 100000000 < v then 100000000 else v
theorem wi_rng (v : Int) : 0 ≤ wi v ∧ wi v ≤ 100000000 := by
  unfold wi
  split
  · omega
  · split <;> omega
def cbv (fi ft fl : Nat → Int32) (k f n : Int) : Int := if fi (63 * k + 3 * f + n).toNat = 0 then 100000000 else wi (n + (fl (21 * (k + 1) + (ft (63 * k + 3 * f + n).toNat).toInt).toNat).toInt)
theorem cbv_rng (fi ft fl : Nat → Int32) (k f n : Int) : 0 ≤ cbv fi ft fl k f n ∧ cbv fi ft fl k f n ≤ 100000000 := by
  unfold cbv
  split
  · omega
  · exact wi_rng _
def Mn (fi ft fl : Nat → Int32) (k f m v : Int) : Prop := (v = 100000000 ∨ ∃ m', 0 ≤ m' ∧ m' < m ∧ v = cbv fi ft fl k f m') ∧ ∀ m', 0 ≤ m' → m' < m → v ≤ cbv fi ft fl k f m'
theorem Mn.base {fi ft fl : Nat → Int32} {k f : Int} : Mn fi ft fl k f 0 100000000 := ⟨Or.inl rfl, fun m' h1 h2 => absurd h2 (by omega)⟩
theorem Mn.lt {fi ft fl : Nat → Int32} {k f m v r : Int} (h : Mn fi ft fl k f m v) (hm : 0 ≤ m) (hr : r = cbv fi ft fl k f m) (hl : r < v) : Mn fi ft fl k f (m + 1) r := by
  refine ⟨Or.inr ⟨m, hm, by omega, hr⟩, fun m' h1 h2 => ?_⟩
  by_cases e : m' = m
  · subst e; omega
  · have := h.2 m' h1 (by omega)
    omega
theorem Mn.ge {fi ft fl : Nat → Int32} {k f m v r : Int} (h : Mn fi ft fl k f m v) (hr : r = cbv fi ft fl k f m) (hl : v ≤ r) : Mn fi ft fl k f (m + 1) v := by
  refine ⟨?_, fun m' h1 h2 => ?_⟩
  · rcases h.1 with e | ⟨m', h1, h2, h3⟩
    · exact Or.inl e
    · exact Or.inr ⟨m', h1, by omega, h3⟩
  · by_cases e : m' = m
    · subst e; omega
    · exact h.2 m' h1 (by omega)
theorem Mn.fin {fi ft fl : Nat → Int32} {k f v : Int} (h : Mn fi ft fl k f 3 v) : ∃ m', 0 ≤ m' ∧ m' ≤ 2 ∧ v = cbv fi ft fl k f m' := by
  rcases h.1 with e | ⟨m', h1, h2, h3⟩
  · have h0 := h.2 0 (by omega) (by omega)
    have hr := cbv_rng fi ft fl k f 0
    exact ⟨0, by omega, by omega, by omega⟩
  · exact ⟨m', h1, by omega, h3⟩
def LOK (fi ft fl : Nat → Int32) (k0 f0 n : Int) : Prop := ∀ k f : Int, 0 ≤ k → k < n → 0 ≤ f → f ≤ 20 → (k0 < k ∨ (k = k0 ∧ f < f0)) → ∃ m : Int, 0 ≤ m ∧ m ≤ 2 ∧ (fl (21 * k + f).toNat).toInt = cbv fi ft fl k f m
theorem LOK.base {fi ft fl : Nat → Int32} {k0 n : Int} (h : k0 + 1 = n) : LOK fi ft fl k0 0 n := fun k f h1 h2 h3 h4 h5 => absurd h5 (by omega)
theorem LOK.down {fi ft fl : Nat → Int32} {k0 f0 n : Int} (h : LOK fi ft fl k0 f0 n) (hf : 20 < f0) : LOK fi ft fl (k0 - 1) 0 n := fun k f h1 h2 h3 h4 h5 => h k f h1 h2 h3 h4 (by omega)
theorem LOK.put {fi ft fl : Nat → Int32} {k0 f0 n : Int} {v : Int32} (h : LOK fi ft fl k0 f0 n) (hk : 0 ≤ k0 ∧ n ≤ 12) (hf : 0 ≤ f0 ∧ f0 ≤ 20) (ht : Rg 819 0 20 ft) (hv : ∃ m', 0 ≤ m' ∧ m' ≤ 2 ∧ v.toInt = cbv fi ft fl k0 f0 m') : LOK fi ft (upd fl (21 * k0 + f0).toNat v) k0 (f0 + 1) n := by
  intro k f h1 h2 h3 h4 h5
  have same : ∀ m, 0 ≤ m → m ≤ 2 → cbv fi ft (upd fl (21 * k0 + f0).toNat v) k f m = cbv fi ft fl k f m := by
    intro m m1 m2
    unfold cbv
    have hr := ht (63 * k + 3 * f + m).toNat (by omega)
    rw [pk_un (show ¬ (21 * (k + 1) + (ft (63 * k + 3 * f + m).toNat).toInt).toNat = (21 * k0 + f0).toNat by omega)]
  by_cases e : k = k0 ∧ f = f0
  · obtain ⟨rfl, rfl⟩ := e
    obtain ⟨m', m1, m2, m3⟩ := hv
    exact ⟨m', m1, m2, by rw [pk_us, same m' m1 m2]; exact m3⟩
  · obtain ⟨m, m1, m2, m3⟩ := h k f h1 h2 h3 h4 (by omega)
    exact ⟨m, m1, m2, by rw [pk_un (show ¬ (21 * k + f).toNat = (21 * k0 + f0).toNat by omega), same m m1 m2]; exact m3⟩
def WLe (fi ft fl : Nat → Int32) (k f i : Int) : Prop := ∃ m, i ≤ m ∧ 0 ≤ i ∧ m ≤ 2 ∧ (fl (21 * k + f).toNat).toInt = cbv fi ft fl k f m
theorem WLe.base {fi ft fl : Nat → Int32} {k f n : Int} (h : LOK fi ft fl (-1) 0 n) (hk : 0 ≤ k ∧ k < n) (hf : 0 ≤ f ∧ f ≤ 20) : WLe fi ft fl k f 0 := by
  obtain ⟨m, m1, m2, m3⟩ := h k f hk.1 hk.2 hf.1 hf.2 (by omega)
  exact ⟨m, m1, by omega, m2, m3⟩
theorem WLe.next {fi ft fl : Nat → Int32} {k f i r x : Int} (h : WLe fi ft fl k f i) (hr : r = cbv fi ft fl k f i) (hx : x = (fl (21 * k + f).toNat).toInt) (hn : r ≠ x) : i + 1 ≤ 2 ∧ WLe fi ft fl k f (i + 1) := by
  obtain ⟨m, m1, m0, m2, m3⟩ := h
  have : i ≠ m := fun e => hn (by rw [hr, hx, m3, e])
  exact ⟨by omega, m, by omega, by omega, m2, m3⟩
set_option maxHeartbeats 4000000 in
set_option maxRecDepth 100000 in
theorem v_withinX (l : Launch) (D : va_G) (K : Nat → ClassId) (x : Int64) (sz : Nat) : Met l yX12_within wsX12_within ({ frames := 0, cells := 0, slots := 0, locals := 0 }) (va_Pc [.long x, .int 0, .int 100000000] (Pre D K [] sz)) (vp_Si (fun r : Int32 => r.toInt = wi x.toInt ∧ True)) 0 0 (fun _ => False) := by
  refine Met.ofW (cc := cX12_within) (maxL := 4) (ret := (some .int)) (by decide) rfl ?_
  intro p e s m args below meth c s₁ B hml hv
  obtain ⟨rfl, hsz, hP, hK, hD0, hN⟩ := hv
  have hx := B.exec
  have hb := B.bytes
  have hr := B.returns
  have hts := atoms_spec (ws := wsX12_within) B.pre
  have hown : s.vm.findClass RX12 = some m.cls := findClass_of_methodNamed B.named
  have hlocks := B.notSynchronized
  subst hsz
  have hD := hD0
  have hP : va_P D vwCl [] s.heap := hP
  have hl := lv_entry [.long x, .int 0, .int 100000000] (n := 4) (Nat.le_of_ble_eq_true rfl)
  rw [lg_entry_eq]
  generalize (lg_sl [.long x, .int 0, .int 100000000] ++ List.replicate (4 - (lg_sl [.long x, .int 0, .int 100000000]).length) Slot.unset).toArray = ls at hl ⊢
  have hl : lv_has ls 4 [(0, .long x), (2, .int 0), (3, .int 100000000)] := hl
  generalize hQ : MQ below _ _ s _ _ _ = Q
  refine lv_lload_n hx hb dX12_within_0 rfl (lv_at hl 0 rfl) ?_
  refine lv_iload_n hx hb dX12_within_1 rfl (lv_at hl 1 rfl) ?_
  refine lv_i2l (v := 0) hx hb dX12_within_2 (by decide) ?_
  refine W.lcmp hx hb dX12_within_3 ?_
  refine lv_if_ge (tgt := 11) hx hb dX12_within_4 (by decide) (fun c_4 => ?_) (fun c_4 => ?_)
  · have c_4i := l_le (x := 0) (y := x.toInt) rfl rfl ((lg_cmp_ge x 0).mp c_4)
    refine lv_lload_n hx hb dX12_within_11 rfl (lv_at hl 0 rfl) ?_
    refine lv_iload_n hx hb dX12_within_12 rfl (lv_at hl 2 rfl) ?_
    refine lv_i2l (v := 100000000) hx hb dX12_within_13 (by decide) ?_
    refine W.lcmp hx hb dX12_within_14 ?_
    refine lv_if_le (tgt := 22) hx hb dX12_within_15 (by decide) (fun c_5 => ?_) (fun c_5 => ?_)
    · have c_5i := l_le (x := x.toInt) (y := 100000000) rfl rfl ((lg_cmp_le x 100000000).mp c_5)
      refine lv_lload_n hx hb dX12_within_22 rfl (lv_at hl 0 rfl) ?_
      refine lv_l2i hx hb dX12_within_23 rfl ?_
      refine lv_topi (fun x_6 ex_6 => ?_)
      have hx_6 : x_6.toInt = x.toInt := by rw [ex_6]; exact l_nar rfl (by omega)
      subst hQ
      exact W.iret (v := x_6) hx hb hr (fun t ht hW => ⟨_, rfl, ⟨(by show x_6.toInt = wi x.toInt; rw [hx_6]; unfold wi; (repeat' split) <;> omega), trivial⟩, ht⟩) (fun q hq => by cases hq) dX12_within_24
    · have c_5i := l_nle (x := x.toInt) (y := 100000000) rfl rfl (fun q => c_5 ((lg_cmp_le x 100000000).mpr q))
      refine lv_iload_n hx hb dX12_within_18 rfl (lv_at hl 2 rfl) ?_
      refine lv_goto (tgt := 24) hx hb dX12_within_19 (by decide) ?_
      subst hQ
      exact W.iret (v := 100000000) hx hb hr (fun t ht hW => ⟨_, rfl, ⟨(by show (100000000 : Int) = wi x.toInt; unfold wi; (repeat' split) <;> omega), trivial⟩, ht⟩) (fun q hq => by cases hq) dX12_within_24
  · have c_4i := l_nle (x := 0) (y := x.toInt) rfl rfl (fun q => c_4 ((lg_cmp_ge x 0).mpr q))
    refine lv_iload_n hx hb dX12_within_7 rfl (lv_at hl 1 rfl) ?_
    refine lv_goto (tgt := 24) hx hb dX12_within_8 (by decide) ?_
    subst hQ
    exact W.iret (v := 0) hx hb hr (fun t ht hW => ⟨_, rfl, ⟨(by show (0 : Int) = wi x.toInt; unfold wi; (repeat' split) <;> omega), trivial⟩, ht⟩) (fun q hq => by cases hq) dX12_within_24
set_option maxHeartbeats 4000000 in
set_option maxRecDepth 100000 in
theorem v_coalBy (l : Launch) (D : va_G) (K : Nat → ClassId) (m0 : Nat) (x : Int32) (y : Int32) (z : Int32) (m_0 : Value) (m_1 : Value) (m_2 : Value) (m_3 : Value) (m_4 : Value) (m_5 : Value) (m_6 : Value) (m_7 : Value) (m_8 : Value) (m_9 : Value) (m_10 : Value) (m_11 : Value) (m_12 : Value) (m_13 : Value) (m_14 : Value) (m_15 : Value) (m_16 : Value) (m_17 : Value) (m_18 : Value) (m_19 : Value) (m_20 : Value) (m_21 : Value) (m_22 : Value) (m_23 : Value) (m_24 : Value) (m_25 : Value) (m_26 : Value) (m_27 : Value) (m_28 : Value) (m_29 : Value) (m_30 : Value) (m_31 : Value) (m_32 : Value) (m_33 : Value) (m_34 : Value) (m_35 : Value) (m_36 : Value) (m_37 : Value) (m_38 : Value) (m_39 : Value) (m_40 : Value) (m_41 : Value) (le : Nat) (tf : Nat) (i3 : Nat) (m_45 : Value) (m_46 : Value) (m_47 : Value) (m_48 : Value) (m_49 : Value) (m_50 : Value) (m_51 : Value) (m_52 : Value) (m_53 : Value) (m_54 : Value) (m_55 : Value) (m_56 : Value) (m_57 : Value) (m_58 : Value) (m_59 : Value) (fi : Nat → Int32) (ft : Nat → Int32) (fl : Nat → Int32) (sz : Nat) (zx : 0 ≤ x.toInt ∧ x.toInt ≤ 11) (zy : 0 ≤ y.toInt ∧ y.toInt ≤ 20) (zz : 0 ≤ z.toInt ∧ z.toInt ≤ 2) (zft : Rg 819 0 20 ft) : Met l yX12_coalBy wsX12_coalBy ({ frames := 1, cells := 0, slots := 0, locals := 23 }) (va_Pc [.ref m0, .int x, .int y, .int z] (Pre D K [(m0, .inr (12, [m_0, m_1, m_2, m_3, m_4, m_5, m_6, m_7, m_8, m_9, m_10, m_11, m_12, m_13, m_14, m_15, m_16, m_17, m_18, m_19, m_20, m_21, m_22, m_23, m_24, m_25, m_26, m_27, m_28, m_29, m_30, m_31, m_32, m_33, m_34, m_35, m_36, m_37, m_38, m_39, m_40, m_41, .ref le, .ref tf, .ref i3, m_45, m_46, m_47, m_48, m_49, m_50, m_51, m_52, m_53, m_54, m_55, m_56, m_57, m_58, m_59])), (i3, .inl (K 1, 819, .inl fi)), (tf, .inl (K 0, 819, .inl ft)), (le, .inl (K 0, 273, .inl fl))] sz)) (vp_Si (fun r : Int32 => (r.toInt = cbv fi ft fl x.toInt y.toInt z.toInt ∧ 0 ≤ r.toInt ∧ r.toInt ≤ 100000000) ∧ True)) 0 0 (fun _ => False) := by
  refine Met.ofW (cc := cX12_coalBy) (maxL := 5) (ret := (some .int)) (by decide) rfl ?_
  intro p e s m args below meth c s₁ B hml hv
  obtain ⟨rfl, hsz, hP, hK, hD0, hN⟩ := hv
  have hx := B.exec
  have hb := B.bytes
  have hr := B.returns
  have hts := atoms_spec (ws := wsX12_coalBy) B.pre
  have hown : s.vm.findClass RX12 = some m.cls := findClass_of_methodNamed B.named
  have hlocks := B.notSynchronized
  subst hsz
  have hD := hD0
  have hP : va_P D vwCl [(m0, .inr (12, [m_0, m_1, m_2, m_3, m_4, m_5, m_6, m_7, m_8, m_9, m_10, m_11, m_12, m_13, m_14, m_15, m_16, m_17, m_18, m_19, m_20, m_21, m_22, m_23, m_24, m_25, m_26, m_27, m_28, m_29, m_30, m_31, m_32, m_33, m_34, m_35, m_36, m_37, m_38, m_39, m_40, m_41, .ref le, .ref tf, .ref i3, m_45, m_46, m_47, m_48, m_49, m_50, m_51, m_52, m_53, m_54, m_55, m_56, m_57, m_58, m_59])), (i3, .inl (K 1, 819, .inl fi)), (tf, .inl (K 0, 819, .inl ft)), (le, .inl (K 0, 273, .inl fl))] s.heap := hP
  have hl := lv_entry [.ref m0, .int x, .int y, .int z] (n := 5) (Nat.le_of_ble_eq_true rfl)
  rw [lg_entry_eq]
  generalize (lg_sl [.ref m0, .int x, .int y, .int z] ++ List.replicate (5 - (lg_sl [.ref m0, .int x, .int y, .int z]).length) Slot.unset).toArray = ls at hl ⊢
  have hl : lv_has ls 5 [(0, .ref m0), (1, .int x), (2, .int y), (3, .int z)] := hl
  have hw12 : ∀ w ∈ wsX120, w ∈ wsX12_coalBy := fun w h => (List.mem_cons_of_mem _ (List.mem_append_right _ h))
  generalize hQ : MQ below _ _ s _ _ _ = Q
  refine lv_bipush (v := 63) hx hb dX12_coalBy_0 (by decide) ?_
  refine lv_iload_n hx hb dX12_coalBy_2 rfl (lv_at hl 1 rfl) ?_
  refine lv_imul hx hb dX12_coalBy_3 ?_
  refine lv_topi (fun x_31 ex_31 => ?_)
  have hx_31 : x_31.toInt = (63 * x.toInt) := by rw [ex_31]; exact i_mul (show (63 : Int32).toInt = 63 from rfl) rfl (by omega)
  refine lv_iconst (v := 3) hx hb dX12_coalBy_4 (by decide) ?_
  refine lv_iload_n hx hb dX12_coalBy_5 rfl (lv_at hl 2 rfl) ?_
  refine lv_imul hx hb dX12_coalBy_6 ?_
  refine lv_topi (fun x_32 ex_32 => ?_)
  have hx_32 : x_32.toInt = (3 * y.toInt) := by rw [ex_32]; exact i_mul (show (3 : Int32).toInt = 3 from rfl) rfl (by omega)
  refine lv_iadd hx hb dX12_coalBy_7 ?_
  refine lv_topi (fun x_33 ex_33 => ?_)
  have hx_33 : x_33.toInt = ((63 * x.toInt) + (3 * y.toInt)) := by rw [ex_33]; exact i_add hx_31 hx_32 (by omega)
  refine lv_iload_n hx hb dX12_coalBy_8 rfl (lv_at hl 3 rfl) ?_
  refine lv_iadd hx hb dX12_coalBy_9 ?_
  refine lv_topi (fun x_34 ex_34 => ?_)
  have hx_34 : x_34.toInt = (((63 * x.toInt) + (3 * y.toInt)) + z.toInt) := by rw [ex_34]; exact i_add hx_33 rfl (by omega)
  refine lv_istore (lv' := [(4, .int x_34), (0, .ref m0), (1, .int x), (2, .int y), (3, .int z)]) hx hb dX12_coalBy_10 hl (by decide) rfl (fun ls hl => ?_)
  refine lv_aload_n hx hb dX12_coalBy_12 rfl (lv_at hl 1 rfl) ?_
  refine va_get (ci := 12) (v := .ref i3) (C := RX12) (T := TX12) (N := 60) hx hb hts hw12 hown hK hP 0 rfl rfl 44 (by decide) (hts (.fieldLink RX12 117 "SmokeTuneModel" "isSo3" "[Z") (List.mem_cons_of_mem _ (List.mem_append_left _ (List.mem_of_getElem? (i := 0) rfl)))) (fun _ h9 => h9) rfl dX12_coalBy_13 ?_
  refine lv_iload hx hb dX12_coalBy_16 (lv_at hl 0 rfl) ?_
  refine va_zald hx hb hK hP 1 1 rfl rfl (i_in hx_34 (by omega)) dX12_coalBy_18 ?_
  refine lv_topi (fun x_35 ex_35 => ?_)
  refine lv_if_ne (tgt := 28) hx hb dX12_coalBy_19 (by decide) (fun c_36 => ?_) (fun c_36 => ?_)
  · have c_36i := i_ne (x := x_35.toInt) (y := 0) rfl rfl c_36
    refine lv_iload_n hx hb dX12_coalBy_28 rfl (lv_at hl 4 rfl) ?_
    refine lv_i2l hx hb dX12_coalBy_29 rfl ?_
    refine lv_topl (fun x_37 ex_37 => ?_)
    have hx_37 : x_37.toInt = z.toInt := by rw [ex_37]; exact i_wide rfl
    refine lv_aload_n hx hb dX12_coalBy_30 rfl (lv_at hl 1 rfl) ?_
    refine va_get (ci := 12) (v := .ref le) (C := RX12) (T := TX12) (N := 60) hx hb hts hw12 hown hK hP 0 rfl rfl 42 (by decide) (hts (.fieldLink RX12 111 "SmokeTuneModel" "least" "[I") (List.mem_cons_of_mem _ (List.mem_append_left _ (List.mem_of_getElem? (i := 2) rfl)))) (fun _ h9 => h9) rfl dX12_coalBy_31 ?_
    refine lv_bipush (v := 21) hx hb dX12_coalBy_34 (by decide) ?_
    refine lv_iload_n hx hb dX12_coalBy_36 rfl (lv_at hl 2 rfl) ?_
    refine lv_iconst (v := 1) hx hb dX12_coalBy_37 (by decide) ?_
    refine lv_iadd hx hb dX12_coalBy_38 ?_
    refine lv_topi (fun x_38 ex_38 => ?_)
    have hx_38 : x_38.toInt = (x.toInt + 1) := by rw [ex_38]; exact i_add rfl (show (1 : Int32).toInt = 1 from rfl) (by omega)
    refine lv_imul hx hb dX12_coalBy_39 ?_
    refine lv_topi (fun x_39 ex_39 => ?_)
    have hx_39 : x_39.toInt = (21 * (x.toInt + 1)) := by rw [ex_39]; exact i_mul (show (21 : Int32).toInt = 21 from rfl) hx_38 (by omega)
    refine lv_aload_n hx hb dX12_coalBy_40 rfl (lv_at hl 1 rfl) ?_
    refine va_get (ci := 12) (v := .ref tf) (C := RX12) (T := TX12) (N := 60) hx hb hts hw12 hown hK hP 0 rfl rfl 43 (by decide) (hts (.fieldLink RX12 114 "SmokeTuneModel" "thenFire" "[I") (List.mem_cons_of_mem _ (List.mem_append_left _ (List.mem_of_getElem? (i := 3) rfl)))) (fun _ h9 => h9) rfl dX12_coalBy_41 ?_
    refine lv_iload hx hb dX12_coalBy_44 (lv_at hl 0 rfl) ?_
    refine va_iald hx hb hK hP 2 0 rfl rfl (i_in hx_34 (by omega)) dX12_coalBy_46 ?_
    refine lv_topi (fun x_40 ex_40 => ?_)
    have hx_40 := Rg.at zft hx_34 (show 0 ≤ (((63 * x.toInt) + (3 * y.toInt)) + z.toInt) ∧ (((63 * x.toInt) + (3 * y.toInt)) + z.toInt) < _ by omega)
    rw [← ex_40] at hx_40
    refine lv_iadd hx hb dX12_coalBy_47 ?_
    refine lv_topi (fun x_41 ex_41 => ?_)
    have hx_41 : x_41.toInt = ((21 * (x.toInt + 1)) + x_40.toInt) := by rw [ex_41]; exact i_add hx_39 rfl (by omega)
    refine va_iald hx hb hK hP 3 0 rfl rfl (i_in hx_41 (by omega)) dX12_coalBy_48 ?_
    refine lv_topi (fun x_42 ex_42 => ?_)
    refine lv_i2l hx hb dX12_coalBy_49 rfl ?_
    refine lv_topl (fun x_43 ex_43 => ?_)
    have hx_43 : x_43.toInt = x_42.toInt := by rw [ex_43]; exact i_wide rfl
    have hbx_43 := i_rng (a := x_42) rfl
    refine lv_ladd hx hb dX12_coalBy_50 ?_
    refine lv_topl (fun x_44 ex_44 => ?_)
    have hx_44 : x_44.toInt = (z.toInt + x_42.toInt) := by rw [ex_44]; exact l_add hx_37 hx_43 (by omega)
    refine lv_iconst (v := 0) hx hb dX12_coalBy_51 (by decide) ?_
    refine lv_ldcw (v := 100000000) hx hb hown (hts (.constant RX12 476 (100000000)) (List.mem_cons_of_mem _ (List.mem_append_left _ (List.mem_of_getElem? (i := 1) rfl)))) dX12_coalBy_52 ?_
    refine pci (va_runS (As := [.long x_44, .int 0, .int 100000000]) (rest := []) ⟨hx, hb, hml, hown, hts⟩ (v_withinX l D K x_44 s.heap.size) (va_cwS 3 hts gX12_coalBy_X12_within rfl rfl rfl (by decide +kernel) ⟨Nat.le_of_ble_eq_true rfl, Nat.le_of_ble_eq_true rfl⟩) (mkS hK hN (va_P.nil) (va_D.nil (A := fun _ => True))) rfl rfl hl.1 rfl (lv_room (Nat.le_of_ble_eq_true rfl)) dX12_coalBy_55 ⟨Nat.le_of_ble_eq_true rfl, Nat.le_of_ble_eq_true rfl⟩) (fun r_45 hw => ?_)
    obtain ⟨hwi_r_45, -⟩ := hw
    subst hQ
    have q0 : x_35 = fi ((((63 * x.toInt) + (3 * y.toInt)) + z.toInt)).toNat := by rw [ex_35, i_clamp hx_34]
    have q1 : x_40 = ft ((((63 * x.toInt) + (3 * y.toInt)) + z.toInt)).toNat := by rw [ex_40, i_clamp hx_34]
    have q2 : x_42 = fl (21 * (x.toInt + 1) + (ft ((((63 * x.toInt) + (3 * y.toInt)) + z.toInt)).toNat).toInt).toNat := by rw [ex_42, i_clamp hx_41, ← q1]
    have q3 : r_45.toInt = cbv fi ft fl x.toInt y.toInt z.toInt := by
      unfold cbv
      rw [if_neg (fun h9 => by have h8 : x_35.toInt = 0 := by rw [q0, h9]; rfl
                              omega), ← q2, hwi_r_45, hx_44]
    exact W.iret (v := r_45) hx hb hr (fun t ht hW => ⟨_, rfl, ⟨⟨q3, by rw [q3]; exact cbv_rng _ _ _ _ _ _⟩, trivial⟩, ht⟩) (fun q hq => by cases hq) dX12_coalBy_58
  · have c_36i := i_eq (x := x_35.toInt) (y := 0) rfl rfl c_36
    refine lv_ldcw (v := 100000000) hx hb hown (hts (.constant RX12 476 (100000000)) (List.mem_cons_of_mem _ (List.mem_append_left _ (List.mem_of_getElem? (i := 1) rfl)))) dX12_coalBy_22 ?_
    refine lv_goto (tgt := 58) hx hb dX12_coalBy_25 (by decide) ?_
    subst hQ
    have q0 : x_35 = fi ((((63 * x.toInt) + (3 * y.toInt)) + z.toInt)).toNat := by rw [ex_35, i_clamp hx_34]
    exact W.iret (v := 100000000) hx hb hr (fun t ht hW => ⟨_, rfl, ⟨(show (100000000 : Int) = cbv fi ft fl x.toInt y.toInt z.toInt ∧ (0 : Int) ≤ 100000000 ∧ (100000000 : Int) ≤ 100000000 from ⟨by unfold cbv; rw [if_pos (by rw [← q0]; exact i_lit (b := 0) (show x_35.toInt = 0 by omega) rfl)], by decide, by decide⟩), trivial⟩, ht⟩) (fun q hq => by cases hq) dX12_coalBy_58
set_option maxHeartbeats 4000000 in
set_option maxRecDepth 100000 in
theorem v_layHour (l : Launch) (D : va_G) (K : Nat → ClassId) (m0 : Nat) (x : Int32) (y : Int32) (z : Int32) (m_0 : Value) (m_1 : Value) (m_2 : Value) (w0 : Nat) (m_4 : Value) (m_5 : Value) (m_6 : Value) (m_7 : Value) (m_8 : Value) (m_9 : Value) (m_10 : Value) (m_11 : Value) (m_12 : Value) (m_13 : Value) (m_14 : Value) (m_15 : Value) (m_16 : Value) (m_17 : Value) (m_18 : Value) (m_19 : Value) (m_21 : Value) (m_22 : Value) (m_23 : Value) (m_24 : Value) (m_25 : Value) (m_26 : Value) (m_27 : Value) (m_28 : Value) (m_29 : Value) (m_30 : Value) (m_31 : Value) (m_32 : Value) (m_33 : Value) (lw : Int32) (e0 : Nat) (m_36 : Value) (q0 : Nat) (bro : Int32) (val : Int64) (sm : Int64) (m_41 : Value) (m_42 : Value) (tf : Nat) (i3 : Nat) (m_45 : Value) (m_46 : Value) (m_47 : Value) (m_48 : Value) (m_49 : Value) (m_50 : Value) (m_51 : Value) (m_52 : Value) (m_53 : Value) (m_54 : Value) (m_55 : Value) (m_56 : Value) (m_57 : Value) (m_58 : Value) (m_59 : Value) (fw : Nat → Int32) (fe : Nat → Int64) (fq : Nat → Int64) (fi : Nat → Int32) (ft : Nat → Int32) (sz : Nat) (zbro : 0 ≤ bro.toInt ∧ bro.toInt ≤ 1) (zx : 0 ≤ x.toInt ∧ x.toInt ≤ 7) (zy : 0 ≤ y.toInt ∧ y.toInt ≤ 11) (zz : 0 ≤ z.toInt ∧ z.toInt ≤ 1) (zfw : RowOK fw) (zft : Rg 819 0 20 ft) : Met l yX12_layHour wsX12_layHour ({ frames := 6, cells := 0, slots := 0, locals := 146 }) (va_Pc [.ref m0, .int x, .int y, .int z] (Pre D K [(m0, .inr (12, [m_0, m_1, m_2, .ref w0, m_4, m_5, m_6, m_7, m_8, m_9, m_10, m_11, m_12, m_13, m_14, m_15, m_16, m_17, m_18, m_19, .int 0, m_21, m_22, m_23, m_24, m_25, m_26, m_27, m_28, m_29, m_30, m_31, m_32, m_33, .int lw, .ref e0, m_36, .ref q0, .int bro, .long val, .long sm, m_41, m_42, .ref tf, .ref i3, m_45, m_46, m_47, m_48, m_49, m_50, m_51, m_52, m_53, m_54, m_55, m_56, m_57, m_58, m_59])), (w0, .inl (K 0, 5500, .inl fw)), (e0, .inl (K 2, 13, .inr (.inl fe))), (q0, .inl (K 2, 400, .inr (.inl fq))), (i3, .inl (K 1, 819, .inl fi)), (tf, .inl (K 0, 819, .inl ft))] sz)) (va_Qv (S := Su) (fun (u : Su) => (0 ≤ (u.2.2.2.1 1).toInt ∧ (u.2.2.2.1 1).toInt ≤ 1) ∧ (RowOK (u.2.1 0)) ∧ (Rg 819 0 20 (u.2.1 2)) ∧ True) (fun u t => Wd D (va_A [(m0, .inr (12, [m_0, m_1, m_2, .ref w0, m_4, m_5, m_6, m_7, m_8, m_9, m_10, m_11, m_12, m_13, m_14, m_15, m_16, m_17, m_18, m_19, .int 0, m_21, m_22, m_23, m_24, m_25, m_26, m_27, m_28, m_29, m_30, m_31, m_32, m_33, .int lw, .ref e0, m_36, .ref q0, .int bro, .long val, .long sm, m_41, m_42, .ref tf, .ref i3, m_45, m_46, m_47, m_48, m_49, m_50, m_51, m_52, m_53, m_54, m_55, m_56, m_57, m_58, m_59])), (w0, .inl (K 0, 5500, .inl fw)), (e0, .inl (K 2, 13, .inr (.inl fe))), (q0, .inl (K 2, 400, .inr (.inl fq))), (i3, .inl (K 1, 819, .inl fi)), (tf, .inl (K 0, 819, .inl ft))] sz) ((fun u => [(m0, .inr (12, [m_0, m_1, m_2, .ref w0, m_4, m_5, m_6, m_7, m_8, m_9, m_10, m_11, m_12, m_13, m_14, m_15, m_16, m_17, m_18, m_19, .int 0, m_21, m_22, m_23, m_24, m_25, m_26, m_27, m_28, m_29, m_30, m_31, m_32, m_33, .int (u.2.2.2.1 0), .ref e0, m_36, .ref q0, .int (u.2.2.2.1 1), .long (u.2.2.2.2.1 0), .long (u.2.2.2.2.1 1), m_41, m_42, .ref tf, .ref i3, m_45, m_46, m_47, m_48, m_49, m_50, m_51, m_52, m_53, m_54, m_55, m_56, m_57, m_58, m_59])), (w0, .inl (K 0, 5500, .inl (u.2.1 0))), (e0, .inl (K 2, 13, .inr (.inl (u.2.2.1 0)))), (q0, .inl (K 2, 400, .inr (.inl (u.2.2.1 1)))), (i3, .inl (K 1, 819, .inl (u.2.1 1))), (tf, .inl (K 0, 819, .inl (u.2.1 2)))]) u) t) (va_A [(m0, .inr (12, [m_0, m_1, m_2, .ref w0, m_4, m_5, m_6, m_7, m_8, m_9, m_10, m_11, m_12, m_13, m_14, m_15, m_16, m_17, m_18, m_19, .int 0, m_21, m_22, m_23, m_24, m_25, m_26, m_27, m_28, m_29, m_30, m_31, m_32, m_33, .int lw, .ref e0, m_36, .ref q0, .int bro, .long val, .long sm, m_41, m_42, .ref tf, .ref i3, m_45, m_46, m_47, m_48, m_49, m_50, m_51, m_52, m_53, m_54, m_55, m_56, m_57, m_58, m_59])), (w0, .inl (K 0, 5500, .inl fw)), (e0, .inl (K 2, 13, .inr (.inl fe))), (q0, .inl (K 2, 400, .inr (.inl fq))), (i3, .inl (K 1, 819, .inl fi)), (tf, .inl (K 0, 819, .inl ft))] sz)) 0 0 (va_A [(m0, .inr (12, [m_0, m_1, m_2, .ref w0, m_4, m_5, m_6, m_7, m_8, m_9, m_10, m_11, m_12, m_13, m_14, m_15, m_16, m_17, m_18, m_19, .int 0, m_21, m_22, m_23, m_24, m_25, m_26, m_27, m_28, m_29, m_30, m_31, m_32, m_33, .int lw, .ref e0, m_36, .ref q0, .int bro, .long val, .long sm, m_41, m_42, .ref tf, .ref i3, m_45, m_46, m_47, m_48, m_49, m_50, m_51, m_52, m_53, m_54, m_55, m_56, m_57, m_58, m_59])), (w0, .inl (K 0, 5500, .inl fw)), (e0, .inl (K 2, 13, .inr (.inl fe))), (q0, .inl (K 2, 400, .inr (.inl fq))), (i3, .inl (K 1, 819, .inl fi)), (tf, .inl (K 0, 819, .inl ft))] sz) := by
  refine Met.ofW (cc := cX12_layHour) (maxL := 8) (ret := none) (by decide) rfl ?_
  intro p e s m args below meth c s₁ B hml hv
  obtain ⟨rfl, hsz, hP, hK, hD0, hN⟩ := hv
  have hx := B.exec
  have hb := B.bytes
  have hr := B.returns
  have hts := atoms_spec (ws := wsX12_layHour) B.pre
  have hown : s.vm.findClass RX12 = some m.cls := findClass_of_methodNamed B.named
  have hlocks := B.notSynchronized
  subst hsz
  have hD := hD0.self (sz := s.heap.size)
  generalize hAe : va_A [(m0, .inr (12, [m_0, m_1, m_2, .ref w0, m_4, m_5, m_6, m_7, m_8, m_9, m_10, m_11, m_12, m_13, m_14, m_15, m_16, m_17, m_18, m_19, .int 0, m_21, m_22, m_23, m_24, m_25, m_26, m_27, m_28, m_29, m_30, m_31, m_32, m_33, .int lw, .ref e0, m_36, .ref q0, .int bro, .long val, .long sm, m_41, m_42, .ref tf, .ref i3, m_45, m_46, m_47, m_48, m_49, m_50, m_51, m_52, m_53, m_54, m_55, m_56, m_57, m_58, m_59])), (w0, .inl (K 0, 5500, .inl fw)), (e0, .inl (K 2, 13, .inr (.inl fe))), (q0, .inl (K 2, 400, .inr (.inl fq))), (i3, .inl (K 1, 819, .inl fi)), (tf, .inl (K 0, 819, .inl ft))] s.heap.size = A at hD ⊢
  have hA : ∀ q : Nat, s.heap.size ≤ q → A q := fun q h => by rw [← hAe]; exact Or.inr h
  have hS : va_S A s.heap s.heap [] := va_S.rf
  have hP : va_P D vwCl [(m0, .inr (12, [m_0, m_1, m_2, .ref w0, m_4, m_5, m_6, m_7, m_8, m_9, m_10, m_11, m_12, m_13, m_14, m_15, m_16, m_17, m_18, m_19, .int 0, m_21, m_22, m_23, m_24, m_25, m_26, m_27, m_28, m_29, m_30, m_31, m_32, m_33, .int lw, .ref e0, m_36, .ref q0, .int bro, .long val, .long sm, m_41, m_42, .ref tf, .ref i3, m_45, m_46, m_47, m_48, m_49, m_50, m_51, m_52, m_53, m_54, m_55, m_56, m_57, m_58, m_59])), (w0, .inl (K 0, 5500, .inl fw)), (e0, .inl (K 2, 13, .inr (.inl fe))), (q0, .inl (K 2, 400, .inr (.inl fq))), (i3, .inl (K 1, 819, .inl fi)), (tf, .inl (K 0, 819, .inl ft))] s.heap := hP
  have hl := lv_entry [.ref m0, .int x, .int y, .int z] (n := 8) (Nat.le_of_ble_eq_true rfl)
  rw [lg_entry_eq]
  generalize (lg_sl [.ref m0, .int x, .int y, .int z] ++ List.replicate (8 - (lg_sl [.ref m0, .int x, .int y, .int z]).length) Slot.unset).toArray = ls at hl ⊢
  have hl : lv_has ls 8 [(0, .ref m0), (1, .int x), (2, .int y), (3, .int z)] := hl
  have hw12 : ∀ w ∈ wsX120, w ∈ wsX12_layHour := fun w h => (List.mem_cons_of_mem _ (List.mem_append_right _ h))
  generalize hQ : MQ below _ _ s _ _ _ = Q
  refine lv_iconst (v := 0) hx hb dX12_layHour_0 (by decide) ?_
  refine lv_istore (lv' := [(4, .int 0), (0, .ref m0), (1, .int x), (2, .int y), (3, .int z)]) hx hb dX12_layHour_1 hl (by decide) rfl (fun ls hl => ?_)
  have lp_25612 : ∀ (nn_ : Nat) (v_23046 : Int32) (v_23047 : Int32) (v_23048 : Int32) (v_23049 : Int64) (v_23050 : Int64) (f_23051 : Nat → Int32) (f_23052 : Nat → Int64) (f_23053 : Nat → Int64) (f_23054 : Nat → Int32) (f_23055 : Nat → Int32) (hv_23046 : 0 ≤ v_23046.toInt ∧ v_23046.toInt ≤ 21) (hv_23048 : 0 ≤ v_23048.toInt ∧ v_23048.toInt ≤ 1) (hf_23051_0 : RowOK f_23051) (hf_23055_0 : Rg 819 0 20 f_23055) (hn : (22 - v_23046.toInt : Int).toNat < nn_) (H : Heap) (locs : List Loc) (hP : va_P D vwCl [(m0, .inr (12, [m_0, m_1, m_2, .ref w0, m_4, m_5, m_6, m_7, m_8, m_9, m_10, m_11, m_12, m_13, m_14, m_15, m_16, m_17, m_18, m_19, .int 0, m_21, m_22, m_23, m_24, m_25, m_26, m_27, m_28, m_29, m_30, m_31, m_32, m_33, .int v_23047, .ref e0, m_36, .ref q0, .int v_23048, .long v_23049, .long v_23050, m_41, m_42, .ref tf, .ref i3, m_45, m_46, m_47, m_48, m_49, m_50, m_51, m_52, m_53, m_54, m_55, m_56, m_57, m_58, m_59])), (w0, .inl (K 0, 5500, .inl f_23051)), (e0, .inl (K 2, 13, .inr (.inl f_23052))), (q0, .inl (K 2, 400, .inr (.inl f_23053))), (i3, .inl (K 1, 819, .inl f_23054)), (tf, .inl (K 0, 819, .inl f_23055))] H) (hD : va_D A [(m0, .inr (12, [m_0, m_1, m_2, .ref w0, m_4, m_5, m_6, m_7, m_8, m_9, m_10, m_11, m_12, m_13, m_14, m_15, m_16, m_17, m_18, m_19, .int 0, m_21, m_22, m_23, m_24, m_25, m_26, m_27, m_28, m_29, m_30, m_31, m_32, m_33, .int v_23047, .ref e0, m_36, .ref q0, .int v_23048, .long v_23049, .long v_23050, m_41, m_42, .ref tf, .ref i3, m_45, m_46, m_47, m_48, m_49, m_50, m_51, m_52, m_53, m_54, m_55, m_56, m_57, m_58, m_59])), (w0, .inl (K 0, 5500, .inl f_23051)), (e0, .inl (K 2, 13, .inr (.inl f_23052))), (q0, .inl (K 2, 400, .inr (.inl f_23053))), (i3, .inl (K 1, 819, .inl f_23054)), (tf, .inl (K 0, 819, .inl f_23055))]) (hS : va_S A s.heap H locs) (ls : Array Slot) (hl : lv_has ls 8 [(4, .int v_23046), (0, .ref m0), (1, .int x), (2, .int y), (3, .int z)]), W p l e ({ frames := 6, cells := 0, slots := 0, locals := 146 }) s m (([.ref m0, .int x, .int y, .int z] : List Value).toArray) below meth c H locs 0 0 Q (F0 m 3 ls []) := by
    intro nn_
    induction nn_ with
    | zero =>
      intro v_23046 v_23047 v_23048 v_23049 v_23050 f_23051 f_23052 f_23053 f_23054 f_23055 hv_23046 hv_23048 hf_23051_0 hf_23055_0 hn H locs hP hD hS ls hl
      exact absurd hn (Nat.not_lt_zero _)
    | succ nn_ ih_25613 =>
      intro v_23046 v_23047 v_23048 v_23049 v_23050 f_23051 f_23052 f_23053 f_23054 f_23055 hv_23046 hv_23048 hf_23051_0 hf_23055_0 hn H locs hP hD hS ls hl
      refine lv_iload hx hb dX12_layHour_3 (lv_at hl 0 rfl) ?_
      refine lv_bipush (v := 20) hx hb dX12_layHour_5 (by decide) ?_
      refine lv_icmp_gt (tgt := 166) hx hb dX12_layHour_7 (by decide) (fun c_25614 => ?_) (fun c_25614 => ?_)
      · have c_25614i := i_lt (x := 20) (y := v_23046.toInt) rfl rfl c_25614
        subst hQ
        have hP9 := hP.sub (ws' := [(m0, .inr (12, [m_0, m_1, m_2, .ref w0, m_4, m_5, m_6, m_7, m_8, m_9, m_10, m_11, m_12, m_13, m_14, m_15, m_16, m_17, m_18, m_19, .int 0, m_21, m_22, m_23, m_24, m_25, m_26, m_27, m_28, m_29, m_30, m_31, m_32, m_33, .int v_23047, .ref e0, m_36, .ref q0, .int v_23048, .long v_23049, .long v_23050, m_41, m_42, .ref tf, .ref i3, m_45, m_46, m_47, m_48, m_49, m_50, m_51, m_52, m_53, m_54, m_55, m_56, m_57, m_58, m_59])), (w0, .inl (K 0, 5500, .inl f_23051)), (e0, .inl (K 2, 13, .inr (.inl f_23052))), (q0, .inl (K 2, 400, .inr (.inl f_23053))), (i3, .inl (K 1, 819, .inl f_23054)), (tf, .inl (K 0, 819, .inl f_23055))]) [0, 1, 2, 3, 4, 5] rfl
        have hD9 := hD.sub (ws' := [(m0, .inr (12, [m_0, m_1, m_2, .ref w0, m_4, m_5, m_6, m_7, m_8, m_9, m_10, m_11, m_12, m_13, m_14, m_15, m_16, m_17, m_18, m_19, .int 0, m_21, m_22, m_23, m_24, m_25, m_26, m_27, m_28, m_29, m_30, m_31, m_32, m_33, .int v_23047, .ref e0, m_36, .ref q0, .int v_23048, .long v_23049, .long v_23050, m_41, m_42, .ref tf, .ref i3, m_45, m_46, m_47, m_48, m_49, m_50, m_51, m_52, m_53, m_54, m_55, m_56, m_57, m_58, m_59])), (w0, .inl (K 0, 5500, .inl f_23051)), (e0, .inl (K 2, 13, .inr (.inl f_23052))), (q0, .inl (K 2, 400, .inr (.inl f_23053))), (i3, .inl (K 1, 819, .inl f_23054)), (tf, .inl (K 0, 819, .inl f_23055))]) [0, 1, 2, 3, 4, 5] (by decide) rfl
        exact W.vret hx hb hr (fun t ht hW => ⟨⟨((fun _ => 0, fun i => match i with | 0 => f_23051 | 1 => f_23054 | _ => f_23055, fun i => match i with | 0 => f_23052 | _ => f_23053, fun i => match i with | 0 => v_23047 | _ => v_23048, fun i => match i with | 0 => v_23049 | _ => v_23050, fun _ => fun _ => none) : Su), rfl, ⟨(show 0 ≤ (v_23048 : Int32).toInt ∧ (v_23048 : Int32).toInt ≤ 1 by omega), hf_23051_0, hf_23055_0, trivial⟩, (⟨by rw [ht]; exact hP9, hD9⟩ : Wd D A _ t)⟩, hS.F ht⟩) hS.2.2 dX12_layHour_166
      · have c_25614i := i_nlt (x := 20) (y := v_23046.toInt) rfl rfl c_25614
        refine lv_aload_n hx hb dX12_layHour_10 rfl (lv_at hl 1 rfl) ?_
        refine va_get (ci := 12) (v := .ref w0) (C := RX12) (T := TX12) (N := 60) hx hb hts hw12 hown hK hP 0 rfl rfl 3 (by decide) (hts (.fieldLink RX12 13 "SmokeTuneModel" "row" "[I") (List.mem_cons_of_mem _ (List.mem_append_left _ (List.mem_append_left _ (List.mem_of_getElem? (i := 0) rfl))))) (fun _ h9 => h9) rfl dX12_layHour_11 ?_
        refine lv_bipush (v := 11) hx hb dX12_layHour_14 (by decide) ?_
        refine lv_iload_n hx hb dX12_layHour_16 rfl (lv_at hl 2 rfl) ?_
        refine lv_iadd hx hb dX12_layHour_17 ?_
        refine lv_topi (fun x_25615 ex_25615 => ?_)
        have hx_25615 : x_25615.toInt = (11 + x.toInt) := by rw [ex_25615]; exact i_add (show (11 : Int32).toInt = 11 from rfl) rfl (by omega)
        refine lv_iload hx hb dX12_layHour_18 (lv_at hl 0 rfl) ?_
        refine va_iast hx hb hK hP hD hS 1 0 rfl rfl (i_in hx_25615 (by omega)) dX12_layHour_20 (fun H locs hP hD hS => ?_)
        generalize hf_25616 : (upd f_23051 (x_25615 : Int32).toNatClampNeg v_23046) = f_25616 at hP hD
        have hf_25616_0 : RowOK f_25616 := by rw [← hf_25616]; exact RowOK.upd hf_23051_0 hx_25615 (by omega) rfl (PR.w_11 (by omega) (by omega))
        have hP : va_P D vwCl [(m0, .inr (12, [m_0, m_1, m_2, .ref w0, m_4, m_5, m_6, m_7, m_8, m_9, m_10, m_11, m_12, m_13, m_14, m_15, m_16, m_17, m_18, m_19, .int 0, m_21, m_22, m_23, m_24, m_25, m_26, m_27, m_28, m_29, m_30, m_31, m_32, m_33, .int v_23047, .ref e0, m_36, .ref q0, .int v_23048, .long v_23049, .long v_23050, m_41, m_42, .ref tf, .ref i3, m_45, m_46, m_47, m_48, m_49, m_50, m_51, m_52, m_53, m_54, m_55, m_56, m_57, m_58, m_59])), (w0, .inl (K 0, 5500, .inl f_25616)), (e0, .inl (K 2, 13, .inr (.inl f_23052))), (q0, .inl (K 2, 400, .inr (.inl f_23053))), (i3, .inl (K 1, 819, .inl f_23054)), (tf, .inl (K 0, 819, .inl f_23055))] H := hP
        have hD : va_D A [(m0, .inr (12, [m_0, m_1, m_2, .ref w0, m_4, m_5, m_6, m_7, m_8, m_9, m_10, m_11, m_12, m_13, m_14, m_15, m_16, m_17, m_18, m_19, .int 0, m_21, m_22, m_23, m_24, m_25, m_26, m_27, m_28, m_29, m_30, m_31, m_32, m_33, .int v_23047, .ref e0, m_36, .ref q0, .int v_23048, .long v_23049, .long v_23050, m_41, m_42, .ref tf, .ref i3, m_45, m_46, m_47, m_48, m_49, m_50, m_51, m_52, m_53, m_54, m_55, m_56, m_57, m_58, m_59])), (w0, .inl (K 0, 5500, .inl f_25616)), (e0, .inl (K 2, 13, .inr (.inl f_23052))), (q0, .inl (K 2, 400, .inr (.inl f_23053))), (i3, .inl (K 1, 819, .inl f_23054)), (tf, .inl (K 0, 819, .inl f_23055))] := hD
        refine lv_iconst (v := 1) hx hb dX12_layHour_21 (by decide) ?_
        refine lv_istore (lv' := [(5, .int 1), (4, .int v_23046), (0, .ref m0), (1, .int x), (2, .int y), (3, .int z)]) hx hb dX12_layHour_22 hl (by decide) rfl (fun ls hl => ?_)
        refine lv_iconst (v := 0) hx hb dX12_layHour_24 (by decide) ?_
        refine lv_istore (lv' := [(6, .int 0), (5, .int 1), (4, .int v_23046), (0, .ref m0), (1, .int x), (2, .int y), (3, .int z)]) hx hb dX12_layHour_25 hl (by decide) rfl (fun ls hl => ?_)
        have lp_26695 : ∀ (nn_ : Nat) (v_26295 : Int32) (v_26296 : Int32) (v_26297 : Int32) (v_26298 : Int32) (v_26299 : Int64) (v_26300 : Int64) (f_26301 : Nat → Int32) (f_26302 : Nat → Int64) (f_26303 : Nat → Int64) (f_26304 : Nat → Int32) (f_26305 : Nat → Int32) (hv_26295 : 0 ≤ v_26295.toInt ∧ v_26295.toInt ≤ 3) (hv_26296 : 0 ≤ v_26296.toInt ∧ v_26296.toInt ≤ 1) (hv_26298 : 0 ≤ v_26298.toInt ∧ v_26298.toInt ≤ 1) (hf_26301_0 : RowOK f_26301) (hf_26305_0 : Rg 819 0 20 f_26305) (hn : (4 - v_26295.toInt : Int).toNat < nn_) (H : Heap) (locs : List Loc) (hP : va_P D vwCl [(m0, .inr (12, [m_0, m_1, m_2, .ref w0, m_4, m_5, m_6, m_7, m_8, m_9, m_10, m_11, m_12, m_13, m_14, m_15, m_16, m_17, m_18, m_19, .int 0, m_21, m_22, m_23, m_24, m_25, m_26, m_27, m_28, m_29, m_30, m_31, m_32, m_33, .int v_26297, .ref e0, m_36, .ref q0, .int v_26298, .long v_26299, .long v_26300, m_41, m_42, .ref tf, .ref i3, m_45, m_46, m_47, m_48, m_49, m_50, m_51, m_52, m_53, m_54, m_55, m_56, m_57, m_58, m_59])), (w0, .inl (K 0, 5500, .inl f_26301)), (e0, .inl (K 2, 13, .inr (.inl f_26302))), (q0, .inl (K 2, 400, .inr (.inl f_26303))), (i3, .inl (K 1, 819, .inl f_26304)), (tf, .inl (K 0, 819, .inl f_26305))] H) (hD : va_D A [(m0, .inr (12, [m_0, m_1, m_2, .ref w0, m_4, m_5, m_6, m_7, m_8, m_9, m_10, m_11, m_12, m_13, m_14, m_15, m_16, m_17, m_18, m_19, .int 0, m_21, m_22, m_23, m_24, m_25, m_26, m_27, m_28, m_29, m_30, m_31, m_32, m_33, .int v_26297, .ref e0, m_36, .ref q0, .int v_26298, .long v_26299, .long v_26300, m_41, m_42, .ref tf, .ref i3, m_45, m_46, m_47, m_48, m_49, m_50, m_51, m_52, m_53, m_54, m_55, m_56, m_57, m_58, m_59])), (w0, .inl (K 0, 5500, .inl f_26301)), (e0, .inl (K 2, 13, .inr (.inl f_26302))), (q0, .inl (K 2, 400, .inr (.inl f_26303))), (i3, .inl (K 1, 819, .inl f_26304)), (tf, .inl (K 0, 819, .inl f_26305))]) (hS : va_S A s.heap H locs) (ls : Array Slot) (hl : lv_has ls 8 [(6, .int v_26295), (5, .int v_26296), (4, .int v_23046), (0, .ref m0), (1, .int x), (2, .int y), (3, .int z)]), W p l e ({ frames := 6, cells := 0, slots := 0, locals := 146 }) s m (([.ref m0, .int x, .int y, .int z] : List Value).toArray) below meth c H locs 0 0 Q (F0 m 27 ls []) := by
          intro nn_
          induction nn_ with
          | zero =>
            intro v_26295 v_26296 v_26297 v_26298 v_26299 v_26300 f_26301 f_26302 f_26303 f_26304 f_26305 hv_26295 hv_26296 hv_26298 hf_26301_0 hf_26305_0 hn H locs hP hD hS ls hl
            exact absurd hn (Nat.not_lt_zero _)
          | succ nn_ ih_26696 =>
            intro v_26295 v_26296 v_26297 v_26298 v_26299 v_26300 f_26301 f_26302 f_26303 f_26304 f_26305 hv_26295 hv_26296 hv_26298 hf_26301_0 hf_26305_0 hn H locs hP hD hS ls hl
            refine lv_iload hx hb dX12_layHour_27 (lv_at hl 0 rfl) ?_
            refine lv_iconst (v := 3) hx hb dX12_layHour_29 (by decide) ?_
            refine lv_icmp_ge (tgt := 160) hx hb dX12_layHour_30 (by decide) (fun c_26697 => ?_) (fun c_26697 => ?_)
            · have c_26697i := i_le (x := 3) (y := v_26295.toInt) rfl rfl c_26697
              obtain ⟨x_26698, ex_26698⟩ : ∃ y : Int32, y = v_23046 + Int32.ofInt 1 := ⟨_, rfl⟩
              have hx_26698 : x_26698.toInt = (v_23046.toInt + 1) := by rw [ex_26698]; exact i_add rfl (show (Int32.ofInt 1).toInt = 1 from rfl) (by omega)
              refine lv_iinc (v := x_26698) (lv' := [(4, .int x_26698), (6, .int v_26295), (5, .int v_26296), (0, .ref m0), (1, .int x), (2, .int y), (3, .int z)]) hx hb dX12_layHour_160 hl (k := 2) rfl (by rw [ex_26698]) (by decide) rfl (fun ls hl => ?_)
              refine lv_goto (tgt := 3) hx hb dX12_layHour_163 (by decide) ?_
              exact ih_25613 x_26698 v_26297 v_26298 v_26299 v_26300 f_26301 f_26302 f_26303 f_26304 f_26305 (by rw [hx_26698]; omega) (by omega) hf_26301_0 hf_26305_0 (by omega) _ _ hP hD hS ls (lv_sub hl [0, 3, 4, 5, 6] rfl)
            · have c_26697i := i_nle (x := 3) (y := v_26295.toInt) rfl rfl c_26697
              refine lv_iload hx hb dX12_layHour_33 (lv_at hl 1 rfl) ?_
              have j_26799 : ∀ (v_26741 : Int32) (v_26742 : Int32) (v_26743 : Int32) (v_26744 : Int64) (v_26745 : Int64) (f_26746 : Nat → Int32) (f_26747 : Nat → Int64) (f_26748 : Nat → Int64) (hv_26741 : 0 ≤ v_26741.toInt ∧ v_26741.toInt ≤ 1) (hv_26743 : 0 ≤ v_26743.toInt ∧ v_26743.toInt ≤ 1) (hf_26746_0 : RowOK f_26746) (H : Heap) (locs : List Loc) (hP : va_P D vwCl [(m0, .inr (12, [m_0, m_1, m_2, .ref w0, m_4, m_5, m_6, m_7, m_8, m_9, m_10, m_11, m_12, m_13, m_14, m_15, m_16, m_17, m_18, m_19, .int 0, m_21, m_22, m_23, m_24, m_25, m_26, m_27, m_28, m_29, m_30, m_31, m_32, m_33, .int v_26742, .ref e0, m_36, .ref q0, .int v_26743, .long v_26744, .long v_26745, m_41, m_42, .ref tf, .ref i3, m_45, m_46, m_47, m_48, m_49, m_50, m_51, m_52, m_53, m_54, m_55, m_56, m_57, m_58, m_59])), (w0, .inl (K 0, 5500, .inl f_26746)), (e0, .inl (K 2, 13, .inr (.inl f_26747))), (q0, .inl (K 2, 400, .inr (.inl f_26748))), (i3, .inl (K 1, 819, .inl f_26304)), (tf, .inl (K 0, 819, .inl f_26305))] H) (hD : va_D A [(m0, .inr (12, [m_0, m_1, m_2, .ref w0, m_4, m_5, m_6, m_7, m_8, m_9, m_10, m_11, m_12, m_13, m_14, m_15, m_16, m_17, m_18, m_19, .int 0, m_21, m_22, m_23, m_24, m_25, m_26, m_27, m_28, m_29, m_30, m_31, m_32, m_33, .int v_26742, .ref e0, m_36, .ref q0, .int v_26743, .long v_26744, .long v_26745, m_41, m_42, .ref tf, .ref i3, m_45, m_46, m_47, m_48, m_49, m_50, m_51, m_52, m_53, m_54, m_55, m_56, m_57, m_58, m_59])), (w0, .inl (K 0, 5500, .inl f_26746)), (e0, .inl (K 2, 13, .inr (.inl f_26747))), (q0, .inl (K 2, 400, .inr (.inl f_26748))), (i3, .inl (K 1, 819, .inl f_26304)), (tf, .inl (K 0, 819, .inl f_26305))]) (hS : va_S A s.heap H locs) (ls : Array Slot) (hl : lv_has ls 8 [(5, .int v_26741), (6, .int v_26295), (4, .int v_23046), (0, .ref m0), (1, .int x), (2, .int y), (3, .int z)]), W p l e ({ frames := 6, cells := 0, slots := 0, locals := 146 }) s m (([.ref m0, .int x, .int y, .int z] : List Value).toArray) below meth c H locs 0 0 Q (F0 m 79 ls []) := by
                intro v_26741 v_26742 v_26743 v_26744 v_26745 f_26746 f_26747 f_26748 hv_26741 hv_26743 hf_26746_0 H locs hP hD hS ls hl
                refine lv_bipush (v := 63) hx hb dX12_layHour_79 (by decide) ?_
                refine lv_iload_n hx hb dX12_layHour_81 rfl (lv_at hl 5 rfl) ?_
                refine lv_imul hx hb dX12_layHour_82 ?_
                refine lv_topi (fun x_26800 ex_26800 => ?_)
                have hx_26800 : x_26800.toInt = (63 * y.toInt) := by rw [ex_26800]; exact i_mul (show (63 : Int32).toInt = 63 from rfl) rfl (by omega)
                refine lv_iconst (v := 3) hx hb dX12_layHour_83 (by decide) ?_
                refine lv_iload hx hb dX12_layHour_84 (lv_at hl 2 rfl) ?_
                refine lv_imul hx hb dX12_layHour_86 ?_
                refine lv_topi (fun x_26801 ex_26801 => ?_)
                have hx_26801 : x_26801.toInt = (3 * v_23046.toInt) := by rw [ex_26801]; exact i_mul (show (3 : Int32).toInt = 3 from rfl) rfl (by omega)
                refine lv_iadd hx hb dX12_layHour_87 ?_
                refine lv_topi (fun x_26802 ex_26802 => ?_)
                have hx_26802 : x_26802.toInt = ((63 * y.toInt) + (3 * v_23046.toInt)) := by rw [ex_26802]; exact i_add hx_26800 hx_26801 (by omega)
                refine lv_iload hx hb dX12_layHour_88 (lv_at hl 1 rfl) ?_
                refine lv_iadd hx hb dX12_layHour_90 ?_
                refine lv_topi (fun x_26803 ex_26803 => ?_)
                have hx_26803 : x_26803.toInt = (((63 * y.toInt) + (3 * v_23046.toInt)) + v_26295.toInt) := by rw [ex_26803]; exact i_add hx_26802 rfl (by omega)
                refine lv_istore (lv' := [(7, .int x_26803), (5, .int v_26741), (6, .int v_26295), (4, .int v_23046), (0, .ref m0), (1, .int x), (2, .int y), (3, .int z)]) hx hb dX12_layHour_91 hl (by decide) rfl (fun ls hl => ?_)
                refine lv_aload_n hx hb dX12_layHour_93 rfl (lv_at hl 4 rfl) ?_
                refine va_get (ci := 12) (v := .ref i3) (C := RX12) (T := TX12) (N := 60) hx hb hts hw12 hown hK hP 0 rfl rfl 44 (by decide) (hts (.fieldLink RX12 117 "SmokeTuneModel" "isSo3" "[Z") (List.mem_cons_of_mem _ (List.mem_append_left _ (List.mem_append_left _ (List.mem_of_getElem? (i := 1) rfl))))) (fun _ h9 => h9) rfl dX12_layHour_94 ?_
                refine lv_iload hx hb dX12_layHour_97 (lv_at hl 0 rfl) ?_
                refine lv_iload hx hb dX12_layHour_99 (lv_at hl 1 rfl) ?_
                refine lv_if_eq (tgt := 117) hx hb dX12_layHour_101 (by decide) (fun c_26804 => ?_) (fun c_26804 => ?_)
                · have c_26804i := i_eq (x := v_26741.toInt) (y := 0) rfl rfl c_26804
                  refine lv_iconst (v := 0) hx hb dX12_layHour_117 (by decide) ?_
                  refine va_zast hx hb hK hP hD hS 4 1 rfl rfl (i_in hx_26803 (by omega)) dX12_layHour_118 (fun H locs hP hD hS => ?_)
                  generalize hf_26805 : (upd f_26304 (x_26803 : Int32).toNatClampNeg (vp_nar .boolean 0)) = f_26805 at hP hD
                  have hP : va_P D vwCl [(m0, .inr (12, [m_0, m_1, m_2, .ref w0, m_4, m_5, m_6, m_7, m_8, m_9, m_10, m_11, m_12, m_13, m_14, m_15, m_16, m_17, m_18, m_19, .int 0, m_21, m_22, m_23, m_24, m_25, m_26, m_27, m_28, m_29, m_30, m_31, m_32, m_33, .int v_26742, .ref e0, m_36, .ref q0, .int v_26743, .long v_26744, .long v_26745, m_41, m_42, .ref tf, .ref i3, m_45, m_46, m_47, m_48, m_49, m_50, m_51, m_52, m_53, m_54, m_55, m_56, m_57, m_58, m_59])), (w0, .inl (K 0, 5500, .inl f_26746)), (e0, .inl (K 2, 13, .inr (.inl f_26747))), (q0, .inl (K 2, 400, .inr (.inl f_26748))), (i3, .inl (K 1, 819, .inl f_26805)), (tf, .inl (K 0, 819, .inl f_26305))] H := hP
                  have hD : va_D A [(m0, .inr (12, [m_0, m_1, m_2, .ref w0, m_4, m_5, m_6, m_7, m_8, m_9, m_10, m_11, m_12, m_13, m_14, m_15, m_16, m_17, m_18, m_19, .int 0, m_21, m_22, m_23, m_24, m_25, m_26, m_27, m_28, m_29, m_30, m_31, m_32, m_33, .int v_26742, .ref e0, m_36, .ref q0, .int v_26743, .long v_26744, .long v_26745, m_41, m_42, .ref tf, .ref i3, m_45, m_46, m_47, m_48, m_49, m_50, m_51, m_52, m_53, m_54, m_55, m_56, m_57, m_58, m_59])), (w0, .inl (K 0, 5500, .inl f_26746)), (e0, .inl (K 2, 13, .inr (.inl f_26747))), (q0, .inl (K 2, 400, .inr (.inl f_26748))), (i3, .inl (K 1, 819, .inl f_26805)), (tf, .inl (K 0, 819, .inl f_26305))] := hD
                  refine lv_aload_n hx hb dX12_layHour_119 rfl (lv_at hl 4 rfl) ?_
                  refine va_get (ci := 12) (v := .ref tf) (C := RX12) (T := TX12) (N := 60) hx hb hts hw12 hown hK hP 0 rfl rfl 43 (by decide) (hts (.fieldLink RX12 114 "SmokeTuneModel" "thenFire" "[I") (List.mem_cons_of_mem _ (List.mem_append_left _ (List.mem_append_left _ (List.mem_of_getElem? (i := 2) rfl))))) (fun _ h9 => h9) rfl dX12_layHour_120 ?_
                  refine lv_iload hx hb dX12_layHour_123 (lv_at hl 0 rfl) ?_
                  refine lv_aload_n hx hb dX12_layHour_125 rfl (lv_at hl 4 rfl) ?_
                  refine va_get (ci := 12) (v := .ref w0) (C := RX12) (T := TX12) (N := 60) hx hb hts hw12 hown hK hP 0 rfl rfl 3 (by decide) (hts (.fieldLink RX12 13 "SmokeTuneModel" "row" "[I") (List.mem_cons_of_mem _ (List.mem_append_left _ (List.mem_append_left _ (List.mem_of_getElem? (i := 0) rfl))))) (fun _ h9 => h9) rfl dX12_layHour_126 ?_
                  refine lv_bipush (v := 11) hx hb dX12_layHour_129 (by decide) ?_
                  refine lv_iload_n hx hb dX12_layHour_131 rfl (lv_at hl 5 rfl) ?_
                  refine lv_iadd hx hb dX12_layHour_132 ?_
                  refine lv_topi (fun x_26806 ex_26806 => ?_)
                  have hx_26806 : x_26806.toInt = (11 + x.toInt) := by rw [ex_26806]; exact i_add (show (11 : Int32).toInt = 11 from rfl) rfl (by omega)
                  refine va_iald hx hb hK hP 1 0 rfl rfl (i_in hx_26806 (by omega)) dX12_layHour_133 ?_
                  refine lv_topi (fun x_26807 ex_26807 => ?_)
                  have px_26807 := RowOK.at hf_26746_0 hx_26806 (show 0 ≤ (11 + x.toInt) ∧ (11 + x.toInt) < 100 by omega)
                  rw [← ex_26807] at px_26807
                  have hx_26807 := PR.r_11 px_26807 (by omega)
                  refine lv_aload_n hx hb dX12_layHour_134 rfl (lv_at hl 4 rfl) ?_
                  refine lv_aload_n hx hb dX12_layHour_135 rfl (lv_at hl 4 rfl) ?_
                  refine va_get (ci := 12) (v := .ref w0) (C := RX12) (T := TX12) (N := 60) hx hb hts hw12 hown hK hP 0 rfl rfl 3 (by decide) (hts (.fieldLink RX12 13 "SmokeTuneModel" "row" "[I") (List.mem_cons_of_mem _ (List.mem_append_left _ (List.mem_append_left _ (List.mem_of_getElem? (i := 0) rfl))))) (fun _ h9 => h9) rfl dX12_layHour_136 ?_
                  refine lv_iconst (v := 3) hx hb dX12_layHour_139 (by decide) ?_
                  refine va_iald hx hb hK hP 1 0 rfl rfl (i_in (x := 3) rfl (by omega)) dX12_layHour_140 ?_
                  refine lv_topi (fun x_26808 ex_26808 => ?_)
                  have px_26808 := RowOK.at hf_26746_0 (show (3 : Int32).toInt = 3 from rfl) (show 0 ≤ 3 ∧ 3 < 100 by omega)
                  rw [← ex_26808] at px_26808
                  have hx_26808 := PR.r_3 px_26808 (by omega)
                  refine lv_iload_n hx hb dX12_layHour_141 rfl (lv_at hl 5 rfl) ?_
                  refine kci (S := Su) (wr := [(i3, .inl (K 1, 819, .inl f_26805)), (tf, .inl (K 0, 819, .inl f_26305))]) (va_runV (As := [.int x_26808, .int x]) (rest := [.int x_26807, .int x_26803, .ref tf]) ⟨hx, hb, hml, hown, hts⟩ (v_burnsOf l D K m0 x_26808 x m_0 m_1 m_2 w0 m_4 m_5 m_6 m_7 m_8 m_9 m_10 m_11 m_12 m_13 m_14 m_15 m_16 m_17 m_18 m_19 m_21 m_22 m_23 m_24 m_25 m_26 m_27 m_28 m_29 m_30 m_31 m_32 m_33 v_26742 e0 m_36 q0 v_26743 v_26744 v_26745 m_41 m_42 (.ref tf) (.ref i3) m_45 m_46 m_47 m_48 m_49 m_50 m_51 m_52 m_53 m_54 m_55 m_56 m_57 m_58 m_59 f_26746 f_26747 f_26748 H.size (by first | omega | decide) (by first | omega | decide) (by first | omega | decide) hf_26746_0) (cwV 2 hts gX12_layHour_X12_burnsOf rfl rfl rfl (by decide +kernel) ⟨Nat.le_of_ble_eq_true rfl, Nat.le_of_ble_eq_true rfl⟩) (mkV hK hN (hP.sub [0, 1, 2, 3] rfl) (hD.sub [0, 1, 2, 3] (by decide) rfl) (ci := 12) (q0 := 0) rfl rfl) rfl rfl hl.1 rfl (lv_room (Nat.le_of_ble_eq_true rfl)) dX12_layHour_142 ⟨Nat.le_of_ble_eq_true rfl, Nat.le_of_ble_eq_true rfl⟩) hP hD hS hA [0, 1, 2, 3] [4, 5] rfl rfl (by decide) (by decide) (fun r_26809 u_26810 H locs hw hP hD hS => ?_)
                  have hP : va_P D vwCl [(i3, .inl (K 1, 819, .inl f_26805)), (tf, .inl (K 0, 819, .inl f_26305)), (m0, .inr (12, [m_0, m_1, m_2, .ref w0, m_4, m_5, m_6, m_7, m_8, m_9, m_10, m_11, m_12, m_13, m_14, m_15, m_16, m_17, m_18, m_19, .int 0, m_21, m_22, m_23, m_24, m_25, m_26, m_27, m_28, m_29, m_30, m_31, m_32, m_33, .int (u_26810.2.2.2.1 0), .ref e0, m_36, .ref q0, .int (u_26810.2.2.2.1 1), .long (u_26810.2.2.2.2.1 0), .long (u_26810.2.2.2.2.1 1), m_41, m_42, .ref tf, .ref i3, m_45, m_46, m_47, m_48, m_49, m_50, m_51, m_52, m_53, m_54, m_55, m_56, m_57, m_58, m_59])), (w0, .inl (K 0, 5500, .inl f_26746)), (e0, .inl (K 2, 13, .inr (.inl (u_26810.2.2.1 0)))), (q0, .inl (K 2, 400, .inr (.inl (u_26810.2.2.1 1))))] H := hP
                  have hD : va_D A [(i3, .inl (K 1, 819, .inl f_26805)), (tf, .inl (K 0, 819, .inl f_26305)), (m0, .inr (12, [m_0, m_1, m_2, .ref w0, m_4, m_5, m_6, m_7, m_8, m_9, m_10, m_11, m_12, m_13, m_14, m_15, m_16, m_17, m_18, m_19, .int 0, m_21, m_22, m_23, m_24, m_25, m_26, m_27, m_28, m_29, m_30, m_31, m_32, m_33, .int (u_26810.2.2.2.1 0), .ref e0, m_36, .ref q0, .int (u_26810.2.2.2.1 1), .long (u_26810.2.2.2.2.1 0), .long (u_26810.2.2.2.2.1 1), m_41, m_42, .ref tf, .ref i3, m_45, m_46, m_47, m_48, m_49, m_50, m_51, m_52, m_53, m_54, m_55, m_56, m_57, m_58, m_59])), (w0, .inl (K 0, 5500, .inl f_26746)), (e0, .inl (K 2, 13, .inr (.inl (u_26810.2.2.1 0)))), (q0, .inl (K 2, 400, .inr (.inl (u_26810.2.2.1 1))))] := hD
                  obtain ⟨h_26812, k_26811, -⟩ := hw
                  refine lv_isub hx hb dX12_layHour_145 ?_
                  refine lv_topi (fun x_26813 ex_26813 => ?_)
                  have hx_26813 : x_26813.toInt = (x_26807.toInt - r_26809.toInt) := by rw [ex_26813]; exact i_sub rfl rfl (by omega)
                  refine lv_i2l hx hb dX12_layHour_146 rfl ?_
                  refine lv_topl (fun x_26814 ex_26814 => ?_)
                  have hx_26814 : x_26814.toInt = (x_26807.toInt - r_26809.toInt) := by rw [ex_26814]; exact i_wide hx_26813
                  refine lv_iconst (v := 0) hx hb dX12_layHour_147 (by decide) ?_
                  refine lv_bipush (v := 20) hx hb dX12_layHour_148 (by decide) ?_
                  refine pci (va_runS (As := [.long x_26814, .int 0, .int 20]) (rest := [.int x_26803, .ref tf]) ⟨hx, hb, hml, hown, hts⟩ (v_within_20 l D K x_26814 H.size) (va_cwS 3 hts gX12_layHour_X12_within rfl rfl rfl (by decide +kernel) ⟨Nat.le_of_ble_eq_true rfl, Nat.le_of_ble_eq_true rfl⟩) (mkS hK hN (va_P.nil) (va_D.nil (A := fun _ => True))) rfl rfl hl.1 rfl (lv_room (Nat.le_of_ble_eq_true rfl)) dX12_layHour_150 ⟨Nat.le_of_ble_eq_true rfl, Nat.le_of_ble_eq_true rfl⟩) (fun r_26815 hw => ?_)
                  obtain ⟨h_26816, -⟩ := hw
                  refine va_iast hx hb hK hP hD hS 1 0 rfl rfl (i_in hx_26803 (by omega)) dX12_layHour_153 (fun H locs hP hD hS => ?_)
                  generalize hf_26817 : (upd f_26305 (x_26803 : Int32).toNatClampNeg r_26815) = f_26817 at hP hD
                  have hf_26817_0 : Rg 819 0 20 f_26817 := by rw [← hf_26817]; exact Rg.upd hf_26305_0 rfl (by omega)
                  have hP : va_P D vwCl [(i3, .inl (K 1, 819, .inl f_26805)), (tf, .inl (K 0, 819, .inl f_26817)), (m0, .inr (12, [m_0, m_1, m_2, .ref w0, m_4, m_5, m_6, m_7, m_8, m_9, m_10, m_11, m_12, m_13, m_14, m_15, m_16, m_17, m_18, m_19, .int 0, m_21, m_22, m_23, m_24, m_25, m_26, m_27, m_28, m_29, m_30, m_31, m_32, m_33, .int (u_26810.2.2.2.1 0), .ref e0, m_36, .ref q0, .int (u_26810.2.2.2.1 1), .long (u_26810.2.2.2.2.1 0), .long (u_26810.2.2.2.2.1 1), m_41, m_42, .ref tf, .ref i3, m_45, m_46, m_47, m_48, m_49, m_50, m_51, m_52, m_53, m_54, m_55, m_56, m_57, m_58, m_59])), (w0, .inl (K 0, 5500, .inl f_26746)), (e0, .inl (K 2, 13, .inr (.inl (u_26810.2.2.1 0)))), (q0, .inl (K 2, 400, .inr (.inl (u_26810.2.2.1 1))))] H := hP
                  have hD : va_D A [(i3, .inl (K 1, 819, .inl f_26805)), (tf, .inl (K 0, 819, .inl f_26817)), (m0, .inr (12, [m_0, m_1, m_2, .ref w0, m_4, m_5, m_6, m_7, m_8, m_9, m_10, m_11, m_12, m_13, m_14, m_15, m_16, m_17, m_18, m_19, .int 0, m_21, m_22, m_23, m_24, m_25, m_26, m_27, m_28, m_29, m_30, m_31, m_32, m_33, .int (u_26810.2.2.2.1 0), .ref e0, m_36, .ref q0, .int (u_26810.2.2.2.1 1), .long (u_26810.2.2.2.2.1 0), .long (u_26810.2.2.2.2.1 1), m_41, m_42, .ref tf, .ref i3, m_45, m_46, m_47, m_48, m_49, m_50, m_51, m_52, m_53, m_54, m_55, m_56, m_57, m_58, m_59])), (w0, .inl (K 0, 5500, .inl f_26746)), (e0, .inl (K 2, 13, .inr (.inl (u_26810.2.2.1 0)))), (q0, .inl (K 2, 400, .inr (.inl (u_26810.2.2.1 1))))] := hD
                  obtain ⟨x_26818, ex_26818⟩ : ∃ y : Int32, y = v_26295 + Int32.ofInt 1 := ⟨_, rfl⟩
                  have hx_26818 : x_26818.toInt = (v_26295.toInt + 1) := by rw [ex_26818]; exact i_add rfl (show (Int32.ofInt 1).toInt = 1 from rfl) (by omega)
                  refine lv_iinc (v := x_26818) (lv' := [(6, .int x_26818), (7, .int x_26803), (5, .int v_26741), (4, .int v_23046), (0, .ref m0), (1, .int x), (2, .int y), (3, .int z)]) hx hb dX12_layHour_154 hl (k := 2) rfl (by rw [ex_26818]) (by decide) rfl (fun ls hl => ?_)
                  refine lv_goto (tgt := 27) hx hb dX12_layHour_157 (by decide) ?_
                  exact ih_26696 x_26818 v_26741 (u_26810.2.2.2.1 0) (u_26810.2.2.2.1 1) (u_26810.2.2.2.2.1 0) (u_26810.2.2.2.2.1 1) f_26746 (u_26810.2.2.1 0) (u_26810.2.2.1 1) f_26805 f_26817 (by rw [hx_26818]; omega) (by omega) (by omega) hf_26746_0 hf_26817_0 (by omega) _ _ (hP.sub [2, 3, 4, 5, 0, 1] rfl) (hD.sub [2, 3, 4, 5, 0, 1] (by decide) rfl) hS ls (lv_sub hl [0, 2, 3, 4, 5, 6, 7] rfl)
                · have c_26804i := i_ne (x := v_26741.toInt) (y := 0) rfl rfl c_26804
                  refine lv_aload_n hx hb dX12_layHour_104 rfl (lv_at hl 4 rfl) ?_
                  refine lv_iload_n hx hb dX12_layHour_105 rfl (lv_at hl 5 rfl) ?_
                  refine pci (va_runV (As := [.int x]) (rest := [.int x_26803, .ref i3]) ⟨hx, hb, hml, hown, hts⟩ (v_isSounding l D K m0 x m_0 m_1 m_2 w0 m_4 m_5 m_6 m_7 m_8 m_9 m_10 m_11 m_12 m_13 m_14 m_15 m_16 m_17 m_18 m_19 (.int 0) m_21 m_22 m_23 m_24 m_25 m_26 m_27 m_28 m_29 m_30 m_31 m_32 m_33 (.int v_26742) (.ref e0) m_36 (.ref q0) (.int v_26743) (.long v_26744) (.long v_26745) m_41 m_42 (.ref tf) (.ref i3) m_45 m_46 m_47 m_48 m_49 m_50 m_51 m_52 m_53 m_54 m_55 m_56 m_57 m_58 m_59 f_26746 H.size (by first | omega | decide) hf_26746_0) (cwV 1 hts gX12_layHour_X12_isSounding rfl rfl rfl (by decide +kernel) ⟨Nat.le_of_ble_eq_true rfl, Nat.le_of_ble_eq_true rfl⟩) (mkV hK hN (hP.sub [0, 1] rfl) (hD.sub [0, 1] (by decide) rfl) (ci := 12) (q0 := 0) rfl rfl) rfl rfl hl.1 rfl (lv_room (Nat.le_of_ble_eq_true rfl)) dX12_layHour_106 ⟨Nat.le_of_ble_eq_true rfl, Nat.le_of_ble_eq_true rfl⟩) (fun r_26819 hw => ?_)
                  obtain ⟨h_26820, -⟩ := hw
                  refine lv_iload_n hx hb dX12_layHour_109 rfl (lv_at hl 7 rfl) ?_
                  refine lv_icmp_ne (tgt := 117) hx hb dX12_layHour_110 (by decide) (fun c_26821 => ?_) (fun c_26821 => ?_)
                  · have c_26821i := i_ne (x := r_26819.toInt) (y := z.toInt) rfl rfl c_26821
                    refine lv_iconst (v := 0) hx hb dX12_layHour_117 (by decide) ?_
                    refine va_zast hx hb hK hP hD hS 4 1 rfl rfl (i_in hx_26803 (by omega)) dX12_layHour_118 (fun H locs hP hD hS => ?_)
                    generalize hf_26822 : (upd f_26304 (x_26803 : Int32).toNatClampNeg (vp_nar .boolean 0)) = f_26822 at hP hD
                    have hP : va_P D vwCl [(m0, .inr (12, [m_0, m_1, m_2, .ref w0, m_4, m_5, m_6, m_7, m_8, m_9, m_10, m_11, m_12, m_13, m_14, m_15, m_16, m_17, m_18, m_19, .int 0, m_21, m_22, m_23, m_24, m_25, m_26, m_27, m_28, m_29, m_30, m_31, m_32, m_33, .int v_26742, .ref e0, m_36, .ref q0, .int v_26743, .long v_26744, .long v_26745, m_41, m_42, .ref tf, .ref i3, m_45, m_46, m_47, m_48, m_49, m_50, m_51, m_52, m_53, m_54, m_55, m_56, m_57, m_58, m_59])), (w0, .inl (K 0, 5500, .inl f_26746)), (e0, .inl (K 2, 13, .inr (.inl f_26747))), (q0, .inl (K 2, 400, .inr (.inl f_26748))), (i3, .inl (K 1, 819, .inl f_26822)), (tf, .inl (K 0, 819, .inl f_26305))] H := hP
                    have hD : va_D A [(m0, .inr (12, [m_0, m_1, m_2, .ref w0, m_4, m_5, m_6, m_7, m_8, m_9, m_10, m_11, m_12, m_13, m_14, m_15, m_16, m_17, m_18, m_19, .int 0, m_21, m_22, m_23, m_24, m_25, m_26, m_27, m_28, m_29, m_30, m_31, m_32, m_33, .int v_26742, .ref e0, m_36, .ref q0, .int v_26743, .long v_26744, .long v_26745, m_41, m_42, .ref tf, .ref i3, m_45, m_46, m_47, m_48, m_49, m_50, m_51, m_52, m_53, m_54, m_55, m_56, m_57, m_58, m_59])), (w0, .inl (K 0, 5500, .inl f_26746)), (e0, .inl (K 2, 13, .inr (.inl f_26747))), (q0, .inl (K 2, 400, .inr (.inl f_26748))), (i3, .inl (K 1, 819, .inl f_26822)), (tf, .inl (K 0, 819, .inl f_26305))] := hD
                    refine lv_aload_n hx hb dX12_layHour_119 rfl (lv_at hl 4 rfl) ?_
                    refine va_get (ci := 12) (v := .ref tf) (C := RX12) (T := TX12) (N := 60) hx hb hts hw12 hown hK hP 0 rfl rfl 43 (by decide) (hts (.fieldLink RX12 114 "SmokeTuneModel" "thenFire" "[I") (List.mem_cons_of_mem _ (List.mem_append_left _ (List.mem_append_left _ (List.mem_of_getElem? (i := 2) rfl))))) (fun _ h9 => h9) rfl dX12_layHour_120 ?_
                    refine lv_iload hx hb dX12_layHour_123 (lv_at hl 0 rfl) ?_
                    refine lv_aload_n hx hb dX12_layHour_125 rfl (lv_at hl 4 rfl) ?_
                    refine va_get (ci := 12) (v := .ref w0) (C := RX12) (T := TX12) (N := 60) hx hb hts hw12 hown hK hP 0 rfl rfl 3 (by decide) (hts (.fieldLink RX12 13 "SmokeTuneModel" "row" "[I") (List.mem_cons_of_mem _ (List.mem_append_left _ (List.mem_append_left _ (List.mem_of_getElem? (i := 0) rfl))))) (fun _ h9 => h9) rfl dX12_layHour_126 ?_
                    refine lv_bipush (v := 11) hx hb dX12_layHour_129 (by decide) ?_
                    refine lv_iload_n hx hb dX12_layHour_131 rfl (lv_at hl 5 rfl) ?_
                    refine lv_iadd hx hb dX12_layHour_132 ?_
                    refine lv_topi (fun x_26823 ex_26823 => ?_)
                    have hx_26823 : x_26823.toInt = (11 + x.toInt) := by rw [ex_26823]; exact i_add (show (11 : Int32).toInt = 11 from rfl) rfl (by omega)
                    refine va_iald hx hb hK hP 1 0 rfl rfl (i_in hx_26823 (by omega)) dX12_layHour_133 ?_
                    refine lv_topi (fun x_26824 ex_26824 => ?_)
                    have px_26824 := RowOK.at hf_26746_0 hx_26823 (show 0 ≤ (11 + x.toInt) ∧ (11 + x.toInt) < 100 by omega)
                    rw [← ex_26824] at px_26824
                    have hx_26824 := PR.r_11 px_26824 (by omega)
                    refine lv_aload_n hx hb dX12_layHour_134 rfl (lv_at hl 4 rfl) ?_
                    refine lv_aload_n hx hb dX12_layHour_135 rfl (lv_at hl 4 rfl) ?_
                    refine va_get (ci := 12) (v := .ref w0) (C := RX12) (T := TX12) (N := 60) hx hb hts hw12 hown hK hP 0 rfl rfl 3 (by decide) (hts (.fieldLink RX12 13 "SmokeTuneModel" "row" "[I") (List.mem_cons_of_mem _ (List.mem_append_left _ (List.mem_append_left _ (List.mem_of_getElem? (i := 0) rfl))))) (fun _ h9 => h9) rfl dX12_layHour_136 ?_
                    refine lv_iconst (v := 3) hx hb dX12_layHour_139 (by decide) ?_
                    refine va_iald hx hb hK hP 1 0 rfl rfl (i_in (x := 3) rfl (by omega)) dX12_layHour_140 ?_
                    refine lv_topi (fun x_26825 ex_26825 => ?_)
                    have px_26825 := RowOK.at hf_26746_0 (show (3 : Int32).toInt = 3 from rfl) (show 0 ≤ 3 ∧ 3 < 100 by omega)
                    rw [← ex_26825] at px_26825
                    have hx_26825 := PR.r_3 px_26825 (by omega)
                    refine lv_iload_n hx hb dX12_layHour_141 rfl (lv_at hl 5 rfl) ?_
                    refine kci (S := Su) (wr := [(i3, .inl (K 1, 819, .inl f_26822)), (tf, .inl (K 0, 819, .inl f_26305))]) (va_runV (As := [.int x_26825, .int x]) (rest := [.int x_26824, .int x_26803, .ref tf]) ⟨hx, hb, hml, hown, hts⟩ (v_burnsOf l D K m0 x_26825 x m_0 m_1 m_2 w0 m_4 m_5 m_6 m_7 m_8 m_9 m_10 m_11 m_12 m_13 m_14 m_15 m_16 m_17 m_18 m_19 m_21 m_22 m_23 m_24 m_25 m_26 m_27 m_28 m_29 m_30 m_31 m_32 m_33 v_26742 e0 m_36 q0 v_26743 v_26744 v_26745 m_41 m_42 (.ref tf) (.ref i3) m_45 m_46 m_47 m_48 m_49 m_50 m_51 m_52 m_53 m_54 m_55 m_56 m_57 m_58 m_59 f_26746 f_26747 f_26748 H.size (by first | omega | decide) (by first | omega | decide) (by first | omega | decide) hf_26746_0) (cwV 2 hts gX12_layHour_X12_burnsOf rfl rfl rfl (by decide +kernel) ⟨Nat.le_of_ble_eq_true rfl, Nat.le_of_ble_eq_true rfl⟩) (mkV hK hN (hP.sub [0, 1, 2, 3] rfl) (hD.sub [0, 1, 2, 3] (by decide) rfl) (ci := 12) (q0 := 0) rfl rfl) rfl rfl hl.1 rfl (lv_room (Nat.le_of_ble_eq_true rfl)) dX12_layHour_142 ⟨Nat.le_of_ble_eq_true rfl, Nat.le_of_ble_eq_true rfl⟩) hP hD hS hA [0, 1, 2, 3] [4, 5] rfl rfl (by decide) (by decide) (fun r_26826 u_26827 H locs hw hP hD hS => ?_)
                    have hP : va_P D vwCl [(i3, .inl (K 1, 819, .inl f_26822)), (tf, .inl (K 0, 819, .inl f_26305)), (m0, .inr (12, [m_0, m_1, m_2, .ref w0, m_4, m_5, m_6, m_7, m_8, m_9, m_10, m_11, m_12, m_13, m_14, m_15, m_16, m_17, m_18, m_19, .int 0, m_21, m_22, m_23, m_24, m_25, m_26, m_27, m_28, m_29, m_30, m_31, m_32, m_33, .int (u_26827.2.2.2.1 0), .ref e0, m_36, .ref q0, .int (u_26827.2.2.2.1 1), .long (u_26827.2.2.2.2.1 0), .long (u_26827.2.2.2.2.1 1), m_41, m_42, .ref tf, .ref i3, m_45, m_46, m_47, m_48, m_49, m_50, m_51, m_52, m_53, m_54, m_55, m_56, m_57, m_58, m_59])), (w0, .inl (K 0, 5500, .inl f_26746)), (e0, .inl (K 2, 13, .inr (.inl (u_26827.2.2.1 0)))), (q0, .inl (K 2, 400, .inr (.inl (u_26827.2.2.1 1))))] H := hP
                    have hD : va_D A [(i3, .inl (K 1, 819, .inl f_26822)), (tf, .inl (K 0, 819, .inl f_26305)), (m0, .inr (12, [m_0, m_1, m_2, .ref w0, m_4, m_5, m_6, m_7, m_8, m_9, m_10, m_11, m_12, m_13, m_14, m_15, m_16, m_17, m_18, m_19, .int 0, m_21, m_22, m_23, m_24, m_25, m_26, m_27, m_28, m_29, m_30, m_31, m_32, m_33, .int (u_26827.2.2.2.1 0), .ref e0, m_36, .ref q0, .int (u_26827.2.2.2.1 1), .long (u_26827.2.2.2.2.1 0), .long (u_26827.2.2.2.2.1 1), m_41, m_42, .ref tf, .ref i3, m_45, m_46, m_47, m_48, m_49, m_50, m_51, m_52, m_53, m_54, m_55, m_56, m_57, m_58, m_59])), (w0, .inl (K 0, 5500, .inl f_26746)), (e0, .inl (K 2, 13, .inr (.inl (u_26827.2.2.1 0)))), (q0, .inl (K 2, 400, .inr (.inl (u_26827.2.2.1 1))))] := hD
                    obtain ⟨h_26829, k_26828, -⟩ := hw
                    refine lv_isub hx hb dX12_layHour_145 ?_
                    refine lv_topi (fun x_26830 ex_26830 => ?_)
                    have hx_26830 : x_26830.toInt = (x_26824.toInt - r_26826.toInt) := by rw [ex_26830]; exact i_sub rfl rfl (by omega)
                    refine lv_i2l hx hb dX12_layHour_146 rfl ?_
                    refine lv_topl (fun x_26831 ex_26831 => ?_)
                    have hx_26831 : x_26831.toInt = (x_26824.toInt - r_26826.toInt) := by rw [ex_26831]; exact i_wide hx_26830
                    refine lv_iconst (v := 0) hx hb dX12_layHour_147 (by decide) ?_
                    refine lv_bipush (v := 20) hx hb dX12_layHour_148 (by decide) ?_
                    refine pci (va_runS (As := [.long x_26831, .int 0, .int 20]) (rest := [.int x_26803, .ref tf]) ⟨hx, hb, hml, hown, hts⟩ (v_within_20 l D K x_26831 H.size) (va_cwS 3 hts gX12_layHour_X12_within rfl rfl rfl (by decide +kernel) ⟨Nat.le_of_ble_eq_true rfl, Nat.le_of_ble_eq_true rfl⟩) (mkS hK hN (va_P.nil) (va_D.nil (A := fun _ => True))) rfl rfl hl.1 rfl (lv_room (Nat.le_of_ble_eq_true rfl)) dX12_layHour_150 ⟨Nat.le_of_ble_eq_true rfl, Nat.le_of_ble_eq_true rfl⟩) (fun r_26832 hw => ?_)
                    obtain ⟨h_26833, -⟩ := hw
                    refine va_iast hx hb hK hP hD hS 1 0 rfl rfl (i_in hx_26803 (by omega)) dX12_layHour_153 (fun H locs hP hD hS => ?_)
                    generalize hf_26834 : (upd f_26305 (x_26803 : Int32).toNatClampNeg r_26832) = f_26834 at hP hD
                    have hf_26834_0 : Rg 819 0 20 f_26834 := by rw [← hf_26834]; exact Rg.upd hf_26305_0 rfl (by omega)
                    have hP : va_P D vwCl [(i3, .inl (K 1, 819, .inl f_26822)), (tf, .inl (K 0, 819, .inl f_26834)), (m0, .inr (12, [m_0, m_1, m_2, .ref w0, m_4, m_5, m_6, m_7, m_8, m_9, m_10, m_11, m_12, m_13, m_14, m_15, m_16, m_17, m_18, m_19, .int 0, m_21, m_22, m_23, m_24, m_25, m_26, m_27, m_28, m_29, m_30, m_31, m_32, m_33, .int (u_26827.2.2.2.1 0), .ref e0, m_36, .ref q0, .int (u_26827.2.2.2.1 1), .long (u_26827.2.2.2.2.1 0), .long (u_26827.2.2.2.2.1 1), m_41, m_42, .ref tf, .ref i3, m_45, m_46, m_47, m_48, m_49, m_50, m_51, m_52, m_53, m_54, m_55, m_56, m_57, m_58, m_59])), (w0, .inl (K 0, 5500, .inl f_26746)), (e0, .inl (K 2, 13, .inr (.inl (u_26827.2.2.1 0)))), (q0, .inl (K 2, 400, .inr (.inl (u_26827.2.2.1 1))))] H := hP
                    have hD : va_D A [(i3, .inl (K 1, 819, .inl f_26822)), (tf, .inl (K 0, 819, .inl f_26834)), (m0, .inr (12, [m_0, m_1, m_2, .ref w0, m_4, m_5, m_6, m_7, m_8, m_9, m_10, m_11, m_12, m_13, m_14, m_15, m_16, m_17, m_18, m_19, .int 0, m_21, m_22, m_23, m_24, m_25, m_26, m_27, m_28, m_29, m_30, m_31, m_32, m_33, .int (u_26827.2.2.2.1 0), .ref e0, m_36, .ref q0, .int (u_26827.2.2.2.1 1), .long (u_26827.2.2.2.2.1 0), .long (u_26827.2.2.2.2.1 1), m_41, m_42, .ref tf, .ref i3, m_45, m_46, m_47, m_48, m_49, m_50, m_51, m_52, m_53, m_54, m_55, m_56, m_57, m_58, m_59])), (w0, .inl (K 0, 5500, .inl f_26746)), (e0, .inl (K 2, 13, .inr (.inl (u_26827.2.2.1 0)))), (q0, .inl (K 2, 400, .inr (.inl (u_26827.2.2.1 1))))] := hD
                    obtain ⟨x_26835, ex_26835⟩ : ∃ y : Int32, y = v_26295 + Int32.ofInt 1 := ⟨_, rfl⟩
                    have hx_26835 : x_26835.toInt = (v_26295.toInt + 1) := by rw [ex_26835]; exact i_add rfl (show (Int32.ofInt 1).toInt = 1 from rfl) (by omega)
                    refine lv_iinc (v := x_26835) (lv' := [(6, .int x_26835), (7, .int x_26803), (5, .int v_26741), (4, .int v_23046), (0, .ref m0), (1, .int x), (2, .int y), (3, .int z)]) hx hb dX12_layHour_154 hl (k := 2) rfl (by rw [ex_26835]) (by decide) rfl (fun ls hl => ?_)
                    refine lv_goto (tgt := 27) hx hb dX12_layHour_157 (by decide) ?_
                    exact ih_26696 x_26835 v_26741 (u_26827.2.2.2.1 0) (u_26827.2.2.2.1 1) (u_26827.2.2.2.2.1 0) (u_26827.2.2.2.2.1 1) f_26746 (u_26827.2.2.1 0) (u_26827.2.2.1 1) f_26822 f_26834 (by rw [hx_26835]; omega) (by omega) (by omega) hf_26746_0 hf_26834_0 (by omega) _ _ (hP.sub [2, 3, 4, 5, 0, 1] rfl) (hD.sub [2, 3, 4, 5, 0, 1] (by decide) rfl) hS ls (lv_sub hl [0, 2, 3, 4, 5, 6, 7] rfl)
                  · have c_26821i := i_eq (x := r_26819.toInt) (y := z.toInt) rfl rfl c_26821
                    refine lv_iconst (v := 1) hx hb dX12_layHour_113 (by decide) ?_
                    refine lv_goto (tgt := 118) hx hb dX12_layHour_114 (by decide) ?_
                    refine va_zast hx hb hK hP hD hS 4 1 rfl rfl (i_in hx_26803 (by omega)) dX12_layHour_118 (fun H locs hP hD hS => ?_)
                    generalize hf_26836 : (upd f_26304 (x_26803 : Int32).toNatClampNeg (vp_nar .boolean 1)) = f_26836 at hP hD
                    have hP : va_P D vwCl [(m0, .inr (12, [m_0, m_1, m_2, .ref w0, m_4, m_5, m_6, m_7, m_8, m_9, m_10, m_11, m_12, m_13, m_14, m_15, m_16, m_17, m_18, m_19, .int 0, m_21, m_22, m_23, m_24, m_25, m_26, m_27, m_28, m_29, m_30, m_31, m_32, m_33, .int v_26742, .ref e0, m_36, .ref q0, .int v_26743, .long v_26744, .long v_26745, m_41, m_42, .ref tf, .ref i3, m_45, m_46, m_47, m_48, m_49, m_50, m_51, m_52, m_53, m_54, m_55, m_56, m_57, m_58, m_59])), (w0, .inl (K 0, 5500, .inl f_26746)), (e0, .inl (K 2, 13, .inr (.inl f_26747))), (q0, .inl (K 2, 400, .inr (.inl f_26748))), (i3, .inl (K 1, 819, .inl f_26836)), (tf, .inl (K 0, 819, .inl f_26305))] H := hP
                    have hD : va_D A [(m0, .inr (12, [m_0, m_1, m_2, .ref w0, m_4, m_5, m_6, m_7, m_8, m_9, m_10, m_11, m_12, m_13, m_14, m_15, m_16, m_17, m_18, m_19, .int 0, m_21, m_22, m_23, m_24, m_25, m_26, m_27, m_28, m_29, m_30, m_31, m_32, m_33, .int v_26742, .ref e0, m_36, .ref q0, .int v_26743, .long v_26744, .long v_26745, m_41, m_42, .ref tf, .ref i3, m_45, m_46, m_47, m_48, m_49, m_50, m_51, m_52, m_53, m_54, m_55, m_56, m_57, m_58, m_59])), (w0, .inl (K 0, 5500, .inl f_26746)), (e0, .inl (K 2, 13, .inr (.inl f_26747))), (q0, .inl (K 2, 400, .inr (.inl f_26748))), (i3, .inl (K 1, 819, .inl f_26836)), (tf, .inl (K 0, 819, .inl f_26305))] := hD
                    refine lv_aload_n hx hb dX12_layHour_119 rfl (lv_at hl 4 rfl) ?_
                    refine va_get (ci := 12) (v := .ref tf) (C := RX12) (T := TX12) (N := 60) hx hb hts hw12 hown hK hP 0 rfl rfl 43 (by decide) (hts (.fieldLink RX12 114 "SmokeTuneModel" "thenFire" "[I") (List.mem_cons_of_mem _ (List.mem_append_left _ (List.mem_append_left _ (List.mem_of_getElem? (i := 2) rfl))))) (fun _ h9 => h9) rfl dX12_layHour_120 ?_
                    refine lv_iload hx hb dX12_layHour_123 (lv_at hl 0 rfl) ?_
                    refine lv_aload_n hx hb dX12_layHour_125 rfl (lv_at hl 4 rfl) ?_
                    refine va_get (ci := 12) (v := .ref w0) (C := RX12) (T := TX12) (N := 60) hx hb hts hw12 hown hK hP 0 rfl rfl 3 (by decide) (hts (.fieldLink RX12 13 "SmokeTuneModel" "row" "[I") (List.mem_cons_of_mem _ (List.mem_append_left _ (List.mem_append_left _ (List.mem_of_getElem? (i := 0) rfl))))) (fun _ h9 => h9) rfl dX12_layHour_126 ?_
                    refine lv_bipush (v := 11) hx hb dX12_layHour_129 (by decide) ?_
                    refine lv_iload_n hx hb dX12_layHour_131 rfl (lv_at hl 5 rfl) ?_
                    refine lv_iadd hx hb dX12_layHour_132 ?_
                    refine lv_topi (fun x_26837 ex_26837 => ?_)
                    have hx_26837 : x_26837.toInt = (11 + x.toInt) := by rw [ex_26837]; exact i_add (show (11 : Int32).toInt = 11 from rfl) rfl (by omega)
                    refine va_iald hx hb hK hP 1 0 rfl rfl (i_in hx_26837 (by omega)) dX12_layHour_133 ?_
                    refine lv_topi (fun x_26838 ex_26838 => ?_)
                    have px_26838 := RowOK.at hf_26746_0 hx_26837 (show 0 ≤ (11 + x.toInt) ∧ (11 + x.toInt) < 100 by omega)
                    rw [← ex_26838] at px_26838
                    have hx_26838 := PR.r_11 px_26838 (by omega)
                    refine lv_aload_n hx hb dX12_layHour_134 rfl (lv_at hl 4 rfl) ?_
                    refine lv_aload_n hx hb dX12_layHour_135 rfl (lv_at hl 4 rfl) ?_
                    refine va_get (ci := 12) (v := .ref w0) (C := RX12) (T := TX12) (N := 60) hx hb hts hw12 hown hK hP 0 rfl rfl 3 (by decide) (hts (.fieldLink RX12 13 "SmokeTuneModel" "row" "[I") (List.mem_cons_of_mem _ (List.mem_append_left _ (List.mem_append_left _ (List.mem_of_getElem? (i := 0) rfl))))) (fun _ h9 => h9) rfl dX12_layHour_136 ?_
                    refine lv_iconst (v := 3) hx hb dX12_layHour_139 (by decide) ?_
                    refine va_iald hx hb hK hP 1 0 rfl rfl (i_in (x := 3) rfl (by omega)) dX12_layHour_140 ?_
                    refine lv_topi (fun x_26839 ex_26839 => ?_)
                    have px_26839 := RowOK.at hf_26746_0 (show (3 : Int32).toInt = 3 from rfl) (show 0 ≤ 3 ∧ 3 < 100 by omega)
                    rw [← ex_26839] at px_26839
                    have hx_26839 := PR.r_3 px_26839 (by omega)
                    refine lv_iload_n hx hb dX12_layHour_141 rfl (lv_at hl 5 rfl) ?_
                    refine kci (S := Su) (wr := [(i3, .inl (K 1, 819, .inl f_26836)), (tf, .inl (K 0, 819, .inl f_26305))]) (va_runV (As := [.int x_26839, .int x]) (rest := [.int x_26838, .int x_26803, .ref tf]) ⟨hx, hb, hml, hown, hts⟩ (v_burnsOf l D K m0 x_26839 x m_0 m_1 m_2 w0 m_4 m_5 m_6 m_7 m_8 m_9 m_10 m_11 m_12 m_13 m_14 m_15 m_16 m_17 m_18 m_19 m_21 m_22 m_23 m_24 m_25 m_26 m_27 m_28 m_29 m_30 m_31 m_32 m_33 v_26742 e0 m_36 q0 v_26743 v_26744 v_26745 m_41 m_42 (.ref tf) (.ref i3) m_45 m_46 m_47 m_48 m_49 m_50 m_51 m_52 m_53 m_54 m_55 m_56 m_57 m_58 m_59 f_26746 f_26747 f_26748 H.size (by first | omega | decide) (by first | omega | decide) (by first | omega | decide) hf_26746_0) (cwV 2 hts gX12_layHour_X12_burnsOf rfl rfl rfl (by decide +kernel) ⟨Nat.le_of_ble_eq_true rfl, Nat.le_of_ble_eq_true rfl⟩) (mkV hK hN (hP.sub [0, 1, 2, 3] rfl) (hD.sub [0, 1, 2, 3] (by decide) rfl) (ci := 12) (q0 := 0) rfl rfl) rfl rfl hl.1 rfl (lv_room (Nat.le_of_ble_eq_true rfl)) dX12_layHour_142 ⟨Nat.le_of_ble_eq_true rfl, Nat.le_of_ble_eq_true rfl⟩) hP hD hS hA [0, 1, 2, 3] [4, 5] rfl rfl (by decide) (by decide) (fun r_26840 u_26841 H locs hw hP hD hS => ?_)
                    have hP : va_P D vwCl [(i3, .inl (K 1, 819, .inl f_26836)), (tf, .inl (K 0, 819, .inl f_26305)), (m0, .inr (12, [m_0, m_1, m_2, .ref w0, m_4, m_5, m_6, m_7, m_8, m_9, m_10, m_11, m_12, m_13, m_14, m_15, m_16, m_17, m_18, m_19, .int 0, m_21, m_22, m_23, m_24, m_25, m_26, m_27, m_28, m_29, m_30, m_31, m_32, m_33, .int (u_26841.2.2.2.1 0), .ref e0, m_36, .ref q0, .int (u_26841.2.2.2.1 1), .long (u_26841.2.2.2.2.1 0), .long (u_26841.2.2.2.2.1 1), m_41, m_42, .ref tf, .ref i3, m_45, m_46, m_47, m_48, m_49, m_50, m_51, m_52, m_53, m_54, m_55, m_56, m_57, m_58, m_59])), (w0, .inl (K 0, 5500, .inl f_26746)), (e0, .inl (K 2, 13, .inr (.inl (u_26841.2.2.1 0)))), (q0, .inl (K 2, 400, .inr (.inl (u_26841.2.2.1 1))))] H := hP
                    have hD : va_D A [(i3, .inl (K 1, 819, .inl f_26836)), (tf, .inl (K 0, 819, .inl f_26305)), (m0, .inr (12, [m_0, m_1, m_2, .ref w0, m_4, m_5, m_6, m_7, m_8, m_9, m_10, m_11, m_12, m_13, m_14, m_15, m_16, m_17, m_18, m_19, .int 0, m_21, m_22, m_23, m_24, m_25, m_26, m_27, m_28, m_29, m_30, m_31, m_32, m_33, .int (u_26841.2.2.2.1 0), .ref e0, m_36, .ref q0, .int (u_26841.2.2.2.1 1), .long (u_26841.2.2.2.2.1 0), .long (u_26841.2.2.2.2.1 1), m_41, m_42, .ref tf, .ref i3, m_45, m_46, m_47, m_48, m_49, m_50, m_51, m_52, m_53, m_54, m_55, m_56, m_57, m_58, m_59])), (w0, .inl (K 0, 5500, .inl f_26746)), (e0, .inl (K 2, 13, .inr (.inl (u_26841.2.2.1 0)))), (q0, .inl (K 2, 400, .inr (.inl (u_26841.2.2.1 1))))] := hD
                    obtain ⟨h_26843, k_26842, -⟩ := hw
                    refine lv_isub hx hb dX12_layHour_145 ?_
                    refine lv_topi (fun x_26844 ex_26844 => ?_)
                    have hx_26844 : x_26844.toInt = (x_26838.toInt - r_26840.toInt) := by rw [ex_26844]; exact i_sub rfl rfl (by omega)
                    refine lv_i2l hx hb dX12_layHour_146 rfl ?_
                    refine lv_topl (fun x_26845 ex_26845 => ?_)
                    have hx_26845 : x_26845.toInt = (x_26838.toInt - r_26840.toInt) := by rw [ex_26845]; exact i_wide hx_26844
                    refine lv_iconst (v := 0) hx hb dX12_layHour_147 (by decide) ?_
                    refine lv_bipush (v := 20) hx hb dX12_layHour_148 (by decide) ?_
                    refine pci (va_runS (As := [.long x_26845, .int 0, .int 20]) (rest := [.int x_26803, .ref tf]) ⟨hx, hb, hml, hown, hts⟩ (v_within_20 l D K x_26845 H.size) (va_cwS 3 hts gX12_layHour_X12_within rfl rfl rfl (by decide +kernel) ⟨Nat.le_of_ble_eq_true rfl, Nat.le_of_ble_eq_true rfl⟩) (mkS hK hN (va_P.nil) (va_D.nil (A := fun _ => True))) rfl rfl hl.1 rfl (lv_room (Nat.le_of_ble_eq_true rfl)) dX12_layHour_150 ⟨Nat.le_of_ble_eq_true rfl, Nat.le_of_ble_eq_true rfl⟩) (fun r_26846 hw => ?_)
                    obtain ⟨h_26847, -⟩ := hw
                    refine va_iast hx hb hK hP hD hS 1 0 rfl rfl (i_in hx_26803 (by omega)) dX12_layHour_153 (fun H locs hP hD hS => ?_)
                    generalize hf_26848 : (upd f_26305 (x_26803 : Int32).toNatClampNeg r_26846) = f_26848 at hP hD
                    have hf_26848_0 : Rg 819 0 20 f_26848 := by rw [← hf_26848]; exact Rg.upd hf_26305_0 rfl (by omega)
                    have hP : va_P D vwCl [(i3, .inl (K 1, 819, .inl f_26836)), (tf, .inl (K 0, 819, .inl f_26848)), (m0, .inr (12, [m_0, m_1, m_2, .ref w0, m_4, m_5, m_6, m_7, m_8, m_9, m_10, m_11, m_12, m_13, m_14, m_15, m_16, m_17, m_18, m_19, .int 0, m_21, m_22, m_23, m_24, m_25, m_26, m_27, m_28, m_29, m_30, m_31, m_32, m_33, .int (u_26841.2.2.2.1 0), .ref e0, m_36, .ref q0, .int (u_26841.2.2.2.1 1), .long (u_26841.2.2.2.2.1 0), .long (u_26841.2.2.2.2.1 1), m_41, m_42, .ref tf, .ref i3, m_45, m_46, m_47, m_48, m_49, m_50, m_51, m_52, m_53, m_54, m_55, m_56, m_57, m_58, m_59])), (w0, .inl (K 0, 5500, .inl f_26746)), (e0, .inl (K 2, 13, .inr (.inl (u_26841.2.2.1 0)))), (q0, .inl (K 2, 400, .inr (.inl (u_26841.2.2.1 1))))] H := hP
                    have hD : va_D A [(i3, .inl (K 1, 819, .inl f_26836)), (tf, .inl (K 0, 819, .inl f_26848)), (m0, .inr (12, [m_0, m_1, m_2, .ref w0, m_4, m_5, m_6, m_7, m_8, m_9, m_10, m_11, m_12, m_13, m_14, m_15, m_16, m_17, m_18, m_19, .int 0, m_21, m_22, m_23, m_24, m_25, m_26, m_27, m_28, m_29, m_30, m_31, m_32, m_33, .int (u_26841.2.2.2.1 0), .ref e0, m_36, .ref q0, .int (u_26841.2.2.2.1 1), .long (u_26841.2.2.2.2.1 0), .long (u_26841.2.2.2.2.1 1), m_41, m_42, .ref tf, .ref i3, m_45, m_46, m_47, m_48, m_49, m_50, m_51, m_52, m_53, m_54, m_55, m_56, m_57, m_58, m_59])), (w0, .inl (K 0, 5500, .inl f_26746)), (e0, .inl (K 2, 13, .inr (.inl (u_26841.2.2.1 0)))), (q0, .inl (K 2, 400, .inr (.inl (u_26841.2.2.1 1))))] := hD
                    obtain ⟨x_26849, ex_26849⟩ : ∃ y : Int32, y = v_26295 + Int32.ofInt 1 := ⟨_, rfl⟩
                    have hx_26849 : x_26849.toInt = (v_26295.toInt + 1) := by rw [ex_26849]; exact i_add rfl (show (Int32.ofInt 1).toInt = 1 from rfl) (by omega)
                    refine lv_iinc (v := x_26849) (lv' := [(6, .int x_26849), (7, .int x_26803), (5, .int v_26741), (4, .int v_23046), (0, .ref m0), (1, .int x), (2, .int y), (3, .int z)]) hx hb dX12_layHour_154 hl (k := 2) rfl (by rw [ex_26849]) (by decide) rfl (fun ls hl => ?_)
                    refine lv_goto (tgt := 27) hx hb dX12_layHour_157 (by decide) ?_
                    exact ih_26696 x_26849 v_26741 (u_26841.2.2.2.1 0) (u_26841.2.2.2.1 1) (u_26841.2.2.2.2.1 0) (u_26841.2.2.2.2.1 1) f_26746 (u_26841.2.2.1 0) (u_26841.2.2.1 1) f_26836 f_26848 (by rw [hx_26849]; omega) (by omega) (by omega) hf_26746_0 hf_26848_0 (by omega) _ _ (hP.sub [2, 3, 4, 5, 0, 1] rfl) (hD.sub [2, 3, 4, 5, 0, 1] (by decide) rfl) hS ls (lv_sub hl [0, 2, 3, 4, 5, 6, 7] rfl)
              have j_26850 : ∀ (v_26733 : Int32) (v_26734 : Int32) (v_26735 : Int64) (v_26736 : Int64) (f_26737 : Nat → Int64) (f_26738 : Nat → Int64) (hv_26734 : 0 ≤ v_26734.toInt ∧ v_26734.toInt ≤ 1) (H : Heap) (locs : List Loc) (hP : va_P D vwCl [(m0, .inr (12, [m_0, m_1, m_2, .ref w0, m_4, m_5, m_6, m_7, m_8, m_9, m_10, m_11, m_12, m_13, m_14, m_15, m_16, m_17, m_18, m_19, .int 0, m_21, m_22, m_23, m_24, m_25, m_26, m_27, m_28, m_29, m_30, m_31, m_32, m_33, .int v_26733, .ref e0, m_36, .ref q0, .int v_26734, .long v_26735, .long v_26736, m_41, m_42, .ref tf, .ref i3, m_45, m_46, m_47, m_48, m_49, m_50, m_51, m_52, m_53, m_54, m_55, m_56, m_57, m_58, m_59])), (w0, .inl (K 0, 5500, .inl f_26301)), (e0, .inl (K 2, 13, .inr (.inl f_26737))), (q0, .inl (K 2, 400, .inr (.inl f_26738))), (i3, .inl (K 1, 819, .inl f_26304)), (tf, .inl (K 0, 819, .inl f_26305))] H) (hD : va_D A [(m0, .inr (12, [m_0, m_1, m_2, .ref w0, m_4, m_5, m_6, m_7, m_8, m_9, m_10, m_11, m_12, m_13, m_14, m_15, m_16, m_17, m_18, m_19, .int 0, m_21, m_22, m_23, m_24, m_25, m_26, m_27, m_28, m_29, m_30, m_31, m_32, m_33, .int v_26733, .ref e0, m_36, .ref q0, .int v_26734, .long v_26735, .long v_26736, m_41, m_42, .ref tf, .ref i3, m_45, m_46, m_47, m_48, m_49, m_50, m_51, m_52, m_53, m_54, m_55, m_56, m_57, m_58, m_59])), (w0, .inl (K 0, 5500, .inl f_26301)), (e0, .inl (K 2, 13, .inr (.inl f_26737))), (q0, .inl (K 2, 400, .inr (.inl f_26738))), (i3, .inl (K 1, 819, .inl f_26304)), (tf, .inl (K 0, 819, .inl f_26305))]) (hS : va_S A s.heap H locs) (ls : Array Slot) (hl : lv_has ls 8 [(6, .int v_26295), (4, .int v_23046), (0, .ref m0), (1, .int x), (2, .int y), (3, .int z)]), W p l e ({ frames := 6, cells := 0, slots := 0, locals := 146 }) s m (([.ref m0, .int x, .int y, .int z] : List Value).toArray) below meth c H locs 0 0 Q (F0 m 55 ls []) := by
                intro v_26733 v_26734 v_26735 v_26736 f_26737 f_26738 hv_26734 H locs hP hD hS ls hl
                refine lv_iconst (v := 0) hx hb dX12_layHour_55 (by decide) ?_
                refine lv_istore (lv' := [(5, .int 0), (6, .int v_26295), (4, .int v_23046), (0, .ref m0), (1, .int x), (2, .int y), (3, .int z)]) hx hb dX12_layHour_56 hl (by decide) rfl (fun ls hl => ?_)
                refine lv_iload hx hb dX12_layHour_58 (lv_at hl 1 rfl) ?_
                refine lv_if_le (tgt := 79) hx hb dX12_layHour_60 (by decide) (fun c_26851 => ?_) (fun c_26851 => ?_)
                · have c_26851i := i_le (x := v_26295.toInt) (y := 0) rfl rfl c_26851
                  exact j_26799 0 v_26733 v_26734 v_26735 v_26736 f_26301 f_26737 f_26738 (by decide) (by omega) hf_26301_0 _ _ hP hD hS ls (lv_sub hl [0, 1, 2, 3, 4, 5, 6] rfl)
                · have c_26851i := i_nle (x := v_26295.toInt) (y := 0) rfl rfl c_26851
                  refine lv_iload hx hb dX12_layHour_63 (lv_at hl 0 rfl) ?_
                  refine lv_if_eq (tgt := 79) hx hb dX12_layHour_65 (by decide) (fun c_26852 => ?_) (fun c_26852 => absurd (by decide) c_26852)
                  exact j_26799 0 v_26733 v_26734 v_26735 v_26736 f_26301 f_26737 f_26738 (by decide) (by omega) hf_26301_0 _ _ hP hD hS ls (lv_sub hl [0, 1, 2, 3, 4, 5, 6] rfl)
              refine lv_if_eq (tgt := 55) hx hb dX12_layHour_35 (by decide) (fun c_26853 => ?_) (fun c_26853 => ?_)
              · have c_26853i := i_eq (x := v_26296.toInt) (y := 0) rfl rfl c_26853
                exact j_26850 v_26297 v_26298 v_26299 v_26300 f_26302 f_26303 (by omega) _ _ hP hD hS ls (lv_sub hl [0, 2, 3, 4, 5, 6] rfl)
              · have c_26853i := i_ne (x := v_26296.toInt) (y := 0) rfl rfl c_26853
                refine lv_iload hx hb dX12_layHour_38 (lv_at hl 0 rfl) ?_
                have j_26873 : ∀ (v_26860 : Int32) (v_26861 : Int32) (v_26862 : Int64) (v_26863 : Int64) (f_26864 : Nat → Int64) (f_26865 : Nat → Int64) (hv_26861 : 0 ≤ v_26861.toInt ∧ v_26861.toInt ≤ 1) (H : Heap) (locs : List Loc) (hP : va_P D vwCl [(m0, .inr (12, [m_0, m_1, m_2, .ref w0, m_4, m_5, m_6, m_7, m_8, m_9, m_10, m_11, m_12, m_13, m_14, m_15, m_16, m_17, m_18, m_19, .int 0, m_21, m_22, m_23, m_24, m_25, m_26, m_27, m_28, m_29, m_30, m_31, m_32, m_33, .int v_26860, .ref e0, m_36, .ref q0, .int v_26861, .long v_26862, .long v_26863, m_41, m_42, .ref tf, .ref i3, m_45, m_46, m_47, m_48, m_49, m_50, m_51, m_52, m_53, m_54, m_55, m_56, m_57, m_58, m_59])), (w0, .inl (K 0, 5500, .inl f_26301)), (e0, .inl (K 2, 13, .inr (.inl f_26864))), (q0, .inl (K 2, 400, .inr (.inl f_26865))), (i3, .inl (K 1, 819, .inl f_26304)), (tf, .inl (K 0, 819, .inl f_26305))] H) (hD : va_D A [(m0, .inr (12, [m_0, m_1, m_2, .ref w0, m_4, m_5, m_6, m_7, m_8, m_9, m_10, m_11, m_12, m_13, m_14, m_15, m_16, m_17, m_18, m_19, .int 0, m_21, m_22, m_23, m_24, m_25, m_26, m_27, m_28, m_29, m_30, m_31, m_32, m_33, .int v_26860, .ref e0, m_36, .ref q0, .int v_26861, .long v_26862, .long v_26863, m_41, m_42, .ref tf, .ref i3, m_45, m_46, m_47, m_48, m_49, m_50, m_51, m_52, m_53, m_54, m_55, m_56, m_57, m_58, m_59])), (w0, .inl (K 0, 5500, .inl f_26301)), (e0, .inl (K 2, 13, .inr (.inl f_26864))), (q0, .inl (K 2, 400, .inr (.inl f_26865))), (i3, .inl (K 1, 819, .inl f_26304)), (tf, .inl (K 0, 819, .inl f_26305))]) (hS : va_S A s.heap H locs) (ls : Array Slot) (hl : lv_has ls 8 [(6, .int v_26295), (4, .int v_23046), (0, .ref m0), (1, .int x), (2, .int y), (3, .int z)]), W p l e ({ frames := 6, cells := 0, slots := 0, locals := 146 }) s m (([.ref m0, .int x, .int y, .int z] : List Value).toArray) below meth c H locs 0 0 Q (F0 m 51 ls []) := by
                  intro v_26860 v_26861 v_26862 v_26863 f_26864 f_26865 hv_26861 H locs hP hD hS ls hl
                  refine lv_iconst (v := 1) hx hb dX12_layHour_51 (by decide) ?_
                  refine lv_goto (tgt := 56) hx hb dX12_layHour_52 (by decide) ?_
                  refine lv_istore (lv' := [(5, .int 1), (6, .int v_26295), (4, .int v_23046), (0, .ref m0), (1, .int x), (2, .int y), (3, .int z)]) hx hb dX12_layHour_56 hl (by decide) rfl (fun ls hl => ?_)
                  refine lv_iload hx hb dX12_layHour_58 (lv_at hl 1 rfl) ?_
                  refine lv_if_le (tgt := 79) hx hb dX12_layHour_60 (by decide) (fun c_26874 => ?_) (fun c_26874 => ?_)
                  · have c_26874i := i_le (x := v_26295.toInt) (y := 0) rfl rfl c_26874
                    exact j_26799 1 v_26860 v_26861 v_26862 v_26863 f_26301 f_26864 f_26865 (by decide) (by omega) hf_26301_0 _ _ hP hD hS ls (lv_sub hl [0, 1, 2, 3, 4, 5, 6] rfl)
                  · have c_26874i := i_nle (x := v_26295.toInt) (y := 0) rfl rfl c_26874
                    refine lv_iload hx hb dX12_layHour_63 (lv_at hl 0 rfl) ?_
                    refine lv_if_eq (tgt := 79) hx hb dX12_layHour_65 (by decide) (fun c_26875 => absurd c_26875 (by decide)) (fun c_26875 => ?_)
                    refine lv_aload_n hx hb dX12_layHour_68 rfl (lv_at hl 3 rfl) ?_
                    refine lv_aload_n hx hb dX12_layHour_69 rfl (lv_at hl 3 rfl) ?_
                    refine va_get (ci := 12) (v := .ref w0) (C := RX12) (T := TX12) (N := 60) hx hb hts hw12 hown hK hP 0 rfl rfl 3 (by decide) (hts (.fieldLink RX12 13 "SmokeTuneModel" "row" "[I") (List.mem_cons_of_mem _ (List.mem_append_left _ (List.mem_append_left _ (List.mem_of_getElem? (i := 0) rfl))))) (fun _ h9 => h9) rfl dX12_layHour_70 ?_
                    refine lv_iconst (v := 3) hx hb dX12_layHour_73 (by decide) ?_
                    refine va_iald hx hb hK hP 1 0 rfl rfl (i_in (x := 3) rfl (by omega)) dX12_layHour_74 ?_
                    refine lv_topi (fun x_26876 ex_26876 => ?_)
                    have px_26876 := RowOK.at hf_26301_0 (show (3 : Int32).toInt = 3 from rfl) (show 0 ≤ 3 ∧ 3 < 100 by omega)
                    rw [← ex_26876] at px_26876
                    have hx_26876 := PR.r_3 px_26876 (by omega)
                    refine lv_iload_n hx hb dX12_layHour_75 rfl (lv_at hl 4 rfl) ?_
                    refine kcv (S := Su) (wr := [(i3, .inl (K 1, 819, .inl f_26304)), (tf, .inl (K 0, 819, .inl f_26305))]) (va_runV (As := [.int x_26876, .int x]) (rest := []) ⟨hx, hb, hml, hown, hts⟩ (v_flare l D K m0 x_26876 x m_0 m_1 m_2 w0 m_4 m_5 m_6 m_7 m_8 m_9 m_10 m_11 m_12 m_13 m_14 m_15 m_16 m_17 m_18 m_19 m_21 m_22 m_23 m_24 m_25 m_26 m_27 m_28 m_29 m_30 m_31 m_32 m_33 v_26860 e0 m_36 q0 v_26861 v_26862 v_26863 m_41 m_42 (.ref tf) (.ref i3) m_45 m_46 m_47 m_48 m_49 m_50 m_51 m_52 m_53 m_54 m_55 m_56 m_57 m_58 m_59 f_26301 f_26864 f_26865 H.size (by first | omega | decide) (by first | omega | decide) (by first | omega | decide) hf_26301_0) (cwV 2 hts gX12_layHour_X12_flare rfl rfl rfl (by decide +kernel) ⟨Nat.le_of_ble_eq_true rfl, Nat.le_of_ble_eq_true rfl⟩) (mkV hK hN (hP.sub [0, 1, 2, 3] rfl) (hD.sub [0, 1, 2, 3] (by decide) rfl) (ci := 12) (q0 := 0) rfl rfl) rfl rfl hl.1 rfl (lv_room (Nat.le_of_ble_eq_true rfl)) dX12_layHour_76 ⟨Nat.le_of_ble_eq_true rfl, Nat.le_of_ble_eq_true rfl⟩) hP hD hS hA [0, 1, 2, 3] [4, 5] rfl rfl (by decide) (by decide) (fun u_26878 H locs hw hP hD hS => ?_)
                    have hP : va_P D vwCl [(i3, .inl (K 1, 819, .inl f_26304)), (tf, .inl (K 0, 819, .inl f_26305)), (m0, .inr (12, [m_0, m_1, m_2, .ref w0, m_4, m_5, m_6, m_7, m_8, m_9, m_10, m_11, m_12, m_13, m_14, m_15, m_16, m_17, m_18, m_19, .int 0, m_21, m_22, m_23, m_24, m_25, m_26, m_27, m_28, m_29, m_30, m_31, m_32, m_33, .int (u_26878.2.2.2.1 0), .ref e0, m_36, .ref q0, .int (u_26878.2.2.2.1 1), .long (u_26878.2.2.2.2.1 0), .long (u_26878.2.2.2.2.1 1), m_41, m_42, .ref tf, .ref i3, m_45, m_46, m_47, m_48, m_49, m_50, m_51, m_52, m_53, m_54, m_55, m_56, m_57, m_58, m_59])), (w0, .inl (K 0, 5500, .inl (u_26878.2.1 0))), (e0, .inl (K 2, 13, .inr (.inl (u_26878.2.2.1 0)))), (q0, .inl (K 2, 400, .inr (.inl (u_26878.2.2.1 1))))] H := hP
                    have hD : va_D A [(i3, .inl (K 1, 819, .inl f_26304)), (tf, .inl (K 0, 819, .inl f_26305)), (m0, .inr (12, [m_0, m_1, m_2, .ref w0, m_4, m_5, m_6, m_7, m_8, m_9, m_10, m_11, m_12, m_13, m_14, m_15, m_16, m_17, m_18, m_19, .int 0, m_21, m_22, m_23, m_24, m_25, m_26, m_27, m_28, m_29, m_30, m_31, m_32, m_33, .int (u_26878.2.2.2.1 0), .ref e0, m_36, .ref q0, .int (u_26878.2.2.2.1 1), .long (u_26878.2.2.2.2.1 0), .long (u_26878.2.2.2.2.1 1), m_41, m_42, .ref tf, .ref i3, m_45, m_46, m_47, m_48, m_49, m_50, m_51, m_52, m_53, m_54, m_55, m_56, m_57, m_58, m_59])), (w0, .inl (K 0, 5500, .inl (u_26878.2.1 0))), (e0, .inl (K 2, 13, .inr (.inl (u_26878.2.2.1 0)))), (q0, .inl (K 2, 400, .inr (.inl (u_26878.2.2.1 1))))] := hD
                    obtain ⟨k_26879, k_26880, -⟩ := hw
                    exact j_26799 1 (u_26878.2.2.2.1 0) (u_26878.2.2.2.1 1) (u_26878.2.2.2.2.1 0) (u_26878.2.2.2.2.1 1) (u_26878.2.1 0) (u_26878.2.2.1 0) (u_26878.2.2.1 1) (by decide) (by omega) k_26880 _ _ (hP.sub [2, 3, 4, 5, 0, 1] rfl) (hD.sub [2, 3, 4, 5, 0, 1] (by decide) rfl) hS ls (lv_sub hl [0, 1, 2, 3, 4, 5, 6] rfl)
                refine lv_if_eq (tgt := 51) hx hb dX12_layHour_40 (by decide) (fun c_26881 => ?_) (fun c_26881 => ?_)
                · have c_26881i := i_eq (x := v_26295.toInt) (y := 0) rfl rfl c_26881
                  exact j_26873 v_26297 v_26298 v_26299 v_26300 f_26302 f_26303 (by omega) _ _ hP hD hS ls (lv_sub hl [0, 2, 3, 4, 5, 6] rfl)
                · have c_26881i := i_ne (x := v_26295.toInt) (y := 0) rfl rfl c_26881
                  refine lv_aload_n hx hb dX12_layHour_43 rfl (lv_at hl 3 rfl) ?_
                  refine lv_iload_n hx hb dX12_layHour_44 rfl (lv_at hl 4 rfl) ?_
                  refine kci (S := Su) (wr := [(i3, .inl (K 1, 819, .inl f_26304)), (tf, .inl (K 0, 819, .inl f_26305))]) (va_runV (As := [.int x]) (rest := []) ⟨hx, hb, hml, hown, hts⟩ (v_isBarred l D K m0 x m_0 m_1 m_2 w0 m_4 m_5 m_6 m_7 m_8 m_9 m_10 m_11 m_12 m_13 m_14 m_15 m_16 m_17 m_18 m_19 m_21 m_22 m_23 m_24 m_25 m_26 m_27 m_28 m_29 m_30 m_31 m_32 m_33 v_26297 e0 m_36 q0 v_26298 v_26299 v_26300 m_41 m_42 (.ref tf) (.ref i3) m_45 m_46 m_47 m_48 m_49 m_50 m_51 m_52 m_53 m_54 m_55 m_56 m_57 m_58 m_59 f_26301 f_26302 f_26303 H.size (by first | omega | decide) (by first | omega | decide) hf_26301_0) (cwV 1 hts gX12_layHour_X12_isBarred rfl rfl rfl (by decide +kernel) ⟨Nat.le_of_ble_eq_true rfl, Nat.le_of_ble_eq_true rfl⟩) (mkV hK hN (hP.sub [0, 1, 2, 3] rfl) (hD.sub [0, 1, 2, 3] (by decide) rfl) (ci := 12) (q0 := 0) rfl rfl) rfl rfl hl.1 rfl (lv_room (Nat.le_of_ble_eq_true rfl)) dX12_layHour_45 ⟨Nat.le_of_ble_eq_true rfl, Nat.le_of_ble_eq_true rfl⟩) hP hD hS hA [0, 1, 2, 3] [4, 5] rfl rfl (by decide) (by decide) (fun r_26882 u_26883 H locs hw hP hD hS => ?_)
                  have hP : va_P D vwCl [(i3, .inl (K 1, 819, .inl f_26304)), (tf, .inl (K 0, 819, .inl f_26305)), (m0, .inr (12, [m_0, m_1, m_2, .ref w0, m_4, m_5, m_6, m_7, m_8, m_9, m_10, m_11, m_12, m_13, m_14, m_15, m_16, m_17, m_18, m_19, .int 0, m_21, m_22, m_23, m_24, m_25, m_26, m_27, m_28, m_29, m_30, m_31, m_32, m_33, .int (u_26883.2.2.2.1 0), .ref e0, m_36, .ref q0, .int (u_26883.2.2.2.1 1), .long (u_26883.2.2.2.2.1 0), .long (u_26883.2.2.2.2.1 1), m_41, m_42, .ref tf, .ref i3, m_45, m_46, m_47, m_48, m_49, m_50, m_51, m_52, m_53, m_54, m_55, m_56, m_57, m_58, m_59])), (w0, .inl (K 0, 5500, .inl f_26301)), (e0, .inl (K 2, 13, .inr (.inl (u_26883.2.2.1 0)))), (q0, .inl (K 2, 400, .inr (.inl (u_26883.2.2.1 1))))] H := hP
                  have hD : va_D A [(i3, .inl (K 1, 819, .inl f_26304)), (tf, .inl (K 0, 819, .inl f_26305)), (m0, .inr (12, [m_0, m_1, m_2, .ref w0, m_4, m_5, m_6, m_7, m_8, m_9, m_10, m_11, m_12, m_13, m_14, m_15, m_16, m_17, m_18, m_19, .int 0, m_21, m_22, m_23, m_24, m_25, m_26, m_27, m_28, m_29, m_30, m_31, m_32, m_33, .int (u_26883.2.2.2.1 0), .ref e0, m_36, .ref q0, .int (u_26883.2.2.2.1 1), .long (u_26883.2.2.2.2.1 0), .long (u_26883.2.2.2.2.1 1), m_41, m_42, .ref tf, .ref i3, m_45, m_46, m_47, m_48, m_49, m_50, m_51, m_52, m_53, m_54, m_55, m_56, m_57, m_58, m_59])), (w0, .inl (K 0, 5500, .inl f_26301)), (e0, .inl (K 2, 13, .inr (.inl (u_26883.2.2.1 0)))), (q0, .inl (K 2, 400, .inr (.inl (u_26883.2.2.1 1))))] := hD
                  obtain ⟨h_26885, k_26884, -⟩ := hw
                  refine lv_if_ne (tgt := 55) hx hb dX12_layHour_48 (by decide) (fun c_26886 => ?_) (fun c_26886 => ?_)
                  · have c_26886i := i_ne (x := r_26882.toInt) (y := 0) rfl rfl c_26886
                    exact j_26850 (u_26883.2.2.2.1 0) (u_26883.2.2.2.1 1) (u_26883.2.2.2.2.1 0) (u_26883.2.2.2.2.1 1) (u_26883.2.2.1 0) (u_26883.2.2.1 1) (by omega) _ _ (hP.sub [2, 3, 4, 5, 0, 1] rfl) (hD.sub [2, 3, 4, 5, 0, 1] (by decide) rfl) hS ls (lv_sub hl [0, 2, 3, 4, 5, 6] rfl)
                  · have c_26886i := i_eq (x := r_26882.toInt) (y := 0) rfl rfl c_26886
                    exact j_26873 (u_26883.2.2.2.1 0) (u_26883.2.2.2.1 1) (u_26883.2.2.2.2.1 0) (u_26883.2.2.2.2.1 1) (u_26883.2.2.1 0) (u_26883.2.2.1 1) (by omega) _ _ (hP.sub [2, 3, 4, 5, 0, 1] rfl) (hD.sub [2, 3, 4, 5, 0, 1] (by decide) rfl) hS ls (lv_sub hl [0, 2, 3, 4, 5, 6] rfl)
        exact lp_26695 ((4 - (0 : Int32).toInt : Int).toNat + 1) 0 1 v_23047 v_23048 v_23049 v_23050 f_25616 f_23052 f_23053 f_23054 f_23055 (by decide) (by decide) (by omega) hf_25616_0 hf_23055_0 (Nat.lt_succ_self _) _ _ hP hD hS ls (lv_sub hl [0, 1, 2, 3, 4, 5, 6] rfl)
  exact lp_25612 ((22 - (0 : Int32).toInt : Int).toNat + 1) 0 lw bro val sm fw fe fq fi ft (by decide) (by omega) zfw zft (Nat.lt_succ_self _) _ _ hP hD hS ls (lv_sub hl [0, 1, 2, 3, 4] rfl)
