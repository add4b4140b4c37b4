theorem dX10_nextHour_0 : decode cX10_nextHour 0 = .ok (.aload_n 1, 1) := by decide +kernel
theorem dX10_nextHour_1 : decode cX10_nextHour 1 = .ok (.getfield 56, 3) := by decide +kernel
theorem dX10_nextHour_4 : decode cX10_nextHour 4 = .ok (.iconst 0, 1) := by decide +kernel
theorem dX10_nextHour_5 : decode cX10_nextHour 5 = .ok (.iaload, 1) := by decide +kernel
theorem dX10_nextHour_6 : decode cX10_nextHour 6 = .ok (.bipush 23, 2) := by decide +kernel
theorem dX10_nextHour_8 : decode cX10_nextHour 8 = .ok (.if_icmp .ne 7, 3) := by decide +kernel
theorem dX10_nextHour_15 : decode cX10_nextHour 15 = .ok (.iconst 0, 1) := by decide +kernel
theorem dX10_nextHour_16 : decode cX10_nextHour 16 = .ok (.istore_n 2, 1) := by decide +kernel
theorem dX10_nextHour_17 : decode cX10_nextHour 17 = .ok (.iload_n 2, 1) := by decide +kernel
theorem dX10_nextHour_18 : decode cX10_nextHour 18 = .ok (.ifCond .eq 18, 3) := by decide +kernel
theorem dX10_nextHour_11 : decode cX10_nextHour 11 = .ok (.iconst 1, 1) := by decide +kernel
theorem dX10_nextHour_12 : decode cX10_nextHour 12 = .ok (.goto 4, 3) := by decide +kernel
theorem dX10_nextHour_21 : decode cX10_nextHour 21 = .ok (.aload_n 1, 1) := by decide +kernel
theorem dX10_nextHour_22 : decode cX10_nextHour 22 = .ok (.getfield 56, 3) := by decide +kernel
theorem dX10_nextHour_25 : decode cX10_nextHour 25 = .ok (.iconst 1, 1) := by decide +kernel
theorem dX10_nextHour_26 : decode cX10_nextHour 26 = .ok (.iaload, 1) := by decide +kernel
theorem dX10_nextHour_27 : decode cX10_nextHour 27 = .ok (.sipush 999, 3) := by decide +kernel
theorem dX10_nextHour_30 : decode cX10_nextHour 30 = .ok (.if_icmp .lt 6, 3) := by decide +kernel
theorem dX10_nextHour_33 : decode cX10_nextHour 33 = .ok (.bipush (-3), 2) := by decide +kernel
theorem dX10_nextHour_35 : decode cX10_nextHour 35 = .ok (.ireturn, 1) := by decide +kernel
theorem dX10_nextHour_36 : decode cX10_nextHour 36 = .ok (.aload_n 1, 1) := by decide +kernel
theorem dX10_nextHour_37 : decode cX10_nextHour 37 = .ok (.invokevirtual 60, 3) := by decide +kernel
theorem dX10_nextHour_40 : decode cX10_nextHour 40 = .ok (.ifCond .eq 7, 3) := by decide +kernel
theorem dX10_nextHour_47 : decode cX10_nextHour 47 = .ok (.iconst 0, 1) := by decide +kernel
theorem dX10_nextHour_48 : decode cX10_nextHour 48 = .ok (.istore_n 3, 1) := by decide +kernel
theorem dX10_nextHour_49 : decode cX10_nextHour 49 = .ok (.aload_n 1, 1) := by decide +kernel
theorem dX10_nextHour_50 : decode cX10_nextHour 50 = .ok (.ldc 64, 2) := by decide +kernel
theorem dX10_nextHour_52 : decode cX10_nextHour 52 = .ok (.aload_n 1, 1) := by decide +kernel
theorem dX10_nextHour_53 : decode cX10_nextHour 53 = .ok (.getfield 65, 3) := by decide +kernel
theorem dX10_nextHour_56 : decode cX10_nextHour 56 = .ok (.aload_n 0, 1) := by decide +kernel
theorem dX10_nextHour_57 : decode cX10_nextHour 57 = .ok (.aload_n 1, 1) := by decide +kernel
theorem dX10_nextHour_58 : decode cX10_nextHour 58 = .ok (.invokevirtual 69, 3) := by decide +kernel
theorem dX10_nextHour_61 : decode cX10_nextHour 61 = .ok (.iadd, 1) := by decide +kernel
theorem dX10_nextHour_62 : decode cX10_nextHour 62 = .ok (.invokestatic 40, 3) := by decide +kernel
theorem dX10_nextHour_65 : decode cX10_nextHour 65 = .ok (.putfield 65, 3) := by decide +kernel
theorem dX10_nextHour_68 : decode cX10_nextHour 68 = .ok (.aload_n 0, 1) := by decide +kernel
theorem dX10_nextHour_69 : decode cX10_nextHour 69 = .ok (.aload_n 1, 1) := by decide +kernel
theorem dX10_nextHour_70 : decode cX10_nextHour 70 = .ok (.invokevirtual 73, 3) := by decide +kernel
theorem dX10_nextHour_73 : decode cX10_nextHour 73 = .ok (.aload_n 1, 1) := by decide +kernel
theorem dX10_nextHour_74 : decode cX10_nextHour 74 = .ok (.getfield 56, 3) := by decide +kernel
theorem dX10_nextHour_77 : decode cX10_nextHour 77 = .ok (.iconst 0, 1) := by decide +kernel
theorem dX10_nextHour_78 : decode cX10_nextHour 78 = .ok (.iload_n 2, 1) := by decide +kernel
theorem dX10_nextHour_79 : decode cX10_nextHour 79 = .ok (.ifCond .eq 7, 3) := by decide +kernel
theorem dX10_nextHour_86 : decode cX10_nextHour 86 = .ok (.aload_n 1, 1) := by decide +kernel
theorem dX10_nextHour_87 : decode cX10_nextHour 87 = .ok (.getfield 56, 3) := by decide +kernel
theorem dX10_nextHour_90 : decode cX10_nextHour 90 = .ok (.iconst 0, 1) := by decide +kernel
theorem dX10_nextHour_91 : decode cX10_nextHour 91 = .ok (.iaload, 1) := by decide +kernel
theorem dX10_nextHour_92 : decode cX10_nextHour 92 = .ok (.iconst 1, 1) := by decide +kernel
theorem dX10_nextHour_93 : decode cX10_nextHour 93 = .ok (.iadd, 1) := by decide +kernel
theorem dX10_nextHour_94 : decode cX10_nextHour 94 = .ok (.iastore, 1) := by decide +kernel
theorem dX10_nextHour_95 : decode cX10_nextHour 95 = .ok (.aload_n 1, 1) := by decide +kernel
theorem dX10_nextHour_96 : decode cX10_nextHour 96 = .ok (.getfield 56, 3) := by decide +kernel
theorem dX10_nextHour_99 : decode cX10_nextHour 99 = .ok (.iconst 1, 1) := by decide +kernel
theorem dX10_nextHour_100 : decode cX10_nextHour 100 = .ok (.dup2, 1) := by decide +kernel
theorem dX10_nextHour_101 : decode cX10_nextHour 101 = .ok (.iaload, 1) := by decide +kernel
theorem dX10_nextHour_102 : decode cX10_nextHour 102 = .ok (.iload_n 2, 1) := by decide +kernel
theorem dX10_nextHour_103 : decode cX10_nextHour 103 = .ok (.ifCond .eq 7, 3) := by decide +kernel
theorem dX10_nextHour_110 : decode cX10_nextHour 110 = .ok (.iconst 0, 1) := by decide +kernel
theorem dX10_nextHour_111 : decode cX10_nextHour 111 = .ok (.iadd, 1) := by decide +kernel
theorem dX10_nextHour_112 : decode cX10_nextHour 112 = .ok (.iastore, 1) := by decide +kernel
theorem dX10_nextHour_113 : decode cX10_nextHour 113 = .ok (.iload_n 3, 1) := by decide +kernel
theorem dX10_nextHour_114 : decode cX10_nextHour 114 = .ok (.ireturn, 1) := by decide +kernel
theorem dX10_nextHour_82 : decode cX10_nextHour 82 = .ok (.iconst 0, 1) := by decide +kernel
theorem dX10_nextHour_83 : decode cX10_nextHour 83 = .ok (.goto 11, 3) := by decide +kernel
theorem dX10_nextHour_106 : decode cX10_nextHour 106 = .ok (.iconst 1, 1) := by decide +kernel
theorem dX10_nextHour_107 : decode cX10_nextHour 107 = .ok (.goto 4, 3) := by decide +kernel
theorem dX10_nextHour_43 : decode cX10_nextHour 43 = .ok (.iconst 1, 1) := by decide +kernel
theorem dX10_nextHour_44 : decode cX10_nextHour 44 = .ok (.goto 4, 3) := by decide +kernel
theorem dX10_byDraws_0 : decode cX10_byDraws 0 = .ok (.iload_n 2, 1) := by decide +kernel
theorem dX10_byDraws_1 : decode cX10_byDraws 1 = .ok (.istore 4, 2) := by decide +kernel
theorem dX10_byDraws_3 : decode cX10_byDraws 3 = .ok (.iconst 0, 1) := by decide +kernel
theorem dX10_byDraws_4 : decode cX10_byDraws 4 = .ok (.istore 5, 2) := by decide +kernel
theorem dX10_byDraws_6 : decode cX10_byDraws 6 = .ok (.iconst 0, 1) := by decide +kernel
theorem dX10_byDraws_7 : decode cX10_byDraws 7 = .ok (.istore 6, 2) := by decide +kernel
theorem dX10_byDraws_9 : decode cX10_byDraws 9 = .ok (.iload 6, 2) := by decide +kernel
theorem dX10_byDraws_11 : decode cX10_byDraws 11 = .ok (.iload_n 3, 1) := by decide +kernel
theorem dX10_byDraws_12 : decode cX10_byDraws 12 = .ok (.if_icmp .ge 69, 3) := by decide +kernel
theorem dX10_byDraws_15 : decode cX10_byDraws 15 = .ok (.aload_n 1, 1) := by decide +kernel
theorem dX10_byDraws_16 : decode cX10_byDraws 16 = .ok (.getfield 77, 3) := by decide +kernel
theorem dX10_byDraws_19 : decode cX10_byDraws 19 = .ok (.ifCond .le 34, 3) := by decide +kernel
theorem dX10_byDraws_22 : decode cX10_byDraws 22 = .ok (.iload 4, 2) := by decide +kernel
theorem dX10_byDraws_24 : decode cX10_byDraws 24 = .ok (.i2l, 1) := by decide +kernel
theorem dX10_byDraws_25 : decode cX10_byDraws 25 = .ok (.ldc2_w 91, 3) := by decide +kernel
theorem dX10_byDraws_28 : decode cX10_byDraws 28 = .ok (.lmul, 1) := by decide +kernel
theorem dX10_byDraws_29 : decode cX10_byDraws 29 = .ok (.ldc2_w 93, 3) := by decide +kernel
theorem dX10_byDraws_32 : decode cX10_byDraws 32 = .ok (.ladd, 1) := by decide +kernel
theorem dX10_byDraws_33 : decode cX10_byDraws 33 = .ok (.ldc2_w 95, 3) := by decide +kernel
theorem dX10_byDraws_36 : decode cX10_byDraws 36 = .ok (.lrem, 1) := by decide +kernel
theorem dX10_byDraws_37 : decode cX10_byDraws 37 = .ok (.l2i, 1) := by decide +kernel
theorem dX10_byDraws_38 : decode cX10_byDraws 38 = .ok (.istore 4, 2) := by decide +kernel
theorem dX10_byDraws_40 : decode cX10_byDraws 40 = .ok (.aload_n 0, 1) := by decide +kernel
theorem dX10_byDraws_41 : decode cX10_byDraws 41 = .ok (.aload_n 1, 1) := by decide +kernel
theorem dX10_byDraws_42 : decode cX10_byDraws 42 = .ok (.iload 4, 2) := by decide +kernel
theorem dX10_byDraws_44 : decode cX10_byDraws 44 = .ok (.aload_n 1, 1) := by decide +kernel
theorem dX10_byDraws_45 : decode cX10_byDraws 45 = .ok (.getfield 77, 3) := by decide +kernel
theorem dX10_byDraws_48 : decode cX10_byDraws 48 = .ok (.irem, 1) := by decide +kernel
theorem dX10_byDraws_49 : decode cX10_byDraws 49 = .ok (.invokevirtual 97, 3) := by decide +kernel
theorem dX10_byDraws_52 : decode cX10_byDraws 52 = .ok (.pop, 1) := by decide +kernel
theorem dX10_byDraws_53 : decode cX10_byDraws 53 = .ok (.aload_n 0, 1) := by decide +kernel
theorem dX10_byDraws_54 : decode cX10_byDraws 54 = .ok (.aload_n 1, 1) := by decide +kernel
theorem dX10_byDraws_55 : decode cX10_byDraws 55 = .ok (.invokevirtual 101, 3) := by decide +kernel
theorem dX10_byDraws_58 : decode cX10_byDraws 58 = .ok (.istore 7, 2) := by decide +kernel
theorem dX10_byDraws_60 : decode cX10_byDraws 60 = .ok (.iload 7, 2) := by decide +kernel
theorem dX10_byDraws_62 : decode cX10_byDraws 62 = .ok (.ifCond .ge 6, 3) := by decide +kernel
theorem dX10_byDraws_68 : decode cX10_byDraws 68 = .ok (.iload 5, 2) := by decide +kernel
theorem dX10_byDraws_70 : decode cX10_byDraws 70 = .ok (.iload 7, 2) := by decide +kernel
theorem dX10_byDraws_72 : decode cX10_byDraws 72 = .ok (.iadd, 1) := by decide +kernel
theorem dX10_byDraws_73 : decode cX10_byDraws 73 = .ok (.istore 5, 2) := by decide +kernel
theorem dX10_byDraws_75 : decode cX10_byDraws 75 = .ok (.iinc 6 1, 3) := by decide +kernel
theorem dX10_byDraws_78 : decode cX10_byDraws 78 = .ok (.goto (-69), 3) := by decide +kernel
theorem dX10_byDraws_81 : decode cX10_byDraws 81 = .ok (.iload 5, 2) := by decide +kernel
theorem dX10_byDraws_83 : decode cX10_byDraws 83 = .ok (.ireturn, 1) := by decide +kernel
theorem dX10_byDraws_65 : decode cX10_byDraws 65 = .ok (.iload 5, 2) := by decide +kernel
theorem dX10_byDraws_67 : decode cX10_byDraws 67 = .ok (.ireturn, 1) := by decide +kernel
set_option maxRecDepth 20000 in
theorem ggX10_nextHour_X9_meetsChord : GoodIn wsX10_nextHour wsX9_meetsChord := goodIn_r _ [9, 10, 11, 12, 13, 7, 14, 15, 16, 17, 18, 19, 20, 21, 22, 23, 24, 25, 26, 27, 28, 29, 30, 31, 32, 33, 101, 102, 103, 104, 105, 106, 107, 108, 109, 110] (by decide +kernel) (by decide +kernel)
set_option maxRecDepth 20000 in
theorem gX10_nextHour_X9_meetsChord_n60 : GoodIn wsX10_nextHour (wsX9_meetsChord) := ggX10_nextHour_X9_meetsChord
set_option maxRecDepth 20000 in
theorem ggX10_nextHour_X10_discords : GoodIn wsX10_nextHour wsX10_discords := goodIn_r _ [38, 39, 22, 7, 23, 24, 25, 26, 27, 28, 29, 30, 31, 32, 33, 10, 40, 41, 42, 43, 44, 4, 45, 46, 47, 48, 49, 50, 51, 52, 53, 54, 55, 56, 57, 58, 59, 60, 61, 62, 63, 64, 65, 66, 67, 68, 69, 70, 71, 3, 5, 72, 73, 74, 75, 76, 77, 78, 79, 80, 81, 82, 83, 84, 85, 86, 87, 88, 89, 90, 91, 92, 101, 102, 103, 104, 105, 106, 107, 108, 109, 110, 111, 112, 113, 114, 115, 116, 117, 118, 119] (by decide +kernel) (by decide +kernel)
set_option maxRecDepth 20000 in
theorem gX10_nextHour_X10_discords : GoodIn wsX10_nextHour (wsV RX10 69 RX10 yX10_discords wsX10_discords) := goodIn_app (goodIn_of _ (by decide +kernel)) ggX10_nextHour_X10_discords
set_option maxRecDepth 20000 in
theorem ggX10_nextHour_X10_burnDown : GoodIn wsX10_nextHour wsX10_burnDown := goodIn_r _ [96, 39, 2, 3, 4, 5, 97, 73, 74, 26, 7, 27, 28, 29, 46, 47, 48, 49, 50, 98, 99, 100, 64, 65, 66, 54, 55, 56, 57, 58, 59, 60, 61, 62, 63, 67, 68, 69, 70, 71, 72, 75, 76, 77, 78, 79, 80, 81, 82, 83, 84, 85, 86, 87, 88, 89, 90, 91, 92, 101, 102, 103, 104, 105, 106, 107, 108, 109, 110, 111, 112, 113, 114, 115, 116, 117, 118, 119] (by decide +kernel) (by decide +kernel)
set_option maxRecDepth 20000 in
theorem gX10_nextHour_X10_burnDown : GoodIn wsX10_nextHour (wsV RX10 73 RX10 yX10_burnDown wsX10_burnDown) := goodIn_app (goodIn_of _ (by decide +kernel)) ggX10_nextHour_X10_burnDown
set_option maxRecDepth 20000 in
theorem ggX10_byDraws_X10_nextHour : GoodIn wsX10_byDraws wsX10_nextHour := goodIn_r _ [73, 74, 10, 11, 12, 13, 75, 15, 76, 77, 78, 79, 80, 81, 82, 83, 84, 85, 86, 87, 18, 88, 89, 90, 91, 92, 19, 20, 21, 22, 93, 94, 95, 96, 97, 98, 99, 7, 100, 9, 101, 102, 103, 104, 105, 106, 23, 24, 25, 26, 27, 107, 108, 109, 28, 29, 30, 31, 32, 33, 34, 35, 36, 37, 38, 39, 40, 41, 42, 43, 44, 45, 46, 47, 48, 49, 50, 51, 52, 53, 54, 55, 56, 57, 58, 59, 60, 61, 62, 63, 64, 65, 66, 110, 111, 112, 113, 114, 67, 68, 69, 115, 116, 117, 118, 119, 120, 121, 122, 123, 124, 125, 126, 127, 128, 129, 130, 131, 132, 133] (by decide +kernel) (by decide +kernel)
set_option maxRecDepth 20000 in
theorem gX10_byDraws_X10_nextHour : GoodIn wsX10_byDraws (wsV RX10 101 RX10 yX10_nextHour wsX10_nextHour) := goodIn_app (goodIn_of _ (by decide +kernel)) ggX10_byDraws_X10_nextHour
set_option maxRecDepth 20000 in
theorem ggX10_byDraws_X10_kindle : GoodIn wsX10_byDraws wsX10_kindle := goodIn_r _ [8, 9, 10, 11, 12, 13, 14, 15, 16, 17, 18, 19, 20, 21, 22, 23, 24, 25, 26, 27, 28, 29, 30, 31, 32, 33, 34, 35, 36, 37, 38, 39, 40, 41, 42, 43, 44, 45, 46, 47, 48, 49, 50, 51, 52, 53, 54, 55, 56, 57, 58, 59, 60, 61, 62, 63, 64, 65, 66, 67, 68, 69, 125, 115, 116, 117, 118, 119, 120, 121, 122, 123, 124, 126, 127, 128, 129, 130, 131, 132, 133] (by decide +kernel) (by decide +kernel)
set_option maxRecDepth 20000 in
theorem gX10_byDraws_X10_kindle : GoodIn wsX10_byDraws (wsV RX10 97 RX10 yX10_kindle wsX10_kindle) := goodIn_app (goodIn_of _ (by decide +kernel)) ggX10_byDraws_X10_kindle
set_option maxHeartbeats 4000000 in
set_option maxRecDepth 100000 in
theorem w_nextHour (l : Launch) (D : va_G) (K : Nat → ClassId) (g : Nat → Nat) (L : Nat → Prop) (r0 : Nat) (t0 : Nat) (a0 : Nat) (m0 : Nat) (w0 : Nat) (m1 : Nat) (br : Int32) (fs : Nat → Int32) (fw : Nat → Int32) (t1 : Nat) (t3 : Nat) (t2 : Nat) (l0 : Nat) (n : Int32) (lt : Int32) (nf : Int32) (fi : Int32) (k_8 : Value) (k_9 : Value) (f1 : Nat → Int32) (f2 : Nat → Int32) (f3 : Nat → Int32) (fl : Nat → Option Nat) (sz : Nat) (zn : 0 ≤ n.toInt ∧ n.toInt ≤ 8) (zlt : 0 ≤ lt.toInt ∧ lt.toInt ≤ 6) (zbr : 0 ≤ br.toInt ∧ br.toInt ≤ 1) (zfl : InL L fl) : Met l yX10_nextHour wsX10_nextHour ({ frames := 4, cells := 0, slots := 0, locals := 105 }) (va_Pc [.ref r0, .ref t0] (PreY D K [(r0, .inr (10, [.ref a0])), (a0, .inr (0, [.ref m0, .ref w0])), (m0, .inr (3, [.ref m1, .int br])), (m1, .inl (K 0, 64, .inl fs)), (w0, .inl (K 0, 9, .inl fw)), (t0, .inr (9, [.ref t1, .ref t3, .ref t2, .ref l0, .int n, .int lt, .int nf, .int fi, k_8, k_9])), (t1, .inl (K 0, 56, .inl f1)), (t2, .inl (K 0, 6, .inl f2)), (t3, .inl (K 0, 24, .inl f3)), (l0, .inl (K 4, 6, .inr (.inr (.inr (.inr fl)))))] [] sz g L (va_A [(r0, .inr (10, [.ref a0])), (a0, .inr (0, [.ref m0, .ref w0])), (m0, .inr (3, [.ref m1, .int br])), (m1, .inl (K 0, 64, .inl fs)), (w0, .inl (K 0, 9, .inl fw)), (t0, .inr (9, [.ref t1, .ref t3, .ref t2, .ref l0, .int n, .int lt, .int nf, .int fi, k_8, k_9])), (t1, .inl (K 0, 56, .inl f1)), (t2, .inl (K 0, 6, .inl f2)), (t3, .inl (K 0, 24, .inl f3)), (l0, .inl (K 4, 6, .inr (.inr (.inr (.inr fl)))))] sz))) (va_Qi (S := Su) (fun (r : Int32) (u : Su) => ((-3) ≤ r.toInt ∧ r.toInt ≤ 1) ∧ (0 ≤ (u.2.2.2.1 0).toInt ∧ (u.2.2.2.1 0).toInt ≤ 1) ∧ True) (fun u t => Wd D (va_A [(r0, .inr (10, [.ref a0])), (a0, .inr (0, [.ref m0, .ref w0])), (m0, .inr (3, [.ref m1, .int br])), (m1, .inl (K 0, 64, .inl fs)), (w0, .inl (K 0, 9, .inl fw)), (t0, .inr (9, [.ref t1, .ref t3, .ref t2, .ref l0, .int n, .int lt, .int nf, .int fi, k_8, k_9])), (t1, .inl (K 0, 56, .inl f1)), (t2, .inl (K 0, 6, .inl f2)), (t3, .inl (K 0, 24, .inl f3)), (l0, .inl (K 4, 6, .inr (.inr (.inr (.inr fl)))))] sz) ((fun u => [(r0, .inr (10, [.ref a0])), (a0, .inr (0, [.ref m0, .ref w0])), (m0, .inr (3, [.ref m1, .int (u.2.2.2.1 0)])), (m1, .inl (K 0, 64, .inl (u.2.1 0))), (w0, .inl (K 0, 9, .inl (u.2.1 1))), (t0, .inr (9, [.ref t1, .ref t3, .ref t2, .ref l0, .int n, .int lt, .int nf, .int (u.2.2.2.1 1), k_8, k_9])), (t1, .inl (K 0, 56, .inl (u.2.1 2))), (t2, .inl (K 0, 6, .inl (u.2.1 3))), (t3, .inl (K 0, 24, .inl f3)), (l0, .inl (K 4, 6, .inr (.inr (.inr (.inr fl)))))]) u) t) (va_A [(r0, .inr (10, [.ref a0])), (a0, .inr (0, [.ref m0, .ref w0])), (m0, .inr (3, [.ref m1, .int br])), (m1, .inl (K 0, 64, .inl fs)), (w0, .inl (K 0, 9, .inl fw)), (t0, .inr (9, [.ref t1, .ref t3, .ref t2, .ref l0, .int n, .int lt, .int nf, .int fi, k_8, k_9])), (t1, .inl (K 0, 56, .inl f1)), (t2, .inl (K 0, 6, .inl f2)), (t3, .inl (K 0, 24, .inl f3)), (l0, .inl (K 4, 6, .inr (.inr (.inr (.inr fl)))))] sz)) 0 0 (va_A [(r0, .inr (10, [.ref a0])), (a0, .inr (0, [.ref m0, .ref w0])), (m0, .inr (3, [.ref m1, .int br])), (m1, .inl (K 0, 64, .inl fs)), (w0, .inl (K 0, 9, .inl fw)), (t0, .inr (9, [.ref t1, .ref t3, .ref t2, .ref l0, .int n, .int lt, .int nf, .int fi, k_8, k_9])), (t1, .inl (K 0, 56, .inl f1)), (t2, .inl (K 0, 6, .inl f2)), (t3, .inl (K 0, 24, .inl f3)), (l0, .inl (K 4, 6, .inr (.inr (.inr (.inr fl)))))] sz) := by
  refine Met.ofW (cc := cX10_nextHour) (maxL := 4) (ret := (some .int)) (by decide) rfl ?_
  intro p e s m args below meth c s₁ B hml hv
  obtain ⟨rfl, ⟨hsz, hP, hK, hD0, hN⟩, hG, hPl, hRo⟩ := hv
  have hx := B.exec
  have hb := B.bytes
  have hr := B.returns
  have hts := atoms_spec (ws := wsX10_nextHour) B.pre
  have hown : s.vm.findClass RX10 = some m.cls := findClass_of_methodNamed B.named
  have hlocks := B.notSynchronized
  subst hsz
  have hD := hD0.self (sz := s.heap.size)
  generalize hAe : va_A [(r0, .inr (10, [.ref a0])), (a0, .inr (0, [.ref m0, .ref w0])), (m0, .inr (3, [.ref m1, .int br])), (m1, .inl (K 0, 64, .inl fs)), (w0, .inl (K 0, 9, .inl fw)), (t0, .inr (9, [.ref t1, .ref t3, .ref t2, .ref l0, .int n, .int lt, .int nf, .int fi, k_8, k_9])), (t1, .inl (K 0, 56, .inl f1)), (t2, .inl (K 0, 6, .inl f2)), (t3, .inl (K 0, 24, .inl f3)), (l0, .inl (K 4, 6, .inr (.inr (.inr (.inr fl)))))] s.heap.size = A at hD hG hPl hRo ⊢
  have hA : ∀ q : Nat, s.heap.size ≤ q → A q := fun q h => by rw [← hAe]; exact Or.inr h
  have hS : va_S A s.heap s.heap [] := va_S.rf
  have hP : va_P D vwCl [(r0, .inr (10, [.ref a0])), (a0, .inr (0, [.ref m0, .ref w0])), (m0, .inr (3, [.ref m1, .int br])), (m1, .inl (K 0, 64, .inl fs)), (w0, .inl (K 0, 9, .inl fw)), (t0, .inr (9, [.ref t1, .ref t3, .ref t2, .ref l0, .int n, .int lt, .int nf, .int fi, k_8, k_9])), (t1, .inl (K 0, 56, .inl f1)), (t2, .inl (K 0, 6, .inl f2)), (t3, .inl (K 0, 24, .inl f3)), (l0, .inl (K 4, 6, .inr (.inr (.inr (.inr fl)))))] s.heap := hP
  have hl := lv_entry [.ref r0, .ref t0] (n := 4) (Nat.le_of_ble_eq_true rfl)
  rw [lg_entry_eq]
  generalize (lg_sl [.ref r0, .ref t0] ++ List.replicate (4 - (lg_sl [.ref r0, .ref t0]).length) Slot.unset).toArray = ls at hl ⊢
  have hl : lv_has ls 4 [(0, .ref r0), (1, .ref t0)] := hl
  have hw0 : ∀ w ∈ wsX00, w ∈ wsX10_nextHour := fun w h => (List.mem_cons_of_mem _ (List.mem_append_left _ (List.mem_append_left _ (List.mem_append_right _ h))))
  have hw3 : ∀ w ∈ wsX30, w ∈ wsX10_nextHour := fun w h => (List.mem_cons_of_mem _ (List.mem_append_right _ h))
  have hw7 : ∀ w ∈ wsX70, w ∈ wsX10_nextHour := fun w h => (List.mem_cons_of_mem _ (List.mem_append_left _ (List.mem_append_right _ h)))
  have hw9 : ∀ w ∈ wsX90, w ∈ wsX10_nextHour := fun w h => (List.mem_cons_of_mem _ (List.mem_append_left _ (List.mem_append_left _ (List.mem_append_left _ (List.mem_append_left _ (List.mem_append_right _ h))))))
  have hw10 : ∀ w ∈ wsX100, w ∈ wsX10_nextHour := fun w h => (List.mem_cons_of_mem _ (List.mem_append_left _ (List.mem_append_left _ (List.mem_append_left _ (List.mem_append_right _ h)))))
  generalize hQ : MQ below _ _ s _ _ _ = Q
  refine lv_aload_n hx hb dX10_nextHour_0 rfl (lv_at hl 1 rfl) ?_
  refine va_getN (ci := 9) (v := .ref t2) (C := RX9) (T := TX9) (N := 10) hx hb hts hw9 hown hK hP 5 rfl rfl 2 (by decide) (nst_use hN 101 rfl) (fun _ h9 => h9) rfl dX10_nextHour_1 ?_
  refine lv_iconst (v := 0) hx hb dX10_nextHour_4 (by decide) ?_
  refine va_iald hx hb hK hP 7 0 rfl rfl (i_in (x := 0) rfl (by omega)) dX10_nextHour_5 ?_
  refine lv_topi (fun x_207 ex_207 => ?_)
  refine lv_bipush (v := 23) hx hb dX10_nextHour_6 (by decide) ?_
  have j_259 : ∀ (v_213 : Int32) (hv_213 : 0 ≤ v_213.toInt ∧ v_213.toInt ≤ 1) (H : Heap) (locs : List Loc) (hP : va_P D vwCl [(r0, .inr (10, [.ref a0])), (a0, .inr (0, [.ref m0, .ref w0])), (m0, .inr (3, [.ref m1, .int br])), (m1, .inl (K 0, 64, .inl fs)), (w0, .inl (K 0, 9, .inl fw)), (t0, .inr (9, [.ref t1, .ref t3, .ref t2, .ref l0, .int n, .int lt, .int nf, .int fi, k_8, k_9])), (t1, .inl (K 0, 56, .inl f1)), (t2, .inl (K 0, 6, .inl f2)), (t3, .inl (K 0, 24, .inl f3)), (l0, .inl (K 4, 6, .inr (.inr (.inr (.inr fl)))))] H) (hD : va_D A [(r0, .inr (10, [.ref a0])), (a0, .inr (0, [.ref m0, .ref w0])), (m0, .inr (3, [.ref m1, .int br])), (m1, .inl (K 0, 64, .inl fs)), (w0, .inl (K 0, 9, .inl fw)), (t0, .inr (9, [.ref t1, .ref t3, .ref t2, .ref l0, .int n, .int lt, .int nf, .int fi, k_8, k_9])), (t1, .inl (K 0, 56, .inl f1)), (t2, .inl (K 0, 6, .inl f2)), (t3, .inl (K 0, 24, .inl f3)), (l0, .inl (K 4, 6, .inr (.inr (.inr (.inr fl)))))]) (hS : va_S A s.heap H locs) (ls : Array Slot) (hl : lv_has ls 4 [(2, .int v_213), (0, .ref r0), (1, .ref t0)]), W p l e ({ frames := 4, cells := 0, slots := 0, locals := 105 }) s m (([.ref r0, .ref t0] : List Value).toArray) below meth c H locs 0 0 Q (F0 m 36 ls []) := by
    intro v_213 hv_213 H locs hP hD hS ls hl
    refine lv_aload_n hx hb dX10_nextHour_36 rfl (lv_at hl 2 rfl) ?_
    refine pci (va_runVN (As := []) (rest := []) ⟨hx, hb, hml, hown, hts⟩ (w_meetsChord l D K t0 t1 t3 t2 (.ref l0) n (.int lt) (.int nf) (.int fi) k_8 k_9 f1 f2 f3 H.size (by first | omega | decide)) ⟨va_cnB 0 hts gX10_nextHour_X9_meetsChord_n60 rfl rfl rfl (nst_at hN 60 rfl) (hts (.initialized RX9) (List.mem_cons_of_mem _ (List.mem_append_left _ (List.mem_append_left _ (List.mem_append_left _ (List.mem_append_left _ (List.mem_append_left _ (List.mem_append_left _ (List.mem_of_getElem? (i := 6) rfl))))))))) (by decide +kernel) ⟨Nat.le_of_ble_eq_true rfl, Nat.le_of_ble_eq_true rfl⟩, (hts (.instanceMethod yX9_meetsChord) (List.mem_cons_of_mem _ (List.mem_append_left _ (List.mem_append_left _ (List.mem_append_left _ (List.mem_append_left _ (List.mem_append_left _ (List.mem_append_left _ (List.mem_of_getElem? (i := 5) rfl))))))))), (hts (.selects RX9 yX9_meetsChord yX9_meetsChord) (List.mem_cons_of_mem _ (List.mem_append_left _ (List.mem_append_left _ (List.mem_append_left _ (List.mem_append_left _ (List.mem_append_left _ (List.mem_append_left _ (List.mem_of_getElem? (i := 7) rfl)))))))))⟩ (mkV hK hN (hP.sub [5, 6, 7, 8] rfl) (hD.sub [5, 6, 7, 8] (by decide) rfl) (ci := 9) (q0 := 0) rfl rfl) rfl rfl hl.1 rfl (lv_room (Nat.le_of_ble_eq_true rfl)) dX10_nextHour_37 ⟨Nat.le_of_ble_eq_true rfl, Nat.le_of_ble_eq_true rfl⟩) (fun r_260 hw => ?_)
    obtain ⟨h_261, -⟩ := hw
    refine lv_if_eq (tgt := 47) hx hb dX10_nextHour_40 (by decide) (fun c_262 => ?_) (fun c_262 => ?_)
    · have c_262i := i_eq (x := r_260.toInt) (y := 0) rfl rfl c_262
      refine lv_iconst (v := 0) hx hb dX10_nextHour_47 (by decide) ?_
      refine lv_istore_n (lv' := [(3, .int 0), (2, .int v_213), (0, .ref r0), (1, .ref t0)]) hx hb dX10_nextHour_48 rfl hl (by decide) rfl (fun ls hl => ?_)
      refine lv_aload_n hx hb dX10_nextHour_49 rfl (lv_at hl 3 rfl) ?_
      refine lv_ldc (v := 99999) hx hb hown (hts (.constant RX10 64 (99999)) (List.mem_cons_of_mem _ (List.mem_append_left _ (List.mem_append_left _ (List.mem_append_left _ (List.mem_append_left _ (List.mem_append_left _ (List.mem_append_left _ (List.mem_of_getElem? (i := 0) rfl))))))))) dX10_nextHour_50 ?_
      refine lv_aload_n hx hb dX10_nextHour_52 rfl (lv_at hl 3 rfl) ?_
      refine va_getN (ci := 9) (v := .int fi) (C := RX9) (T := TX9) (N := 10) hx hb hts hw9 hown hK hP 5 rfl rfl 7 (by decide) (nst_use hN 114 rfl) (fun _ h9 => h9) rfl dX10_nextHour_53 ?_
      refine lv_aload_n hx hb dX10_nextHour_56 rfl (lv_at hl 2 rfl) ?_
      refine lv_aload_n hx hb dX10_nextHour_57 rfl (lv_at hl 3 rfl) ?_
      refine kci (S := Su) (wr := []) (va_runV (As := [.ref t0]) (rest := [.int fi, .int 99999, .ref t0]) ⟨hx, hb, hml, hown, hts⟩ (w_discords l D K g L r0 t0 a0 m0 w0 m1 br fs fw t1 t3 t2 l0 n lt nf fi k_8 k_9 f1 f2 f3 fl H.size (by first | omega | decide) (by first | omega | decide) (by first | omega | decide) zfl) (cwV 1 hts gX10_nextHour_X10_discords rfl rfl rfl (by decide +kernel) ⟨Nat.le_of_ble_eq_true rfl, Nat.le_of_ble_eq_true rfl⟩) (mkVY hK hN (hP.sub [0, 1, 2, 3, 4, 5, 6, 7, 8, 9] rfl) (hD.sub [0, 1, 2, 3, 4, 5, 6, 7, 8, 9] (by decide) rfl) (ci := 10) (q0 := 0) rfl rfl (fun U hU hW => ⟨Gl.at hG hS hW hU (fun q h => va_free hD hS hA [0, 1, 2, 3, 4, 5, 6, 7, 8, 9] rfl q h), Pool.at hPl hS hU (fun q h => va_free hD hS hA [0, 1, 2, 3, 4, 5, 6, 7, 8, 9] rfl q h), Ro.heap hU (Ro.nil)⟩)) rfl rfl hl.1 rfl (lv_room (Nat.le_of_ble_eq_true rfl)) dX10_nextHour_58 ⟨Nat.le_of_ble_eq_true rfl, Nat.le_of_ble_eq_true rfl⟩) hP hD hS hA [0, 1, 2, 3, 4, 5, 6, 7, 8, 9] [] rfl rfl (by decide) (by decide) (fun r_263 u_264 H locs hw hP hD hS => ?_)
      have hP : va_P D vwCl [(r0, .inr (10, [.ref a0])), (a0, .inr (0, [.ref m0, .ref w0])), (m0, .inr (3, [.ref m1, .int (u_264.2.2.2.1 0)])), (m1, .inl (K 0, 64, .inl (u_264.2.1 0))), (w0, .inl (K 0, 9, .inl (u_264.2.1 1))), (t0, .inr (9, [.ref t1, .ref t3, .ref t2, .ref l0, .int n, .int lt, .int nf, .int fi, k_8, k_9])), (t1, .inl (K 0, 56, .inl f1)), (t2, .inl (K 0, 6, .inl f2)), (t3, .inl (K 0, 24, .inl f3)), (l0, .inl (K 4, 6, .inr (.inr (.inr (.inr fl)))))] H := hP
      have hD : va_D A [(r0, .inr (10, [.ref a0])), (a0, .inr (0, [.ref m0, .ref w0])), (m0, .inr (3, [.ref m1, .int (u_264.2.2.2.1 0)])), (m1, .inl (K 0, 64, .inl (u_264.2.1 0))), (w0, .inl (K 0, 9, .inl (u_264.2.1 1))), (t0, .inr (9, [.ref t1, .ref t3, .ref t2, .ref l0, .int n, .int lt, .int nf, .int fi, k_8, k_9])), (t1, .inl (K 0, 56, .inl f1)), (t2, .inl (K 0, 6, .inl f2)), (t3, .inl (K 0, 24, .inl f3)), (l0, .inl (K 4, 6, .inr (.inr (.inr (.inr fl)))))] := hD
      obtain ⟨k_265, -⟩ := hw
      refine lv_iadd hx hb dX10_nextHour_61 ?_
      refine lv_topi (fun x_266 ex_266 => ?_)
      refine va_mmin hx hb (hml.trans hl.1.symm) hown (hts (.methodLink RX10 40 Lib.Math.min.name) (List.mem_cons_of_mem _ (List.mem_append_left _ (List.mem_append_left _ (List.mem_append_left _ (List.mem_append_left _ (List.mem_append_left _ (List.mem_append_left _ (List.mem_of_getElem? (i := 1) rfl))))))))) (hts (.static Lib.Math.min.name) (List.mem_cons_of_mem _ (List.mem_append_left _ (List.mem_append_left _ (List.mem_append_left _ (List.mem_append_left _ (List.mem_append_left _ (List.mem_append_left _ (List.mem_of_getElem? (i := 2) rfl))))))))) (hts (.initialized "java/lang/Math") (List.mem_cons_of_mem _ (List.mem_append_left _ (List.mem_append_left _ (List.mem_append_left _ (List.mem_append_left _ (List.mem_append_left _ (List.mem_append_left _ (List.mem_of_getElem? (i := 3) rfl))))))))) (hts (.code Lib.Math.min.name Lib.Math.min.code 2 (some .int)) (List.mem_cons_of_mem _ (List.mem_append_left _ (List.mem_append_left _ (List.mem_append_left _ (List.mem_append_left _ (List.mem_append_left _ (List.mem_append_left _ (List.mem_of_getElem? (i := 4) rfl))))))))) (Nat.le_of_ble_eq_true rfl) (Nat.le_of_ble_eq_true rfl) (Nat.le_of_ble_eq_true rfl) (Nat.le_of_ble_eq_true rfl) dX10_nextHour_62 ?_
      refine lv_topi (fun x_267 ex_267 => ?_)
      have hx_267 : (99999 ≤ x_266.toInt ∧ x_267.toInt = 99999) ∨ (x_266.toInt < 99999 ∧ x_267.toInt = x_266.toInt) := by rw [ex_267]; exact i_min (show (99999 : Int32).toInt = 99999 from rfl) rfl
      replace hx_267 : x_267.toInt ≤ x_266.toInt ∧ x_267.toInt ≤ 99999 := by omega
      refine va_putN (ci := 9) (v := .int x_267) (ty := .int) (C := RX9) (T := TX9) (N := 10) hx hb hts hw9 tyX9 tyX9_ok nmX9 hown hK hP hD hS 5 rfl rfl 7 (by decide) (nst_use hN 114 rfl) (fun _ h9 => h9) rfl (by decide +kernel) (by first | rfl | decide) (by first | rfl | decide) (Nat.le_of_ble_eq_true rfl) dX10_nextHour_65 (fun H locs hP hD hS => ?_)
      have hP : va_P D vwCl [(r0, .inr (10, [.ref a0])), (a0, .inr (0, [.ref m0, .ref w0])), (m0, .inr (3, [.ref m1, .int (u_264.2.2.2.1 0)])), (m1, .inl (K 0, 64, .inl (u_264.2.1 0))), (w0, .inl (K 0, 9, .inl (u_264.2.1 1))), (t0, .inr (9, [.ref t1, .ref t3, .ref t2, .ref l0, .int n, .int lt, .int nf, .int x_267, k_8, k_9])), (t1, .inl (K 0, 56, .inl f1)), (t2, .inl (K 0, 6, .inl f2)), (t3, .inl (K 0, 24, .inl f3)), (l0, .inl (K 4, 6, .inr (.inr (.inr (.inr fl)))))] H := hP
      have hD : va_D A [(r0, .inr (10, [.ref a0])), (a0, .inr (0, [.ref m0, .ref w0])), (m0, .inr (3, [.ref m1, .int (u_264.2.2.2.1 0)])), (m1, .inl (K 0, 64, .inl (u_264.2.1 0))), (w0, .inl (K 0, 9, .inl (u_264.2.1 1))), (t0, .inr (9, [.ref t1, .ref t3, .ref t2, .ref l0, .int n, .int lt, .int nf, .int x_267, k_8, k_9])), (t1, .inl (K 0, 56, .inl f1)), (t2, .inl (K 0, 6, .inl f2)), (t3, .inl (K 0, 24, .inl f3)), (l0, .inl (K 4, 6, .inr (.inr (.inr (.inr fl)))))] := hD
      refine lv_aload_n hx hb dX10_nextHour_68 rfl (lv_at hl 2 rfl) ?_
      refine lv_aload_n hx hb dX10_nextHour_69 rfl (lv_at hl 3 rfl) ?_
      refine kcv (S := Su) (wr := []) (va_runV (As := [.ref t0]) (rest := []) ⟨hx, hb, hml, hown, hts⟩ (w_burnDown l D K g L r0 t0 a0 m0 w0 m1 (u_264.2.2.2.1 0) (u_264.2.1 0) (u_264.2.1 1) t1 t3 t2 l0 n lt nf x_267 k_8 k_9 f1 f2 f3 fl H.size (by first | omega | decide) (by first | omega | decide) (by first | omega | decide) zfl) (cwV 1 hts gX10_nextHour_X10_burnDown rfl rfl rfl (by decide +kernel) ⟨Nat.le_of_ble_eq_true rfl, Nat.le_of_ble_eq_true rfl⟩) (mkVY hK hN (hP.sub [0, 1, 2, 3, 4, 5, 6, 7, 8, 9] rfl) (hD.sub [0, 1, 2, 3, 4, 5, 6, 7, 8, 9] (by decide) rfl) (ci := 10) (q0 := 0) rfl rfl (fun U hU hW => ⟨Gl.at hG hS hW hU (fun q h => va_free hD hS hA [0, 1, 2, 3, 4, 5, 6, 7, 8, 9] rfl q h), Pool.at hPl hS hU (fun q h => va_free hD hS hA [0, 1, 2, 3, 4, 5, 6, 7, 8, 9] rfl q h), Ro.heap hU (Ro.nil)⟩)) rfl rfl hl.1 rfl (lv_room (Nat.le_of_ble_eq_true rfl)) dX10_nextHour_70 ⟨Nat.le_of_ble_eq_true rfl, Nat.le_of_ble_eq_true rfl⟩) hP hD hS hA [0, 1, 2, 3, 4, 5, 6, 7, 8, 9] [] rfl rfl (by decide) (by decide) (fun u_269 H locs hw hP hD hS => ?_)
      have hP : va_P D vwCl [(r0, .inr (10, [.ref a0])), (a0, .inr (0, [.ref m0, .ref w0])), (m0, .inr (3, [.ref m1, .int (u_269.2.2.2.1 0)])), (m1, .inl (K 0, 64, .inl (u_269.2.1 0))), (w0, .inl (K 0, 9, .inl (u_269.2.1 1))), (t0, .inr (9, [.ref t1, .ref t3, .ref t2, .ref l0, .int n, .int lt, .int nf, .int x_267, k_8, k_9])), (t1, .inl (K 0, 56, .inl (u_269.2.1 2))), (t2, .inl (K 0, 6, .inl f2)), (t3, .inl (K 0, 24, .inl f3)), (l0, .inl (K 4, 6, .inr (.inr (.inr (.inr fl)))))] H := hP
      have hD : va_D A [(r0, .inr (10, [.ref a0])), (a0, .inr (0, [.ref m0, .ref w0])), (m0, .inr (3, [.ref m1, .int (u_269.2.2.2.1 0)])), (m1, .inl (K 0, 64, .inl (u_269.2.1 0))), (w0, .inl (K 0, 9, .inl (u_269.2.1 1))), (t0, .inr (9, [.ref t1, .ref t3, .ref t2, .ref l0, .int n, .int lt, .int nf, .int x_267, k_8, k_9])), (t1, .inl (K 0, 56, .inl (u_269.2.1 2))), (t2, .inl (K 0, 6, .inl f2)), (t3, .inl (K 0, 24, .inl f3)), (l0, .inl (K 4, 6, .inr (.inr (.inr (.inr fl)))))] := hD
      obtain ⟨k_270, -⟩ := hw
      refine lv_aload_n hx hb dX10_nextHour_73 rfl (lv_at hl 3 rfl) ?_
      refine va_getN (ci := 9) (v := .ref t2) (C := RX9) (T := TX9) (N := 10) hx hb hts hw9 hown hK hP 5 rfl rfl 2 (by decide) (nst_use hN 101 rfl) (fun _ h9 => h9) rfl dX10_nextHour_74 ?_
      refine lv_iconst (v := 0) hx hb dX10_nextHour_77 (by decide) ?_
      refine lv_iload_n hx hb dX10_nextHour_78 rfl (lv_at hl 1 rfl) ?_
      refine lv_if_eq (tgt := 86) hx hb dX10_nextHour_79 (by decide) (fun c_271 => ?_) (fun c_271 => ?_)
      · have c_271i := i_eq (x := v_213.toInt) (y := 0) rfl rfl c_271
        refine lv_aload_n hx hb dX10_nextHour_86 rfl (lv_at hl 3 rfl) ?_
        refine va_getN (ci := 9) (v := .ref t2) (C := RX9) (T := TX9) (N := 10) hx hb hts hw9 hown hK hP 5 rfl rfl 2 (by decide) (nst_use hN 101 rfl) (fun _ h9 => h9) rfl dX10_nextHour_87 ?_
        refine lv_iconst (v := 0) hx hb dX10_nextHour_90 (by decide) ?_
        refine va_iald hx hb hK hP 7 0 rfl rfl (i_in (x := 0) rfl (by omega)) dX10_nextHour_91 ?_
        refine lv_topi (fun x_272 ex_272 => ?_)
        refine lv_iconst (v := 1) hx hb dX10_nextHour_92 (by decide) ?_
        refine lv_iadd hx hb dX10_nextHour_93 ?_
        refine lv_topi (fun x_273 ex_273 => ?_)
        refine va_iast hx hb hK hP hD hS 7 0 rfl rfl (i_in (x := 0) rfl (by omega)) dX10_nextHour_94 (fun H locs hP hD hS => ?_)
        generalize hf_274 : (upd f2 (0 : Int32).toNatClampNeg x_273) = f_274 at hP hD
        have hP : va_P D vwCl [(r0, .inr (10, [.ref a0])), (a0, .inr (0, [.ref m0, .ref w0])), (m0, .inr (3, [.ref m1, .int (u_269.2.2.2.1 0)])), (m1, .inl (K 0, 64, .inl (u_269.2.1 0))), (w0, .inl (K 0, 9, .inl (u_269.2.1 1))), (t0, .inr (9, [.ref t1, .ref t3, .ref t2, .ref l0, .int n, .int lt, .int nf, .int x_267, k_8, k_9])), (t1, .inl (K 0, 56, .inl (u_269.2.1 2))), (t2, .inl (K 0, 6, .inl f_274)), (t3, .inl (K 0, 24, .inl f3)), (l0, .inl (K 4, 6, .inr (.inr (.inr (.inr fl)))))] H := hP
        have hD : va_D A [(r0, .inr (10, [.ref a0])), (a0, .inr (0, [.ref m0, .ref w0])), (m0, .inr (3, [.ref m1, .int (u_269.2.2.2.1 0)])), (m1, .inl (K 0, 64, .inl (u_269.2.1 0))), (w0, .inl (K 0, 9, .inl (u_269.2.1 1))), (t0, .inr (9, [.ref t1, .ref t3, .ref t2, .ref l0, .int n, .int lt, .int nf, .int x_267, k_8, k_9])), (t1, .inl (K 0, 56, .inl (u_269.2.1 2))), (t2, .inl (K 0, 6, .inl f_274)), (t3, .inl (K 0, 24, .inl f3)), (l0, .inl (K 4, 6, .inr (.inr (.inr (.inr fl)))))] := hD
        refine lv_aload_n hx hb dX10_nextHour_95 rfl (lv_at hl 3 rfl) ?_
        refine va_getN (ci := 9) (v := .ref t2) (C := RX9) (T := TX9) (N := 10) hx hb hts hw9 hown hK hP 5 rfl rfl 2 (by decide) (nst_use hN 101 rfl) (fun _ h9 => h9) rfl dX10_nextHour_96 ?_
        refine lv_iconst (v := 1) hx hb dX10_nextHour_99 (by decide) ?_
        refine lv_dup2_11 hx hb dX10_nextHour_100 rfl rfl ?_
        refine va_iald hx hb hK hP 7 0 rfl rfl (i_in (x := 1) rfl (by omega)) dX10_nextHour_101 ?_
        refine lv_topi (fun x_275 ex_275 => ?_)
        refine lv_iload_n hx hb dX10_nextHour_102 rfl (lv_at hl 1 rfl) ?_
        refine lv_if_eq (tgt := 110) hx hb dX10_nextHour_103 (by decide) (fun c_276 => ?_) (fun c_276 => ?_)
        · have c_276i := i_eq (x := v_213.toInt) (y := 0) rfl rfl c_276
          refine lv_iconst (v := 0) hx hb dX10_nextHour_110 (by decide) ?_
          refine lv_iadd hx hb dX10_nextHour_111 ?_
          refine lv_topi (fun x_277 ex_277 => ?_)
          have hx_277 : x_277.toInt = (x_275.toInt + 0) := by rw [ex_277]; exact i_add rfl (show (0 : Int32).toInt = 0 from rfl) (by have q1 := i_rng (a := x_275) rfl; omega)
          refine va_iast hx hb hK hP hD hS 7 0 rfl rfl (i_in (x := 1) rfl (by omega)) dX10_nextHour_112 (fun H locs hP hD hS => ?_)
          generalize hf_278 : (upd f_274 (1 : Int32).toNatClampNeg x_277) = f_278 at hP hD
          have hP : va_P D vwCl [(r0, .inr (10, [.ref a0])), (a0, .inr (0, [.ref m0, .ref w0])), (m0, .inr (3, [.ref m1, .int (u_269.2.2.2.1 0)])), (m1, .inl (K 0, 64, .inl (u_269.2.1 0))), (w0, .inl (K 0, 9, .inl (u_269.2.1 1))), (t0, .inr (9, [.ref t1, .ref t3, .ref t2, .ref l0, .int n, .int lt, .int nf, .int x_267, k_8, k_9])), (t1, .inl (K 0, 56, .inl (u_269.2.1 2))), (t2, .inl (K 0, 6, .inl f_278)), (t3, .inl (K 0, 24, .inl f3)), (l0, .inl (K 4, 6, .inr (.inr (.inr (.inr fl)))))] H := hP
          have hD : va_D A [(r0, .inr (10, [.ref a0])), (a0, .inr (0, [.ref m0, .ref w0])), (m0, .inr (3, [.ref m1, .int (u_269.2.2.2.1 0)])), (m1, .inl (K 0, 64, .inl (u_269.2.1 0))), (w0, .inl (K 0, 9, .inl (u_269.2.1 1))), (t0, .inr (9, [.ref t1, .ref t3, .ref t2, .ref l0, .int n, .int lt, .int nf, .int x_267, k_8, k_9])), (t1, .inl (K 0, 56, .inl (u_269.2.1 2))), (t2, .inl (K 0, 6, .inl f_278)), (t3, .inl (K 0, 24, .inl f3)), (l0, .inl (K 4, 6, .inr (.inr (.inr (.inr fl)))))] := hD
          refine lv_iload_n hx hb dX10_nextHour_113 rfl (lv_at hl 0 rfl) ?_
          rw [← hQ]
          have hP9 := hP.sub (ws' := [(r0, .inr (10, [.ref a0])), (a0, .inr (0, [.ref m0, .ref w0])), (m0, .inr (3, [.ref m1, .int (u_269.2.2.2.1 0)])), (m1, .inl (K 0, 64, .inl (u_269.2.1 0))), (w0, .inl (K 0, 9, .inl (u_269.2.1 1))), (t0, .inr (9, [.ref t1, .ref t3, .ref t2, .ref l0, .int n, .int lt, .int nf, .int x_267, k_8, k_9])), (t1, .inl (K 0, 56, .inl (u_269.2.1 2))), (t2, .inl (K 0, 6, .inl f_278)), (t3, .inl (K 0, 24, .inl f3)), (l0, .inl (K 4, 6, .inr (.inr (.inr (.inr fl)))))]) [0, 1, 2, 3, 4, 5, 6, 7, 8, 9] rfl
          have hD9 := hD.sub (ws' := [(r0, .inr (10, [.ref a0])), (a0, .inr (0, [.ref m0, .ref w0])), (m0, .inr (3, [.ref m1, .int (u_269.2.2.2.1 0)])), (m1, .inl (K 0, 64, .inl (u_269.2.1 0))), (w0, .inl (K 0, 9, .inl (u_269.2.1 1))), (t0, .inr (9, [.ref t1, .ref t3, .ref t2, .ref l0, .int n, .int lt, .int nf, .int x_267, k_8, k_9])), (t1, .inl (K 0, 56, .inl (u_269.2.1 2))), (t2, .inl (K 0, 6, .inl f_278)), (t3, .inl (K 0, 24, .inl f3)), (l0, .inl (K 4, 6, .inr (.inr (.inr (.inr fl)))))]) [0, 1, 2, 3, 4, 5, 6, 7, 8, 9] (by decide) rfl
          exact W.iret (v := 0) hx hb hr (fun t ht hW => ⟨⟨0, ((fun _ => 0, fun i => match i with | 0 => (u_269.2.1 0) | 1 => (u_269.2.1 1) | 2 => (u_269.2.1 2) | _ => f_278, fun _ => fun _ => 0, fun i => match i with | 0 => (u_269.2.2.2.1 0) | _ => x_267, fun _ => 0, fun _ => fun _ => none) : Su), rfl, ⟨(show (-3) ≤ (0 : Int32).toInt ∧ (0 : Int32).toInt ≤ 1 by decide), (show 0 ≤ ((u_269.2.2.2.1 0) : Int32).toInt ∧ ((u_269.2.2.2.1 0) : Int32).toInt ≤ 1 by omega), trivial⟩, (⟨by rw [ht]; exact hP9, hD9⟩ : Wd D A _ t)⟩, hS.F ht⟩) hS.2.2 dX10_nextHour_114
        · have c_276i := i_ne (x := v_213.toInt) (y := 0) rfl rfl c_276
          exfalso; omega
      · have c_271i := i_ne (x := v_213.toInt) (y := 0) rfl rfl c_271
        refine lv_iconst (v := 0) hx hb dX10_nextHour_82 (by decide) ?_
        refine lv_goto (tgt := 94) hx hb dX10_nextHour_83 (by decide) ?_
        refine va_iast hx hb hK hP hD hS 7 0 rfl rfl (i_in (x := 0) rfl (by omega)) dX10_nextHour_94 (fun H locs hP hD hS => ?_)
        generalize hf_279 : (upd f2 (0 : Int32).toNatClampNeg 0) = f_279 at hP hD
        have hP : va_P D vwCl [(r0, .inr (10, [.ref a0])), (a0, .inr (0, [.ref m0, .ref w0])), (m0, .inr (3, [.ref m1, .int (u_269.2.2.2.1 0)])), (m1, .inl (K 0, 64, .inl (u_269.2.1 0))), (w0, .inl (K 0, 9, .inl (u_269.2.1 1))), (t0, .inr (9, [.ref t1, .ref t3, .ref t2, .ref l0, .int n, .int lt, .int nf, .int x_267, k_8, k_9])), (t1, .inl (K 0, 56, .inl (u_269.2.1 2))), (t2, .inl (K 0, 6, .inl f_279)), (t3, .inl (K 0, 24, .inl f3)), (l0, .inl (K 4, 6, .inr (.inr (.inr (.inr fl)))))] H := hP
        have hD : va_D A [(r0, .inr (10, [.ref a0])), (a0, .inr (0, [.ref m0, .ref w0])), (m0, .inr (3, [.ref m1, .int (u_269.2.2.2.1 0)])), (m1, .inl (K 0, 64, .inl (u_269.2.1 0))), (w0, .inl (K 0, 9, .inl (u_269.2.1 1))), (t0, .inr (9, [.ref t1, .ref t3, .ref t2, .ref l0, .int n, .int lt, .int nf, .int x_267, k_8, k_9])), (t1, .inl (K 0, 56, .inl (u_269.2.1 2))), (t2, .inl (K 0, 6, .inl f_279)), (t3, .inl (K 0, 24, .inl f3)), (l0, .inl (K 4, 6, .inr (.inr (.inr (.inr fl)))))] := hD
        refine lv_aload_n hx hb dX10_nextHour_95 rfl (lv_at hl 3 rfl) ?_
        refine va_getN (ci := 9) (v := .ref t2) (C := RX9) (T := TX9) (N := 10) hx hb hts hw9 hown hK hP 5 rfl rfl 2 (by decide) (nst_use hN 101 rfl) (fun _ h9 => h9) rfl dX10_nextHour_96 ?_
        refine lv_iconst (v := 1) hx hb dX10_nextHour_99 (by decide) ?_
        refine lv_dup2_11 hx hb dX10_nextHour_100 rfl rfl ?_
        refine va_iald hx hb hK hP 7 0 rfl rfl (i_in (x := 1) rfl (by omega)) dX10_nextHour_101 ?_
        refine lv_topi (fun x_280 ex_280 => ?_)
        refine lv_iload_n hx hb dX10_nextHour_102 rfl (lv_at hl 1 rfl) ?_
        refine lv_if_eq (tgt := 110) hx hb dX10_nextHour_103 (by decide) (fun c_281 => ?_) (fun c_281 => ?_)
        · have c_281i := i_eq (x := v_213.toInt) (y := 0) rfl rfl c_281
          exfalso; omega
        · have c_281i := i_ne (x := v_213.toInt) (y := 0) rfl rfl c_281
          refine lv_iconst (v := 1) hx hb dX10_nextHour_106 (by decide) ?_
          refine lv_goto (tgt := 111) hx hb dX10_nextHour_107 (by decide) ?_
          refine lv_iadd hx hb dX10_nextHour_111 ?_
          refine lv_topi (fun x_282 ex_282 => ?_)
          refine va_iast hx hb hK hP hD hS 7 0 rfl rfl (i_in (x := 1) rfl (by omega)) dX10_nextHour_112 (fun H locs hP hD hS => ?_)
          generalize hf_283 : (upd f_279 (1 : Int32).toNatClampNeg x_282) = f_283 at hP hD
          have hP : va_P D vwCl [(r0, .inr (10, [.ref a0])), (a0, .inr (0, [.ref m0, .ref w0])), (m0, .inr (3, [.ref m1, .int (u_269.2.2.2.1 0)])), (m1, .inl (K 0, 64, .inl (u_269.2.1 0))), (w0, .inl (K 0, 9, .inl (u_269.2.1 1))), (t0, .inr (9, [.ref t1, .ref t3, .ref t2, .ref l0, .int n, .int lt, .int nf, .int x_267, k_8, k_9])), (t1, .inl (K 0, 56, .inl (u_269.2.1 2))), (t2, .inl (K 0, 6, .inl f_283)), (t3, .inl (K 0, 24, .inl f3)), (l0, .inl (K 4, 6, .inr (.inr (.inr (.inr fl)))))] H := hP
          have hD : va_D A [(r0, .inr (10, [.ref a0])), (a0, .inr (0, [.ref m0, .ref w0])), (m0, .inr (3, [.ref m1, .int (u_269.2.2.2.1 0)])), (m1, .inl (K 0, 64, .inl (u_269.2.1 0))), (w0, .inl (K 0, 9, .inl (u_269.2.1 1))), (t0, .inr (9, [.ref t1, .ref t3, .ref t2, .ref l0, .int n, .int lt, .int nf, .int x_267, k_8, k_9])), (t1, .inl (K 0, 56, .inl (u_269.2.1 2))), (t2, .inl (K 0, 6, .inl f_283)), (t3, .inl (K 0, 24, .inl f3)), (l0, .inl (K 4, 6, .inr (.inr (.inr (.inr fl)))))] := hD
          refine lv_iload_n hx hb dX10_nextHour_113 rfl (lv_at hl 0 rfl) ?_
          rw [← hQ]
          have hP9 := hP.sub (ws' := [(r0, .inr (10, [.ref a0])), (a0, .inr (0, [.ref m0, .ref w0])), (m0, .inr (3, [.ref m1, .int (u_269.2.2.2.1 0)])), (m1, .inl (K 0, 64, .inl (u_269.2.1 0))), (w0, .inl (K 0, 9, .inl (u_269.2.1 1))), (t0, .inr (9, [.ref t1, .ref t3, .ref t2, .ref l0, .int n, .int lt, .int nf, .int x_267, k_8, k_9])), (t1, .inl (K 0, 56, .inl (u_269.2.1 2))), (t2, .inl (K 0, 6, .inl f_283)), (t3, .inl (K 0, 24, .inl f3)), (l0, .inl (K 4, 6, .inr (.inr (.inr (.inr fl)))))]) [0, 1, 2, 3, 4, 5, 6, 7, 8, 9] rfl
          have hD9 := hD.sub (ws' := [(r0, .inr (10, [.ref a0])), (a0, .inr (0, [.ref m0, .ref w0])), (m0, .inr (3, [.ref m1, .int (u_269.2.2.2.1 0)])), (m1, .inl (K 0, 64, .inl (u_269.2.1 0))), (w0, .inl (K 0, 9, .inl (u_269.2.1 1))), (t0, .inr (9, [.ref t1, .ref t3, .ref t2, .ref l0, .int n, .int lt, .int nf, .int x_267, k_8, k_9])), (t1, .inl (K 0, 56, .inl (u_269.2.1 2))), (t2, .inl (K 0, 6, .inl f_283)), (t3, .inl (K 0, 24, .inl f3)), (l0, .inl (K 4, 6, .inr (.inr (.inr (.inr fl)))))]) [0, 1, 2, 3, 4, 5, 6, 7, 8, 9] (by decide) rfl
          exact W.iret (v := 0) hx hb hr (fun t ht hW => ⟨⟨0, ((fun _ => 0, fun i => match i with | 0 => (u_269.2.1 0) | 1 => (u_269.2.1 1) | 2 => (u_269.2.1 2) | _ => f_283, fun _ => fun _ => 0, fun i => match i with | 0 => (u_269.2.2.2.1 0) | _ => x_267, fun _ => 0, fun _ => fun _ => none) : Su), rfl, ⟨(show (-3) ≤ (0 : Int32).toInt ∧ (0 : Int32).toInt ≤ 1 by decide), (show 0 ≤ ((u_269.2.2.2.1 0) : Int32).toInt ∧ ((u_269.2.2.2.1 0) : Int32).toInt ≤ 1 by omega), trivial⟩, (⟨by rw [ht]; exact hP9, hD9⟩ : Wd D A _ t)⟩, hS.F ht⟩) hS.2.2 dX10_nextHour_114
    · have c_262i := i_ne (x := r_260.toInt) (y := 0) rfl rfl c_262
      refine lv_iconst (v := 1) hx hb dX10_nextHour_43 (by decide) ?_
      refine lv_goto (tgt := 48) hx hb dX10_nextHour_44 (by decide) ?_
      refine lv_istore_n (lv' := [(3, .int 1), (2, .int v_213), (0, .ref r0), (1, .ref t0)]) hx hb dX10_nextHour_48 rfl hl (by decide) rfl (fun ls hl => ?_)
      refine lv_aload_n hx hb dX10_nextHour_49 rfl (lv_at hl 3 rfl) ?_
      refine lv_ldc (v := 99999) hx hb hown (hts (.constant RX10 64 (99999)) (List.mem_cons_of_mem _ (List.mem_append_left _ (List.mem_append_left _ (List.mem_append_left _ (List.mem_append_left _ (List.mem_append_left _ (List.mem_append_left _ (List.mem_of_getElem? (i := 0) rfl))))))))) dX10_nextHour_50 ?_
      refine lv_aload_n hx hb dX10_nextHour_52 rfl (lv_at hl 3 rfl) ?_
      refine va_getN (ci := 9) (v := .int fi) (C := RX9) (T := TX9) (N := 10) hx hb hts hw9 hown hK hP 5 rfl rfl 7 (by decide) (nst_use hN 114 rfl) (fun _ h9 => h9) rfl dX10_nextHour_53 ?_
      refine lv_aload_n hx hb dX10_nextHour_56 rfl (lv_at hl 2 rfl) ?_
      refine lv_aload_n hx hb dX10_nextHour_57 rfl (lv_at hl 3 rfl) ?_
      refine kci (S := Su) (wr := []) (va_runV (As := [.ref t0]) (rest := [.int fi, .int 99999, .ref t0]) ⟨hx, hb, hml, hown, hts⟩ (w_discords l D K g L r0 t0 a0 m0 w0 m1 br fs fw t1 t3 t2 l0 n lt nf fi k_8 k_9 f1 f2 f3 fl H.size (by first | omega | decide) (by first | omega | decide) (by first | omega | decide) zfl) (cwV 1 hts gX10_nextHour_X10_discords rfl rfl rfl (by decide +kernel) ⟨Nat.le_of_ble_eq_true rfl, Nat.le_of_ble_eq_true rfl⟩) (mkVY hK hN (hP.sub [0, 1, 2, 3, 4, 5, 6, 7, 8, 9] rfl) (hD.sub [0, 1, 2, 3, 4, 5, 6, 7, 8, 9] (by decide) rfl) (ci := 10) (q0 := 0) rfl rfl (fun U hU hW => ⟨Gl.at hG hS hW hU (fun q h => va_free hD hS hA [0, 1, 2, 3, 4, 5, 6, 7, 8, 9] rfl q h), Pool.at hPl hS hU (fun q h => va_free hD hS hA [0, 1, 2, 3, 4, 5, 6, 7, 8, 9] rfl q h), Ro.heap hU (Ro.nil)⟩)) rfl rfl hl.1 rfl (lv_room (Nat.le_of_ble_eq_true rfl)) dX10_nextHour_58 ⟨Nat.le_of_ble_eq_true rfl, Nat.le_of_ble_eq_true rfl⟩) hP hD hS hA [0, 1, 2, 3, 4, 5, 6, 7, 8, 9] [] rfl rfl (by decide) (by decide) (fun r_284 u_285 H locs hw hP hD hS => ?_)
      have hP : va_P D vwCl [(r0, .inr (10, [.ref a0])), (a0, .inr (0, [.ref m0, .ref w0])), (m0, .inr (3, [.ref m1, .int (u_285.2.2.2.1 0)])), (m1, .inl (K 0, 64, .inl (u_285.2.1 0))), (w0, .inl (K 0, 9, .inl (u_285.2.1 1))), (t0, .inr (9, [.ref t1, .ref t3, .ref t2, .ref l0, .int n, .int lt, .int nf, .int fi, k_8, k_9])), (t1, .inl (K 0, 56, .inl f1)), (t2, .inl (K 0, 6, .inl f2)), (t3, .inl (K 0, 24, .inl f3)), (l0, .inl (K 4, 6, .inr (.inr (.inr (.inr fl)))))] H := hP
      have hD : va_D A [(r0, .inr (10, [.ref a0])), (a0, .inr (0, [.ref m0, .ref w0])), (m0, .inr (3, [.ref m1, .int (u_285.2.2.2.1 0)])), (m1, .inl (K 0, 64, .inl (u_285.2.1 0))), (w0, .inl (K 0, 9, .inl (u_285.2.1 1))), (t0, .inr (9, [.ref t1, .ref t3, .ref t2, .ref l0, .int n, .int lt, .int nf, .int fi, k_8, k_9])), (t1, .inl (K 0, 56, .inl f1)), (t2, .inl (K 0, 6, .inl f2)), (t3, .inl (K 0, 24, .inl f3)), (l0, .inl (K 4, 6, .inr (.inr (.inr (.inr fl)))))] := hD
      obtain ⟨k_286, -⟩ := hw
      refine lv_iadd hx hb dX10_nextHour_61 ?_
      refine lv_topi (fun x_287 ex_287 => ?_)
      refine va_mmin hx hb (hml.trans hl.1.symm) hown (hts (.methodLink RX10 40 Lib.Math.min.name) (List.mem_cons_of_mem _ (List.mem_append_left _ (List.mem_append_left _ (List.mem_append_left _ (List.mem_append_left _ (List.mem_append_left _ (List.mem_append_left _ (List.mem_of_getElem? (i := 1) rfl))))))))) (hts (.static Lib.Math.min.name) (List.mem_cons_of_mem _ (List.mem_append_left _ (List.mem_append_left _ (List.mem_append_left _ (List.mem_append_left _ (List.mem_append_left _ (List.mem_append_left _ (List.mem_of_getElem? (i := 2) rfl))))))))) (hts (.initialized "java/lang/Math") (List.mem_cons_of_mem _ (List.mem_append_left _ (List.mem_append_left _ (List.mem_append_left _ (List.mem_append_left _ (List.mem_append_left _ (List.mem_append_left _ (List.mem_of_getElem? (i := 3) rfl))))))))) (hts (.code Lib.Math.min.name Lib.Math.min.code 2 (some .int)) (List.mem_cons_of_mem _ (List.mem_append_left _ (List.mem_append_left _ (List.mem_append_left _ (List.mem_append_left _ (List.mem_append_left _ (List.mem_append_left _ (List.mem_of_getElem? (i := 4) rfl))))))))) (Nat.le_of_ble_eq_true rfl) (Nat.le_of_ble_eq_true rfl) (Nat.le_of_ble_eq_true rfl) (Nat.le_of_ble_eq_true rfl) dX10_nextHour_62 ?_
      refine lv_topi (fun x_288 ex_288 => ?_)
      have hx_288 : (99999 ≤ x_287.toInt ∧ x_288.toInt = 99999) ∨ (x_287.toInt < 99999 ∧ x_288.toInt = x_287.toInt) := by rw [ex_288]; exact i_min (show (99999 : Int32).toInt = 99999 from rfl) rfl
      replace hx_288 : x_288.toInt ≤ x_287.toInt ∧ x_288.toInt ≤ 99999 := by omega
      refine va_putN (ci := 9) (v := .int x_288) (ty := .int) (C := RX9) (T := TX9) (N := 10) hx hb hts hw9 tyX9 tyX9_ok nmX9 hown hK hP hD hS 5 rfl rfl 7 (by decide) (nst_use hN 114 rfl) (fun _ h9 => h9) rfl (by decide +kernel) (by first | rfl | decide) (by first | rfl | decide) (Nat.le_of_ble_eq_true rfl) dX10_nextHour_65 (fun H locs hP hD hS => ?_)
      have hP : va_P D vwCl [(r0, .inr (10, [.ref a0])), (a0, .inr (0, [.ref m0, .ref w0])), (m0, .inr (3, [.ref m1, .int (u_285.2.2.2.1 0)])), (m1, .inl (K 0, 64, .inl (u_285.2.1 0))), (w0, .inl (K 0, 9, .inl (u_285.2.1 1))), (t0, .inr (9, [.ref t1, .ref t3, .ref t2, .ref l0, .int n, .int lt, .int nf, .int x_288, k_8, k_9])), (t1, .inl (K 0, 56, .inl f1)), (t2, .inl (K 0, 6, .inl f2)), (t3, .inl (K 0, 24, .inl f3)), (l0, .inl (K 4, 6, .inr (.inr (.inr (.inr fl)))))] H := hP
      have hD : va_D A [(r0, .inr (10, [.ref a0])), (a0, .inr (0, [.ref m0, .ref w0])), (m0, .inr (3, [.ref m1, .int (u_285.2.2.2.1 0)])), (m1, .inl (K 0, 64, .inl (u_285.2.1 0))), (w0, .inl (K 0, 9, .inl (u_285.2.1 1))), (t0, .inr (9, [.ref t1, .ref t3, .ref t2, .ref l0, .int n, .int lt, .int nf, .int x_288, k_8, k_9])), (t1, .inl (K 0, 56, .inl f1)), (t2, .inl (K 0, 6, .inl f2)), (t3, .inl (K 0, 24, .inl f3)), (l0, .inl (K 4, 6, .inr (.inr (.inr (.inr fl)))))] := hD
      refine lv_aload_n hx hb dX10_nextHour_68 rfl (lv_at hl 2 rfl) ?_
      refine lv_aload_n hx hb dX10_nextHour_69 rfl (lv_at hl 3 rfl) ?_
      refine kcv (S := Su) (wr := []) (va_runV (As := [.ref t0]) (rest := []) ⟨hx, hb, hml, hown, hts⟩ (w_burnDown l D K g L r0 t0 a0 m0 w0 m1 (u_285.2.2.2.1 0) (u_285.2.1 0) (u_285.2.1 1) t1 t3 t2 l0 n lt nf x_288 k_8 k_9 f1 f2 f3 fl H.size (by first | omega | decide) (by first | omega | decide) (by first | omega | decide) zfl) (cwV 1 hts gX10_nextHour_X10_burnDown rfl rfl rfl (by decide +kernel) ⟨Nat.le_of_ble_eq_true rfl, Nat.le_of_ble_eq_true rfl⟩) (mkVY hK hN (hP.sub [0, 1, 2, 3, 4, 5, 6, 7, 8, 9] rfl) (hD.sub [0, 1, 2, 3, 4, 5, 6, 7, 8, 9] (by decide) rfl) (ci := 10) (q0 := 0) rfl rfl (fun U hU hW => ⟨Gl.at hG hS hW hU (fun q h => va_free hD hS hA [0, 1, 2, 3, 4, 5, 6, 7, 8, 9] rfl q h), Pool.at hPl hS hU (fun q h => va_free hD hS hA [0, 1, 2, 3, 4, 5, 6, 7, 8, 9] rfl q h), Ro.heap hU (Ro.nil)⟩)) rfl rfl hl.1 rfl (lv_room (Nat.le_of_ble_eq_true rfl)) dX10_nextHour_70 ⟨Nat.le_of_ble_eq_true rfl, Nat.le_of_ble_eq_true rfl⟩) hP hD hS hA [0, 1, 2, 3, 4, 5, 6, 7, 8, 9] [] rfl rfl (by decide) (by decide) (fun u_290 H locs hw hP hD hS => ?_)
      have hP : va_P D vwCl [(r0, .inr (10, [.ref a0])), (a0, .inr (0, [.ref m0, .ref w0])), (m0, .inr (3, [.ref m1, .int (u_290.2.2.2.1 0)])), (m1, .inl (K 0, 64, .inl (u_290.2.1 0))), (w0, .inl (K 0, 9, .inl (u_290.2.1 1))), (t0, .inr (9, [.ref t1, .ref t3, .ref t2, .ref l0, .int n, .int lt, .int nf, .int x_288, k_8, k_9])), (t1, .inl (K 0, 56, .inl (u_290.2.1 2))), (t2, .inl (K 0, 6, .inl f2)), (t3, .inl (K 0, 24, .inl f3)), (l0, .inl (K 4, 6, .inr (.inr (.inr (.inr fl)))))] H := hP
      have hD : va_D A [(r0, .inr (10, [.ref a0])), (a0, .inr (0, [.ref m0, .ref w0])), (m0, .inr (3, [.ref m1, .int (u_290.2.2.2.1 0)])), (m1, .inl (K 0, 64, .inl (u_290.2.1 0))), (w0, .inl (K 0, 9, .inl (u_290.2.1 1))), (t0, .inr (9, [.ref t1, .ref t3, .ref t2, .ref l0, .int n, .int lt, .int nf, .int x_288, k_8, k_9])), (t1, .inl (K 0, 56, .inl (u_290.2.1 2))), (t2, .inl (K 0, 6, .inl f2)), (t3, .inl (K 0, 24, .inl f3)), (l0, .inl (K 4, 6, .inr (.inr (.inr (.inr fl)))))] := hD
      obtain ⟨k_291, -⟩ := hw
      refine lv_aload_n hx hb dX10_nextHour_73 rfl (lv_at hl 3 rfl) ?_
      refine va_getN (ci := 9) (v := .ref t2) (C := RX9) (T := TX9) (N := 10) hx hb hts hw9 hown hK hP 5 rfl rfl 2 (by decide) (nst_use hN 101 rfl) (fun _ h9 => h9) rfl dX10_nextHour_74 ?_
      refine lv_iconst (v := 0) hx hb dX10_nextHour_77 (by decide) ?_
      refine lv_iload_n hx hb dX10_nextHour_78 rfl (lv_at hl 1 rfl) ?_
      refine lv_if_eq (tgt := 86) hx hb dX10_nextHour_79 (by decide) (fun c_292 => ?_) (fun c_292 => ?_)
      · have c_292i := i_eq (x := v_213.toInt) (y := 0) rfl rfl c_292
        refine lv_aload_n hx hb dX10_nextHour_86 rfl (lv_at hl 3 rfl) ?_
        refine va_getN (ci := 9) (v := .ref t2) (C := RX9) (T := TX9) (N := 10) hx hb hts hw9 hown hK hP 5 rfl rfl 2 (by decide) (nst_use hN 101 rfl) (fun _ h9 => h9) rfl dX10_nextHour_87 ?_
        refine lv_iconst (v := 0) hx hb dX10_nextHour_90 (by decide) ?_
        refine va_iald hx hb hK hP 7 0 rfl rfl (i_in (x := 0) rfl (by omega)) dX10_nextHour_91 ?_
        refine lv_topi (fun x_293 ex_293 => ?_)
        refine lv_iconst (v := 1) hx hb dX10_nextHour_92 (by decide) ?_
        refine lv_iadd hx hb dX10_nextHour_93 ?_
        refine lv_topi (fun x_294 ex_294 => ?_)
        refine va_iast hx hb hK hP hD hS 7 0 rfl rfl (i_in (x := 0) rfl (by omega)) dX10_nextHour_94 (fun H locs hP hD hS => ?_)
        generalize hf_295 : (upd f2 (0 : Int32).toNatClampNeg x_294) = f_295 at hP hD
        have hP : va_P D vwCl [(r0, .inr (10, [.ref a0])), (a0, .inr (0, [.ref m0, .ref w0])), (m0, .inr (3, [.ref m1, .int (u_290.2.2.2.1 0)])), (m1, .inl (K 0, 64, .inl (u_290.2.1 0))), (w0, .inl (K 0, 9, .inl (u_290.2.1 1))), (t0, .inr (9, [.ref t1, .ref t3, .ref t2, .ref l0, .int n, .int lt, .int nf, .int x_288, k_8, k_9])), (t1, .inl (K 0, 56, .inl (u_290.2.1 2))), (t2, .inl (K 0, 6, .inl f_295)), (t3, .inl (K 0, 24, .inl f3)), (l0, .inl (K 4, 6, .inr (.inr (.inr (.inr fl)))))] H := hP
        have hD : va_D A [(r0, .inr (10, [.ref a0])), (a0, .inr (0, [.ref m0, .ref w0])), (m0, .inr (3, [.ref m1, .int (u_290.2.2.2.1 0)])), (m1, .inl (K 0, 64, .inl (u_290.2.1 0))), (w0, .inl (K 0, 9, .inl (u_290.2.1 1))), (t0, .inr (9, [.ref t1, .ref t3, .ref t2, .ref l0, .int n, .int lt, .int nf, .int x_288, k_8, k_9])), (t1, .inl (K 0, 56, .inl (u_290.2.1 2))), (t2, .inl (K 0, 6, .inl f_295)), (t3, .inl (K 0, 24, .inl f3)), (l0, .inl (K 4, 6, .inr (.inr (.inr (.inr fl)))))] := hD
        refine lv_aload_n hx hb dX10_nextHour_95 rfl (lv_at hl 3 rfl) ?_
        refine va_getN (ci := 9) (v := .ref t2) (C := RX9) (T := TX9) (N := 10) hx hb hts hw9 hown hK hP 5 rfl rfl 2 (by decide) (nst_use hN 101 rfl) (fun _ h9 => h9) rfl dX10_nextHour_96 ?_
        refine lv_iconst (v := 1) hx hb dX10_nextHour_99 (by decide) ?_
        refine lv_dup2_11 hx hb dX10_nextHour_100 rfl rfl ?_
        refine va_iald hx hb hK hP 7 0 rfl rfl (i_in (x := 1) rfl (by omega)) dX10_nextHour_101 ?_
        refine lv_topi (fun x_296 ex_296 => ?_)
        refine lv_iload_n hx hb dX10_nextHour_102 rfl (lv_at hl 1 rfl) ?_
        refine lv_if_eq (tgt := 110) hx hb dX10_nextHour_103 (by decide) (fun c_297 => ?_) (fun c_297 => ?_)
        · have c_297i := i_eq (x := v_213.toInt) (y := 0) rfl rfl c_297
          refine lv_iconst (v := 0) hx hb dX10_nextHour_110 (by decide) ?_
          refine lv_iadd hx hb dX10_nextHour_111 ?_
          refine lv_topi (fun x_298 ex_298 => ?_)
          have hx_298 : x_298.toInt = (x_296.toInt + 0) := by rw [ex_298]; exact i_add rfl (show (0 : Int32).toInt = 0 from rfl) (by have q1 := i_rng (a := x_296) rfl; omega)
          refine va_iast hx hb hK hP hD hS 7 0 rfl rfl (i_in (x := 1) rfl (by omega)) dX10_nextHour_112 (fun H locs hP hD hS => ?_)
          generalize hf_299 : (upd f_295 (1 : Int32).toNatClampNeg x_298) = f_299 at hP hD
          have hP : va_P D vwCl [(r0, .inr (10, [.ref a0])), (a0, .inr (0, [.ref m0, .ref w0])), (m0, .inr (3, [.ref m1, .int (u_290.2.2.2.1 0)])), (m1, .inl (K 0, 64, .inl (u_290.2.1 0))), (w0, .inl (K 0, 9, .inl (u_290.2.1 1))), (t0, .inr (9, [.ref t1, .ref t3, .ref t2, .ref l0, .int n, .int lt, .int nf, .int x_288, k_8, k_9])), (t1, .inl (K 0, 56, .inl (u_290.2.1 2))), (t2, .inl (K 0, 6, .inl f_299)), (t3, .inl (K 0, 24, .inl f3)), (l0, .inl (K 4, 6, .inr (.inr (.inr (.inr fl)))))] H := hP
          have hD : va_D A [(r0, .inr (10, [.ref a0])), (a0, .inr (0, [.ref m0, .ref w0])), (m0, .inr (3, [.ref m1, .int (u_290.2.2.2.1 0)])), (m1, .inl (K 0, 64, .inl (u_290.2.1 0))), (w0, .inl (K 0, 9, .inl (u_290.2.1 1))), (t0, .inr (9, [.ref t1, .ref t3, .ref t2, .ref l0, .int n, .int lt, .int nf, .int x_288, k_8, k_9])), (t1, .inl (K 0, 56, .inl (u_290.2.1 2))), (t2, .inl (K 0, 6, .inl f_299)), (t3, .inl (K 0, 24, .inl f3)), (l0, .inl (K 4, 6, .inr (.inr (.inr (.inr fl)))))] := hD
          refine lv_iload_n hx hb dX10_nextHour_113 rfl (lv_at hl 0 rfl) ?_
          rw [← hQ]
          have hP9 := hP.sub (ws' := [(r0, .inr (10, [.ref a0])), (a0, .inr (0, [.ref m0, .ref w0])), (m0, .inr (3, [.ref m1, .int (u_290.2.2.2.1 0)])), (m1, .inl (K 0, 64, .inl (u_290.2.1 0))), (w0, .inl (K 0, 9, .inl (u_290.2.1 1))), (t0, .inr (9, [.ref t1, .ref t3, .ref t2, .ref l0, .int n, .int lt, .int nf, .int x_288, k_8, k_9])), (t1, .inl (K 0, 56, .inl (u_290.2.1 2))), (t2, .inl (K 0, 6, .inl f_299)), (t3, .inl (K 0, 24, .inl f3)), (l0, .inl (K 4, 6, .inr (.inr (.inr (.inr fl)))))]) [0, 1, 2, 3, 4, 5, 6, 7, 8, 9] rfl
          have hD9 := hD.sub (ws' := [(r0, .inr (10, [.ref a0])), (a0, .inr (0, [.ref m0, .ref w0])), (m0, .inr (3, [.ref m1, .int (u_290.2.2.2.1 0)])), (m1, .inl (K 0, 64, .inl (u_290.2.1 0))), (w0, .inl (K 0, 9, .inl (u_290.2.1 1))), (t0, .inr (9, [.ref t1, .ref t3, .ref t2, .ref l0, .int n, .int lt, .int nf, .int x_288, k_8, k_9])), (t1, .inl (K 0, 56, .inl (u_290.2.1 2))), (t2, .inl (K 0, 6, .inl f_299)), (t3, .inl (K 0, 24, .inl f3)), (l0, .inl (K 4, 6, .inr (.inr (.inr (.inr fl)))))]) [0, 1, 2, 3, 4, 5, 6, 7, 8, 9] (by decide) rfl
          exact W.iret (v := 1) hx hb hr (fun t ht hW => ⟨⟨1, ((fun _ => 0, fun i => match i with | 0 => (u_290.2.1 0) | 1 => (u_290.2.1 1) | 2 => (u_290.2.1 2) | _ => f_299, fun _ => fun _ => 0, fun i => match i with | 0 => (u_290.2.2.2.1 0) | _ => x_288, fun _ => 0, fun _ => fun _ => none) : Su), rfl, ⟨(show (-3) ≤ (1 : Int32).toInt ∧ (1 : Int32).toInt ≤ 1 by decide), (show 0 ≤ ((u_290.2.2.2.1 0) : Int32).toInt ∧ ((u_290.2.2.2.1 0) : Int32).toInt ≤ 1 by omega), trivial⟩, (⟨by rw [ht]; exact hP9, hD9⟩ : Wd D A _ t)⟩, hS.F ht⟩) hS.2.2 dX10_nextHour_114
        · have c_297i := i_ne (x := v_213.toInt) (y := 0) rfl rfl c_297
          exfalso; omega
      · have c_292i := i_ne (x := v_213.toInt) (y := 0) rfl rfl c_292
        refine lv_iconst (v := 0) hx hb dX10_nextHour_82 (by decide) ?_
        refine lv_goto (tgt := 94) hx hb dX10_nextHour_83 (by decide) ?_
        refine va_iast hx hb hK hP hD hS 7 0 rfl rfl (i_in (x := 0) rfl (by omega)) dX10_nextHour_94 (fun H locs hP hD hS => ?_)
        generalize hf_300 : (upd f2 (0 : Int32).toNatClampNeg 0) = f_300 at hP hD
        have hP : va_P D vwCl [(r0, .inr (10, [.ref a0])), (a0, .inr (0, [.ref m0, .ref w0])), (m0, .inr (3, [.ref m1, .int (u_290.2.2.2.1 0)])), (m1, .inl (K 0, 64, .inl (u_290.2.1 0))), (w0, .inl (K 0, 9, .inl (u_290.2.1 1))), (t0, .inr (9, [.ref t1, .ref t3, .ref t2, .ref l0, .int n, .int lt, .int nf, .int x_288, k_8, k_9])), (t1, .inl (K 0, 56, .inl (u_290.2.1 2))), (t2, .inl (K 0, 6, .inl f_300)), (t3, .inl (K 0, 24, .inl f3)), (l0, .inl (K 4, 6, .inr (.inr (.inr (.inr fl)))))] H := hP
        have hD : va_D A [(r0, .inr (10, [.ref a0])), (a0, .inr (0, [.ref m0, .ref w0])), (m0, .inr (3, [.ref m1, .int (u_290.2.2.2.1 0)])), (m1, .inl (K 0, 64, .inl (u_290.2.1 0))), (w0, .inl (K 0, 9, .inl (u_290.2.1 1))), (t0, .inr (9, [.ref t1, .ref t3, .ref t2, .ref l0, .int n, .int lt, .int nf, .int x_288, k_8, k_9])), (t1, .inl (K 0, 56, .inl (u_290.2.1 2))), (t2, .inl (K 0, 6, .inl f_300)), (t3, .inl (K 0, 24, .inl f3)), (l0, .inl (K 4, 6, .inr (.inr (.inr (.inr fl)))))] := hD
        refine lv_aload_n hx hb dX10_nextHour_95 rfl (lv_at hl 3 rfl) ?_
        refine va_getN (ci := 9) (v := .ref t2) (C := RX9) (T := TX9) (N := 10) hx hb hts hw9 hown hK hP 5 rfl rfl 2 (by decide) (nst_use hN 101 rfl) (fun _ h9 => h9) rfl dX10_nextHour_96 ?_
        refine lv_iconst (v := 1) hx hb dX10_nextHour_99 (by decide) ?_
        refine lv_dup2_11 hx hb dX10_nextHour_100 rfl rfl ?_
        refine va_iald hx hb hK hP 7 0 rfl rfl (i_in (x := 1) rfl (by omega)) dX10_nextHour_101 ?_
        refine lv_topi (fun x_301 ex_301 => ?_)
        refine lv_iload_n hx hb dX10_nextHour_102 rfl (lv_at hl 1 rfl) ?_
        refine lv_if_eq (tgt := 110) hx hb dX10_nextHour_103 (by decide) (fun c_302 => ?_) (fun c_302 => ?_)
        · have c_302i := i_eq (x := v_213.toInt) (y := 0) rfl rfl c_302
          exfalso; omega
        · have c_302i := i_ne (x := v_213.toInt) (y := 0) rfl rfl c_302
          refine lv_iconst (v := 1) hx hb dX10_nextHour_106 (by decide) ?_
          refine lv_goto (tgt := 111) hx hb dX10_nextHour_107 (by decide) ?_
          refine lv_iadd hx hb dX10_nextHour_111 ?_
          refine lv_topi (fun x_303 ex_303 => ?_)
          refine va_iast hx hb hK hP hD hS 7 0 rfl rfl (i_in (x := 1) rfl (by omega)) dX10_nextHour_112 (fun H locs hP hD hS => ?_)
          generalize hf_304 : (upd f_300 (1 : Int32).toNatClampNeg x_303) = f_304 at hP hD
          have hP : va_P D vwCl [(r0, .inr (10, [.ref a0])), (a0, .inr (0, [.ref m0, .ref w0])), (m0, .inr (3, [.ref m1, .int (u_290.2.2.2.1 0)])), (m1, .inl (K 0, 64, .inl (u_290.2.1 0))), (w0, .inl (K 0, 9, .inl (u_290.2.1 1))), (t0, .inr (9, [.ref t1, .ref t3, .ref t2, .ref l0, .int n, .int lt, .int nf, .int x_288, k_8, k_9])), (t1, .inl (K 0, 56, .inl (u_290.2.1 2))), (t2, .inl (K 0, 6, .inl f_304)), (t3, .inl (K 0, 24, .inl f3)), (l0, .inl (K 4, 6, .inr (.inr (.inr (.inr fl)))))] H := hP
          have hD : va_D A [(r0, .inr (10, [.ref a0])), (a0, .inr (0, [.ref m0, .ref w0])), (m0, .inr (3, [.ref m1, .int (u_290.2.2.2.1 0)])), (m1, .inl (K 0, 64, .inl (u_290.2.1 0))), (w0, .inl (K 0, 9, .inl (u_290.2.1 1))), (t0, .inr (9, [.ref t1, .ref t3, .ref t2, .ref l0, .int n, .int lt, .int nf, .int x_288, k_8, k_9])), (t1, .inl (K 0, 56, .inl (u_290.2.1 2))), (t2, .inl (K 0, 6, .inl f_304)), (t3, .inl (K 0, 24, .inl f3)), (l0, .inl (K 4, 6, .inr (.inr (.inr (.inr fl)))))] := hD
          refine lv_iload_n hx hb dX10_nextHour_113 rfl (lv_at hl 0 rfl) ?_
          rw [← hQ]
          have hP9 := hP.sub (ws' := [(r0, .inr (10, [.ref a0])), (a0, .inr (0, [.ref m0, .ref w0])), (m0, .inr (3, [.ref m1, .int (u_290.2.2.2.1 0)])), (m1, .inl (K 0, 64, .inl (u_290.2.1 0))), (w0, .inl (K 0, 9, .inl (u_290.2.1 1))), (t0, .inr (9, [.ref t1, .ref t3, .ref t2, .ref l0, .int n, .int lt, .int nf, .int x_288, k_8, k_9])), (t1, .inl (K 0, 56, .inl (u_290.2.1 2))), (t2, .inl (K 0, 6, .inl f_304)), (t3, .inl (K 0, 24, .inl f3)), (l0, .inl (K 4, 6, .inr (.inr (.inr (.inr fl)))))]) [0, 1, 2, 3, 4, 5, 6, 7, 8, 9] rfl
          have hD9 := hD.sub (ws' := [(r0, .inr (10, [.ref a0])), (a0, .inr (0, [.ref m0, .ref w0])), (m0, .inr (3, [.ref m1, .int (u_290.2.2.2.1 0)])), (m1, .inl (K 0, 64, .inl (u_290.2.1 0))), (w0, .inl (K 0, 9, .inl (u_290.2.1 1))), (t0, .inr (9, [.ref t1, .ref t3, .ref t2, .ref l0, .int n, .int lt, .int nf, .int x_288, k_8, k_9])), (t1, .inl (K 0, 56, .inl (u_290.2.1 2))), (t2, .inl (K 0, 6, .inl f_304)), (t3, .inl (K 0, 24, .inl f3)), (l0, .inl (K 4, 6, .inr (.inr (.inr (.inr fl)))))]) [0, 1, 2, 3, 4, 5, 6, 7, 8, 9] (by decide) rfl
          exact W.iret (v := 1) hx hb hr (fun t ht hW => ⟨⟨1, ((fun _ => 0, fun i => match i with | 0 => (u_290.2.1 0) | 1 => (u_290.2.1 1) | 2 => (u_290.2.1 2) | _ => f_304, fun _ => fun _ => 0, fun i => match i with | 0 => (u_290.2.2.2.1 0) | _ => x_288, fun _ => 0, fun _ => fun _ => none) : Su), rfl, ⟨(show (-3) ≤ (1 : Int32).toInt ∧ (1 : Int32).toInt ≤ 1 by decide), (show 0 ≤ ((u_290.2.2.2.1 0) : Int32).toInt ∧ ((u_290.2.2.2.1 0) : Int32).toInt ≤ 1 by omega), trivial⟩, (⟨by rw [ht]; exact hP9, hD9⟩ : Wd D A _ t)⟩, hS.F ht⟩) hS.2.2 dX10_nextHour_114
  refine lv_icmp_ne (tgt := 15) hx hb dX10_nextHour_8 (by decide) (fun c_305 => ?_) (fun c_305 => ?_)
  · have c_305i := i_ne (x := x_207.toInt) (y := 23) rfl rfl c_305
    refine lv_iconst (v := 0) hx hb dX10_nextHour_15 (by decide) ?_
    refine lv_istore_n (lv' := [(2, .int 0), (0, .ref r0), (1, .ref t0)]) hx hb dX10_nextHour_16 rfl hl (by decide) rfl (fun ls hl => ?_)
    refine lv_iload_n hx hb dX10_nextHour_17 rfl (lv_at hl 0 rfl) ?_
    refine lv_if_eq (tgt := 36) hx hb dX10_nextHour_18 (by decide) (fun c_306 => ?_) (fun c_306 => absurd (by decide) c_306)
    exact j_259 0 (by decide) _ _ hP hD hS ls (lv_sub hl [0, 1, 2] rfl)
  · have c_305i := i_eq (x := x_207.toInt) (y := 23) rfl rfl c_305
    refine lv_iconst (v := 1) hx hb dX10_nextHour_11 (by decide) ?_
    refine lv_goto (tgt := 16) hx hb dX10_nextHour_12 (by decide) ?_
    refine lv_istore_n (lv' := [(2, .int 1), (0, .ref r0), (1, .ref t0)]) hx hb dX10_nextHour_16 rfl hl (by decide) rfl (fun ls hl => ?_)
    refine lv_iload_n hx hb dX10_nextHour_17 rfl (lv_at hl 0 rfl) ?_
    refine lv_if_eq (tgt := 36) hx hb dX10_nextHour_18 (by decide) (fun c_307 => absurd c_307 (by decide)) (fun c_307 => ?_)
    refine lv_aload_n hx hb dX10_nextHour_21 rfl (lv_at hl 2 rfl) ?_
    refine va_getN (ci := 9) (v := .ref t2) (C := RX9) (T := TX9) (N := 10) hx hb hts hw9 hown hK hP 5 rfl rfl 2 (by decide) (nst_use hN 101 rfl) (fun _ h9 => h9) rfl dX10_nextHour_22 ?_
    refine lv_iconst (v := 1) hx hb dX10_nextHour_25 (by decide) ?_
    refine va_iald hx hb hK hP 7 0 rfl rfl (i_in (x := 1) rfl (by omega)) dX10_nextHour_26 ?_
    refine lv_topi (fun x_308 ex_308 => ?_)
    refine lv_sipush (v := 999) hx hb dX10_nextHour_27 (by decide) ?_
    refine lv_icmp_lt (tgt := 36) hx hb dX10_nextHour_30 (by decide) (fun c_309 => ?_) (fun c_309 => ?_)
    · have c_309i := i_lt (x := x_308.toInt) (y := 999) rfl rfl c_309
      exact j_259 1 (by decide) _ _ hP hD hS ls (lv_sub hl [0, 1, 2] rfl)
    · have c_309i := i_nlt (x := x_308.toInt) (y := 999) rfl rfl c_309
      refine lv_bipush (v := (-3)) hx hb dX10_nextHour_33 (by decide) ?_
      rw [← hQ]
      have hP9 := hP.sub (ws' := [(r0, .inr (10, [.ref a0])), (a0, .inr (0, [.ref m0, .ref w0])), (m0, .inr (3, [.ref m1, .int br])), (m1, .inl (K 0, 64, .inl fs)), (w0, .inl (K 0, 9, .inl fw)), (t0, .inr (9, [.ref t1, .ref t3, .ref t2, .ref l0, .int n, .int lt, .int nf, .int fi, k_8, k_9])), (t1, .inl (K 0, 56, .inl f1)), (t2, .inl (K 0, 6, .inl f2)), (t3, .inl (K 0, 24, .inl f3)), (l0, .inl (K 4, 6, .inr (.inr (.inr (.inr fl)))))]) [0, 1, 2, 3, 4, 5, 6, 7, 8, 9] rfl
      have hD9 := hD.sub (ws' := [(r0, .inr (10, [.ref a0])), (a0, .inr (0, [.ref m0, .ref w0])), (m0, .inr (3, [.ref m1, .int br])), (m1, .inl (K 0, 64, .inl fs)), (w0, .inl (K 0, 9, .inl fw)), (t0, .inr (9, [.ref t1, .ref t3, .ref t2, .ref l0, .int n, .int lt, .int nf, .int fi, k_8, k_9])), (t1, .inl (K 0, 56, .inl f1)), (t2, .inl (K 0, 6, .inl f2)), (t3, .inl (K 0, 24, .inl f3)), (l0, .inl (K 4, 6, .inr (.inr (.inr (.inr fl)))))]) [0, 1, 2, 3, 4, 5, 6, 7, 8, 9] (by decide) rfl
      exact W.iret (v := (-3)) hx hb hr (fun t ht hW => ⟨⟨(-3), ((fun _ => 0, fun i => match i with | 0 => fs | 1 => fw | 2 => f1 | _ => f2, fun _ => fun _ => 0, fun i => match i with | 0 => br | _ => fi, fun _ => 0, fun _ => fun _ => none) : Su), rfl, ⟨(show (-3) ≤ ((-3) : Int32).toInt ∧ ((-3) : Int32).toInt ≤ 1 by decide), (show 0 ≤ (br : Int32).toInt ∧ (br : Int32).toInt ≤ 1 by omega), trivial⟩, (⟨by rw [ht]; exact hP9, hD9⟩ : Wd D A _ t)⟩, hS.F ht⟩) hS.2.2 dX10_nextHour_35
set_option maxHeartbeats 4000000 in
set_option maxRecDepth 100000 in
theorem w_byDraws (l : Launch) (D : va_G) (K : Nat → ClassId) (g : Nat → Nat) (L : Nat → Prop) (r0 : Nat) (t0 : Nat) (x : Int32) (y : Int32) (a0 : Nat) (m0 : Nat) (w0 : Nat) (m1 : Nat) (br : Int32) (fs : Nat → Int32) (fw : Nat → Int32) (t1 : Nat) (t3 : Nat) (t2 : Nat) (l0 : Nat) (n : Int32) (lt : Int32) (nf : Int32) (fi : Int32) (k_8 : Value) (k_9 : Value) (f1 : Nat → Int32) (f2 : Nat → Int32) (f3 : Nat → Int32) (fl : Nat → Option Nat) (sz : Nat) (zn : 0 ≤ n.toInt ∧ n.toInt ≤ 8) (zlt : 0 ≤ lt.toInt ∧ lt.toInt ≤ 6) (zbr : 0 ≤ br.toInt ∧ br.toInt ≤ 1) (zx : 0 ≤ x.toInt ∧ x.toInt ≤ 1000000) (zy : 0 ≤ y.toInt ∧ y.toInt ≤ 100) (zfl : InL L fl) : Met l yX10_byDraws wsX10_byDraws ({ frames := 5, cells := 0, slots := 0, locals := 128 }) (va_Pc [.ref r0, .ref t0, .int x, .int y] (PreY D K [(r0, .inr (10, [.ref a0])), (a0, .inr (0, [.ref m0, .ref w0])), (m0, .inr (3, [.ref m1, .int br])), (m1, .inl (K 0, 64, .inl fs)), (w0, .inl (K 0, 9, .inl fw)), (t0, .inr (9, [.ref t1, .ref t3, .ref t2, .ref l0, .int n, .int lt, .int nf, .int fi, k_8, k_9])), (t1, .inl (K 0, 56, .inl f1)), (t2, .inl (K 0, 6, .inl f2)), (t3, .inl (K 0, 24, .inl f3)), (l0, .inl (K 4, 6, .inr (.inr (.inr (.inr fl)))))] [] sz g L (va_A [(r0, .inr (10, [.ref a0])), (a0, .inr (0, [.ref m0, .ref w0])), (m0, .inr (3, [.ref m1, .int br])), (m1, .inl (K 0, 64, .inl fs)), (w0, .inl (K 0, 9, .inl fw)), (t0, .inr (9, [.ref t1, .ref t3, .ref t2, .ref l0, .int n, .int lt, .int nf, .int fi, k_8, k_9])), (t1, .inl (K 0, 56, .inl f1)), (t2, .inl (K 0, 6, .inl f2)), (t3, .inl (K 0, 24, .inl f3)), (l0, .inl (K 4, 6, .inr (.inr (.inr (.inr fl)))))] sz))) (va_Qi (S := Su) (fun (r : Int32) (u : Su) => (0 ≤ (u.2.2.2.1 0).toInt ∧ (u.2.2.2.1 0).toInt ≤ 1) ∧ True) (fun u t => Wd D (va_A [(r0, .inr (10, [.ref a0])), (a0, .inr (0, [.ref m0, .ref w0])), (m0, .inr (3, [.ref m1, .int br])), (m1, .inl (K 0, 64, .inl fs)), (w0, .inl (K 0, 9, .inl fw)), (t0, .inr (9, [.ref t1, .ref t3, .ref t2, .ref l0, .int n, .int lt, .int nf, .int fi, k_8, k_9])), (t1, .inl (K 0, 56, .inl f1)), (t2, .inl (K 0, 6, .inl f2)), (t3, .inl (K 0, 24, .inl f3)), (l0, .inl (K 4, 6, .inr (.inr (.inr (.inr fl)))))] sz) ((fun u => [(r0, .inr (10, [.ref a0])), (a0, .inr (0, [.ref m0, .ref w0])), (m0, .inr (3, [.ref m1, .int (u.2.2.2.1 0)])), (m1, .inl (K 0, 64, .inl (u.2.1 0))), (w0, .inl (K 0, 9, .inl (u.2.1 1))), (t0, .inr (9, [.ref t1, .ref t3, .ref t2, .ref l0, .int n, .int lt, .int nf, .int (u.2.2.2.1 1), k_8, k_9])), (t1, .inl (K 0, 56, .inl (u.2.1 2))), (t2, .inl (K 0, 6, .inl (u.2.1 3))), (t3, .inl (K 0, 24, .inl f3)), (l0, .inl (K 4, 6, .inr (.inr (.inr (.inr fl)))))]) u) t) (va_A [(r0, .inr (10, [.ref a0])), (a0, .inr (0, [.ref m0, .ref w0])), (m0, .inr (3, [.ref m1, .int br])), (m1, .inl (K 0, 64, .inl fs)), (w0, .inl (K 0, 9, .inl fw)), (t0, .inr (9, [.ref t1, .ref t3, .ref t2, .ref l0, .int n, .int lt, .int nf, .int fi, k_8, k_9])), (t1, .inl (K 0, 56, .inl f1)), (t2, .inl (K 0, 6, .inl f2)), (t3, .inl (K 0, 24, .inl f3)), (l0, .inl (K 4, 6, .inr (.inr (.inr (.inr fl)))))] sz)) 0 0 (va_A [(r0, .inr (10, [.ref a0])), (a0, .inr (0, [.ref m0, .ref w0])), (m0, .inr (3, [.ref m1, .int br])), (m1, .inl (K 0, 64, .inl fs)), (w0, .inl (K 0, 9, .inl fw)), (t0, .inr (9, [.ref t1, .ref t3, .ref t2, .ref l0, .int n, .int lt, .int nf, .int fi, k_8, k_9])), (t1, .inl (K 0, 56, .inl f1)), (t2, .inl (K 0, 6, .inl f2)), (t3, .inl (K 0, 24, .inl f3)), (l0, .inl (K 4, 6, .inr (.inr (.inr (.inr fl)))))] sz) := by
  refine Met.ofW (cc := cX10_byDraws) (maxL := 8) (ret := (some .int)) (by decide) rfl ?_
  intro p e s m args below meth c s₁ B hml hv
  obtain ⟨rfl, ⟨hsz, hP, hK, hD0, hN⟩, hG, hPl, hRo⟩ := hv
  have hx := B.exec
  have hb := B.bytes
  have hr := B.returns
  have hts := atoms_spec (ws := wsX10_byDraws) B.pre
  have hown : s.vm.findClass RX10 = some m.cls := findClass_of_methodNamed B.named
  have hlocks := B.notSynchronized
  subst hsz
  have hD := hD0.self (sz := s.heap.size)
  generalize hAe : va_A [(r0, .inr (10, [.ref a0])), (a0, .inr (0, [.ref m0, .ref w0])), (m0, .inr (3, [.ref m1, .int br])), (m1, .inl (K 0, 64, .inl fs)), (w0, .inl (K 0, 9, .inl fw)), (t0, .inr (9, [.ref t1, .ref t3, .ref t2, .ref l0, .int n, .int lt, .int nf, .int fi, k_8, k_9])), (t1, .inl (K 0, 56, .inl f1)), (t2, .inl (K 0, 6, .inl f2)), (t3, .inl (K 0, 24, .inl f3)), (l0, .inl (K 4, 6, .inr (.inr (.inr (.inr fl)))))] s.heap.size = A at hD hG hPl hRo ⊢
  have hA : ∀ q : Nat, s.heap.size ≤ q → A q := fun q h => by rw [← hAe]; exact Or.inr h
  have hS : va_S A s.heap s.heap [] := va_S.rf
  have hP : va_P D vwCl [(r0, .inr (10, [.ref a0])), (a0, .inr (0, [.ref m0, .ref w0])), (m0, .inr (3, [.ref m1, .int br])), (m1, .inl (K 0, 64, .inl fs)), (w0, .inl (K 0, 9, .inl fw)), (t0, .inr (9, [.ref t1, .ref t3, .ref t2, .ref l0, .int n, .int lt, .int nf, .int fi, k_8, k_9])), (t1, .inl (K 0, 56, .inl f1)), (t2, .inl (K 0, 6, .inl f2)), (t3, .inl (K 0, 24, .inl f3)), (l0, .inl (K 4, 6, .inr (.inr (.inr (.inr fl)))))] s.heap := hP
  have hl := lv_entry [.ref r0, .ref t0, .int x, .int y] (n := 8) (Nat.le_of_ble_eq_true rfl)
  rw [lg_entry_eq]
  generalize (lg_sl [.ref r0, .ref t0, .int x, .int y] ++ List.replicate (8 - (lg_sl [.ref r0, .ref t0, .int x, .int y]).length) Slot.unset).toArray = ls at hl ⊢
  have hl : lv_has ls 8 [(0, .ref r0), (1, .ref t0), (2, .int x), (3, .int y)] := hl
  have hw0 : ∀ w ∈ wsX00, w ∈ wsX10_byDraws := fun w h => (List.mem_cons_of_mem _ (List.mem_append_left _ (List.mem_append_left _ (List.mem_append_right _ h))))
  have hw3 : ∀ w ∈ wsX30, w ∈ wsX10_byDraws := fun w h => (List.mem_cons_of_mem _ (List.mem_append_right _ h))
  have hw7 : ∀ w ∈ wsX70, w ∈ wsX10_byDraws := fun w h => (List.mem_cons_of_mem _ (List.mem_append_left _ (List.mem_append_right _ h)))
  have hw9 : ∀ w ∈ wsX90, w ∈ wsX10_byDraws := fun w h => (List.mem_cons_of_mem _ (List.mem_append_left _ (List.mem_append_left _ (List.mem_append_left _ (List.mem_append_left _ (List.mem_append_right _ h))))))
  have hw10 : ∀ w ∈ wsX100, w ∈ wsX10_byDraws := fun w h => (List.mem_cons_of_mem _ (List.mem_append_left _ (List.mem_append_left _ (List.mem_append_left _ (List.mem_append_right _ h)))))
  generalize hQ : MQ below _ _ s _ _ _ = Q
  refine lv_iload_n hx hb dX10_byDraws_0 rfl (lv_at hl 2 rfl) ?_
  refine lv_istore (lv' := [(4, .int x), (0, .ref r0), (1, .ref t0), (2, .int x), (3, .int y)]) hx hb dX10_byDraws_1 hl (by decide) rfl (fun ls hl => ?_)
  refine lv_iconst (v := 0) hx hb dX10_byDraws_3 (by decide) ?_
  refine lv_istore (lv' := [(5, .int 0), (4, .int x), (0, .ref r0), (1, .ref t0), (2, .int x), (3, .int y)]) hx hb dX10_byDraws_4 hl (by decide) rfl (fun ls hl => ?_)
  refine lv_iconst (v := 0) hx hb dX10_byDraws_6 (by decide) ?_
  refine lv_istore (lv' := [(6, .int 0), (5, .int 0), (4, .int x), (0, .ref r0), (1, .ref t0), (2, .int x), (3, .int y)]) hx hb dX10_byDraws_7 hl (by decide) rfl (fun ls hl => ?_)
  have lp_1150 : ∀ (nn_ : Nat) (v_1046 : Int32) (v_1047 : Int32) (v_1048 : Int32) (v_1049 : Int32) (v_1050 : Int32) (f_1051 : Nat → Int32) (f_1052 : Nat → Int32) (f_1053 : Nat → Int32) (f_1054 : Nat → Int32) (hv_1046 : 0 ≤ v_1046.toInt ∧ v_1046.toInt ≤ 100) (hv_1048 : 0 ≤ v_1048.toInt ∧ v_1048.toInt ≤ 1000002) (hv_1049 : 0 ≤ v_1049.toInt ∧ v_1049.toInt ≤ 1) (hn : (101 - v_1046.toInt : Int).toNat < nn_) (H : Heap) (locs : List Loc) (hP : va_P D vwCl [(r0, .inr (10, [.ref a0])), (a0, .inr (0, [.ref m0, .ref w0])), (m0, .inr (3, [.ref m1, .int v_1049])), (m1, .inl (K 0, 64, .inl f_1051)), (w0, .inl (K 0, 9, .inl f_1052)), (t0, .inr (9, [.ref t1, .ref t3, .ref t2, .ref l0, .int n, .int lt, .int nf, .int v_1050, k_8, k_9])), (t1, .inl (K 0, 56, .inl f_1053)), (t2, .inl (K 0, 6, .inl f_1054)), (t3, .inl (K 0, 24, .inl f3)), (l0, .inl (K 4, 6, .inr (.inr (.inr (.inr fl)))))] H) (hD : va_D A [(r0, .inr (10, [.ref a0])), (a0, .inr (0, [.ref m0, .ref w0])), (m0, .inr (3, [.ref m1, .int v_1049])), (m1, .inl (K 0, 64, .inl f_1051)), (w0, .inl (K 0, 9, .inl f_1052)), (t0, .inr (9, [.ref t1, .ref t3, .ref t2, .ref l0, .int n, .int lt, .int nf, .int v_1050, k_8, k_9])), (t1, .inl (K 0, 56, .inl f_1053)), (t2, .inl (K 0, 6, .inl f_1054)), (t3, .inl (K 0, 24, .inl f3)), (l0, .inl (K 4, 6, .inr (.inr (.inr (.inr fl)))))]) (hS : va_S A s.heap H locs) (ls : Array Slot) (hl : lv_has ls 8 [(6, .int v_1046), (5, .int v_1047), (4, .int v_1048), (0, .ref r0), (1, .ref t0), (3, .int y)]), W p l e ({ frames := 5, cells := 0, slots := 0, locals := 128 }) s m (([.ref r0, .ref t0, .int x, .int y] : List Value).toArray) below meth c H locs 0 0 Q (F0 m 9 ls []) := by
    intro nn_
    induction nn_ with
    | zero =>
      intro v_1046 v_1047 v_1048 v_1049 v_1050 f_1051 f_1052 f_1053 f_1054 hv_1046 hv_1048 hv_1049 hn H locs hP hD hS ls hl
      exact absurd hn (Nat.not_lt_zero _)
    | succ nn_ ih_1151 =>
      intro v_1046 v_1047 v_1048 v_1049 v_1050 f_1051 f_1052 f_1053 f_1054 hv_1046 hv_1048 hv_1049 hn H locs hP hD hS ls hl
      refine lv_iload hx hb dX10_byDraws_9 (lv_at hl 0 rfl) ?_
      refine lv_iload_n hx hb dX10_byDraws_11 rfl (lv_at hl 5 rfl) ?_
      refine lv_icmp_ge (tgt := 81) hx hb dX10_byDraws_12 (by decide) (fun c_1152 => ?_) (fun c_1152 => ?_)
      · have c_1152i := i_le (x := y.toInt) (y := v_1046.toInt) rfl rfl c_1152
        refine lv_iload hx hb dX10_byDraws_81 (lv_at hl 1 rfl) ?_
        rw [← hQ]
        have hP9 := hP.sub (ws' := [(r0, .inr (10, [.ref a0])), (a0, .inr (0, [.ref m0, .ref w0])), (m0, .inr (3, [.ref m1, .int v_1049])), (m1, .inl (K 0, 64, .inl f_1051)), (w0, .inl (K 0, 9, .inl f_1052)), (t0, .inr (9, [.ref t1, .ref t3, .ref t2, .ref l0, .int n, .int lt, .int nf, .int v_1050, k_8, k_9])), (t1, .inl (K 0, 56, .inl f_1053)), (t2, .inl (K 0, 6, .inl f_1054)), (t3, .inl (K 0, 24, .inl f3)), (l0, .inl (K 4, 6, .inr (.inr (.inr (.inr fl)))))]) [0, 1, 2, 3, 4, 5, 6, 7, 8, 9] rfl
        have hD9 := hD.sub (ws' := [(r0, .inr (10, [.ref a0])), (a0, .inr (0, [.ref m0, .ref w0])), (m0, .inr (3, [.ref m1, .int v_1049])), (m1, .inl (K 0, 64, .inl f_1051)), (w0, .inl (K 0, 9, .inl f_1052)), (t0, .inr (9, [.ref t1, .ref t3, .ref t2, .ref l0, .int n, .int lt, .int nf, .int v_1050, k_8, k_9])), (t1, .inl (K 0, 56, .inl f_1053)), (t2, .inl (K 0, 6, .inl f_1054)), (t3, .inl (K 0, 24, .inl f3)), (l0, .inl (K 4, 6, .inr (.inr (.inr (.inr fl)))))]) [0, 1, 2, 3, 4, 5, 6, 7, 8, 9] (by decide) rfl
        exact W.iret (v := v_1047) hx hb hr (fun t ht hW => ⟨⟨v_1047, ((fun _ => 0, fun i => match i with | 0 => f_1051 | 1 => f_1052 | 2 => f_1053 | _ => f_1054, fun _ => fun _ => 0, fun i => match i with | 0 => v_1049 | _ => v_1050, fun _ => 0, fun _ => fun _ => none) : Su), rfl, ⟨(show 0 ≤ (v_1049 : Int32).toInt ∧ (v_1049 : Int32).toInt ≤ 1 by omega), trivial⟩, (⟨by rw [ht]; exact hP9, hD9⟩ : Wd D A _ t)⟩, hS.F ht⟩) hS.2.2 dX10_byDraws_83
      · have c_1152i := i_nle (x := y.toInt) (y := v_1046.toInt) rfl rfl c_1152
        refine lv_aload_n hx hb dX10_byDraws_15 rfl (lv_at hl 4 rfl) ?_
        refine va_getN (ci := 9) (v := .int n) (C := RX9) (T := TX9) (N := 10) hx hb hts hw9 hown hK hP 5 rfl rfl 4 (by decide) (nst_use hN 109 rfl) (fun _ h9 => h9) rfl dX10_byDraws_16 ?_
        have j_1176 : ∀ (v_1164 : Int32) (v_1165 : Int32) (f_1166 : Nat → Int32) (f_1167 : Nat → Int32) (f_1168 : Nat → Int32) (hv_1164 : 0 ≤ v_1164.toInt ∧ v_1164.toInt ≤ 1000002) (hv_1165 : 0 ≤ v_1165.toInt ∧ v_1165.toInt ≤ 1) (H : Heap) (locs : List Loc) (hP : va_P D vwCl [(r0, .inr (10, [.ref a0])), (a0, .inr (0, [.ref m0, .ref w0])), (m0, .inr (3, [.ref m1, .int v_1165])), (m1, .inl (K 0, 64, .inl f_1166)), (w0, .inl (K 0, 9, .inl f_1167)), (t0, .inr (9, [.ref t1, .ref t3, .ref t2, .ref l0, .int n, .int lt, .int nf, .int v_1050, k_8, k_9])), (t1, .inl (K 0, 56, .inl f_1168)), (t2, .inl (K 0, 6, .inl f_1054)), (t3, .inl (K 0, 24, .inl f3)), (l0, .inl (K 4, 6, .inr (.inr (.inr (.inr fl)))))] H) (hD : va_D A [(r0, .inr (10, [.ref a0])), (a0, .inr (0, [.ref m0, .ref w0])), (m0, .inr (3, [.ref m1, .int v_1165])), (m1, .inl (K 0, 64, .inl f_1166)), (w0, .inl (K 0, 9, .inl f_1167)), (t0, .inr (9, [.ref t1, .ref t3, .ref t2, .ref l0, .int n, .int lt, .int nf, .int v_1050, k_8, k_9])), (t1, .inl (K 0, 56, .inl f_1168)), (t2, .inl (K 0, 6, .inl f_1054)), (t3, .inl (K 0, 24, .inl f3)), (l0, .inl (K 4, 6, .inr (.inr (.inr (.inr fl)))))]) (hS : va_S A s.heap H locs) (ls : Array Slot) (hl : lv_has ls 8 [(6, .int v_1046), (5, .int v_1047), (4, .int v_1164), (0, .ref r0), (1, .ref t0), (3, .int y)]), W p l e ({ frames := 5, cells := 0, slots := 0, locals := 128 }) s m (([.ref r0, .ref t0, .int x, .int y] : List Value).toArray) below meth c H locs 0 0 Q (F0 m 53 ls []) := by
          intro v_1164 v_1165 f_1166 f_1167 f_1168 hv_1164 hv_1165 H locs hP hD hS ls hl
          refine lv_aload_n hx hb dX10_byDraws_53 rfl (lv_at hl 3 rfl) ?_
          refine lv_aload_n hx hb dX10_byDraws_54 rfl (lv_at hl 4 rfl) ?_
          refine kci (S := Su) (wr := []) (va_runV (As := [.ref t0]) (rest := []) ⟨hx, hb, hml, hown, hts⟩ (w_nextHour l D K g L r0 t0 a0 m0 w0 m1 v_1165 f_1166 f_1167 t1 t3 t2 l0 n lt nf v_1050 k_8 k_9 f_1168 f_1054 f3 fl H.size (by first | omega | decide) (by first | omega | decide) (by first | omega | decide) zfl) (cwV 1 hts gX10_byDraws_X10_nextHour rfl rfl rfl (by decide +kernel) ⟨Nat.le_of_ble_eq_true rfl, Nat.le_of_ble_eq_true rfl⟩) (mkVY hK hN (hP.sub [0, 1, 2, 3, 4, 5, 6, 7, 8, 9] rfl) (hD.sub [0, 1, 2, 3, 4, 5, 6, 7, 8, 9] (by decide) rfl) (ci := 10) (q0 := 0) rfl rfl (fun U hU hW => ⟨Gl.at hG hS hW hU (fun q h => va_free hD hS hA [0, 1, 2, 3, 4, 5, 6, 7, 8, 9] rfl q h), Pool.at hPl hS hU (fun q h => va_free hD hS hA [0, 1, 2, 3, 4, 5, 6, 7, 8, 9] rfl q h), Ro.heap hU (Ro.nil)⟩)) rfl rfl hl.1 rfl (lv_room (Nat.le_of_ble_eq_true rfl)) dX10_byDraws_55 ⟨Nat.le_of_ble_eq_true rfl, Nat.le_of_ble_eq_true rfl⟩) hP hD hS hA [0, 1, 2, 3, 4, 5, 6, 7, 8, 9] [] rfl rfl (by decide) (by decide) (fun r_1177 u_1178 H locs hw hP hD hS => ?_)
          have hP : va_P D vwCl [(r0, .inr (10, [.ref a0])), (a0, .inr (0, [.ref m0, .ref w0])), (m0, .inr (3, [.ref m1, .int (u_1178.2.2.2.1 0)])), (m1, .inl (K 0, 64, .inl (u_1178.2.1 0))), (w0, .inl (K 0, 9, .inl (u_1178.2.1 1))), (t0, .inr (9, [.ref t1, .ref t3, .ref t2, .ref l0, .int n, .int lt, .int nf, .int (u_1178.2.2.2.1 1), k_8, k_9])), (t1, .inl (K 0, 56, .inl (u_1178.2.1 2))), (t2, .inl (K 0, 6, .inl (u_1178.2.1 3))), (t3, .inl (K 0, 24, .inl f3)), (l0, .inl (K 4, 6, .inr (.inr (.inr (.inr fl)))))] H := hP
          have hD : va_D A [(r0, .inr (10, [.ref a0])), (a0, .inr (0, [.ref m0, .ref w0])), (m0, .inr (3, [.ref m1, .int (u_1178.2.2.2.1 0)])), (m1, .inl (K 0, 64, .inl (u_1178.2.1 0))), (w0, .inl (K 0, 9, .inl (u_1178.2.1 1))), (t0, .inr (9, [.ref t1, .ref t3, .ref t2, .ref l0, .int n, .int lt, .int nf, .int (u_1178.2.2.2.1 1), k_8, k_9])), (t1, .inl (K 0, 56, .inl (u_1178.2.1 2))), (t2, .inl (K 0, 6, .inl (u_1178.2.1 3))), (t3, .inl (K 0, 24, .inl f3)), (l0, .inl (K 4, 6, .inr (.inr (.inr (.inr fl)))))] := hD
          obtain ⟨h_1180, k_1179, -⟩ := hw
          refine lv_istore (lv' := [(7, .int r_1177), (6, .int v_1046), (5, .int v_1047), (4, .int v_1164), (0, .ref r0), (1, .ref t0), (3, .int y)]) hx hb dX10_byDraws_58 hl (by decide) rfl (fun ls hl => ?_)
          refine lv_iload hx hb dX10_byDraws_60 (lv_at hl 0 rfl) ?_
          refine lv_if_ge (tgt := 68) hx hb dX10_byDraws_62 (by decide) (fun c_1181 => ?_) (fun c_1181 => ?_)
          · have c_1181i := i_le (x := 0) (y := r_1177.toInt) rfl rfl c_1181
            refine lv_iload hx hb dX10_byDraws_68 (lv_at hl 2 rfl) ?_
            refine lv_iload hx hb dX10_byDraws_70 (lv_at hl 0 rfl) ?_
            refine lv_iadd hx hb dX10_byDraws_72 ?_
            refine lv_topi (fun x_1182 ex_1182 => ?_)
            refine lv_istore (lv' := [(5, .int x_1182), (7, .int r_1177), (6, .int v_1046), (4, .int v_1164), (0, .ref r0), (1, .ref t0), (3, .int y)]) hx hb dX10_byDraws_73 hl (by decide) rfl (fun ls hl => ?_)
            obtain ⟨x_1183, ex_1183⟩ : ∃ y : Int32, y = v_1046 + Int32.ofInt 1 := ⟨_, rfl⟩
            have hx_1183 : x_1183.toInt = (v_1046.toInt + 1) := by rw [ex_1183]; exact i_add rfl (show (Int32.ofInt 1).toInt = 1 from rfl) (by omega)
            refine lv_iinc (v := x_1183) (lv' := [(6, .int x_1183), (5, .int x_1182), (7, .int r_1177), (4, .int v_1164), (0, .ref r0), (1, .ref t0), (3, .int y)]) hx hb dX10_byDraws_75 hl (k := 2) rfl (by rw [ex_1183]) (by decide) rfl (fun ls hl => ?_)
            refine lv_goto (tgt := 9) hx hb dX10_byDraws_78 (by decide) ?_
            exact ih_1151 x_1183 x_1182 v_1164 (u_1178.2.2.2.1 0) (u_1178.2.2.2.1 1) (u_1178.2.1 0) (u_1178.2.1 1) (u_1178.2.1 2) (u_1178.2.1 3) (by rw [hx_1183]; omega) (by omega) (by omega) (by omega) _ _ hP hD hS ls (lv_sub hl [0, 1, 3, 4, 5, 6] rfl)
          · have c_1181i := i_nle (x := 0) (y := r_1177.toInt) rfl rfl c_1181
            refine lv_iload hx hb dX10_byDraws_65 (lv_at hl 2 rfl) ?_
            rw [← hQ]
            have hP9 := hP.sub (ws' := [(r0, .inr (10, [.ref a0])), (a0, .inr (0, [.ref m0, .ref w0])), (m0, .inr (3, [.ref m1, .int (u_1178.2.2.2.1 0)])), (m1, .inl (K 0, 64, .inl (u_1178.2.1 0))), (w0, .inl (K 0, 9, .inl (u_1178.2.1 1))), (t0, .inr (9, [.ref t1, .ref t3, .ref t2, .ref l0, .int n, .int lt, .int nf, .int (u_1178.2.2.2.1 1), k_8, k_9])), (t1, .inl (K 0, 56, .inl (u_1178.2.1 2))), (t2, .inl (K 0, 6, .inl (u_1178.2.1 3))), (t3, .inl (K 0, 24, .inl f3)), (l0, .inl (K 4, 6, .inr (.inr (.inr (.inr fl)))))]) [0, 1, 2, 3, 4, 5, 6, 7, 8, 9] rfl
            have hD9 := hD.sub (ws' := [(r0, .inr (10, [.ref a0])), (a0, .inr (0, [.ref m0, .ref w0])), (m0, .inr (3, [.ref m1, .int (u_1178.2.2.2.1 0)])), (m1, .inl (K 0, 64, .inl (u_1178.2.1 0))), (w0, .inl (K 0, 9, .inl (u_1178.2.1 1))), (t0, .inr (9, [.ref t1, .ref t3, .ref t2, .ref l0, .int n, .int lt, .int nf, .int (u_1178.2.2.2.1 1), k_8, k_9])), (t1, .inl (K 0, 56, .inl (u_1178.2.1 2))), (t2, .inl (K 0, 6, .inl (u_1178.2.1 3))), (t3, .inl (K 0, 24, .inl f3)), (l0, .inl (K 4, 6, .inr (.inr (.inr (.inr fl)))))]) [0, 1, 2, 3, 4, 5, 6, 7, 8, 9] (by decide) rfl
            exact W.iret (v := v_1047) hx hb hr (fun t ht hW => ⟨⟨v_1047, ((fun _ => 0, fun i => match i with | 0 => (u_1178.2.1 0) | 1 => (u_1178.2.1 1) | 2 => (u_1178.2.1 2) | _ => (u_1178.2.1 3), fun _ => fun _ => 0, fun i => match i with | 0 => (u_1178.2.2.2.1 0) | _ => (u_1178.2.2.2.1 1), fun _ => 0, fun _ => fun _ => none) : Su), rfl, ⟨(show 0 ≤ ((u_1178.2.2.2.1 0) : Int32).toInt ∧ ((u_1178.2.2.2.1 0) : Int32).toInt ≤ 1 by omega), trivial⟩, (⟨by rw [ht]; exact hP9, hD9⟩ : Wd D A _ t)⟩, hS.F ht⟩) hS.2.2 dX10_byDraws_67
        refine lv_if_le (tgt := 53) hx hb dX10_byDraws_19 (by decide) (fun c_1184 => ?_) (fun c_1184 => ?_)
        · have c_1184i := i_le (x := n.toInt) (y := 0) rfl rfl c_1184
          exact j_1176 v_1048 v_1049 f_1051 f_1052 f_1053 (by omega) (by omega) _ _ hP hD hS ls (lv_sub hl [0, 1, 2, 3, 4, 5] rfl)
        · have c_1184i := i_nle (x := n.toInt) (y := 0) rfl rfl c_1184
          refine lv_iload hx hb dX10_byDraws_22 (lv_at hl 2 rfl) ?_
          refine lv_i2l hx hb dX10_byDraws_24 rfl ?_
          refine lv_topl (fun x_1185 ex_1185 => ?_)
          have hx_1185 : x_1185.toInt = v_1048.toInt := by rw [ex_1185]; exact i_wide rfl
          refine lv_ldc2 (v := 1103) hx hb hown (hts (.constantLong RX10 91 (1103)) (List.mem_cons_of_mem _ (List.mem_append_left _ (List.mem_append_left _ (List.mem_append_left _ (List.mem_append_left _ (List.mem_append_left _ (List.mem_append_left _ (List.mem_of_getElem? (i := 0) rfl))))))))) dX10_byDraws_25 ?_
          refine lv_lmul hx hb dX10_byDraws_28 ?_
          refine lv_topl (fun x_1186 ex_1186 => ?_)
          have hx_1186 : x_1186.toInt = (v_1048.toInt * 1103) := by rw [ex_1186]; exact l_mul hx_1185 (show (1103 : Int64).toInt = 1103 from rfl) (by omega)
          refine lv_ldc2 (v := 12345) hx hb hown (hts (.constantLong RX10 93 (12345)) (List.mem_cons_of_mem _ (List.mem_append_left _ (List.mem_append_left _ (List.mem_append_left _ (List.mem_append_left _ (List.mem_append_left _ (List.mem_append_left _ (List.mem_of_getElem? (i := 1) rfl))))))))) dX10_byDraws_29 ?_
          refine lv_ladd hx hb dX10_byDraws_32 ?_
          refine lv_topl (fun x_1187 ex_1187 => ?_)
          have hx_1187 : x_1187.toInt = ((v_1048.toInt * 1103) + 12345) := by rw [ex_1187]; exact l_add hx_1186 (show (12345 : Int64).toInt = 12345 from rfl) (by omega)
          refine lv_ldc2 (v := 1000003) hx hb hown (hts (.constantLong RX10 95 (1000003)) (List.mem_cons_of_mem _ (List.mem_append_left _ (List.mem_append_left _ (List.mem_append_left _ (List.mem_append_left _ (List.mem_append_left _ (List.mem_append_left _ (List.mem_of_getElem? (i := 2) rfl))))))))) dX10_byDraws_33 ?_
          refine lv_lrem hx hb dX10_byDraws_36 (by decide) ?_
          refine lv_topl (fun x_1188 ex_1188 => ?_)
          have hx_1188 : x_1188.toInt = (((v_1048.toInt * 1103) + 12345) % 1000003) := by rw [ex_1188]; exact l_rem hx_1187 (show (1000003 : Int64).toInt = 1000003 from rfl) (by omega) (by omega)
          refine lv_l2i hx hb dX10_byDraws_37 rfl ?_
          refine lv_topi (fun x_1189 ex_1189 => ?_)
          have hx_1189 : x_1189.toInt = (((v_1048.toInt * 1103) + 12345) % 1000003) := by rw [ex_1189]; exact l_nar hx_1188 (by omega)
          refine lv_istore (lv' := [(4, .int x_1189), (6, .int v_1046), (5, .int v_1047), (0, .ref r0), (1, .ref t0), (3, .int y)]) hx hb dX10_byDraws_38 hl (by decide) rfl (fun ls hl => ?_)
          refine lv_aload_n hx hb dX10_byDraws_40 rfl (lv_at hl 3 rfl) ?_
          refine lv_aload_n hx hb dX10_byDraws_41 rfl (lv_at hl 4 rfl) ?_
          refine lv_iload hx hb dX10_byDraws_42 (lv_at hl 0 rfl) ?_
          refine lv_aload_n hx hb dX10_byDraws_44 rfl (lv_at hl 4 rfl) ?_
          refine va_getN (ci := 9) (v := .int n) (C := RX9) (T := TX9) (N := 10) hx hb hts hw9 hown hK hP 5 rfl rfl 4 (by decide) (nst_use hN 109 rfl) (fun _ h9 => h9) rfl dX10_byDraws_45 ?_
          refine lv_irem hx hb dX10_byDraws_48 (fun h9 => by have h8 := i_eq (x := n.toInt) (y := 0) rfl rfl h9; omega) ?_
          refine lv_topi (fun x_1190 ex_1190 => ?_)
          have hx_1190 : 0 ≤ x_1190.toInt ∧ x_1190.toInt < n.toInt := by rw [ex_1190]; exact i_remb hx_1189 rfl (by omega) (by omega)
          refine kci (S := Su) (wr := []) (va_runV (As := [.ref t0, .int x_1190]) (rest := []) ⟨hx, hb, hml, hown, hts⟩ (w_kindle l D K g L r0 t0 x_1190 a0 m0 w0 m1 v_1049 f_1051 f_1052 t1 t3 t2 l0 n lt nf v_1050 k_8 k_9 f_1053 f_1054 f3 fl H.size (by first | omega | decide) (by first | omega | decide) (by first | omega | decide) zfl) (cwV 2 hts gX10_byDraws_X10_kindle rfl rfl rfl (by decide +kernel) ⟨Nat.le_of_ble_eq_true rfl, Nat.le_of_ble_eq_true rfl⟩) (mkVY hK hN (hP.sub [0, 1, 2, 3, 4, 5, 6, 7, 8, 9] rfl) (hD.sub [0, 1, 2, 3, 4, 5, 6, 7, 8, 9] (by decide) rfl) (ci := 10) (q0 := 0) rfl rfl (fun U hU hW => ⟨Gl.at hG hS hW hU (fun q h => va_free hD hS hA [0, 1, 2, 3, 4, 5, 6, 7, 8, 9] rfl q h), Pool.at hPl hS hU (fun q h => va_free hD hS hA [0, 1, 2, 3, 4, 5, 6, 7, 8, 9] rfl q h), Ro.heap hU (Ro.nil)⟩)) rfl rfl hl.1 rfl (lv_room (Nat.le_of_ble_eq_true rfl)) dX10_byDraws_49 ⟨Nat.le_of_ble_eq_true rfl, Nat.le_of_ble_eq_true rfl⟩) hP hD hS hA [0, 1, 2, 3, 4, 5, 6, 7, 8, 9] [] rfl rfl (by decide) (by decide) (fun r_1191 u_1192 H locs hw hP hD hS => ?_)
          have hP : va_P D vwCl [(r0, .inr (10, [.ref a0])), (a0, .inr (0, [.ref m0, .ref w0])), (m0, .inr (3, [.ref m1, .int (u_1192.2.2.2.1 0)])), (m1, .inl (K 0, 64, .inl (u_1192.2.1 0))), (w0, .inl (K 0, 9, .inl (u_1192.2.1 1))), (t0, .inr (9, [.ref t1, .ref t3, .ref t2, .ref l0, .int n, .int lt, .int nf, .int v_1050, k_8, k_9])), (t1, .inl (K 0, 56, .inl (u_1192.2.1 2))), (t2, .inl (K 0, 6, .inl f_1054)), (t3, .inl (K 0, 24, .inl f3)), (l0, .inl (K 4, 6, .inr (.inr (.inr (.inr fl)))))] H := hP
          have hD : va_D A [(r0, .inr (10, [.ref a0])), (a0, .inr (0, [.ref m0, .ref w0])), (m0, .inr (3, [.ref m1, .int (u_1192.2.2.2.1 0)])), (m1, .inl (K 0, 64, .inl (u_1192.2.1 0))), (w0, .inl (K 0, 9, .inl (u_1192.2.1 1))), (t0, .inr (9, [.ref t1, .ref t3, .ref t2, .ref l0, .int n, .int lt, .int nf, .int v_1050, k_8, k_9])), (t1, .inl (K 0, 56, .inl (u_1192.2.1 2))), (t2, .inl (K 0, 6, .inl f_1054)), (t3, .inl (K 0, 24, .inl f3)), (l0, .inl (K 4, 6, .inr (.inr (.inr (.inr fl)))))] := hD
          obtain ⟨h_1194, k_1193, -⟩ := hw
          refine lv_pop hx hb dX10_byDraws_52 rfl ?_
          exact j_1176 x_1189 (u_1192.2.2.2.1 0) (u_1192.2.1 0) (u_1192.2.1 1) (u_1192.2.1 2) (by rw [hx_1189]; omega) (by omega) _ _ hP hD hS ls (lv_sub hl [1, 2, 0, 3, 4, 5] rfl)
  exact lp_1150 ((101 - (0 : Int32).toInt : Int).toNat + 1) 0 0 x br fi fs fw f1 f2 (by decide) (by omega) (by omega) (Nat.lt_succ_self _) _ _ hP hD hS ls (lv_sub hl [0, 1, 2, 3, 4, 6] rfl)
