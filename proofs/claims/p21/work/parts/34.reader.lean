theorem zb_f {a : Int32} {x : Int} (hx : a.toInt = x) (h : 0 ≤ x ∧ x ≤ 1) : fits .boolean (.int a) = true := by
  rcases (show x = 0 ∨ x = 1 by omega) with q | q
  · rw [i_lit (b := 0) (hx.trans q) rfl]; rfl
  · rw [i_lit (b := 1) (hx.trans q) rfl]; rfl
noncomputable def E_sum_8 : Int32 → Int32 → Int32 → Int32 → Int32 → Int32 → Int32 → Int32 → (Nat → Int32) → Int32 → (Nat → Int32) → (Int32 × Int32 × Int32 × Int32 × Int32 × Int32 × Int32 × (Nat → Int32)) := E_w_sum (fun _ _ _ _ _ _ _ _ _ _ _ => ((0, 0, 0, 0, 0, 0, 0, fun _ => 0) : Int32 × Int32 × Int32 × Int32 × Int32 × Int32 × Int32 × (Nat → Int32)))
theorem sum_8 : SumAt 6 133 8 E_sum_8 := w_sum 0 0 8 (by decide) (fun _ _ _ _ _ _ _ _ _ _ _ => ((0, 0, 0, 0, 0, 0, 0, fun _ => 0) : Int32 × Int32 × Int32 × Int32 × Int32 × Int32 × Int32 × (Nat → Int32))) (fun h => absurd h (by decide))
noncomputable def E_sum_7 : Int32 → Int32 → Int32 → Int32 → Int32 → Int32 → Int32 → Int32 → (Nat → Int32) → Int32 → (Nat → Int32) → (Int32 × Int32 × Int32 × Int32 × Int32 × Int32 × Int32 × (Nat → Int32)) := E_w_sum E_sum_8
theorem sum_7 : SumAt 12 266 7 E_sum_7 := w_sum 6 133 7 (by decide) E_sum_8 (fun _ => (show (8 : Int) = 7 + 1 by decide) ▸ sum_8)
noncomputable def E_sum_6 : Int32 → Int32 → Int32 → Int32 → Int32 → Int32 → Int32 → Int32 → (Nat → Int32) → Int32 → (Nat → Int32) → (Int32 × Int32 × Int32 × Int32 × Int32 × Int32 × Int32 × (Nat → Int32)) := E_w_sum E_sum_7
theorem sum_6 : SumAt 18 399 6 E_sum_6 := w_sum 12 266 6 (by decide) E_sum_7 (fun _ => (show (7 : Int) = 6 + 1 by decide) ▸ sum_7)
noncomputable def E_sum_5 : Int32 → Int32 → Int32 → Int32 → Int32 → Int32 → Int32 → Int32 → (Nat → Int32) → Int32 → (Nat → Int32) → (Int32 × Int32 × Int32 × Int32 × Int32 × Int32 × Int32 × (Nat → Int32)) := E_w_sum E_sum_6
theorem sum_5 : SumAt 24 532 5 E_sum_5 := w_sum 18 399 5 (by decide) E_sum_6 (fun _ => (show (6 : Int) = 5 + 1 by decide) ▸ sum_6)
noncomputable def E_sum_4 : Int32 → Int32 → Int32 → Int32 → Int32 → Int32 → Int32 → Int32 → (Nat → Int32) → Int32 → (Nat → Int32) → (Int32 × Int32 × Int32 × Int32 × Int32 × Int32 × Int32 × (Nat → Int32)) := E_w_sum E_sum_5
theorem sum_4 : SumAt 30 665 4 E_sum_4 := w_sum 24 532 4 (by decide) E_sum_5 (fun _ => (show (5 : Int) = 4 + 1 by decide) ▸ sum_5)
noncomputable def E_sum_3 : Int32 → Int32 → Int32 → Int32 → Int32 → Int32 → Int32 → Int32 → (Nat → Int32) → Int32 → (Nat → Int32) → (Int32 × Int32 × Int32 × Int32 × Int32 × Int32 × Int32 × (Nat → Int32)) := E_w_sum E_sum_4
theorem sum_3 : SumAt 36 798 3 E_sum_3 := w_sum 30 665 3 (by decide) E_sum_4 (fun _ => (show (4 : Int) = 3 + 1 by decide) ▸ sum_4)
noncomputable def E_sum_2 : Int32 → Int32 → Int32 → Int32 → Int32 → Int32 → Int32 → Int32 → (Nat → Int32) → Int32 → (Nat → Int32) → (Int32 × Int32 × Int32 × Int32 × Int32 × Int32 × Int32 × (Nat → Int32)) := E_w_sum E_sum_3
theorem sum_2 : SumAt 42 931 2 E_sum_2 := w_sum 36 798 2 (by decide) E_sum_3 (fun _ => (show (3 : Int) = 2 + 1 by decide) ▸ sum_3)
noncomputable def E_sum_1 : Int32 → Int32 → Int32 → Int32 → Int32 → Int32 → Int32 → Int32 → (Nat → Int32) → Int32 → (Nat → Int32) → (Int32 × Int32 × Int32 × Int32 × Int32 × Int32 × Int32 × (Nat → Int32)) := E_w_sum E_sum_2
theorem sum_1 : SumAt 48 1064 1 E_sum_1 := w_sum 42 931 1 (by decide) E_sum_2 (fun _ => (show (2 : Int) = 1 + 1 by decide) ▸ sum_2)
noncomputable def E_sum_0 : Int32 → Int32 → Int32 → Int32 → Int32 → Int32 → Int32 → Int32 → (Nat → Int32) → Int32 → (Nat → Int32) → (Int32 × Int32 × Int32 × Int32 × Int32 × Int32 × Int32 × (Nat → Int32)) := E_w_sum E_sum_1
theorem sum_0 : SumAt 54 1197 0 E_sum_0 := w_sum 48 1064 0 (by decide) E_sum_1 (fun _ => (show (1 : Int) = 0 + 1 by decide) ▸ sum_1)
noncomputable def E_test_8 : Int32 → Int32 → Int32 → Int32 → Int32 → Int32 → Int32 → Int32 → (Nat → Int32) → Int32 → (Nat → Int32) → (Int32 × Int32 × Int32 × Int32 × Int32 × Int32 × Int32 × (Nat → Int32)) := E_w_test E_sum_8 (fun _ _ _ _ _ _ _ _ _ _ _ => ((0, 0, 0, 0, 0, 0, 0, fun _ => 0) : Int32 × Int32 × Int32 × Int32 × Int32 × Int32 × Int32 × (Nat → Int32)))
theorem test_8 : TestAt 13 287 8 E_test_8 := w_test 6 133 0 0 8 (by decide) E_sum_8 (fun _ _ _ _ _ _ _ _ _ _ _ => ((0, 0, 0, 0, 0, 0, 0, fun _ => 0) : Int32 × Int32 × Int32 × Int32 × Int32 × Int32 × Int32 × (Nat → Int32))) sum_8 (fun h => absurd h (by decide))
noncomputable def E_test_7 : Int32 → Int32 → Int32 → Int32 → Int32 → Int32 → Int32 → Int32 → (Nat → Int32) → Int32 → (Nat → Int32) → (Int32 × Int32 × Int32 × Int32 × Int32 × Int32 × Int32 × (Nat → Int32)) := E_w_test E_sum_7 E_test_8
theorem test_7 : TestAt 32 707 7 E_test_7 := w_test 12 266 13 287 7 (by decide) E_sum_7 E_test_8 sum_7 (fun _ => (show (8 : Int) = 7 + 1 by decide) ▸ test_8)
noncomputable def E_test_6 : Int32 → Int32 → Int32 → Int32 → Int32 → Int32 → Int32 → Int32 → (Nat → Int32) → Int32 → (Nat → Int32) → (Int32 × Int32 × Int32 × Int32 × Int32 × Int32 × Int32 × (Nat → Int32)) := E_w_test E_sum_6 E_test_7
theorem test_6 : TestAt 57 1260 6 E_test_6 := w_test 18 399 32 707 6 (by decide) E_sum_6 E_test_7 sum_6 (fun _ => (show (7 : Int) = 6 + 1 by decide) ▸ test_7)
noncomputable def E_test_5 : Int32 → Int32 → Int32 → Int32 → Int32 → Int32 → Int32 → Int32 → (Nat → Int32) → Int32 → (Nat → Int32) → (Int32 × Int32 × Int32 × Int32 × Int32 × Int32 × Int32 × (Nat → Int32)) := E_w_test E_sum_5 E_test_6
theorem test_5 : TestAt 88 1946 5 E_test_5 := w_test 24 532 57 1260 5 (by decide) E_sum_5 E_test_6 sum_5 (fun _ => (show (6 : Int) = 5 + 1 by decide) ▸ test_6)
noncomputable def E_test_4 : Int32 → Int32 → Int32 → Int32 → Int32 → Int32 → Int32 → Int32 → (Nat → Int32) → Int32 → (Nat → Int32) → (Int32 × Int32 × Int32 × Int32 × Int32 × Int32 × Int32 × (Nat → Int32)) := E_w_test E_sum_4 E_test_5
theorem test_4 : TestAt 125 2765 4 E_test_4 := w_test 30 665 88 1946 4 (by decide) E_sum_4 E_test_5 sum_4 (fun _ => (show (5 : Int) = 4 + 1 by decide) ▸ test_5)
noncomputable def E_test_3 : Int32 → Int32 → Int32 → Int32 → Int32 → Int32 → Int32 → Int32 → (Nat → Int32) → Int32 → (Nat → Int32) → (Int32 × Int32 × Int32 × Int32 × Int32 × Int32 × Int32 × (Nat → Int32)) := E_w_test E_sum_3 E_test_4
theorem test_3 : TestAt 168 3717 3 E_test_3 := w_test 36 798 125 2765 3 (by decide) E_sum_3 E_test_4 sum_3 (fun _ => (show (4 : Int) = 3 + 1 by decide) ▸ test_4)
noncomputable def E_test_2 : Int32 → Int32 → Int32 → Int32 → Int32 → Int32 → Int32 → Int32 → (Nat → Int32) → Int32 → (Nat → Int32) → (Int32 × Int32 × Int32 × Int32 × Int32 × Int32 × Int32 × (Nat → Int32)) := E_w_test E_sum_2 E_test_3
theorem test_2 : TestAt 217 4802 2 E_test_2 := w_test 42 931 168 3717 2 (by decide) E_sum_2 E_test_3 sum_2 (fun _ => (show (3 : Int) = 2 + 1 by decide) ▸ test_3)
noncomputable def E_test_1 : Int32 → Int32 → Int32 → Int32 → Int32 → Int32 → Int32 → Int32 → (Nat → Int32) → Int32 → (Nat → Int32) → (Int32 × Int32 × Int32 × Int32 × Int32 × Int32 × Int32 × (Nat → Int32)) := E_w_test E_sum_1 E_test_2
theorem test_1 : TestAt 272 6020 1 E_test_1 := w_test 48 1064 217 4802 1 (by decide) E_sum_1 E_test_2 sum_1 (fun _ => (show (2 : Int) = 1 + 1 by decide) ▸ test_2)
noncomputable def E_test_0 : Int32 → Int32 → Int32 → Int32 → Int32 → Int32 → Int32 → Int32 → (Nat → Int32) → Int32 → (Nat → Int32) → (Int32 × Int32 × Int32 × Int32 × Int32 × Int32 × Int32 × (Nat → Int32)) := E_w_test E_sum_0 E_test_1
theorem test_0 : TestAt 333 7371 0 E_test_0 := w_test 54 1197 272 6020 0 (by decide) E_sum_0 E_test_1 sum_0 (fun _ => (show (1 : Int) = 0 + 1 by decide) ▸ test_1)
theorem BX6_clause_0 : bsegs (ByteArray.data cX6_clause |>.toList.drop 0) 0 [(0, [42]), (1, [180, 0, 12]), (4, [42]), (5, [180, 0, 27]), (8, [153, 0, 8]), (11, [18, 63]), (13, [167, 0, 5]), (16, [18, 65]), (18, [182, 0, 67]), (21, [61]), (22, [28]), (23, [155, 0, 11]), (26, [28]), (27, [178, 0, 71]), (30, [190]), (31, [161, 0, 5]), (34, [3]), (35, [172]), (36, [42]), (37, [180, 0, 12]), (40, [182, 0, 47]), (43, [42]), (44, [180, 0, 23]), (47, [27])] = true := by decide +kernel
theorem dX6_clause_0 : decode cX6_clause 0 = .ok (.aload_n 0, 1) := dk_42 (bs_at BX6_clause_0 0 rfl)
theorem dX6_clause_1 : decode cX6_clause 1 = .ok (.getfield 12, 3) := dk_180 0 12 (bs_at BX6_clause_0 1 rfl) rfl
theorem dX6_clause_4 : decode cX6_clause 4 = .ok (.aload_n 0, 1) := dk_42 (bs_at BX6_clause_0 2 rfl)
theorem dX6_clause_5 : decode cX6_clause 5 = .ok (.getfield 27, 3) := dk_180 0 27 (bs_at BX6_clause_0 3 rfl) rfl
theorem dX6_clause_8 : decode cX6_clause 8 = .ok (.ifCond .eq 8, 3) := dk_153 0 8 (bs_at BX6_clause_0 4 rfl) rfl
theorem dX6_clause_11 : decode cX6_clause 11 = .ok (.ldc 63, 2) := dk_18 63 (bs_at BX6_clause_0 5 rfl)
theorem dX6_clause_13 : decode cX6_clause 13 = .ok (.goto 5, 3) := dk_167 0 5 (bs_at BX6_clause_0 6 rfl) rfl
theorem dX6_clause_16 : decode cX6_clause 16 = .ok (.ldc 65, 2) := dk_18 65 (bs_at BX6_clause_0 7 rfl)
theorem dX6_clause_18 : decode cX6_clause 18 = .ok (.invokevirtual 67, 3) := dk_182 0 67 (bs_at BX6_clause_0 8 rfl) rfl
theorem dX6_clause_21 : decode cX6_clause 21 = .ok (.istore_n 2, 1) := dk_61 (bs_at BX6_clause_0 9 rfl)
theorem dX6_clause_22 : decode cX6_clause 22 = .ok (.iload_n 2, 1) := dk_28 (bs_at BX6_clause_0 10 rfl)
theorem dX6_clause_23 : decode cX6_clause 23 = .ok (.ifCond .lt 11, 3) := dk_155 0 11 (bs_at BX6_clause_0 11 rfl) rfl
theorem dX6_clause_26 : decode cX6_clause 26 = .ok (.iload_n 2, 1) := dk_28 (bs_at BX6_clause_0 12 rfl)
theorem dX6_clause_27 : decode cX6_clause 27 = .ok (.getstatic 71, 3) := dk_178 0 71 (bs_at BX6_clause_0 13 rfl) rfl
theorem dX6_clause_30 : decode cX6_clause 30 = .ok (.arraylength, 1) := dk_190 (bs_at BX6_clause_0 14 rfl)
theorem dX6_clause_31 : decode cX6_clause 31 = .ok (.if_icmp .lt 5, 3) := dk_161 0 5 (bs_at BX6_clause_0 15 rfl) rfl
theorem dX6_clause_34 : decode cX6_clause 34 = .ok (.iconst 0, 1) := dk_3 (bs_at BX6_clause_0 16 rfl)
theorem dX6_clause_35 : decode cX6_clause 35 = .ok (.ireturn, 1) := dk_172 (bs_at BX6_clause_0 17 rfl)
theorem dX6_clause_36 : decode cX6_clause 36 = .ok (.aload_n 0, 1) := dk_42 (bs_at BX6_clause_0 18 rfl)
theorem dX6_clause_37 : decode cX6_clause 37 = .ok (.getfield 12, 3) := dk_180 0 12 (bs_at BX6_clause_0 19 rfl) rfl
theorem dX6_clause_40 : decode cX6_clause 40 = .ok (.invokevirtual 47, 3) := dk_182 0 47 (bs_at BX6_clause_0 20 rfl) rfl
theorem dX6_clause_43 : decode cX6_clause 43 = .ok (.aload_n 0, 1) := dk_42 (bs_at BX6_clause_0 21 rfl)
theorem dX6_clause_44 : decode cX6_clause 44 = .ok (.getfield 23, 3) := dk_180 0 23 (bs_at BX6_clause_0 22 rfl) rfl
theorem dX6_clause_47 : decode cX6_clause 47 = .ok (.iload_n 1, 1) := dk_27 (bs_at BX6_clause_0 23 rfl)
theorem BX6_clause_48 : bsegs (ByteArray.data cX6_clause |>.toList.drop 48) 48 [(48, [28]), (49, [182, 0, 75]), (52, [42]), (53, [180, 0, 27]), (56, [153, 0, 11]), (59, [178, 0, 71]), (62, [28]), (63, [46]), (64, [167, 0, 8]), (67, [178, 0, 79]), (70, [28]), (71, [46]), (72, [62]), (73, [3]), (74, [54, 4]), (76, [21, 4]), (78, [29]), (79, [162, 0, 64]), (82, [21, 4]), (84, [158, 0, 14]), (87, [42]), (88, [18, 82]), (90, [182, 0, 84]), (93, [154, 0, 5])] = true := by decide +kernel
theorem dX6_clause_48 : decode cX6_clause 48 = .ok (.iload_n 2, 1) := dk_28 (bs_at BX6_clause_48 0 rfl)
theorem dX6_clause_49 : decode cX6_clause 49 = .ok (.invokevirtual 75, 3) := dk_182 0 75 (bs_at BX6_clause_48 1 rfl) rfl
theorem dX6_clause_52 : decode cX6_clause 52 = .ok (.aload_n 0, 1) := dk_42 (bs_at BX6_clause_48 2 rfl)
theorem dX6_clause_53 : decode cX6_clause 53 = .ok (.getfield 27, 3) := dk_180 0 27 (bs_at BX6_clause_48 3 rfl) rfl
theorem dX6_clause_56 : decode cX6_clause 56 = .ok (.ifCond .eq 11, 3) := dk_153 0 11 (bs_at BX6_clause_48 4 rfl) rfl
theorem dX6_clause_59 : decode cX6_clause 59 = .ok (.getstatic 71, 3) := dk_178 0 71 (bs_at BX6_clause_48 5 rfl) rfl
theorem dX6_clause_62 : decode cX6_clause 62 = .ok (.iload_n 2, 1) := dk_28 (bs_at BX6_clause_48 6 rfl)
theorem dX6_clause_63 : decode cX6_clause 63 = .ok (.iaload, 1) := dk_46 (bs_at BX6_clause_48 7 rfl)
theorem dX6_clause_64 : decode cX6_clause 64 = .ok (.goto 8, 3) := dk_167 0 8 (bs_at BX6_clause_48 8 rfl) rfl
theorem dX6_clause_67 : decode cX6_clause 67 = .ok (.getstatic 79, 3) := dk_178 0 79 (bs_at BX6_clause_48 9 rfl) rfl
theorem dX6_clause_70 : decode cX6_clause 70 = .ok (.iload_n 2, 1) := dk_28 (bs_at BX6_clause_48 10 rfl)
theorem dX6_clause_71 : decode cX6_clause 71 = .ok (.iaload, 1) := dk_46 (bs_at BX6_clause_48 11 rfl)
theorem dX6_clause_72 : decode cX6_clause 72 = .ok (.istore_n 3, 1) := dk_62 (bs_at BX6_clause_48 12 rfl)
theorem dX6_clause_73 : decode cX6_clause 73 = .ok (.iconst 0, 1) := dk_3 (bs_at BX6_clause_48 13 rfl)
theorem dX6_clause_74 : decode cX6_clause 74 = .ok (.istore 4, 2) := dk_54 4 (bs_at BX6_clause_48 14 rfl)
theorem dX6_clause_76 : decode cX6_clause 76 = .ok (.iload 4, 2) := dk_21 4 (bs_at BX6_clause_48 15 rfl)
theorem dX6_clause_78 : decode cX6_clause 78 = .ok (.iload_n 3, 1) := dk_29 (bs_at BX6_clause_48 16 rfl)
theorem dX6_clause_79 : decode cX6_clause 79 = .ok (.if_icmp .ge 64, 3) := dk_162 0 64 (bs_at BX6_clause_48 17 rfl) rfl
theorem dX6_clause_82 : decode cX6_clause 82 = .ok (.iload 4, 2) := dk_21 4 (bs_at BX6_clause_48 18 rfl)
theorem dX6_clause_84 : decode cX6_clause 84 = .ok (.ifCond .le 14, 3) := dk_158 0 14 (bs_at BX6_clause_48 19 rfl) rfl
theorem dX6_clause_87 : decode cX6_clause 87 = .ok (.aload_n 0, 1) := dk_42 (bs_at BX6_clause_48 20 rfl)
theorem dX6_clause_88 : decode cX6_clause 88 = .ok (.ldc 82, 2) := dk_18 82 (bs_at BX6_clause_48 21 rfl)
theorem dX6_clause_90 : decode cX6_clause 90 = .ok (.invokevirtual 84, 3) := dk_182 0 84 (bs_at BX6_clause_48 22 rfl) rfl
theorem dX6_clause_93 : decode cX6_clause 93 = .ok (.ifCond .ne 5, 3) := dk_154 0 5 (bs_at BX6_clause_48 23 rfl) rfl
theorem BX6_clause_96 : bsegs (ByteArray.data cX6_clause |>.toList.drop 96) 96 [(96, [3]), (97, [172]), (98, [42]), (99, [180, 0, 23]), (102, [27]), (103, [5]), (104, [21, 4]), (106, [96]), (107, [42]), (108, [180, 0, 23]), (111, [180, 0, 41]), (114, [182, 0, 88]), (117, [42]), (118, [3]), (119, [182, 0, 92]), (122, [154, 0, 5]), (125, [3]), (126, [172]), (127, [42]), (128, [180, 0, 23]), (131, [3]), (132, [3]), (133, [182, 0, 95]), (136, [87])] = true := by decide +kernel
theorem dX6_clause_96 : decode cX6_clause 96 = .ok (.iconst 0, 1) := dk_3 (bs_at BX6_clause_96 0 rfl)
theorem dX6_clause_97 : decode cX6_clause 97 = .ok (.ireturn, 1) := dk_172 (bs_at BX6_clause_96 1 rfl)
theorem dX6_clause_98 : decode cX6_clause 98 = .ok (.aload_n 0, 1) := dk_42 (bs_at BX6_clause_96 2 rfl)
theorem dX6_clause_99 : decode cX6_clause 99 = .ok (.getfield 23, 3) := dk_180 0 23 (bs_at BX6_clause_96 3 rfl) rfl
theorem dX6_clause_102 : decode cX6_clause 102 = .ok (.iload_n 1, 1) := dk_27 (bs_at BX6_clause_96 4 rfl)
theorem dX6_clause_103 : decode cX6_clause 103 = .ok (.iconst 2, 1) := dk_5 (bs_at BX6_clause_96 5 rfl)
theorem dX6_clause_104 : decode cX6_clause 104 = .ok (.iload 4, 2) := dk_21 4 (bs_at BX6_clause_96 6 rfl)
theorem dX6_clause_106 : decode cX6_clause 106 = .ok (.iadd, 1) := dk_96 (bs_at BX6_clause_96 7 rfl)
theorem dX6_clause_107 : decode cX6_clause 107 = .ok (.aload_n 0, 1) := dk_42 (bs_at BX6_clause_96 8 rfl)
theorem dX6_clause_108 : decode cX6_clause 108 = .ok (.getfield 23, 3) := dk_180 0 23 (bs_at BX6_clause_96 9 rfl) rfl
theorem dX6_clause_111 : decode cX6_clause 111 = .ok (.getfield 41, 3) := dk_180 0 41 (bs_at BX6_clause_96 10 rfl) rfl
theorem dX6_clause_114 : decode cX6_clause 114 = .ok (.invokevirtual 88, 3) := dk_182 0 88 (bs_at BX6_clause_96 11 rfl) rfl
theorem dX6_clause_117 : decode cX6_clause 117 = .ok (.aload_n 0, 1) := dk_42 (bs_at BX6_clause_96 12 rfl)
theorem dX6_clause_118 : decode cX6_clause 118 = .ok (.iconst 0, 1) := dk_3 (bs_at BX6_clause_96 13 rfl)
theorem dX6_clause_119 : decode cX6_clause 119 = .ok (.invokevirtual 92, 3) := dk_182 0 92 (bs_at BX6_clause_96 14 rfl) rfl
theorem dX6_clause_122 : decode cX6_clause 122 = .ok (.ifCond .ne 5, 3) := dk_154 0 5 (bs_at BX6_clause_96 15 rfl) rfl
theorem dX6_clause_125 : decode cX6_clause 125 = .ok (.iconst 0, 1) := dk_3 (bs_at BX6_clause_96 16 rfl)
theorem dX6_clause_126 : decode cX6_clause 126 = .ok (.ireturn, 1) := dk_172 (bs_at BX6_clause_96 17 rfl)
theorem dX6_clause_127 : decode cX6_clause 127 = .ok (.aload_n 0, 1) := dk_42 (bs_at BX6_clause_96 18 rfl)
theorem dX6_clause_128 : decode cX6_clause 128 = .ok (.getfield 23, 3) := dk_180 0 23 (bs_at BX6_clause_96 19 rfl) rfl
theorem dX6_clause_131 : decode cX6_clause 131 = .ok (.iconst 0, 1) := dk_3 (bs_at BX6_clause_96 20 rfl)
theorem dX6_clause_132 : decode cX6_clause 132 = .ok (.iconst 0, 1) := dk_3 (bs_at BX6_clause_96 21 rfl)
theorem dX6_clause_133 : decode cX6_clause 133 = .ok (.invokevirtual 95, 3) := dk_182 0 95 (bs_at BX6_clause_96 22 rfl) rfl
theorem dX6_clause_136 : decode cX6_clause 136 = .ok (.pop, 1) := dk_87 (bs_at BX6_clause_96 23 rfl)
theorem BX6_clause_137 : bsegs (ByteArray.data cX6_clause |>.toList.drop 137) 137 [(137, [132, 4, 1]), (140, [167, 255, 192]), (143, [42]), (144, [180, 0, 27]), (147, [154, 0, 60]), (150, [42]), (151, [18, 99]), (153, [182, 0, 84]), (156, [153, 0, 51]), (159, [42]), (160, [180, 0, 12]), (163, [180, 0, 101]), (166, [4]), (167, [161, 0, 15]), (170, [42]), (171, [180, 0, 12]), (174, [180, 0, 101]), (177, [16, 20]), (179, [164, 0, 5]), (182, [3]), (183, [172]), (184, [42]), (185, [180, 0, 23]), (188, [27])] = true := by decide +kernel
theorem dX6_clause_137 : decode cX6_clause 137 = .ok (.iinc 4 1, 3) := dk_132 4 1 (bs_at BX6_clause_137 0 rfl) rfl
theorem dX6_clause_140 : decode cX6_clause 140 = .ok (.goto (-64), 3) := dk_167 255 192 (bs_at BX6_clause_137 1 rfl) rfl
theorem dX6_clause_143 : decode cX6_clause 143 = .ok (.aload_n 0, 1) := dk_42 (bs_at BX6_clause_137 2 rfl)
theorem dX6_clause_144 : decode cX6_clause 144 = .ok (.getfield 27, 3) := dk_180 0 27 (bs_at BX6_clause_137 3 rfl) rfl
theorem dX6_clause_147 : decode cX6_clause 147 = .ok (.ifCond .ne 60, 3) := dk_154 0 60 (bs_at BX6_clause_137 4 rfl) rfl
theorem dX6_clause_150 : decode cX6_clause 150 = .ok (.aload_n 0, 1) := dk_42 (bs_at BX6_clause_137 5 rfl)
theorem dX6_clause_151 : decode cX6_clause 151 = .ok (.ldc 99, 2) := dk_18 99 (bs_at BX6_clause_137 6 rfl)
theorem dX6_clause_153 : decode cX6_clause 153 = .ok (.invokevirtual 84, 3) := dk_182 0 84 (bs_at BX6_clause_137 7 rfl) rfl
theorem dX6_clause_156 : decode cX6_clause 156 = .ok (.ifCond .eq 51, 3) := dk_153 0 51 (bs_at BX6_clause_137 8 rfl) rfl
theorem dX6_clause_159 : decode cX6_clause 159 = .ok (.aload_n 0, 1) := dk_42 (bs_at BX6_clause_137 9 rfl)
theorem dX6_clause_160 : decode cX6_clause 160 = .ok (.getfield 12, 3) := dk_180 0 12 (bs_at BX6_clause_137 10 rfl) rfl
theorem dX6_clause_163 : decode cX6_clause 163 = .ok (.getfield 101, 3) := dk_180 0 101 (bs_at BX6_clause_137 11 rfl) rfl
theorem dX6_clause_166 : decode cX6_clause 166 = .ok (.iconst 1, 1) := dk_4 (bs_at BX6_clause_137 12 rfl)
theorem dX6_clause_167 : decode cX6_clause 167 = .ok (.if_icmp .lt 15, 3) := dk_161 0 15 (bs_at BX6_clause_137 13 rfl) rfl
theorem dX6_clause_170 : decode cX6_clause 170 = .ok (.aload_n 0, 1) := dk_42 (bs_at BX6_clause_137 14 rfl)
theorem dX6_clause_171 : decode cX6_clause 171 = .ok (.getfield 12, 3) := dk_180 0 12 (bs_at BX6_clause_137 15 rfl) rfl
theorem dX6_clause_174 : decode cX6_clause 174 = .ok (.getfield 101, 3) := dk_180 0 101 (bs_at BX6_clause_137 16 rfl) rfl
theorem dX6_clause_177 : decode cX6_clause 177 = .ok (.bipush 20, 2) := dk_16 20 (bs_at BX6_clause_137 17 rfl) rfl
theorem dX6_clause_179 : decode cX6_clause 179 = .ok (.if_icmp .le 5, 3) := dk_164 0 5 (bs_at BX6_clause_137 18 rfl) rfl
theorem dX6_clause_182 : decode cX6_clause 182 = .ok (.iconst 0, 1) := dk_3 (bs_at BX6_clause_137 19 rfl)
theorem dX6_clause_183 : decode cX6_clause 183 = .ok (.ireturn, 1) := dk_172 (bs_at BX6_clause_137 20 rfl)
theorem dX6_clause_184 : decode cX6_clause 184 = .ok (.aload_n 0, 1) := dk_42 (bs_at BX6_clause_137 21 rfl)
theorem dX6_clause_185 : decode cX6_clause 185 = .ok (.getfield 23, 3) := dk_180 0 23 (bs_at BX6_clause_137 22 rfl) rfl
theorem dX6_clause_188 : decode cX6_clause 188 = .ok (.iload_n 1, 1) := dk_27 (bs_at BX6_clause_137 23 rfl)
theorem BX6_clause_189 : bsegs (ByteArray.data cX6_clause |>.toList.drop 189) 189 [(189, [4]), (190, [42]), (191, [180, 0, 12]), (194, [180, 0, 101]), (197, [182, 0, 88]), (200, [42]), (201, [180, 0, 12]), (204, [182, 0, 47]), (207, [42]), (208, [18, 104]), (210, [182, 0, 84]), (213, [154, 0, 5]), (216, [4]), (217, [172]), (218, [42]), (219, [180, 0, 23]), (222, [27]), (223, [7]), (224, [42]), (225, [180, 0, 23]), (228, [180, 0, 41]), (231, [182, 0, 88]), (234, [42]), (235, [3])] = true := by decide +kernel
theorem dX6_clause_189 : decode cX6_clause 189 = .ok (.iconst 1, 1) := dk_4 (bs_at BX6_clause_189 0 rfl)
theorem dX6_clause_190 : decode cX6_clause 190 = .ok (.aload_n 0, 1) := dk_42 (bs_at BX6_clause_189 1 rfl)
theorem dX6_clause_191 : decode cX6_clause 191 = .ok (.getfield 12, 3) := dk_180 0 12 (bs_at BX6_clause_189 2 rfl) rfl
theorem dX6_clause_194 : decode cX6_clause 194 = .ok (.getfield 101, 3) := dk_180 0 101 (bs_at BX6_clause_189 3 rfl) rfl
theorem dX6_clause_197 : decode cX6_clause 197 = .ok (.invokevirtual 88, 3) := dk_182 0 88 (bs_at BX6_clause_189 4 rfl) rfl
theorem dX6_clause_200 : decode cX6_clause 200 = .ok (.aload_n 0, 1) := dk_42 (bs_at BX6_clause_189 5 rfl)
theorem dX6_clause_201 : decode cX6_clause 201 = .ok (.getfield 12, 3) := dk_180 0 12 (bs_at BX6_clause_189 6 rfl) rfl
theorem dX6_clause_204 : decode cX6_clause 204 = .ok (.invokevirtual 47, 3) := dk_182 0 47 (bs_at BX6_clause_189 7 rfl) rfl
theorem dX6_clause_207 : decode cX6_clause 207 = .ok (.aload_n 0, 1) := dk_42 (bs_at BX6_clause_189 8 rfl)
theorem dX6_clause_208 : decode cX6_clause 208 = .ok (.ldc 104, 2) := dk_18 104 (bs_at BX6_clause_189 9 rfl)
theorem dX6_clause_210 : decode cX6_clause 210 = .ok (.invokevirtual 84, 3) := dk_182 0 84 (bs_at BX6_clause_189 10 rfl) rfl
theorem dX6_clause_213 : decode cX6_clause 213 = .ok (.ifCond .ne 5, 3) := dk_154 0 5 (bs_at BX6_clause_189 11 rfl) rfl
theorem dX6_clause_216 : decode cX6_clause 216 = .ok (.iconst 1, 1) := dk_4 (bs_at BX6_clause_189 12 rfl)
theorem dX6_clause_217 : decode cX6_clause 217 = .ok (.ireturn, 1) := dk_172 (bs_at BX6_clause_189 13 rfl)
theorem dX6_clause_218 : decode cX6_clause 218 = .ok (.aload_n 0, 1) := dk_42 (bs_at BX6_clause_189 14 rfl)
theorem dX6_clause_219 : decode cX6_clause 219 = .ok (.getfield 23, 3) := dk_180 0 23 (bs_at BX6_clause_189 15 rfl) rfl
theorem dX6_clause_222 : decode cX6_clause 222 = .ok (.iload_n 1, 1) := dk_27 (bs_at BX6_clause_189 16 rfl)
theorem dX6_clause_223 : decode cX6_clause 223 = .ok (.iconst 4, 1) := dk_7 (bs_at BX6_clause_189 17 rfl)
theorem dX6_clause_224 : decode cX6_clause 224 = .ok (.aload_n 0, 1) := dk_42 (bs_at BX6_clause_189 18 rfl)
theorem dX6_clause_225 : decode cX6_clause 225 = .ok (.getfield 23, 3) := dk_180 0 23 (bs_at BX6_clause_189 19 rfl) rfl
theorem dX6_clause_228 : decode cX6_clause 228 = .ok (.getfield 41, 3) := dk_180 0 41 (bs_at BX6_clause_189 20 rfl) rfl
theorem dX6_clause_231 : decode cX6_clause 231 = .ok (.invokevirtual 88, 3) := dk_182 0 88 (bs_at BX6_clause_189 21 rfl) rfl
theorem dX6_clause_234 : decode cX6_clause 234 = .ok (.aload_n 0, 1) := dk_42 (bs_at BX6_clause_189 22 rfl)
theorem dX6_clause_235 : decode cX6_clause 235 = .ok (.iconst 0, 1) := dk_3 (bs_at BX6_clause_189 23 rfl)
theorem BX6_clause_236 : bsegs (ByteArray.data cX6_clause |>.toList.drop 236) 236 [(236, [182, 0, 106]), (239, [54, 4]), (241, [42]), (242, [180, 0, 23]), (245, [3]), (246, [3]), (247, [182, 0, 95]), (250, [87]), (251, [21, 4]), (253, [172])] = true := by decide +kernel
theorem dX6_clause_236 : decode cX6_clause 236 = .ok (.invokevirtual 106, 3) := dk_182 0 106 (bs_at BX6_clause_236 0 rfl) rfl
theorem dX6_clause_239 : decode cX6_clause 239 = .ok (.istore 4, 2) := dk_54 4 (bs_at BX6_clause_236 1 rfl)
theorem dX6_clause_241 : decode cX6_clause 241 = .ok (.aload_n 0, 1) := dk_42 (bs_at BX6_clause_236 2 rfl)
theorem dX6_clause_242 : decode cX6_clause 242 = .ok (.getfield 23, 3) := dk_180 0 23 (bs_at BX6_clause_236 3 rfl) rfl
theorem dX6_clause_245 : decode cX6_clause 245 = .ok (.iconst 0, 1) := dk_3 (bs_at BX6_clause_236 4 rfl)
theorem dX6_clause_246 : decode cX6_clause 246 = .ok (.iconst 0, 1) := dk_3 (bs_at BX6_clause_236 5 rfl)
theorem dX6_clause_247 : decode cX6_clause 247 = .ok (.invokevirtual 95, 3) := dk_182 0 95 (bs_at BX6_clause_236 6 rfl) rfl
theorem dX6_clause_250 : decode cX6_clause 250 = .ok (.pop, 1) := dk_87 (bs_at BX6_clause_236 7 rfl)
theorem dX6_clause_251 : decode cX6_clause 251 = .ok (.iload 4, 2) := dk_21 4 (bs_at BX6_clause_236 8 rfl)
theorem dX6_clause_253 : decode cX6_clause 253 = .ok (.ireturn, 1) := dk_172 (bs_at BX6_clause_236 9 rfl)
theorem BX6_reads_0 : bsegs (ByteArray.data cX6_reads |>.toList.drop 0) 0 [(0, [42]), (1, [27]), (2, [181, 0, 27]), (5, [42]), (6, [3]), (7, [181, 0, 31]), (10, [42]), (11, [180, 0, 23]), (14, [3]), (15, [181, 0, 38]), (18, [42]), (19, [180, 0, 23]), (22, [3]), (23, [181, 0, 41]), (26, [42]), (27, [180, 0, 12]), (30, [3]), (31, [181, 0, 44]), (34, [42]), (35, [180, 0, 12]), (38, [182, 0, 47]), (41, [3]), (42, [61]), (43, [3])] = true := by decide +kernel
theorem dX6_reads_0 : decode cX6_reads 0 = .ok (.aload_n 0, 1) := dk_42 (bs_at BX6_reads_0 0 rfl)
theorem dX6_reads_1 : decode cX6_reads 1 = .ok (.iload_n 1, 1) := dk_27 (bs_at BX6_reads_0 1 rfl)
theorem dX6_reads_2 : decode cX6_reads 2 = .ok (.putfield 27, 3) := dk_181 0 27 (bs_at BX6_reads_0 2 rfl) rfl
theorem dX6_reads_5 : decode cX6_reads 5 = .ok (.aload_n 0, 1) := dk_42 (bs_at BX6_reads_0 3 rfl)
theorem dX6_reads_6 : decode cX6_reads 6 = .ok (.iconst 0, 1) := dk_3 (bs_at BX6_reads_0 4 rfl)
theorem dX6_reads_7 : decode cX6_reads 7 = .ok (.putfield 31, 3) := dk_181 0 31 (bs_at BX6_reads_0 5 rfl) rfl
theorem dX6_reads_10 : decode cX6_reads 10 = .ok (.aload_n 0, 1) := dk_42 (bs_at BX6_reads_0 6 rfl)
theorem dX6_reads_11 : decode cX6_reads 11 = .ok (.getfield 23, 3) := dk_180 0 23 (bs_at BX6_reads_0 7 rfl) rfl
theorem dX6_reads_14 : decode cX6_reads 14 = .ok (.iconst 0, 1) := dk_3 (bs_at BX6_reads_0 8 rfl)
theorem dX6_reads_15 : decode cX6_reads 15 = .ok (.putfield 38, 3) := dk_181 0 38 (bs_at BX6_reads_0 9 rfl) rfl
theorem dX6_reads_18 : decode cX6_reads 18 = .ok (.aload_n 0, 1) := dk_42 (bs_at BX6_reads_0 10 rfl)
theorem dX6_reads_19 : decode cX6_reads 19 = .ok (.getfield 23, 3) := dk_180 0 23 (bs_at BX6_reads_0 11 rfl) rfl
theorem dX6_reads_22 : decode cX6_reads 22 = .ok (.iconst 0, 1) := dk_3 (bs_at BX6_reads_0 12 rfl)
theorem dX6_reads_23 : decode cX6_reads 23 = .ok (.putfield 41, 3) := dk_181 0 41 (bs_at BX6_reads_0 13 rfl) rfl
theorem dX6_reads_26 : decode cX6_reads 26 = .ok (.aload_n 0, 1) := dk_42 (bs_at BX6_reads_0 14 rfl)
theorem dX6_reads_27 : decode cX6_reads 27 = .ok (.getfield 12, 3) := dk_180 0 12 (bs_at BX6_reads_0 15 rfl) rfl
theorem dX6_reads_30 : decode cX6_reads 30 = .ok (.iconst 0, 1) := dk_3 (bs_at BX6_reads_0 16 rfl)
theorem dX6_reads_31 : decode cX6_reads 31 = .ok (.putfield 44, 3) := dk_181 0 44 (bs_at BX6_reads_0 17 rfl) rfl
theorem dX6_reads_34 : decode cX6_reads 34 = .ok (.aload_n 0, 1) := dk_42 (bs_at BX6_reads_0 18 rfl)
theorem dX6_reads_35 : decode cX6_reads 35 = .ok (.getfield 12, 3) := dk_180 0 12 (bs_at BX6_reads_0 19 rfl) rfl
theorem dX6_reads_38 : decode cX6_reads 38 = .ok (.invokevirtual 47, 3) := dk_182 0 47 (bs_at BX6_reads_0 20 rfl) rfl
theorem dX6_reads_41 : decode cX6_reads 41 = .ok (.iconst 0, 1) := dk_3 (bs_at BX6_reads_0 21 rfl)
theorem dX6_reads_42 : decode cX6_reads 42 = .ok (.istore_n 2, 1) := dk_61 (bs_at BX6_reads_0 22 rfl)
theorem dX6_reads_43 : decode cX6_reads 43 = .ok (.iconst 0, 1) := dk_3 (bs_at BX6_reads_0 23 rfl)
theorem BX6_reads_44 : bsegs (ByteArray.data cX6_reads |>.toList.drop 44) 44 [(44, [62]), (45, [29]), (46, [16, 12]), (48, [162, 0, 77]), (51, [28]), (52, [154, 0, 73]), (55, [42]), (56, [29]), (57, [182, 0, 50]), (60, [154, 0, 6]), (63, [167, 0, 62]), (66, [42]), (67, [180, 0, 23]), (70, [29]), (71, [4]), (72, [96]), (73, [181, 0, 38]), (76, [42]), (77, [180, 0, 12]), (80, [180, 0, 54]), (83, [2]), (84, [160, 0, 7]), (87, [4]), (88, [167, 0, 4])] = true := by decide +kernel
theorem dX6_reads_44 : decode cX6_reads 44 = .ok (.istore_n 3, 1) := dk_62 (bs_at BX6_reads_44 0 rfl)
theorem dX6_reads_45 : decode cX6_reads 45 = .ok (.iload_n 3, 1) := dk_29 (bs_at BX6_reads_44 1 rfl)
theorem dX6_reads_46 : decode cX6_reads 46 = .ok (.bipush 12, 2) := dk_16 12 (bs_at BX6_reads_44 2 rfl) rfl
theorem dX6_reads_48 : decode cX6_reads 48 = .ok (.if_icmp .ge 77, 3) := dk_162 0 77 (bs_at BX6_reads_44 3 rfl) rfl
theorem dX6_reads_51 : decode cX6_reads 51 = .ok (.iload_n 2, 1) := dk_28 (bs_at BX6_reads_44 4 rfl)
theorem dX6_reads_52 : decode cX6_reads 52 = .ok (.ifCond .ne 73, 3) := dk_154 0 73 (bs_at BX6_reads_44 5 rfl) rfl
theorem dX6_reads_55 : decode cX6_reads 55 = .ok (.aload_n 0, 1) := dk_42 (bs_at BX6_reads_44 6 rfl)
theorem dX6_reads_56 : decode cX6_reads 56 = .ok (.iload_n 3, 1) := dk_29 (bs_at BX6_reads_44 7 rfl)
theorem dX6_reads_57 : decode cX6_reads 57 = .ok (.invokevirtual 50, 3) := dk_182 0 50 (bs_at BX6_reads_44 8 rfl) rfl
theorem dX6_reads_60 : decode cX6_reads 60 = .ok (.ifCond .ne 6, 3) := dk_154 0 6 (bs_at BX6_reads_44 9 rfl) rfl
theorem dX6_reads_63 : decode cX6_reads 63 = .ok (.goto 62, 3) := dk_167 0 62 (bs_at BX6_reads_44 10 rfl) rfl
theorem dX6_reads_66 : decode cX6_reads 66 = .ok (.aload_n 0, 1) := dk_42 (bs_at BX6_reads_44 11 rfl)
theorem dX6_reads_67 : decode cX6_reads 67 = .ok (.getfield 23, 3) := dk_180 0 23 (bs_at BX6_reads_44 12 rfl) rfl
theorem dX6_reads_70 : decode cX6_reads 70 = .ok (.iload_n 3, 1) := dk_29 (bs_at BX6_reads_44 13 rfl)
theorem dX6_reads_71 : decode cX6_reads 71 = .ok (.iconst 1, 1) := dk_4 (bs_at BX6_reads_44 14 rfl)
theorem dX6_reads_72 : decode cX6_reads 72 = .ok (.iadd, 1) := dk_96 (bs_at BX6_reads_44 15 rfl)
theorem dX6_reads_73 : decode cX6_reads 73 = .ok (.putfield 38, 3) := dk_181 0 38 (bs_at BX6_reads_44 16 rfl) rfl
theorem dX6_reads_76 : decode cX6_reads 76 = .ok (.aload_n 0, 1) := dk_42 (bs_at BX6_reads_44 17 rfl)
theorem dX6_reads_77 : decode cX6_reads 77 = .ok (.getfield 12, 3) := dk_180 0 12 (bs_at BX6_reads_44 18 rfl) rfl
theorem dX6_reads_80 : decode cX6_reads 80 = .ok (.getfield 54, 3) := dk_180 0 54 (bs_at BX6_reads_44 19 rfl) rfl
theorem dX6_reads_83 : decode cX6_reads 83 = .ok (.iconst (-1), 1) := dk_2 (bs_at BX6_reads_44 20 rfl)
theorem dX6_reads_84 : decode cX6_reads 84 = .ok (.if_icmp .ne 7, 3) := dk_160 0 7 (bs_at BX6_reads_44 21 rfl) rfl
theorem dX6_reads_87 : decode cX6_reads 87 = .ok (.iconst 1, 1) := dk_4 (bs_at BX6_reads_44 22 rfl)
theorem dX6_reads_88 : decode cX6_reads 88 = .ok (.goto 4, 3) := dk_167 0 4 (bs_at BX6_reads_44 23 rfl) rfl
theorem BX6_reads_91 : bsegs (ByteArray.data cX6_reads |>.toList.drop 91) 91 [(91, [3]), (92, [61]), (93, [28]), (94, [154, 0, 18]), (97, [42]), (98, [180, 0, 12]), (101, [180, 0, 54]), (104, [16, 59]), (106, [159, 0, 6]), (109, [167, 0, 16]), (112, [42]), (113, [180, 0, 12]), (116, [182, 0, 47]), (119, [132, 3, 1]), (122, [167, 255, 179]), (125, [42]), (126, [28]), (127, [153, 0, 7]), (130, [2]), (131, [167, 0, 10]), (134, [42]), (135, [180, 0, 12]), (138, [180, 0, 57]), (141, [181, 0, 35])] = true := by decide +kernel
theorem dX6_reads_91 : decode cX6_reads 91 = .ok (.iconst 0, 1) := dk_3 (bs_at BX6_reads_91 0 rfl)
theorem dX6_reads_92 : decode cX6_reads 92 = .ok (.istore_n 2, 1) := dk_61 (bs_at BX6_reads_91 1 rfl)
theorem dX6_reads_93 : decode cX6_reads 93 = .ok (.iload_n 2, 1) := dk_28 (bs_at BX6_reads_91 2 rfl)
theorem dX6_reads_94 : decode cX6_reads 94 = .ok (.ifCond .ne 18, 3) := dk_154 0 18 (bs_at BX6_reads_91 3 rfl) rfl
theorem dX6_reads_97 : decode cX6_reads 97 = .ok (.aload_n 0, 1) := dk_42 (bs_at BX6_reads_91 4 rfl)
theorem dX6_reads_98 : decode cX6_reads 98 = .ok (.getfield 12, 3) := dk_180 0 12 (bs_at BX6_reads_91 5 rfl) rfl
theorem dX6_reads_101 : decode cX6_reads 101 = .ok (.getfield 54, 3) := dk_180 0 54 (bs_at BX6_reads_91 6 rfl) rfl
theorem dX6_reads_104 : decode cX6_reads 104 = .ok (.bipush 59, 2) := dk_16 59 (bs_at BX6_reads_91 7 rfl) rfl
theorem dX6_reads_106 : decode cX6_reads 106 = .ok (.if_icmp .eq 6, 3) := dk_159 0 6 (bs_at BX6_reads_91 8 rfl) rfl
theorem dX6_reads_109 : decode cX6_reads 109 = .ok (.goto 16, 3) := dk_167 0 16 (bs_at BX6_reads_91 9 rfl) rfl
theorem dX6_reads_112 : decode cX6_reads 112 = .ok (.aload_n 0, 1) := dk_42 (bs_at BX6_reads_91 10 rfl)
theorem dX6_reads_113 : decode cX6_reads 113 = .ok (.getfield 12, 3) := dk_180 0 12 (bs_at BX6_reads_91 11 rfl) rfl
theorem dX6_reads_116 : decode cX6_reads 116 = .ok (.invokevirtual 47, 3) := dk_182 0 47 (bs_at BX6_reads_91 12 rfl) rfl
theorem dX6_reads_119 : decode cX6_reads 119 = .ok (.iinc 3 1, 3) := dk_132 3 1 (bs_at BX6_reads_91 13 rfl) rfl
theorem dX6_reads_122 : decode cX6_reads 122 = .ok (.goto (-77), 3) := dk_167 255 179 (bs_at BX6_reads_91 14 rfl) rfl
theorem dX6_reads_125 : decode cX6_reads 125 = .ok (.aload_n 0, 1) := dk_42 (bs_at BX6_reads_91 15 rfl)
theorem dX6_reads_126 : decode cX6_reads 126 = .ok (.iload_n 2, 1) := dk_28 (bs_at BX6_reads_91 16 rfl)
theorem dX6_reads_127 : decode cX6_reads 127 = .ok (.ifCond .eq 7, 3) := dk_153 0 7 (bs_at BX6_reads_91 17 rfl) rfl
theorem dX6_reads_130 : decode cX6_reads 130 = .ok (.iconst (-1), 1) := dk_2 (bs_at BX6_reads_91 18 rfl)
theorem dX6_reads_131 : decode cX6_reads 131 = .ok (.goto 10, 3) := dk_167 0 10 (bs_at BX6_reads_91 19 rfl) rfl
theorem dX6_reads_134 : decode cX6_reads 134 = .ok (.aload_n 0, 1) := dk_42 (bs_at BX6_reads_91 20 rfl)
theorem dX6_reads_135 : decode cX6_reads 135 = .ok (.getfield 12, 3) := dk_180 0 12 (bs_at BX6_reads_91 21 rfl) rfl
theorem dX6_reads_138 : decode cX6_reads 138 = .ok (.getfield 57, 3) := dk_180 0 57 (bs_at BX6_reads_91 22 rfl) rfl
theorem dX6_reads_141 : decode cX6_reads 141 = .ok (.putfield 35, 3) := dk_181 0 35 (bs_at BX6_reads_91 23 rfl) rfl
theorem BX6_reads_144 : bsegs (ByteArray.data cX6_reads |>.toList.drop 144) 144 [(144, [42]), (145, [180, 0, 12]), (148, [3]), (149, [181, 0, 60]), (152, [28]), (153, [172])] = true := by decide +kernel
theorem dX6_reads_144 : decode cX6_reads 144 = .ok (.aload_n 0, 1) := dk_42 (bs_at BX6_reads_144 0 rfl)
theorem dX6_reads_145 : decode cX6_reads 145 = .ok (.getfield 12, 3) := dk_180 0 12 (bs_at BX6_reads_144 1 rfl) rfl
theorem dX6_reads_148 : decode cX6_reads 148 = .ok (.iconst 0, 1) := dk_3 (bs_at BX6_reads_144 2 rfl)
theorem dX6_reads_149 : decode cX6_reads 149 = .ok (.putfield 60, 3) := dk_181 0 60 (bs_at BX6_reads_144 3 rfl) rfl
theorem dX6_reads_152 : decode cX6_reads 152 = .ok (.iload_n 2, 1) := dk_28 (bs_at BX6_reads_144 4 rfl)
theorem dX6_reads_153 : decode cX6_reads 153 = .ok (.ireturn, 1) := dk_172 (bs_at BX6_reads_144 5 rfl)
theorem ggX6_clause_X8_find : GoodIn wsX6_clause wsX8_find := gi_ch ch_X6_clause ch_X8_find (by decide +kernel)
set_option maxRecDepth 20000 in
theorem gX6_clause_X8_find_n67 : GoodIn wsX6_clause (wsX8_find) := ggX6_clause_X8_find
theorem ggX6_clause_X8_step : GoodIn wsX6_clause wsX8_step := gi_ch ch_X6_clause ch_X8_step (by decide +kernel)
set_option maxRecDepth 20000 in
theorem gX6_clause_X8_step_n47 : GoodIn wsX6_clause (wsX8_step) := ggX6_clause_X8_step
theorem ggX6_clause_X7_open : GoodIn wsX6_clause wsX7_open := gi_ch ch_X6_clause ch_X7_open (by decide +kernel)
set_option maxRecDepth 20000 in
theorem gX6_clause_X7_open_n75 : GoodIn wsX6_clause (wsX7_open) := ggX6_clause_X7_open
theorem ggX6_clause_X6_passed : GoodIn wsX6_clause wsX6_passed := gi_ch ch_X6_clause ch_X6_passed (by decide +kernel)
theorem gX6_clause_X6_passed : GoodIn wsX6_clause (wsV RX6 84 RX6 yX6_passed wsX6_passed) := gi_ch ch_X6_clause (ch_v [530, 531, 26, 146] rfl ch_X6_passed) (by decide +kernel)
theorem ggX6_clause_X7_setHead : GoodIn wsX6_clause wsX7_setHead := gi_ch ch_X6_clause ch_X7_setHead (by decide +kernel)
set_option maxRecDepth 20000 in
theorem gX6_clause_X7_setHead_n88 : GoodIn wsX6_clause (wsX7_setHead) := ggX6_clause_X7_setHead
theorem ggX6_clause_X6_test : GoodIn wsX6_clause wsX6_test := gi_ch ch_X6_clause ch_X6_test (by decide +kernel)
theorem gX6_clause_X6_test : GoodIn wsX6_clause (wsV RX6 106 RX6 yX6_test wsX6_test) := gi_ch ch_X6_clause (ch_v [548, 549, 31, 146] rfl ch_X6_test) (by decide +kernel)
theorem ggX6_clause_X7_emit : GoodIn wsX6_clause wsX7_emit := gi_ch ch_X6_clause ch_X7_emit (by decide +kernel)
set_option maxRecDepth 20000 in
theorem gX6_clause_X7_emit_n95 : GoodIn wsX6_clause (wsX7_emit) := ggX6_clause_X7_emit
theorem ggX6_clause_X6_sum : GoodIn wsX6_clause wsX6_sum := gi_ch ch_X6_clause ch_X6_sum (by decide +kernel)
theorem gX6_clause_X6_sum : GoodIn wsX6_clause (wsV RX6 92 RX6 yX6_sum wsX6_sum) := gi_ch ch_X6_clause (ch_v [533, 534, 27, 146] rfl ch_X6_sum) (by decide +kernel)
theorem ggX6_reads_X8_step : GoodIn wsX6_reads wsX8_step := gi_ch ch_X6_reads ch_X8_step (by decide +kernel)
set_option maxRecDepth 20000 in
theorem gX6_reads_X8_step_n47 : GoodIn wsX6_reads (wsX8_step) := ggX6_reads_X8_step
theorem ggX6_reads_X6_clause : GoodIn wsX6_reads wsX6_clause := gi_ch ch_X6_reads ch_X6_clause (by decide +kernel)
theorem gX6_reads_X6_clause : GoodIn wsX6_reads (wsV RX6 50 RX6 yX6_clause wsX6_clause) := gi_ch ch_X6_reads (ch_v [475, 476, 22, 146] rfl ch_X6_clause) (by decide +kernel)
set_option maxRecDepth 100000 in
noncomputable def E_w_clause_j34 (pa : Int32) (tf : Int32) (tt : Int32) (ti : Int32) (tu : Int32) (us : Int32) (fh : Nat → Int32) (fc : Nat → Int32) : Int32 × Int32 × Int32 × Int32 × Int32 × Int32 × Int32 × (Nat → Int32) × (Nat → Int32) :=
  ((0, pa, tf, tt, ti, tu, us, fh, fc) : Int32 × Int32 × Int32 × Int32 × Int32 × Int32 × Int32 × (Nat → Int32) × (Nat → Int32))
set_option maxRecDepth 100000 in
noncomputable def E_w_clause_j207 (x : Int32) (lw : Int32) (ln : Int32) (fb : Nat → Int32) (v_5412 : Int32) (v_5417 : Int32) (f_5418 : Nat → Int32) (v_5606 : Int32) (v_5607 : Int32) (v_5608 : Int32) (v_5609 : Int32) (f_5610 : Nat → Int32) : Int32 × Int32 × Int32 × Int32 × Int32 × Int32 × Int32 × (Nat → Int32) × (Nat → Int32) :=
  Lt2 (E_w_passed 4 lw v_5412 ln v_5606 v_5607 v_5608 v_5609 fb) (fun r_5640 q0_r_5640 => Lt2 q0_r_5640 (fun u_5641_2_2_2_1_0 q1_u_5641_2_2_2_1_0 => Lt2 q1_u_5641_2_2_2_1_0 (fun u_5641_2_2_2_1_1 q2_u_5641_2_2_2_1_1 => Lt2 q2_u_5641_2_2_2_1_1 (fun u_5641_2_2_2_1_2 u_5641_2_2_2_1_3 => if r_5640 = 0 then (((1, v_5412, u_5641_2_2_2_1_0, u_5641_2_2_2_1_1, u_5641_2_2_2_1_2, u_5641_2_2_2_1_3, v_5417, f_5610, f_5418) : Int32 × Int32 × Int32 × Int32 × Int32 × Int32 × Int32 × (Nat → Int32) × (Nat → Int32))) else (Lt (E_w_setHead x 4 v_5417 f_5610) (fun u_5649_2_1_0 => Lt2 (E_test_0 0 lw v_5412 ln u_5641_2_2_2_1_0 u_5641_2_2_2_1_1 u_5641_2_2_2_1_2 u_5641_2_2_2_1_3 fb v_5417 f_5418) (fun r_5652 q0_r_5652 => Lt2 q0_r_5652 (fun u_5653_2_2_2_1_0 q1_u_5653_2_2_2_1_0 => Lt2 q1_u_5653_2_2_2_1_0 (fun u_5653_2_2_2_1_1 q2_u_5653_2_2_2_1_1 => Lt2 q2_u_5653_2_2_2_1_1 (fun u_5653_2_2_2_1_2 q3_u_5653_2_2_2_1_2 => Lt2 q3_u_5653_2_2_2_1_2 (fun u_5653_2_2_2_1_3 q4_u_5653_2_2_2_1_3 => Lt2 q4_u_5653_2_2_2_1_3 (fun u_5653_2_2_2_1_4 q5_u_5653_2_2_2_1_4 => Lt2 q5_u_5653_2_2_2_1_4 (fun u_5653_2_2_2_1_5 u_5653_2_1_0 => Lt2 (E_w_emit 0 0 u_5653_2_2_2_1_5 u_5653_2_1_0) (fun r_5662 q0_r_5662 => Lt2 q0_r_5662 (fun u_5663_2_2_2_1_0 u_5663_2_1_0 => ((r_5652, u_5653_2_2_2_1_0, u_5653_2_2_2_1_1, u_5653_2_2_2_1_2, u_5653_2_2_2_1_3, u_5653_2_2_2_1_4, u_5663_2_2_2_1_0, u_5649_2_1_0, u_5663_2_1_0) : Int32 × Int32 × Int32 × Int32 × Int32 × Int32 × Int32 × (Nat → Int32) × (Nat → Int32)))))))))))))))))
set_option maxRecDepth 100000 in
noncomputable def E_w_clause_j182 (v_5412 : Int32) (v_5417 : Int32) (f_5418 : Nat → Int32) (f_5419 : Nat → Int32) (u_5670_2_2_2_1_0 : Int32) (u_5670_2_2_2_1_1 : Int32) (u_5670_2_2_2_1_2 : Int32) (u_5670_2_2_2_1_3 : Int32) : Int32 × Int32 × Int32 × Int32 × Int32 × Int32 × Int32 × (Nat → Int32) × (Nat → Int32) :=
  ((0, v_5412, u_5670_2_2_2_1_0, u_5670_2_2_2_1_1, u_5670_2_2_2_1_2, u_5670_2_2_2_1_3, v_5417, f_5419, f_5418) : Int32 × Int32 × Int32 × Int32 × Int32 × Int32 × Int32 × (Nat → Int32) × (Nat → Int32))
set_option maxRecDepth 100000 in
noncomputable def E_w_clause_j98 (x : Int32) (lw : Int32) (ln : Int32) (fb : Nat → Int32) (v_5411 : Int32) (v_5412 : Int32) (v_5417 : Int32) (f_5418 : Nat → Int32) (f_5419 : Nat → Int32) (rec_5569 : Int32 → Int32 → Int32 → Int32 → Int32 → Int32 → Int32 → (Nat → Int32) → (Nat → Int32) → (Int32 × Int32 × Int32 × Int32 × Int32 × Int32 × Int32 × (Nat → Int32) × (Nat → Int32))) (v_5711 : Int32) (v_5712 : Int32) (v_5713 : Int32) (v_5714 : Int32) : Int32 × Int32 × Int32 × Int32 × Int32 × Int32 × Int32 × (Nat → Int32) × (Nat → Int32) :=
  Lt (2 + v_5411 : Int32) (fun x_5739 => Lt (E_w_setHead x x_5739 v_5417 f_5419) (fun u_5741_2_1_0 => Lt2 (E_sum_0 0 lw v_5412 ln v_5711 v_5712 v_5713 v_5714 fb v_5417 f_5418) (fun r_5744 q0_r_5744 => Lt2 q0_r_5744 (fun u_5745_2_2_2_1_0 q1_u_5745_2_2_2_1_0 => Lt2 q1_u_5745_2_2_2_1_0 (fun u_5745_2_2_2_1_1 q2_u_5745_2_2_2_1_1 => Lt2 q2_u_5745_2_2_2_1_1 (fun u_5745_2_2_2_1_2 q3_u_5745_2_2_2_1_2 => Lt2 q3_u_5745_2_2_2_1_2 (fun u_5745_2_2_2_1_3 q4_u_5745_2_2_2_1_3 => Lt2 q4_u_5745_2_2_2_1_3 (fun u_5745_2_2_2_1_4 q5_u_5745_2_2_2_1_4 => Lt2 q5_u_5745_2_2_2_1_4 (fun u_5745_2_2_2_1_5 u_5745_2_1_0 => if r_5744 = 0 then (((0, u_5745_2_2_2_1_0, u_5745_2_2_2_1_1, u_5745_2_2_2_1_2, u_5745_2_2_2_1_3, u_5745_2_2_2_1_4, u_5745_2_2_2_1_5, u_5741_2_1_0, u_5745_2_1_0) : Int32 × Int32 × Int32 × Int32 × Int32 × Int32 × Int32 × (Nat → Int32) × (Nat → Int32))) else (Lt2 (E_w_emit 0 0 u_5745_2_2_2_1_5 u_5745_2_1_0) (fun r_5755 q0_r_5755 => Lt2 q0_r_5755 (fun u_5756_2_2_2_1_0 u_5756_2_1_0 => Lt (v_5411 + Int32.ofInt 1 : Int32) (fun x_5761 => rec_5569 x_5761 u_5745_2_2_2_1_0 u_5745_2_2_2_1_1 u_5745_2_2_2_1_2 u_5745_2_2_2_1_3 u_5745_2_2_2_1_4 u_5756_2_2_2_1_0 u_5756_2_1_0 u_5741_2_1_0)))))))))))))
set_option maxRecDepth 100000 in
noncomputable def E_w_clause_l76 (x : Int32) (lw : Int32) (ln : Int32) (fb : Nat → Int32) (x_5126 : Int32) (rec_5569 : Int32 → Int32 → Int32 → Int32 → Int32 → Int32 → Int32 → (Nat → Int32) → (Nat → Int32) → (Int32 × Int32 × Int32 × Int32 × Int32 × Int32 × Int32 × (Nat → Int32) × (Nat → Int32))) (v_5411 : Int32) (v_5412 : Int32) (v_5413 : Int32) (v_5414 : Int32) (v_5415 : Int32) (v_5416 : Int32) (v_5417 : Int32) (f_5418 : Nat → Int32) (f_5419 : Nat → Int32) : Int32 × Int32 × Int32 × Int32 × Int32 × Int32 × Int32 × (Nat → Int32) × (Nat → Int32) :=
  if x_5126 ≤ v_5411 then (if lw = 0 then (Lt2 (E_w_passed 3 lw v_5412 ln v_5413 v_5414 v_5415 v_5416 fb) (fun r_5669 q0_r_5669 => Lt2 q0_r_5669 (fun u_5670_2_2_2_1_0 q1_u_5670_2_2_2_1_0 => Lt2 q1_u_5670_2_2_2_1_0 (fun u_5670_2_2_2_1_1 q2_u_5670_2_2_2_1_1 => Lt2 q2_u_5670_2_2_2_1_1 (fun u_5670_2_2_2_1_2 u_5670_2_2_2_1_3 => if r_5669 = 0 then (E_w_clause_j207 x lw ln fb v_5412 v_5417 f_5418 u_5670_2_2_2_1_0 u_5670_2_2_2_1_1 u_5670_2_2_2_1_2 u_5670_2_2_2_1_3 f_5419) else (if u_5670_2_2_2_1_3 < 1 then (E_w_clause_j182 v_5412 v_5417 f_5418 f_5419 u_5670_2_2_2_1_0 u_5670_2_2_2_1_1 u_5670_2_2_2_1_2 u_5670_2_2_2_1_3) else (if u_5670_2_2_2_1_3 ≤ 20 then (Lt (E_w_setHead x 1 u_5670_2_2_2_1_3 f_5419) (fun u_5693_2_1_0 => Lt2 (E_w_step ln u_5670_2_2_2_1_0 u_5670_2_2_2_1_1 u_5670_2_2_2_1_2 u_5670_2_2_2_1_3 fb) (fun u_5697_2_2_2_1_0 q0_u_5697_2_2_2_1_0 => Lt2 q0_u_5697_2_2_2_1_0 (fun u_5697_2_2_2_1_1 q1_u_5697_2_2_2_1_1 => Lt2 q1_u_5697_2_2_2_1_1 (fun u_5697_2_2_2_1_2 u_5697_2_2_2_1_3 => E_w_clause_j207 x lw ln fb v_5412 v_5417 f_5418 u_5697_2_2_2_1_0 u_5697_2_2_2_1_1 u_5697_2_2_2_1_2 u_5697_2_2_2_1_3 u_5693_2_1_0))))) else (E_w_clause_j182 v_5412 v_5417 f_5418 f_5419 u_5670_2_2_2_1_0 u_5670_2_2_2_1_1 u_5670_2_2_2_1_2 u_5670_2_2_2_1_3)))))))) else (((0, 0, 0, 0, 0, 0, 0, fun _ => 0, fun _ => 0) : Int32 × Int32 × Int32 × Int32 × Int32 × Int32 × Int32 × (Nat → Int32) × (Nat → Int32)))) else (if v_5411 ≤ 0 then (E_w_clause_j98 x lw ln fb v_5411 v_5412 v_5417 f_5418 f_5419 rec_5569 v_5413 v_5414 v_5415 v_5416) else (Lt2 (E_w_passed 2 lw v_5412 ln v_5413 v_5414 v_5415 v_5416 fb) (fun r_5763 q0_r_5763 => Lt2 q0_r_5763 (fun u_5764_2_2_2_1_0 q1_u_5764_2_2_2_1_0 => Lt2 q1_u_5764_2_2_2_1_0 (fun u_5764_2_2_2_1_1 q2_u_5764_2_2_2_1_1 => Lt2 q2_u_5764_2_2_2_1_1 (fun u_5764_2_2_2_1_2 u_5764_2_2_2_1_3 => if r_5763 = 0 then (((0, v_5412, u_5764_2_2_2_1_0, u_5764_2_2_2_1_1, u_5764_2_2_2_1_2, u_5764_2_2_2_1_3, v_5417, f_5419, f_5418) : Int32 × Int32 × Int32 × Int32 × Int32 × Int32 × Int32 × (Nat → Int32) × (Nat → Int32))) else (E_w_clause_j98 x lw ln fb v_5411 v_5412 v_5417 f_5418 f_5419 rec_5569 u_5764_2_2_2_1_0 u_5764_2_2_2_1_1 u_5764_2_2_2_1_2 u_5764_2_2_2_1_3)))))))
set_option maxRecDepth 100000 in
noncomputable def E_w_clause_l76a (x : Int32) (lw : Int32) (ln : Int32) (fb : Nat → Int32) (x_5787 : Int32) (rec_6009 : Int32 → Int32 → Int32 → Int32 → Int32 → Int32 → Int32 → (Nat → Int32) → (Nat → Int32) → (Int32 × Int32 × Int32 × Int32 × Int32 × Int32 × Int32 × (Nat → Int32) × (Nat → Int32))) (v_5893 : Int32) (v_5894 : Int32) (v_5895 : Int32) (v_5896 : Int32) (v_5897 : Int32) (v_5898 : Int32) (v_5899 : Int32) (f_5900 : Nat → Int32) (f_5901 : Nat → Int32) : Int32 × Int32 × Int32 × Int32 × Int32 × Int32 × Int32 × (Nat → Int32) × (Nat → Int32) :=
  if x_5787 ≤ v_5893 then (if lw = 0 then (((0, 0, 0, 0, 0, 0, 0, fun _ => 0, fun _ => 0) : Int32 × Int32 × Int32 × Int32 × Int32 × Int32 × Int32 × (Nat → Int32) × (Nat → Int32))) else (Lt2 (E_w_passed 4 lw v_5894 ln v_5895 v_5896 v_5897 v_5898 fb) (fun r_6042 q0_r_6042 => Lt2 q0_r_6042 (fun u_6043_2_2_2_1_0 q1_u_6043_2_2_2_1_0 => Lt2 q1_u_6043_2_2_2_1_0 (fun u_6043_2_2_2_1_1 q2_u_6043_2_2_2_1_1 => Lt2 q2_u_6043_2_2_2_1_1 (fun u_6043_2_2_2_1_2 u_6043_2_2_2_1_3 => if r_6042 = 0 then (((1, v_5894, u_6043_2_2_2_1_0, u_6043_2_2_2_1_1, u_6043_2_2_2_1_2, u_6043_2_2_2_1_3, v_5899, f_5901, f_5900) : Int32 × Int32 × Int32 × Int32 × Int32 × Int32 × Int32 × (Nat → Int32) × (Nat → Int32))) else (Lt (E_w_setHead x 4 v_5899 f_5901) (fun u_6051_2_1_0 => Lt2 (E_test_0 0 lw v_5894 ln u_6043_2_2_2_1_0 u_6043_2_2_2_1_1 u_6043_2_2_2_1_2 u_6043_2_2_2_1_3 fb v_5899 f_5900) (fun r_6054 q0_r_6054 => Lt2 q0_r_6054 (fun u_6055_2_2_2_1_0 q1_u_6055_2_2_2_1_0 => Lt2 q1_u_6055_2_2_2_1_0 (fun u_6055_2_2_2_1_1 q2_u_6055_2_2_2_1_1 => Lt2 q2_u_6055_2_2_2_1_1 (fun u_6055_2_2_2_1_2 q3_u_6055_2_2_2_1_2 => Lt2 q3_u_6055_2_2_2_1_2 (fun u_6055_2_2_2_1_3 q4_u_6055_2_2_2_1_3 => Lt2 q4_u_6055_2_2_2_1_3 (fun u_6055_2_2_2_1_4 q5_u_6055_2_2_2_1_4 => Lt2 q5_u_6055_2_2_2_1_4 (fun u_6055_2_2_2_1_5 u_6055_2_1_0 => Lt2 (E_w_emit 0 0 u_6055_2_2_2_1_5 u_6055_2_1_0) (fun r_6064 q0_r_6064 => Lt2 q0_r_6064 (fun u_6065_2_2_2_1_0 u_6065_2_1_0 => ((r_6054, u_6055_2_2_2_1_0, u_6055_2_2_2_1_1, u_6055_2_2_2_1_2, u_6055_2_2_2_1_3, u_6055_2_2_2_1_4, u_6065_2_2_2_1_0, u_6051_2_1_0, u_6065_2_1_0) : Int32 × Int32 × Int32 × Int32 × Int32 × Int32 × Int32 × (Nat → Int32) × (Nat → Int32))))))))))))))))))) else (if v_5893 ≤ 0 then (Lt (2 + v_5893 : Int32) (fun x_6095 => Lt (E_w_setHead x x_6095 v_5899 f_5901) (fun u_6097_2_1_0 => Lt2 (E_sum_0 0 lw v_5894 ln v_5895 v_5896 v_5897 v_5898 fb v_5899 f_5900) (fun r_6100 q0_r_6100 => Lt2 q0_r_6100 (fun u_6101_2_2_2_1_0 q1_u_6101_2_2_2_1_0 => Lt2 q1_u_6101_2_2_2_1_0 (fun u_6101_2_2_2_1_1 q2_u_6101_2_2_2_1_1 => Lt2 q2_u_6101_2_2_2_1_1 (fun u_6101_2_2_2_1_2 q3_u_6101_2_2_2_1_2 => Lt2 q3_u_6101_2_2_2_1_2 (fun u_6101_2_2_2_1_3 q4_u_6101_2_2_2_1_3 => Lt2 q4_u_6101_2_2_2_1_3 (fun u_6101_2_2_2_1_4 q5_u_6101_2_2_2_1_4 => Lt2 q5_u_6101_2_2_2_1_4 (fun u_6101_2_2_2_1_5 u_6101_2_1_0 => if r_6100 = 0 then (((0, u_6101_2_2_2_1_0, u_6101_2_2_2_1_1, u_6101_2_2_2_1_2, u_6101_2_2_2_1_3, u_6101_2_2_2_1_4, u_6101_2_2_2_1_5, u_6097_2_1_0, u_6101_2_1_0) : Int32 × Int32 × Int32 × Int32 × Int32 × Int32 × Int32 × (Nat → Int32) × (Nat → Int32))) else (Lt2 (E_w_emit 0 0 u_6101_2_2_2_1_5 u_6101_2_1_0) (fun r_6111 q0_r_6111 => Lt2 q0_r_6111 (fun u_6112_2_2_2_1_0 u_6112_2_1_0 => Lt (v_5893 + Int32.ofInt 1 : Int32) (fun x_6117 => rec_6009 x_6117 u_6101_2_2_2_1_0 u_6101_2_2_2_1_1 u_6101_2_2_2_1_2 u_6101_2_2_2_1_3 u_6101_2_2_2_1_4 u_6112_2_2_2_1_0 u_6112_2_1_0 u_6097_2_1_0)))))))))))))) else (((0, 0, 0, 0, 0, 0, 0, fun _ => 0, fun _ => 0) : Int32 × Int32 × Int32 × Int32 × Int32 × Int32 × Int32 × (Nat → Int32) × (Nat → Int32))))
set_option maxRecDepth 100000 in
noncomputable def E_w_clause (x : Int32) (lw : Int32) (pa : Int32) (ln : Int32) (tf : Int32) (tt : Int32) (ti : Int32) (tu : Int32) (fb : Nat → Int32) (scl : Int32) (us : Int32) (fh : Nat → Int32) (fc : Nat → Int32) : Int32 × Int32 × Int32 × Int32 × Int32 × Int32 × Int32 × (Nat → Int32) × (Nat → Int32) :=
  if lw = 0 then (Lt (E_w_find 1 ln tf tt ti tu fb) (fun r_5110 => if r_5110 < 0 then (E_w_clause_j34 pa tf tt ti tu us fh fc) else (if r_5110 < 4 then (Lt2 (E_w_step ln tf tt ti tu fb) (fun u_5116_2_2_2_1_0 q0_u_5116_2_2_2_1_0 => Lt2 q0_u_5116_2_2_2_1_0 (fun u_5116_2_2_2_1_1 q1_u_5116_2_2_2_1_1 => Lt2 q1_u_5116_2_2_2_1_1 (fun u_5116_2_2_2_1_2 u_5116_2_2_2_1_3 => Lt (E_w_open x r_5110 fh) (fun u_5122_2_1_0 => if lw = 0 then (Lt (aF 5 (r_5110 : Int32).toNatClampNeg : Int32) (fun x_5126 => Lp (α := Int32 → Int32 → Int32 → Int32 → Int32 → Int32 → Int32 → (Nat → Int32) → (Nat → Int32) → (Int32 × Int32 × Int32 × Int32 × Int32 × Int32 × Int32 × (Nat → Int32) × (Nat → Int32))) (E_w_clause_l76 x lw ln fb x_5126) (fun _ _ _ _ _ _ _ _ _ => ((0, 0, 0, 0, 0, 0, 0, fun _ => 0, fun _ => 0) : Int32 × Int32 × Int32 × Int32 × Int32 × Int32 × Int32 × (Nat → Int32) × (Nat → Int32))) ((3 - (0 : Int32).toInt : Int).toNat + 1) 0 pa u_5116_2_2_2_1_0 u_5116_2_2_2_1_1 u_5116_2_2_2_1_2 u_5116_2_2_2_1_3 us fc u_5122_2_1_0)) else (((0, 0, 0, 0, 0, 0, 0, fun _ => 0, fun _ => 0) : Int32 × Int32 × Int32 × Int32 × Int32 × Int32 × Int32 × (Nat → Int32) × (Nat → Int32)))))))) else (E_w_clause_j34 pa tf tt ti tu us fh fc)))) else (Lt (E_w_find 0 ln tf tt ti tu fb) (fun r_5771 => if r_5771 < 0 then (E_w_clause_j34 pa tf tt ti tu us fh fc) else (if r_5771 < 4 then (Lt2 (E_w_step ln tf tt ti tu fb) (fun u_5777_2_2_2_1_0 q0_u_5777_2_2_2_1_0 => Lt2 q0_u_5777_2_2_2_1_0 (fun u_5777_2_2_2_1_1 q1_u_5777_2_2_2_1_1 => Lt2 q1_u_5777_2_2_2_1_1 (fun u_5777_2_2_2_1_2 u_5777_2_2_2_1_3 => Lt (E_w_open x r_5771 fh) (fun u_5783_2_1_0 => if lw = 0 then (((0, 0, 0, 0, 0, 0, 0, fun _ => 0, fun _ => 0) : Int32 × Int32 × Int32 × Int32 × Int32 × Int32 × Int32 × (Nat → Int32) × (Nat → Int32))) else (Lt (aF 4 (r_5771 : Int32).toNatClampNeg : Int32) (fun x_5787 => Lp (α := Int32 → Int32 → Int32 → Int32 → Int32 → Int32 → Int32 → (Nat → Int32) → (Nat → Int32) → (Int32 × Int32 × Int32 × Int32 × Int32 × Int32 × Int32 × (Nat → Int32) × (Nat → Int32))) (E_w_clause_l76a x lw ln fb x_5787) (fun _ _ _ _ _ _ _ _ _ => ((0, 0, 0, 0, 0, 0, 0, fun _ => 0, fun _ => 0) : Int32 × Int32 × Int32 × Int32 × Int32 × Int32 × Int32 × (Nat → Int32) × (Nat → Int32))) ((2 - (0 : Int32).toInt : Int).toNat + 1) 0 pa u_5777_2_2_2_1_0 u_5777_2_2_2_1_1 u_5777_2_2_2_1_2 u_5777_2_2_2_1_3 us fc u_5783_2_1_0))))))) else (E_w_clause_j34 pa tf tt ti tu us fh fc))))
set_option maxHeartbeats 4000000 in
set_option maxRecDepth 100000 in
theorem w_clause (l : Launch) (D : va_G) (K : Nat → ClassId) (g : Nat → Nat) (L : Nat → Prop) (G : Nat → LC) (a0 : Nat) (x : Int32) (t0 : Nat) (s0 : Nat) (lw : Int32) (pa : Int32) (r_4 : Value) (t1 : Nat) (ln : Int32) (tf : Int32) (tt : Int32) (ti : Int32) (tu : Int32) (fb : Nat → Int32) (s1 : Nat) (s2 : Nat) (scl : Int32) (us : Int32) (fh : Nat → Int32) (fc : Nat → Int32) (sz : Nat) (zln : 0 ≤ ln.toInt ∧ ln.toInt ≤ 400) (ztf : 0 ≤ tf.toInt ∧ tf.toInt ≤ 400) (ztt : 0 ≤ tt.toInt ∧ tt.toInt ≤ 400) (ztu : (-1) ≤ tu.toInt ∧ tu.toInt ≤ 1000000) (zlw : 0 ≤ lw.toInt ∧ lw.toInt ≤ 1) (zpa : 0 ≤ pa.toInt ∧ pa.toInt ≤ 50) (zus : 0 ≤ us.toInt ∧ us.toInt ≤ 800) (zx : 0 ≤ x.toInt ∧ x.toInt ≤ 11) (zfh : Rg 60 (-1) 1000 fh) (zfc : Rg 800 0 1000 fc) : Met l yX6_clause wsX6_clause ({ frames := 334, cells := 0, slots := 0, locals := 7395 }) (va_Pc [.ref a0, .int x] (PreY D K [(a0, .inr (6, [.ref t0, .ref s0, .int lw, .int pa, r_4])), (t0, .inr (8, [.ref t1, .int ln, .int tf, .int tt, .int ti, .int tu])), (t1, .inl (K 0, 400, .inl fb)), (s0, .inr (7, [.ref s1, .ref s2, .int scl, .int us])), (s1, .inl (K 0, 60, .inl fh)), (s2, .inl (K 0, 800, .inl fc))] [] sz g L G (va_A [(a0, .inr (6, [.ref t0, .ref s0, .int lw, .int pa, r_4])), (t0, .inr (8, [.ref t1, .int ln, .int tf, .int tt, .int ti, .int tu])), (t1, .inl (K 0, 400, .inl fb)), (s0, .inr (7, [.ref s1, .ref s2, .int scl, .int us])), (s1, .inl (K 0, 60, .inl fh)), (s2, .inl (K 0, 800, .inl fc))] sz))) (va_Qi (S := Su) (fun (r : Int32) (u : Su) => (0 ≤ r.toInt ∧ r.toInt ≤ 1) ∧ (0 ≤ (u.2.2.2.1 0).toInt ∧ (u.2.2.2.1 0).toInt ≤ 50) ∧ (0 ≤ (u.2.2.2.1 1).toInt ∧ (u.2.2.2.1 1).toInt ≤ 400) ∧ (0 ≤ (u.2.2.2.1 2).toInt ∧ (u.2.2.2.1 2).toInt ≤ 400) ∧ ((-1) ≤ (u.2.2.2.1 4).toInt ∧ (u.2.2.2.1 4).toInt ≤ 1000000) ∧ (0 ≤ (u.2.2.2.1 5).toInt ∧ (u.2.2.2.1 5).toInt ≤ 800) ∧ (Rg 60 (-1) 1000 (u.2.1 0)) ∧ (Rg 800 0 1000 (u.2.1 1)) ∧ ((r, (u.2.2.2.1 0), (u.2.2.2.1 1), (u.2.2.2.1 2), (u.2.2.2.1 3), (u.2.2.2.1 4), (u.2.2.2.1 5), (u.2.1 0), (u.2.1 1)) = E_w_clause x lw pa ln tf tt ti tu fb scl us fh fc) ∧ True) (fun u t => Wd D (va_A [(a0, .inr (6, [.ref t0, .ref s0, .int lw, .int pa, r_4])), (t0, .inr (8, [.ref t1, .int ln, .int tf, .int tt, .int ti, .int tu])), (t1, .inl (K 0, 400, .inl fb)), (s0, .inr (7, [.ref s1, .ref s2, .int scl, .int us])), (s1, .inl (K 0, 60, .inl fh)), (s2, .inl (K 0, 800, .inl fc))] sz) ((fun u => [(a0, .inr (6, [.ref t0, .ref s0, .int lw, .int (u.2.2.2.1 0), r_4])), (t0, .inr (8, [.ref t1, .int ln, .int (u.2.2.2.1 1), .int (u.2.2.2.1 2), .int (u.2.2.2.1 3), .int (u.2.2.2.1 4)])), (t1, .inl (K 0, 400, .inl fb)), (s0, .inr (7, [.ref s1, .ref s2, .int scl, .int (u.2.2.2.1 5)])), (s1, .inl (K 0, 60, .inl (u.2.1 0))), (s2, .inl (K 0, 800, .inl (u.2.1 1)))]) u) t) (va_A [(a0, .inr (6, [.ref t0, .ref s0, .int lw, .int pa, r_4])), (t0, .inr (8, [.ref t1, .int ln, .int tf, .int tt, .int ti, .int tu])), (t1, .inl (K 0, 400, .inl fb)), (s0, .inr (7, [.ref s1, .ref s2, .int scl, .int us])), (s1, .inl (K 0, 60, .inl fh)), (s2, .inl (K 0, 800, .inl fc))] sz)) 0 0 (va_A [(a0, .inr (6, [.ref t0, .ref s0, .int lw, .int pa, r_4])), (t0, .inr (8, [.ref t1, .int ln, .int tf, .int tt, .int ti, .int tu])), (t1, .inl (K 0, 400, .inl fb)), (s0, .inr (7, [.ref s1, .ref s2, .int scl, .int us])), (s1, .inl (K 0, 60, .inl fh)), (s2, .inl (K 0, 800, .inl fc))] sz) := by
  refine Met.ofW (cc := cX6_clause) (maxL := 5) (ret := (some .boolean)) (by decide +kernel) rfl ?_
  intro p e s m args below meth c s₁ B hml hv
  obtain ⟨rfl, ⟨hsz, hP, hK, hD0, hN⟩, hG, hPl, hRo⟩ := hv
  have hx := B.exec
  have hb := B.bytes
  have hr := B.returns
  have hts := atoms_spec (ws := wsX6_clause) B.pre
  have hown : s.vm.findClass RX6 = some m.cls := findClass_of_methodNamed B.named
  have hlocks := B.notSynchronized
  subst hsz
  have hD := hD0.self (sz := s.heap.size)
  generalize hAe : va_A [(a0, .inr (6, [.ref t0, .ref s0, .int lw, .int pa, r_4])), (t0, .inr (8, [.ref t1, .int ln, .int tf, .int tt, .int ti, .int tu])), (t1, .inl (K 0, 400, .inl fb)), (s0, .inr (7, [.ref s1, .ref s2, .int scl, .int us])), (s1, .inl (K 0, 60, .inl fh)), (s2, .inl (K 0, 800, .inl fc))] s.heap.size = A at hD hG hPl hRo ⊢
  have hA : ∀ q : Nat, s.heap.size ≤ q → A q := fun q h => by rw [← hAe]; exact Or.inr h
  clear hAe
  have hS : va_S A s.heap s.heap [] := va_S.rf
  replace hP : va_P D vwCl [(a0, .inr (6, [.ref t0, .ref s0, .int lw, .int pa, r_4])), (t0, .inr (8, [.ref t1, .int ln, .int tf, .int tt, .int ti, .int tu])), (t1, .inl (K 0, 400, .inl fb)), (s0, .inr (7, [.ref s1, .ref s2, .int scl, .int us])), (s1, .inl (K 0, 60, .inl fh)), (s2, .inl (K 0, 800, .inl fc))] s.heap := hP
  have hl := lv_entry [.ref a0, .int x] (n := 5) (Nat.le_of_ble_eq_true rfl)
  rw [lg_entry_eq]
  generalize (lg_sl [.ref a0, .int x] ++ List.replicate (5 - (lg_sl [.ref a0, .int x]).length) Slot.unset).toArray = ls at hl ⊢
  have hl : lv_has ls 5 [(0, .ref a0), (1, .int x)] := hl
  have hw6 : ∀ w ∈ wsX60, w ∈ wsX6_clause := fun w h => (List.mem_cons_of_mem _ (List.mem_append_left _ (List.mem_append_left _ (List.mem_append_right _ h))))
  have hw7 : ∀ w ∈ wsX70, w ∈ wsX6_clause := fun w h => (List.mem_cons_of_mem _ (List.mem_append_left _ (List.mem_append_right _ h)))
  have hw8 : ∀ w ∈ wsX80, w ∈ wsX6_clause := fun w h => (List.mem_cons_of_mem _ (List.mem_append_right _ h))
  generalize hQ : MQ below _ _ s _ _ _ = Q
  have hE := E_w_clause.eq_def x lw pa ln tf tt ti tu fb scl us fh fc
  refine lv_aload_n hx hb dX6_clause_0 rfl (lv_at hl 0 rfl) ?_
  refine va_get (ci := 6) (v := .ref t0) (C := RX6) (T := TX6) (N := 5) hx hb hts hw6 hown hK hP 0 rfl rfl 0 (by decide +kernel) (hts _ mm_X6_clause_231) (fun _ h9 => h9) rfl dX6_clause_1 ?_
  refine lv_aload_n hx hb dX6_clause_4 rfl (lv_at hl 0 rfl) ?_
  refine va_get (ci := 6) (v := .int lw) (C := RX6) (T := TX6) (N := 5) hx hb hts hw6 hown hK hP 0 rfl rfl 2 (by decide +kernel) (hts _ mm_X6_clause_233) (fun _ h9 => h9) rfl dX6_clause_5 ?_
  have j_5108 : ∀ (hE : E_w_clause x lw pa ln tf tt ti tu fb scl us fh fc = E_w_clause_j34 pa tf tt ti tu us fh fc) (H : Heap) (locs : List Loc) (hP : va_P D vwCl [(a0, .inr (6, [.ref t0, .ref s0, .int lw, .int pa, r_4])), (t0, .inr (8, [.ref t1, .int ln, .int tf, .int tt, .int ti, .int tu])), (t1, .inl (K 0, 400, .inl fb)), (s0, .inr (7, [.ref s1, .ref s2, .int scl, .int us])), (s1, .inl (K 0, 60, .inl fh)), (s2, .inl (K 0, 800, .inl fc))] H) (hD : va_D A [(a0, .inr (6, [.ref t0, .ref s0, .int lw, .int pa, r_4])), (t0, .inr (8, [.ref t1, .int ln, .int tf, .int tt, .int ti, .int tu])), (t1, .inl (K 0, 400, .inl fb)), (s0, .inr (7, [.ref s1, .ref s2, .int scl, .int us])), (s1, .inl (K 0, 60, .inl fh)), (s2, .inl (K 0, 800, .inl fc))]) (hS : va_S A s.heap H locs) (ls : Array Slot) (hl : lv_has ls 5 []), W p l e ({ frames := 334, cells := 0, slots := 0, locals := 7395 }) s m (([.ref a0, .int x] : List Value).toArray) below meth c H locs 0 0 Q (F0 m 34 ls []) := by
    clear hE hP hD hS hl
    intro hE H locs hP hD hS ls hl
    replace hE := hE.trans (E_w_clause_j34.eq_def _ _ _ _ _ _ _ _)
    refine lv_iconst (v := 0) hx hb dX6_clause_34 (by decide +kernel) ?_
    rw [← hQ]
    have hP9 := hP.sub (ws' := [(a0, .inr (6, [.ref t0, .ref s0, .int lw, .int pa, r_4])), (t0, .inr (8, [.ref t1, .int ln, .int tf, .int tt, .int ti, .int tu])), (t1, .inl (K 0, 400, .inl fb)), (s0, .inr (7, [.ref s1, .ref s2, .int scl, .int us])), (s1, .inl (K 0, 60, .inl fh)), (s2, .inl (K 0, 800, .inl fc))]) [0, 1, 2, 3, 4, 5] rfl
    have hD9 := hD.sub (ws' := [(a0, .inr (6, [.ref t0, .ref s0, .int lw, .int pa, r_4])), (t0, .inr (8, [.ref t1, .int ln, .int tf, .int tt, .int ti, .int tu])), (t1, .inl (K 0, 400, .inl fb)), (s0, .inr (7, [.ref s1, .ref s2, .int scl, .int us])), (s1, .inl (K 0, 60, .inl fh)), (s2, .inl (K 0, 800, .inl fc))]) [0, 1, 2, 3, 4, 5] (by decide +kernel) rfl
    exact W.zret (v := 0) hx hb hr (by decide +kernel) (fun t ht hW => ⟨⟨0, ((fun _ => 0, fun i => match i with | 0 => fh | _ => fc, fun _ => fun _ => 0, fun i => match i with | 0 => pa | 1 => tf | 2 => tt | 3 => ti | 4 => tu | _ => us, fun _ => 0, fun _ => fun _ => none) : Su), rfl, ⟨(show 0 ≤ (0 : Int32).toInt ∧ (0 : Int32).toInt ≤ 1 by decide), (show 0 ≤ (pa : Int32).toInt ∧ (pa : Int32).toInt ≤ 50 by omega), (show 0 ≤ (tf : Int32).toInt ∧ (tf : Int32).toInt ≤ 400 by omega), (show 0 ≤ (tt : Int32).toInt ∧ (tt : Int32).toInt ≤ 400 by omega), (show (-1) ≤ (tu : Int32).toInt ∧ (tu : Int32).toInt ≤ 1000000 by omega), (show 0 ≤ (us : Int32).toInt ∧ (us : Int32).toInt ≤ 800 by omega), zfh, zfc, hE.symm, trivial⟩, (⟨by rw [ht]; exact hP9, hD9⟩ : Wd D A _ t)⟩, hS.F ht⟩) hS.2.2 dX6_clause_35
  refine lv_if_eq (tgt := 16) hx hb dX6_clause_8 (by decide +kernel) (fun c_5109 => ?_) (fun c_5109 => ?_)
  · have c_5109i := i_eq (x := lw.toInt) (y := 0) rfl rfl c_5109
    replace hE := hE.trans (if_pos c_5109)
    refine va_ldcS hx hb hown (hG.str 1 (by decide +kernel)).1 dX6_clause_16 ?_
    refine W.eq (g2 := F0 m 18 ls [.ref (g 10), .ref t0]) rfl ?_
    refine pci (va_runVN (As := [.ref (g 10)]) (rest := []) ⟨hx, hb, hml, hown, hts⟩ (w_find l D K g L G 1 t0 t1 ln tf tt ti tu fb s.heap.size (by decide +kernel) (by first | omega | decide) (by first | omega | decide) (by first | omega | decide) (by first | omega | decide)) ⟨va_cnB 1 hts gX6_clause_X8_find_n67 rfl rfl rfl (nst_at hN 33 rfl) (hts _ mm_X6_clause_147) (by decide +kernel) ⟨Nat.le_of_ble_eq_true rfl, Nat.le_of_ble_eq_true rfl⟩, (hts _ mm_X6_clause_478), (hts _ mm_X6_clause_23)⟩ (mkVY hK hN (hP.sub [1, 2] rfl) (hD.sub [1, 2] (by decide +kernel) rfl) (ci := 8) (q0 := 0) rfl rfl (fun U hU hW => ⟨Gl.at hG hS hW hU (fun _ h9 => h9.elim), Pool.at hPl hS hU (fun _ h9 => h9.elim), Ro.heap hU (Ro.nil)⟩)) rfl rfl hl.1 rfl (lv_room (Nat.le_of_ble_eq_true rfl)) dX6_clause_18 ⟨Nat.le_of_ble_eq_true rfl, Nat.le_of_ble_eq_true rfl⟩) (fun r_5110 hw => ?_)
    obtain ⟨h_5112, k_5111, -⟩ := hw
    replace hE := hE.trans (Lt_in k_5111)
    refine lv_istore_n (lv' := [(2, .int r_5110), (0, .ref a0), (1, .int x)]) hx hb dX6_clause_21 rfl hl (by decide +kernel) rfl (fun ls hl => ?_)
    refine lv_iload_n hx hb dX6_clause_22 rfl (lv_at hl 0 rfl) ?_
    refine lv_if_lt (tgt := 34) hx hb dX6_clause_23 (by decide +kernel) (fun c_5113 => ?_) (fun c_5113 => ?_)
    · have c_5113i := i_lt (x := r_5110.toInt) (y := 0) rfl rfl c_5113
      replace hE := hE.trans (if_pos c_5113)
      exact j_5108   hE _ _ hP hD hS ls (lv_sub hl [] rfl)
    · have c_5113i := i_nlt (x := r_5110.toInt) (y := 0) rfl rfl c_5113
      replace hE := hE.trans (if_neg c_5113)
      refine lv_iload_n hx hb dX6_clause_26 rfl (lv_at hl 0 rfl) ?_
      refine va_gets (C := "SmokeTune$Reader") (n := "LAW_SUMS") (d := "[I") (v := .ref (g 4)) hx hb (hG.arr 4 (by decide +kernel)).1 hS hown (hts _ mm_X6_clause_523) (fun _ h9 => h9) dX6_clause_27 ?_
      refine va_tlen (v := 4) hx hb (hG.arr 4 (by decide +kernel)).2 hS rfl dX6_clause_30 ?_
      refine lv_icmp_lt (tgt := 36) hx hb dX6_clause_31 (by decide +kernel) (fun c_5114 => ?_) (fun c_5114 => ?_)
      · have c_5114i := i_lt (x := r_5110.toInt) (y := 4) rfl rfl c_5114
        replace hE := hE.trans (if_pos c_5114)
        refine lv_aload_n hx hb dX6_clause_36 rfl (lv_at hl 1 rfl) ?_
        refine va_get (ci := 6) (v := .ref t0) (C := RX6) (T := TX6) (N := 5) hx hb hts hw6 hown hK hP 0 rfl rfl 0 (by decide +kernel) (hts _ mm_X6_clause_231) (fun _ h9 => h9) rfl dX6_clause_37 ?_
        refine kcv (S := Su) (wr := [(a0, .inr (6, [.ref t0, .ref s0, .int lw, .int pa, r_4])), (s0, .inr (7, [.ref s1, .ref s2, .int scl, .int us])), (s1, .inl (K 0, 60, .inl fh)), (s2, .inl (K 0, 800, .inl fc))]) (va_runVN (As := []) (rest := []) ⟨hx, hb, hml, hown, hts⟩ (w_step l D K t0 t1 ln tf tt ti tu fb s.heap.size (by first | omega | decide) (by first | omega | decide)) ⟨va_cnB 0 hts gX6_clause_X8_step_n47 rfl rfl rfl (nst_at hN 32 rfl) (hts _ mm_X6_clause_147) (by decide +kernel) ⟨Nat.le_of_ble_eq_true rfl, Nat.le_of_ble_eq_true rfl⟩, (hts _ mm_X6_clause_471), (hts _ mm_X6_clause_21)⟩ (mkV hK hN (hP.sub [1, 2] rfl) (hD.sub [1, 2] (by decide +kernel) rfl) (ci := 8) (q0 := 0) rfl rfl) rfl rfl hl.1 rfl (lv_room (Nat.le_of_ble_eq_true rfl)) dX6_clause_40 ⟨Nat.le_of_ble_eq_true rfl, Nat.le_of_ble_eq_true rfl⟩) hP hD hS hA [1, 2] [0, 3, 4, 5] rfl rfl (by decide +kernel) (by decide +kernel) (fun u_5116 H locs hw hP0 hD0 hS0 => ?_)
        clear hP hD hS
        have hP := hP0
        have hD := hD0
        have hS := hS0
        clear hP0 hD0 hS0
        replace hP : va_P D vwCl [(a0, .inr (6, [.ref t0, .ref s0, .int lw, .int pa, r_4])), (s0, .inr (7, [.ref s1, .ref s2, .int scl, .int us])), (s1, .inl (K 0, 60, .inl fh)), (s2, .inl (K 0, 800, .inl fc)), (t0, .inr (8, [.ref t1, .int ln, .int (u_5116.2.2.2.1 0), .int (u_5116.2.2.2.1 1), .int (u_5116.2.2.2.1 2), .int (u_5116.2.2.2.1 3)])), (t1, .inl (K 0, 400, .inl fb))] H := hP
        replace hD : va_D A [(a0, .inr (6, [.ref t0, .ref s0, .int lw, .int pa, r_4])), (s0, .inr (7, [.ref s1, .ref s2, .int scl, .int us])), (s1, .inl (K 0, 60, .inl fh)), (s2, .inl (K 0, 800, .inl fc)), (t0, .inr (8, [.ref t1, .int ln, .int (u_5116.2.2.2.1 0), .int (u_5116.2.2.2.1 1), .int (u_5116.2.2.2.1 2), .int (u_5116.2.2.2.1 3)])), (t1, .inl (K 0, 400, .inl fb))] := hD
        obtain ⟨k_5117, k_5118, k_5119, k_5120, -⟩ := hw
        replace hE := ((hE.trans (Lt2_in k_5120)).trans (Lt2_in rfl)).trans (Lt2_in rfl)
        refine lv_aload_n hx hb dX6_clause_43 rfl (lv_at hl 1 rfl) ?_
        refine va_get (ci := 6) (v := .ref s0) (C := RX6) (T := TX6) (N := 5) hx hb hts hw6 hown hK hP 0 rfl rfl 1 (by decide +kernel) (hts _ mm_X6_clause_232) (fun _ h9 => h9) rfl dX6_clause_44 ?_
        refine lv_iload_n hx hb dX6_clause_47 rfl (lv_at hl 2 rfl) ?_
        refine lv_iload_n hx hb dX6_clause_48 rfl (lv_at hl 0 rfl) ?_
        refine kcv (S := Su) (wr := [(a0, .inr (6, [.ref t0, .ref s0, .int lw, .int pa, r_4])), (s2, .inl (K 0, 800, .inl fc)), (t0, .inr (8, [.ref t1, .int ln, .int (u_5116.2.2.2.1 0), .int (u_5116.2.2.2.1 1), .int (u_5116.2.2.2.1 2), .int (u_5116.2.2.2.1 3)])), (t1, .inl (K 0, 400, .inl fb))]) (va_runVN (As := [.int x, .int r_5110]) (rest := []) ⟨hx, hb, hml, hown, hts⟩ (w_open l D K s0 x r_5110 s1 (.ref s2) (.int scl) (.int us) fh H.size (by first | omega | decide) zfh) ⟨va_cnB 2 hts gX6_clause_X7_open_n75 rfl rfl rfl (nst_at hN 34 rfl) (hts _ mm_X6_clause_148) (by decide +kernel) ⟨Nat.le_of_ble_eq_true rfl, Nat.le_of_ble_eq_true rfl⟩, (hts _ mm_X6_clause_524), (hts _ mm_X6_clause_24)⟩ (mkV hK hN (hP.sub [1, 2] rfl) (hD.sub [1, 2] (by decide +kernel) rfl) (ci := 7) (q0 := 0) rfl rfl) rfl rfl hl.1 rfl (lv_room (Nat.le_of_ble_eq_true rfl)) dX6_clause_49 ⟨Nat.le_of_ble_eq_true rfl, Nat.le_of_ble_eq_true rfl⟩) hP hD hS hA [1, 2] [0, 3, 4, 5] rfl rfl (by decide +kernel) (by decide +kernel) (fun u_5122 H locs hw hP0 hD0 hS0 => ?_)
        clear hP hD hS
        have hP := hP0
        have hD := hD0
        have hS := hS0
        clear hP0 hD0 hS0
        replace hP : va_P D vwCl [(a0, .inr (6, [.ref t0, .ref s0, .int lw, .int pa, r_4])), (s2, .inl (K 0, 800, .inl fc)), (t0, .inr (8, [.ref t1, .int ln, .int (u_5116.2.2.2.1 0), .int (u_5116.2.2.2.1 1), .int (u_5116.2.2.2.1 2), .int (u_5116.2.2.2.1 3)])), (t1, .inl (K 0, 400, .inl fb)), (s0, .inr (7, [.ref s1, .ref s2, .int scl, .int us])), (s1, .inl (K 0, 60, .inl (u_5122.2.1 0)))] H := hP
        replace hD : va_D A [(a0, .inr (6, [.ref t0, .ref s0, .int lw, .int pa, r_4])), (s2, .inl (K 0, 800, .inl fc)), (t0, .inr (8, [.ref t1, .int ln, .int (u_5116.2.2.2.1 0), .int (u_5116.2.2.2.1 1), .int (u_5116.2.2.2.1 2), .int (u_5116.2.2.2.1 3)])), (t1, .inl (K 0, 400, .inl fb)), (s0, .inr (7, [.ref s1, .ref s2, .int scl, .int us])), (s1, .inl (K 0, 60, .inl (u_5122.2.1 0)))] := hD
        obtain ⟨k_5123, k_5124, -⟩ := hw
        replace hE := hE.trans (Lt_in k_5124)
        refine lv_aload_n hx hb dX6_clause_52 rfl (lv_at hl 1 rfl) ?_
        refine va_get (ci := 6) (v := .int lw) (C := RX6) (T := TX6) (N := 5) hx hb hts hw6 hown hK hP 0 rfl rfl 2 (by decide +kernel) (hts _ mm_X6_clause_233) (fun _ h9 => h9) rfl dX6_clause_53 ?_
        refine lv_if_eq (tgt := 67) hx hb dX6_clause_56 (by decide +kernel) (fun c_5125 => ?_) (fun c_5125 => ?_)
        · have c_5125i := i_eq (x := lw.toInt) (y := 0) rfl rfl c_5125
          replace hE := hE.trans (if_pos c_5125)
          refine va_gets (C := "SmokeTune$Reader") (n := "ORDER_SUMS") (d := "[I") (v := .ref (g 5)) hx hb (hG.arr 5 (by decide +kernel)).1 hS hown (hts _ mm_X6_clause_529) (fun _ h9 => h9) dX6_clause_67 ?_
          refine lv_iload_n hx hb dX6_clause_70 rfl (lv_at hl 0 rfl) ?_
          refine va_ti hx hb (hG.arr 5 (by decide +kernel)).2 hS (show vp_in _ 4 from (i_in rfl (by omega))) rfl dX6_clause_71 ?_
          refine lv_topi (fun x_5126 ex_5126 => ?_)
          replace hE := hE.trans (Lt_in ex_5126)
          have hx_5126 : 0 ≤ x_5126.toInt ∧ x_5126.toInt ≤ 2 := by rw [ex_5126]; exact Rg.at sr_5 rfl (show 0 ≤ r_5110.toInt ∧ r_5110.toInt < _ by omega)
          refine lv_istore_n (lv' := [(3, .int x_5126), (2, .int r_5110), (0, .ref a0), (1, .int x)]) hx hb dX6_clause_72 rfl hl (by decide +kernel) rfl (fun ls hl => ?_)
          refine lv_iconst (v := 0) hx hb dX6_clause_73 (by decide +kernel) ?_
          refine lv_istore (lv' := [(4, .int 0), (3, .int x_5126), (2, .int r_5110), (0, .ref a0), (1, .int x)]) hx hb dX6_clause_74 hl (by decide +kernel) rfl (fun ls hl => ?_)
          have lp_5569 : ∀ (nn_ : Nat) (v_5411 : Int32) (v_5412 : Int32) (v_5413 : Int32) (v_5414 : Int32) (v_5415 : Int32) (v_5416 : Int32) (v_5417 : Int32) (f_5418 : Nat → Int32) (f_5419 : Nat → Int32) (hv_5411 : 0 ≤ v_5411.toInt ∧ v_5411.toInt ≤ 2) (hv_5412 : 0 ≤ v_5412.toInt ∧ v_5412.toInt ≤ 50) (hv_5413 : 0 ≤ v_5413.toInt ∧ v_5413.toInt ≤ 400) (hv_5414 : 0 ≤ v_5414.toInt ∧ v_5414.toInt ≤ 400) (hv_5416 : (-1) ≤ v_5416.toInt ∧ v_5416.toInt ≤ 1000000) (hv_5417 : 0 ≤ v_5417.toInt ∧ v_5417.toInt ≤ 800) (hf_5418_0 : Rg 800 0 1000 f_5418) (hf_5419_0 : Rg 60 (-1) 1000 f_5419) (hn : (3 - v_5411.toInt : Int).toNat < nn_) (hE : E_w_clause x lw pa ln tf tt ti tu fb scl us fh fc = Lp (α := Int32 → Int32 → Int32 → Int32 → Int32 → Int32 → Int32 → (Nat → Int32) → (Nat → Int32) → (Int32 × Int32 × Int32 × Int32 × Int32 × Int32 × Int32 × (Nat → Int32) × (Nat → Int32))) (E_w_clause_l76 x lw ln fb x_5126) (fun _ _ _ _ _ _ _ _ _ => ((0, 0, 0, 0, 0, 0, 0, fun _ => 0, fun _ => 0) : Int32 × Int32 × Int32 × Int32 × Int32 × Int32 × Int32 × (Nat → Int32) × (Nat → Int32))) nn_ v_5411 v_5412 v_5413 v_5414 v_5415 v_5416 v_5417 f_5418 f_5419) (H : Heap) (locs : List Loc) (hP : va_P D vwCl [(a0, .inr (6, [.ref t0, .ref s0, .int lw, .int v_5412, r_4])), (s2, .inl (K 0, 800, .inl f_5418)), (t0, .inr (8, [.ref t1, .int ln, .int v_5413, .int v_5414, .int v_5415, .int v_5416])), (t1, .inl (K 0, 400, .inl fb)), (s0, .inr (7, [.ref s1, .ref s2, .int scl, .int v_5417])), (s1, .inl (K 0, 60, .inl f_5419))] H) (hD : va_D A [(a0, .inr (6, [.ref t0, .ref s0, .int lw, .int v_5412, r_4])), (s2, .inl (K 0, 800, .inl f_5418)), (t0, .inr (8, [.ref t1, .int ln, .int v_5413, .int v_5414, .int v_5415, .int v_5416])), (t1, .inl (K 0, 400, .inl fb)), (s0, .inr (7, [.ref s1, .ref s2, .int scl, .int v_5417])), (s1, .inl (K 0, 60, .inl f_5419))]) (hS : va_S A s.heap H locs) (ls : Array Slot) (hl : lv_has ls 5 [(4, .int v_5411), (3, .int x_5126), (0, .ref a0), (1, .int x)]), W p l e ({ frames := 334, cells := 0, slots := 0, locals := 7395 }) s m (([.ref a0, .int x] : List Value).toArray) below meth c H locs 0 0 Q (F0 m 76 ls []) := by
            clear hE hP hD hS hl
            intro nn_
            induction nn_ with
            | zero =>
              intro v_5411 v_5412 v_5413 v_5414 v_5415 v_5416 v_5417 f_5418 f_5419 hv_5411 hv_5412 hv_5413 hv_5414 hv_5416 hv_5417 hf_5418_0 hf_5419_0 hn hE H locs hP hD hS ls hl
              exact absurd hn (Nat.not_lt_zero _)
            | succ nn_ ih_5570 =>
              intro v_5411 v_5412 v_5413 v_5414 v_5415 v_5416 v_5417 f_5418 f_5419 hv_5411 hv_5412 hv_5413 hv_5414 hv_5416 hv_5417 hf_5418_0 hf_5419_0 hn hE H locs hP hD hS ls hl
              replace hE : E_w_clause x lw pa ln tf tt ti tu fb scl us fh fc = E_w_clause_l76 x lw ln fb x_5126 (Lp (α := Int32 → Int32 → Int32 → Int32 → Int32 → Int32 → Int32 → (Nat → Int32) → (Nat → Int32) → (Int32 × Int32 × Int32 × Int32 × Int32 × Int32 × Int32 × (Nat → Int32) × (Nat → Int32))) (E_w_clause_l76 x lw ln fb x_5126) (fun _ _ _ _ _ _ _ _ _ => ((0, 0, 0, 0, 0, 0, 0, fun _ => 0, fun _ => 0) : Int32 × Int32 × Int32 × Int32 × Int32 × Int32 × Int32 × (Nat → Int32) × (Nat → Int32))) nn_) v_5411 v_5412 v_5413 v_5414 v_5415 v_5416 v_5417 f_5418 f_5419 := hE
              obtain ⟨rec_5569, hrec_5569⟩ : ∃ z9, z9 = Lp (α := Int32 → Int32 → Int32 → Int32 → Int32 → Int32 → Int32 → (Nat → Int32) → (Nat → Int32) → (Int32 × Int32 × Int32 × Int32 × Int32 × Int32 × Int32 × (Nat → Int32) × (Nat → Int32))) (E_w_clause_l76 x lw ln fb x_5126) (fun _ _ _ _ _ _ _ _ _ => ((0, 0, 0, 0, 0, 0, 0, fun _ => 0, fun _ => 0) : Int32 × Int32 × Int32 × Int32 × Int32 × Int32 × Int32 × (Nat → Int32) × (Nat → Int32))) nn_ := ⟨_, rfl⟩
              rw [← hrec_5569] at hE
              replace hE := hE.trans (E_w_clause_l76.eq_def _ _ _ _ _ _ _ _ _ _ _ _ _ _ _)
              refine lv_iload hx hb dX6_clause_76 (lv_at hl 0 rfl) ?_
              refine lv_iload_n hx hb dX6_clause_78 rfl (lv_at hl 1 rfl) ?_
              refine lv_icmp_ge (tgt := 143) hx hb dX6_clause_79 (by decide +kernel) (fun c_5571 => ?_) (fun c_5571 => ?_)
              · have c_5571i := i_le (x := x_5126.toInt) (y := v_5411.toInt) rfl rfl c_5571
                replace hE := hE.trans (if_pos c_5571)
                refine lv_aload_n hx hb dX6_clause_143 rfl (lv_at hl 2 rfl) ?_
                refine va_get (ci := 6) (v := .int lw) (C := RX6) (T := TX6) (N := 5) hx hb hts hw6 hown hK hP 0 rfl rfl 2 (by decide +kernel) (hts _ mm_X6_clause_233) (fun _ h9 => h9) rfl dX6_clause_144 ?_
                have j_5639 : ∀ (v_5606 : Int32) (v_5607 : Int32) (v_5608 : Int32) (v_5609 : Int32) (f_5610 : Nat → Int32) (hv_5606 : 0 ≤ v_5606.toInt ∧ v_5606.toInt ≤ 400) (hv_5607 : 0 ≤ v_5607.toInt ∧ v_5607.toInt ≤ 400) (hv_5609 : (-1) ≤ v_5609.toInt ∧ v_5609.toInt ≤ 1000000) (hf_5610_0 : Rg 60 (-1) 1000 f_5610) (hE : E_w_clause x lw pa ln tf tt ti tu fb scl us fh fc = E_w_clause_j207 x lw ln fb v_5412 v_5417 f_5418 v_5606 v_5607 v_5608 v_5609 f_5610) (H : Heap) (locs : List Loc) (hP : va_P D vwCl [(s2, .inl (K 0, 800, .inl f_5418)), (s0, .inr (7, [.ref s1, .ref s2, .int scl, .int v_5417])), (s1, .inl (K 0, 60, .inl f_5610)), (a0, .inr (6, [.ref t0, .ref s0, .int lw, .int v_5412, r_4])), (t0, .inr (8, [.ref t1, .int ln, .int v_5606, .int v_5607, .int v_5608, .int v_5609])), (t1, .inl (K 0, 400, .inl fb))] H) (hD : va_D A [(s2, .inl (K 0, 800, .inl f_5418)), (s0, .inr (7, [.ref s1, .ref s2, .int scl, .int v_5417])), (s1, .inl (K 0, 60, .inl f_5610)), (a0, .inr (6, [.ref t0, .ref s0, .int lw, .int v_5412, r_4])), (t0, .inr (8, [.ref t1, .int ln, .int v_5606, .int v_5607, .int v_5608, .int v_5609])), (t1, .inl (K 0, 400, .inl fb))]) (hS : va_S A s.heap H locs) (ls : Array Slot) (hl : lv_has ls 5 [(0, .ref a0), (1, .int x)]), W p l e ({ frames := 334, cells := 0, slots := 0, locals := 7395 }) s m (([.ref a0, .int x] : List Value).toArray) below meth c H locs 0 0 Q (F0 m 207 ls []) := by
                  clear hE hP hD hS hl
                  intro v_5606 v_5607 v_5608 v_5609 f_5610 hv_5606 hv_5607 hv_5609 hf_5610_0 hE H locs hP hD hS ls hl
                  replace hE := hE.trans (E_w_clause_j207.eq_def _ _ _ _ _ _ _ _ _ _ _ _)
                  refine lv_aload_n hx hb dX6_clause_207 rfl (lv_at hl 0 rfl) ?_
                  refine va_ldcS hx hb hown (hG.str 4 (by decide +kernel)).1 dX6_clause_208 ?_
                  refine W.eq (g2 := F0 m 210 ls [.ref (g 16), .ref a0]) rfl ?_
                  refine kci (S := Su) (wr := [(s2, .inl (K 0, 800, .inl f_5418)), (s0, .inr (7, [.ref s1, .ref s2, .int scl, .int v_5417])), (s1, .inl (K 0, 60, .inl f_5610))]) (va_runV (As := [.ref (g 16)]) (rest := []) ⟨hx, hb, hml, hown, hts⟩ (w_passed l D K g L G 4 a0 t0 s0 lw v_5412 r_4 t1 ln v_5606 v_5607 v_5608 v_5609 fb H.size (by decide +kernel) (by first | omega | decide) (by first | omega | decide) (by first | omega | decide) (by first | omega | decide) (by first | omega | decide) (by first | omega | decide)) (cwV 1 hts gX6_clause_X6_passed rfl rfl rfl (by decide +kernel) ⟨Nat.le_of_ble_eq_true rfl, Nat.le_of_ble_eq_true rfl⟩) (mkVY hK hN (hP.sub [3, 4, 5] rfl) (hD.sub [3, 4, 5] (by decide +kernel) rfl) (ci := 6) (q0 := 0) rfl rfl (fun U hU hW => ⟨Gl.at hG hS hW hU (fun q h => va_free hD hS hA [3, 4, 5] rfl q h), Pool.at hPl hS hU (fun q h => va_free hD hS hA [3, 4, 5] rfl q h), Ro.heap hU (Ro.nil)⟩)) rfl rfl hl.1 rfl (lv_room (Nat.le_of_ble_eq_true rfl)) dX6_clause_210 ⟨Nat.le_of_ble_eq_true rfl, Nat.le_of_ble_eq_true rfl⟩) hP hD hS hA [3, 4, 5] [0, 1, 2] rfl rfl (by decide +kernel) (by decide +kernel) (fun r_5640 u_5641 H locs hw hP0 hD0 hS0 => ?_)
                  clear hP hD hS
                  have hP := hP0
                  have hD := hD0
                  have hS := hS0
                  clear hP0 hD0 hS0
                  replace hP : va_P D vwCl [(s2, .inl (K 0, 800, .inl f_5418)), (s0, .inr (7, [.ref s1, .ref s2, .int scl, .int v_5417])), (s1, .inl (K 0, 60, .inl f_5610)), (a0, .inr (6, [.ref t0, .ref s0, .int lw, .int v_5412, r_4])), (t0, .inr (8, [.ref t1, .int ln, .int (u_5641.2.2.2.1 0), .int (u_5641.2.2.2.1 1), .int (u_5641.2.2.2.1 2), .int (u_5641.2.2.2.1 3)])), (t1, .inl (K 0, 400, .inl fb))] H := hP
                  replace hD : va_D A [(s2, .inl (K 0, 800, .inl f_5418)), (s0, .inr (7, [.ref s1, .ref s2, .int scl, .int v_5417])), (s1, .inl (K 0, 60, .inl f_5610)), (a0, .inr (6, [.ref t0, .ref s0, .int lw, .int v_5412, r_4])), (t0, .inr (8, [.ref t1, .int ln, .int (u_5641.2.2.2.1 0), .int (u_5641.2.2.2.1 1), .int (u_5641.2.2.2.1 2), .int (u_5641.2.2.2.1 3)])), (t1, .inl (K 0, 400, .inl fb))] := hD
                  obtain ⟨h_5646, k_5642, k_5643, k_5644, k_5645, -⟩ := hw
                  replace hE := (((hE.trans (Lt2_in k_5645)).trans (Lt2_in rfl)).trans (Lt2_in rfl)).trans (Lt2_in rfl)
                  refine lv_if_ne (tgt := 218) hx hb dX6_clause_213 (by decide +kernel) (fun c_5647 => ?_) (fun c_5647 => ?_)
                  · have c_5647i := i_ne (x := r_5640.toInt) (y := 0) rfl rfl c_5647
                    replace hE := hE.trans (if_neg c_5647)
                    refine lv_aload_n hx hb dX6_clause_218 rfl (lv_at hl 0 rfl) ?_
                    refine va_get (ci := 6) (v := .ref s0) (C := RX6) (T := TX6) (N := 5) hx hb hts hw6 hown hK hP 3 rfl rfl 1 (by decide +kernel) (hts _ mm_X6_clause_232) (fun _ h9 => h9) rfl dX6_clause_219 ?_
                    refine lv_iload_n hx hb dX6_clause_222 rfl (lv_at hl 1 rfl) ?_
                    refine lv_iconst (v := 4) hx hb dX6_clause_223 (by decide +kernel) ?_
                    refine lv_aload_n hx hb dX6_clause_224 rfl (lv_at hl 0 rfl) ?_
                    refine va_get (ci := 6) (v := .ref s0) (C := RX6) (T := TX6) (N := 5) hx hb hts hw6 hown hK hP 3 rfl rfl 1 (by decide +kernel) (hts _ mm_X6_clause_232) (fun _ h9 => h9) rfl dX6_clause_225 ?_
                    refine va_getN (ci := 7) (v := .int v_5417) (C := RX7) (T := TX7) (N := 4) hx hb hts hw7 hown hK hP 1 rfl rfl 3 (by decide +kernel) (nst_use hN 130 rfl) (fun _ h9 => h9) rfl dX6_clause_228 ?_
                    refine kcv (S := Su) (wr := [(s2, .inl (K 0, 800, .inl f_5418)), (a0, .inr (6, [.ref t0, .ref s0, .int lw, .int v_5412, r_4])), (t0, .inr (8, [.ref t1, .int ln, .int (u_5641.2.2.2.1 0), .int (u_5641.2.2.2.1 1), .int (u_5641.2.2.2.1 2), .int (u_5641.2.2.2.1 3)])), (t1, .inl (K 0, 400, .inl fb))]) (va_runVN (As := [.int x, .int 4, .int v_5417]) (rest := []) ⟨hx, hb, hml, hown, hts⟩ (w_setHead l D K s0 x 4 v_5417 s1 (.ref s2) (.int scl) (.int v_5417) f_5610 H.size (by first | omega | decide) hf_5610_0) ⟨va_cnB 3 hts gX6_clause_X7_setHead_n88 rfl rfl rfl (nst_at hN 35 rfl) (hts _ mm_X6_clause_148) (by decide +kernel) ⟨Nat.le_of_ble_eq_true rfl, Nat.le_of_ble_eq_true rfl⟩, (hts _ mm_X6_clause_527), (hts _ mm_X6_clause_25)⟩ (mkV hK hN (hP.sub [1, 2] rfl) (hD.sub [1, 2] (by decide +kernel) rfl) (ci := 7) (q0 := 0) rfl rfl) rfl rfl hl.1 rfl (lv_room (Nat.le_of_ble_eq_true rfl)) dX6_clause_231 ⟨Nat.le_of_ble_eq_true rfl, Nat.le_of_ble_eq_true rfl⟩) hP hD hS hA [1, 2] [0, 3, 4, 5] rfl rfl (by decide +kernel) (by decide +kernel) (fun u_5649 H locs hw hP0 hD0 hS0 => ?_)
                    clear hP hD hS
                    have hP := hP0
                    have hD := hD0
                    have hS := hS0
                    clear hP0 hD0 hS0
                    replace hP : va_P D vwCl [(s2, .inl (K 0, 800, .inl f_5418)), (a0, .inr (6, [.ref t0, .ref s0, .int lw, .int v_5412, r_4])), (t0, .inr (8, [.ref t1, .int ln, .int (u_5641.2.2.2.1 0), .int (u_5641.2.2.2.1 1), .int (u_5641.2.2.2.1 2), .int (u_5641.2.2.2.1 3)])), (t1, .inl (K 0, 400, .inl fb)), (s0, .inr (7, [.ref s1, .ref s2, .int scl, .int v_5417])), (s1, .inl (K 0, 60, .inl (u_5649.2.1 0)))] H := hP
                    replace hD : va_D A [(s2, .inl (K 0, 800, .inl f_5418)), (a0, .inr (6, [.ref t0, .ref s0, .int lw, .int v_5412, r_4])), (t0, .inr (8, [.ref t1, .int ln, .int (u_5641.2.2.2.1 0), .int (u_5641.2.2.2.1 1), .int (u_5641.2.2.2.1 2), .int (u_5641.2.2.2.1 3)])), (t1, .inl (K 0, 400, .inl fb)), (s0, .inr (7, [.ref s1, .ref s2, .int scl, .int v_5417])), (s1, .inl (K 0, 60, .inl (u_5649.2.1 0)))] := hD
                    obtain ⟨k_5650, k_5651, -⟩ := hw
                    replace hE := hE.trans (Lt_in k_5651)
                    refine lv_aload_n hx hb dX6_clause_234 rfl (lv_at hl 0 rfl) ?_
                    refine lv_iconst (v := 0) hx hb dX6_clause_235 (by decide +kernel) ?_
                    refine kci (S := Su) (wr := [(s1, .inl (K 0, 60, .inl (u_5649.2.1 0)))]) (va_runV (As := [.int 0]) (rest := []) ⟨hx, hb, hml, hown, hts⟩ (test_0 l D K g L G a0 0 t0 s0 lw v_5412 r_4 t1 ln (u_5641.2.2.2.1 0) (u_5641.2.2.2.1 1) (u_5641.2.2.2.1 2) (u_5641.2.2.2.1 3) fb s1 s2 (.int scl) v_5417 f_5418 H.size (by first | omega | decide) (by first | omega | decide) (by first | omega | decide) (by first | omega | decide) (by first | omega | decide) (by first | omega | decide) (by first | omega | decide) (by first | omega | decide) hf_5418_0) (cwV 1 hts gX6_clause_X6_test rfl rfl rfl (by decide +kernel) ⟨Nat.le_of_ble_eq_true rfl, Nat.le_of_ble_eq_true rfl⟩) (mkVY hK hN (hP.sub [1, 2, 3, 4, 0] rfl) (hD.sub [1, 2, 3, 4, 0] (by decide +kernel) rfl) (ci := 6) (q0 := 0) rfl rfl (fun U hU hW => ⟨Gl.at hG hS hW hU (fun q h => va_free hD hS hA [1, 2, 3, 4, 0] rfl q h), Pool.at hPl hS hU (fun q h => va_free hD hS hA [1, 2, 3, 4, 0] rfl q h), Ro.heap hU (Ro.nil)⟩)) rfl rfl hl.1 rfl (lv_room (Nat.le_of_ble_eq_true rfl)) dX6_clause_236 ⟨Nat.le_of_ble_eq_true rfl, Nat.le_of_ble_eq_true rfl⟩) hP hD hS hA [1, 2, 3, 4, 0] [5] rfl rfl (by decide +kernel) (by decide +kernel) (fun r_5652 u_5653 H locs hw hP0 hD0 hS0 => ?_)
                    clear hP hD hS
                    have hP := hP0
                    have hD := hD0
                    have hS := hS0
                    clear hP0 hD0 hS0
                    replace hP : va_P D vwCl [(s1, .inl (K 0, 60, .inl (u_5649.2.1 0))), (a0, .inr (6, [.ref t0, .ref s0, .int lw, .int (u_5653.2.2.2.1 0), r_4])), (t0, .inr (8, [.ref t1, .int ln, .int (u_5653.2.2.2.1 1), .int (u_5653.2.2.2.1 2), .int (u_5653.2.2.2.1 3), .int (u_5653.2.2.2.1 4)])), (t1, .inl (K 0, 400, .inl fb)), (s0, .inr (7, [.ref s1, .ref s2, .int scl, .int (u_5653.2.2.2.1 5)])), (s2, .inl (K 0, 800, .inl (u_5653.2.1 0)))] H := hP
                    replace hD : va_D A [(s1, .inl (K 0, 60, .inl (u_5649.2.1 0))), (a0, .inr (6, [.ref t0, .ref s0, .int lw, .int (u_5653.2.2.2.1 0), r_4])), (t0, .inr (8, [.ref t1, .int ln, .int (u_5653.2.2.2.1 1), .int (u_5653.2.2.2.1 2), .int (u_5653.2.2.2.1 3), .int (u_5653.2.2.2.1 4)])), (t1, .inl (K 0, 400, .inl fb)), (s0, .inr (7, [.ref s1, .ref s2, .int scl, .int (u_5653.2.2.2.1 5)])), (s2, .inl (K 0, 800, .inl (u_5653.2.1 0)))] := hD
                    obtain ⟨h_5661, k_5654, k_5655, k_5656, k_5657, k_5658, k_5659, k_5660, -⟩ := hw
                    replace hE := ((((((hE.trans (Lt2_in k_5660)).trans (Lt2_in rfl)).trans (Lt2_in rfl)).trans (Lt2_in rfl)).trans (Lt2_in rfl)).trans (Lt2_in rfl)).trans (Lt2_in rfl)
                    refine lv_istore (lv' := [(4, .int r_5652), (0, .ref a0), (1, .int x)]) hx hb dX6_clause_239 hl (by decide +kernel) rfl (fun ls hl => ?_)
                    refine lv_aload_n hx hb dX6_clause_241 rfl (lv_at hl 1 rfl) ?_
                    refine va_get (ci := 6) (v := .ref s0) (C := RX6) (T := TX6) (N := 5) hx hb hts hw6 hown hK hP 1 rfl rfl 1 (by decide +kernel) (hts _ mm_X6_clause_232) (fun _ h9 => h9) rfl dX6_clause_242 ?_
                    refine lv_iconst (v := 0) hx hb dX6_clause_245 (by decide +kernel) ?_
                    refine lv_iconst (v := 0) hx hb dX6_clause_246 (by decide +kernel) ?_
                    refine kci (S := Su) (wr := [(s1, .inl (K 0, 60, .inl (u_5649.2.1 0))), (a0, .inr (6, [.ref t0, .ref s0, .int lw, .int (u_5653.2.2.2.1 0), r_4])), (t0, .inr (8, [.ref t1, .int ln, .int (u_5653.2.2.2.1 1), .int (u_5653.2.2.2.1 2), .int (u_5653.2.2.2.1 3), .int (u_5653.2.2.2.1 4)])), (t1, .inl (K 0, 400, .inl fb))]) (va_runVN (As := [.int 0, .int 0]) (rest := []) ⟨hx, hb, hml, hown, hts⟩ (w_emit l D K s0 0 0 s1 s2 (.int scl) (u_5653.2.2.2.1 5) (u_5653.2.1 0) H.size (by first | omega | decide) (by first | omega | decide) (by first | omega | decide) k_5659) ⟨va_cnB 2 hts gX6_clause_X7_emit_n95 rfl rfl rfl (nst_at hN 36 rfl) (hts _ mm_X6_clause_148) (by decide +kernel) ⟨Nat.le_of_ble_eq_true rfl, Nat.le_of_ble_eq_true rfl⟩, (hts _ mm_X6_clause_539), (hts _ mm_X6_clause_29)⟩ (mkV hK hN (hP.sub [4, 5] rfl) (hD.sub [4, 5] (by decide +kernel) rfl) (ci := 7) (q0 := 0) rfl rfl) rfl rfl hl.1 rfl (lv_room (Nat.le_of_ble_eq_true rfl)) dX6_clause_247 ⟨Nat.le_of_ble_eq_true rfl, Nat.le_of_ble_eq_true rfl⟩) hP hD hS hA [4, 5] [0, 1, 2, 3] rfl rfl (by decide +kernel) (by decide +kernel) (fun r_5662 u_5663 H locs hw hP0 hD0 hS0 => ?_)
                    clear hP hD hS
                    have hP := hP0
                    have hD := hD0
                    have hS := hS0
                    clear hP0 hD0 hS0
                    replace hP : va_P D vwCl [(s1, .inl (K 0, 60, .inl (u_5649.2.1 0))), (a0, .inr (6, [.ref t0, .ref s0, .int lw, .int (u_5653.2.2.2.1 0), r_4])), (t0, .inr (8, [.ref t1, .int ln, .int (u_5653.2.2.2.1 1), .int (u_5653.2.2.2.1 2), .int (u_5653.2.2.2.1 3), .int (u_5653.2.2.2.1 4)])), (t1, .inl (K 0, 400, .inl fb)), (s0, .inr (7, [.ref s1, .ref s2, .int scl, .int (u_5663.2.2.2.1 0)])), (s2, .inl (K 0, 800, .inl (u_5663.2.1 0)))] H := hP
                    replace hD : va_D A [(s1, .inl (K 0, 60, .inl (u_5649.2.1 0))), (a0, .inr (6, [.ref t0, .ref s0, .int lw, .int (u_5653.2.2.2.1 0), r_4])), (t0, .inr (8, [.ref t1, .int ln, .int (u_5653.2.2.2.1 1), .int (u_5653.2.2.2.1 2), .int (u_5653.2.2.2.1 3), .int (u_5653.2.2.2.1 4)])), (t1, .inl (K 0, 400, .inl fb)), (s0, .inr (7, [.ref s1, .ref s2, .int scl, .int (u_5663.2.2.2.1 0)])), (s2, .inl (K 0, 800, .inl (u_5663.2.1 0)))] := hD
                    obtain ⟨h_5667, k_5664, k_5665, k_5666, -⟩ := hw
                    replace hE := (hE.trans (Lt2_in k_5666)).trans (Lt2_in rfl)
                    refine lv_pop hx hb dX6_clause_250 rfl ?_
                    refine lv_iload hx hb dX6_clause_251 (lv_at hl 0 rfl) ?_
                    rw [← hQ]
                    have hP9 := hP.sub (ws' := [(a0, .inr (6, [.ref t0, .ref s0, .int lw, .int (u_5653.2.2.2.1 0), r_4])), (t0, .inr (8, [.ref t1, .int ln, .int (u_5653.2.2.2.1 1), .int (u_5653.2.2.2.1 2), .int (u_5653.2.2.2.1 3), .int (u_5653.2.2.2.1 4)])), (t1, .inl (K 0, 400, .inl fb)), (s0, .inr (7, [.ref s1, .ref s2, .int scl, .int (u_5663.2.2.2.1 0)])), (s1, .inl (K 0, 60, .inl (u_5649.2.1 0))), (s2, .inl (K 0, 800, .inl (u_5663.2.1 0)))]) [1, 2, 3, 4, 0, 5] rfl
                    have hD9 := hD.sub (ws' := [(a0, .inr (6, [.ref t0, .ref s0, .int lw, .int (u_5653.2.2.2.1 0), r_4])), (t0, .inr (8, [.ref t1, .int ln, .int (u_5653.2.2.2.1 1), .int (u_5653.2.2.2.1 2), .int (u_5653.2.2.2.1 3), .int (u_5653.2.2.2.1 4)])), (t1, .inl (K 0, 400, .inl fb)), (s0, .inr (7, [.ref s1, .ref s2, .int scl, .int (u_5663.2.2.2.1 0)])), (s1, .inl (K 0, 60, .inl (u_5649.2.1 0))), (s2, .inl (K 0, 800, .inl (u_5663.2.1 0)))]) [1, 2, 3, 4, 0, 5] (by decide +kernel) rfl
                    exact W.zret (v := r_5652) hx hb hr (zb rfl (by omega)) (fun t ht hW => ⟨⟨r_5652, ((fun _ => 0, fun i => match i with | 0 => (u_5649.2.1 0) | _ => (u_5663.2.1 0), fun _ => fun _ => 0, fun i => match i with | 0 => (u_5653.2.2.2.1 0) | 1 => (u_5653.2.2.2.1 1) | 2 => (u_5653.2.2.2.1 2) | 3 => (u_5653.2.2.2.1 3) | 4 => (u_5653.2.2.2.1 4) | _ => (u_5663.2.2.2.1 0), fun _ => 0, fun _ => fun _ => none) : Su), rfl, ⟨(show 0 ≤ r_5652.toInt ∧ r_5652.toInt ≤ 1 by omega), (show 0 ≤ ((u_5653.2.2.2.1 0) : Int32).toInt ∧ ((u_5653.2.2.2.1 0) : Int32).toInt ≤ 50 by omega), (show 0 ≤ ((u_5653.2.2.2.1 1) : Int32).toInt ∧ ((u_5653.2.2.2.1 1) : Int32).toInt ≤ 400 by omega), (show 0 ≤ ((u_5653.2.2.2.1 2) : Int32).toInt ∧ ((u_5653.2.2.2.1 2) : Int32).toInt ≤ 400 by omega), (show (-1) ≤ ((u_5653.2.2.2.1 4) : Int32).toInt ∧ ((u_5653.2.2.2.1 4) : Int32).toInt ≤ 1000000 by omega), (show 0 ≤ ((u_5663.2.2.2.1 0) : Int32).toInt ∧ ((u_5663.2.2.2.1 0) : Int32).toInt ≤ 800 by omega), k_5650, k_5665, hE.symm, trivial⟩, (⟨by rw [ht]; exact hP9, hD9⟩ : Wd D A _ t)⟩, hS.F ht⟩) hS.2.2 dX6_clause_253
                  · have c_5647i := i_eq (x := r_5640.toInt) (y := 0) rfl rfl c_5647
                    replace hE := hE.trans (if_pos c_5647)
                    refine lv_iconst (v := 1) hx hb dX6_clause_216 (by decide +kernel) ?_
                    rw [← hQ]
                    have hP9 := hP.sub (ws' := [(a0, .inr (6, [.ref t0, .ref s0, .int lw, .int v_5412, r_4])), (t0, .inr (8, [.ref t1, .int ln, .int (u_5641.2.2.2.1 0), .int (u_5641.2.2.2.1 1), .int (u_5641.2.2.2.1 2), .int (u_5641.2.2.2.1 3)])), (t1, .inl (K 0, 400, .inl fb)), (s0, .inr (7, [.ref s1, .ref s2, .int scl, .int v_5417])), (s1, .inl (K 0, 60, .inl f_5610)), (s2, .inl (K 0, 800, .inl f_5418))]) [3, 4, 5, 1, 2, 0] rfl
                    have hD9 := hD.sub (ws' := [(a0, .inr (6, [.ref t0, .ref s0, .int lw, .int v_5412, r_4])), (t0, .inr (8, [.ref t1, .int ln, .int (u_5641.2.2.2.1 0), .int (u_5641.2.2.2.1 1), .int (u_5641.2.2.2.1 2), .int (u_5641.2.2.2.1 3)])), (t1, .inl (K 0, 400, .inl fb)), (s0, .inr (7, [.ref s1, .ref s2, .int scl, .int v_5417])), (s1, .inl (K 0, 60, .inl f_5610)), (s2, .inl (K 0, 800, .inl f_5418))]) [3, 4, 5, 1, 2, 0] (by decide +kernel) rfl
                    exact W.zret (v := 1) hx hb hr (by decide +kernel) (fun t ht hW => ⟨⟨1, ((fun _ => 0, fun i => match i with | 0 => f_5610 | _ => f_5418, fun _ => fun _ => 0, fun i => match i with | 0 => v_5412 | 1 => (u_5641.2.2.2.1 0) | 2 => (u_5641.2.2.2.1 1) | 3 => (u_5641.2.2.2.1 2) | 4 => (u_5641.2.2.2.1 3) | _ => v_5417, fun _ => 0, fun _ => fun _ => none) : Su), rfl, ⟨(show 0 ≤ (1 : Int32).toInt ∧ (1 : Int32).toInt ≤ 1 by decide), (show 0 ≤ (v_5412 : Int32).toInt ∧ (v_5412 : Int32).toInt ≤ 50 by omega), (show 0 ≤ ((u_5641.2.2.2.1 0) : Int32).toInt ∧ ((u_5641.2.2.2.1 0) : Int32).toInt ≤ 400 by omega), (show 0 ≤ ((u_5641.2.2.2.1 1) : Int32).toInt ∧ ((u_5641.2.2.2.1 1) : Int32).toInt ≤ 400 by omega), (show (-1) ≤ ((u_5641.2.2.2.1 3) : Int32).toInt ∧ ((u_5641.2.2.2.1 3) : Int32).toInt ≤ 1000000 by omega), (show 0 ≤ (v_5417 : Int32).toInt ∧ (v_5417 : Int32).toInt ≤ 800 by omega), hf_5610_0, hf_5418_0, hE.symm, trivial⟩, (⟨by rw [ht]; exact hP9, hD9⟩ : Wd D A _ t)⟩, hS.F ht⟩) hS.2.2 dX6_clause_217
                refine lv_if_ne (tgt := 207) hx hb dX6_clause_147 (by decide +kernel) (fun c_5668 => ?_) (fun c_5668 => ?_)
                · have c_5668i := i_ne (x := lw.toInt) (y := 0) rfl rfl c_5668
                  exfalso; omega
                · have c_5668i := i_eq (x := lw.toInt) (y := 0) rfl rfl c_5668
                  replace hE := hE.trans (if_pos c_5668)
                  refine lv_aload_n hx hb dX6_clause_150 rfl (lv_at hl 2 rfl) ?_
                  refine va_ldcS hx hb hown (hG.str 3 (by decide +kernel)).1 dX6_clause_151 ?_
                  refine W.eq (g2 := F0 m 153 ls [.ref (g 14), .ref a0]) rfl ?_
                  refine kci (S := Su) (wr := [(s2, .inl (K 0, 800, .inl f_5418)), (s0, .inr (7, [.ref s1, .ref s2, .int scl, .int v_5417])), (s1, .inl (K 0, 60, .inl f_5419))]) (va_runV (As := [.ref (g 14)]) (rest := []) ⟨hx, hb, hml, hown, hts⟩ (w_passed l D K g L G 3 a0 t0 s0 lw v_5412 r_4 t1 ln v_5413 v_5414 v_5415 v_5416 fb H.size (by decide +kernel) (by first | omega | decide) (by first | omega | decide) (by first | omega | decide) (by first | omega | decide) (by first | omega | decide) (by first | omega | decide)) (cwV 1 hts gX6_clause_X6_passed rfl rfl rfl (by decide +kernel) ⟨Nat.le_of_ble_eq_true rfl, Nat.le_of_ble_eq_true rfl⟩) (mkVY hK hN (hP.sub [0, 2, 3] rfl) (hD.sub [0, 2, 3] (by decide +kernel) rfl) (ci := 6) (q0 := 0) rfl rfl (fun U hU hW => ⟨Gl.at hG hS hW hU (fun q h => va_free hD hS hA [0, 2, 3] rfl q h), Pool.at hPl hS hU (fun q h => va_free hD hS hA [0, 2, 3] rfl q h), Ro.heap hU (Ro.nil)⟩)) rfl rfl hl.1 rfl (lv_room (Nat.le_of_ble_eq_true rfl)) dX6_clause_153 ⟨Nat.le_of_ble_eq_true rfl, Nat.le_of_ble_eq_true rfl⟩) hP hD hS hA [0, 2, 3] [1, 4, 5] rfl rfl (by decide +kernel) (by decide +kernel) (fun r_5669 u_5670 H locs hw hP0 hD0 hS0 => ?_)
                  clear hP hD hS
                  have hP := hP0
                  have hD := hD0
                  have hS := hS0
                  clear hP0 hD0 hS0
                  replace hP : va_P D vwCl [(s2, .inl (K 0, 800, .inl f_5418)), (s0, .inr (7, [.ref s1, .ref s2, .int scl, .int v_5417])), (s1, .inl (K 0, 60, .inl f_5419)), (a0, .inr (6, [.ref t0, .ref s0, .int lw, .int v_5412, r_4])), (t0, .inr (8, [.ref t1, .int ln, .int (u_5670.2.2.2.1 0), .int (u_5670.2.2.2.1 1), .int (u_5670.2.2.2.1 2), .int (u_5670.2.2.2.1 3)])), (t1, .inl (K 0, 400, .inl fb))] H := hP
                  replace hD : va_D A [(s2, .inl (K 0, 800, .inl f_5418)), (s0, .inr (7, [.ref s1, .ref s2, .int scl, .int v_5417])), (s1, .inl (K 0, 60, .inl f_5419)), (a0, .inr (6, [.ref t0, .ref s0, .int lw, .int v_5412, r_4])), (t0, .inr (8, [.ref t1, .int ln, .int (u_5670.2.2.2.1 0), .int (u_5670.2.2.2.1 1), .int (u_5670.2.2.2.1 2), .int (u_5670.2.2.2.1 3)])), (t1, .inl (K 0, 400, .inl fb))] := hD
                  obtain ⟨h_5675, k_5671, k_5672, k_5673, k_5674, -⟩ := hw
                  replace hE := (((hE.trans (Lt2_in k_5674)).trans (Lt2_in rfl)).trans (Lt2_in rfl)).trans (Lt2_in rfl)
                  refine lv_if_eq (tgt := 207) hx hb dX6_clause_156 (by decide +kernel) (fun c_5676 => ?_) (fun c_5676 => ?_)
                  · have c_5676i := i_eq (x := r_5669.toInt) (y := 0) rfl rfl c_5676
                    replace hE := hE.trans (if_pos c_5676)
                    exact j_5639 (u_5670.2.2.2.1 0) (u_5670.2.2.2.1 1) (u_5670.2.2.2.1 2) (u_5670.2.2.2.1 3) f_5419 (by omega) (by omega) (by omega) hf_5419_0 hE _ _ hP hD hS ls (lv_sub hl [2, 3] rfl)
                  · have c_5676i := i_ne (x := r_5669.toInt) (y := 0) rfl rfl c_5676
                    replace hE := hE.trans (if_neg c_5676)
                    refine lv_aload_n hx hb dX6_clause_159 rfl (lv_at hl 2 rfl) ?_
                    refine va_get (ci := 6) (v := .ref t0) (C := RX6) (T := TX6) (N := 5) hx hb hts hw6 hown hK hP 3 rfl rfl 0 (by decide +kernel) (hts _ mm_X6_clause_231) (fun _ h9 => h9) rfl dX6_clause_160 ?_
                    refine va_getN (ci := 8) (v := .int (u_5670.2.2.2.1 3)) (C := RX8) (T := TX8) (N := 6) hx hb hts hw8 hown hK hP 4 rfl rfl 5 (by decide +kernel) (nst_use hN 124 rfl) (fun _ h9 => h9) rfl dX6_clause_163 ?_
                    refine lv_iconst (v := 1) hx hb dX6_clause_166 (by decide +kernel) ?_
                    have j_5689 : ∀ (hE : E_w_clause x lw pa ln tf tt ti tu fb scl us fh fc = E_w_clause_j182 v_5412 v_5417 f_5418 f_5419 (u_5670.2.2.2.1 0) (u_5670.2.2.2.1 1) (u_5670.2.2.2.1 2) (u_5670.2.2.2.1 3)) (H : Heap) (locs : List Loc) (hP : va_P D vwCl [(s2, .inl (K 0, 800, .inl f_5418)), (s0, .inr (7, [.ref s1, .ref s2, .int scl, .int v_5417])), (s1, .inl (K 0, 60, .inl f_5419)), (a0, .inr (6, [.ref t0, .ref s0, .int lw, .int v_5412, r_4])), (t0, .inr (8, [.ref t1, .int ln, .int (u_5670.2.2.2.1 0), .int (u_5670.2.2.2.1 1), .int (u_5670.2.2.2.1 2), .int (u_5670.2.2.2.1 3)])), (t1, .inl (K 0, 400, .inl fb))] H) (hD : va_D A [(s2, .inl (K 0, 800, .inl f_5418)), (s0, .inr (7, [.ref s1, .ref s2, .int scl, .int v_5417])), (s1, .inl (K 0, 60, .inl f_5419)), (a0, .inr (6, [.ref t0, .ref s0, .int lw, .int v_5412, r_4])), (t0, .inr (8, [.ref t1, .int ln, .int (u_5670.2.2.2.1 0), .int (u_5670.2.2.2.1 1), .int (u_5670.2.2.2.1 2), .int (u_5670.2.2.2.1 3)])), (t1, .inl (K 0, 400, .inl fb))]) (hS : va_S A s.heap H locs) (ls : Array Slot) (hl : lv_has ls 5 []), W p l e ({ frames := 334, cells := 0, slots := 0, locals := 7395 }) s m (([.ref a0, .int x] : List Value).toArray) below meth c H locs 0 0 Q (F0 m 182 ls []) := by
                      clear hE hP hD hS hl
                      intro hE H locs hP hD hS ls hl
                      replace hE := hE.trans (E_w_clause_j182.eq_def _ _ _ _ _ _ _ _)
                      refine lv_iconst (v := 0) hx hb dX6_clause_182 (by decide +kernel) ?_
                      rw [← hQ]
                      have hP9 := hP.sub (ws' := [(a0, .inr (6, [.ref t0, .ref s0, .int lw, .int v_5412, r_4])), (t0, .inr (8, [.ref t1, .int ln, .int (u_5670.2.2.2.1 0), .int (u_5670.2.2.2.1 1), .int (u_5670.2.2.2.1 2), .int (u_5670.2.2.2.1 3)])), (t1, .inl (K 0, 400, .inl fb)), (s0, .inr (7, [.ref s1, .ref s2, .int scl, .int v_5417])), (s1, .inl (K 0, 60, .inl f_5419)), (s2, .inl (K 0, 800, .inl f_5418))]) [3, 4, 5, 1, 2, 0] rfl
                      have hD9 := hD.sub (ws' := [(a0, .inr (6, [.ref t0, .ref s0, .int lw, .int v_5412, r_4])), (t0, .inr (8, [.ref t1, .int ln, .int (u_5670.2.2.2.1 0), .int (u_5670.2.2.2.1 1), .int (u_5670.2.2.2.1 2), .int (u_5670.2.2.2.1 3)])), (t1, .inl (K 0, 400, .inl fb)), (s0, .inr (7, [.ref s1, .ref s2, .int scl, .int v_5417])), (s1, .inl (K 0, 60, .inl f_5419)), (s2, .inl (K 0, 800, .inl f_5418))]) [3, 4, 5, 1, 2, 0] (by decide +kernel) rfl
                      exact W.zret (v := 0) hx hb hr (by decide +kernel) (fun t ht hW => ⟨⟨0, ((fun _ => 0, fun i => match i with | 0 => f_5419 | _ => f_5418, fun _ => fun _ => 0, fun i => match i with | 0 => v_5412 | 1 => (u_5670.2.2.2.1 0) | 2 => (u_5670.2.2.2.1 1) | 3 => (u_5670.2.2.2.1 2) | 4 => (u_5670.2.2.2.1 3) | _ => v_5417, fun _ => 0, fun _ => fun _ => none) : Su), rfl, ⟨(show 0 ≤ (0 : Int32).toInt ∧ (0 : Int32).toInt ≤ 1 by decide), (show 0 ≤ (v_5412 : Int32).toInt ∧ (v_5412 : Int32).toInt ≤ 50 by omega), (show 0 ≤ ((u_5670.2.2.2.1 0) : Int32).toInt ∧ ((u_5670.2.2.2.1 0) : Int32).toInt ≤ 400 by omega), (show 0 ≤ ((u_5670.2.2.2.1 1) : Int32).toInt ∧ ((u_5670.2.2.2.1 1) : Int32).toInt ≤ 400 by omega), (show (-1) ≤ ((u_5670.2.2.2.1 3) : Int32).toInt ∧ ((u_5670.2.2.2.1 3) : Int32).toInt ≤ 1000000 by omega), (show 0 ≤ (v_5417 : Int32).toInt ∧ (v_5417 : Int32).toInt ≤ 800 by omega), hf_5419_0, hf_5418_0, hE.symm, trivial⟩, (⟨by rw [ht]; exact hP9, hD9⟩ : Wd D A _ t)⟩, hS.F ht⟩) hS.2.2 dX6_clause_183
                    refine lv_icmp_lt (tgt := 182) hx hb dX6_clause_167 (by decide +kernel) (fun c_5690 => ?_) (fun c_5690 => ?_)
                    · have c_5690i := i_lt (x := (u_5670.2.2.2.1 3).toInt) (y := 1) rfl rfl c_5690
                      replace hE := hE.trans (if_pos c_5690)
                      exact j_5689   hE _ _ hP hD hS ls (lv_sub hl [] rfl)
                    · have c_5690i := i_nlt (x := (u_5670.2.2.2.1 3).toInt) (y := 1) rfl rfl c_5690
                      replace hE := hE.trans (if_neg c_5690)
                      refine lv_aload_n hx hb dX6_clause_170 rfl (lv_at hl 2 rfl) ?_
                      refine va_get (ci := 6) (v := .ref t0) (C := RX6) (T := TX6) (N := 5) hx hb hts hw6 hown hK hP 3 rfl rfl 0 (by decide +kernel) (hts _ mm_X6_clause_231) (fun _ h9 => h9) rfl dX6_clause_171 ?_
                      refine va_getN (ci := 8) (v := .int (u_5670.2.2.2.1 3)) (C := RX8) (T := TX8) (N := 6) hx hb hts hw8 hown hK hP 4 rfl rfl 5 (by decide +kernel) (nst_use hN 124 rfl) (fun _ h9 => h9) rfl dX6_clause_174 ?_
                      refine lv_bipush (v := 20) hx hb dX6_clause_177 (by decide +kernel) ?_
                      refine lv_icmp_le (tgt := 184) hx hb dX6_clause_179 (by decide +kernel) (fun c_5691 => ?_) (fun c_5691 => ?_)
                      · have c_5691i := i_le (x := (u_5670.2.2.2.1 3).toInt) (y := 20) rfl rfl c_5691
                        replace hE := hE.trans (if_pos c_5691)
                        refine lv_aload_n hx hb dX6_clause_184 rfl (lv_at hl 2 rfl) ?_
                        refine va_get (ci := 6) (v := .ref s0) (C := RX6) (T := TX6) (N := 5) hx hb hts hw6 hown hK hP 3 rfl rfl 1 (by decide +kernel) (hts _ mm_X6_clause_232) (fun _ h9 => h9) rfl dX6_clause_185 ?_
                        refine lv_iload_n hx hb dX6_clause_188 rfl (lv_at hl 3 rfl) ?_
                        refine lv_iconst (v := 1) hx hb dX6_clause_189 (by decide +kernel) ?_
                        refine lv_aload_n hx hb dX6_clause_190 rfl (lv_at hl 2 rfl) ?_
                        refine va_get (ci := 6) (v := .ref t0) (C := RX6) (T := TX6) (N := 5) hx hb hts hw6 hown hK hP 3 rfl rfl 0 (by decide +kernel) (hts _ mm_X6_clause_231) (fun _ h9 => h9) rfl dX6_clause_191 ?_
                        refine va_getN (ci := 8) (v := .int (u_5670.2.2.2.1 3)) (C := RX8) (T := TX8) (N := 6) hx hb hts hw8 hown hK hP 4 rfl rfl 5 (by decide +kernel) (nst_use hN 124 rfl) (fun _ h9 => h9) rfl dX6_clause_194 ?_
                        refine kcv (S := Su) (wr := [(s2, .inl (K 0, 800, .inl f_5418)), (a0, .inr (6, [.ref t0, .ref s0, .int lw, .int v_5412, r_4])), (t0, .inr (8, [.ref t1, .int ln, .int (u_5670.2.2.2.1 0), .int (u_5670.2.2.2.1 1), .int (u_5670.2.2.2.1 2), .int (u_5670.2.2.2.1 3)])), (t1, .inl (K 0, 400, .inl fb))]) (va_runVN (As := [.int x, .int 1, .int (u_5670.2.2.2.1 3)]) (rest := []) ⟨hx, hb, hml, hown, hts⟩ (w_setHead l D K s0 x 1 (u_5670.2.2.2.1 3) s1 (.ref s2) (.int scl) (.int v_5417) f_5419 H.size (by first | omega | decide) hf_5419_0) ⟨va_cnB 3 hts gX6_clause_X7_setHead_n88 rfl rfl rfl (nst_at hN 35 rfl) (hts _ mm_X6_clause_148) (by decide +kernel) ⟨Nat.le_of_ble_eq_true rfl, Nat.le_of_ble_eq_true rfl⟩, (hts _ mm_X6_clause_527), (hts _ mm_X6_clause_25)⟩ (mkV hK hN (hP.sub [1, 2] rfl) (hD.sub [1, 2] (by decide +kernel) rfl) (ci := 7) (q0 := 0) rfl rfl) rfl rfl hl.1 rfl (lv_room (Nat.le_of_ble_eq_true rfl)) dX6_clause_197 ⟨Nat.le_of_ble_eq_true rfl, Nat.le_of_ble_eq_true rfl⟩) hP hD hS hA [1, 2] [0, 3, 4, 5] rfl rfl (by decide +kernel) (by decide +kernel) (fun u_5693 H locs hw hP0 hD0 hS0 => ?_)
                        clear hP hD hS
                        have hP := hP0
                        have hD := hD0
                        have hS := hS0
                        clear hP0 hD0 hS0
                        replace hP : va_P D vwCl [(s2, .inl (K 0, 800, .inl f_5418)), (a0, .inr (6, [.ref t0, .ref s0, .int lw, .int v_5412, r_4])), (t0, .inr (8, [.ref t1, .int ln, .int (u_5670.2.2.2.1 0), .int (u_5670.2.2.2.1 1), .int (u_5670.2.2.2.1 2), .int (u_5670.2.2.2.1 3)])), (t1, .inl (K 0, 400, .inl fb)), (s0, .inr (7, [.ref s1, .ref s2, .int scl, .int v_5417])), (s1, .inl (K 0, 60, .inl (u_5693.2.1 0)))] H := hP
                        replace hD : va_D A [(s2, .inl (K 0, 800, .inl f_5418)), (a0, .inr (6, [.ref t0, .ref s0, .int lw, .int v_5412, r_4])), (t0, .inr (8, [.ref t1, .int ln, .int (u_5670.2.2.2.1 0), .int (u_5670.2.2.2.1 1), .int (u_5670.2.2.2.1 2), .int (u_5670.2.2.2.1 3)])), (t1, .inl (K 0, 400, .inl fb)), (s0, .inr (7, [.ref s1, .ref s2, .int scl, .int v_5417])), (s1, .inl (K 0, 60, .inl (u_5693.2.1 0)))] := hD
                        obtain ⟨k_5694, k_5695, -⟩ := hw
                        replace hE := hE.trans (Lt_in k_5695)
                        refine lv_aload_n hx hb dX6_clause_200 rfl (lv_at hl 2 rfl) ?_
                        refine va_get (ci := 6) (v := .ref t0) (C := RX6) (T := TX6) (N := 5) hx hb hts hw6 hown hK hP 1 rfl rfl 0 (by decide +kernel) (hts _ mm_X6_clause_231) (fun _ h9 => h9) rfl dX6_clause_201 ?_
                        refine kcv (S := Su) (wr := [(s2, .inl (K 0, 800, .inl f_5418)), (a0, .inr (6, [.ref t0, .ref s0, .int lw, .int v_5412, r_4])), (s0, .inr (7, [.ref s1, .ref s2, .int scl, .int v_5417])), (s1, .inl (K 0, 60, .inl (u_5693.2.1 0)))]) (va_runVN (As := []) (rest := []) ⟨hx, hb, hml, hown, hts⟩ (w_step l D K t0 t1 ln (u_5670.2.2.2.1 0) (u_5670.2.2.2.1 1) (u_5670.2.2.2.1 2) (u_5670.2.2.2.1 3) fb H.size (by first | omega | decide) (by first | omega | decide)) ⟨va_cnB 0 hts gX6_clause_X8_step_n47 rfl rfl rfl (nst_at hN 32 rfl) (hts _ mm_X6_clause_147) (by decide +kernel) ⟨Nat.le_of_ble_eq_true rfl, Nat.le_of_ble_eq_true rfl⟩, (hts _ mm_X6_clause_471), (hts _ mm_X6_clause_21)⟩ (mkV hK hN (hP.sub [2, 3] rfl) (hD.sub [2, 3] (by decide +kernel) rfl) (ci := 8) (q0 := 0) rfl rfl) rfl rfl hl.1 rfl (lv_room (Nat.le_of_ble_eq_true rfl)) dX6_clause_204 ⟨Nat.le_of_ble_eq_true rfl, Nat.le_of_ble_eq_true rfl⟩) hP hD hS hA [2, 3] [0, 1, 4, 5] rfl rfl (by decide +kernel) (by decide +kernel) (fun u_5697 H locs hw hP0 hD0 hS0 => ?_)
                        clear hP hD hS
                        have hP := hP0
                        have hD := hD0
                        have hS := hS0
                        clear hP0 hD0 hS0
                        replace hP : va_P D vwCl [(s2, .inl (K 0, 800, .inl f_5418)), (a0, .inr (6, [.ref t0, .ref s0, .int lw, .int v_5412, r_4])), (s0, .inr (7, [.ref s1, .ref s2, .int scl, .int v_5417])), (s1, .inl (K 0, 60, .inl (u_5693.2.1 0))), (t0, .inr (8, [.ref t1, .int ln, .int (u_5697.2.2.2.1 0), .int (u_5697.2.2.2.1 1), .int (u_5697.2.2.2.1 2), .int (u_5697.2.2.2.1 3)])), (t1, .inl (K 0, 400, .inl fb))] H := hP
                        replace hD : va_D A [(s2, .inl (K 0, 800, .inl f_5418)), (a0, .inr (6, [.ref t0, .ref s0, .int lw, .int v_5412, r_4])), (s0, .inr (7, [.ref s1, .ref s2, .int scl, .int v_5417])), (s1, .inl (K 0, 60, .inl (u_5693.2.1 0))), (t0, .inr (8, [.ref t1, .int ln, .int (u_5697.2.2.2.1 0), .int (u_5697.2.2.2.1 1), .int (u_5697.2.2.2.1 2), .int (u_5697.2.2.2.1 3)])), (t1, .inl (K 0, 400, .inl fb))] := hD
                        obtain ⟨k_5698, k_5699, k_5700, k_5701, -⟩ := hw
                        replace hE := ((hE.trans (Lt2_in k_5701)).trans (Lt2_in rfl)).trans (Lt2_in rfl)
                        exact j_5639 (u_5697.2.2.2.1 0) (u_5697.2.2.2.1 1) (u_5697.2.2.2.1 2) (u_5697.2.2.2.1 3) (u_5693.2.1 0) (by omega) (by omega) (by omega) k_5694 hE _ _ (hP.sub [0, 2, 3, 1, 4, 5] rfl) (hD.sub [0, 2, 3, 1, 4, 5] (by decide +kernel) rfl) hS ls (lv_sub hl [2, 3] rfl)
                      · have c_5691i := i_nle (x := (u_5670.2.2.2.1 3).toInt) (y := 20) rfl rfl c_5691
                        replace hE := hE.trans (if_neg c_5691)
                        exact j_5689   hE _ _ hP hD hS ls (lv_sub hl [] rfl)
              · have c_5571i := i_nle (x := x_5126.toInt) (y := v_5411.toInt) rfl rfl c_5571
                replace hE := hE.trans (if_neg c_5571)
                refine lv_iload hx hb dX6_clause_82 (lv_at hl 0 rfl) ?_
                have j_5738 : ∀ (v_5711 : Int32) (v_5712 : Int32) (v_5713 : Int32) (v_5714 : Int32) (hv_5711 : 0 ≤ v_5711.toInt ∧ v_5711.toInt ≤ 400) (hv_5712 : 0 ≤ v_5712.toInt ∧ v_5712.toInt ≤ 400) (hv_5714 : (-1) ≤ v_5714.toInt ∧ v_5714.toInt ≤ 1000000) (hE : E_w_clause x lw pa ln tf tt ti tu fb scl us fh fc = E_w_clause_j98 x lw ln fb v_5411 v_5412 v_5417 f_5418 f_5419 rec_5569 v_5711 v_5712 v_5713 v_5714) (H : Heap) (locs : List Loc) (hP : va_P D vwCl [(a0, .inr (6, [.ref t0, .ref s0, .int lw, .int v_5412, r_4])), (s2, .inl (K 0, 800, .inl f_5418)), (t0, .inr (8, [.ref t1, .int ln, .int v_5711, .int v_5712, .int v_5713, .int v_5714])), (t1, .inl (K 0, 400, .inl fb)), (s0, .inr (7, [.ref s1, .ref s2, .int scl, .int v_5417])), (s1, .inl (K 0, 60, .inl f_5419))] H) (hD : va_D A [(a0, .inr (6, [.ref t0, .ref s0, .int lw, .int v_5412, r_4])), (s2, .inl (K 0, 800, .inl f_5418)), (t0, .inr (8, [.ref t1, .int ln, .int v_5711, .int v_5712, .int v_5713, .int v_5714])), (t1, .inl (K 0, 400, .inl fb)), (s0, .inr (7, [.ref s1, .ref s2, .int scl, .int v_5417])), (s1, .inl (K 0, 60, .inl f_5419))]) (hS : va_S A s.heap H locs) (ls : Array Slot) (hl : lv_has ls 5 [(4, .int v_5411), (3, .int x_5126), (0, .ref a0), (1, .int x)]), W p l e ({ frames := 334, cells := 0, slots := 0, locals := 7395 }) s m (([.ref a0, .int x] : List Value).toArray) below meth c H locs 0 0 Q (F0 m 98 ls []) := by
                  clear hE hP hD hS hl
                  intro v_5711 v_5712 v_5713 v_5714 hv_5711 hv_5712 hv_5714 hE H locs hP hD hS ls hl
                  replace hE := hE.trans (E_w_clause_j98.eq_def _ _ _ _ _ _ _ _ _ _ _ _ _ _)
                  refine lv_aload_n hx hb dX6_clause_98 rfl (lv_at hl 2 rfl) ?_
                  refine va_get (ci := 6) (v := .ref s0) (C := RX6) (T := TX6) (N := 5) hx hb hts hw6 hown hK hP 0 rfl rfl 1 (by decide +kernel) (hts _ mm_X6_clause_232) (fun _ h9 => h9) rfl dX6_clause_99 ?_
                  refine lv_iload_n hx hb dX6_clause_102 rfl (lv_at hl 3 rfl) ?_
                  refine lv_iconst (v := 2) hx hb dX6_clause_103 (by decide +kernel) ?_
                  refine lv_iload hx hb dX6_clause_104 (lv_at hl 0 rfl) ?_
                  refine lv_iadd hx hb dX6_clause_106 ?_
                  refine lv_topi (fun x_5739 ex_5739 => ?_)
                  replace hE := hE.trans (Lt_in ex_5739)
                  have hx_5739 : x_5739.toInt = (2 + v_5411.toInt) := by rw [ex_5739]; exact i_add (show (2 : Int32).toInt = 2 from rfl) rfl (by omega)
                  refine lv_aload_n hx hb dX6_clause_107 rfl (lv_at hl 2 rfl) ?_
                  refine va_get (ci := 6) (v := .ref s0) (C := RX6) (T := TX6) (N := 5) hx hb hts hw6 hown hK hP 0 rfl rfl 1 (by decide +kernel) (hts _ mm_X6_clause_232) (fun _ h9 => h9) rfl dX6_clause_108 ?_
                  refine va_getN (ci := 7) (v := .int v_5417) (C := RX7) (T := TX7) (N := 4) hx hb hts hw7 hown hK hP 4 rfl rfl 3 (by decide +kernel) (nst_use hN 130 rfl) (fun _ h9 => h9) rfl dX6_clause_111 ?_
                  refine kcv (S := Su) (wr := [(a0, .inr (6, [.ref t0, .ref s0, .int lw, .int v_5412, r_4])), (s2, .inl (K 0, 800, .inl f_5418)), (t0, .inr (8, [.ref t1, .int ln, .int v_5711, .int v_5712, .int v_5713, .int v_5714])), (t1, .inl (K 0, 400, .inl fb))]) (va_runVN (As := [.int x, .int x_5739, .int v_5417]) (rest := []) ⟨hx, hb, hml, hown, hts⟩ (w_setHead l D K s0 x x_5739 v_5417 s1 (.ref s2) (.int scl) (.int v_5417) f_5419 H.size (by first | omega | decide) hf_5419_0) ⟨va_cnB 3 hts gX6_clause_X7_setHead_n88 rfl rfl rfl (nst_at hN 35 rfl) (hts _ mm_X6_clause_148) (by decide +kernel) ⟨Nat.le_of_ble_eq_true rfl, Nat.le_of_ble_eq_true rfl⟩, (hts _ mm_X6_clause_527), (hts _ mm_X6_clause_25)⟩ (mkV hK hN (hP.sub [4, 5] rfl) (hD.sub [4, 5] (by decide +kernel) rfl) (ci := 7) (q0 := 0) rfl rfl) rfl rfl hl.1 rfl (lv_room (Nat.le_of_ble_eq_true rfl)) dX6_clause_114 ⟨Nat.le_of_ble_eq_true rfl, Nat.le_of_ble_eq_true rfl⟩) hP hD hS hA [4, 5] [0, 1, 2, 3] rfl rfl (by decide +kernel) (by decide +kernel) (fun u_5741 H locs hw hP0 hD0 hS0 => ?_)
                  clear hP hD hS
                  have hP := hP0
                  have hD := hD0
                  have hS := hS0
                  clear hP0 hD0 hS0
                  replace hP : va_P D vwCl [(a0, .inr (6, [.ref t0, .ref s0, .int lw, .int v_5412, r_4])), (s2, .inl (K 0, 800, .inl f_5418)), (t0, .inr (8, [.ref t1, .int ln, .int v_5711, .int v_5712, .int v_5713, .int v_5714])), (t1, .inl (K 0, 400, .inl fb)), (s0, .inr (7, [.ref s1, .ref s2, .int scl, .int v_5417])), (s1, .inl (K 0, 60, .inl (u_5741.2.1 0)))] H := hP
                  replace hD : va_D A [(a0, .inr (6, [.ref t0, .ref s0, .int lw, .int v_5412, r_4])), (s2, .inl (K 0, 800, .inl f_5418)), (t0, .inr (8, [.ref t1, .int ln, .int v_5711, .int v_5712, .int v_5713, .int v_5714])), (t1, .inl (K 0, 400, .inl fb)), (s0, .inr (7, [.ref s1, .ref s2, .int scl, .int v_5417])), (s1, .inl (K 0, 60, .inl (u_5741.2.1 0)))] := hD
                  obtain ⟨k_5742, k_5743, -⟩ := hw
                  replace hE := hE.trans (Lt_in k_5743)
                  refine lv_aload_n hx hb dX6_clause_117 rfl (lv_at hl 2 rfl) ?_
                  refine lv_iconst (v := 0) hx hb dX6_clause_118 (by decide +kernel) ?_
                  refine kci (S := Su) (wr := [(s1, .inl (K 0, 60, .inl (u_5741.2.1 0)))]) (va_runV (As := [.int 0]) (rest := []) ⟨hx, hb, hml, hown, hts⟩ (sum_0 l D K g L G a0 0 t0 s0 lw v_5412 r_4 t1 ln v_5711 v_5712 v_5713 v_5714 fb s1 s2 (.int scl) v_5417 f_5418 H.size (by first | omega | decide) (by first | omega | decide) (by first | omega | decide) (by first | omega | decide) (by first | omega | decide) (by first | omega | decide) (by first | omega | decide) (by first | omega | decide) hf_5418_0) (cwV 1 hts gX6_clause_X6_sum rfl rfl rfl (by decide +kernel) ⟨Nat.le_of_ble_eq_true rfl, Nat.le_of_ble_eq_true rfl⟩) (mkVY hK hN (hP.sub [0, 2, 3, 4, 1] rfl) (hD.sub [0, 2, 3, 4, 1] (by decide +kernel) rfl) (ci := 6) (q0 := 0) rfl rfl (fun U hU hW => ⟨Gl.at hG hS hW hU (fun q h => va_free hD hS hA [0, 2, 3, 4, 1] rfl q h), Pool.at hPl hS hU (fun q h => va_free hD hS hA [0, 2, 3, 4, 1] rfl q h), Ro.heap hU (Ro.nil)⟩)) rfl rfl hl.1 rfl (lv_room (Nat.le_of_ble_eq_true rfl)) dX6_clause_119 ⟨Nat.le_of_ble_eq_true rfl, Nat.le_of_ble_eq_true rfl⟩) hP hD hS hA [0, 2, 3, 4, 1] [5] rfl rfl (by decide +kernel) (by decide +kernel) (fun r_5744 u_5745 H locs hw hP0 hD0 hS0 => ?_)
                  clear hP hD hS
                  have hP := hP0
                  have hD := hD0
                  have hS := hS0
                  clear hP0 hD0 hS0
                  replace hP : va_P D vwCl [(s1, .inl (K 0, 60, .inl (u_5741.2.1 0))), (a0, .inr (6, [.ref t0, .ref s0, .int lw, .int (u_5745.2.2.2.1 0), r_4])), (t0, .inr (8, [.ref t1, .int ln, .int (u_5745.2.2.2.1 1), .int (u_5745.2.2.2.1 2), .int (u_5745.2.2.2.1 3), .int (u_5745.2.2.2.1 4)])), (t1, .inl (K 0, 400, .inl fb)), (s0, .inr (7, [.ref s1, .ref s2, .int scl, .int (u_5745.2.2.2.1 5)])), (s2, .inl (K 0, 800, .inl (u_5745.2.1 0)))] H := hP
                  replace hD : va_D A [(s1, .inl (K 0, 60, .inl (u_5741.2.1 0))), (a0, .inr (6, [.ref t0, .ref s0, .int lw, .int (u_5745.2.2.2.1 0), r_4])), (t0, .inr (8, [.ref t1, .int ln, .int (u_5745.2.2.2.1 1), .int (u_5745.2.2.2.1 2), .int (u_5745.2.2.2.1 3), .int (u_5745.2.2.2.1 4)])), (t1, .inl (K 0, 400, .inl fb)), (s0, .inr (7, [.ref s1, .ref s2, .int scl, .int (u_5745.2.2.2.1 5)])), (s2, .inl (K 0, 800, .inl (u_5745.2.1 0)))] := hD
                  obtain ⟨h_5753, k_5746, k_5747, k_5748, k_5749, k_5750, k_5751, k_5752, -⟩ := hw
                  replace hE := ((((((hE.trans (Lt2_in k_5752)).trans (Lt2_in rfl)).trans (Lt2_in rfl)).trans (Lt2_in rfl)).trans (Lt2_in rfl)).trans (Lt2_in rfl)).trans (Lt2_in rfl)
                  refine lv_if_ne (tgt := 127) hx hb dX6_clause_122 (by decide +kernel) (fun c_5754 => ?_) (fun c_5754 => ?_)
                  · have c_5754i := i_ne (x := r_5744.toInt) (y := 0) rfl rfl c_5754
                    replace hE := hE.trans (if_neg c_5754)
                    refine lv_aload_n hx hb dX6_clause_127 rfl (lv_at hl 2 rfl) ?_
                    refine va_get (ci := 6) (v := .ref s0) (C := RX6) (T := TX6) (N := 5) hx hb hts hw6 hown hK hP 1 rfl rfl 1 (by decide +kernel) (hts _ mm_X6_clause_232) (fun _ h9 => h9) rfl dX6_clause_128 ?_
                    refine lv_iconst (v := 0) hx hb dX6_clause_131 (by decide +kernel) ?_
                    refine lv_iconst (v := 0) hx hb dX6_clause_132 (by decide +kernel) ?_
                    refine kci (S := Su) (wr := [(s1, .inl (K 0, 60, .inl (u_5741.2.1 0))), (a0, .inr (6, [.ref t0, .ref s0, .int lw, .int (u_5745.2.2.2.1 0), r_4])), (t0, .inr (8, [.ref t1, .int ln, .int (u_5745.2.2.2.1 1), .int (u_5745.2.2.2.1 2), .int (u_5745.2.2.2.1 3), .int (u_5745.2.2.2.1 4)])), (t1, .inl (K 0, 400, .inl fb))]) (va_runVN (As := [.int 0, .int 0]) (rest := []) ⟨hx, hb, hml, hown, hts⟩ (w_emit l D K s0 0 0 s1 s2 (.int scl) (u_5745.2.2.2.1 5) (u_5745.2.1 0) H.size (by first | omega | decide) (by first | omega | decide) (by first | omega | decide) k_5751) ⟨va_cnB 2 hts gX6_clause_X7_emit_n95 rfl rfl rfl (nst_at hN 36 rfl) (hts _ mm_X6_clause_148) (by decide +kernel) ⟨Nat.le_of_ble_eq_true rfl, Nat.le_of_ble_eq_true rfl⟩, (hts _ mm_X6_clause_539), (hts _ mm_X6_clause_29)⟩ (mkV hK hN (hP.sub [4, 5] rfl) (hD.sub [4, 5] (by decide +kernel) rfl) (ci := 7) (q0 := 0) rfl rfl) rfl rfl hl.1 rfl (lv_room (Nat.le_of_ble_eq_true rfl)) dX6_clause_133 ⟨Nat.le_of_ble_eq_true rfl, Nat.le_of_ble_eq_true rfl⟩) hP hD hS hA [4, 5] [0, 1, 2, 3] rfl rfl (by decide +kernel) (by decide +kernel) (fun r_5755 u_5756 H locs hw hP0 hD0 hS0 => ?_)
                    clear hP hD hS
                    have hP := hP0
                    have hD := hD0
                    have hS := hS0
                    clear hP0 hD0 hS0
                    replace hP : va_P D vwCl [(s1, .inl (K 0, 60, .inl (u_5741.2.1 0))), (a0, .inr (6, [.ref t0, .ref s0, .int lw, .int (u_5745.2.2.2.1 0), r_4])), (t0, .inr (8, [.ref t1, .int ln, .int (u_5745.2.2.2.1 1), .int (u_5745.2.2.2.1 2), .int (u_5745.2.2.2.1 3), .int (u_5745.2.2.2.1 4)])), (t1, .inl (K 0, 400, .inl fb)), (s0, .inr (7, [.ref s1, .ref s2, .int scl, .int (u_5756.2.2.2.1 0)])), (s2, .inl (K 0, 800, .inl (u_5756.2.1 0)))] H := hP
                    replace hD : va_D A [(s1, .inl (K 0, 60, .inl (u_5741.2.1 0))), (a0, .inr (6, [.ref t0, .ref s0, .int lw, .int (u_5745.2.2.2.1 0), r_4])), (t0, .inr (8, [.ref t1, .int ln, .int (u_5745.2.2.2.1 1), .int (u_5745.2.2.2.1 2), .int (u_5745.2.2.2.1 3), .int (u_5745.2.2.2.1 4)])), (t1, .inl (K 0, 400, .inl fb)), (s0, .inr (7, [.ref s1, .ref s2, .int scl, .int (u_5756.2.2.2.1 0)])), (s2, .inl (K 0, 800, .inl (u_5756.2.1 0)))] := hD
                    obtain ⟨h_5760, k_5757, k_5758, k_5759, -⟩ := hw
                    replace hE := (hE.trans (Lt2_in k_5759)).trans (Lt2_in rfl)
                    refine lv_pop hx hb dX6_clause_136 rfl ?_
                    obtain ⟨x_5761, ex_5761⟩ : ∃ y : Int32, y = v_5411 + Int32.ofInt 1 := ⟨_, rfl⟩
                    replace hE := hE.trans (Lt_in ex_5761)
                    have hx_5761 : x_5761.toInt = (v_5411.toInt + 1) := by rw [ex_5761]; exact i_add rfl (show (Int32.ofInt 1).toInt = 1 from rfl) (by omega)
                    refine lv_iinc (v := x_5761) (lv' := [(4, .int x_5761), (3, .int x_5126), (0, .ref a0), (1, .int x)]) hx hb dX6_clause_137 hl (k := 0) rfl (by rw [ex_5761]) (by decide +kernel) rfl (fun ls hl => ?_)
                    refine lv_goto (tgt := 76) hx hb dX6_clause_140 (by decide +kernel) ?_
                    exact ih_5570 x_5761 (u_5745.2.2.2.1 0) (u_5745.2.2.2.1 1) (u_5745.2.2.2.1 2) (u_5745.2.2.2.1 3) (u_5745.2.2.2.1 4) (u_5756.2.2.2.1 0) (u_5756.2.1 0) (u_5741.2.1 0) (by rw [hx_5761]; omega) (by omega) (by omega) (by omega) (by omega) (by omega) k_5758 k_5742 (by omega) (hE.trans (by rw [hrec_5569])) _ _ (hP.sub [1, 5, 2, 3, 4, 0] rfl) (hD.sub [1, 5, 2, 3, 4, 0] (by decide +kernel) rfl) hS ls (lv_sub hl [0, 1, 2, 3] rfl)
                  · have c_5754i := i_eq (x := r_5744.toInt) (y := 0) rfl rfl c_5754
                    replace hE := hE.trans (if_pos c_5754)
                    refine lv_iconst (v := 0) hx hb dX6_clause_125 (by decide +kernel) ?_
                    rw [← hQ]
                    have hP9 := hP.sub (ws' := [(a0, .inr (6, [.ref t0, .ref s0, .int lw, .int (u_5745.2.2.2.1 0), r_4])), (t0, .inr (8, [.ref t1, .int ln, .int (u_5745.2.2.2.1 1), .int (u_5745.2.2.2.1 2), .int (u_5745.2.2.2.1 3), .int (u_5745.2.2.2.1 4)])), (t1, .inl (K 0, 400, .inl fb)), (s0, .inr (7, [.ref s1, .ref s2, .int scl, .int (u_5745.2.2.2.1 5)])), (s1, .inl (K 0, 60, .inl (u_5741.2.1 0))), (s2, .inl (K 0, 800, .inl (u_5745.2.1 0)))]) [1, 2, 3, 4, 0, 5] rfl
                    have hD9 := hD.sub (ws' := [(a0, .inr (6, [.ref t0, .ref s0, .int lw, .int (u_5745.2.2.2.1 0), r_4])), (t0, .inr (8, [.ref t1, .int ln, .int (u_5745.2.2.2.1 1), .int (u_5745.2.2.2.1 2), .int (u_5745.2.2.2.1 3), .int (u_5745.2.2.2.1 4)])), (t1, .inl (K 0, 400, .inl fb)), (s0, .inr (7, [.ref s1, .ref s2, .int scl, .int (u_5745.2.2.2.1 5)])), (s1, .inl (K 0, 60, .inl (u_5741.2.1 0))), (s2, .inl (K 0, 800, .inl (u_5745.2.1 0)))]) [1, 2, 3, 4, 0, 5] (by decide +kernel) rfl
                    exact W.zret (v := 0) hx hb hr (by decide +kernel) (fun t ht hW => ⟨⟨0, ((fun _ => 0, fun i => match i with | 0 => (u_5741.2.1 0) | _ => (u_5745.2.1 0), fun _ => fun _ => 0, fun i => match i with | 0 => (u_5745.2.2.2.1 0) | 1 => (u_5745.2.2.2.1 1) | 2 => (u_5745.2.2.2.1 2) | 3 => (u_5745.2.2.2.1 3) | 4 => (u_5745.2.2.2.1 4) | _ => (u_5745.2.2.2.1 5), fun _ => 0, fun _ => fun _ => none) : Su), rfl, ⟨(show 0 ≤ (0 : Int32).toInt ∧ (0 : Int32).toInt ≤ 1 by decide), (show 0 ≤ ((u_5745.2.2.2.1 0) : Int32).toInt ∧ ((u_5745.2.2.2.1 0) : Int32).toInt ≤ 50 by omega), (show 0 ≤ ((u_5745.2.2.2.1 1) : Int32).toInt ∧ ((u_5745.2.2.2.1 1) : Int32).toInt ≤ 400 by omega), (show 0 ≤ ((u_5745.2.2.2.1 2) : Int32).toInt ∧ ((u_5745.2.2.2.1 2) : Int32).toInt ≤ 400 by omega), (show (-1) ≤ ((u_5745.2.2.2.1 4) : Int32).toInt ∧ ((u_5745.2.2.2.1 4) : Int32).toInt ≤ 1000000 by omega), (show 0 ≤ ((u_5745.2.2.2.1 5) : Int32).toInt ∧ ((u_5745.2.2.2.1 5) : Int32).toInt ≤ 800 by omega), k_5742, k_5751, hE.symm, trivial⟩, (⟨by rw [ht]; exact hP9, hD9⟩ : Wd D A _ t)⟩, hS.F ht⟩) hS.2.2 dX6_clause_126
                refine lv_if_le (tgt := 98) hx hb dX6_clause_84 (by decide +kernel) (fun c_5762 => ?_) (fun c_5762 => ?_)
                · have c_5762i := i_le (x := v_5411.toInt) (y := 0) rfl rfl c_5762
                  replace hE := hE.trans (if_pos c_5762)
                  exact j_5738 v_5413 v_5414 v_5415 v_5416 (by omega) (by omega) (by omega) hE _ _ hP hD hS ls (lv_sub hl [0, 1, 2, 3] rfl)
                · have c_5762i := i_nle (x := v_5411.toInt) (y := 0) rfl rfl c_5762
                  replace hE := hE.trans (if_neg c_5762)
                  refine lv_aload_n hx hb dX6_clause_87 rfl (lv_at hl 2 rfl) ?_
                  refine va_ldcS hx hb hown (hG.str 2 (by decide +kernel)).1 dX6_clause_88 ?_
                  refine W.eq (g2 := F0 m 90 ls [.ref (g 12), .ref a0]) rfl ?_
                  refine kci (S := Su) (wr := [(s2, .inl (K 0, 800, .inl f_5418)), (s0, .inr (7, [.ref s1, .ref s2, .int scl, .int v_5417])), (s1, .inl (K 0, 60, .inl f_5419))]) (va_runV (As := [.ref (g 12)]) (rest := []) ⟨hx, hb, hml, hown, hts⟩ (w_passed l D K g L G 2 a0 t0 s0 lw v_5412 r_4 t1 ln v_5413 v_5414 v_5415 v_5416 fb H.size (by decide +kernel) (by first | omega | decide) (by first | omega | decide) (by first | omega | decide) (by first | omega | decide) (by first | omega | decide) (by first | omega | decide)) (cwV 1 hts gX6_clause_X6_passed rfl rfl rfl (by decide +kernel) ⟨Nat.le_of_ble_eq_true rfl, Nat.le_of_ble_eq_true rfl⟩) (mkVY hK hN (hP.sub [0, 2, 3] rfl) (hD.sub [0, 2, 3] (by decide +kernel) rfl) (ci := 6) (q0 := 0) rfl rfl (fun U hU hW => ⟨Gl.at hG hS hW hU (fun q h => va_free hD hS hA [0, 2, 3] rfl q h), Pool.at hPl hS hU (fun q h => va_free hD hS hA [0, 2, 3] rfl q h), Ro.heap hU (Ro.nil)⟩)) rfl rfl hl.1 rfl (lv_room (Nat.le_of_ble_eq_true rfl)) dX6_clause_90 ⟨Nat.le_of_ble_eq_true rfl, Nat.le_of_ble_eq_true rfl⟩) hP hD hS hA [0, 2, 3] [1, 4, 5] rfl rfl (by decide +kernel) (by decide +kernel) (fun r_5763 u_5764 H locs hw hP0 hD0 hS0 => ?_)
                  clear hP hD hS
                  have hP := hP0
                  have hD := hD0
                  have hS := hS0
                  clear hP0 hD0 hS0
                  replace hP : va_P D vwCl [(s2, .inl (K 0, 800, .inl f_5418)), (s0, .inr (7, [.ref s1, .ref s2, .int scl, .int v_5417])), (s1, .inl (K 0, 60, .inl f_5419)), (a0, .inr (6, [.ref t0, .ref s0, .int lw, .int v_5412, r_4])), (t0, .inr (8, [.ref t1, .int ln, .int (u_5764.2.2.2.1 0), .int (u_5764.2.2.2.1 1), .int (u_5764.2.2.2.1 2), .int (u_5764.2.2.2.1 3)])), (t1, .inl (K 0, 400, .inl fb))] H := hP
                  replace hD : va_D A [(s2, .inl (K 0, 800, .inl f_5418)), (s0, .inr (7, [.ref s1, .ref s2, .int scl, .int v_5417])), (s1, .inl (K 0, 60, .inl f_5419)), (a0, .inr (6, [.ref t0, .ref s0, .int lw, .int v_5412, r_4])), (t0, .inr (8, [.ref t1, .int ln, .int (u_5764.2.2.2.1 0), .int (u_5764.2.2.2.1 1), .int (u_5764.2.2.2.1 2), .int (u_5764.2.2.2.1 3)])), (t1, .inl (K 0, 400, .inl fb))] := hD
                  obtain ⟨h_5769, k_5765, k_5766, k_5767, k_5768, -⟩ := hw
                  replace hE := (((hE.trans (Lt2_in k_5768)).trans (Lt2_in rfl)).trans (Lt2_in rfl)).trans (Lt2_in rfl)
                  refine lv_if_ne (tgt := 98) hx hb dX6_clause_93 (by decide +kernel) (fun c_5770 => ?_) (fun c_5770 => ?_)
                  · have c_5770i := i_ne (x := r_5763.toInt) (y := 0) rfl rfl c_5770
                    replace hE := hE.trans (if_neg c_5770)
                    exact j_5738 (u_5764.2.2.2.1 0) (u_5764.2.2.2.1 1) (u_5764.2.2.2.1 2) (u_5764.2.2.2.1 3) (by omega) (by omega) (by omega) hE _ _ (hP.sub [3, 0, 4, 5, 1, 2] rfl) (hD.sub [3, 0, 4, 5, 1, 2] (by decide +kernel) rfl) hS ls (lv_sub hl [0, 1, 2, 3] rfl)
                  · have c_5770i := i_eq (x := r_5763.toInt) (y := 0) rfl rfl c_5770
                    replace hE := hE.trans (if_pos c_5770)
                    refine lv_iconst (v := 0) hx hb dX6_clause_96 (by decide +kernel) ?_
                    rw [← hQ]
                    have hP9 := hP.sub (ws' := [(a0, .inr (6, [.ref t0, .ref s0, .int lw, .int v_5412, r_4])), (t0, .inr (8, [.ref t1, .int ln, .int (u_5764.2.2.2.1 0), .int (u_5764.2.2.2.1 1), .int (u_5764.2.2.2.1 2), .int (u_5764.2.2.2.1 3)])), (t1, .inl (K 0, 400, .inl fb)), (s0, .inr (7, [.ref s1, .ref s2, .int scl, .int v_5417])), (s1, .inl (K 0, 60, .inl f_5419)), (s2, .inl (K 0, 800, .inl f_5418))]) [3, 4, 5, 1, 2, 0] rfl
                    have hD9 := hD.sub (ws' := [(a0, .inr (6, [.ref t0, .ref s0, .int lw, .int v_5412, r_4])), (t0, .inr (8, [.ref t1, .int ln, .int (u_5764.2.2.2.1 0), .int (u_5764.2.2.2.1 1), .int (u_5764.2.2.2.1 2), .int (u_5764.2.2.2.1 3)])), (t1, .inl (K 0, 400, .inl fb)), (s0, .inr (7, [.ref s1, .ref s2, .int scl, .int v_5417])), (s1, .inl (K 0, 60, .inl f_5419)), (s2, .inl (K 0, 800, .inl f_5418))]) [3, 4, 5, 1, 2, 0] (by decide +kernel) rfl
                    exact W.zret (v := 0) hx hb hr (by decide +kernel) (fun t ht hW => ⟨⟨0, ((fun _ => 0, fun i => match i with | 0 => f_5419 | _ => f_5418, fun _ => fun _ => 0, fun i => match i with | 0 => v_5412 | 1 => (u_5764.2.2.2.1 0) | 2 => (u_5764.2.2.2.1 1) | 3 => (u_5764.2.2.2.1 2) | 4 => (u_5764.2.2.2.1 3) | _ => v_5417, fun _ => 0, fun _ => fun _ => none) : Su), rfl, ⟨(show 0 ≤ (0 : Int32).toInt ∧ (0 : Int32).toInt ≤ 1 by decide), (show 0 ≤ (v_5412 : Int32).toInt ∧ (v_5412 : Int32).toInt ≤ 50 by omega), (show 0 ≤ ((u_5764.2.2.2.1 0) : Int32).toInt ∧ ((u_5764.2.2.2.1 0) : Int32).toInt ≤ 400 by omega), (show 0 ≤ ((u_5764.2.2.2.1 1) : Int32).toInt ∧ ((u_5764.2.2.2.1 1) : Int32).toInt ≤ 400 by omega), (show (-1) ≤ ((u_5764.2.2.2.1 3) : Int32).toInt ∧ ((u_5764.2.2.2.1 3) : Int32).toInt ≤ 1000000 by omega), (show 0 ≤ (v_5417 : Int32).toInt ∧ (v_5417 : Int32).toInt ≤ 800 by omega), hf_5419_0, hf_5418_0, hE.symm, trivial⟩, (⟨by rw [ht]; exact hP9, hD9⟩ : Wd D A _ t)⟩, hS.F ht⟩) hS.2.2 dX6_clause_97
          exact lp_5569 ((3 - (0 : Int32).toInt : Int).toNat + 1) 0 pa (u_5116.2.2.2.1 0) (u_5116.2.2.2.1 1) (u_5116.2.2.2.1 2) (u_5116.2.2.2.1 3) us fc (u_5122.2.1 0) (by decide +kernel) (by omega) (by omega) (by omega) (by omega) (by omega) zfc k_5123 (Nat.lt_succ_self _) hE _ _ hP hD hS ls (lv_sub hl [0, 1, 3, 4] rfl)
        · have c_5125i := i_ne (x := lw.toInt) (y := 0) rfl rfl c_5125
          exfalso; omega
      · have c_5114i := i_nlt (x := r_5110.toInt) (y := 4) rfl rfl c_5114
        replace hE := hE.trans (if_neg c_5114)
        exact j_5108   hE _ _ hP hD hS ls (lv_sub hl [] rfl)
  · have c_5109i := i_ne (x := lw.toInt) (y := 0) rfl rfl c_5109
    replace hE := hE.trans (if_neg c_5109)
    refine va_ldcS hx hb hown (hG.str 0 (by decide +kernel)).1 dX6_clause_11 ?_
    refine W.eq (g2 := F0 m 13 ls [.ref (g 8), .ref t0]) rfl ?_
    refine lv_goto (tgt := 18) hx hb dX6_clause_13 (by decide +kernel) ?_
    refine pci (va_runVN (As := [.ref (g 8)]) (rest := []) ⟨hx, hb, hml, hown, hts⟩ (w_find l D K g L G 0 t0 t1 ln tf tt ti tu fb s.heap.size (by decide +kernel) (by first | omega | decide) (by first | omega | decide) (by first | omega | decide) (by first | omega | decide)) ⟨va_cnB 1 hts gX6_clause_X8_find_n67 rfl rfl rfl (nst_at hN 33 rfl) (hts _ mm_X6_clause_147) (by decide +kernel) ⟨Nat.le_of_ble_eq_true rfl, Nat.le_of_ble_eq_true rfl⟩, (hts _ mm_X6_clause_478), (hts _ mm_X6_clause_23)⟩ (mkVY hK hN (hP.sub [1, 2] rfl) (hD.sub [1, 2] (by decide +kernel) rfl) (ci := 8) (q0 := 0) rfl rfl (fun U hU hW => ⟨Gl.at hG hS hW hU (fun _ h9 => h9.elim), Pool.at hPl hS hU (fun _ h9 => h9.elim), Ro.heap hU (Ro.nil)⟩)) rfl rfl hl.1 rfl (lv_room (Nat.le_of_ble_eq_true rfl)) dX6_clause_18 ⟨Nat.le_of_ble_eq_true rfl, Nat.le_of_ble_eq_true rfl⟩) (fun r_5771 hw => ?_)
    obtain ⟨h_5773, k_5772, -⟩ := hw
    replace hE := hE.trans (Lt_in k_5772)
    refine lv_istore_n (lv' := [(2, .int r_5771), (0, .ref a0), (1, .int x)]) hx hb dX6_clause_21 rfl hl (by decide +kernel) rfl (fun ls hl => ?_)
    refine lv_iload_n hx hb dX6_clause_22 rfl (lv_at hl 0 rfl) ?_
    refine lv_if_lt (tgt := 34) hx hb dX6_clause_23 (by decide +kernel) (fun c_5774 => ?_) (fun c_5774 => ?_)
    · have c_5774i := i_lt (x := r_5771.toInt) (y := 0) rfl rfl c_5774
      replace hE := hE.trans (if_pos c_5774)
      exact j_5108   hE _ _ hP hD hS ls (lv_sub hl [] rfl)
    · have c_5774i := i_nlt (x := r_5771.toInt) (y := 0) rfl rfl c_5774
      replace hE := hE.trans (if_neg c_5774)
      refine lv_iload_n hx hb dX6_clause_26 rfl (lv_at hl 0 rfl) ?_
      refine va_gets (C := "SmokeTune$Reader") (n := "LAW_SUMS") (d := "[I") (v := .ref (g 4)) hx hb (hG.arr 4 (by decide +kernel)).1 hS hown (hts _ mm_X6_clause_523) (fun _ h9 => h9) dX6_clause_27 ?_
      refine va_tlen (v := 4) hx hb (hG.arr 4 (by decide +kernel)).2 hS rfl dX6_clause_30 ?_
      refine lv_icmp_lt (tgt := 36) hx hb dX6_clause_31 (by decide +kernel) (fun c_5775 => ?_) (fun c_5775 => ?_)
      · have c_5775i := i_lt (x := r_5771.toInt) (y := 4) rfl rfl c_5775
        replace hE := hE.trans (if_pos c_5775)
        refine lv_aload_n hx hb dX6_clause_36 rfl (lv_at hl 1 rfl) ?_
        refine va_get (ci := 6) (v := .ref t0) (C := RX6) (T := TX6) (N := 5) hx hb hts hw6 hown hK hP 0 rfl rfl 0 (by decide +kernel) (hts _ mm_X6_clause_231) (fun _ h9 => h9) rfl dX6_clause_37 ?_
        refine kcv (S := Su) (wr := [(a0, .inr (6, [.ref t0, .ref s0, .int lw, .int pa, r_4])), (s0, .inr (7, [.ref s1, .ref s2, .int scl, .int us])), (s1, .inl (K 0, 60, .inl fh)), (s2, .inl (K 0, 800, .inl fc))]) (va_runVN (As := []) (rest := []) ⟨hx, hb, hml, hown, hts⟩ (w_step l D K t0 t1 ln tf tt ti tu fb s.heap.size (by first | omega | decide) (by first | omega | decide)) ⟨va_cnB 0 hts gX6_clause_X8_step_n47 rfl rfl rfl (nst_at hN 32 rfl) (hts _ mm_X6_clause_147) (by decide +kernel) ⟨Nat.le_of_ble_eq_true rfl, Nat.le_of_ble_eq_true rfl⟩, (hts _ mm_X6_clause_471), (hts _ mm_X6_clause_21)⟩ (mkV hK hN (hP.sub [1, 2] rfl) (hD.sub [1, 2] (by decide +kernel) rfl) (ci := 8) (q0 := 0) rfl rfl) rfl rfl hl.1 rfl (lv_room (Nat.le_of_ble_eq_true rfl)) dX6_clause_40 ⟨Nat.le_of_ble_eq_true rfl, Nat.le_of_ble_eq_true rfl⟩) hP hD hS hA [1, 2] [0, 3, 4, 5] rfl rfl (by decide +kernel) (by decide +kernel) (fun u_5777 H locs hw hP0 hD0 hS0 => ?_)
        clear hP hD hS
        have hP := hP0
        have hD := hD0
        have hS := hS0
        clear hP0 hD0 hS0
        replace hP : va_P D vwCl [(a0, .inr (6, [.ref t0, .ref s0, .int lw, .int pa, r_4])), (s0, .inr (7, [.ref s1, .ref s2, .int scl, .int us])), (s1, .inl (K 0, 60, .inl fh)), (s2, .inl (K 0, 800, .inl fc)), (t0, .inr (8, [.ref t1, .int ln, .int (u_5777.2.2.2.1 0), .int (u_5777.2.2.2.1 1), .int (u_5777.2.2.2.1 2), .int (u_5777.2.2.2.1 3)])), (t1, .inl (K 0, 400, .inl fb))] H := hP
        replace hD : va_D A [(a0, .inr (6, [.ref t0, .ref s0, .int lw, .int pa, r_4])), (s0, .inr (7, [.ref s1, .ref s2, .int scl, .int us])), (s1, .inl (K 0, 60, .inl fh)), (s2, .inl (K 0, 800, .inl fc)), (t0, .inr (8, [.ref t1, .int ln, .int (u_5777.2.2.2.1 0), .int (u_5777.2.2.2.1 1), .int (u_5777.2.2.2.1 2), .int (u_5777.2.2.2.1 3)])), (t1, .inl (K 0, 400, .inl fb))] := hD
        obtain ⟨k_5778, k_5779, k_5780, k_5781, -⟩ := hw
        replace hE := ((hE.trans (Lt2_in k_5781)).trans (Lt2_in rfl)).trans (Lt2_in rfl)
        refine lv_aload_n hx hb dX6_clause_43 rfl (lv_at hl 1 rfl) ?_
        refine va_get (ci := 6) (v := .ref s0) (C := RX6) (T := TX6) (N := 5) hx hb hts hw6 hown hK hP 0 rfl rfl 1 (by decide +kernel) (hts _ mm_X6_clause_232) (fun _ h9 => h9) rfl dX6_clause_44 ?_
        refine lv_iload_n hx hb dX6_clause_47 rfl (lv_at hl 2 rfl) ?_
        refine lv_iload_n hx hb dX6_clause_48 rfl (lv_at hl 0 rfl) ?_
        refine kcv (S := Su) (wr := [(a0, .inr (6, [.ref t0, .ref s0, .int lw, .int pa, r_4])), (s2, .inl (K 0, 800, .inl fc)), (t0, .inr (8, [.ref t1, .int ln, .int (u_5777.2.2.2.1 0), .int (u_5777.2.2.2.1 1), .int (u_5777.2.2.2.1 2), .int (u_5777.2.2.2.1 3)])), (t1, .inl (K 0, 400, .inl fb))]) (va_runVN (As := [.int x, .int r_5771]) (rest := []) ⟨hx, hb, hml, hown, hts⟩ (w_open l D K s0 x r_5771 s1 (.ref s2) (.int scl) (.int us) fh H.size (by first | omega | decide) zfh) ⟨va_cnB 2 hts gX6_clause_X7_open_n75 rfl rfl rfl (nst_at hN 34 rfl) (hts _ mm_X6_clause_148) (by decide +kernel) ⟨Nat.le_of_ble_eq_true rfl, Nat.le_of_ble_eq_true rfl⟩, (hts _ mm_X6_clause_524), (hts _ mm_X6_clause_24)⟩ (mkV hK hN (hP.sub [1, 2] rfl) (hD.sub [1, 2] (by decide +kernel) rfl) (ci := 7) (q0 := 0) rfl rfl) rfl rfl hl.1 rfl (lv_room (Nat.le_of_ble_eq_true rfl)) dX6_clause_49 ⟨Nat.le_of_ble_eq_true rfl, Nat.le_of_ble_eq_true rfl⟩) hP hD hS hA [1, 2] [0, 3, 4, 5] rfl rfl (by decide +kernel) (by decide +kernel) (fun u_5783 H locs hw hP0 hD0 hS0 => ?_)
        clear hP hD hS
        have hP := hP0
        have hD := hD0
        have hS := hS0
        clear hP0 hD0 hS0
        replace hP : va_P D vwCl [(a0, .inr (6, [.ref t0, .ref s0, .int lw, .int pa, r_4])), (s2, .inl (K 0, 800, .inl fc)), (t0, .inr (8, [.ref t1, .int ln, .int (u_5777.2.2.2.1 0), .int (u_5777.2.2.2.1 1), .int (u_5777.2.2.2.1 2), .int (u_5777.2.2.2.1 3)])), (t1, .inl (K 0, 400, .inl fb)), (s0, .inr (7, [.ref s1, .ref s2, .int scl, .int us])), (s1, .inl (K 0, 60, .inl (u_5783.2.1 0)))] H := hP
        replace hD : va_D A [(a0, .inr (6, [.ref t0, .ref s0, .int lw, .int pa, r_4])), (s2, .inl (K 0, 800, .inl fc)), (t0, .inr (8, [.ref t1, .int ln, .int (u_5777.2.2.2.1 0), .int (u_5777.2.2.2.1 1), .int (u_5777.2.2.2.1 2), .int (u_5777.2.2.2.1 3)])), (t1, .inl (K 0, 400, .inl fb)), (s0, .inr (7, [.ref s1, .ref s2, .int scl, .int us])), (s1, .inl (K 0, 60, .inl (u_5783.2.1 0)))] := hD
        obtain ⟨k_5784, k_5785, -⟩ := hw
        replace hE := hE.trans (Lt_in k_5785)
        refine lv_aload_n hx hb dX6_clause_52 rfl (lv_at hl 1 rfl) ?_
        refine va_get (ci := 6) (v := .int lw) (C := RX6) (T := TX6) (N := 5) hx hb hts hw6 hown hK hP 0 rfl rfl 2 (by decide +kernel) (hts _ mm_X6_clause_233) (fun _ h9 => h9) rfl dX6_clause_53 ?_
        refine lv_if_eq (tgt := 67) hx hb dX6_clause_56 (by decide +kernel) (fun c_5786 => ?_) (fun c_5786 => ?_)
        · have c_5786i := i_eq (x := lw.toInt) (y := 0) rfl rfl c_5786
          exfalso; omega
        · have c_5786i := i_ne (x := lw.toInt) (y := 0) rfl rfl c_5786
          replace hE := hE.trans (if_neg c_5786)
          refine va_gets (C := "SmokeTune$Reader") (n := "LAW_SUMS") (d := "[I") (v := .ref (g 4)) hx hb (hG.arr 4 (by decide +kernel)).1 hS hown (hts _ mm_X6_clause_523) (fun _ h9 => h9) dX6_clause_59 ?_
          refine lv_iload_n hx hb dX6_clause_62 rfl (lv_at hl 0 rfl) ?_
          refine va_ti hx hb (hG.arr 4 (by decide +kernel)).2 hS (show vp_in _ 4 from (i_in rfl (by omega))) rfl dX6_clause_63 ?_
          refine lv_topi (fun x_5787 ex_5787 => ?_)
          replace hE := hE.trans (Lt_in ex_5787)
          have hx_5787 : 0 ≤ x_5787.toInt ∧ x_5787.toInt ≤ 1 := by rw [ex_5787]; exact Rg.at sr_4 rfl (show 0 ≤ r_5771.toInt ∧ r_5771.toInt < _ by omega)
          refine lv_goto (tgt := 72) hx hb dX6_clause_64 (by decide +kernel) ?_
          refine lv_istore_n (lv' := [(3, .int x_5787), (2, .int r_5771), (0, .ref a0), (1, .int x)]) hx hb dX6_clause_72 rfl hl (by decide +kernel) rfl (fun ls hl => ?_)
          refine lv_iconst (v := 0) hx hb dX6_clause_73 (by decide +kernel) ?_
          refine lv_istore (lv' := [(4, .int 0), (3, .int x_5787), (2, .int r_5771), (0, .ref a0), (1, .int x)]) hx hb dX6_clause_74 hl (by decide +kernel) rfl (fun ls hl => ?_)
          have lp_6009 : ∀ (nn_ : Nat) (v_5893 : Int32) (v_5894 : Int32) (v_5895 : Int32) (v_5896 : Int32) (v_5897 : Int32) (v_5898 : Int32) (v_5899 : Int32) (f_5900 : Nat → Int32) (f_5901 : Nat → Int32) (hv_5893 : 0 ≤ v_5893.toInt ∧ v_5893.toInt ≤ 1) (hv_5894 : 0 ≤ v_5894.toInt ∧ v_5894.toInt ≤ 50) (hv_5895 : 0 ≤ v_5895.toInt ∧ v_5895.toInt ≤ 400) (hv_5896 : 0 ≤ v_5896.toInt ∧ v_5896.toInt ≤ 400) (hv_5898 : (-1) ≤ v_5898.toInt ∧ v_5898.toInt ≤ 1000000) (hv_5899 : 0 ≤ v_5899.toInt ∧ v_5899.toInt ≤ 800) (hf_5900_0 : Rg 800 0 1000 f_5900) (hf_5901_0 : Rg 60 (-1) 1000 f_5901) (hn : (2 - v_5893.toInt : Int).toNat < nn_) (hE : E_w_clause x lw pa ln tf tt ti tu fb scl us fh fc = Lp (α := Int32 → Int32 → Int32 → Int32 → Int32 → Int32 → Int32 → (Nat → Int32) → (Nat → Int32) → (Int32 × Int32 × Int32 × Int32 × Int32 × Int32 × Int32 × (Nat → Int32) × (Nat → Int32))) (E_w_clause_l76a x lw ln fb x_5787) (fun _ _ _ _ _ _ _ _ _ => ((0, 0, 0, 0, 0, 0, 0, fun _ => 0, fun _ => 0) : Int32 × Int32 × Int32 × Int32 × Int32 × Int32 × Int32 × (Nat → Int32) × (Nat → Int32))) nn_ v_5893 v_5894 v_5895 v_5896 v_5897 v_5898 v_5899 f_5900 f_5901) (H : Heap) (locs : List Loc) (hP : va_P D vwCl [(a0, .inr (6, [.ref t0, .ref s0, .int lw, .int v_5894, r_4])), (s2, .inl (K 0, 800, .inl f_5900)), (t0, .inr (8, [.ref t1, .int ln, .int v_5895, .int v_5896, .int v_5897, .int v_5898])), (t1, .inl (K 0, 400, .inl fb)), (s0, .inr (7, [.ref s1, .ref s2, .int scl, .int v_5899])), (s1, .inl (K 0, 60, .inl f_5901))] H) (hD : va_D A [(a0, .inr (6, [.ref t0, .ref s0, .int lw, .int v_5894, r_4])), (s2, .inl (K 0, 800, .inl f_5900)), (t0, .inr (8, [.ref t1, .int ln, .int v_5895, .int v_5896, .int v_5897, .int v_5898])), (t1, .inl (K 0, 400, .inl fb)), (s0, .inr (7, [.ref s1, .ref s2, .int scl, .int v_5899])), (s1, .inl (K 0, 60, .inl f_5901))]) (hS : va_S A s.heap H locs) (ls : Array Slot) (hl : lv_has ls 5 [(4, .int v_5893), (3, .int x_5787), (0, .ref a0), (1, .int x)]), W p l e ({ frames := 334, cells := 0, slots := 0, locals := 7395 }) s m (([.ref a0, .int x] : List Value).toArray) below meth c H locs 0 0 Q (F0 m 76 ls []) := by
            clear hE hP hD hS hl
            intro nn_
            induction nn_ with
            | zero =>
              intro v_5893 v_5894 v_5895 v_5896 v_5897 v_5898 v_5899 f_5900 f_5901 hv_5893 hv_5894 hv_5895 hv_5896 hv_5898 hv_5899 hf_5900_0 hf_5901_0 hn hE H locs hP hD hS ls hl
              exact absurd hn (Nat.not_lt_zero _)
            | succ nn_ ih_6010 =>
              intro v_5893 v_5894 v_5895 v_5896 v_5897 v_5898 v_5899 f_5900 f_5901 hv_5893 hv_5894 hv_5895 hv_5896 hv_5898 hv_5899 hf_5900_0 hf_5901_0 hn hE H locs hP hD hS ls hl
              replace hE : E_w_clause x lw pa ln tf tt ti tu fb scl us fh fc = E_w_clause_l76a x lw ln fb x_5787 (Lp (α := Int32 → Int32 → Int32 → Int32 → Int32 → Int32 → Int32 → (Nat → Int32) → (Nat → Int32) → (Int32 × Int32 × Int32 × Int32 × Int32 × Int32 × Int32 × (Nat → Int32) × (Nat → Int32))) (E_w_clause_l76a x lw ln fb x_5787) (fun _ _ _ _ _ _ _ _ _ => ((0, 0, 0, 0, 0, 0, 0, fun _ => 0, fun _ => 0) : Int32 × Int32 × Int32 × Int32 × Int32 × Int32 × Int32 × (Nat → Int32) × (Nat → Int32))) nn_) v_5893 v_5894 v_5895 v_5896 v_5897 v_5898 v_5899 f_5900 f_5901 := hE
              obtain ⟨rec_6009, hrec_6009⟩ : ∃ z9, z9 = Lp (α := Int32 → Int32 → Int32 → Int32 → Int32 → Int32 → Int32 → (Nat → Int32) → (Nat → Int32) → (Int32 × Int32 × Int32 × Int32 × Int32 × Int32 × Int32 × (Nat → Int32) × (Nat → Int32))) (E_w_clause_l76a x lw ln fb x_5787) (fun _ _ _ _ _ _ _ _ _ => ((0, 0, 0, 0, 0, 0, 0, fun _ => 0, fun _ => 0) : Int32 × Int32 × Int32 × Int32 × Int32 × Int32 × Int32 × (Nat → Int32) × (Nat → Int32))) nn_ := ⟨_, rfl⟩
              rw [← hrec_6009] at hE
              replace hE := hE.trans (E_w_clause_l76a.eq_def _ _ _ _ _ _ _ _ _ _ _ _ _ _ _)
              refine lv_iload hx hb dX6_clause_76 (lv_at hl 0 rfl) ?_
              refine lv_iload_n hx hb dX6_clause_78 rfl (lv_at hl 1 rfl) ?_
              refine lv_icmp_ge (tgt := 143) hx hb dX6_clause_79 (by decide +kernel) (fun c_6011 => ?_) (fun c_6011 => ?_)
              · have c_6011i := i_le (x := x_5787.toInt) (y := v_5893.toInt) rfl rfl c_6011
                replace hE := hE.trans (if_pos c_6011)
                refine lv_aload_n hx hb dX6_clause_143 rfl (lv_at hl 2 rfl) ?_
                refine va_get (ci := 6) (v := .int lw) (C := RX6) (T := TX6) (N := 5) hx hb hts hw6 hown hK hP 0 rfl rfl 2 (by decide +kernel) (hts _ mm_X6_clause_233) (fun _ h9 => h9) rfl dX6_clause_144 ?_
                refine lv_if_ne (tgt := 207) hx hb dX6_clause_147 (by decide +kernel) (fun c_6041 => ?_) (fun c_6041 => ?_)
                · have c_6041i := i_ne (x := lw.toInt) (y := 0) rfl rfl c_6041
                  replace hE := hE.trans (if_neg c_6041)
                  refine lv_aload_n hx hb dX6_clause_207 rfl (lv_at hl 2 rfl) ?_
                  refine va_ldcS hx hb hown (hG.str 4 (by decide +kernel)).1 dX6_clause_208 ?_
                  refine W.eq (g2 := F0 m 210 ls [.ref (g 16), .ref a0]) rfl ?_
                  refine kci (S := Su) (wr := [(s2, .inl (K 0, 800, .inl f_5900)), (s0, .inr (7, [.ref s1, .ref s2, .int scl, .int v_5899])), (s1, .inl (K 0, 60, .inl f_5901))]) (va_runV (As := [.ref (g 16)]) (rest := []) ⟨hx, hb, hml, hown, hts⟩ (w_passed l D K g L G 4 a0 t0 s0 lw v_5894 r_4 t1 ln v_5895 v_5896 v_5897 v_5898 fb H.size (by decide +kernel) (by first | omega | decide) (by first | omega | decide) (by first | omega | decide) (by first | omega | decide) (by first | omega | decide) (by first | omega | decide)) (cwV 1 hts gX6_clause_X6_passed rfl rfl rfl (by decide +kernel) ⟨Nat.le_of_ble_eq_true rfl, Nat.le_of_ble_eq_true rfl⟩) (mkVY hK hN (hP.sub [0, 2, 3] rfl) (hD.sub [0, 2, 3] (by decide +kernel) rfl) (ci := 6) (q0 := 0) rfl rfl (fun U hU hW => ⟨Gl.at hG hS hW hU (fun q h => va_free hD hS hA [0, 2, 3] rfl q h), Pool.at hPl hS hU (fun q h => va_free hD hS hA [0, 2, 3] rfl q h), Ro.heap hU (Ro.nil)⟩)) rfl rfl hl.1 rfl (lv_room (Nat.le_of_ble_eq_true rfl)) dX6_clause_210 ⟨Nat.le_of_ble_eq_true rfl, Nat.le_of_ble_eq_true rfl⟩) hP hD hS hA [0, 2, 3] [1, 4, 5] rfl rfl (by decide +kernel) (by decide +kernel) (fun r_6042 u_6043 H locs hw hP0 hD0 hS0 => ?_)
                  clear hP hD hS
                  have hP := hP0
                  have hD := hD0
                  have hS := hS0
                  clear hP0 hD0 hS0
                  replace hP : va_P D vwCl [(s2, .inl (K 0, 800, .inl f_5900)), (s0, .inr (7, [.ref s1, .ref s2, .int scl, .int v_5899])), (s1, .inl (K 0, 60, .inl f_5901)), (a0, .inr (6, [.ref t0, .ref s0, .int lw, .int v_5894, r_4])), (t0, .inr (8, [.ref t1, .int ln, .int (u_6043.2.2.2.1 0), .int (u_6043.2.2.2.1 1), .int (u_6043.2.2.2.1 2), .int (u_6043.2.2.2.1 3)])), (t1, .inl (K 0, 400, .inl fb))] H := hP
                  replace hD : va_D A [(s2, .inl (K 0, 800, .inl f_5900)), (s0, .inr (7, [.ref s1, .ref s2, .int scl, .int v_5899])), (s1, .inl (K 0, 60, .inl f_5901)), (a0, .inr (6, [.ref t0, .ref s0, .int lw, .int v_5894, r_4])), (t0, .inr (8, [.ref t1, .int ln, .int (u_6043.2.2.2.1 0), .int (u_6043.2.2.2.1 1), .int (u_6043.2.2.2.1 2), .int (u_6043.2.2.2.1 3)])), (t1, .inl (K 0, 400, .inl fb))] := hD
                  obtain ⟨h_6048, k_6044, k_6045, k_6046, k_6047, -⟩ := hw
                  replace hE := (((hE.trans (Lt2_in k_6047)).trans (Lt2_in rfl)).trans (Lt2_in rfl)).trans (Lt2_in rfl)
                  refine lv_if_ne (tgt := 218) hx hb dX6_clause_213 (by decide +kernel) (fun c_6049 => ?_) (fun c_6049 => ?_)
                  · have c_6049i := i_ne (x := r_6042.toInt) (y := 0) rfl rfl c_6049
                    replace hE := hE.trans (if_neg c_6049)
                    refine lv_aload_n hx hb dX6_clause_218 rfl (lv_at hl 2 rfl) ?_
                    refine va_get (ci := 6) (v := .ref s0) (C := RX6) (T := TX6) (N := 5) hx hb hts hw6 hown hK hP 3 rfl rfl 1 (by decide +kernel) (hts _ mm_X6_clause_232) (fun _ h9 => h9) rfl dX6_clause_219 ?_
                    refine lv_iload_n hx hb dX6_clause_222 rfl (lv_at hl 3 rfl) ?_
                    refine lv_iconst (v := 4) hx hb dX6_clause_223 (by decide +kernel) ?_
                    refine lv_aload_n hx hb dX6_clause_224 rfl (lv_at hl 2 rfl) ?_
                    refine va_get (ci := 6) (v := .ref s0) (C := RX6) (T := TX6) (N := 5) hx hb hts hw6 hown hK hP 3 rfl rfl 1 (by decide +kernel) (hts _ mm_X6_clause_232) (fun _ h9 => h9) rfl dX6_clause_225 ?_
                    refine va_getN (ci := 7) (v := .int v_5899) (C := RX7) (T := TX7) (N := 4) hx hb hts hw7 hown hK hP 1 rfl rfl 3 (by decide +kernel) (nst_use hN 130 rfl) (fun _ h9 => h9) rfl dX6_clause_228 ?_
                    refine kcv (S := Su) (wr := [(s2, .inl (K 0, 800, .inl f_5900)), (a0, .inr (6, [.ref t0, .ref s0, .int lw, .int v_5894, r_4])), (t0, .inr (8, [.ref t1, .int ln, .int (u_6043.2.2.2.1 0), .int (u_6043.2.2.2.1 1), .int (u_6043.2.2.2.1 2), .int (u_6043.2.2.2.1 3)])), (t1, .inl (K 0, 400, .inl fb))]) (va_runVN (As := [.int x, .int 4, .int v_5899]) (rest := []) ⟨hx, hb, hml, hown, hts⟩ (w_setHead l D K s0 x 4 v_5899 s1 (.ref s2) (.int scl) (.int v_5899) f_5901 H.size (by first | omega | decide) hf_5901_0) ⟨va_cnB 3 hts gX6_clause_X7_setHead_n88 rfl rfl rfl (nst_at hN 35 rfl) (hts _ mm_X6_clause_148) (by decide +kernel) ⟨Nat.le_of_ble_eq_true rfl, Nat.le_of_ble_eq_true rfl⟩, (hts _ mm_X6_clause_527), (hts _ mm_X6_clause_25)⟩ (mkV hK hN (hP.sub [1, 2] rfl) (hD.sub [1, 2] (by decide +kernel) rfl) (ci := 7) (q0 := 0) rfl rfl) rfl rfl hl.1 rfl (lv_room (Nat.le_of_ble_eq_true rfl)) dX6_clause_231 ⟨Nat.le_of_ble_eq_true rfl, Nat.le_of_ble_eq_true rfl⟩) hP hD hS hA [1, 2] [0, 3, 4, 5] rfl rfl (by decide +kernel) (by decide +kernel) (fun u_6051 H locs hw hP0 hD0 hS0 => ?_)
                    clear hP hD hS
                    have hP := hP0
                    have hD := hD0
                    have hS := hS0
                    clear hP0 hD0 hS0
                    replace hP : va_P D vwCl [(s2, .inl (K 0, 800, .inl f_5900)), (a0, .inr (6, [.ref t0, .ref s0, .int lw, .int v_5894, r_4])), (t0, .inr (8, [.ref t1, .int ln, .int (u_6043.2.2.2.1 0), .int (u_6043.2.2.2.1 1), .int (u_6043.2.2.2.1 2), .int (u_6043.2.2.2.1 3)])), (t1, .inl (K 0, 400, .inl fb)), (s0, .inr (7, [.ref s1, .ref s2, .int scl, .int v_5899])), (s1, .inl (K 0, 60, .inl (u_6051.2.1 0)))] H := hP
                    replace hD : va_D A [(s2, .inl (K 0, 800, .inl f_5900)), (a0, .inr (6, [.ref t0, .ref s0, .int lw, .int v_5894, r_4])), (t0, .inr (8, [.ref t1, .int ln, .int (u_6043.2.2.2.1 0), .int (u_6043.2.2.2.1 1), .int (u_6043.2.2.2.1 2), .int (u_6043.2.2.2.1 3)])), (t1, .inl (K 0, 400, .inl fb)), (s0, .inr (7, [.ref s1, .ref s2, .int scl, .int v_5899])), (s1, .inl (K 0, 60, .inl (u_6051.2.1 0)))] := hD
                    obtain ⟨k_6052, k_6053, -⟩ := hw
                    replace hE := hE.trans (Lt_in k_6053)
                    refine lv_aload_n hx hb dX6_clause_234 rfl (lv_at hl 2 rfl) ?_
                    refine lv_iconst (v := 0) hx hb dX6_clause_235 (by decide +kernel) ?_
                    refine kci (S := Su) (wr := [(s1, .inl (K 0, 60, .inl (u_6051.2.1 0)))]) (va_runV (As := [.int 0]) (rest := []) ⟨hx, hb, hml, hown, hts⟩ (test_0 l D K g L G a0 0 t0 s0 lw v_5894 r_4 t1 ln (u_6043.2.2.2.1 0) (u_6043.2.2.2.1 1) (u_6043.2.2.2.1 2) (u_6043.2.2.2.1 3) fb s1 s2 (.int scl) v_5899 f_5900 H.size (by first | omega | decide) (by first | omega | decide) (by first | omega | decide) (by first | omega | decide) (by first | omega | decide) (by first | omega | decide) (by first | omega | decide) (by first | omega | decide) hf_5900_0) (cwV 1 hts gX6_clause_X6_test rfl rfl rfl (by decide +kernel) ⟨Nat.le_of_ble_eq_true rfl, Nat.le_of_ble_eq_true rfl⟩) (mkVY hK hN (hP.sub [1, 2, 3, 4, 0] rfl) (hD.sub [1, 2, 3, 4, 0] (by decide +kernel) rfl) (ci := 6) (q0 := 0) rfl rfl (fun U hU hW => ⟨Gl.at hG hS hW hU (fun q h => va_free hD hS hA [1, 2, 3, 4, 0] rfl q h), Pool.at hPl hS hU (fun q h => va_free hD hS hA [1, 2, 3, 4, 0] rfl q h), Ro.heap hU (Ro.nil)⟩)) rfl rfl hl.1 rfl (lv_room (Nat.le_of_ble_eq_true rfl)) dX6_clause_236 ⟨Nat.le_of_ble_eq_true rfl, Nat.le_of_ble_eq_true rfl⟩) hP hD hS hA [1, 2, 3, 4, 0] [5] rfl rfl (by decide +kernel) (by decide +kernel) (fun r_6054 u_6055 H locs hw hP0 hD0 hS0 => ?_)
                    clear hP hD hS
                    have hP := hP0
                    have hD := hD0
                    have hS := hS0
                    clear hP0 hD0 hS0
                    replace hP : va_P D vwCl [(s1, .inl (K 0, 60, .inl (u_6051.2.1 0))), (a0, .inr (6, [.ref t0, .ref s0, .int lw, .int (u_6055.2.2.2.1 0), r_4])), (t0, .inr (8, [.ref t1, .int ln, .int (u_6055.2.2.2.1 1), .int (u_6055.2.2.2.1 2), .int (u_6055.2.2.2.1 3), .int (u_6055.2.2.2.1 4)])), (t1, .inl (K 0, 400, .inl fb)), (s0, .inr (7, [.ref s1, .ref s2, .int scl, .int (u_6055.2.2.2.1 5)])), (s2, .inl (K 0, 800, .inl (u_6055.2.1 0)))] H := hP
                    replace hD : va_D A [(s1, .inl (K 0, 60, .inl (u_6051.2.1 0))), (a0, .inr (6, [.ref t0, .ref s0, .int lw, .int (u_6055.2.2.2.1 0), r_4])), (t0, .inr (8, [.ref t1, .int ln, .int (u_6055.2.2.2.1 1), .int (u_6055.2.2.2.1 2), .int (u_6055.2.2.2.1 3), .int (u_6055.2.2.2.1 4)])), (t1, .inl (K 0, 400, .inl fb)), (s0, .inr (7, [.ref s1, .ref s2, .int scl, .int (u_6055.2.2.2.1 5)])), (s2, .inl (K 0, 800, .inl (u_6055.2.1 0)))] := hD
                    obtain ⟨h_6063, k_6056, k_6057, k_6058, k_6059, k_6060, k_6061, k_6062, -⟩ := hw
                    replace hE := ((((((hE.trans (Lt2_in k_6062)).trans (Lt2_in rfl)).trans (Lt2_in rfl)).trans (Lt2_in rfl)).trans (Lt2_in rfl)).trans (Lt2_in rfl)).trans (Lt2_in rfl)
                    refine lv_istore (lv' := [(4, .int r_6054), (3, .int x_5787), (0, .ref a0), (1, .int x)]) hx hb dX6_clause_239 hl (by decide +kernel) rfl (fun ls hl => ?_)
                    refine lv_aload_n hx hb dX6_clause_241 rfl (lv_at hl 2 rfl) ?_
                    refine va_get (ci := 6) (v := .ref s0) (C := RX6) (T := TX6) (N := 5) hx hb hts hw6 hown hK hP 1 rfl rfl 1 (by decide +kernel) (hts _ mm_X6_clause_232) (fun _ h9 => h9) rfl dX6_clause_242 ?_
                    refine lv_iconst (v := 0) hx hb dX6_clause_245 (by decide +kernel) ?_
                    refine lv_iconst (v := 0) hx hb dX6_clause_246 (by decide +kernel) ?_
                    refine kci (S := Su) (wr := [(s1, .inl (K 0, 60, .inl (u_6051.2.1 0))), (a0, .inr (6, [.ref t0, .ref s0, .int lw, .int (u_6055.2.2.2.1 0), r_4])), (t0, .inr (8, [.ref t1, .int ln, .int (u_6055.2.2.2.1 1), .int (u_6055.2.2.2.1 2), .int (u_6055.2.2.2.1 3), .int (u_6055.2.2.2.1 4)])), (t1, .inl (K 0, 400, .inl fb))]) (va_runVN (As := [.int 0, .int 0]) (rest := []) ⟨hx, hb, hml, hown, hts⟩ (w_emit l D K s0 0 0 s1 s2 (.int scl) (u_6055.2.2.2.1 5) (u_6055.2.1 0) H.size (by first | omega | decide) (by first | omega | decide) (by first | omega | decide) k_6061) ⟨va_cnB 2 hts gX6_clause_X7_emit_n95 rfl rfl rfl (nst_at hN 36 rfl) (hts _ mm_X6_clause_148) (by decide +kernel) ⟨Nat.le_of_ble_eq_true rfl, Nat.le_of_ble_eq_true rfl⟩, (hts _ mm_X6_clause_539), (hts _ mm_X6_clause_29)⟩ (mkV hK hN (hP.sub [4, 5] rfl) (hD.sub [4, 5] (by decide +kernel) rfl) (ci := 7) (q0 := 0) rfl rfl) rfl rfl hl.1 rfl (lv_room (Nat.le_of_ble_eq_true rfl)) dX6_clause_247 ⟨Nat.le_of_ble_eq_true rfl, Nat.le_of_ble_eq_true rfl⟩) hP hD hS hA [4, 5] [0, 1, 2, 3] rfl rfl (by decide +kernel) (by decide +kernel) (fun r_6064 u_6065 H locs hw hP0 hD0 hS0 => ?_)
                    clear hP hD hS
                    have hP := hP0
                    have hD := hD0
                    have hS := hS0
                    clear hP0 hD0 hS0
                    replace hP : va_P D vwCl [(s1, .inl (K 0, 60, .inl (u_6051.2.1 0))), (a0, .inr (6, [.ref t0, .ref s0, .int lw, .int (u_6055.2.2.2.1 0), r_4])), (t0, .inr (8, [.ref t1, .int ln, .int (u_6055.2.2.2.1 1), .int (u_6055.2.2.2.1 2), .int (u_6055.2.2.2.1 3), .int (u_6055.2.2.2.1 4)])), (t1, .inl (K 0, 400, .inl fb)), (s0, .inr (7, [.ref s1, .ref s2, .int scl, .int (u_6065.2.2.2.1 0)])), (s2, .inl (K 0, 800, .inl (u_6065.2.1 0)))] H := hP
                    replace hD : va_D A [(s1, .inl (K 0, 60, .inl (u_6051.2.1 0))), (a0, .inr (6, [.ref t0, .ref s0, .int lw, .int (u_6055.2.2.2.1 0), r_4])), (t0, .inr (8, [.ref t1, .int ln, .int (u_6055.2.2.2.1 1), .int (u_6055.2.2.2.1 2), .int (u_6055.2.2.2.1 3), .int (u_6055.2.2.2.1 4)])), (t1, .inl (K 0, 400, .inl fb)), (s0, .inr (7, [.ref s1, .ref s2, .int scl, .int (u_6065.2.2.2.1 0)])), (s2, .inl (K 0, 800, .inl (u_6065.2.1 0)))] := hD
                    obtain ⟨h_6069, k_6066, k_6067, k_6068, -⟩ := hw
                    replace hE := (hE.trans (Lt2_in k_6068)).trans (Lt2_in rfl)
                    refine lv_pop hx hb dX6_clause_250 rfl ?_
                    refine lv_iload hx hb dX6_clause_251 (lv_at hl 0 rfl) ?_
                    rw [← hQ]
                    have hP9 := hP.sub (ws' := [(a0, .inr (6, [.ref t0, .ref s0, .int lw, .int (u_6055.2.2.2.1 0), r_4])), (t0, .inr (8, [.ref t1, .int ln, .int (u_6055.2.2.2.1 1), .int (u_6055.2.2.2.1 2), .int (u_6055.2.2.2.1 3), .int (u_6055.2.2.2.1 4)])), (t1, .inl (K 0, 400, .inl fb)), (s0, .inr (7, [.ref s1, .ref s2, .int scl, .int (u_6065.2.2.2.1 0)])), (s1, .inl (K 0, 60, .inl (u_6051.2.1 0))), (s2, .inl (K 0, 800, .inl (u_6065.2.1 0)))]) [1, 2, 3, 4, 0, 5] rfl
                    have hD9 := hD.sub (ws' := [(a0, .inr (6, [.ref t0, .ref s0, .int lw, .int (u_6055.2.2.2.1 0), r_4])), (t0, .inr (8, [.ref t1, .int ln, .int (u_6055.2.2.2.1 1), .int (u_6055.2.2.2.1 2), .int (u_6055.2.2.2.1 3), .int (u_6055.2.2.2.1 4)])), (t1, .inl (K 0, 400, .inl fb)), (s0, .inr (7, [.ref s1, .ref s2, .int scl, .int (u_6065.2.2.2.1 0)])), (s1, .inl (K 0, 60, .inl (u_6051.2.1 0))), (s2, .inl (K 0, 800, .inl (u_6065.2.1 0)))]) [1, 2, 3, 4, 0, 5] (by decide +kernel) rfl
                    exact W.zret (v := r_6054) hx hb hr (zb rfl (by omega)) (fun t ht hW => ⟨⟨r_6054, ((fun _ => 0, fun i => match i with | 0 => (u_6051.2.1 0) | _ => (u_6065.2.1 0), fun _ => fun _ => 0, fun i => match i with | 0 => (u_6055.2.2.2.1 0) | 1 => (u_6055.2.2.2.1 1) | 2 => (u_6055.2.2.2.1 2) | 3 => (u_6055.2.2.2.1 3) | 4 => (u_6055.2.2.2.1 4) | _ => (u_6065.2.2.2.1 0), fun _ => 0, fun _ => fun _ => none) : Su), rfl, ⟨(show 0 ≤ r_6054.toInt ∧ r_6054.toInt ≤ 1 by omega), (show 0 ≤ ((u_6055.2.2.2.1 0) : Int32).toInt ∧ ((u_6055.2.2.2.1 0) : Int32).toInt ≤ 50 by omega), (show 0 ≤ ((u_6055.2.2.2.1 1) : Int32).toInt ∧ ((u_6055.2.2.2.1 1) : Int32).toInt ≤ 400 by omega), (show 0 ≤ ((u_6055.2.2.2.1 2) : Int32).toInt ∧ ((u_6055.2.2.2.1 2) : Int32).toInt ≤ 400 by omega), (show (-1) ≤ ((u_6055.2.2.2.1 4) : Int32).toInt ∧ ((u_6055.2.2.2.1 4) : Int32).toInt ≤ 1000000 by omega), (show 0 ≤ ((u_6065.2.2.2.1 0) : Int32).toInt ∧ ((u_6065.2.2.2.1 0) : Int32).toInt ≤ 800 by omega), k_6052, k_6067, hE.symm, trivial⟩, (⟨by rw [ht]; exact hP9, hD9⟩ : Wd D A _ t)⟩, hS.F ht⟩) hS.2.2 dX6_clause_253
                  · have c_6049i := i_eq (x := r_6042.toInt) (y := 0) rfl rfl c_6049
                    replace hE := hE.trans (if_pos c_6049)
                    refine lv_iconst (v := 1) hx hb dX6_clause_216 (by decide +kernel) ?_
                    rw [← hQ]
                    have hP9 := hP.sub (ws' := [(a0, .inr (6, [.ref t0, .ref s0, .int lw, .int v_5894, r_4])), (t0, .inr (8, [.ref t1, .int ln, .int (u_6043.2.2.2.1 0), .int (u_6043.2.2.2.1 1), .int (u_6043.2.2.2.1 2), .int (u_6043.2.2.2.1 3)])), (t1, .inl (K 0, 400, .inl fb)), (s0, .inr (7, [.ref s1, .ref s2, .int scl, .int v_5899])), (s1, .inl (K 0, 60, .inl f_5901)), (s2, .inl (K 0, 800, .inl f_5900))]) [3, 4, 5, 1, 2, 0] rfl
                    have hD9 := hD.sub (ws' := [(a0, .inr (6, [.ref t0, .ref s0, .int lw, .int v_5894, r_4])), (t0, .inr (8, [.ref t1, .int ln, .int (u_6043.2.2.2.1 0), .int (u_6043.2.2.2.1 1), .int (u_6043.2.2.2.1 2), .int (u_6043.2.2.2.1 3)])), (t1, .inl (K 0, 400, .inl fb)), (s0, .inr (7, [.ref s1, .ref s2, .int scl, .int v_5899])), (s1, .inl (K 0, 60, .inl f_5901)), (s2, .inl (K 0, 800, .inl f_5900))]) [3, 4, 5, 1, 2, 0] (by decide +kernel) rfl
                    exact W.zret (v := 1) hx hb hr (by decide +kernel) (fun t ht hW => ⟨⟨1, ((fun _ => 0, fun i => match i with | 0 => f_5901 | _ => f_5900, fun _ => fun _ => 0, fun i => match i with | 0 => v_5894 | 1 => (u_6043.2.2.2.1 0) | 2 => (u_6043.2.2.2.1 1) | 3 => (u_6043.2.2.2.1 2) | 4 => (u_6043.2.2.2.1 3) | _ => v_5899, fun _ => 0, fun _ => fun _ => none) : Su), rfl, ⟨(show 0 ≤ (1 : Int32).toInt ∧ (1 : Int32).toInt ≤ 1 by decide), (show 0 ≤ (v_5894 : Int32).toInt ∧ (v_5894 : Int32).toInt ≤ 50 by omega), (show 0 ≤ ((u_6043.2.2.2.1 0) : Int32).toInt ∧ ((u_6043.2.2.2.1 0) : Int32).toInt ≤ 400 by omega), (show 0 ≤ ((u_6043.2.2.2.1 1) : Int32).toInt ∧ ((u_6043.2.2.2.1 1) : Int32).toInt ≤ 400 by omega), (show (-1) ≤ ((u_6043.2.2.2.1 3) : Int32).toInt ∧ ((u_6043.2.2.2.1 3) : Int32).toInt ≤ 1000000 by omega), (show 0 ≤ (v_5899 : Int32).toInt ∧ (v_5899 : Int32).toInt ≤ 800 by omega), hf_5901_0, hf_5900_0, hE.symm, trivial⟩, (⟨by rw [ht]; exact hP9, hD9⟩ : Wd D A _ t)⟩, hS.F ht⟩) hS.2.2 dX6_clause_217
                · have c_6041i := i_eq (x := lw.toInt) (y := 0) rfl rfl c_6041
                  exfalso; omega
              · have c_6011i := i_nle (x := x_5787.toInt) (y := v_5893.toInt) rfl rfl c_6011
                replace hE := hE.trans (if_neg c_6011)
                refine lv_iload hx hb dX6_clause_82 (lv_at hl 0 rfl) ?_
                refine lv_if_le (tgt := 98) hx hb dX6_clause_84 (by decide +kernel) (fun c_6094 => ?_) (fun c_6094 => ?_)
                · have c_6094i := i_le (x := v_5893.toInt) (y := 0) rfl rfl c_6094
                  replace hE := hE.trans (if_pos c_6094)
                  refine lv_aload_n hx hb dX6_clause_98 rfl (lv_at hl 2 rfl) ?_
                  refine va_get (ci := 6) (v := .ref s0) (C := RX6) (T := TX6) (N := 5) hx hb hts hw6 hown hK hP 0 rfl rfl 1 (by decide +kernel) (hts _ mm_X6_clause_232) (fun _ h9 => h9) rfl dX6_clause_99 ?_
                  refine lv_iload_n hx hb dX6_clause_102 rfl (lv_at hl 3 rfl) ?_
                  refine lv_iconst (v := 2) hx hb dX6_clause_103 (by decide +kernel) ?_
                  refine lv_iload hx hb dX6_clause_104 (lv_at hl 0 rfl) ?_
                  refine lv_iadd hx hb dX6_clause_106 ?_
                  refine lv_topi (fun x_6095 ex_6095 => ?_)
                  replace hE := hE.trans (Lt_in ex_6095)
                  have hx_6095 : x_6095.toInt = (2 + v_5893.toInt) := by rw [ex_6095]; exact i_add (show (2 : Int32).toInt = 2 from rfl) rfl (by omega)
                  refine lv_aload_n hx hb dX6_clause_107 rfl (lv_at hl 2 rfl) ?_
                  refine va_get (ci := 6) (v := .ref s0) (C := RX6) (T := TX6) (N := 5) hx hb hts hw6 hown hK hP 0 rfl rfl 1 (by decide +kernel) (hts _ mm_X6_clause_232) (fun _ h9 => h9) rfl dX6_clause_108 ?_
                  refine va_getN (ci := 7) (v := .int v_5899) (C := RX7) (T := TX7) (N := 4) hx hb hts hw7 hown hK hP 4 rfl rfl 3 (by decide +kernel) (nst_use hN 130 rfl) (fun _ h9 => h9) rfl dX6_clause_111 ?_
                  refine kcv (S := Su) (wr := [(a0, .inr (6, [.ref t0, .ref s0, .int lw, .int v_5894, r_4])), (s2, .inl (K 0, 800, .inl f_5900)), (t0, .inr (8, [.ref t1, .int ln, .int v_5895, .int v_5896, .int v_5897, .int v_5898])), (t1, .inl (K 0, 400, .inl fb))]) (va_runVN (As := [.int x, .int x_6095, .int v_5899]) (rest := []) ⟨hx, hb, hml, hown, hts⟩ (w_setHead l D K s0 x x_6095 v_5899 s1 (.ref s2) (.int scl) (.int v_5899) f_5901 H.size (by first | omega | decide) hf_5901_0) ⟨va_cnB 3 hts gX6_clause_X7_setHead_n88 rfl rfl rfl (nst_at hN 35 rfl) (hts _ mm_X6_clause_148) (by decide +kernel) ⟨Nat.le_of_ble_eq_true rfl, Nat.le_of_ble_eq_true rfl⟩, (hts _ mm_X6_clause_527), (hts _ mm_X6_clause_25)⟩ (mkV hK hN (hP.sub [4, 5] rfl) (hD.sub [4, 5] (by decide +kernel) rfl) (ci := 7) (q0 := 0) rfl rfl) rfl rfl hl.1 rfl (lv_room (Nat.le_of_ble_eq_true rfl)) dX6_clause_114 ⟨Nat.le_of_ble_eq_true rfl, Nat.le_of_ble_eq_true rfl⟩) hP hD hS hA [4, 5] [0, 1, 2, 3] rfl rfl (by decide +kernel) (by decide +kernel) (fun u_6097 H locs hw hP0 hD0 hS0 => ?_)
                  clear hP hD hS
                  have hP := hP0
                  have hD := hD0
                  have hS := hS0
                  clear hP0 hD0 hS0
                  replace hP : va_P D vwCl [(a0, .inr (6, [.ref t0, .ref s0, .int lw, .int v_5894, r_4])), (s2, .inl (K 0, 800, .inl f_5900)), (t0, .inr (8, [.ref t1, .int ln, .int v_5895, .int v_5896, .int v_5897, .int v_5898])), (t1, .inl (K 0, 400, .inl fb)), (s0, .inr (7, [.ref s1, .ref s2, .int scl, .int v_5899])), (s1, .inl (K 0, 60, .inl (u_6097.2.1 0)))] H := hP
                  replace hD : va_D A [(a0, .inr (6, [.ref t0, .ref s0, .int lw, .int v_5894, r_4])), (s2, .inl (K 0, 800, .inl f_5900)), (t0, .inr (8, [.ref t1, .int ln, .int v_5895, .int v_5896, .int v_5897, .int v_5898])), (t1, .inl (K 0, 400, .inl fb)), (s0, .inr (7, [.ref s1, .ref s2, .int scl, .int v_5899])), (s1, .inl (K 0, 60, .inl (u_6097.2.1 0)))] := hD
                  obtain ⟨k_6098, k_6099, -⟩ := hw
                  replace hE := hE.trans (Lt_in k_6099)
                  refine lv_aload_n hx hb dX6_clause_117 rfl (lv_at hl 2 rfl) ?_
                  refine lv_iconst (v := 0) hx hb dX6_clause_118 (by decide +kernel) ?_
                  refine kci (S := Su) (wr := [(s1, .inl (K 0, 60, .inl (u_6097.2.1 0)))]) (va_runV (As := [.int 0]) (rest := []) ⟨hx, hb, hml, hown, hts⟩ (sum_0 l D K g L G a0 0 t0 s0 lw v_5894 r_4 t1 ln v_5895 v_5896 v_5897 v_5898 fb s1 s2 (.int scl) v_5899 f_5900 H.size (by first | omega | decide) (by first | omega | decide) (by first | omega | decide) (by first | omega | decide) (by first | omega | decide) (by first | omega | decide) (by first | omega | decide) (by first | omega | decide) hf_5900_0) (cwV 1 hts gX6_clause_X6_sum rfl rfl rfl (by decide +kernel) ⟨Nat.le_of_ble_eq_true rfl, Nat.le_of_ble_eq_true rfl⟩) (mkVY hK hN (hP.sub [0, 2, 3, 4, 1] rfl) (hD.sub [0, 2, 3, 4, 1] (by decide +kernel) rfl) (ci := 6) (q0 := 0) rfl rfl (fun U hU hW => ⟨Gl.at hG hS hW hU (fun q h => va_free hD hS hA [0, 2, 3, 4, 1] rfl q h), Pool.at hPl hS hU (fun q h => va_free hD hS hA [0, 2, 3, 4, 1] rfl q h), Ro.heap hU (Ro.nil)⟩)) rfl rfl hl.1 rfl (lv_room (Nat.le_of_ble_eq_true rfl)) dX6_clause_119 ⟨Nat.le_of_ble_eq_true rfl, Nat.le_of_ble_eq_true rfl⟩) hP hD hS hA [0, 2, 3, 4, 1] [5] rfl rfl (by decide +kernel) (by decide +kernel) (fun r_6100 u_6101 H locs hw hP0 hD0 hS0 => ?_)
                  clear hP hD hS
                  have hP := hP0
                  have hD := hD0
                  have hS := hS0
                  clear hP0 hD0 hS0
                  replace hP : va_P D vwCl [(s1, .inl (K 0, 60, .inl (u_6097.2.1 0))), (a0, .inr (6, [.ref t0, .ref s0, .int lw, .int (u_6101.2.2.2.1 0), r_4])), (t0, .inr (8, [.ref t1, .int ln, .int (u_6101.2.2.2.1 1), .int (u_6101.2.2.2.1 2), .int (u_6101.2.2.2.1 3), .int (u_6101.2.2.2.1 4)])), (t1, .inl (K 0, 400, .inl fb)), (s0, .inr (7, [.ref s1, .ref s2, .int scl, .int (u_6101.2.2.2.1 5)])), (s2, .inl (K 0, 800, .inl (u_6101.2.1 0)))] H := hP
                  replace hD : va_D A [(s1, .inl (K 0, 60, .inl (u_6097.2.1 0))), (a0, .inr (6, [.ref t0, .ref s0, .int lw, .int (u_6101.2.2.2.1 0), r_4])), (t0, .inr (8, [.ref t1, .int ln, .int (u_6101.2.2.2.1 1), .int (u_6101.2.2.2.1 2), .int (u_6101.2.2.2.1 3), .int (u_6101.2.2.2.1 4)])), (t1, .inl (K 0, 400, .inl fb)), (s0, .inr (7, [.ref s1, .ref s2, .int scl, .int (u_6101.2.2.2.1 5)])), (s2, .inl (K 0, 800, .inl (u_6101.2.1 0)))] := hD
                  obtain ⟨h_6109, k_6102, k_6103, k_6104, k_6105, k_6106, k_6107, k_6108, -⟩ := hw
                  replace hE := ((((((hE.trans (Lt2_in k_6108)).trans (Lt2_in rfl)).trans (Lt2_in rfl)).trans (Lt2_in rfl)).trans (Lt2_in rfl)).trans (Lt2_in rfl)).trans (Lt2_in rfl)
                  refine lv_if_ne (tgt := 127) hx hb dX6_clause_122 (by decide +kernel) (fun c_6110 => ?_) (fun c_6110 => ?_)
                  · have c_6110i := i_ne (x := r_6100.toInt) (y := 0) rfl rfl c_6110
                    replace hE := hE.trans (if_neg c_6110)
                    refine lv_aload_n hx hb dX6_clause_127 rfl (lv_at hl 2 rfl) ?_
                    refine va_get (ci := 6) (v := .ref s0) (C := RX6) (T := TX6) (N := 5) hx hb hts hw6 hown hK hP 1 rfl rfl 1 (by decide +kernel) (hts _ mm_X6_clause_232) (fun _ h9 => h9) rfl dX6_clause_128 ?_
                    refine lv_iconst (v := 0) hx hb dX6_clause_131 (by decide +kernel) ?_
                    refine lv_iconst (v := 0) hx hb dX6_clause_132 (by decide +kernel) ?_
                    refine kci (S := Su) (wr := [(s1, .inl (K 0, 60, .inl (u_6097.2.1 0))), (a0, .inr (6, [.ref t0, .ref s0, .int lw, .int (u_6101.2.2.2.1 0), r_4])), (t0, .inr (8, [.ref t1, .int ln, .int (u_6101.2.2.2.1 1), .int (u_6101.2.2.2.1 2), .int (u_6101.2.2.2.1 3), .int (u_6101.2.2.2.1 4)])), (t1, .inl (K 0, 400, .inl fb))]) (va_runVN (As := [.int 0, .int 0]) (rest := []) ⟨hx, hb, hml, hown, hts⟩ (w_emit l D K s0 0 0 s1 s2 (.int scl) (u_6101.2.2.2.1 5) (u_6101.2.1 0) H.size (by first | omega | decide) (by first | omega | decide) (by first | omega | decide) k_6107) ⟨va_cnB 2 hts gX6_clause_X7_emit_n95 rfl rfl rfl (nst_at hN 36 rfl) (hts _ mm_X6_clause_148) (by decide +kernel) ⟨Nat.le_of_ble_eq_true rfl, Nat.le_of_ble_eq_true rfl⟩, (hts _ mm_X6_clause_539), (hts _ mm_X6_clause_29)⟩ (mkV hK hN (hP.sub [4, 5] rfl) (hD.sub [4, 5] (by decide +kernel) rfl) (ci := 7) (q0 := 0) rfl rfl) rfl rfl hl.1 rfl (lv_room (Nat.le_of_ble_eq_true rfl)) dX6_clause_133 ⟨Nat.le_of_ble_eq_true rfl, Nat.le_of_ble_eq_true rfl⟩) hP hD hS hA [4, 5] [0, 1, 2, 3] rfl rfl (by decide +kernel) (by decide +kernel) (fun r_6111 u_6112 H locs hw hP0 hD0 hS0 => ?_)
                    clear hP hD hS
                    have hP := hP0
                    have hD := hD0
                    have hS := hS0
                    clear hP0 hD0 hS0
                    replace hP : va_P D vwCl [(s1, .inl (K 0, 60, .inl (u_6097.2.1 0))), (a0, .inr (6, [.ref t0, .ref s0, .int lw, .int (u_6101.2.2.2.1 0), r_4])), (t0, .inr (8, [.ref t1, .int ln, .int (u_6101.2.2.2.1 1), .int (u_6101.2.2.2.1 2), .int (u_6101.2.2.2.1 3), .int (u_6101.2.2.2.1 4)])), (t1, .inl (K 0, 400, .inl fb)), (s0, .inr (7, [.ref s1, .ref s2, .int scl, .int (u_6112.2.2.2.1 0)])), (s2, .inl (K 0, 800, .inl (u_6112.2.1 0)))] H := hP
                    replace hD : va_D A [(s1, .inl (K 0, 60, .inl (u_6097.2.1 0))), (a0, .inr (6, [.ref t0, .ref s0, .int lw, .int (u_6101.2.2.2.1 0), r_4])), (t0, .inr (8, [.ref t1, .int ln, .int (u_6101.2.2.2.1 1), .int (u_6101.2.2.2.1 2), .int (u_6101.2.2.2.1 3), .int (u_6101.2.2.2.1 4)])), (t1, .inl (K 0, 400, .inl fb)), (s0, .inr (7, [.ref s1, .ref s2, .int scl, .int (u_6112.2.2.2.1 0)])), (s2, .inl (K 0, 800, .inl (u_6112.2.1 0)))] := hD
                    obtain ⟨h_6116, k_6113, k_6114, k_6115, -⟩ := hw
                    replace hE := (hE.trans (Lt2_in k_6115)).trans (Lt2_in rfl)
                    refine lv_pop hx hb dX6_clause_136 rfl ?_
                    obtain ⟨x_6117, ex_6117⟩ : ∃ y : Int32, y = v_5893 + Int32.ofInt 1 := ⟨_, rfl⟩
                    replace hE := hE.trans (Lt_in ex_6117)
                    have hx_6117 : x_6117.toInt = (v_5893.toInt + 1) := by rw [ex_6117]; exact i_add rfl (show (Int32.ofInt 1).toInt = 1 from rfl) (by omega)
                    refine lv_iinc (v := x_6117) (lv' := [(4, .int x_6117), (3, .int x_5787), (0, .ref a0), (1, .int x)]) hx hb dX6_clause_137 hl (k := 0) rfl (by rw [ex_6117]) (by decide +kernel) rfl (fun ls hl => ?_)
                    refine lv_goto (tgt := 76) hx hb dX6_clause_140 (by decide +kernel) ?_
                    exact ih_6010 x_6117 (u_6101.2.2.2.1 0) (u_6101.2.2.2.1 1) (u_6101.2.2.2.1 2) (u_6101.2.2.2.1 3) (u_6101.2.2.2.1 4) (u_6112.2.2.2.1 0) (u_6112.2.1 0) (u_6097.2.1 0) (by rw [hx_6117]; omega) (by omega) (by omega) (by omega) (by omega) (by omega) k_6114 k_6098 (by omega) (hE.trans (by rw [hrec_6009])) _ _ (hP.sub [1, 5, 2, 3, 4, 0] rfl) (hD.sub [1, 5, 2, 3, 4, 0] (by decide +kernel) rfl) hS ls (lv_sub hl [0, 1, 2, 3] rfl)
                  · have c_6110i := i_eq (x := r_6100.toInt) (y := 0) rfl rfl c_6110
                    replace hE := hE.trans (if_pos c_6110)
                    refine lv_iconst (v := 0) hx hb dX6_clause_125 (by decide +kernel) ?_
                    rw [← hQ]
                    have hP9 := hP.sub (ws' := [(a0, .inr (6, [.ref t0, .ref s0, .int lw, .int (u_6101.2.2.2.1 0), r_4])), (t0, .inr (8, [.ref t1, .int ln, .int (u_6101.2.2.2.1 1), .int (u_6101.2.2.2.1 2), .int (u_6101.2.2.2.1 3), .int (u_6101.2.2.2.1 4)])), (t1, .inl (K 0, 400, .inl fb)), (s0, .inr (7, [.ref s1, .ref s2, .int scl, .int (u_6101.2.2.2.1 5)])), (s1, .inl (K 0, 60, .inl (u_6097.2.1 0))), (s2, .inl (K 0, 800, .inl (u_6101.2.1 0)))]) [1, 2, 3, 4, 0, 5] rfl
                    have hD9 := hD.sub (ws' := [(a0, .inr (6, [.ref t0, .ref s0, .int lw, .int (u_6101.2.2.2.1 0), r_4])), (t0, .inr (8, [.ref t1, .int ln, .int (u_6101.2.2.2.1 1), .int (u_6101.2.2.2.1 2), .int (u_6101.2.2.2.1 3), .int (u_6101.2.2.2.1 4)])), (t1, .inl (K 0, 400, .inl fb)), (s0, .inr (7, [.ref s1, .ref s2, .int scl, .int (u_6101.2.2.2.1 5)])), (s1, .inl (K 0, 60, .inl (u_6097.2.1 0))), (s2, .inl (K 0, 800, .inl (u_6101.2.1 0)))]) [1, 2, 3, 4, 0, 5] (by decide +kernel) rfl
                    exact W.zret (v := 0) hx hb hr (by decide +kernel) (fun t ht hW => ⟨⟨0, ((fun _ => 0, fun i => match i with | 0 => (u_6097.2.1 0) | _ => (u_6101.2.1 0), fun _ => fun _ => 0, fun i => match i with | 0 => (u_6101.2.2.2.1 0) | 1 => (u_6101.2.2.2.1 1) | 2 => (u_6101.2.2.2.1 2) | 3 => (u_6101.2.2.2.1 3) | 4 => (u_6101.2.2.2.1 4) | _ => (u_6101.2.2.2.1 5), fun _ => 0, fun _ => fun _ => none) : Su), rfl, ⟨(show 0 ≤ (0 : Int32).toInt ∧ (0 : Int32).toInt ≤ 1 by decide), (show 0 ≤ ((u_6101.2.2.2.1 0) : Int32).toInt ∧ ((u_6101.2.2.2.1 0) : Int32).toInt ≤ 50 by omega), (show 0 ≤ ((u_6101.2.2.2.1 1) : Int32).toInt ∧ ((u_6101.2.2.2.1 1) : Int32).toInt ≤ 400 by omega), (show 0 ≤ ((u_6101.2.2.2.1 2) : Int32).toInt ∧ ((u_6101.2.2.2.1 2) : Int32).toInt ≤ 400 by omega), (show (-1) ≤ ((u_6101.2.2.2.1 4) : Int32).toInt ∧ ((u_6101.2.2.2.1 4) : Int32).toInt ≤ 1000000 by omega), (show 0 ≤ ((u_6101.2.2.2.1 5) : Int32).toInt ∧ ((u_6101.2.2.2.1 5) : Int32).toInt ≤ 800 by omega), k_6098, k_6107, hE.symm, trivial⟩, (⟨by rw [ht]; exact hP9, hD9⟩ : Wd D A _ t)⟩, hS.F ht⟩) hS.2.2 dX6_clause_126
                · have c_6094i := i_nle (x := v_5893.toInt) (y := 0) rfl rfl c_6094
                  exfalso; omega
          exact lp_6009 ((2 - (0 : Int32).toInt : Int).toNat + 1) 0 pa (u_5777.2.2.2.1 0) (u_5777.2.2.2.1 1) (u_5777.2.2.2.1 2) (u_5777.2.2.2.1 3) us fc (u_5783.2.1 0) (by decide +kernel) (by omega) (by omega) (by omega) (by omega) (by omega) zfc k_5784 (Nat.lt_succ_self _) hE _ _ hP hD hS ls (lv_sub hl [0, 1, 3, 4] rfl)
      · have c_5775i := i_nlt (x := r_5771.toInt) (y := 4) rfl rfl c_5775
        replace hE := hE.trans (if_neg c_5775)
        exact j_5108   hE _ _ hP hD hS ls (lv_sub hl [] rfl)
set_option maxRecDepth 100000 in
noncomputable def E_w_reads_j125 (v_1875 : Int32) (v_1876 : Int32) (v_1877 : Int32) (v_1878 : Int32) (v_1879 : Int32) (v_1880 : Int32) (v_1881 : Int32) (v_1882 : Int32) (f_1883 : Nat → Int32) (f_1884 : Nat → Int32) : Int32 × Int32 × Int32 × Int32 × Int32 × Int32 × Int32 × Int32 × Int32 × (Nat → Int32) × (Nat → Int32) :=
  if v_1875 = 0 then (((v_1875, v_1876, v_1879, v_1879, v_1880, v_1881, v_1882, v_1877, v_1878, f_1883, f_1884) : Int32 × Int32 × Int32 × Int32 × Int32 × Int32 × Int32 × Int32 × Int32 × (Nat → Int32) × (Nat → Int32))) else (((v_1875, v_1876, (-1), v_1879, v_1880, v_1881, v_1882, v_1877, v_1878, f_1883, f_1884) : Int32 × Int32 × Int32 × Int32 × Int32 × Int32 × Int32 × Int32 × Int32 × (Nat → Int32) × (Nat → Int32)))
set_option maxRecDepth 100000 in
noncomputable def E_w_reads_j112 (ln : Int32) (fb : Nat → Int32) (v_1654 : Int32) (rec_1834 : Int32 → Int32 → Int32 → Int32 → Int32 → Int32 → Int32 → Int32 → Int32 → (Nat → Int32) → (Nat → Int32) → (Int32 × Int32 × Int32 × Int32 × Int32 × Int32 × Int32 × Int32 × Int32 × (Nat → Int32) × (Nat → Int32))) (u_1891_2_2_2_1_0 : Int32) (u_1891_2_2_2_1_1 : Int32) (u_1891_2_2_2_1_2 : Int32) (u_1891_2_2_2_1_3 : Int32) (u_1891_2_2_2_1_4 : Int32) (u_1891_2_2_2_1_5 : Int32) (u_1891_2_1_0 : Nat → Int32) (u_1891_2_1_1 : Nat → Int32) (x_1902 : Int32) (v_1907 : Int32) : Int32 × Int32 × Int32 × Int32 × Int32 × Int32 × Int32 × Int32 × Int32 × (Nat → Int32) × (Nat → Int32) :=
  Lt2 (E_w_step ln u_1891_2_2_2_1_1 u_1891_2_2_2_1_2 u_1891_2_2_2_1_3 u_1891_2_2_2_1_4 fb) (fun u_1917_2_2_2_1_0 q0_u_1917_2_2_2_1_0 => Lt2 q0_u_1917_2_2_2_1_0 (fun u_1917_2_2_2_1_1 q1_u_1917_2_2_2_1_1 => Lt2 q1_u_1917_2_2_2_1_1 (fun u_1917_2_2_2_1_2 u_1917_2_2_2_1_3 => Lt (v_1654 + Int32.ofInt 1 : Int32) (fun x_1922 => rec_1834 x_1922 v_1907 u_1891_2_2_2_1_0 x_1902 u_1891_2_2_2_1_5 u_1917_2_2_2_1_0 u_1917_2_2_2_1_1 u_1917_2_2_2_1_2 u_1917_2_2_2_1_3 u_1891_2_1_0 u_1891_2_1_1))))
set_option maxRecDepth 100000 in
noncomputable def E_w_reads_l45 (x : Int32) (ln : Int32) (fb : Nat → Int32) (rec_1834 : Int32 → Int32 → Int32 → Int32 → Int32 → Int32 → Int32 → Int32 → Int32 → (Nat → Int32) → (Nat → Int32) → (Int32 × Int32 × Int32 × Int32 × Int32 × Int32 × Int32 × Int32 × Int32 × (Nat → Int32) × (Nat → Int32))) (v_1654 : Int32) (v_1655 : Int32) (v_1656 : Int32) (v_1657 : Int32) (v_1658 : Int32) (v_1659 : Int32) (v_1660 : Int32) (v_1661 : Int32) (v_1662 : Int32) (f_1663 : Nat → Int32) (f_1664 : Nat → Int32) : Int32 × Int32 × Int32 × Int32 × Int32 × Int32 × Int32 × Int32 × Int32 × (Nat → Int32) × (Nat → Int32) :=
  if 12 ≤ v_1654 then (E_w_reads_j125 v_1655 v_1656 v_1657 v_1658 v_1659 v_1660 v_1661 v_1662 f_1663 f_1664) else (if v_1655 = 0 then (Lt2 (E_w_clause v_1654 x v_1656 ln v_1659 v_1660 v_1661 v_1662 fb v_1657 v_1658 f_1663 f_1664) (fun r_1890 q0_r_1890 => Lt2 q0_r_1890 (fun u_1891_2_2_2_1_0 q1_u_1891_2_2_2_1_0 => Lt2 q1_u_1891_2_2_2_1_0 (fun u_1891_2_2_2_1_1 q2_u_1891_2_2_2_1_1 => Lt2 q2_u_1891_2_2_2_1_1 (fun u_1891_2_2_2_1_2 q3_u_1891_2_2_2_1_2 => Lt2 q3_u_1891_2_2_2_1_2 (fun u_1891_2_2_2_1_3 q4_u_1891_2_2_2_1_3 => Lt2 q4_u_1891_2_2_2_1_3 (fun u_1891_2_2_2_1_4 q5_u_1891_2_2_2_1_4 => Lt2 q5_u_1891_2_2_2_1_4 (fun u_1891_2_2_2_1_5 q6_u_1891_2_2_2_1_5 => Lt2 q6_u_1891_2_2_2_1_5 (fun u_1891_2_1_0 u_1891_2_1_1 => if r_1890 = 0 then (E_w_reads_j125 v_1655 u_1891_2_2_2_1_0 v_1657 u_1891_2_2_2_1_5 u_1891_2_2_2_1_1 u_1891_2_2_2_1_2 u_1891_2_2_2_1_3 u_1891_2_2_2_1_4 u_1891_2_1_0 u_1891_2_1_1) else (Lt (v_1654 + 1 : Int32) (fun x_1902 => if u_1891_2_2_2_1_3 = (-1) then (E_w_reads_j112 ln fb v_1654 rec_1834 u_1891_2_2_2_1_0 u_1891_2_2_2_1_1 u_1891_2_2_2_1_2 u_1891_2_2_2_1_3 u_1891_2_2_2_1_4 u_1891_2_2_2_1_5 u_1891_2_1_0 u_1891_2_1_1 x_1902 1) else (if u_1891_2_2_2_1_3 = 59 then (E_w_reads_j112 ln fb v_1654 rec_1834 u_1891_2_2_2_1_0 u_1891_2_2_2_1_1 u_1891_2_2_2_1_2 u_1891_2_2_2_1_3 u_1891_2_2_2_1_4 u_1891_2_2_2_1_5 u_1891_2_1_0 u_1891_2_1_1 x_1902 0) else (E_w_reads_j125 0 u_1891_2_2_2_1_0 x_1902 u_1891_2_2_2_1_5 u_1891_2_2_2_1_1 u_1891_2_2_2_1_2 u_1891_2_2_2_1_3 u_1891_2_2_2_1_4 u_1891_2_1_0 u_1891_2_1_1))))))))))))) else (E_w_reads_j125 v_1655 v_1656 v_1657 v_1658 v_1659 v_1660 v_1661 v_1662 f_1663 f_1664))
set_option maxRecDepth 100000 in
noncomputable def E_w_reads (x : Int32) (lw : Int32) (pa : Int32) (fl : Int32) (ln : Int32) (tf : Int32) (tt : Int32) (ti : Int32) (tu : Int32) (fb : Nat → Int32) (scl : Int32) (us : Int32) (fh : Nat → Int32) (fc : Nat → Int32) : Int32 × Int32 × Int32 × Int32 × Int32 × Int32 × Int32 × Int32 × Int32 × (Nat → Int32) × (Nat → Int32) :=
  Lt2 (E_w_step ln tf 0 ti tu fb) (fun u_1306_2_2_2_1_0 q0_u_1306_2_2_2_1_0 => Lt2 q0_u_1306_2_2_2_1_0 (fun u_1306_2_2_2_1_1 q1_u_1306_2_2_2_1_1 => Lt2 q1_u_1306_2_2_2_1_1 (fun u_1306_2_2_2_1_2 u_1306_2_2_2_1_3 => Lp (α := Int32 → Int32 → Int32 → Int32 → Int32 → Int32 → Int32 → Int32 → Int32 → (Nat → Int32) → (Nat → Int32) → (Int32 × Int32 × Int32 × Int32 × Int32 × Int32 × Int32 × Int32 × Int32 × (Nat → Int32) × (Nat → Int32))) (E_w_reads_l45 x ln fb) (fun _ _ _ _ _ _ _ _ _ _ _ => ((0, 0, 0, 0, 0, 0, 0, 0, 0, fun _ => 0, fun _ => 0) : Int32 × Int32 × Int32 × Int32 × Int32 × Int32 × Int32 × Int32 × Int32 × (Nat → Int32) × (Nat → Int32))) ((13 - (0 : Int32).toInt : Int).toNat + 1) 0 0 0 0 0 u_1306_2_2_2_1_0 u_1306_2_2_2_1_1 u_1306_2_2_2_1_2 u_1306_2_2_2_1_3 fh fc)))
set_option maxHeartbeats 4000000 in
set_option maxRecDepth 100000 in
theorem w_reads (l : Launch) (D : va_G) (K : Nat → ClassId) (g : Nat → Nat) (L : Nat → Prop) (G : Nat → LC) (a0 : Nat) (x : Int32) (t0 : Nat) (s0 : Nat) (lw : Int32) (pa : Int32) (fl : Int32) (t1 : Nat) (ln : Int32) (tf : Int32) (tt : Int32) (ti : Int32) (tu : Int32) (fb : Nat → Int32) (s1 : Nat) (s2 : Nat) (scl : Int32) (us : Int32) (fh : Nat → Int32) (fc : Nat → Int32) (sz : Nat) (zln : 0 ≤ ln.toInt ∧ ln.toInt ≤ 400) (ztf : 0 ≤ tf.toInt ∧ tf.toInt ≤ 400) (ztt : 0 ≤ tt.toInt ∧ tt.toInt ≤ 400) (ztu : (-1) ≤ tu.toInt ∧ tu.toInt ≤ 1000000) (zlw : 0 ≤ lw.toInt ∧ lw.toInt ≤ 1) (zpa : 0 ≤ pa.toInt ∧ pa.toInt ≤ 50) (zus : 0 ≤ us.toInt ∧ us.toInt ≤ 800) (zx : 0 ≤ x.toInt ∧ x.toInt ≤ 1) (zscl : 0 ≤ scl.toInt ∧ scl.toInt ≤ 12) (zfh : Rg 60 (-1) 1000 fh) (zfc : Rg 800 0 1000 fc) : Met l yX6_reads wsX6_reads ({ frames := 335, cells := 0, slots := 0, locals := 7419 }) (va_Pc [.ref a0, .int x] (PreY D K [(a0, .inr (6, [.ref t0, .ref s0, .int lw, .int pa, .int fl])), (t0, .inr (8, [.ref t1, .int ln, .int tf, .int tt, .int ti, .int tu])), (t1, .inl (K 0, 400, .inl fb)), (s0, .inr (7, [.ref s1, .ref s2, .int scl, .int us])), (s1, .inl (K 0, 60, .inl fh)), (s2, .inl (K 0, 800, .inl fc))] [] sz g L G (va_A [(a0, .inr (6, [.ref t0, .ref s0, .int lw, .int pa, .int fl])), (t0, .inr (8, [.ref t1, .int ln, .int tf, .int tt, .int ti, .int tu])), (t1, .inl (K 0, 400, .inl fb)), (s0, .inr (7, [.ref s1, .ref s2, .int scl, .int us])), (s1, .inl (K 0, 60, .inl fh)), (s2, .inl (K 0, 800, .inl fc))] sz))) (va_Qi (S := Su) (fun (r : Int32) (u : Su) => (0 ≤ r.toInt ∧ r.toInt ≤ 1) ∧ (0 ≤ (u.2.2.2.1 0).toInt ∧ (u.2.2.2.1 0).toInt ≤ 50) ∧ ((-1) ≤ (u.2.2.2.1 1).toInt ∧ (u.2.2.2.1 1).toInt ≤ 400) ∧ (0 ≤ (u.2.2.2.1 2).toInt ∧ (u.2.2.2.1 2).toInt ≤ 400) ∧ (0 ≤ (u.2.2.2.1 3).toInt ∧ (u.2.2.2.1 3).toInt ≤ 400) ∧ ((-1) ≤ (u.2.2.2.1 5).toInt ∧ (u.2.2.2.1 5).toInt ≤ 1000000) ∧ (0 ≤ (u.2.2.2.1 6).toInt ∧ (u.2.2.2.1 6).toInt ≤ 12) ∧ (0 ≤ (u.2.2.2.1 7).toInt ∧ (u.2.2.2.1 7).toInt ≤ 800) ∧ (Rg 60 (-1) 1000 (u.2.1 0)) ∧ (Rg 800 0 1000 (u.2.1 1)) ∧ ((r, (u.2.2.2.1 0), (u.2.2.2.1 1), (u.2.2.2.1 2), (u.2.2.2.1 3), (u.2.2.2.1 4), (u.2.2.2.1 5), (u.2.2.2.1 6), (u.2.2.2.1 7), (u.2.1 0), (u.2.1 1)) = E_w_reads x lw pa fl ln tf tt ti tu fb scl us fh fc) ∧ True) (fun u t => Wd D (va_A [(a0, .inr (6, [.ref t0, .ref s0, .int lw, .int pa, .int fl])), (t0, .inr (8, [.ref t1, .int ln, .int tf, .int tt, .int ti, .int tu])), (t1, .inl (K 0, 400, .inl fb)), (s0, .inr (7, [.ref s1, .ref s2, .int scl, .int us])), (s1, .inl (K 0, 60, .inl fh)), (s2, .inl (K 0, 800, .inl fc))] sz) ((fun u => [(a0, .inr (6, [.ref t0, .ref s0, .int x, .int (u.2.2.2.1 0), .int (u.2.2.2.1 1)])), (t0, .inr (8, [.ref t1, .int 0, .int (u.2.2.2.1 2), .int (u.2.2.2.1 3), .int (u.2.2.2.1 4), .int (u.2.2.2.1 5)])), (t1, .inl (K 0, 400, .inl fb)), (s0, .inr (7, [.ref s1, .ref s2, .int (u.2.2.2.1 6), .int (u.2.2.2.1 7)])), (s1, .inl (K 0, 60, .inl (u.2.1 0))), (s2, .inl (K 0, 800, .inl (u.2.1 1)))]) u) t) (va_A [(a0, .inr (6, [.ref t0, .ref s0, .int lw, .int pa, .int fl])), (t0, .inr (8, [.ref t1, .int ln, .int tf, .int tt, .int ti, .int tu])), (t1, .inl (K 0, 400, .inl fb)), (s0, .inr (7, [.ref s1, .ref s2, .int scl, .int us])), (s1, .inl (K 0, 60, .inl fh)), (s2, .inl (K 0, 800, .inl fc))] sz)) 0 0 (va_A [(a0, .inr (6, [.ref t0, .ref s0, .int lw, .int pa, .int fl])), (t0, .inr (8, [.ref t1, .int ln, .int tf, .int tt, .int ti, .int tu])), (t1, .inl (K 0, 400, .inl fb)), (s0, .inr (7, [.ref s1, .ref s2, .int scl, .int us])), (s1, .inl (K 0, 60, .inl fh)), (s2, .inl (K 0, 800, .inl fc))] sz) := by
  refine Met.ofW (cc := cX6_reads) (maxL := 4) (ret := (some .boolean)) (by decide +kernel) rfl ?_
  intro p e s m args below meth c s₁ B hml hv
  obtain ⟨rfl, ⟨hsz, hP, hK, hD0, hN⟩, hG, hPl, hRo⟩ := hv
  have hx := B.exec
  have hb := B.bytes
  have hr := B.returns
  have hts := atoms_spec (ws := wsX6_reads) B.pre
  have hown : s.vm.findClass RX6 = some m.cls := findClass_of_methodNamed B.named
  have hlocks := B.notSynchronized
  subst hsz
  have hD := hD0.self (sz := s.heap.size)
  generalize hAe : va_A [(a0, .inr (6, [.ref t0, .ref s0, .int lw, .int pa, .int fl])), (t0, .inr (8, [.ref t1, .int ln, .int tf, .int tt, .int ti, .int tu])), (t1, .inl (K 0, 400, .inl fb)), (s0, .inr (7, [.ref s1, .ref s2, .int scl, .int us])), (s1, .inl (K 0, 60, .inl fh)), (s2, .inl (K 0, 800, .inl fc))] s.heap.size = A at hD hG hPl hRo ⊢
  have hA : ∀ q : Nat, s.heap.size ≤ q → A q := fun q h => by rw [← hAe]; exact Or.inr h
  clear hAe
  have hS : va_S A s.heap s.heap [] := va_S.rf
  replace hP : va_P D vwCl [(a0, .inr (6, [.ref t0, .ref s0, .int lw, .int pa, .int fl])), (t0, .inr (8, [.ref t1, .int ln, .int tf, .int tt, .int ti, .int tu])), (t1, .inl (K 0, 400, .inl fb)), (s0, .inr (7, [.ref s1, .ref s2, .int scl, .int us])), (s1, .inl (K 0, 60, .inl fh)), (s2, .inl (K 0, 800, .inl fc))] s.heap := hP
  have hl := lv_entry [.ref a0, .int x] (n := 4) (Nat.le_of_ble_eq_true rfl)
  rw [lg_entry_eq]
  generalize (lg_sl [.ref a0, .int x] ++ List.replicate (4 - (lg_sl [.ref a0, .int x]).length) Slot.unset).toArray = ls at hl ⊢
  have hl : lv_has ls 4 [(0, .ref a0), (1, .int x)] := hl
  have hw6 : ∀ w ∈ wsX60, w ∈ wsX6_reads := fun w h => (List.mem_cons_of_mem _ (List.mem_append_left _ (List.mem_append_left _ (List.mem_append_right _ h))))
  have hw7 : ∀ w ∈ wsX70, w ∈ wsX6_reads := fun w h => (List.mem_cons_of_mem _ (List.mem_append_left _ (List.mem_append_right _ h)))
  have hw8 : ∀ w ∈ wsX80, w ∈ wsX6_reads := fun w h => (List.mem_cons_of_mem _ (List.mem_append_right _ h))
  generalize hQ : MQ below _ _ s _ _ _ = Q
  have hE := E_w_reads.eq_def x lw pa fl ln tf tt ti tu fb scl us fh fc
  refine lv_aload_n hx hb dX6_reads_0 rfl (lv_at hl 0 rfl) ?_
  refine lv_iload_n hx hb dX6_reads_1 rfl (lv_at hl 1 rfl) ?_
  refine va_put (ci := 6) (v := .int x) (ty := .boolean) (C := RX6) (T := TX6) (N := 5) hx hb hts hw6 tyX6 tyX6_ok nmX6 hown hK hP hD hS 0 rfl rfl 2 (by decide +kernel) (hts _ mm_X6_reads_233) (fun _ h9 => h9) rfl (by decide +kernel) (zb rfl (by omega)) (zb_f rfl (by omega)) (Nat.le_of_ble_eq_true rfl) dX6_reads_2 (fun H locs hP0 hD0 hS0 => ?_)
  clear hP hD hS
  have hP := hP0
  have hD := hD0
  have hS := hS0
  clear hP0 hD0 hS0
  replace hP : va_P D vwCl [(a0, .inr (6, [.ref t0, .ref s0, .int x, .int pa, .int fl])), (t0, .inr (8, [.ref t1, .int ln, .int tf, .int tt, .int ti, .int tu])), (t1, .inl (K 0, 400, .inl fb)), (s0, .inr (7, [.ref s1, .ref s2, .int scl, .int us])), (s1, .inl (K 0, 60, .inl fh)), (s2, .inl (K 0, 800, .inl fc))] H := hP
  replace hD : va_D A [(a0, .inr (6, [.ref t0, .ref s0, .int x, .int pa, .int fl])), (t0, .inr (8, [.ref t1, .int ln, .int tf, .int tt, .int ti, .int tu])), (t1, .inl (K 0, 400, .inl fb)), (s0, .inr (7, [.ref s1, .ref s2, .int scl, .int us])), (s1, .inl (K 0, 60, .inl fh)), (s2, .inl (K 0, 800, .inl fc))] := hD
  refine lv_aload_n hx hb dX6_reads_5 rfl (lv_at hl 0 rfl) ?_
  refine lv_iconst (v := 0) hx hb dX6_reads_6 (by decide +kernel) ?_
  refine va_put (ci := 6) (v := .int 0) (ty := .int) (C := RX6) (T := TX6) (N := 5) hx hb hts hw6 tyX6 tyX6_ok nmX6 hown hK hP hD hS 0 rfl rfl 3 (by decide +kernel) (hts _ mm_X6_reads_234) (fun _ h9 => h9) rfl (by decide +kernel) (by first | rfl | decide) (by first | rfl | decide) (Nat.le_of_ble_eq_true rfl) dX6_reads_7 (fun H locs hP0 hD0 hS0 => ?_)
  clear hP hD hS
  have hP := hP0
  have hD := hD0
  have hS := hS0
  clear hP0 hD0 hS0
  replace hP : va_P D vwCl [(a0, .inr (6, [.ref t0, .ref s0, .int x, .int 0, .int fl])), (t0, .inr (8, [.ref t1, .int ln, .int tf, .int tt, .int ti, .int tu])), (t1, .inl (K 0, 400, .inl fb)), (s0, .inr (7, [.ref s1, .ref s2, .int scl, .int us])), (s1, .inl (K 0, 60, .inl fh)), (s2, .inl (K 0, 800, .inl fc))] H := hP
  replace hD : va_D A [(a0, .inr (6, [.ref t0, .ref s0, .int x, .int 0, .int fl])), (t0, .inr (8, [.ref t1, .int ln, .int tf, .int tt, .int ti, .int tu])), (t1, .inl (K 0, 400, .inl fb)), (s0, .inr (7, [.ref s1, .ref s2, .int scl, .int us])), (s1, .inl (K 0, 60, .inl fh)), (s2, .inl (K 0, 800, .inl fc))] := hD
  refine lv_aload_n hx hb dX6_reads_10 rfl (lv_at hl 0 rfl) ?_
  refine va_get (ci := 6) (v := .ref s0) (C := RX6) (T := TX6) (N := 5) hx hb hts hw6 hown hK hP 0 rfl rfl 1 (by decide +kernel) (hts _ mm_X6_reads_232) (fun _ h9 => h9) rfl dX6_reads_11 ?_
  refine lv_iconst (v := 0) hx hb dX6_reads_14 (by decide +kernel) ?_
  refine va_putN (ci := 7) (v := .int 0) (ty := .int) (C := RX7) (T := TX7) (N := 4) hx hb hts hw7 tyX7 tyX7_ok nmX7 hown hK hP hD hS 3 rfl rfl 2 (by decide +kernel) (nst_use hN 127 rfl) (fun _ h9 => h9) rfl (by decide +kernel) (by first | rfl | decide) (by first | rfl | decide) (Nat.le_of_ble_eq_true rfl) dX6_reads_15 (fun H locs hP0 hD0 hS0 => ?_)
  clear hP hD hS
  have hP := hP0
  have hD := hD0
  have hS := hS0
  clear hP0 hD0 hS0
  replace hP : va_P D vwCl [(a0, .inr (6, [.ref t0, .ref s0, .int x, .int 0, .int fl])), (t0, .inr (8, [.ref t1, .int ln, .int tf, .int tt, .int ti, .int tu])), (t1, .inl (K 0, 400, .inl fb)), (s0, .inr (7, [.ref s1, .ref s2, .int 0, .int us])), (s1, .inl (K 0, 60, .inl fh)), (s2, .inl (K 0, 800, .inl fc))] H := hP
  replace hD : va_D A [(a0, .inr (6, [.ref t0, .ref s0, .int x, .int 0, .int fl])), (t0, .inr (8, [.ref t1, .int ln, .int tf, .int tt, .int ti, .int tu])), (t1, .inl (K 0, 400, .inl fb)), (s0, .inr (7, [.ref s1, .ref s2, .int 0, .int us])), (s1, .inl (K 0, 60, .inl fh)), (s2, .inl (K 0, 800, .inl fc))] := hD
  refine lv_aload_n hx hb dX6_reads_18 rfl (lv_at hl 0 rfl) ?_
  refine va_get (ci := 6) (v := .ref s0) (C := RX6) (T := TX6) (N := 5) hx hb hts hw6 hown hK hP 0 rfl rfl 1 (by decide +kernel) (hts _ mm_X6_reads_232) (fun _ h9 => h9) rfl dX6_reads_19 ?_
  refine lv_iconst (v := 0) hx hb dX6_reads_22 (by decide +kernel) ?_
  refine va_putN (ci := 7) (v := .int 0) (ty := .int) (C := RX7) (T := TX7) (N := 4) hx hb hts hw7 tyX7 tyX7_ok nmX7 hown hK hP hD hS 3 rfl rfl 3 (by decide +kernel) (nst_use hN 130 rfl) (fun _ h9 => h9) rfl (by decide +kernel) (by first | rfl | decide) (by first | rfl | decide) (Nat.le_of_ble_eq_true rfl) dX6_reads_23 (fun H locs hP0 hD0 hS0 => ?_)
  clear hP hD hS
  have hP := hP0
  have hD := hD0
  have hS := hS0
  clear hP0 hD0 hS0
  replace hP : va_P D vwCl [(a0, .inr (6, [.ref t0, .ref s0, .int x, .int 0, .int fl])), (t0, .inr (8, [.ref t1, .int ln, .int tf, .int tt, .int ti, .int tu])), (t1, .inl (K 0, 400, .inl fb)), (s0, .inr (7, [.ref s1, .ref s2, .int 0, .int 0])), (s1, .inl (K 0, 60, .inl fh)), (s2, .inl (K 0, 800, .inl fc))] H := hP
  replace hD : va_D A [(a0, .inr (6, [.ref t0, .ref s0, .int x, .int 0, .int fl])), (t0, .inr (8, [.ref t1, .int ln, .int tf, .int tt, .int ti, .int tu])), (t1, .inl (K 0, 400, .inl fb)), (s0, .inr (7, [.ref s1, .ref s2, .int 0, .int 0])), (s1, .inl (K 0, 60, .inl fh)), (s2, .inl (K 0, 800, .inl fc))] := hD
  refine lv_aload_n hx hb dX6_reads_26 rfl (lv_at hl 0 rfl) ?_
  refine va_get (ci := 6) (v := .ref t0) (C := RX6) (T := TX6) (N := 5) hx hb hts hw6 hown hK hP 0 rfl rfl 0 (by decide +kernel) (hts _ mm_X6_reads_231) (fun _ h9 => h9) rfl dX6_reads_27 ?_
  refine lv_iconst (v := 0) hx hb dX6_reads_30 (by decide +kernel) ?_
  refine va_putN (ci := 8) (v := .int 0) (ty := .int) (C := RX8) (T := TX8) (N := 6) hx hb hts hw8 tyX8 tyX8_ok nmX8 hown hK hP hD hS 1 rfl rfl 3 (by decide +kernel) (nst_use hN 122 rfl) (fun _ h9 => h9) rfl (by decide +kernel) (by first | rfl | decide) (by first | rfl | decide) (Nat.le_of_ble_eq_true rfl) dX6_reads_31 (fun H locs hP0 hD0 hS0 => ?_)
  clear hP hD hS
  have hP := hP0
  have hD := hD0
  have hS := hS0
  clear hP0 hD0 hS0
  replace hP : va_P D vwCl [(a0, .inr (6, [.ref t0, .ref s0, .int x, .int 0, .int fl])), (t0, .inr (8, [.ref t1, .int ln, .int tf, .int 0, .int ti, .int tu])), (t1, .inl (K 0, 400, .inl fb)), (s0, .inr (7, [.ref s1, .ref s2, .int 0, .int 0])), (s1, .inl (K 0, 60, .inl fh)), (s2, .inl (K 0, 800, .inl fc))] H := hP
  replace hD : va_D A [(a0, .inr (6, [.ref t0, .ref s0, .int x, .int 0, .int fl])), (t0, .inr (8, [.ref t1, .int ln, .int tf, .int 0, .int ti, .int tu])), (t1, .inl (K 0, 400, .inl fb)), (s0, .inr (7, [.ref s1, .ref s2, .int 0, .int 0])), (s1, .inl (K 0, 60, .inl fh)), (s2, .inl (K 0, 800, .inl fc))] := hD
  refine lv_aload_n hx hb dX6_reads_34 rfl (lv_at hl 0 rfl) ?_
  refine va_get (ci := 6) (v := .ref t0) (C := RX6) (T := TX6) (N := 5) hx hb hts hw6 hown hK hP 0 rfl rfl 0 (by decide +kernel) (hts _ mm_X6_reads_231) (fun _ h9 => h9) rfl dX6_reads_35 ?_
  refine kcv (S := Su) (wr := [(a0, .inr (6, [.ref t0, .ref s0, .int x, .int 0, .int fl])), (s0, .inr (7, [.ref s1, .ref s2, .int 0, .int 0])), (s1, .inl (K 0, 60, .inl fh)), (s2, .inl (K 0, 800, .inl fc))]) (va_runVN (As := []) (rest := []) ⟨hx, hb, hml, hown, hts⟩ (w_step l D K t0 t1 ln tf 0 ti tu fb H.size (by first | omega | decide) (by first | omega | decide)) ⟨va_cnB 0 hts gX6_reads_X8_step_n47 rfl rfl rfl (nst_at hN 32 rfl) (hts _ mm_X6_reads_147) (by decide +kernel) ⟨Nat.le_of_ble_eq_true rfl, Nat.le_of_ble_eq_true rfl⟩, (hts _ mm_X6_reads_471), (hts _ mm_X6_reads_21)⟩ (mkV hK hN (hP.sub [1, 2] rfl) (hD.sub [1, 2] (by decide +kernel) rfl) (ci := 8) (q0 := 0) rfl rfl) rfl rfl hl.1 rfl (lv_room (Nat.le_of_ble_eq_true rfl)) dX6_reads_38 ⟨Nat.le_of_ble_eq_true rfl, Nat.le_of_ble_eq_true rfl⟩) hP hD hS hA [1, 2] [0, 3, 4, 5] rfl rfl (by decide +kernel) (by decide +kernel) (fun u_1306 H locs hw hP0 hD0 hS0 => ?_)
  clear hP hD hS
  have hP := hP0
  have hD := hD0
  have hS := hS0
  clear hP0 hD0 hS0
  replace hP : va_P D vwCl [(a0, .inr (6, [.ref t0, .ref s0, .int x, .int 0, .int fl])), (s0, .inr (7, [.ref s1, .ref s2, .int 0, .int 0])), (s1, .inl (K 0, 60, .inl fh)), (s2, .inl (K 0, 800, .inl fc)), (t0, .inr (8, [.ref t1, .int ln, .int (u_1306.2.2.2.1 0), .int (u_1306.2.2.2.1 1), .int (u_1306.2.2.2.1 2), .int (u_1306.2.2.2.1 3)])), (t1, .inl (K 0, 400, .inl fb))] H := hP
  replace hD : va_D A [(a0, .inr (6, [.ref t0, .ref s0, .int x, .int 0, .int fl])), (s0, .inr (7, [.ref s1, .ref s2, .int 0, .int 0])), (s1, .inl (K 0, 60, .inl fh)), (s2, .inl (K 0, 800, .inl fc)), (t0, .inr (8, [.ref t1, .int ln, .int (u_1306.2.2.2.1 0), .int (u_1306.2.2.2.1 1), .int (u_1306.2.2.2.1 2), .int (u_1306.2.2.2.1 3)])), (t1, .inl (K 0, 400, .inl fb))] := hD
  obtain ⟨k_1307, k_1308, k_1309, k_1310, -⟩ := hw
  replace hE := ((hE.trans (Lt2_in k_1310)).trans (Lt2_in rfl)).trans (Lt2_in rfl)
  refine lv_iconst (v := 0) hx hb dX6_reads_41 (by decide +kernel) ?_
  refine lv_istore_n (lv' := [(2, .int 0), (0, .ref a0), (1, .int x)]) hx hb dX6_reads_42 rfl hl (by decide +kernel) rfl (fun ls hl => ?_)
  refine lv_iconst (v := 0) hx hb dX6_reads_43 (by decide +kernel) ?_
  refine lv_istore_n (lv' := [(3, .int 0), (2, .int 0), (0, .ref a0), (1, .int x)]) hx hb dX6_reads_44 rfl hl (by decide +kernel) rfl (fun ls hl => ?_)
  have lp_1834 : ∀ (nn_ : Nat) (v_1654 : Int32) (v_1655 : Int32) (v_1656 : Int32) (v_1657 : Int32) (v_1658 : Int32) (v_1659 : Int32) (v_1660 : Int32) (v_1661 : Int32) (v_1662 : Int32) (f_1663 : Nat → Int32) (f_1664 : Nat → Int32) (hv_1654 : 0 ≤ v_1654.toInt ∧ v_1654.toInt ≤ 12) (hv_1655 : 0 ≤ v_1655.toInt ∧ v_1655.toInt ≤ 1) (hv_1656 : 0 ≤ v_1656.toInt ∧ v_1656.toInt ≤ 50) (hv_1657 : 0 ≤ v_1657.toInt ∧ v_1657.toInt ≤ 12) (hv_1658 : 0 ≤ v_1658.toInt ∧ v_1658.toInt ≤ 800) (hv_1659 : 0 ≤ v_1659.toInt ∧ v_1659.toInt ≤ 400) (hv_1660 : 0 ≤ v_1660.toInt ∧ v_1660.toInt ≤ 400) (hv_1662 : (-1) ≤ v_1662.toInt ∧ v_1662.toInt ≤ 1000000) (hf_1663_0 : Rg 60 (-1) 1000 f_1663) (hf_1664_0 : Rg 800 0 1000 f_1664) (hn : (13 - v_1654.toInt : Int).toNat < nn_) (hE : E_w_reads x lw pa fl ln tf tt ti tu fb scl us fh fc = Lp (α := Int32 → Int32 → Int32 → Int32 → Int32 → Int32 → Int32 → Int32 → Int32 → (Nat → Int32) → (Nat → Int32) → (Int32 × Int32 × Int32 × Int32 × Int32 × Int32 × Int32 × Int32 × Int32 × (Nat → Int32) × (Nat → Int32))) (E_w_reads_l45 x ln fb) (fun _ _ _ _ _ _ _ _ _ _ _ => ((0, 0, 0, 0, 0, 0, 0, 0, 0, fun _ => 0, fun _ => 0) : Int32 × Int32 × Int32 × Int32 × Int32 × Int32 × Int32 × Int32 × Int32 × (Nat → Int32) × (Nat → Int32))) nn_ v_1654 v_1655 v_1656 v_1657 v_1658 v_1659 v_1660 v_1661 v_1662 f_1663 f_1664) (H : Heap) (locs : List Loc) (hP : va_P D vwCl [(a0, .inr (6, [.ref t0, .ref s0, .int x, .int v_1656, .int fl])), (s0, .inr (7, [.ref s1, .ref s2, .int v_1657, .int v_1658])), (s1, .inl (K 0, 60, .inl f_1663)), (s2, .inl (K 0, 800, .inl f_1664)), (t0, .inr (8, [.ref t1, .int ln, .int v_1659, .int v_1660, .int v_1661, .int v_1662])), (t1, .inl (K 0, 400, .inl fb))] H) (hD : va_D A [(a0, .inr (6, [.ref t0, .ref s0, .int x, .int v_1656, .int fl])), (s0, .inr (7, [.ref s1, .ref s2, .int v_1657, .int v_1658])), (s1, .inl (K 0, 60, .inl f_1663)), (s2, .inl (K 0, 800, .inl f_1664)), (t0, .inr (8, [.ref t1, .int ln, .int v_1659, .int v_1660, .int v_1661, .int v_1662])), (t1, .inl (K 0, 400, .inl fb))]) (hS : va_S A s.heap H locs) (ls : Array Slot) (hl : lv_has ls 4 [(3, .int v_1654), (2, .int v_1655), (0, .ref a0)]), W p l e ({ frames := 335, cells := 0, slots := 0, locals := 7419 }) s m (([.ref a0, .int x] : List Value).toArray) below meth c H locs 0 0 Q (F0 m 45 ls []) := by
    clear hE hP hD hS hl
    intro nn_
    induction nn_ with
    | zero =>
      intro v_1654 v_1655 v_1656 v_1657 v_1658 v_1659 v_1660 v_1661 v_1662 f_1663 f_1664 hv_1654 hv_1655 hv_1656 hv_1657 hv_1658 hv_1659 hv_1660 hv_1662 hf_1663_0 hf_1664_0 hn hE H locs hP hD hS ls hl
      exact absurd hn (Nat.not_lt_zero _)
    | succ nn_ ih_1835 =>
      intro v_1654 v_1655 v_1656 v_1657 v_1658 v_1659 v_1660 v_1661 v_1662 f_1663 f_1664 hv_1654 hv_1655 hv_1656 hv_1657 hv_1658 hv_1659 hv_1660 hv_1662 hf_1663_0 hf_1664_0 hn hE H locs hP hD hS ls hl
      replace hE : E_w_reads x lw pa fl ln tf tt ti tu fb scl us fh fc = E_w_reads_l45 x ln fb (Lp (α := Int32 → Int32 → Int32 → Int32 → Int32 → Int32 → Int32 → Int32 → Int32 → (Nat → Int32) → (Nat → Int32) → (Int32 × Int32 × Int32 × Int32 × Int32 × Int32 × Int32 × Int32 × Int32 × (Nat → Int32) × (Nat → Int32))) (E_w_reads_l45 x ln fb) (fun _ _ _ _ _ _ _ _ _ _ _ => ((0, 0, 0, 0, 0, 0, 0, 0, 0, fun _ => 0, fun _ => 0) : Int32 × Int32 × Int32 × Int32 × Int32 × Int32 × Int32 × Int32 × Int32 × (Nat → Int32) × (Nat → Int32))) nn_) v_1654 v_1655 v_1656 v_1657 v_1658 v_1659 v_1660 v_1661 v_1662 f_1663 f_1664 := hE
      obtain ⟨rec_1834, hrec_1834⟩ : ∃ z9, z9 = Lp (α := Int32 → Int32 → Int32 → Int32 → Int32 → Int32 → Int32 → Int32 → Int32 → (Nat → Int32) → (Nat → Int32) → (Int32 × Int32 × Int32 × Int32 × Int32 × Int32 × Int32 × Int32 × Int32 × (Nat → Int32) × (Nat → Int32))) (E_w_reads_l45 x ln fb) (fun _ _ _ _ _ _ _ _ _ _ _ => ((0, 0, 0, 0, 0, 0, 0, 0, 0, fun _ => 0, fun _ => 0) : Int32 × Int32 × Int32 × Int32 × Int32 × Int32 × Int32 × Int32 × Int32 × (Nat → Int32) × (Nat → Int32))) nn_ := ⟨_, rfl⟩
      rw [← hrec_1834] at hE
      replace hE := hE.trans (E_w_reads_l45.eq_def _ _ _ _ _ _ _ _ _ _ _ _ _ _ _)
      refine lv_iload_n hx hb dX6_reads_45 rfl (lv_at hl 0 rfl) ?_
      refine lv_bipush (v := 12) hx hb dX6_reads_46 (by decide +kernel) ?_
      have j_1886 : ∀ (v_1875 : Int32) (v_1876 : Int32) (v_1877 : Int32) (v_1878 : Int32) (v_1879 : Int32) (v_1880 : Int32) (v_1881 : Int32) (v_1882 : Int32) (f_1883 : Nat → Int32) (f_1884 : Nat → Int32) (hv_1875 : 0 ≤ v_1875.toInt ∧ v_1875.toInt ≤ 1) (hv_1876 : 0 ≤ v_1876.toInt ∧ v_1876.toInt ≤ 50) (hv_1877 : 0 ≤ v_1877.toInt ∧ v_1877.toInt ≤ 12) (hv_1878 : 0 ≤ v_1878.toInt ∧ v_1878.toInt ≤ 800) (hv_1879 : 0 ≤ v_1879.toInt ∧ v_1879.toInt ≤ 400) (hv_1880 : 0 ≤ v_1880.toInt ∧ v_1880.toInt ≤ 400) (hv_1882 : (-1) ≤ v_1882.toInt ∧ v_1882.toInt ≤ 1000000) (hf_1883_0 : Rg 60 (-1) 1000 f_1883) (hf_1884_0 : Rg 800 0 1000 f_1884) (hE : E_w_reads x lw pa fl ln tf tt ti tu fb scl us fh fc = E_w_reads_j125 v_1875 v_1876 v_1877 v_1878 v_1879 v_1880 v_1881 v_1882 f_1883 f_1884) (H : Heap) (locs : List Loc) (hP : va_P D vwCl [(a0, .inr (6, [.ref t0, .ref s0, .int x, .int v_1876, .int fl])), (s0, .inr (7, [.ref s1, .ref s2, .int v_1877, .int v_1878])), (s1, .inl (K 0, 60, .inl f_1883)), (s2, .inl (K 0, 800, .inl f_1884)), (t0, .inr (8, [.ref t1, .int ln, .int v_1879, .int v_1880, .int v_1881, .int v_1882])), (t1, .inl (K 0, 400, .inl fb))] H) (hD : va_D A [(a0, .inr (6, [.ref t0, .ref s0, .int x, .int v_1876, .int fl])), (s0, .inr (7, [.ref s1, .ref s2, .int v_1877, .int v_1878])), (s1, .inl (K 0, 60, .inl f_1883)), (s2, .inl (K 0, 800, .inl f_1884)), (t0, .inr (8, [.ref t1, .int ln, .int v_1879, .int v_1880, .int v_1881, .int v_1882])), (t1, .inl (K 0, 400, .inl fb))]) (hS : va_S A s.heap H locs) (ls : Array Slot) (hl : lv_has ls 4 [(2, .int v_1875), (0, .ref a0)]), W p l e ({ frames := 335, cells := 0, slots := 0, locals := 7419 }) s m (([.ref a0, .int x] : List Value).toArray) below meth c H locs 0 0 Q (F0 m 125 ls []) := by
        clear hE hP hD hS hl
        intro v_1875 v_1876 v_1877 v_1878 v_1879 v_1880 v_1881 v_1882 f_1883 f_1884 hv_1875 hv_1876 hv_1877 hv_1878 hv_1879 hv_1880 hv_1882 hf_1883_0 hf_1884_0 hE H locs hP hD hS ls hl
        replace hE := hE.trans (E_w_reads_j125.eq_def _ _ _ _ _ _ _ _ _ _)
        refine lv_aload_n hx hb dX6_reads_125 rfl (lv_at hl 1 rfl) ?_
        refine lv_iload_n hx hb dX6_reads_126 rfl (lv_at hl 0 rfl) ?_
        refine lv_if_eq (tgt := 134) hx hb dX6_reads_127 (by decide +kernel) (fun c_1887 => ?_) (fun c_1887 => ?_)
        · have c_1887i := i_eq (x := v_1875.toInt) (y := 0) rfl rfl c_1887
          replace hE := hE.trans (if_pos c_1887)
          refine lv_aload_n hx hb dX6_reads_134 rfl (lv_at hl 1 rfl) ?_
          refine va_get (ci := 6) (v := .ref t0) (C := RX6) (T := TX6) (N := 5) hx hb hts hw6 hown hK hP 0 rfl rfl 0 (by decide +kernel) (hts _ mm_X6_reads_231) (fun _ h9 => h9) rfl dX6_reads_135 ?_
          refine va_getN (ci := 8) (v := .int v_1879) (C := RX8) (T := TX8) (N := 6) hx hb hts hw8 hown hK hP 4 rfl rfl 2 (by decide +kernel) (nst_use hN 121 rfl) (fun _ h9 => h9) rfl dX6_reads_138 ?_
          refine va_put (ci := 6) (v := .int v_1879) (ty := .int) (C := RX6) (T := TX6) (N := 5) hx hb hts hw6 tyX6 tyX6_ok nmX6 hown hK hP hD hS 0 rfl rfl 4 (by decide +kernel) (hts _ mm_X6_reads_235) (fun _ h9 => h9) rfl (by decide +kernel) (by first | rfl | decide) (by first | rfl | decide) (Nat.le_of_ble_eq_true rfl) dX6_reads_141 (fun H locs hP0 hD0 hS0 => ?_)
          clear hP hD hS
          have hP := hP0
          have hD := hD0
          have hS := hS0
          clear hP0 hD0 hS0
          replace hP : va_P D vwCl [(a0, .inr (6, [.ref t0, .ref s0, .int x, .int v_1876, .int v_1879])), (s0, .inr (7, [.ref s1, .ref s2, .int v_1877, .int v_1878])), (s1, .inl (K 0, 60, .inl f_1883)), (s2, .inl (K 0, 800, .inl f_1884)), (t0, .inr (8, [.ref t1, .int ln, .int v_1879, .int v_1880, .int v_1881, .int v_1882])), (t1, .inl (K 0, 400, .inl fb))] H := hP
          replace hD : va_D A [(a0, .inr (6, [.ref t0, .ref s0, .int x, .int v_1876, .int v_1879])), (s0, .inr (7, [.ref s1, .ref s2, .int v_1877, .int v_1878])), (s1, .inl (K 0, 60, .inl f_1883)), (s2, .inl (K 0, 800, .inl f_1884)), (t0, .inr (8, [.ref t1, .int ln, .int v_1879, .int v_1880, .int v_1881, .int v_1882])), (t1, .inl (K 0, 400, .inl fb))] := hD
          refine lv_aload_n hx hb dX6_reads_144 rfl (lv_at hl 1 rfl) ?_
          refine va_get (ci := 6) (v := .ref t0) (C := RX6) (T := TX6) (N := 5) hx hb hts hw6 hown hK hP 0 rfl rfl 0 (by decide +kernel) (hts _ mm_X6_reads_231) (fun _ h9 => h9) rfl dX6_reads_145 ?_
          refine lv_iconst (v := 0) hx hb dX6_reads_148 (by decide +kernel) ?_
          refine va_putN (ci := 8) (v := .int 0) (ty := .int) (C := RX8) (T := TX8) (N := 6) hx hb hts hw8 tyX8 tyX8_ok nmX8 hown hK hP hD hS 4 rfl rfl 1 (by decide +kernel) (nst_use hN 119 rfl) (fun _ h9 => h9) rfl (by decide +kernel) (by first | rfl | decide) (by first | rfl | decide) (Nat.le_of_ble_eq_true rfl) dX6_reads_149 (fun H locs hP0 hD0 hS0 => ?_)
          clear hP hD hS
          have hP := hP0
          have hD := hD0
          have hS := hS0
          clear hP0 hD0 hS0
          replace hP : va_P D vwCl [(a0, .inr (6, [.ref t0, .ref s0, .int x, .int v_1876, .int v_1879])), (s0, .inr (7, [.ref s1, .ref s2, .int v_1877, .int v_1878])), (s1, .inl (K 0, 60, .inl f_1883)), (s2, .inl (K 0, 800, .inl f_1884)), (t0, .inr (8, [.ref t1, .int 0, .int v_1879, .int v_1880, .int v_1881, .int v_1882])), (t1, .inl (K 0, 400, .inl fb))] H := hP
          replace hD : va_D A [(a0, .inr (6, [.ref t0, .ref s0, .int x, .int v_1876, .int v_1879])), (s0, .inr (7, [.ref s1, .ref s2, .int v_1877, .int v_1878])), (s1, .inl (K 0, 60, .inl f_1883)), (s2, .inl (K 0, 800, .inl f_1884)), (t0, .inr (8, [.ref t1, .int 0, .int v_1879, .int v_1880, .int v_1881, .int v_1882])), (t1, .inl (K 0, 400, .inl fb))] := hD
          refine lv_iload_n hx hb dX6_reads_152 rfl (lv_at hl 0 rfl) ?_
          rw [← hQ]
          have hP9 := hP.sub (ws' := [(a0, .inr (6, [.ref t0, .ref s0, .int x, .int v_1876, .int v_1879])), (t0, .inr (8, [.ref t1, .int 0, .int v_1879, .int v_1880, .int v_1881, .int v_1882])), (t1, .inl (K 0, 400, .inl fb)), (s0, .inr (7, [.ref s1, .ref s2, .int v_1877, .int v_1878])), (s1, .inl (K 0, 60, .inl f_1883)), (s2, .inl (K 0, 800, .inl f_1884))]) [0, 4, 5, 1, 2, 3] rfl
          have hD9 := hD.sub (ws' := [(a0, .inr (6, [.ref t0, .ref s0, .int x, .int v_1876, .int v_1879])), (t0, .inr (8, [.ref t1, .int 0, .int v_1879, .int v_1880, .int v_1881, .int v_1882])), (t1, .inl (K 0, 400, .inl fb)), (s0, .inr (7, [.ref s1, .ref s2, .int v_1877, .int v_1878])), (s1, .inl (K 0, 60, .inl f_1883)), (s2, .inl (K 0, 800, .inl f_1884))]) [0, 4, 5, 1, 2, 3] (by decide +kernel) rfl
          exact W.zret (v := v_1875) hx hb hr (zb rfl (by omega)) (fun t ht hW => ⟨⟨v_1875, ((fun _ => 0, fun i => match i with | 0 => f_1883 | _ => f_1884, fun _ => fun _ => 0, fun i => ([v_1876, v_1879, v_1879, v_1880, v_1881, v_1882, v_1877, v_1878] : List _).getD i (0), fun _ => 0, fun _ => fun _ => none) : Su), rfl, ⟨(show 0 ≤ v_1875.toInt ∧ v_1875.toInt ≤ 1 by omega), (show 0 ≤ (v_1876 : Int32).toInt ∧ (v_1876 : Int32).toInt ≤ 50 by omega), (show (-1) ≤ (v_1879 : Int32).toInt ∧ (v_1879 : Int32).toInt ≤ 400 by omega), (show 0 ≤ (v_1879 : Int32).toInt ∧ (v_1879 : Int32).toInt ≤ 400 by omega), (show 0 ≤ (v_1880 : Int32).toInt ∧ (v_1880 : Int32).toInt ≤ 400 by omega), (show (-1) ≤ (v_1882 : Int32).toInt ∧ (v_1882 : Int32).toInt ≤ 1000000 by omega), (show 0 ≤ (v_1877 : Int32).toInt ∧ (v_1877 : Int32).toInt ≤ 12 by omega), (show 0 ≤ (v_1878 : Int32).toInt ∧ (v_1878 : Int32).toInt ≤ 800 by omega), hf_1883_0, hf_1884_0, hE.symm, trivial⟩, (⟨by rw [ht]; exact hP9, hD9⟩ : Wd D A _ t)⟩, hS.F ht⟩) hS.2.2 dX6_reads_153
        · have c_1887i := i_ne (x := v_1875.toInt) (y := 0) rfl rfl c_1887
          replace hE := hE.trans (if_neg c_1887)
          refine lv_iconst (v := (-1)) hx hb dX6_reads_130 (by decide +kernel) ?_
          refine lv_goto (tgt := 141) hx hb dX6_reads_131 (by decide +kernel) ?_
          refine va_put (ci := 6) (v := .int (-1)) (ty := .int) (C := RX6) (T := TX6) (N := 5) hx hb hts hw6 tyX6 tyX6_ok nmX6 hown hK hP hD hS 0 rfl rfl 4 (by decide +kernel) (hts _ mm_X6_reads_235) (fun _ h9 => h9) rfl (by decide +kernel) (by first | rfl | decide) (by first | rfl | decide) (Nat.le_of_ble_eq_true rfl) dX6_reads_141 (fun H locs hP0 hD0 hS0 => ?_)
          clear hP hD hS
          have hP := hP0
          have hD := hD0
          have hS := hS0
          clear hP0 hD0 hS0
          replace hP : va_P D vwCl [(a0, .inr (6, [.ref t0, .ref s0, .int x, .int v_1876, .int (-1)])), (s0, .inr (7, [.ref s1, .ref s2, .int v_1877, .int v_1878])), (s1, .inl (K 0, 60, .inl f_1883)), (s2, .inl (K 0, 800, .inl f_1884)), (t0, .inr (8, [.ref t1, .int ln, .int v_1879, .int v_1880, .int v_1881, .int v_1882])), (t1, .inl (K 0, 400, .inl fb))] H := hP
          replace hD : va_D A [(a0, .inr (6, [.ref t0, .ref s0, .int x, .int v_1876, .int (-1)])), (s0, .inr (7, [.ref s1, .ref s2, .int v_1877, .int v_1878])), (s1, .inl (K 0, 60, .inl f_1883)), (s2, .inl (K 0, 800, .inl f_1884)), (t0, .inr (8, [.ref t1, .int ln, .int v_1879, .int v_1880, .int v_1881, .int v_1882])), (t1, .inl (K 0, 400, .inl fb))] := hD
          refine lv_aload_n hx hb dX6_reads_144 rfl (lv_at hl 1 rfl) ?_
          refine va_get (ci := 6) (v := .ref t0) (C := RX6) (T := TX6) (N := 5) hx hb hts hw6 hown hK hP 0 rfl rfl 0 (by decide +kernel) (hts _ mm_X6_reads_231) (fun _ h9 => h9) rfl dX6_reads_145 ?_
          refine lv_iconst (v := 0) hx hb dX6_reads_148 (by decide +kernel) ?_
          refine va_putN (ci := 8) (v := .int 0) (ty := .int) (C := RX8) (T := TX8) (N := 6) hx hb hts hw8 tyX8 tyX8_ok nmX8 hown hK hP hD hS 4 rfl rfl 1 (by decide +kernel) (nst_use hN 119 rfl) (fun _ h9 => h9) rfl (by decide +kernel) (by first | rfl | decide) (by first | rfl | decide) (Nat.le_of_ble_eq_true rfl) dX6_reads_149 (fun H locs hP0 hD0 hS0 => ?_)
          clear hP hD hS
          have hP := hP0
          have hD := hD0
          have hS := hS0
          clear hP0 hD0 hS0
          replace hP : va_P D vwCl [(a0, .inr (6, [.ref t0, .ref s0, .int x, .int v_1876, .int (-1)])), (s0, .inr (7, [.ref s1, .ref s2, .int v_1877, .int v_1878])), (s1, .inl (K 0, 60, .inl f_1883)), (s2, .inl (K 0, 800, .inl f_1884)), (t0, .inr (8, [.ref t1, .int 0, .int v_1879, .int v_1880, .int v_1881, .int v_1882])), (t1, .inl (K 0, 400, .inl fb))] H := hP
          replace hD : va_D A [(a0, .inr (6, [.ref t0, .ref s0, .int x, .int v_1876, .int (-1)])), (s0, .inr (7, [.ref s1, .ref s2, .int v_1877, .int v_1878])), (s1, .inl (K 0, 60, .inl f_1883)), (s2, .inl (K 0, 800, .inl f_1884)), (t0, .inr (8, [.ref t1, .int 0, .int v_1879, .int v_1880, .int v_1881, .int v_1882])), (t1, .inl (K 0, 400, .inl fb))] := hD
          refine lv_iload_n hx hb dX6_reads_152 rfl (lv_at hl 0 rfl) ?_
          rw [← hQ]
          have hP9 := hP.sub (ws' := [(a0, .inr (6, [.ref t0, .ref s0, .int x, .int v_1876, .int (-1)])), (t0, .inr (8, [.ref t1, .int 0, .int v_1879, .int v_1880, .int v_1881, .int v_1882])), (t1, .inl (K 0, 400, .inl fb)), (s0, .inr (7, [.ref s1, .ref s2, .int v_1877, .int v_1878])), (s1, .inl (K 0, 60, .inl f_1883)), (s2, .inl (K 0, 800, .inl f_1884))]) [0, 4, 5, 1, 2, 3] rfl
          have hD9 := hD.sub (ws' := [(a0, .inr (6, [.ref t0, .ref s0, .int x, .int v_1876, .int (-1)])), (t0, .inr (8, [.ref t1, .int 0, .int v_1879, .int v_1880, .int v_1881, .int v_1882])), (t1, .inl (K 0, 400, .inl fb)), (s0, .inr (7, [.ref s1, .ref s2, .int v_1877, .int v_1878])), (s1, .inl (K 0, 60, .inl f_1883)), (s2, .inl (K 0, 800, .inl f_1884))]) [0, 4, 5, 1, 2, 3] (by decide +kernel) rfl
          exact W.zret (v := v_1875) hx hb hr (zb rfl (by omega)) (fun t ht hW => ⟨⟨v_1875, ((fun _ => 0, fun i => match i with | 0 => f_1883 | _ => f_1884, fun _ => fun _ => 0, fun i => ([v_1876, (-1), v_1879, v_1880, v_1881, v_1882, v_1877, v_1878] : List _).getD i (0), fun _ => 0, fun _ => fun _ => none) : Su), rfl, ⟨(show 0 ≤ v_1875.toInt ∧ v_1875.toInt ≤ 1 by omega), (show 0 ≤ (v_1876 : Int32).toInt ∧ (v_1876 : Int32).toInt ≤ 50 by omega), (show (-1) ≤ ((-1) : Int32).toInt ∧ ((-1) : Int32).toInt ≤ 400 by decide), (show 0 ≤ (v_1879 : Int32).toInt ∧ (v_1879 : Int32).toInt ≤ 400 by omega), (show 0 ≤ (v_1880 : Int32).toInt ∧ (v_1880 : Int32).toInt ≤ 400 by omega), (show (-1) ≤ (v_1882 : Int32).toInt ∧ (v_1882 : Int32).toInt ≤ 1000000 by omega), (show 0 ≤ (v_1877 : Int32).toInt ∧ (v_1877 : Int32).toInt ≤ 12 by omega), (show 0 ≤ (v_1878 : Int32).toInt ∧ (v_1878 : Int32).toInt ≤ 800 by omega), hf_1883_0, hf_1884_0, hE.symm, trivial⟩, (⟨by rw [ht]; exact hP9, hD9⟩ : Wd D A _ t)⟩, hS.F ht⟩) hS.2.2 dX6_reads_153
      refine lv_icmp_ge (tgt := 125) hx hb dX6_reads_48 (by decide +kernel) (fun c_1888 => ?_) (fun c_1888 => ?_)
      · have c_1888i := i_le (x := 12) (y := v_1654.toInt) rfl rfl c_1888
        replace hE := hE.trans (if_pos c_1888)
        exact j_1886 v_1655 v_1656 v_1657 v_1658 v_1659 v_1660 v_1661 v_1662 f_1663 f_1664 (by omega) (by omega) (by omega) (by omega) (by omega) (by omega) (by omega) hf_1663_0 hf_1664_0 hE _ _ hP hD hS ls (lv_sub hl [1, 2] rfl)
      · have c_1888i := i_nle (x := 12) (y := v_1654.toInt) rfl rfl c_1888
        replace hE := hE.trans (if_neg c_1888)
        refine lv_iload_n hx hb dX6_reads_51 rfl (lv_at hl 1 rfl) ?_
        refine lv_if_ne (tgt := 125) hx hb dX6_reads_52 (by decide +kernel) (fun c_1889 => ?_) (fun c_1889 => ?_)
        · have c_1889i := i_ne (x := v_1655.toInt) (y := 0) rfl rfl c_1889
          replace hE := hE.trans (if_neg c_1889)
          exact j_1886 v_1655 v_1656 v_1657 v_1658 v_1659 v_1660 v_1661 v_1662 f_1663 f_1664 (by omega) (by omega) (by omega) (by omega) (by omega) (by omega) (by omega) hf_1663_0 hf_1664_0 hE _ _ hP hD hS ls (lv_sub hl [1, 2] rfl)
        · have c_1889i := i_eq (x := v_1655.toInt) (y := 0) rfl rfl c_1889
          replace hE := hE.trans (if_pos c_1889)
          refine lv_aload_n hx hb dX6_reads_55 rfl (lv_at hl 2 rfl) ?_
          refine lv_iload_n hx hb dX6_reads_56 rfl (lv_at hl 0 rfl) ?_
          refine kci (S := Su) (wr := []) (va_runV (As := [.int v_1654]) (rest := []) ⟨hx, hb, hml, hown, hts⟩ (w_clause l D K g L G a0 v_1654 t0 s0 x v_1656 (.int fl) t1 ln v_1659 v_1660 v_1661 v_1662 fb s1 s2 v_1657 v_1658 f_1663 f_1664 H.size (by first | omega | decide) (by first | omega | decide) (by first | omega | decide) (by first | omega | decide) (by first | omega | decide) (by first | omega | decide) (by first | omega | decide) (by first | omega | decide) hf_1663_0 hf_1664_0) (cwV 1 hts gX6_reads_X6_clause rfl rfl rfl (by decide +kernel) ⟨Nat.le_of_ble_eq_true rfl, Nat.le_of_ble_eq_true rfl⟩) (mkVY hK hN (hP.sub [0, 4, 5, 1, 2, 3] rfl) (hD.sub [0, 4, 5, 1, 2, 3] (by decide +kernel) rfl) (ci := 6) (q0 := 0) rfl rfl (fun U hU hW => ⟨Gl.at hG hS hW hU (fun q h => va_free hD hS hA [0, 4, 5, 1, 2, 3] rfl q h), Pool.at hPl hS hU (fun q h => va_free hD hS hA [0, 4, 5, 1, 2, 3] rfl q h), Ro.heap hU (Ro.nil)⟩)) rfl rfl hl.1 rfl (lv_room (Nat.le_of_ble_eq_true rfl)) dX6_reads_57 ⟨Nat.le_of_ble_eq_true rfl, Nat.le_of_ble_eq_true rfl⟩) hP hD hS hA [0, 4, 5, 1, 2, 3] [] rfl rfl (by decide +kernel) (by decide +kernel) (fun r_1890 u_1891 H locs hw hP0 hD0 hS0 => ?_)
          clear hP hD hS
          have hP := hP0
          have hD := hD0
          have hS := hS0
          clear hP0 hD0 hS0
          replace hP : va_P D vwCl [(a0, .inr (6, [.ref t0, .ref s0, .int x, .int (u_1891.2.2.2.1 0), .int fl])), (t0, .inr (8, [.ref t1, .int ln, .int (u_1891.2.2.2.1 1), .int (u_1891.2.2.2.1 2), .int (u_1891.2.2.2.1 3), .int (u_1891.2.2.2.1 4)])), (t1, .inl (K 0, 400, .inl fb)), (s0, .inr (7, [.ref s1, .ref s2, .int v_1657, .int (u_1891.2.2.2.1 5)])), (s1, .inl (K 0, 60, .inl (u_1891.2.1 0))), (s2, .inl (K 0, 800, .inl (u_1891.2.1 1)))] H := hP
          replace hD : va_D A [(a0, .inr (6, [.ref t0, .ref s0, .int x, .int (u_1891.2.2.2.1 0), .int fl])), (t0, .inr (8, [.ref t1, .int ln, .int (u_1891.2.2.2.1 1), .int (u_1891.2.2.2.1 2), .int (u_1891.2.2.2.1 3), .int (u_1891.2.2.2.1 4)])), (t1, .inl (K 0, 400, .inl fb)), (s0, .inr (7, [.ref s1, .ref s2, .int v_1657, .int (u_1891.2.2.2.1 5)])), (s1, .inl (K 0, 60, .inl (u_1891.2.1 0))), (s2, .inl (K 0, 800, .inl (u_1891.2.1 1)))] := hD
          obtain ⟨h_1900, k_1892, k_1893, k_1894, k_1895, k_1896, k_1897, k_1898, k_1899, -⟩ := hw
          replace hE := (((((((hE.trans (Lt2_in k_1899)).trans (Lt2_in rfl)).trans (Lt2_in rfl)).trans (Lt2_in rfl)).trans (Lt2_in rfl)).trans (Lt2_in rfl)).trans (Lt2_in rfl)).trans (Lt2_in rfl)
          refine lv_if_ne (tgt := 66) hx hb dX6_reads_60 (by decide +kernel) (fun c_1901 => ?_) (fun c_1901 => ?_)
          · have c_1901i := i_ne (x := r_1890.toInt) (y := 0) rfl rfl c_1901
            replace hE := hE.trans (if_neg c_1901)
            refine lv_aload_n hx hb dX6_reads_66 rfl (lv_at hl 2 rfl) ?_
            refine va_get (ci := 6) (v := .ref s0) (C := RX6) (T := TX6) (N := 5) hx hb hts hw6 hown hK hP 0 rfl rfl 1 (by decide +kernel) (hts _ mm_X6_reads_232) (fun _ h9 => h9) rfl dX6_reads_67 ?_
            refine lv_iload_n hx hb dX6_reads_70 rfl (lv_at hl 0 rfl) ?_
            refine lv_iconst (v := 1) hx hb dX6_reads_71 (by decide +kernel) ?_
            refine lv_iadd hx hb dX6_reads_72 ?_
            refine lv_topi (fun x_1902 ex_1902 => ?_)
            replace hE := hE.trans (Lt_in ex_1902)
            have hx_1902 : x_1902.toInt = (v_1654.toInt + 1) := by rw [ex_1902]; exact i_add rfl (show (1 : Int32).toInt = 1 from rfl) (by omega)
            refine va_putN (ci := 7) (v := .int x_1902) (ty := .int) (C := RX7) (T := TX7) (N := 4) hx hb hts hw7 tyX7 tyX7_ok nmX7 hown hK hP hD hS 3 rfl rfl 2 (by decide +kernel) (nst_use hN 127 rfl) (fun _ h9 => h9) rfl (by decide +kernel) (by first | rfl | decide) (by first | rfl | decide) (Nat.le_of_ble_eq_true rfl) dX6_reads_73 (fun H locs hP0 hD0 hS0 => ?_)
            clear hP hD hS
            have hP := hP0
            have hD := hD0
            have hS := hS0
            clear hP0 hD0 hS0
            replace hP : va_P D vwCl [(a0, .inr (6, [.ref t0, .ref s0, .int x, .int (u_1891.2.2.2.1 0), .int fl])), (t0, .inr (8, [.ref t1, .int ln, .int (u_1891.2.2.2.1 1), .int (u_1891.2.2.2.1 2), .int (u_1891.2.2.2.1 3), .int (u_1891.2.2.2.1 4)])), (t1, .inl (K 0, 400, .inl fb)), (s0, .inr (7, [.ref s1, .ref s2, .int x_1902, .int (u_1891.2.2.2.1 5)])), (s1, .inl (K 0, 60, .inl (u_1891.2.1 0))), (s2, .inl (K 0, 800, .inl (u_1891.2.1 1)))] H := hP
            replace hD : va_D A [(a0, .inr (6, [.ref t0, .ref s0, .int x, .int (u_1891.2.2.2.1 0), .int fl])), (t0, .inr (8, [.ref t1, .int ln, .int (u_1891.2.2.2.1 1), .int (u_1891.2.2.2.1 2), .int (u_1891.2.2.2.1 3), .int (u_1891.2.2.2.1 4)])), (t1, .inl (K 0, 400, .inl fb)), (s0, .inr (7, [.ref s1, .ref s2, .int x_1902, .int (u_1891.2.2.2.1 5)])), (s1, .inl (K 0, 60, .inl (u_1891.2.1 0))), (s2, .inl (K 0, 800, .inl (u_1891.2.1 1)))] := hD
            refine lv_aload_n hx hb dX6_reads_76 rfl (lv_at hl 2 rfl) ?_
            refine va_get (ci := 6) (v := .ref t0) (C := RX6) (T := TX6) (N := 5) hx hb hts hw6 hown hK hP 0 rfl rfl 0 (by decide +kernel) (hts _ mm_X6_reads_231) (fun _ h9 => h9) rfl dX6_reads_77 ?_
            refine va_getN (ci := 8) (v := .int (u_1891.2.2.2.1 3)) (C := RX8) (T := TX8) (N := 6) hx hb hts hw8 hown hK hP 1 rfl rfl 4 (by decide +kernel) (nst_use hN 123 rfl) (fun _ h9 => h9) rfl dX6_reads_80 ?_
            refine lv_iconst (v := (-1)) hx hb dX6_reads_83 (by decide +kernel) ?_
            have j_1915 : ∀ (v_1907 : Int32) (hv_1907 : 0 ≤ v_1907.toInt ∧ v_1907.toInt ≤ 1) (hk0_j_1915 : (-1) ≤ (u_1891.2.2.2.1 3).toInt ∧ (u_1891.2.2.2.1 3).toInt ≤ 59) (hE : E_w_reads x lw pa fl ln tf tt ti tu fb scl us fh fc = E_w_reads_j112 ln fb v_1654 rec_1834 (u_1891.2.2.2.1 0) (u_1891.2.2.2.1 1) (u_1891.2.2.2.1 2) (u_1891.2.2.2.1 3) (u_1891.2.2.2.1 4) (u_1891.2.2.2.1 5) (u_1891.2.1 0) (u_1891.2.1 1) x_1902 v_1907) (H : Heap) (locs : List Loc) (hP : va_P D vwCl [(a0, .inr (6, [.ref t0, .ref s0, .int x, .int (u_1891.2.2.2.1 0), .int fl])), (t0, .inr (8, [.ref t1, .int ln, .int (u_1891.2.2.2.1 1), .int (u_1891.2.2.2.1 2), .int (u_1891.2.2.2.1 3), .int (u_1891.2.2.2.1 4)])), (t1, .inl (K 0, 400, .inl fb)), (s0, .inr (7, [.ref s1, .ref s2, .int x_1902, .int (u_1891.2.2.2.1 5)])), (s1, .inl (K 0, 60, .inl (u_1891.2.1 0))), (s2, .inl (K 0, 800, .inl (u_1891.2.1 1)))] H) (hD : va_D A [(a0, .inr (6, [.ref t0, .ref s0, .int x, .int (u_1891.2.2.2.1 0), .int fl])), (t0, .inr (8, [.ref t1, .int ln, .int (u_1891.2.2.2.1 1), .int (u_1891.2.2.2.1 2), .int (u_1891.2.2.2.1 3), .int (u_1891.2.2.2.1 4)])), (t1, .inl (K 0, 400, .inl fb)), (s0, .inr (7, [.ref s1, .ref s2, .int x_1902, .int (u_1891.2.2.2.1 5)])), (s1, .inl (K 0, 60, .inl (u_1891.2.1 0))), (s2, .inl (K 0, 800, .inl (u_1891.2.1 1)))]) (hS : va_S A s.heap H locs) (ls : Array Slot) (hl : lv_has ls 4 [(2, .int v_1907), (3, .int v_1654), (0, .ref a0)]), W p l e ({ frames := 335, cells := 0, slots := 0, locals := 7419 }) s m (([.ref a0, .int x] : List Value).toArray) below meth c H locs 0 0 Q (F0 m 112 ls []) := by
              clear hE hP hD hS hl
              intro v_1907 hv_1907 hk0_j_1915 hE H locs hP hD hS ls hl
              replace hE := hE.trans (E_w_reads_j112.eq_def _ _ _ _ _ _ _ _ _ _ _ _ _ _)
              refine lv_aload_n hx hb dX6_reads_112 rfl (lv_at hl 2 rfl) ?_
              refine va_get (ci := 6) (v := .ref t0) (C := RX6) (T := TX6) (N := 5) hx hb hts hw6 hown hK hP 0 rfl rfl 0 (by decide +kernel) (hts _ mm_X6_reads_231) (fun _ h9 => h9) rfl dX6_reads_113 ?_
              refine kcv (S := Su) (wr := [(a0, .inr (6, [.ref t0, .ref s0, .int x, .int (u_1891.2.2.2.1 0), .int fl])), (s0, .inr (7, [.ref s1, .ref s2, .int x_1902, .int (u_1891.2.2.2.1 5)])), (s1, .inl (K 0, 60, .inl (u_1891.2.1 0))), (s2, .inl (K 0, 800, .inl (u_1891.2.1 1)))]) (va_runVN (As := []) (rest := []) ⟨hx, hb, hml, hown, hts⟩ (w_step l D K t0 t1 ln (u_1891.2.2.2.1 1) (u_1891.2.2.2.1 2) (u_1891.2.2.2.1 3) (u_1891.2.2.2.1 4) fb H.size (by first | omega | decide) (by first | omega | decide)) ⟨va_cnB 0 hts gX6_reads_X8_step_n47 rfl rfl rfl (nst_at hN 32 rfl) (hts _ mm_X6_reads_147) (by decide +kernel) ⟨Nat.le_of_ble_eq_true rfl, Nat.le_of_ble_eq_true rfl⟩, (hts _ mm_X6_reads_471), (hts _ mm_X6_reads_21)⟩ (mkV hK hN (hP.sub [1, 2] rfl) (hD.sub [1, 2] (by decide +kernel) rfl) (ci := 8) (q0 := 0) rfl rfl) rfl rfl hl.1 rfl (lv_room (Nat.le_of_ble_eq_true rfl)) dX6_reads_116 ⟨Nat.le_of_ble_eq_true rfl, Nat.le_of_ble_eq_true rfl⟩) hP hD hS hA [1, 2] [0, 3, 4, 5] rfl rfl (by decide +kernel) (by decide +kernel) (fun u_1917 H locs hw hP0 hD0 hS0 => ?_)
              clear hP hD hS
              have hP := hP0
              have hD := hD0
              have hS := hS0
              clear hP0 hD0 hS0
              replace hP : va_P D vwCl [(a0, .inr (6, [.ref t0, .ref s0, .int x, .int (u_1891.2.2.2.1 0), .int fl])), (s0, .inr (7, [.ref s1, .ref s2, .int x_1902, .int (u_1891.2.2.2.1 5)])), (s1, .inl (K 0, 60, .inl (u_1891.2.1 0))), (s2, .inl (K 0, 800, .inl (u_1891.2.1 1))), (t0, .inr (8, [.ref t1, .int ln, .int (u_1917.2.2.2.1 0), .int (u_1917.2.2.2.1 1), .int (u_1917.2.2.2.1 2), .int (u_1917.2.2.2.1 3)])), (t1, .inl (K 0, 400, .inl fb))] H := hP
              replace hD : va_D A [(a0, .inr (6, [.ref t0, .ref s0, .int x, .int (u_1891.2.2.2.1 0), .int fl])), (s0, .inr (7, [.ref s1, .ref s2, .int x_1902, .int (u_1891.2.2.2.1 5)])), (s1, .inl (K 0, 60, .inl (u_1891.2.1 0))), (s2, .inl (K 0, 800, .inl (u_1891.2.1 1))), (t0, .inr (8, [.ref t1, .int ln, .int (u_1917.2.2.2.1 0), .int (u_1917.2.2.2.1 1), .int (u_1917.2.2.2.1 2), .int (u_1917.2.2.2.1 3)])), (t1, .inl (K 0, 400, .inl fb))] := hD
              obtain ⟨k_1918, k_1919, k_1920, k_1921, -⟩ := hw
              replace hE := ((hE.trans (Lt2_in k_1921)).trans (Lt2_in rfl)).trans (Lt2_in rfl)
              obtain ⟨x_1922, ex_1922⟩ : ∃ y : Int32, y = v_1654 + Int32.ofInt 1 := ⟨_, rfl⟩
              replace hE := hE.trans (Lt_in ex_1922)
              have hx_1922 : x_1922.toInt = (v_1654.toInt + 1) := by rw [ex_1922]; exact i_add rfl (show (Int32.ofInt 1).toInt = 1 from rfl) (by omega)
              refine lv_iinc (v := x_1922) (lv' := [(3, .int x_1922), (2, .int v_1907), (0, .ref a0)]) hx hb dX6_reads_119 hl (k := 1) rfl (by rw [ex_1922]) (by decide +kernel) rfl (fun ls hl => ?_)
              refine lv_goto (tgt := 45) hx hb dX6_reads_122 (by decide +kernel) ?_
              exact ih_1835 x_1922 v_1907 (u_1891.2.2.2.1 0) x_1902 (u_1891.2.2.2.1 5) (u_1917.2.2.2.1 0) (u_1917.2.2.2.1 1) (u_1917.2.2.2.1 2) (u_1917.2.2.2.1 3) (u_1891.2.1 0) (u_1891.2.1 1) (by rw [hx_1922]; omega) (by omega) (by omega) (by rw [hx_1902]; omega) (by omega) (by omega) (by omega) (by omega) k_1897 k_1898 (by omega) (hE.trans (by rw [hrec_1834])) _ _ hP hD hS ls (lv_sub hl [0, 1, 2] rfl)
            refine lv_icmp_ne (tgt := 91) hx hb dX6_reads_84 (by decide +kernel) (fun c_1923 => ?_) (fun c_1923 => ?_)
            · have c_1923i := i_ne (x := (u_1891.2.2.2.1 3).toInt) (y := (-1)) rfl rfl c_1923
              replace hE := hE.trans (if_neg c_1923)
              refine lv_iconst (v := 0) hx hb dX6_reads_91 (by decide +kernel) ?_
              refine lv_istore_n (lv' := [(2, .int 0), (3, .int v_1654), (0, .ref a0)]) hx hb dX6_reads_92 rfl hl (by decide +kernel) rfl (fun ls hl => ?_)
              refine lv_iload_n hx hb dX6_reads_93 rfl (lv_at hl 0 rfl) ?_
              refine lv_if_ne (tgt := 112) hx hb dX6_reads_94 (by decide +kernel) (fun c_1924 => absurd (by decide +kernel) c_1924) (fun c_1924 => ?_)
              refine lv_aload_n hx hb dX6_reads_97 rfl (lv_at hl 2 rfl) ?_
              refine va_get (ci := 6) (v := .ref t0) (C := RX6) (T := TX6) (N := 5) hx hb hts hw6 hown hK hP 0 rfl rfl 0 (by decide +kernel) (hts _ mm_X6_reads_231) (fun _ h9 => h9) rfl dX6_reads_98 ?_
              refine va_getN (ci := 8) (v := .int (u_1891.2.2.2.1 3)) (C := RX8) (T := TX8) (N := 6) hx hb hts hw8 hown hK hP 1 rfl rfl 4 (by decide +kernel) (nst_use hN 123 rfl) (fun _ h9 => h9) rfl dX6_reads_101 ?_
              refine lv_bipush (v := 59) hx hb dX6_reads_104 (by decide +kernel) ?_
              refine lv_icmp_eq (tgt := 112) hx hb dX6_reads_106 (by decide +kernel) (fun c_1925 => ?_) (fun c_1925 => ?_)
              · have c_1925i := i_eq (x := (u_1891.2.2.2.1 3).toInt) (y := 59) rfl rfl c_1925
                replace hE := hE.trans (if_pos c_1925)
                exact j_1915 0 (by decide +kernel) (by omega) hE _ _ hP hD hS ls (lv_sub hl [0, 1, 2] rfl)
              · have c_1925i := i_ne (x := (u_1891.2.2.2.1 3).toInt) (y := 59) rfl rfl c_1925
                replace hE := hE.trans (if_neg c_1925)
                refine lv_goto (tgt := 125) hx hb dX6_reads_109 (by decide +kernel) ?_
                exact j_1886 0 (u_1891.2.2.2.1 0) x_1902 (u_1891.2.2.2.1 5) (u_1891.2.2.2.1 1) (u_1891.2.2.2.1 2) (u_1891.2.2.2.1 3) (u_1891.2.2.2.1 4) (u_1891.2.1 0) (u_1891.2.1 1) (by decide +kernel) (by omega) (by rw [hx_1902]; omega) (by omega) (by omega) (by omega) (by omega) k_1897 k_1898 hE _ _ (hP.sub [0, 3, 4, 5, 1, 2] rfl) (hD.sub [0, 3, 4, 5, 1, 2] (by decide +kernel) rfl) hS ls (lv_sub hl [0, 2] rfl)
            · have c_1923i := i_eq (x := (u_1891.2.2.2.1 3).toInt) (y := (-1)) rfl rfl c_1923
              replace hE := hE.trans (if_pos c_1923)
              refine lv_iconst (v := 1) hx hb dX6_reads_87 (by decide +kernel) ?_
              refine lv_goto (tgt := 92) hx hb dX6_reads_88 (by decide +kernel) ?_
              refine lv_istore_n (lv' := [(2, .int 1), (3, .int v_1654), (0, .ref a0)]) hx hb dX6_reads_92 rfl hl (by decide +kernel) rfl (fun ls hl => ?_)
              refine lv_iload_n hx hb dX6_reads_93 rfl (lv_at hl 0 rfl) ?_
              refine lv_if_ne (tgt := 112) hx hb dX6_reads_94 (by decide +kernel) (fun c_1926 => ?_) (fun c_1926 => absurd c_1926 (by decide +kernel))
              exact j_1915 1 (by decide +kernel) (by omega) hE _ _ hP hD hS ls (lv_sub hl [0, 1, 2] rfl)
          · have c_1901i := i_eq (x := r_1890.toInt) (y := 0) rfl rfl c_1901
            replace hE := hE.trans (if_pos c_1901)
            refine lv_goto (tgt := 125) hx hb dX6_reads_63 (by decide +kernel) ?_
            exact j_1886 v_1655 (u_1891.2.2.2.1 0) v_1657 (u_1891.2.2.2.1 5) (u_1891.2.2.2.1 1) (u_1891.2.2.2.1 2) (u_1891.2.2.2.1 3) (u_1891.2.2.2.1 4) (u_1891.2.1 0) (u_1891.2.1 1) (by omega) (by omega) (by omega) (by omega) (by omega) (by omega) (by omega) k_1897 k_1898 hE _ _ (hP.sub [0, 3, 4, 5, 1, 2] rfl) (hD.sub [0, 3, 4, 5, 1, 2] (by decide +kernel) rfl) hS ls (lv_sub hl [1, 2] rfl)
  exact lp_1834 ((13 - (0 : Int32).toInt : Int).toNat + 1) 0 0 0 0 0 (u_1306.2.2.2.1 0) (u_1306.2.2.2.1 1) (u_1306.2.2.2.1 2) (u_1306.2.2.2.1 3) fh fc (by decide +kernel) (by decide +kernel) (by decide +kernel) (by decide +kernel) (by decide +kernel) (by omega) (by omega) (by omega) zfh zfc (Nat.lt_succ_self _) hE _ _ hP hD hS ls (lv_sub hl [0, 1, 2] rfl)
