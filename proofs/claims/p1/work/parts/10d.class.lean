theorem dX9_meetsChord_0 : decode cX9_meetsChord 0 = .ok (.aload_n 0, 1) := by decide +kernel
theorem dX9_meetsChord_1 : decode cX9_meetsChord 1 = .ok (.aload_n 0, 1) := by decide +kernel
theorem dX9_meetsChord_2 : decode cX9_meetsChord 2 = .ok (.getfield 18, 3) := by decide +kernel
theorem dX9_meetsChord_5 : decode cX9_meetsChord 5 = .ok (.iconst 0, 1) := by decide +kernel
theorem dX9_meetsChord_6 : decode cX9_meetsChord 6 = .ok (.iaload, 1) := by decide +kernel
theorem dX9_meetsChord_7 : decode cX9_meetsChord 7 = .ok (.invokevirtual 85, 3) := by decide +kernel
theorem dX9_meetsChord_10 : decode cX9_meetsChord 10 = .ok (.istore_n 1, 1) := by decide +kernel
theorem dX9_meetsChord_11 : decode cX9_meetsChord 11 = .ok (.aload_n 0, 1) := by decide +kernel
theorem dX9_meetsChord_12 : decode cX9_meetsChord 12 = .ok (.invokevirtual 81, 3) := by decide +kernel
theorem dX9_meetsChord_15 : decode cX9_meetsChord 15 = .ok (.iload_n 1, 1) := by decide +kernel
theorem dX9_meetsChord_16 : decode cX9_meetsChord 16 = .ok (.iand, 1) := by decide +kernel
theorem dX9_meetsChord_17 : decode cX9_meetsChord 17 = .ok (.iload_n 1, 1) := by decide +kernel
theorem dX9_meetsChord_18 : decode cX9_meetsChord 18 = .ok (.if_icmp .ne 7, 3) := by decide +kernel
theorem dX9_meetsChord_21 : decode cX9_meetsChord 21 = .ok (.iconst 1, 1) := by decide +kernel
theorem dX9_meetsChord_22 : decode cX9_meetsChord 22 = .ok (.goto 4, 3) := by decide +kernel
theorem dX9_meetsChord_26 : decode cX9_meetsChord 26 = .ok (.ireturn, 1) := by decide +kernel
theorem dX10_burnDown_0 : decode cX10_burnDown 0 = .ok (.iconst 0, 1) := by decide +kernel
theorem dX10_burnDown_1 : decode cX10_burnDown 1 = .ok (.istore_n 2, 1) := by decide +kernel
theorem dX10_burnDown_2 : decode cX10_burnDown 2 = .ok (.iload_n 2, 1) := by decide +kernel
theorem dX10_burnDown_3 : decode cX10_burnDown 3 = .ok (.aload_n 1, 1) := by decide +kernel
theorem dX10_burnDown_4 : decode cX10_burnDown 4 = .ok (.getfield 77, 3) := by decide +kernel
theorem dX10_burnDown_7 : decode cX10_burnDown 7 = .ok (.if_icmp .ge 73, 3) := by decide +kernel
theorem dX10_burnDown_80 : decode cX10_burnDown 80 = .ok (.return_, 1) := by decide +kernel
theorem dX10_nextHour_0 : decode cX10_nextHour 0 = .ok (.aload_n 1, 1) := by decide +kernel
theorem dX10_nextHour_1 : decode cX10_nextHour 1 = .ok (.getfield 56, 3) := by decide +kernel
theorem dX10_nextHour_4 : decode cX10_nextHour 4 = .ok (.iconst 0, 1) := by decide +kernel
theorem dX10_nextHour_5 : decode cX10_nextHour 5 = .ok (.iaload, 1) := by decide +kernel
theorem dX10_nextHour_6 : decode cX10_nextHour 6 = .ok (.bipush 23, 2) := by decide +kernel
theorem dX10_nextHour_8 : decode cX10_nextHour 8 = .ok (.if_icmp .ne 7, 3) := by decide +kernel
theorem dX10_nextHour_15 : decode cX10_nextHour 15 = .ok (.iconst 0, 1) := by decide +kernel
theorem dX10_nextHour_16 : decode cX10_nextHour 16 = .ok (.istore_n 2, 1) := by decide +kernel
theorem dX10_nextHour_17 : decode cX10_nextHour 17 = .ok (.iload_n 2, 1) := by decide +kernel
theorem dX10_nextHour_18 : decode cX10_nextHour 18 = .ok (.ifCond .eq 18, 3) := by decide +kernel
theorem dX10_nextHour_36 : decode cX10_nextHour 36 = .ok (.aload_n 1, 1) := by decide +kernel
theorem dX10_nextHour_37 : decode cX10_nextHour 37 = .ok (.invokevirtual 60, 3) := by decide +kernel
theorem dX10_nextHour_40 : decode cX10_nextHour 40 = .ok (.ifCond .eq 7, 3) := by decide +kernel
theorem dX10_nextHour_43 : decode cX10_nextHour 43 = .ok (.iconst 1, 1) := by decide +kernel
theorem dX10_nextHour_44 : decode cX10_nextHour 44 = .ok (.goto 4, 3) := by decide +kernel
theorem dX10_nextHour_48 : decode cX10_nextHour 48 = .ok (.istore_n 3, 1) := by decide +kernel
theorem dX10_nextHour_49 : decode cX10_nextHour 49 = .ok (.aload_n 1, 1) := by decide +kernel
theorem dX10_nextHour_50 : decode cX10_nextHour 50 = .ok (.ldc 64, 2) := by decide +kernel
theorem dX10_nextHour_52 : decode cX10_nextHour 52 = .ok (.aload_n 1, 1) := by decide +kernel
theorem dX10_nextHour_53 : decode cX10_nextHour 53 = .ok (.getfield 65, 3) := by decide +kernel
theorem dX10_nextHour_56 : decode cX10_nextHour 56 = .ok (.aload_n 0, 1) := by decide +kernel
theorem dX10_nextHour_57 : decode cX10_nextHour 57 = .ok (.aload_n 1, 1) := by decide +kernel
theorem dX10_nextHour_58 : decode cX10_nextHour 58 = .ok (.invokevirtual 69, 3) := by decide +kernel
theorem dX10_nextHour_61 : decode cX10_nextHour 61 = .ok (.iadd, 1) := by decide +kernel
theorem dX10_nextHour_62 : decode cX10_nextHour 62 = .ok (.invokestatic 40, 3) := by decide +kernel
theorem dX10_nextHour_65 : decode cX10_nextHour 65 = .ok (.putfield 65, 3) := by decide +kernel
theorem dX10_nextHour_68 : decode cX10_nextHour 68 = .ok (.aload_n 0, 1) := by decide +kernel
theorem dX10_nextHour_69 : decode cX10_nextHour 69 = .ok (.aload_n 1, 1) := by decide +kernel
theorem dX10_nextHour_70 : decode cX10_nextHour 70 = .ok (.invokevirtual 73, 3) := by decide +kernel
theorem dX10_nextHour_73 : decode cX10_nextHour 73 = .ok (.aload_n 1, 1) := by decide +kernel
theorem dX10_nextHour_74 : decode cX10_nextHour 74 = .ok (.getfield 56, 3) := by decide +kernel
theorem dX10_nextHour_77 : decode cX10_nextHour 77 = .ok (.iconst 0, 1) := by decide +kernel
theorem dX10_nextHour_78 : decode cX10_nextHour 78 = .ok (.iload_n 2, 1) := by decide +kernel
theorem dX10_nextHour_79 : decode cX10_nextHour 79 = .ok (.ifCond .eq 7, 3) := by decide +kernel
theorem dX10_nextHour_86 : decode cX10_nextHour 86 = .ok (.aload_n 1, 1) := by decide +kernel
theorem dX10_nextHour_87 : decode cX10_nextHour 87 = .ok (.getfield 56, 3) := by decide +kernel
theorem dX10_nextHour_90 : decode cX10_nextHour 90 = .ok (.iconst 0, 1) := by decide +kernel
theorem dX10_nextHour_91 : decode cX10_nextHour 91 = .ok (.iaload, 1) := by decide +kernel
theorem dX10_nextHour_92 : decode cX10_nextHour 92 = .ok (.iconst 1, 1) := by decide +kernel
theorem dX10_nextHour_93 : decode cX10_nextHour 93 = .ok (.iadd, 1) := by decide +kernel
theorem dX10_nextHour_94 : decode cX10_nextHour 94 = .ok (.iastore, 1) := by decide +kernel
theorem dX10_nextHour_95 : decode cX10_nextHour 95 = .ok (.aload_n 1, 1) := by decide +kernel
theorem dX10_nextHour_96 : decode cX10_nextHour 96 = .ok (.getfield 56, 3) := by decide +kernel
theorem dX10_nextHour_99 : decode cX10_nextHour 99 = .ok (.iconst 1, 1) := by decide +kernel
theorem dX10_nextHour_100 : decode cX10_nextHour 100 = .ok (.dup2, 1) := by decide +kernel
theorem dX10_nextHour_101 : decode cX10_nextHour 101 = .ok (.iaload, 1) := by decide +kernel
theorem dX10_nextHour_102 : decode cX10_nextHour 102 = .ok (.iload_n 2, 1) := by decide +kernel
theorem dX10_nextHour_103 : decode cX10_nextHour 103 = .ok (.ifCond .eq 7, 3) := by decide +kernel
theorem dX10_nextHour_110 : decode cX10_nextHour 110 = .ok (.iconst 0, 1) := by decide +kernel
theorem dX10_nextHour_111 : decode cX10_nextHour 111 = .ok (.iadd, 1) := by decide +kernel
theorem dX10_nextHour_112 : decode cX10_nextHour 112 = .ok (.iastore, 1) := by decide +kernel
theorem dX10_nextHour_113 : decode cX10_nextHour 113 = .ok (.iload_n 3, 1) := by decide +kernel
theorem dX10_nextHour_114 : decode cX10_nextHour 114 = .ok (.ireturn, 1) := by decide +kernel
theorem dX10_nextHour_11 : decode cX10_nextHour 11 = .ok (.iconst 1, 1) := by decide +kernel
theorem dX10_nextHour_12 : decode cX10_nextHour 12 = .ok (.goto 4, 3) := by decide +kernel
theorem dX10_nextHour_21 : decode cX10_nextHour 21 = .ok (.aload_n 1, 1) := by decide +kernel
theorem dX10_nextHour_22 : decode cX10_nextHour 22 = .ok (.getfield 56, 3) := by decide +kernel
theorem dX10_nextHour_25 : decode cX10_nextHour 25 = .ok (.iconst 1, 1) := by decide +kernel
theorem dX10_nextHour_26 : decode cX10_nextHour 26 = .ok (.iaload, 1) := by decide +kernel
theorem dX10_nextHour_27 : decode cX10_nextHour 27 = .ok (.sipush 999, 3) := by decide +kernel
theorem dX10_nextHour_30 : decode cX10_nextHour 30 = .ok (.if_icmp .lt 6, 3) := by decide +kernel
theorem dX10_nextHour_82 : decode cX10_nextHour 82 = .ok (.iconst 0, 1) := by decide +kernel
theorem dX10_nextHour_83 : decode cX10_nextHour 83 = .ok (.goto 11, 3) := by decide +kernel
theorem dX10_nextHour_106 : decode cX10_nextHour 106 = .ok (.iconst 1, 1) := by decide +kernel
theorem dX10_nextHour_107 : decode cX10_nextHour 107 = .ok (.goto 4, 3) := by decide +kernel
theorem dX2_changing_0 : decode cX2_changing 0 = .ok (.iload_n 0, 1) := by decide +kernel
theorem dX2_changing_1 : decode cX2_changing 1 = .ok (.ifCond .ne 7, 3) := by decide +kernel
theorem dX2_changing_4 : decode cX2_changing 4 = .ok (.iconst 2, 1) := by decide +kernel
theorem dX2_changing_5 : decode cX2_changing 5 = .ok (.goto 14, 3) := by decide +kernel
theorem dX2_changing_19 : decode cX2_changing 19 = .ok (.ireturn, 1) := by decide +kernel
theorem dX2_changing_8 : decode cX2_changing 8 = .ok (.iload_n 0, 1) := by decide +kernel
theorem dX2_changing_9 : decode cX2_changing 9 = .ok (.iconst 1, 1) := by decide +kernel
theorem dX2_changing_10 : decode cX2_changing 10 = .ok (.if_icmp .ne 7, 3) := by decide +kernel
theorem dX2_changing_13 : decode cX2_changing 13 = .ok (.iconst 5, 1) := by decide +kernel
theorem dX2_changing_14 : decode cX2_changing 14 = .ok (.goto 5, 3) := by decide +kernel
theorem dX2_changing_17 : decode cX2_changing 17 = .ok (.bipush 6, 2) := by decide +kernel
theorem dX2_draft_0 : decode cX2_draft 0 = .ok (.aload_n 0, 1) := by decide +kernel
theorem dX2_draft_1 : decode cX2_draft 1 = .ok (.getfield 15, 3) := by decide +kernel
theorem dX2_draft_4 : decode cX2_draft 4 = .ok (.bipush 28, 2) := by decide +kernel
theorem dX2_draft_6 : decode cX2_draft 6 = .ok (.imul, 1) := by decide +kernel
theorem dX2_draft_7 : decode cX2_draft 7 = .ok (.istore_n 2, 1) := by decide +kernel
theorem dX2_draft_8 : decode cX2_draft 8 = .ok (.aload_n 0, 1) := by decide +kernel
theorem dX2_draft_9 : decode cX2_draft 9 = .ok (.getfield 11, 3) := by decide +kernel
theorem dX2_draft_12 : decode cX2_draft 12 = .ok (.iload_n 2, 1) := by decide +kernel
theorem dX2_draft_13 : decode cX2_draft 13 = .ok (.iconst 1, 1) := by decide +kernel
theorem dX2_draft_14 : decode cX2_draft 14 = .ok (.iadd, 1) := by decide +kernel
theorem dX2_draft_15 : decode cX2_draft 15 = .ok (.aload_n 1, 1) := by decide +kernel
theorem dX2_draft_16 : decode cX2_draft 16 = .ok (.getfield 28, 3) := by decide +kernel
theorem dX2_draft_19 : decode cX2_draft 19 = .ok (.iastore, 1) := by decide +kernel
theorem dX2_draft_20 : decode cX2_draft 20 = .ok (.aload_n 0, 1) := by decide +kernel
theorem dX2_draft_21 : decode cX2_draft 21 = .ok (.getfield 11, 3) := by decide +kernel
theorem dX2_draft_24 : decode cX2_draft 24 = .ok (.iload_n 2, 1) := by decide +kernel
theorem dX2_draft_25 : decode cX2_draft 25 = .ok (.iconst 2, 1) := by decide +kernel
theorem dX2_draft_26 : decode cX2_draft 26 = .ok (.iadd, 1) := by decide +kernel
theorem dX2_draft_27 : decode cX2_draft 27 = .ok (.aload_n 1, 1) := by decide +kernel
theorem dX2_draft_28 : decode cX2_draft 28 = .ok (.getfield 33, 3) := by decide +kernel
theorem dX2_draft_31 : decode cX2_draft 31 = .ok (.iconst 0, 1) := by decide +kernel
theorem dX2_draft_32 : decode cX2_draft 32 = .ok (.iaload, 1) := by decide +kernel
theorem dX2_draft_33 : decode cX2_draft 33 = .ok (.iastore, 1) := by decide +kernel
theorem dX2_draft_34 : decode cX2_draft 34 = .ok (.aload_n 0, 1) := by decide +kernel
theorem dX2_draft_35 : decode cX2_draft 35 = .ok (.getfield 11, 3) := by decide +kernel
theorem dX2_draft_38 : decode cX2_draft 38 = .ok (.iload_n 2, 1) := by decide +kernel
theorem dX2_draft_39 : decode cX2_draft 39 = .ok (.iconst 3, 1) := by decide +kernel
theorem dX2_draft_40 : decode cX2_draft 40 = .ok (.iadd, 1) := by decide +kernel
theorem dX2_draft_41 : decode cX2_draft 41 = .ok (.aload_n 1, 1) := by decide +kernel
theorem dX2_draft_42 : decode cX2_draft 42 = .ok (.getfield 33, 3) := by decide +kernel
theorem dX2_draft_45 : decode cX2_draft 45 = .ok (.iconst 1, 1) := by decide +kernel
theorem dX2_draft_46 : decode cX2_draft 46 = .ok (.iaload, 1) := by decide +kernel
theorem dX2_draft_47 : decode cX2_draft 47 = .ok (.iastore, 1) := by decide +kernel
theorem dX2_draft_48 : decode cX2_draft 48 = .ok (.iconst 0, 1) := by decide +kernel
theorem dX2_draft_49 : decode cX2_draft 49 = .ok (.istore_n 3, 1) := by decide +kernel
theorem dX2_draft_50 : decode cX2_draft 50 = .ok (.iload_n 3, 1) := by decide +kernel
theorem dX2_draft_51 : decode cX2_draft 51 = .ok (.iconst 3, 1) := by decide +kernel
theorem dX2_draft_52 : decode cX2_draft 52 = .ok (.if_icmp .ge 37, 3) := by decide +kernel
theorem dX2_draft_55 : decode cX2_draft 55 = .ok (.aload_n 1, 1) := by decide +kernel
theorem dX2_draft_56 : decode cX2_draft 56 = .ok (.getfield 36, 3) := by decide +kernel
theorem dX2_draft_59 : decode cX2_draft 59 = .ok (.iload_n 3, 1) := by decide +kernel
theorem dX2_draft_60 : decode cX2_draft 60 = .ok (.invokestatic 39, 3) := by decide +kernel
theorem dX2_draft_63 : decode cX2_draft 63 = .ok (.bipush 8, 2) := by decide +kernel
theorem dX2_draft_65 : decode cX2_draft 65 = .ok (.imul, 1) := by decide +kernel
theorem dX2_draft_66 : decode cX2_draft 66 = .ok (.aload_n 0, 1) := by decide +kernel
theorem dX2_draft_67 : decode cX2_draft 67 = .ok (.getfield 11, 3) := by decide +kernel
theorem dX2_draft_70 : decode cX2_draft 70 = .ok (.iload_n 2, 1) := by decide +kernel
theorem dX2_draft_71 : decode cX2_draft 71 = .ok (.iconst 4, 1) := by decide +kernel
theorem dX2_draft_72 : decode cX2_draft 72 = .ok (.iadd, 1) := by decide +kernel
theorem dX2_draft_73 : decode cX2_draft 73 = .ok (.iload_n 3, 1) := by decide +kernel
theorem dX2_draft_74 : decode cX2_draft 74 = .ok (.bipush 8, 2) := by decide +kernel
theorem dX2_draft_76 : decode cX2_draft 76 = .ok (.imul, 1) := by decide +kernel
theorem dX2_draft_77 : decode cX2_draft 77 = .ok (.iadd, 1) := by decide +kernel
theorem dX2_draft_78 : decode cX2_draft 78 = .ok (.bipush 8, 2) := by decide +kernel
theorem dX2_draft_80 : decode cX2_draft 80 = .ok (.invokestatic 22, 3) := by decide +kernel
theorem dX2_draft_83 : decode cX2_draft 83 = .ok (.iinc 3 1, 3) := by decide +kernel
theorem dX2_draft_86 : decode cX2_draft 86 = .ok (.goto (-36), 3) := by decide +kernel
theorem dX2_draft_89 : decode cX2_draft 89 = .ok (.return_, 1) := by decide +kernel
theorem dX10_kindle_0 : decode cX10_kindle 0 = .ok (.aload_n 1, 1) := by decide +kernel
theorem dX10_kindle_1 : decode cX10_kindle 1 = .ok (.iload_n 2, 1) := by decide +kernel
theorem dX10_kindle_2 : decode cX10_kindle 2 = .ok (.invokevirtual 18, 3) := by decide +kernel
theorem dX10_kindle_5 : decode cX10_kindle 5 = .ok (.ifCond .ne 6, 3) := by decide +kernel
theorem dX10_kindle_8 : decode cX10_kindle 8 = .ok (.bipush (-2), 2) := by decide +kernel
theorem dX10_kindle_10 : decode cX10_kindle 10 = .ok (.ireturn, 1) := by decide +kernel
theorem dX10_quench_0 : decode cX10_quench 0 = .ok (.iload_n 3, 1) := by decide +kernel
theorem dX10_quench_1 : decode cX10_quench 1 = .ok (.iconst 1, 1) := by decide +kernel
theorem dX10_quench_2 : decode cX10_quench 2 = .ok (.bipush 20, 2) := by decide +kernel
theorem dX10_quench_4 : decode cX10_quench 4 = .ok (.invokestatic 49, 3) := by decide +kernel
theorem dX10_quench_7 : decode cX10_quench 7 = .ok (.ifCond .ne 5, 3) := by decide +kernel
theorem dX10_quench_12 : decode cX10_quench 12 = .ok (.aload_n 1, 1) := by decide +kernel
theorem dX10_quench_13 : decode cX10_quench 13 = .ok (.iload_n 2, 1) := by decide +kernel
theorem dX10_quench_14 : decode cX10_quench 14 = .ok (.invokevirtual 18, 3) := by decide +kernel
theorem dX10_quench_17 : decode cX10_quench 17 = .ok (.ifCond .ne 6, 3) := by decide +kernel
theorem dX10_quench_20 : decode cX10_quench 20 = .ok (.bipush (-2), 2) := by decide +kernel
theorem dX10_quench_22 : decode cX10_quench 22 = .ok (.ireturn, 1) := by decide +kernel
theorem dX10_quench_10 : decode cX10_quench 10 = .ok (.iconst (-1), 1) := by decide +kernel
theorem dX10_quench_11 : decode cX10_quench 11 = .ok (.ireturn, 1) := by decide +kernel
theorem dX10_supply_0 : decode cX10_supply 0 = .ok (.iload_n 3, 1) := by decide +kernel
theorem dX10_supply_1 : decode cX10_supply 1 = .ok (.iconst 1, 1) := by decide +kernel
theorem dX10_supply_2 : decode cX10_supply 2 = .ok (.sipush 999, 3) := by decide +kernel
theorem dX10_supply_5 : decode cX10_supply 5 = .ok (.invokestatic 49, 3) := by decide +kernel
theorem dX10_supply_8 : decode cX10_supply 8 = .ok (.ifCond .ne 5, 3) := by decide +kernel
theorem dX10_supply_13 : decode cX10_supply 13 = .ok (.aload_n 1, 1) := by decide +kernel
theorem dX10_supply_14 : decode cX10_supply 14 = .ok (.iload_n 2, 1) := by decide +kernel
theorem dX10_supply_15 : decode cX10_supply 15 = .ok (.invokevirtual 18, 3) := by decide +kernel
theorem dX10_supply_18 : decode cX10_supply 18 = .ok (.ifCond .ne 6, 3) := by decide +kernel
theorem dX10_supply_21 : decode cX10_supply 21 = .ok (.bipush (-2), 2) := by decide +kernel
theorem dX10_supply_23 : decode cX10_supply 23 = .ok (.ireturn, 1) := by decide +kernel
theorem dX10_supply_11 : decode cX10_supply 11 = .ok (.iconst (-1), 1) := by decide +kernel
theorem dX10_supply_12 : decode cX10_supply 12 = .ok (.ireturn, 1) := by decide +kernel
theorem dX11_settle_0 : decode cX11_settle 0 = .ok (.iload_n 2, 1) := by decide +kernel
theorem dX11_settle_1 : decode cX11_settle 1 = .ok (.ifCond .ge 9, 3) := by decide +kernel
theorem dX11_settle_4 : decode cX11_settle 4 = .ok (.aload_n 0, 1) := by decide +kernel
theorem dX11_settle_5 : decode cX11_settle 5 = .ok (.iload_n 2, 1) := by decide +kernel
theorem dX11_settle_6 : decode cX11_settle 6 = .ok (.invokevirtual 101, 3) := by decide +kernel
theorem dX11_settle_9 : decode cX11_settle 9 = .ok (.ireturn, 1) := by decide +kernel
theorem dX2_keep_0 : decode cX2_keep 0 = .ok (.aload_n 0, 1) := by decide +kernel
theorem dX2_keep_1 : decode cX2_keep 1 = .ok (.getfield 11, 3) := by decide +kernel
theorem dX2_keep_4 : decode cX2_keep 4 = .ok (.aload_n 0, 1) := by decide +kernel
theorem dX2_keep_5 : decode cX2_keep 5 = .ok (.getfield 15, 3) := by decide +kernel
theorem dX2_keep_8 : decode cX2_keep 8 = .ok (.bipush 28, 2) := by decide +kernel
theorem dX2_keep_10 : decode cX2_keep 10 = .ok (.imul, 1) := by decide +kernel
theorem dX2_keep_11 : decode cX2_keep 11 = .ok (.iload_n 1, 1) := by decide +kernel
theorem dX2_keep_12 : decode cX2_keep 12 = .ok (.iastore, 1) := by decide +kernel
theorem dX2_keep_13 : decode cX2_keep 13 = .ok (.aload_n 0, 1) := by decide +kernel
theorem dX2_keep_14 : decode cX2_keep 14 = .ok (.aload_n 0, 1) := by decide +kernel
theorem dX2_keep_15 : decode cX2_keep 15 = .ok (.getfield 15, 3) := by decide +kernel
theorem dX2_keep_18 : decode cX2_keep 18 = .ok (.iconst 1, 1) := by decide +kernel
theorem dX2_keep_19 : decode cX2_keep 19 = .ok (.iadd, 1) := by decide +kernel
theorem dX2_keep_20 : decode cX2_keep 20 = .ok (.bipush 17, 2) := by decide +kernel
theorem dX2_keep_22 : decode cX2_keep 22 = .ok (.irem, 1) := by decide +kernel
theorem dX2_keep_23 : decode cX2_keep 23 = .ok (.putfield 15, 3) := by decide +kernel
theorem dX2_keep_26 : decode cX2_keep 26 = .ok (.aload_n 0, 1) := by decide +kernel
theorem dX2_keep_27 : decode cX2_keep 27 = .ok (.bipush 16, 2) := by decide +kernel
theorem dX2_keep_29 : decode cX2_keep 29 = .ok (.aload_n 0, 1) := by decide +kernel
theorem dX2_keep_30 : decode cX2_keep 30 = .ok (.getfield 19, 3) := by decide +kernel
theorem dX2_keep_33 : decode cX2_keep 33 = .ok (.iconst 1, 1) := by decide +kernel
theorem dX2_keep_34 : decode cX2_keep 34 = .ok (.iadd, 1) := by decide +kernel
theorem dX2_keep_35 : decode cX2_keep 35 = .ok (.invokestatic 43, 3) := by decide +kernel
theorem dX2_keep_38 : decode cX2_keep 38 = .ok (.putfield 19, 3) := by decide +kernel
theorem dX2_keep_41 : decode cX2_keep 41 = .ok (.return_, 1) := by decide +kernel
theorem dX11_settle_10 : decode cX11_settle 10 = .ok (.aload_n 0, 1) := by decide +kernel
theorem dX11_settle_11 : decode cX11_settle 11 = .ok (.getfield 61, 3) := by decide +kernel
theorem dX11_settle_14 : decode cX11_settle 14 = .ok (.iload_n 1, 1) := by decide +kernel
theorem dX11_settle_15 : decode cX11_settle 15 = .ok (.invokevirtual 300, 3) := by decide +kernel
theorem dX11_settle_18 : decode cX11_settle 18 = .ok (.aload_n 0, 1) := by decide +kernel
theorem dX11_settle_19 : decode cX11_settle 19 = .ok (.iload_n 2, 1) := by decide +kernel
theorem dX11_settle_20 : decode cX11_settle 20 = .ok (.invokevirtual 118, 3) := by decide +kernel
theorem dX11_settle_23 : decode cX11_settle 23 = .ok (.ireturn, 1) := by decide +kernel
set_option maxRecDepth 20000 in
theorem ggX9_meetsChord_X9_chordAt : GoodIn wsX9_meetsChord wsX9_chordAt := goodIn_r _ [6, 7, 26, 27, 28, 29, 30, 31, 32, 33, 34, 35] (by decide +kernel) (by decide +kernel)
set_option maxRecDepth 20000 in
theorem gX9_meetsChord_X9_chordAt : GoodIn wsX9_meetsChord (wsV RX9 85 RX9 yX9_chordAt wsX9_chordAt) := goodIn_app (goodIn_of _ (by decide +kernel)) ggX9_meetsChord_X9_chordAt
set_option maxRecDepth 20000 in
theorem ggX9_meetsChord_X9_notesNow : GoodIn wsX9_meetsChord wsX9_notesNow := goodIn_r _ [11, 12, 13, 14, 15, 5, 16, 17, 18, 19, 20, 21, 22, 23, 24, 25, 1, 26, 27, 28, 29, 30, 31, 32, 33, 34, 35] (by decide +kernel) (by decide +kernel)
set_option maxRecDepth 20000 in
theorem gX9_meetsChord_X9_notesNow : GoodIn wsX9_meetsChord (wsV RX9 81 RX9 yX9_notesNow wsX9_notesNow) := goodIn_app (goodIn_of _ (by decide +kernel)) ggX9_meetsChord_X9_notesNow
set_option maxRecDepth 20000 in
theorem ggX10_nextHour_X9_meetsChord : GoodIn wsX10_nextHour wsX9_meetsChord := goodIn_r _ [9, 10, 11, 12, 13, 7, 14, 15, 16, 17, 18, 19, 20, 21, 22, 23, 24, 25, 26, 27, 28, 29, 30, 31, 32, 33, 101, 102, 103, 104, 105, 106, 107, 108, 109, 110] (by decide +kernel) (by decide +kernel)
set_option maxRecDepth 20000 in
theorem gX10_nextHour_X9_meetsChord_n60 : GoodIn wsX10_nextHour (wsX9_meetsChord) := ggX10_nextHour_X9_meetsChord
set_option maxRecDepth 20000 in
theorem ggX10_nextHour_X10_discords : GoodIn wsX10_nextHour wsX10_discords := goodIn_r _ [38, 39, 22, 7, 23, 24, 25, 26, 27, 28, 29, 30, 31, 32, 33, 10, 40, 41, 42, 43, 44, 4, 45, 46, 47, 48, 49, 50, 51, 52, 53, 54, 55, 56, 57, 58, 59, 60, 61, 62, 63, 64, 65, 66, 67, 68, 69, 70, 71, 3, 5, 72, 73, 74, 75, 76, 77, 78, 79, 80, 81, 82, 83, 84, 85, 86, 87, 88, 89, 90, 91, 92, 101, 102, 103, 104, 105, 106, 107, 108, 109, 110, 111, 112, 113, 114, 115, 116, 117, 118, 119] (by decide +kernel) (by decide +kernel)
set_option maxRecDepth 20000 in
theorem gX10_nextHour_X10_discords : GoodIn wsX10_nextHour (wsV RX10 69 RX10 yX10_discords wsX10_discords) := goodIn_app (goodIn_of _ (by decide +kernel)) ggX10_nextHour_X10_discords
set_option maxRecDepth 20000 in
theorem ggX10_nextHour_X10_burnDown : GoodIn wsX10_nextHour wsX10_burnDown := goodIn_r _ [96, 39, 2, 3, 4, 5, 97, 73, 74, 26, 7, 27, 28, 29, 46, 47, 48, 49, 50, 98, 99, 100, 64, 65, 66, 54, 55, 56, 57, 58, 59, 60, 61, 62, 63, 67, 68, 69, 70, 71, 72, 75, 76, 77, 78, 79, 80, 81, 82, 83, 84, 85, 86, 87, 88, 89, 90, 91, 92, 101, 102, 103, 104, 105, 106, 107, 108, 109, 110, 111, 112, 113, 114, 115, 116, 117, 118, 119] (by decide +kernel) (by decide +kernel)
set_option maxRecDepth 20000 in
theorem gX10_nextHour_X10_burnDown : GoodIn wsX10_nextHour (wsV RX10 73 RX10 yX10_burnDown wsX10_burnDown) := goodIn_app (goodIn_of _ (by decide +kernel)) ggX10_nextHour_X10_burnDown
set_option maxRecDepth 20000 in
theorem ggX2_draft_X2_changing : GoodIn wsX2_draft wsX2_changing := goodIn_r _ [10] (by decide +kernel) (by decide +kernel)
set_option maxRecDepth 20000 in
theorem gX2_draft_X2_changing : GoodIn wsX2_draft (va_wsS RX2 39 yX2_changing wsX2_changing) := goodIn_app (goodIn_of _ (by decide +kernel)) ggX2_draft_X2_changing
set_option maxRecDepth 20000 in
theorem ggX10_kindle_X9_has : GoodIn wsX10_kindle wsX9_has := goodIn_r _ [9, 10, 63, 64, 65, 66, 67, 68, 69, 70, 71, 72] (by decide +kernel) (by decide +kernel)
set_option maxRecDepth 20000 in
theorem gX10_kindle_X9_has_n18 : GoodIn wsX10_kindle (wsX9_has) := ggX10_kindle_X9_has
set_option maxRecDepth 20000 in
theorem ggX10_quench_X11_within : GoodIn wsX10_quench wsX11_within := goodIn_r _ [7] (by decide +kernel) (by decide +kernel)
set_option maxRecDepth 20000 in
theorem gX10_quench_X11_within_n49 : GoodIn wsX10_quench (wsX11_within) := ggX10_quench_X11_within
set_option maxRecDepth 20000 in
theorem ggX10_quench_X9_has : GoodIn wsX10_quench wsX9_has := goodIn_r _ [11, 12, 20, 21, 22, 23, 24, 25, 26, 27, 28, 29] (by decide +kernel) (by decide +kernel)
set_option maxRecDepth 20000 in
theorem gX10_quench_X9_has_n18 : GoodIn wsX10_quench (wsX9_has) := ggX10_quench_X9_has
set_option maxRecDepth 20000 in
theorem ggX10_supply_X11_within : GoodIn wsX10_supply wsX11_within := goodIn_r _ [7] (by decide +kernel) (by decide +kernel)
set_option maxRecDepth 20000 in
theorem gX10_supply_X11_within_n49 : GoodIn wsX10_supply (wsX11_within) := ggX10_supply_X11_within
set_option maxRecDepth 20000 in
theorem ggX10_supply_X9_has : GoodIn wsX10_supply wsX9_has := goodIn_r _ [11, 12, 20, 21, 22, 23, 24, 25, 26, 27, 28, 29] (by decide +kernel) (by decide +kernel)
set_option maxRecDepth 20000 in
theorem gX10_supply_X9_has_n18 : GoodIn wsX10_supply (wsX9_has) := ggX10_supply_X9_has
set_option maxRecDepth 20000 in
theorem ggX11_settle_X11_refuse : GoodIn wsX11_settle wsX11_refuse := goodIn_r _ [6, 7, 8, 9, 10, 5, 11, 27, 28, 29, 30, 31, 32, 33, 34, 35, 36, 37, 38, 39, 40, 41, 42, 43] (by decide +kernel) (by decide +kernel)
set_option maxRecDepth 20000 in
theorem gX11_settle_X11_refuse : GoodIn wsX11_settle (wsV RX11 101 RX11 yX11_refuse wsX11_refuse) := goodIn_app (goodIn_of _ (by decide +kernel)) ggX11_settle_X11_refuse
set_option maxRecDepth 20000 in
theorem ggX11_settle_X2_keep : GoodIn wsX11_settle wsX2_keep := goodIn_r _ [15, 16, 17, 18, 19, 20, 21, 22, 44, 45, 46] (by decide +kernel) (by decide +kernel)
set_option maxRecDepth 20000 in
theorem gX11_settle_X2_keep_n300 : GoodIn wsX11_settle (wsX2_keep) := ggX11_settle_X2_keep
set_option maxRecDepth 20000 in
theorem ggX11_settle_X11_accept : GoodIn wsX11_settle wsX11_accept := goodIn_r _ [26, 8, 27, 28, 29, 30, 31, 32, 33, 34, 35, 36, 37, 38, 39, 40, 41, 42, 43] (by decide +kernel) (by decide +kernel)
set_option maxRecDepth 20000 in
theorem gX11_settle_X11_accept : GoodIn wsX11_settle (wsV RX11 118 RX11 yX11_accept wsX11_accept) := goodIn_app (goodIn_of _ (by decide +kernel)) ggX11_settle_X11_accept
set_option maxHeartbeats 4000000 in
set_option maxRecDepth 100000 in
theorem c_meetsChord (l : Launch) (D : va_G) (K : Nat → ClassId) (a0 : Nat) (k0 : Value) (a2 : Nat) (a3 : Nat) (k3 : Value) (k5 : Value) (k6 : Value) (k7 : Value) (k8 : Value) (k9 : Value) (fc : Nat → Int32) (ft : Nat → Int32) (hh : Nat) (dd : Nat) (sz : Nat) (h0 : ft 0 = nI hh) (h1 : ft 1 = nI dd) (hh24 : hh < 24) (hd99 : dd < 999) (hc : ∀ j, j < 24 → fc j = 0) : Met l yX9_meetsChord wsX9_meetsChord ({ frames := 1, cells := 0, slots := 0, locals := 22 }) (va_Pc [.ref a0] (Pre D K [(a0, .inr (9, [k0, .ref a2, .ref a3, k3, .int 0, k5, k6, k7, k8, k9])), (a2, .inl (K 0, 24, .inl fc)), (a3, .inl (K 0, 6, .inl ft))] sz)) (vp_Si (fun r : Int32 => (r = 1))) 0 0 (fun _ => False) := by
  refine Met.ofW (cc := cX9_meetsChord) (maxL := 2) (ret := (some .boolean)) (by decide) rfl ?_
  intro p e s m args below meth c s₁ B hml hv
  obtain ⟨rfl, hsz, hP, hK, hD0, hN⟩ := hv
  have hx := B.exec
  have hb := B.bytes
  have hr := B.returns
  have hts := atoms_spec (ws := wsX9_meetsChord) B.pre
  have hown : s.vm.findClass RX9 = some m.cls := findClass_of_methodNamed B.named
  have hlocks := B.notSynchronized
  subst hsz
  have hD := hD0
  have hP : va_P D vwCl [(a0, .inr (9, [k0, .ref a2, .ref a3, k3, .int 0, k5, k6, k7, k8, k9])), (a2, .inl (K 0, 24, .inl fc)), (a3, .inl (K 0, 6, .inl ft))] s.heap := hP
  have hl := lv_entry [.ref a0] (n := 2) (Nat.le_of_ble_eq_true rfl)
  rw [lg_entry_eq]
  generalize (lg_sl [.ref a0] ++ List.replicate (2 - (lg_sl [.ref a0]).length) Slot.unset).toArray = ls at hl ⊢
  have hl : lv_has ls 2 [(0, .ref a0)] := hl
  have hw9 : ∀ w ∈ wsX90, w ∈ wsX9_meetsChord := fun w h => (List.mem_cons_of_mem _ (List.mem_append_right _ h))
  refine lv_aload_n hx hb dX9_meetsChord_0 rfl (lv_at hl 0 rfl) ?_
  refine lv_aload_n hx hb dX9_meetsChord_1 rfl (lv_at hl 0 rfl) ?_
  refine va_get (ci := 9) (v := .ref a3) (C := RX9) (T := TX9) (N := 10) hx hb hts hw9 hown hK hP 0 rfl rfl 2 (by decide) (hts (.fieldLink RX9 18 "SmokeTune$Town" "terms" "[I") (List.mem_cons_of_mem _ (List.mem_append_left _ (List.mem_append_left _ (List.mem_of_getElem? (i := 0) rfl))))) (fun _ h9 => h9) rfl dX9_meetsChord_2 ?_
  refine lv_iconst (v := 0) hx hb dX9_meetsChord_5 (by decide) ?_
  refine va_iald hx hb hK hP 2 0 rfl rfl (i_in (x := 0) rfl (by omega)) dX9_meetsChord_6 ?_
  refine lv_topi (fun x_1 ex_1 => ?_)
  obtain rfl : x_1 = (nI hh) := ex_1.trans h0
  refine pci (va_runV (As := [.int (nI hh)]) (rest := []) ⟨hx, hb, hml, hown, hts⟩ (c_chordAt l D K a0 (nI hh) k0 a2 (.ref a3) k3 (.int 0) k5 k6 k7 k8 k9 fc ((hh : Nat) : Int) s.heap.size (nI_toInt (by omega)) hc) (cwV 1 hts gX9_meetsChord_X9_chordAt rfl rfl rfl (by decide +kernel) ⟨Nat.le_of_ble_eq_true rfl, Nat.le_of_ble_eq_true rfl⟩) (mkV hK hN (hP.sub [0, 1] rfl) (hD.sub [0, 1] (by decide) rfl) (ci := 9) (q0 := 0) rfl rfl) rfl rfl hl.1 rfl (lv_room (Nat.le_of_ble_eq_true rfl)) dX9_meetsChord_7 ⟨Nat.le_of_ble_eq_true rfl, Nat.le_of_ble_eq_true rfl⟩) (fun r_2 hw => ?_)
  rcases hw with ⟨rfl, h_3, h_4⟩ | ⟨rfl, h_5⟩
  · refine lv_istore_n (lv' := [(1, .int 0), (0, .ref a0)]) hx hb dX9_meetsChord_10 rfl hl (by decide) rfl (fun ls hl => ?_)
    refine lv_aload_n hx hb dX9_meetsChord_11 rfl (lv_at hl 1 rfl) ?_
    refine pci (va_runV (As := []) (rest := []) ⟨hx, hb, hml, hown, hts⟩ (c_notesNow l D K a0 k0 (.ref a2) (.ref a3) k3 k5 k6 k7 k8 k9 s.heap.size) (cwV 0 hts gX9_meetsChord_X9_notesNow rfl rfl rfl (by decide +kernel) ⟨Nat.le_of_ble_eq_true rfl, Nat.le_of_ble_eq_true rfl⟩) (mkV hK hN (hP.sub [0] rfl) (hD.sub [0] (by decide) rfl) (ci := 9) (q0 := 0) rfl rfl) rfl rfl hl.1 rfl (lv_room (Nat.le_of_ble_eq_true rfl)) dX9_meetsChord_12 ⟨Nat.le_of_ble_eq_true rfl, Nat.le_of_ble_eq_true rfl⟩) (fun r_6 hw => ?_)
    obtain rfl : r_6 = 0 := hw
    refine lv_iload_n hx hb dX9_meetsChord_15 rfl (lv_at hl 0 rfl) ?_
    refine lv_iand hx hb dX9_meetsChord_16 ?_
    refine lv_topi (fun x_7 ex_7 => ?_)
    obtain rfl : x_7 = 0 := ex_7.trans (by first | rfl | decide)
    refine lv_iload_n hx hb dX9_meetsChord_17 rfl (lv_at hl 0 rfl) ?_
    refine lv_icmp_ne (tgt := 25) hx hb dX9_meetsChord_18 (by decide) (fun c_8 => absurd (by decide) c_8) (fun c_8 => ?_)
    refine lv_iconst (v := 1) hx hb dX9_meetsChord_21 (by decide) ?_
    refine lv_goto (tgt := 26) hx hb dX9_meetsChord_22 (by decide) ?_
    exact W.zret (v := 1) hx hb hr (by first | rfl | decide) (fun t ht hW => ⟨_, rfl, (by first | exact rfl), ht⟩) (fun q hq => by cases hq) dX9_meetsChord_26
  · exfalso; omega
set_option maxHeartbeats 4000000 in
set_option maxRecDepth 100000 in
theorem c_burnDown (l : Launch) (D : va_G) (K : Nat → ClassId) (a0 : Nat) (a1 : Nat) (g0 : Value) (k0 : Value) (k1 : Value) (k2 : Value) (k3 : Value) (k5 : Value) (k6 : Value) (k7 : Value) (k8 : Value) (k9 : Value) (sz : Nat) : Met l yX10_burnDown wsX10_burnDown ({ frames := 0, cells := 0, slots := 0, locals := 0 }) (va_Pc [.ref a0, .ref a1] (Pre D K [(a0, .inr (10, [g0])), (a1, .inr (9, [k0, k1, k2, k3, .int 0, k5, k6, k7, k8, k9]))] sz)) (va_Sv (fun _ => True)) 0 0 (fun _ => False) := by
  refine Met.ofW (cc := cX10_burnDown) (maxL := 4) (ret := none) (by decide) rfl ?_
  intro p e s m args below meth c s₁ B hml hv
  obtain ⟨rfl, hsz, hP, hK, hD0, hN⟩ := hv
  have hx := B.exec
  have hb := B.bytes
  have hr := B.returns
  have hts := atoms_spec (ws := wsX10_burnDown) B.pre
  have hown : s.vm.findClass RX10 = some m.cls := findClass_of_methodNamed B.named
  have hlocks := B.notSynchronized
  subst hsz
  have hD := hD0
  have hP : va_P D vwCl [(a0, .inr (10, [g0])), (a1, .inr (9, [k0, k1, k2, k3, .int 0, k5, k6, k7, k8, k9]))] s.heap := hP
  have hl := lv_entry [.ref a0, .ref a1] (n := 4) (Nat.le_of_ble_eq_true rfl)
  rw [lg_entry_eq]
  generalize (lg_sl [.ref a0, .ref a1] ++ List.replicate (4 - (lg_sl [.ref a0, .ref a1]).length) Slot.unset).toArray = ls at hl ⊢
  have hl : lv_has ls 4 [(0, .ref a0), (1, .ref a1)] := hl
  have hw0 : ∀ w ∈ wsX00, w ∈ wsX10_burnDown := fun w h => (List.mem_cons_of_mem _ (List.mem_append_left _ (List.mem_append_left _ (List.mem_append_right _ h))))
  have hw3 : ∀ w ∈ wsX30, w ∈ wsX10_burnDown := fun w h => (List.mem_cons_of_mem _ (List.mem_append_right _ h))
  have hw7 : ∀ w ∈ wsX70, w ∈ wsX10_burnDown := fun w h => (List.mem_cons_of_mem _ (List.mem_append_left _ (List.mem_append_right _ h)))
  have hw9 : ∀ w ∈ wsX90, w ∈ wsX10_burnDown := fun w h => (List.mem_cons_of_mem _ (List.mem_append_left _ (List.mem_append_left _ (List.mem_append_left _ (List.mem_append_left _ (List.mem_append_right _ h))))))
  have hw10 : ∀ w ∈ wsX100, w ∈ wsX10_burnDown := fun w h => (List.mem_cons_of_mem _ (List.mem_append_left _ (List.mem_append_left _ (List.mem_append_left _ (List.mem_append_right _ h)))))
  refine lv_iconst (v := 0) hx hb dX10_burnDown_0 (by decide) ?_
  refine lv_istore_n (lv' := [(2, .int 0), (0, .ref a0), (1, .ref a1)]) hx hb dX10_burnDown_1 rfl hl (by decide) rfl (fun ls hl => ?_)
  refine lv_iload_n hx hb dX10_burnDown_2 rfl (lv_at hl 0 rfl) ?_
  refine lv_aload_n hx hb dX10_burnDown_3 rfl (lv_at hl 2 rfl) ?_
  refine va_getN (ci := 9) (v := .int 0) (C := RX9) (T := TX9) (N := 10) hx hb hts hw9 hown hK hP 1 rfl rfl 4 (by decide) (nst_use hN 109 rfl) (fun _ h9 => h9) rfl dX10_burnDown_4 ?_
  refine lv_icmp_ge (tgt := 80) hx hb dX10_burnDown_7 (by decide) (fun c_1 => ?_) (fun c_1 => absurd (by decide) c_1)
  exact W.vret hx hb hr (fun t ht hW => ⟨rfl, trivial, ht⟩) (fun q hq => by cases hq) dX10_burnDown_80
set_option maxHeartbeats 4000000 in
set_option maxRecDepth 100000 in
theorem c_nextHour (l : Launch) (D : va_G) (K : Nat → ClassId) (a0 : Nat) (a1 : Nat) (g0 : Value) (k0 : Value) (a2 : Nat) (a3 : Nat) (k3 : Value) (k5 : Value) (k6 : Value) (k8 : Value) (k9 : Value) (fc : Nat → Int32) (ft : Nat → Int32) (hh : Nat) (dd : Nat) (sz : Nat) (h0 : ft 0 = nI hh) (h1 : ft 1 = nI dd) (hh24 : hh < 24) (hd99 : dd < 999) (hc : ∀ j, j < 24 → fc j = 0) : Met l yX10_nextHour wsX10_nextHour ({ frames := 2, cells := 0, slots := 0, locals := 43 }) (va_Pc [.ref a0, .ref a1] (Pre D K [(a0, .inr (10, [g0])), (a1, .inr (9, [k0, .ref a2, .ref a3, k3, .int 0, k5, k6, .int 0, k8, k9])), (a2, .inl (K 0, 24, .inl fc)), (a3, .inl (K 0, 6, .inl ft))] sz)) (va_Qi (S := (Nat → Nat) × (Nat → Nat → Int32) × (Nat → Nat → Int64) × (Nat → Int32)) (fun (r : Int32) (u : (Nat → Nat) × (Nat → Nat → Int32) × (Nat → Nat → Int64) × (Nat → Int32)) => r = 1 ∧ u.2.1 0 0 = nI (if hh = 23 then 0 else hh + 1) ∧ u.2.1 0 1 = nI (if hh = 23 then dd + 1 else dd)) (fun u t => Wd D (va_A [(a0, .inr (10, [g0])), (a1, .inr (9, [k0, .ref a2, .ref a3, k3, .int 0, k5, k6, .int 0, k8, k9])), (a2, .inl (K 0, 24, .inl fc)), (a3, .inl (K 0, 6, .inl ft))] sz) ((fun u => [(a0, .inr (10, [g0])), (a1, .inr (9, [k0, .ref a2, .ref a3, k3, .int 0, k5, k6, .int 0, k8, k9])), (a2, .inl (K 0, 24, .inl fc)), (a3, .inl (K 0, 6, .inl ((u.2.1 0))))]) u) t) (va_A [(a0, .inr (10, [g0])), (a1, .inr (9, [k0, .ref a2, .ref a3, k3, .int 0, k5, k6, .int 0, k8, k9])), (a2, .inl (K 0, 24, .inl fc)), (a3, .inl (K 0, 6, .inl ft))] sz)) 0 0 (va_A [(a0, .inr (10, [g0])), (a1, .inr (9, [k0, .ref a2, .ref a3, k3, .int 0, k5, k6, .int 0, k8, k9])), (a2, .inl (K 0, 24, .inl fc)), (a3, .inl (K 0, 6, .inl ft))] sz) := by
  refine Met.ofW (cc := cX10_nextHour) (maxL := 4) (ret := (some .int)) (by decide) rfl ?_
  intro p e s m args below meth c s₁ B hml hv
  obtain ⟨rfl, hsz, hP, hK, hD0, hN⟩ := hv
  have hx := B.exec
  have hb := B.bytes
  have hr := B.returns
  have hts := atoms_spec (ws := wsX10_nextHour) B.pre
  have hown : s.vm.findClass RX10 = some m.cls := findClass_of_methodNamed B.named
  have hlocks := B.notSynchronized
  subst hsz
  have hD := hD0.self (sz := s.heap.size)
  generalize hAe : va_A [(a0, .inr (10, [g0])), (a1, .inr (9, [k0, .ref a2, .ref a3, k3, .int 0, k5, k6, .int 0, k8, k9])), (a2, .inl (K 0, 24, .inl fc)), (a3, .inl (K 0, 6, .inl ft))] s.heap.size = A at hD ⊢
  have hA : ∀ q : Nat, s.heap.size ≤ q → A q := fun q h => by rw [← hAe]; exact Or.inr h
  have hS : va_S A s.heap s.heap [] := va_S.rf
  have hP : va_P D vwCl [(a0, .inr (10, [g0])), (a1, .inr (9, [k0, .ref a2, .ref a3, k3, .int 0, k5, k6, .int 0, k8, k9])), (a2, .inl (K 0, 24, .inl fc)), (a3, .inl (K 0, 6, .inl ft))] s.heap := hP
  have hl := lv_entry [.ref a0, .ref a1] (n := 4) (Nat.le_of_ble_eq_true rfl)
  rw [lg_entry_eq]
  generalize (lg_sl [.ref a0, .ref a1] ++ List.replicate (4 - (lg_sl [.ref a0, .ref a1]).length) Slot.unset).toArray = ls at hl ⊢
  have hl : lv_has ls 4 [(0, .ref a0), (1, .ref a1)] := hl
  have hw0 : ∀ w ∈ wsX00, w ∈ wsX10_nextHour := fun w h => (List.mem_cons_of_mem _ (List.mem_append_left _ (List.mem_append_left _ (List.mem_append_right _ h))))
  have hw3 : ∀ w ∈ wsX30, w ∈ wsX10_nextHour := fun w h => (List.mem_cons_of_mem _ (List.mem_append_right _ h))
  have hw7 : ∀ w ∈ wsX70, w ∈ wsX10_nextHour := fun w h => (List.mem_cons_of_mem _ (List.mem_append_left _ (List.mem_append_right _ h)))
  have hw9 : ∀ w ∈ wsX90, w ∈ wsX10_nextHour := fun w h => (List.mem_cons_of_mem _ (List.mem_append_left _ (List.mem_append_left _ (List.mem_append_left _ (List.mem_append_left _ (List.mem_append_right _ h))))))
  have hw10 : ∀ w ∈ wsX100, w ∈ wsX10_nextHour := fun w h => (List.mem_cons_of_mem _ (List.mem_append_left _ (List.mem_append_left _ (List.mem_append_left _ (List.mem_append_right _ h)))))
  refine lv_aload_n hx hb dX10_nextHour_0 rfl (lv_at hl 1 rfl) ?_
  refine va_getN (ci := 9) (v := .ref a3) (C := RX9) (T := TX9) (N := 10) hx hb hts hw9 hown hK hP 1 rfl rfl 2 (by decide) (nst_use hN 101 rfl) (fun _ h9 => h9) rfl dX10_nextHour_1 ?_
  refine lv_iconst (v := 0) hx hb dX10_nextHour_4 (by decide) ?_
  refine va_iald hx hb hK hP 3 0 rfl rfl (i_in (x := 0) rfl (by omega)) dX10_nextHour_5 ?_
  refine lv_topi (fun x_1 ex_1 => ?_)
  obtain rfl : x_1 = (nI hh) := ex_1.trans h0
  refine lv_bipush (v := 23) hx hb dX10_nextHour_6 (by decide) ?_
  refine lv_icmp_ne (tgt := 15) hx hb dX10_nextHour_8 (by decide) (fun c_2 => ?_) (fun c_2 => ?_)
  · have c_2i := i_ne (x := ((hh : Nat) : Int)) (y := 23) (nI_toInt (by omega)) rfl c_2
    refine lv_iconst (v := 0) hx hb dX10_nextHour_15 (by decide) ?_
    refine lv_istore_n (lv' := [(2, .int 0), (0, .ref a0), (1, .ref a1)]) hx hb dX10_nextHour_16 rfl hl (by decide) rfl (fun ls hl => ?_)
    refine lv_iload_n hx hb dX10_nextHour_17 rfl (lv_at hl 0 rfl) ?_
    refine lv_if_eq (tgt := 36) hx hb dX10_nextHour_18 (by decide) (fun c_3 => ?_) (fun c_3 => absurd (by decide) c_3)
    refine lv_aload_n hx hb dX10_nextHour_36 rfl (lv_at hl 2 rfl) ?_
    refine pci (va_runVN (As := []) (rest := []) ⟨hx, hb, hml, hown, hts⟩ (c_meetsChord l D K a1 k0 a2 a3 k3 k5 k6 (.int 0) k8 k9 fc ft hh dd s.heap.size h0 h1 (by omega) (by omega) hc) ⟨va_cnB 0 hts gX10_nextHour_X9_meetsChord_n60 rfl rfl rfl (nst_at hN 60 rfl) (hts (.initialized RX9) (List.mem_cons_of_mem _ (List.mem_append_left _ (List.mem_append_left _ (List.mem_append_left _ (List.mem_append_left _ (List.mem_append_left _ (List.mem_append_left _ (List.mem_of_getElem? (i := 6) rfl))))))))) (by decide +kernel) ⟨Nat.le_of_ble_eq_true rfl, Nat.le_of_ble_eq_true rfl⟩, (hts (.instanceMethod yX9_meetsChord) (List.mem_cons_of_mem _ (List.mem_append_left _ (List.mem_append_left _ (List.mem_append_left _ (List.mem_append_left _ (List.mem_append_left _ (List.mem_append_left _ (List.mem_of_getElem? (i := 5) rfl))))))))), (hts (.selects RX9 yX9_meetsChord yX9_meetsChord) (List.mem_cons_of_mem _ (List.mem_append_left _ (List.mem_append_left _ (List.mem_append_left _ (List.mem_append_left _ (List.mem_append_left _ (List.mem_append_left _ (List.mem_of_getElem? (i := 7) rfl)))))))))⟩ (mkV hK hN (hP.sub [1, 2, 3] rfl) (hD.sub [1, 2, 3] (by decide) rfl) (ci := 9) (q0 := 0) rfl rfl) rfl rfl hl.1 rfl (lv_room (Nat.le_of_ble_eq_true rfl)) dX10_nextHour_37 ⟨Nat.le_of_ble_eq_true rfl, Nat.le_of_ble_eq_true rfl⟩) (fun r_4 hw => ?_)
    obtain rfl : r_4 = 1 := hw
    refine lv_if_eq (tgt := 47) hx hb dX10_nextHour_40 (by decide) (fun c_5 => absurd c_5 (by decide)) (fun c_5 => ?_)
    refine lv_iconst (v := 1) hx hb dX10_nextHour_43 (by decide) ?_
    refine lv_goto (tgt := 48) hx hb dX10_nextHour_44 (by decide) ?_
    refine lv_istore_n (lv' := [(3, .int 1), (2, .int 0), (0, .ref a0), (1, .ref a1)]) hx hb dX10_nextHour_48 rfl hl (by decide) rfl (fun ls hl => ?_)
    refine lv_aload_n hx hb dX10_nextHour_49 rfl (lv_at hl 3 rfl) ?_
    refine lv_ldc (v := 99999) hx hb hown (hts (.constant RX10 64 (99999)) (List.mem_cons_of_mem _ (List.mem_append_left _ (List.mem_append_left _ (List.mem_append_left _ (List.mem_append_left _ (List.mem_append_left _ (List.mem_append_left _ (List.mem_of_getElem? (i := 0) rfl))))))))) dX10_nextHour_50 ?_
    refine lv_aload_n hx hb dX10_nextHour_52 rfl (lv_at hl 3 rfl) ?_
    refine va_getN (ci := 9) (v := .int 0) (C := RX9) (T := TX9) (N := 10) hx hb hts hw9 hown hK hP 1 rfl rfl 7 (by decide) (nst_use hN 114 rfl) (fun _ h9 => h9) rfl dX10_nextHour_53 ?_
    refine lv_aload_n hx hb dX10_nextHour_56 rfl (lv_at hl 2 rfl) ?_
    refine lv_aload_n hx hb dX10_nextHour_57 rfl (lv_at hl 3 rfl) ?_
    refine pci (va_runV (As := [.ref a1]) (rest := [.int 0, .int 99999, .ref a1]) ⟨hx, hb, hml, hown, hts⟩ (c_discords l D K a0 a1 g0 k0 (.ref a2) (.ref a3) k3 k5 k6 (.int 0) k8 k9 s.heap.size) (cwV 1 hts gX10_nextHour_X10_discords rfl rfl rfl (by decide +kernel) ⟨Nat.le_of_ble_eq_true rfl, Nat.le_of_ble_eq_true rfl⟩) (mkV hK hN (hP.sub [0, 1] rfl) (hD.sub [0, 1] (by decide) rfl) (ci := 10) (q0 := 0) rfl rfl) rfl rfl hl.1 rfl (lv_room (Nat.le_of_ble_eq_true rfl)) dX10_nextHour_58 ⟨Nat.le_of_ble_eq_true rfl, Nat.le_of_ble_eq_true rfl⟩) (fun r_6 hw => ?_)
    obtain rfl : r_6 = 0 := hw
    refine lv_iadd hx hb dX10_nextHour_61 ?_
    refine lv_topi (fun x_7 ex_7 => ?_)
    obtain rfl : x_7 = 0 := ex_7.trans (by first | rfl | decide)
    refine va_mmin hx hb (hml.trans hl.1.symm) hown (hts (.methodLink RX10 40 Lib.Math.min.name) (List.mem_cons_of_mem _ (List.mem_append_left _ (List.mem_append_left _ (List.mem_append_left _ (List.mem_append_left _ (List.mem_append_left _ (List.mem_append_left _ (List.mem_of_getElem? (i := 1) rfl))))))))) (hts (.static Lib.Math.min.name) (List.mem_cons_of_mem _ (List.mem_append_left _ (List.mem_append_left _ (List.mem_append_left _ (List.mem_append_left _ (List.mem_append_left _ (List.mem_append_left _ (List.mem_of_getElem? (i := 2) rfl))))))))) (hts (.initialized "java/lang/Math") (List.mem_cons_of_mem _ (List.mem_append_left _ (List.mem_append_left _ (List.mem_append_left _ (List.mem_append_left _ (List.mem_append_left _ (List.mem_append_left _ (List.mem_of_getElem? (i := 3) rfl))))))))) (hts (.code Lib.Math.min.name Lib.Math.min.code 2 (some .int)) (List.mem_cons_of_mem _ (List.mem_append_left _ (List.mem_append_left _ (List.mem_append_left _ (List.mem_append_left _ (List.mem_append_left _ (List.mem_append_left _ (List.mem_of_getElem? (i := 4) rfl))))))))) (Nat.le_of_ble_eq_true rfl) (Nat.le_of_ble_eq_true rfl) (Nat.le_of_ble_eq_true rfl) (Nat.le_of_ble_eq_true rfl) dX10_nextHour_62 ?_
    refine lv_topi (fun x_8 ex_8 => ?_)
    obtain rfl : x_8 = 0 := ex_8.trans (by first | rfl | decide)
    refine va_putN (ci := 9) (v := .int 0) (ty := .int) (C := RX9) (T := TX9) (N := 10) hx hb hts hw9 tyX9 tyX9_ok nmX9 hown hK hP hD hS 1 rfl rfl 7 (by decide) (nst_use hN 114 rfl) (fun _ h9 => h9) rfl (by decide +kernel) (by first | rfl | decide) (by first | rfl | decide) (Nat.le_of_ble_eq_true rfl) dX10_nextHour_65 (fun H locs hP hD hS => ?_)
    have hP : va_P D vwCl [(a0, .inr (10, [g0])), (a1, .inr (9, [k0, .ref a2, .ref a3, k3, .int 0, k5, k6, .int 0, k8, k9])), (a2, .inl (K 0, 24, .inl fc)), (a3, .inl (K 0, 6, .inl ft))] H := hP
    have hD : va_D A [(a0, .inr (10, [g0])), (a1, .inr (9, [k0, .ref a2, .ref a3, k3, .int 0, k5, k6, .int 0, k8, k9])), (a2, .inl (K 0, 24, .inl fc)), (a3, .inl (K 0, 6, .inl ft))] := hD
    refine lv_aload_n hx hb dX10_nextHour_68 rfl (lv_at hl 2 rfl) ?_
    refine lv_aload_n hx hb dX10_nextHour_69 rfl (lv_at hl 3 rfl) ?_
    refine pcv (va_runV (As := [.ref a1]) (rest := []) ⟨hx, hb, hml, hown, hts⟩ (c_burnDown l D K a0 a1 g0 k0 (.ref a2) (.ref a3) k3 k5 k6 (.int 0) k8 k9 H.size) (cwV 1 hts gX10_nextHour_X10_burnDown rfl rfl rfl (by decide +kernel) ⟨Nat.le_of_ble_eq_true rfl, Nat.le_of_ble_eq_true rfl⟩) (mkV hK hN (hP.sub [0, 1] rfl) (hD.sub [0, 1] (by decide) rfl) (ci := 10) (q0 := 0) rfl rfl) rfl rfl hl.1 rfl (lv_room (Nat.le_of_ble_eq_true rfl)) dX10_nextHour_70 ⟨Nat.le_of_ble_eq_true rfl, Nat.le_of_ble_eq_true rfl⟩) (fun hw => ?_)
    refine lv_aload_n hx hb dX10_nextHour_73 rfl (lv_at hl 3 rfl) ?_
    refine va_getN (ci := 9) (v := .ref a3) (C := RX9) (T := TX9) (N := 10) hx hb hts hw9 hown hK hP 1 rfl rfl 2 (by decide) (nst_use hN 101 rfl) (fun _ h9 => h9) rfl dX10_nextHour_74 ?_
    refine lv_iconst (v := 0) hx hb dX10_nextHour_77 (by decide) ?_
    refine lv_iload_n hx hb dX10_nextHour_78 rfl (lv_at hl 1 rfl) ?_
    refine lv_if_eq (tgt := 86) hx hb dX10_nextHour_79 (by decide) (fun c_10 => ?_) (fun c_10 => absurd (by decide) c_10)
    refine lv_aload_n hx hb dX10_nextHour_86 rfl (lv_at hl 3 rfl) ?_
    refine va_getN (ci := 9) (v := .ref a3) (C := RX9) (T := TX9) (N := 10) hx hb hts hw9 hown hK hP 1 rfl rfl 2 (by decide) (nst_use hN 101 rfl) (fun _ h9 => h9) rfl dX10_nextHour_87 ?_
    refine lv_iconst (v := 0) hx hb dX10_nextHour_90 (by decide) ?_
    refine va_iald hx hb hK hP 3 0 rfl rfl (i_in (x := 0) rfl (by omega)) dX10_nextHour_91 ?_
    refine lv_topi (fun x_11 ex_11 => ?_)
    obtain rfl : x_11 = (nI hh) := ex_11.trans h0
    refine lv_iconst (v := 1) hx hb dX10_nextHour_92 (by decide) ?_
    refine lv_iadd hx hb dX10_nextHour_93 ?_
    refine lv_topi (fun x_12 ex_12 => ?_)
    obtain rfl : x_12 = (nI (hh + 1)) := ex_12.trans (nI_1 hh)
    refine va_iast hx hb hK hP hD hS 3 0 rfl rfl (i_in (x := 0) rfl (by omega)) dX10_nextHour_94 (fun H locs hP hD hS => ?_)
    have hP : va_P D vwCl [(a0, .inr (10, [g0])), (a1, .inr (9, [k0, .ref a2, .ref a3, k3, .int 0, k5, k6, .int 0, k8, k9])), (a2, .inl (K 0, 24, .inl fc)), (a3, .inl (K 0, 6, .inl (upd ft 0 (nI (hh + 1)))))] H := hP
    have hD : va_D A [(a0, .inr (10, [g0])), (a1, .inr (9, [k0, .ref a2, .ref a3, k3, .int 0, k5, k6, .int 0, k8, k9])), (a2, .inl (K 0, 24, .inl fc)), (a3, .inl (K 0, 6, .inl (upd ft 0 (nI (hh + 1)))))] := hD
    refine lv_aload_n hx hb dX10_nextHour_95 rfl (lv_at hl 3 rfl) ?_
    refine va_getN (ci := 9) (v := .ref a3) (C := RX9) (T := TX9) (N := 10) hx hb hts hw9 hown hK hP 1 rfl rfl 2 (by decide) (nst_use hN 101 rfl) (fun _ h9 => h9) rfl dX10_nextHour_96 ?_
    refine lv_iconst (v := 1) hx hb dX10_nextHour_99 (by decide) ?_
    refine lv_dup2_11 hx hb dX10_nextHour_100 rfl rfl ?_
    refine va_iald hx hb hK hP 3 0 rfl rfl (i_in (x := 1) rfl (by omega)) dX10_nextHour_101 ?_
    refine lv_topi (fun x_13 ex_13 => ?_)
    obtain rfl : x_13 = (nI dd) := ex_13.trans ((pk_un (by decide)).trans h1)
    refine lv_iload_n hx hb dX10_nextHour_102 rfl (lv_at hl 1 rfl) ?_
    refine lv_if_eq (tgt := 110) hx hb dX10_nextHour_103 (by decide) (fun c_14 => ?_) (fun c_14 => absurd (by decide) c_14)
    refine lv_iconst (v := 0) hx hb dX10_nextHour_110 (by decide) ?_
    refine lv_iadd hx hb dX10_nextHour_111 ?_
    refine lv_topi (fun x_15 ex_15 => ?_)
    obtain rfl : x_15 = (nI dd) := ex_15.trans (Int32.add_zero _)
    refine va_iast hx hb hK hP hD hS 3 0 rfl rfl (i_in (x := 1) rfl (by omega)) dX10_nextHour_112 (fun H locs hP hD hS => ?_)
    generalize hf_16 : (upd (upd ft 0 (nI (hh + 1))) (1 : Int32).toNatClampNeg (nI dd)) = f_16 at hP hD
    have hP : va_P D vwCl [(a0, .inr (10, [g0])), (a1, .inr (9, [k0, .ref a2, .ref a3, k3, .int 0, k5, k6, .int 0, k8, k9])), (a2, .inl (K 0, 24, .inl fc)), (a3, .inl (K 0, 6, .inl f_16))] H := hP
    have hD : va_D A [(a0, .inr (10, [g0])), (a1, .inr (9, [k0, .ref a2, .ref a3, k3, .int 0, k5, k6, .int 0, k8, k9])), (a2, .inl (K 0, 24, .inl fc)), (a3, .inl (K 0, 6, .inl f_16))] := hD
    refine lv_iload_n hx hb dX10_nextHour_113 rfl (lv_at hl 0 rfl) ?_
    have hP9 := hP.sub (ws' := [(a0, .inr (10, [g0])), (a1, .inr (9, [k0, .ref a2, .ref a3, k3, .int 0, k5, k6, .int 0, k8, k9])), (a2, .inl (K 0, 24, .inl fc)), (a3, .inl (K 0, 6, .inl f_16))]) [0, 1, 2, 3] rfl
    have hD9 := hD.sub (ws' := [(a0, .inr (10, [g0])), (a1, .inr (9, [k0, .ref a2, .ref a3, k3, .int 0, k5, k6, .int 0, k8, k9])), (a2, .inl (K 0, 24, .inl fc)), (a3, .inl (K 0, 6, .inl f_16))]) [0, 1, 2, 3] (by decide) rfl
    exact W.iret (v := 1) hx hb hr (fun t ht hW => ⟨⟨1, (fun _ => 0, fun i => match i with | _ => f_16, fun _ => fun _ => 0, fun _ => 0), rfl, ⟨rfl, by show f_16 0 = _; rw [← hf_16, if_neg (by omega)]; rfl, by show f_16 1 = _; rw [← hf_16, if_neg (by omega)]; rfl⟩, (⟨by rw [ht]; exact hP9, hD9⟩ : Wd D A _ t)⟩, hS.F ht⟩) hS.2.2 dX10_nextHour_114
  · have c_2i := i_eq (x := ((hh : Nat) : Int)) (y := 23) (nI_toInt (by omega)) rfl c_2
    refine lv_iconst (v := 1) hx hb dX10_nextHour_11 (by decide) ?_
    refine lv_goto (tgt := 16) hx hb dX10_nextHour_12 (by decide) ?_
    refine lv_istore_n (lv' := [(2, .int 1), (0, .ref a0), (1, .ref a1)]) hx hb dX10_nextHour_16 rfl hl (by decide) rfl (fun ls hl => ?_)
    refine lv_iload_n hx hb dX10_nextHour_17 rfl (lv_at hl 0 rfl) ?_
    refine lv_if_eq (tgt := 36) hx hb dX10_nextHour_18 (by decide) (fun c_17 => absurd c_17 (by decide)) (fun c_17 => ?_)
    refine lv_aload_n hx hb dX10_nextHour_21 rfl (lv_at hl 2 rfl) ?_
    refine va_getN (ci := 9) (v := .ref a3) (C := RX9) (T := TX9) (N := 10) hx hb hts hw9 hown hK hP 1 rfl rfl 2 (by decide) (nst_use hN 101 rfl) (fun _ h9 => h9) rfl dX10_nextHour_22 ?_
    refine lv_iconst (v := 1) hx hb dX10_nextHour_25 (by decide) ?_
    refine va_iald hx hb hK hP 3 0 rfl rfl (i_in (x := 1) rfl (by omega)) dX10_nextHour_26 ?_
    refine lv_topi (fun x_18 ex_18 => ?_)
    obtain rfl : x_18 = (nI dd) := ex_18.trans h1
    refine lv_sipush (v := 999) hx hb dX10_nextHour_27 (by decide) ?_
    refine lv_icmp_lt (tgt := 36) hx hb dX10_nextHour_30 (by decide) (fun c_19 => ?_) (fun c_19 => ?_)
    · have c_19i := i_lt (x := ((dd : Nat) : Int)) (y := 999) (nI_toInt (by omega)) rfl c_19
      refine lv_aload_n hx hb dX10_nextHour_36 rfl (lv_at hl 2 rfl) ?_
      refine pci (va_runVN (As := []) (rest := []) ⟨hx, hb, hml, hown, hts⟩ (c_meetsChord l D K a1 k0 a2 a3 k3 k5 k6 (.int 0) k8 k9 fc ft hh dd s.heap.size h0 h1 (by omega) (by omega) hc) ⟨va_cnB 0 hts gX10_nextHour_X9_meetsChord_n60 rfl rfl rfl (nst_at hN 60 rfl) (hts (.initialized RX9) (List.mem_cons_of_mem _ (List.mem_append_left _ (List.mem_append_left _ (List.mem_append_left _ (List.mem_append_left _ (List.mem_append_left _ (List.mem_append_left _ (List.mem_of_getElem? (i := 6) rfl))))))))) (by decide +kernel) ⟨Nat.le_of_ble_eq_true rfl, Nat.le_of_ble_eq_true rfl⟩, (hts (.instanceMethod yX9_meetsChord) (List.mem_cons_of_mem _ (List.mem_append_left _ (List.mem_append_left _ (List.mem_append_left _ (List.mem_append_left _ (List.mem_append_left _ (List.mem_append_left _ (List.mem_of_getElem? (i := 5) rfl))))))))), (hts (.selects RX9 yX9_meetsChord yX9_meetsChord) (List.mem_cons_of_mem _ (List.mem_append_left _ (List.mem_append_left _ (List.mem_append_left _ (List.mem_append_left _ (List.mem_append_left _ (List.mem_append_left _ (List.mem_of_getElem? (i := 7) rfl)))))))))⟩ (mkV hK hN (hP.sub [1, 2, 3] rfl) (hD.sub [1, 2, 3] (by decide) rfl) (ci := 9) (q0 := 0) rfl rfl) rfl rfl hl.1 rfl (lv_room (Nat.le_of_ble_eq_true rfl)) dX10_nextHour_37 ⟨Nat.le_of_ble_eq_true rfl, Nat.le_of_ble_eq_true rfl⟩) (fun r_20 hw => ?_)
      obtain rfl : r_20 = 1 := hw
      refine lv_if_eq (tgt := 47) hx hb dX10_nextHour_40 (by decide) (fun c_21 => absurd c_21 (by decide)) (fun c_21 => ?_)
      refine lv_iconst (v := 1) hx hb dX10_nextHour_43 (by decide) ?_
      refine lv_goto (tgt := 48) hx hb dX10_nextHour_44 (by decide) ?_
      refine lv_istore_n (lv' := [(3, .int 1), (2, .int 1), (0, .ref a0), (1, .ref a1)]) hx hb dX10_nextHour_48 rfl hl (by decide) rfl (fun ls hl => ?_)
      refine lv_aload_n hx hb dX10_nextHour_49 rfl (lv_at hl 3 rfl) ?_
      refine lv_ldc (v := 99999) hx hb hown (hts (.constant RX10 64 (99999)) (List.mem_cons_of_mem _ (List.mem_append_left _ (List.mem_append_left _ (List.mem_append_left _ (List.mem_append_left _ (List.mem_append_left _ (List.mem_append_left _ (List.mem_of_getElem? (i := 0) rfl))))))))) dX10_nextHour_50 ?_
      refine lv_aload_n hx hb dX10_nextHour_52 rfl (lv_at hl 3 rfl) ?_
      refine va_getN (ci := 9) (v := .int 0) (C := RX9) (T := TX9) (N := 10) hx hb hts hw9 hown hK hP 1 rfl rfl 7 (by decide) (nst_use hN 114 rfl) (fun _ h9 => h9) rfl dX10_nextHour_53 ?_
      refine lv_aload_n hx hb dX10_nextHour_56 rfl (lv_at hl 2 rfl) ?_
      refine lv_aload_n hx hb dX10_nextHour_57 rfl (lv_at hl 3 rfl) ?_
      refine pci (va_runV (As := [.ref a1]) (rest := [.int 0, .int 99999, .ref a1]) ⟨hx, hb, hml, hown, hts⟩ (c_discords l D K a0 a1 g0 k0 (.ref a2) (.ref a3) k3 k5 k6 (.int 0) k8 k9 s.heap.size) (cwV 1 hts gX10_nextHour_X10_discords rfl rfl rfl (by decide +kernel) ⟨Nat.le_of_ble_eq_true rfl, Nat.le_of_ble_eq_true rfl⟩) (mkV hK hN (hP.sub [0, 1] rfl) (hD.sub [0, 1] (by decide) rfl) (ci := 10) (q0 := 0) rfl rfl) rfl rfl hl.1 rfl (lv_room (Nat.le_of_ble_eq_true rfl)) dX10_nextHour_58 ⟨Nat.le_of_ble_eq_true rfl, Nat.le_of_ble_eq_true rfl⟩) (fun r_22 hw => ?_)
      obtain rfl : r_22 = 0 := hw
      refine lv_iadd hx hb dX10_nextHour_61 ?_
      refine lv_topi (fun x_23 ex_23 => ?_)
      obtain rfl : x_23 = 0 := ex_23.trans (by first | rfl | decide)
      refine va_mmin hx hb (hml.trans hl.1.symm) hown (hts (.methodLink RX10 40 Lib.Math.min.name) (List.mem_cons_of_mem _ (List.mem_append_left _ (List.mem_append_left _ (List.mem_append_left _ (List.mem_append_left _ (List.mem_append_left _ (List.mem_append_left _ (List.mem_of_getElem? (i := 1) rfl))))))))) (hts (.static Lib.Math.min.name) (List.mem_cons_of_mem _ (List.mem_append_left _ (List.mem_append_left _ (List.mem_append_left _ (List.mem_append_left _ (List.mem_append_left _ (List.mem_append_left _ (List.mem_of_getElem? (i := 2) rfl))))))))) (hts (.initialized "java/lang/Math") (List.mem_cons_of_mem _ (List.mem_append_left _ (List.mem_append_left _ (List.mem_append_left _ (List.mem_append_left _ (List.mem_append_left _ (List.mem_append_left _ (List.mem_of_getElem? (i := 3) rfl))))))))) (hts (.code Lib.Math.min.name Lib.Math.min.code 2 (some .int)) (List.mem_cons_of_mem _ (List.mem_append_left _ (List.mem_append_left _ (List.mem_append_left _ (List.mem_append_left _ (List.mem_append_left _ (List.mem_append_left _ (List.mem_of_getElem? (i := 4) rfl))))))))) (Nat.le_of_ble_eq_true rfl) (Nat.le_of_ble_eq_true rfl) (Nat.le_of_ble_eq_true rfl) (Nat.le_of_ble_eq_true rfl) dX10_nextHour_62 ?_
      refine lv_topi (fun x_24 ex_24 => ?_)
      obtain rfl : x_24 = 0 := ex_24.trans (by first | rfl | decide)
      refine va_putN (ci := 9) (v := .int 0) (ty := .int) (C := RX9) (T := TX9) (N := 10) hx hb hts hw9 tyX9 tyX9_ok nmX9 hown hK hP hD hS 1 rfl rfl 7 (by decide) (nst_use hN 114 rfl) (fun _ h9 => h9) rfl (by decide +kernel) (by first | rfl | decide) (by first | rfl | decide) (Nat.le_of_ble_eq_true rfl) dX10_nextHour_65 (fun H locs hP hD hS => ?_)
      have hP : va_P D vwCl [(a0, .inr (10, [g0])), (a1, .inr (9, [k0, .ref a2, .ref a3, k3, .int 0, k5, k6, .int 0, k8, k9])), (a2, .inl (K 0, 24, .inl fc)), (a3, .inl (K 0, 6, .inl ft))] H := hP
      have hD : va_D A [(a0, .inr (10, [g0])), (a1, .inr (9, [k0, .ref a2, .ref a3, k3, .int 0, k5, k6, .int 0, k8, k9])), (a2, .inl (K 0, 24, .inl fc)), (a3, .inl (K 0, 6, .inl ft))] := hD
      refine lv_aload_n hx hb dX10_nextHour_68 rfl (lv_at hl 2 rfl) ?_
      refine lv_aload_n hx hb dX10_nextHour_69 rfl (lv_at hl 3 rfl) ?_
      refine pcv (va_runV (As := [.ref a1]) (rest := []) ⟨hx, hb, hml, hown, hts⟩ (c_burnDown l D K a0 a1 g0 k0 (.ref a2) (.ref a3) k3 k5 k6 (.int 0) k8 k9 H.size) (cwV 1 hts gX10_nextHour_X10_burnDown rfl rfl rfl (by decide +kernel) ⟨Nat.le_of_ble_eq_true rfl, Nat.le_of_ble_eq_true rfl⟩) (mkV hK hN (hP.sub [0, 1] rfl) (hD.sub [0, 1] (by decide) rfl) (ci := 10) (q0 := 0) rfl rfl) rfl rfl hl.1 rfl (lv_room (Nat.le_of_ble_eq_true rfl)) dX10_nextHour_70 ⟨Nat.le_of_ble_eq_true rfl, Nat.le_of_ble_eq_true rfl⟩) (fun hw => ?_)
      refine lv_aload_n hx hb dX10_nextHour_73 rfl (lv_at hl 3 rfl) ?_
      refine va_getN (ci := 9) (v := .ref a3) (C := RX9) (T := TX9) (N := 10) hx hb hts hw9 hown hK hP 1 rfl rfl 2 (by decide) (nst_use hN 101 rfl) (fun _ h9 => h9) rfl dX10_nextHour_74 ?_
      refine lv_iconst (v := 0) hx hb dX10_nextHour_77 (by decide) ?_
      refine lv_iload_n hx hb dX10_nextHour_78 rfl (lv_at hl 1 rfl) ?_
      refine lv_if_eq (tgt := 86) hx hb dX10_nextHour_79 (by decide) (fun c_26 => absurd c_26 (by decide)) (fun c_26 => ?_)
      refine lv_iconst (v := 0) hx hb dX10_nextHour_82 (by decide) ?_
      refine lv_goto (tgt := 94) hx hb dX10_nextHour_83 (by decide) ?_
      refine va_iast hx hb hK hP hD hS 3 0 rfl rfl (i_in (x := 0) rfl (by omega)) dX10_nextHour_94 (fun H locs hP hD hS => ?_)
      have hP : va_P D vwCl [(a0, .inr (10, [g0])), (a1, .inr (9, [k0, .ref a2, .ref a3, k3, .int 0, k5, k6, .int 0, k8, k9])), (a2, .inl (K 0, 24, .inl fc)), (a3, .inl (K 0, 6, .inl (upd ft 0 0)))] H := hP
      have hD : va_D A [(a0, .inr (10, [g0])), (a1, .inr (9, [k0, .ref a2, .ref a3, k3, .int 0, k5, k6, .int 0, k8, k9])), (a2, .inl (K 0, 24, .inl fc)), (a3, .inl (K 0, 6, .inl (upd ft 0 0)))] := hD
      refine lv_aload_n hx hb dX10_nextHour_95 rfl (lv_at hl 3 rfl) ?_
      refine va_getN (ci := 9) (v := .ref a3) (C := RX9) (T := TX9) (N := 10) hx hb hts hw9 hown hK hP 1 rfl rfl 2 (by decide) (nst_use hN 101 rfl) (fun _ h9 => h9) rfl dX10_nextHour_96 ?_
      refine lv_iconst (v := 1) hx hb dX10_nextHour_99 (by decide) ?_
      refine lv_dup2_11 hx hb dX10_nextHour_100 rfl rfl ?_
      refine va_iald hx hb hK hP 3 0 rfl rfl (i_in (x := 1) rfl (by omega)) dX10_nextHour_101 ?_
      refine lv_topi (fun x_27 ex_27 => ?_)
      obtain rfl : x_27 = (nI dd) := ex_27.trans ((pk_un (by decide)).trans h1)
      refine lv_iload_n hx hb dX10_nextHour_102 rfl (lv_at hl 1 rfl) ?_
      refine lv_if_eq (tgt := 110) hx hb dX10_nextHour_103 (by decide) (fun c_28 => absurd c_28 (by decide)) (fun c_28 => ?_)
      refine lv_iconst (v := 1) hx hb dX10_nextHour_106 (by decide) ?_
      refine lv_goto (tgt := 111) hx hb dX10_nextHour_107 (by decide) ?_
      refine lv_iadd hx hb dX10_nextHour_111 ?_
      refine lv_topi (fun x_29 ex_29 => ?_)
      obtain rfl : x_29 = (nI (dd + 1)) := ex_29.trans (nI_1 dd)
      refine va_iast hx hb hK hP hD hS 3 0 rfl rfl (i_in (x := 1) rfl (by omega)) dX10_nextHour_112 (fun H locs hP hD hS => ?_)
      generalize hf_30 : (upd (upd ft 0 0) (1 : Int32).toNatClampNeg (nI (dd + 1))) = f_30 at hP hD
      have hP : va_P D vwCl [(a0, .inr (10, [g0])), (a1, .inr (9, [k0, .ref a2, .ref a3, k3, .int 0, k5, k6, .int 0, k8, k9])), (a2, .inl (K 0, 24, .inl fc)), (a3, .inl (K 0, 6, .inl f_30))] H := hP
      have hD : va_D A [(a0, .inr (10, [g0])), (a1, .inr (9, [k0, .ref a2, .ref a3, k3, .int 0, k5, k6, .int 0, k8, k9])), (a2, .inl (K 0, 24, .inl fc)), (a3, .inl (K 0, 6, .inl f_30))] := hD
      refine lv_iload_n hx hb dX10_nextHour_113 rfl (lv_at hl 0 rfl) ?_
      have hP9 := hP.sub (ws' := [(a0, .inr (10, [g0])), (a1, .inr (9, [k0, .ref a2, .ref a3, k3, .int 0, k5, k6, .int 0, k8, k9])), (a2, .inl (K 0, 24, .inl fc)), (a3, .inl (K 0, 6, .inl f_30))]) [0, 1, 2, 3] rfl
      have hD9 := hD.sub (ws' := [(a0, .inr (10, [g0])), (a1, .inr (9, [k0, .ref a2, .ref a3, k3, .int 0, k5, k6, .int 0, k8, k9])), (a2, .inl (K 0, 24, .inl fc)), (a3, .inl (K 0, 6, .inl f_30))]) [0, 1, 2, 3] (by decide) rfl
      exact W.iret (v := 1) hx hb hr (fun t ht hW => ⟨⟨1, (fun _ => 0, fun i => match i with | _ => f_30, fun _ => fun _ => 0, fun _ => 0), rfl, ⟨rfl, by show f_30 0 = _; rw [← hf_30, if_pos (by omega)]; rfl, by show f_30 1 = _; rw [← hf_30, if_pos (by omega)]; rfl⟩, (⟨by rw [ht]; exact hP9, hD9⟩ : Wd D A _ t)⟩, hS.F ht⟩) hS.2.2 dX10_nextHour_114
    · have c_19i := i_nlt (x := ((dd : Nat) : Int)) (y := 999) (nI_toInt (by omega)) rfl c_19
      exfalso; omega
set_option maxHeartbeats 4000000 in
set_option maxRecDepth 100000 in
theorem c_changing_0 (l : Launch) (D : va_G) (K : Nat → ClassId) (sz : Nat) : Met l yX2_changing wsX2_changing ({ frames := 0, cells := 0, slots := 0, locals := 0 }) (va_Pc [.int 0] (Pre D K [] sz)) (vp_Si (fun r : Int32 => (r = 2))) 0 0 (fun _ => False) := by
  refine Met.ofW (cc := cX2_changing) (maxL := 1) (ret := (some .int)) (by decide) rfl ?_
  intro p e s m args below meth c s₁ B hml hv
  obtain ⟨rfl, hsz, hP, hK, hD0, hN⟩ := hv
  have hx := B.exec
  have hb := B.bytes
  have hr := B.returns
  have hts := atoms_spec (ws := wsX2_changing) B.pre
  have hown : s.vm.findClass RX2 = some m.cls := findClass_of_methodNamed B.named
  have hlocks := B.notSynchronized
  subst hsz
  have hD := hD0
  have hP : va_P D vwCl [] s.heap := hP
  have hl := lv_entry [.int 0] (n := 1) (Nat.le_of_ble_eq_true rfl)
  rw [lg_entry_eq]
  generalize (lg_sl [.int 0] ++ List.replicate (1 - (lg_sl [.int 0]).length) Slot.unset).toArray = ls at hl ⊢
  have hl : lv_has ls 1 [(0, .int 0)] := hl
  refine lv_iload_n hx hb dX2_changing_0 rfl (lv_at hl 0 rfl) ?_
  refine lv_if_ne (tgt := 8) hx hb dX2_changing_1 (by decide) (fun c_1 => absurd (by decide) c_1) (fun c_1 => ?_)
  refine lv_iconst (v := 2) hx hb dX2_changing_4 (by decide) ?_
  refine lv_goto (tgt := 19) hx hb dX2_changing_5 (by decide) ?_
  exact W.iret (v := 2) hx hb hr (fun t ht hW => ⟨_, rfl, (by first | exact rfl), ht⟩) (fun q hq => by cases hq) dX2_changing_19
set_option maxHeartbeats 4000000 in
set_option maxRecDepth 100000 in
theorem c_changing_1 (l : Launch) (D : va_G) (K : Nat → ClassId) (sz : Nat) : Met l yX2_changing wsX2_changing ({ frames := 0, cells := 0, slots := 0, locals := 0 }) (va_Pc [.int 1] (Pre D K [] sz)) (vp_Si (fun r : Int32 => (r = 5))) 0 0 (fun _ => False) := by
  refine Met.ofW (cc := cX2_changing) (maxL := 1) (ret := (some .int)) (by decide) rfl ?_
  intro p e s m args below meth c s₁ B hml hv
  obtain ⟨rfl, hsz, hP, hK, hD0, hN⟩ := hv
  have hx := B.exec
  have hb := B.bytes
  have hr := B.returns
  have hts := atoms_spec (ws := wsX2_changing) B.pre
  have hown : s.vm.findClass RX2 = some m.cls := findClass_of_methodNamed B.named
  have hlocks := B.notSynchronized
  subst hsz
  have hD := hD0
  have hP : va_P D vwCl [] s.heap := hP
  have hl := lv_entry [.int 1] (n := 1) (Nat.le_of_ble_eq_true rfl)
  rw [lg_entry_eq]
  generalize (lg_sl [.int 1] ++ List.replicate (1 - (lg_sl [.int 1]).length) Slot.unset).toArray = ls at hl ⊢
  have hl : lv_has ls 1 [(0, .int 1)] := hl
  refine lv_iload_n hx hb dX2_changing_0 rfl (lv_at hl 0 rfl) ?_
  refine lv_if_ne (tgt := 8) hx hb dX2_changing_1 (by decide) (fun c_1 => ?_) (fun c_1 => absurd c_1 (by decide))
  refine lv_iload_n hx hb dX2_changing_8 rfl (lv_at hl 0 rfl) ?_
  refine lv_iconst (v := 1) hx hb dX2_changing_9 (by decide) ?_
  refine lv_icmp_ne (tgt := 17) hx hb dX2_changing_10 (by decide) (fun c_2 => absurd (by decide) c_2) (fun c_2 => ?_)
  refine lv_iconst (v := 5) hx hb dX2_changing_13 (by decide) ?_
  refine lv_goto (tgt := 19) hx hb dX2_changing_14 (by decide) ?_
  exact W.iret (v := 5) hx hb hr (fun t ht hW => ⟨_, rfl, (by first | exact rfl), ht⟩) (fun q hq => by cases hq) dX2_changing_19
set_option maxHeartbeats 4000000 in
set_option maxRecDepth 100000 in
theorem c_changing_2 (l : Launch) (D : va_G) (K : Nat → ClassId) (sz : Nat) : Met l yX2_changing wsX2_changing ({ frames := 0, cells := 0, slots := 0, locals := 0 }) (va_Pc [.int 2] (Pre D K [] sz)) (vp_Si (fun r : Int32 => (r = 6))) 0 0 (fun _ => False) := by
  refine Met.ofW (cc := cX2_changing) (maxL := 1) (ret := (some .int)) (by decide) rfl ?_
  intro p e s m args below meth c s₁ B hml hv
  obtain ⟨rfl, hsz, hP, hK, hD0, hN⟩ := hv
  have hx := B.exec
  have hb := B.bytes
  have hr := B.returns
  have hts := atoms_spec (ws := wsX2_changing) B.pre
  have hown : s.vm.findClass RX2 = some m.cls := findClass_of_methodNamed B.named
  have hlocks := B.notSynchronized
  subst hsz
  have hD := hD0
  have hP : va_P D vwCl [] s.heap := hP
  have hl := lv_entry [.int 2] (n := 1) (Nat.le_of_ble_eq_true rfl)
  rw [lg_entry_eq]
  generalize (lg_sl [.int 2] ++ List.replicate (1 - (lg_sl [.int 2]).length) Slot.unset).toArray = ls at hl ⊢
  have hl : lv_has ls 1 [(0, .int 2)] := hl
  refine lv_iload_n hx hb dX2_changing_0 rfl (lv_at hl 0 rfl) ?_
  refine lv_if_ne (tgt := 8) hx hb dX2_changing_1 (by decide) (fun c_1 => ?_) (fun c_1 => absurd c_1 (by decide))
  refine lv_iload_n hx hb dX2_changing_8 rfl (lv_at hl 0 rfl) ?_
  refine lv_iconst (v := 1) hx hb dX2_changing_9 (by decide) ?_
  refine lv_icmp_ne (tgt := 17) hx hb dX2_changing_10 (by decide) (fun c_2 => ?_) (fun c_2 => absurd c_2 (by decide))
  refine lv_bipush (v := 6) hx hb dX2_changing_17 (by decide) ?_
  exact W.iret (v := 6) hx hb hr (fun t ht hW => ⟨_, rfl, (by first | exact rfl), ht⟩) (fun q hq => by cases hq) dX2_changing_19
set_option maxHeartbeats 4000000 in
set_option maxRecDepth 100000 in
theorem c_draft (l : Launch) (D : va_G) (K : Nat → ClassId) (a0 : Nat) (a1 : Nat) (a2 : Nat) (g2 : Value) (a3 : Nat) (k1 : Value) (a4 : Nat) (k3 : Value) (k4 : Value) (k5 : Value) (k6 : Value) (k8 : Value) (k9 : Value) (f : Nat → Int32) (f3 : Nat → Int32) (f4 : Nat → Int32) (sz : Nat) : Met l yX2_draft wsX2_draft ({ frames := 1, cells := 0, slots := 0, locals := 40 }) (va_Pc [.ref a0, .ref a1] (Pre D K [(a0, .inr (2, [.ref a2, .int 0, g2])), (a1, .inr (9, [.ref a3, k1, .ref a4, k3, k4, k5, k6, .int 0, k8, k9])), (a2, .inl (K 0, 476, .inl f)), (a3, .inl (K 0, 56, .inl f3)), (a4, .inl (K 0, 6, .inl f4))] sz)) (va_Qv (S := (Nat → Nat) × (Nat → Nat → Int32) × (Nat → Nat → Int64) × (Nat → Int32)) (fun _ => True) (fun u t => Wd D (va_A [(a0, .inr (2, [.ref a2, .int 0, g2])), (a1, .inr (9, [.ref a3, k1, .ref a4, k3, k4, k5, k6, .int 0, k8, k9])), (a2, .inl (K 0, 476, .inl f)), (a3, .inl (K 0, 56, .inl f3)), (a4, .inl (K 0, 6, .inl f4))] sz) ((fun u => [(a0, .inr (2, [.ref a2, .int 0, g2])), (a1, .inr (9, [.ref a3, k1, .ref a4, k3, k4, k5, k6, .int 0, k8, k9])), (a2, .inl (K 0, 476, .inl ((u.2.1 0)))), (a3, .inl (K 0, 56, .inl f3)), (a4, .inl (K 0, 6, .inl f4))]) u) t) (va_A [(a0, .inr (2, [.ref a2, .int 0, g2])), (a1, .inr (9, [.ref a3, k1, .ref a4, k3, k4, k5, k6, .int 0, k8, k9])), (a2, .inl (K 0, 476, .inl f)), (a3, .inl (K 0, 56, .inl f3)), (a4, .inl (K 0, 6, .inl f4))] sz)) 0 0 (va_A [(a0, .inr (2, [.ref a2, .int 0, g2])), (a1, .inr (9, [.ref a3, k1, .ref a4, k3, k4, k5, k6, .int 0, k8, k9])), (a2, .inl (K 0, 476, .inl f)), (a3, .inl (K 0, 56, .inl f3)), (a4, .inl (K 0, 6, .inl f4))] sz) := by
  refine Met.ofW (cc := cX2_draft) (maxL := 4) (ret := none) (by decide) rfl ?_
  intro p e s m args below meth c s₁ B hml hv
  obtain ⟨rfl, hsz, hP, hK, hD0, hN⟩ := hv
  have hx := B.exec
  have hb := B.bytes
  have hr := B.returns
  have hts := atoms_spec (ws := wsX2_draft) B.pre
  have hown : s.vm.findClass RX2 = some m.cls := findClass_of_methodNamed B.named
  have hlocks := B.notSynchronized
  subst hsz
  have hD := hD0.self (sz := s.heap.size)
  generalize hAe : va_A [(a0, .inr (2, [.ref a2, .int 0, g2])), (a1, .inr (9, [.ref a3, k1, .ref a4, k3, k4, k5, k6, .int 0, k8, k9])), (a2, .inl (K 0, 476, .inl f)), (a3, .inl (K 0, 56, .inl f3)), (a4, .inl (K 0, 6, .inl f4))] s.heap.size = A at hD ⊢
  have hA : ∀ q : Nat, s.heap.size ≤ q → A q := fun q h => by rw [← hAe]; exact Or.inr h
  have hS : va_S A s.heap s.heap [] := va_S.rf
  have hP : va_P D vwCl [(a0, .inr (2, [.ref a2, .int 0, g2])), (a1, .inr (9, [.ref a3, k1, .ref a4, k3, k4, k5, k6, .int 0, k8, k9])), (a2, .inl (K 0, 476, .inl f)), (a3, .inl (K 0, 56, .inl f3)), (a4, .inl (K 0, 6, .inl f4))] s.heap := hP
  have hl := lv_entry [.ref a0, .ref a1] (n := 4) (Nat.le_of_ble_eq_true rfl)
  rw [lg_entry_eq]
  generalize (lg_sl [.ref a0, .ref a1] ++ List.replicate (4 - (lg_sl [.ref a0, .ref a1]).length) Slot.unset).toArray = ls at hl ⊢
  have hl : lv_has ls 4 [(0, .ref a0), (1, .ref a1)] := hl
  have hw2 : ∀ w ∈ wsX20, w ∈ wsX2_draft := fun w h => (List.mem_cons_of_mem _ (List.mem_append_left _ (List.mem_append_right _ h)))
  have hw9 : ∀ w ∈ wsX90, w ∈ wsX2_draft := fun w h => (List.mem_cons_of_mem _ (List.mem_append_right _ h))
  refine lv_aload_n hx hb dX2_draft_0 rfl (lv_at hl 0 rfl) ?_
  refine va_get (ci := 2) (v := .int 0) (C := RX2) (T := TX2) (N := 3) hx hb hts hw2 hown hK hP 0 rfl rfl 1 (by decide) (hts (.fieldLink RX2 15 "SmokeTune$History" "drafted" "I") (List.mem_cons_of_mem _ (List.mem_append_left _ (List.mem_append_left _ (List.mem_of_getElem? (i := 0) rfl))))) (fun _ h9 => h9) rfl dX2_draft_1 ?_
  refine lv_bipush (v := 28) hx hb dX2_draft_4 (by decide) ?_
  refine lv_imul hx hb dX2_draft_6 ?_
  refine lv_topi (fun x_1 ex_1 => ?_)
  obtain rfl : x_1 = 0 := ex_1.trans (by first | rfl | decide)
  refine lv_istore_n (lv' := [(2, .int 0), (0, .ref a0), (1, .ref a1)]) hx hb dX2_draft_7 rfl hl (by decide) rfl (fun ls hl => ?_)
  refine lv_aload_n hx hb dX2_draft_8 rfl (lv_at hl 1 rfl) ?_
  refine va_get (ci := 2) (v := .ref a2) (C := RX2) (T := TX2) (N := 3) hx hb hts hw2 hown hK hP 0 rfl rfl 0 (by decide) (hts (.fieldLink RX2 11 "SmokeTune$History" "slots" "[I") (List.mem_cons_of_mem _ (List.mem_append_left _ (List.mem_append_left _ (List.mem_of_getElem? (i := 1) rfl))))) (fun _ h9 => h9) rfl dX2_draft_9 ?_
  refine lv_iload_n hx hb dX2_draft_12 rfl (lv_at hl 0 rfl) ?_
  refine lv_iconst (v := 1) hx hb dX2_draft_13 (by decide) ?_
  refine lv_iadd hx hb dX2_draft_14 ?_
  refine lv_topi (fun x_2 ex_2 => ?_)
  obtain rfl : x_2 = 1 := ex_2.trans (by first | rfl | decide)
  refine lv_aload_n hx hb dX2_draft_15 rfl (lv_at hl 2 rfl) ?_
  refine va_getN (ci := 9) (v := .int 0) (C := RX9) (T := TX9) (N := 10) hx hb hts hw9 hown hK hP 1 rfl rfl 7 (by decide) (nst_use hN 113 rfl) (fun _ h9 => h9) rfl dX2_draft_16 ?_
  refine va_iast hx hb hK hP hD hS 2 0 rfl rfl (i_in (x := 1) rfl (by omega)) dX2_draft_19 (fun H locs hP hD hS => ?_)
  generalize hf_3 : (upd f (1 : Int32).toNatClampNeg 0) = f_3 at hP hD
  have hP : va_P D vwCl [(a0, .inr (2, [.ref a2, .int 0, g2])), (a1, .inr (9, [.ref a3, k1, .ref a4, k3, k4, k5, k6, .int 0, k8, k9])), (a2, .inl (K 0, 476, .inl f_3)), (a3, .inl (K 0, 56, .inl f3)), (a4, .inl (K 0, 6, .inl f4))] H := hP
  have hD : va_D A [(a0, .inr (2, [.ref a2, .int 0, g2])), (a1, .inr (9, [.ref a3, k1, .ref a4, k3, k4, k5, k6, .int 0, k8, k9])), (a2, .inl (K 0, 476, .inl f_3)), (a3, .inl (K 0, 56, .inl f3)), (a4, .inl (K 0, 6, .inl f4))] := hD
  refine lv_aload_n hx hb dX2_draft_20 rfl (lv_at hl 1 rfl) ?_
  refine va_get (ci := 2) (v := .ref a2) (C := RX2) (T := TX2) (N := 3) hx hb hts hw2 hown hK hP 0 rfl rfl 0 (by decide) (hts (.fieldLink RX2 11 "SmokeTune$History" "slots" "[I") (List.mem_cons_of_mem _ (List.mem_append_left _ (List.mem_append_left _ (List.mem_of_getElem? (i := 1) rfl))))) (fun _ h9 => h9) rfl dX2_draft_21 ?_
  refine lv_iload_n hx hb dX2_draft_24 rfl (lv_at hl 0 rfl) ?_
  refine lv_iconst (v := 2) hx hb dX2_draft_25 (by decide) ?_
  refine lv_iadd hx hb dX2_draft_26 ?_
  refine lv_topi (fun x_4 ex_4 => ?_)
  obtain rfl : x_4 = 2 := ex_4.trans (by first | rfl | decide)
  refine lv_aload_n hx hb dX2_draft_27 rfl (lv_at hl 2 rfl) ?_
  refine va_getN (ci := 9) (v := .ref a4) (C := RX9) (T := TX9) (N := 10) hx hb hts hw9 hown hK hP 1 rfl rfl 2 (by decide) (nst_use hN 102 rfl) (fun _ h9 => h9) rfl dX2_draft_28 ?_
  refine lv_iconst (v := 0) hx hb dX2_draft_31 (by decide) ?_
  refine va_iald hx hb hK hP 4 0 rfl rfl (i_in (x := 0) rfl (by omega)) dX2_draft_32 ?_
  refine lv_topi (fun x_5 ex_5 => ?_)
  refine va_iast hx hb hK hP hD hS 2 0 rfl rfl (i_in (x := 2) rfl (by omega)) dX2_draft_33 (fun H locs hP hD hS => ?_)
  generalize hf_6 : (upd f_3 (2 : Int32).toNatClampNeg x_5) = f_6 at hP hD
  have hP : va_P D vwCl [(a0, .inr (2, [.ref a2, .int 0, g2])), (a1, .inr (9, [.ref a3, k1, .ref a4, k3, k4, k5, k6, .int 0, k8, k9])), (a2, .inl (K 0, 476, .inl f_6)), (a3, .inl (K 0, 56, .inl f3)), (a4, .inl (K 0, 6, .inl f4))] H := hP
  have hD : va_D A [(a0, .inr (2, [.ref a2, .int 0, g2])), (a1, .inr (9, [.ref a3, k1, .ref a4, k3, k4, k5, k6, .int 0, k8, k9])), (a2, .inl (K 0, 476, .inl f_6)), (a3, .inl (K 0, 56, .inl f3)), (a4, .inl (K 0, 6, .inl f4))] := hD
  refine lv_aload_n hx hb dX2_draft_34 rfl (lv_at hl 1 rfl) ?_
  refine va_get (ci := 2) (v := .ref a2) (C := RX2) (T := TX2) (N := 3) hx hb hts hw2 hown hK hP 0 rfl rfl 0 (by decide) (hts (.fieldLink RX2 11 "SmokeTune$History" "slots" "[I") (List.mem_cons_of_mem _ (List.mem_append_left _ (List.mem_append_left _ (List.mem_of_getElem? (i := 1) rfl))))) (fun _ h9 => h9) rfl dX2_draft_35 ?_
  refine lv_iload_n hx hb dX2_draft_38 rfl (lv_at hl 0 rfl) ?_
  refine lv_iconst (v := 3) hx hb dX2_draft_39 (by decide) ?_
  refine lv_iadd hx hb dX2_draft_40 ?_
  refine lv_topi (fun x_7 ex_7 => ?_)
  obtain rfl : x_7 = 3 := ex_7.trans (by first | rfl | decide)
  refine lv_aload_n hx hb dX2_draft_41 rfl (lv_at hl 2 rfl) ?_
  refine va_getN (ci := 9) (v := .ref a4) (C := RX9) (T := TX9) (N := 10) hx hb hts hw9 hown hK hP 1 rfl rfl 2 (by decide) (nst_use hN 102 rfl) (fun _ h9 => h9) rfl dX2_draft_42 ?_
  refine lv_iconst (v := 1) hx hb dX2_draft_45 (by decide) ?_
  refine va_iald hx hb hK hP 4 0 rfl rfl (i_in (x := 1) rfl (by omega)) dX2_draft_46 ?_
  refine lv_topi (fun x_8 ex_8 => ?_)
  refine va_iast hx hb hK hP hD hS 2 0 rfl rfl (i_in (x := 3) rfl (by omega)) dX2_draft_47 (fun H locs hP hD hS => ?_)
  generalize hf_9 : (upd f_6 (3 : Int32).toNatClampNeg x_8) = f_9 at hP hD
  have hP : va_P D vwCl [(a0, .inr (2, [.ref a2, .int 0, g2])), (a1, .inr (9, [.ref a3, k1, .ref a4, k3, k4, k5, k6, .int 0, k8, k9])), (a2, .inl (K 0, 476, .inl f_9)), (a3, .inl (K 0, 56, .inl f3)), (a4, .inl (K 0, 6, .inl f4))] H := hP
  have hD : va_D A [(a0, .inr (2, [.ref a2, .int 0, g2])), (a1, .inr (9, [.ref a3, k1, .ref a4, k3, k4, k5, k6, .int 0, k8, k9])), (a2, .inl (K 0, 476, .inl f_9)), (a3, .inl (K 0, 56, .inl f3)), (a4, .inl (K 0, 6, .inl f4))] := hD
  refine lv_iconst (v := 0) hx hb dX2_draft_48 (by decide) ?_
  refine lv_istore_n (lv' := [(3, .int 0), (2, .int 0), (0, .ref a0), (1, .ref a1)]) hx hb dX2_draft_49 rfl hl (by decide) rfl (fun ls hl => ?_)
  refine lv_iload_n hx hb dX2_draft_50 rfl (lv_at hl 0 rfl) ?_
  refine lv_iconst (v := 3) hx hb dX2_draft_51 (by decide) ?_
  refine lv_icmp_ge (tgt := 89) hx hb dX2_draft_52 (by decide) (fun c_10 => absurd c_10 (by decide)) (fun c_10 => ?_)
  refine lv_aload_n hx hb dX2_draft_55 rfl (lv_at hl 3 rfl) ?_
  refine va_getN (ci := 9) (v := .ref a3) (C := RX9) (T := TX9) (N := 10) hx hb hts hw9 hown hK hP 1 rfl rfl 0 (by decide) (nst_use hN 97 rfl) (fun _ h9 => h9) rfl dX2_draft_56 ?_
  refine lv_iload_n hx hb dX2_draft_59 rfl (lv_at hl 0 rfl) ?_
  refine pci (va_runS (As := [.int 0]) (rest := [.ref a3]) ⟨hx, hb, hml, hown, hts⟩ (c_changing_0 l D K H.size) (va_cwS 1 hts gX2_draft_X2_changing rfl rfl rfl (by decide +kernel) ⟨Nat.le_of_ble_eq_true rfl, Nat.le_of_ble_eq_true rfl⟩) (mkS hK hN (hP.sub [] rfl) (hD.sub [] (by decide) rfl)) rfl rfl hl.1 rfl (lv_room (Nat.le_of_ble_eq_true rfl)) dX2_draft_60 ⟨Nat.le_of_ble_eq_true rfl, Nat.le_of_ble_eq_true rfl⟩) (fun r_11 hw => ?_)
  obtain rfl : r_11 = 2 := hw
  refine lv_bipush (v := 8) hx hb dX2_draft_63 (by decide) ?_
  refine lv_imul hx hb dX2_draft_65 ?_
  refine lv_topi (fun x_12 ex_12 => ?_)
  obtain rfl : x_12 = 16 := ex_12.trans (by first | rfl | decide)
  refine lv_aload_n hx hb dX2_draft_66 rfl (lv_at hl 2 rfl) ?_
  refine va_get (ci := 2) (v := .ref a2) (C := RX2) (T := TX2) (N := 3) hx hb hts hw2 hown hK hP 0 rfl rfl 0 (by decide) (hts (.fieldLink RX2 11 "SmokeTune$History" "slots" "[I") (List.mem_cons_of_mem _ (List.mem_append_left _ (List.mem_append_left _ (List.mem_of_getElem? (i := 1) rfl))))) (fun _ h9 => h9) rfl dX2_draft_67 ?_
  refine lv_iload_n hx hb dX2_draft_70 rfl (lv_at hl 1 rfl) ?_
  refine lv_iconst (v := 4) hx hb dX2_draft_71 (by decide) ?_
  refine lv_iadd hx hb dX2_draft_72 ?_
  refine lv_topi (fun x_13 ex_13 => ?_)
  obtain rfl : x_13 = 4 := ex_13.trans (by first | rfl | decide)
  refine lv_iload_n hx hb dX2_draft_73 rfl (lv_at hl 0 rfl) ?_
  refine lv_bipush (v := 8) hx hb dX2_draft_74 (by decide) ?_
  refine lv_imul hx hb dX2_draft_76 ?_
  refine lv_topi (fun x_14 ex_14 => ?_)
  obtain rfl : x_14 = 0 := ex_14.trans (by first | rfl | decide)
  refine lv_iadd hx hb dX2_draft_77 ?_
  refine lv_topi (fun x_15 ex_15 => ?_)
  obtain rfl : x_15 = 4 := ex_15.trans (by first | rfl | decide)
  refine lv_bipush (v := 8) hx hb dX2_draft_78 (by decide) ?_
  refine va_copyi hx hb (hml.trans hl.1.symm) hown (hts (.methodLink RX2 22 arraycopyName) (List.mem_cons_of_mem _ (List.mem_append_left _ (List.mem_append_left _ (List.mem_of_getElem? (i := 2) rfl))))) (hts (.native arraycopyName) (List.mem_cons_of_mem _ (List.mem_append_left _ (List.mem_append_left _ (List.mem_of_getElem? (i := 3) rfl))))) (hts (.static arraycopyName) (List.mem_cons_of_mem _ (List.mem_append_left _ (List.mem_append_left _ (List.mem_of_getElem? (i := 4) rfl))))) (hts (.initialized "java/lang/System") (List.mem_cons_of_mem _ (List.mem_append_left _ (List.mem_append_left _ (List.mem_of_getElem? (i := 5) rfl))))) hK hP hD hS 3 2 0 0 rfl rfl rfl rfl rfl (by decide) (by decide) (by decide) (by decide) (by decide) (fun _ _ => rfl) (Nat.le_of_ble_eq_true rfl) (by decide +kernel) dX2_draft_80 (fun H locs hP hD hS => ?_)
  generalize hf_16 : (va_cpy (α := Int32) f3 f_9 (16 : Int32).toNatClampNeg (4 : Int32).toNatClampNeg (8 : Int32).toNatClampNeg) = f_16 at hP hD
  have hP : va_P D vwCl [(a0, .inr (2, [.ref a2, .int 0, g2])), (a1, .inr (9, [.ref a3, k1, .ref a4, k3, k4, k5, k6, .int 0, k8, k9])), (a2, .inl (K 0, 476, .inl f_16)), (a3, .inl (K 0, 56, .inl f3)), (a4, .inl (K 0, 6, .inl f4))] H := hP
  have hD : va_D A [(a0, .inr (2, [.ref a2, .int 0, g2])), (a1, .inr (9, [.ref a3, k1, .ref a4, k3, k4, k5, k6, .int 0, k8, k9])), (a2, .inl (K 0, 476, .inl f_16)), (a3, .inl (K 0, 56, .inl f3)), (a4, .inl (K 0, 6, .inl f4))] := hD
  refine lv_iinc (v := 1) (lv' := [(3, .int 1), (2, .int 0), (0, .ref a0), (1, .ref a1)]) hx hb dX2_draft_83 hl (k := 0) rfl (by decide) (by decide) rfl (fun ls hl => ?_)
  refine lv_goto (tgt := 50) hx hb dX2_draft_86 (by decide) ?_
  refine lv_iload_n hx hb dX2_draft_50 rfl (lv_at hl 0 rfl) ?_
  refine lv_iconst (v := 3) hx hb dX2_draft_51 (by decide) ?_
  refine lv_icmp_ge (tgt := 89) hx hb dX2_draft_52 (by decide) (fun c_17 => absurd c_17 (by decide)) (fun c_17 => ?_)
  refine lv_aload_n hx hb dX2_draft_55 rfl (lv_at hl 3 rfl) ?_
  refine va_getN (ci := 9) (v := .ref a3) (C := RX9) (T := TX9) (N := 10) hx hb hts hw9 hown hK hP 1 rfl rfl 0 (by decide) (nst_use hN 97 rfl) (fun _ h9 => h9) rfl dX2_draft_56 ?_
  refine lv_iload_n hx hb dX2_draft_59 rfl (lv_at hl 0 rfl) ?_
  refine pci (va_runS (As := [.int 1]) (rest := [.ref a3]) ⟨hx, hb, hml, hown, hts⟩ (c_changing_1 l D K H.size) (va_cwS 1 hts gX2_draft_X2_changing rfl rfl rfl (by decide +kernel) ⟨Nat.le_of_ble_eq_true rfl, Nat.le_of_ble_eq_true rfl⟩) (mkS hK hN (hP.sub [] rfl) (hD.sub [] (by decide) rfl)) rfl rfl hl.1 rfl (lv_room (Nat.le_of_ble_eq_true rfl)) dX2_draft_60 ⟨Nat.le_of_ble_eq_true rfl, Nat.le_of_ble_eq_true rfl⟩) (fun r_18 hw => ?_)
  obtain rfl : r_18 = 5 := hw
  refine lv_bipush (v := 8) hx hb dX2_draft_63 (by decide) ?_
  refine lv_imul hx hb dX2_draft_65 ?_
  refine lv_topi (fun x_19 ex_19 => ?_)
  obtain rfl : x_19 = 40 := ex_19.trans (by first | rfl | decide)
  refine lv_aload_n hx hb dX2_draft_66 rfl (lv_at hl 2 rfl) ?_
  refine va_get (ci := 2) (v := .ref a2) (C := RX2) (T := TX2) (N := 3) hx hb hts hw2 hown hK hP 0 rfl rfl 0 (by decide) (hts (.fieldLink RX2 11 "SmokeTune$History" "slots" "[I") (List.mem_cons_of_mem _ (List.mem_append_left _ (List.mem_append_left _ (List.mem_of_getElem? (i := 1) rfl))))) (fun _ h9 => h9) rfl dX2_draft_67 ?_
  refine lv_iload_n hx hb dX2_draft_70 rfl (lv_at hl 1 rfl) ?_
  refine lv_iconst (v := 4) hx hb dX2_draft_71 (by decide) ?_
  refine lv_iadd hx hb dX2_draft_72 ?_
  refine lv_topi (fun x_20 ex_20 => ?_)
  obtain rfl : x_20 = 4 := ex_20.trans (by first | rfl | decide)
  refine lv_iload_n hx hb dX2_draft_73 rfl (lv_at hl 0 rfl) ?_
  refine lv_bipush (v := 8) hx hb dX2_draft_74 (by decide) ?_
  refine lv_imul hx hb dX2_draft_76 ?_
  refine lv_topi (fun x_21 ex_21 => ?_)
  obtain rfl : x_21 = 8 := ex_21.trans (by first | rfl | decide)
  refine lv_iadd hx hb dX2_draft_77 ?_
  refine lv_topi (fun x_22 ex_22 => ?_)
  obtain rfl : x_22 = 12 := ex_22.trans (by first | rfl | decide)
  refine lv_bipush (v := 8) hx hb dX2_draft_78 (by decide) ?_
  refine va_copyi hx hb (hml.trans hl.1.symm) hown (hts (.methodLink RX2 22 arraycopyName) (List.mem_cons_of_mem _ (List.mem_append_left _ (List.mem_append_left _ (List.mem_of_getElem? (i := 2) rfl))))) (hts (.native arraycopyName) (List.mem_cons_of_mem _ (List.mem_append_left _ (List.mem_append_left _ (List.mem_of_getElem? (i := 3) rfl))))) (hts (.static arraycopyName) (List.mem_cons_of_mem _ (List.mem_append_left _ (List.mem_append_left _ (List.mem_of_getElem? (i := 4) rfl))))) (hts (.initialized "java/lang/System") (List.mem_cons_of_mem _ (List.mem_append_left _ (List.mem_append_left _ (List.mem_of_getElem? (i := 5) rfl))))) hK hP hD hS 3 2 0 0 rfl rfl rfl rfl rfl (by decide) (by decide) (by decide) (by decide) (by decide) (fun _ _ => rfl) (Nat.le_of_ble_eq_true rfl) (by decide +kernel) dX2_draft_80 (fun H locs hP hD hS => ?_)
  generalize hf_23 : (va_cpy (α := Int32) f3 f_16 (40 : Int32).toNatClampNeg (12 : Int32).toNatClampNeg (8 : Int32).toNatClampNeg) = f_23 at hP hD
  have hP : va_P D vwCl [(a0, .inr (2, [.ref a2, .int 0, g2])), (a1, .inr (9, [.ref a3, k1, .ref a4, k3, k4, k5, k6, .int 0, k8, k9])), (a2, .inl (K 0, 476, .inl f_23)), (a3, .inl (K 0, 56, .inl f3)), (a4, .inl (K 0, 6, .inl f4))] H := hP
  have hD : va_D A [(a0, .inr (2, [.ref a2, .int 0, g2])), (a1, .inr (9, [.ref a3, k1, .ref a4, k3, k4, k5, k6, .int 0, k8, k9])), (a2, .inl (K 0, 476, .inl f_23)), (a3, .inl (K 0, 56, .inl f3)), (a4, .inl (K 0, 6, .inl f4))] := hD
  refine lv_iinc (v := 2) (lv' := [(3, .int 2), (2, .int 0), (0, .ref a0), (1, .ref a1)]) hx hb dX2_draft_83 hl (k := 0) rfl (by decide) (by decide) rfl (fun ls hl => ?_)
  refine lv_goto (tgt := 50) hx hb dX2_draft_86 (by decide) ?_
  refine lv_iload_n hx hb dX2_draft_50 rfl (lv_at hl 0 rfl) ?_
  refine lv_iconst (v := 3) hx hb dX2_draft_51 (by decide) ?_
  refine lv_icmp_ge (tgt := 89) hx hb dX2_draft_52 (by decide) (fun c_24 => absurd c_24 (by decide)) (fun c_24 => ?_)
  refine lv_aload_n hx hb dX2_draft_55 rfl (lv_at hl 3 rfl) ?_
  refine va_getN (ci := 9) (v := .ref a3) (C := RX9) (T := TX9) (N := 10) hx hb hts hw9 hown hK hP 1 rfl rfl 0 (by decide) (nst_use hN 97 rfl) (fun _ h9 => h9) rfl dX2_draft_56 ?_
  refine lv_iload_n hx hb dX2_draft_59 rfl (lv_at hl 0 rfl) ?_
  refine pci (va_runS (As := [.int 2]) (rest := [.ref a3]) ⟨hx, hb, hml, hown, hts⟩ (c_changing_2 l D K H.size) (va_cwS 1 hts gX2_draft_X2_changing rfl rfl rfl (by decide +kernel) ⟨Nat.le_of_ble_eq_true rfl, Nat.le_of_ble_eq_true rfl⟩) (mkS hK hN (hP.sub [] rfl) (hD.sub [] (by decide) rfl)) rfl rfl hl.1 rfl (lv_room (Nat.le_of_ble_eq_true rfl)) dX2_draft_60 ⟨Nat.le_of_ble_eq_true rfl, Nat.le_of_ble_eq_true rfl⟩) (fun r_25 hw => ?_)
  obtain rfl : r_25 = 6 := hw
  refine lv_bipush (v := 8) hx hb dX2_draft_63 (by decide) ?_
  refine lv_imul hx hb dX2_draft_65 ?_
  refine lv_topi (fun x_26 ex_26 => ?_)
  obtain rfl : x_26 = 48 := ex_26.trans (by first | rfl | decide)
  refine lv_aload_n hx hb dX2_draft_66 rfl (lv_at hl 2 rfl) ?_
  refine va_get (ci := 2) (v := .ref a2) (C := RX2) (T := TX2) (N := 3) hx hb hts hw2 hown hK hP 0 rfl rfl 0 (by decide) (hts (.fieldLink RX2 11 "SmokeTune$History" "slots" "[I") (List.mem_cons_of_mem _ (List.mem_append_left _ (List.mem_append_left _ (List.mem_of_getElem? (i := 1) rfl))))) (fun _ h9 => h9) rfl dX2_draft_67 ?_
  refine lv_iload_n hx hb dX2_draft_70 rfl (lv_at hl 1 rfl) ?_
  refine lv_iconst (v := 4) hx hb dX2_draft_71 (by decide) ?_
  refine lv_iadd hx hb dX2_draft_72 ?_
  refine lv_topi (fun x_27 ex_27 => ?_)
  obtain rfl : x_27 = 4 := ex_27.trans (by first | rfl | decide)
  refine lv_iload_n hx hb dX2_draft_73 rfl (lv_at hl 0 rfl) ?_
  refine lv_bipush (v := 8) hx hb dX2_draft_74 (by decide) ?_
  refine lv_imul hx hb dX2_draft_76 ?_
  refine lv_topi (fun x_28 ex_28 => ?_)
  obtain rfl : x_28 = 16 := ex_28.trans (by first | rfl | decide)
  refine lv_iadd hx hb dX2_draft_77 ?_
  refine lv_topi (fun x_29 ex_29 => ?_)
  obtain rfl : x_29 = 20 := ex_29.trans (by first | rfl | decide)
  refine lv_bipush (v := 8) hx hb dX2_draft_78 (by decide) ?_
  refine va_copyi hx hb (hml.trans hl.1.symm) hown (hts (.methodLink RX2 22 arraycopyName) (List.mem_cons_of_mem _ (List.mem_append_left _ (List.mem_append_left _ (List.mem_of_getElem? (i := 2) rfl))))) (hts (.native arraycopyName) (List.mem_cons_of_mem _ (List.mem_append_left _ (List.mem_append_left _ (List.mem_of_getElem? (i := 3) rfl))))) (hts (.static arraycopyName) (List.mem_cons_of_mem _ (List.mem_append_left _ (List.mem_append_left _ (List.mem_of_getElem? (i := 4) rfl))))) (hts (.initialized "java/lang/System") (List.mem_cons_of_mem _ (List.mem_append_left _ (List.mem_append_left _ (List.mem_of_getElem? (i := 5) rfl))))) hK hP hD hS 3 2 0 0 rfl rfl rfl rfl rfl (by decide) (by decide) (by decide) (by decide) (by decide) (fun _ _ => rfl) (Nat.le_of_ble_eq_true rfl) (by decide +kernel) dX2_draft_80 (fun H locs hP hD hS => ?_)
  generalize hf_30 : (va_cpy (α := Int32) f3 f_23 (48 : Int32).toNatClampNeg (20 : Int32).toNatClampNeg (8 : Int32).toNatClampNeg) = f_30 at hP hD
  have hP : va_P D vwCl [(a0, .inr (2, [.ref a2, .int 0, g2])), (a1, .inr (9, [.ref a3, k1, .ref a4, k3, k4, k5, k6, .int 0, k8, k9])), (a2, .inl (K 0, 476, .inl f_30)), (a3, .inl (K 0, 56, .inl f3)), (a4, .inl (K 0, 6, .inl f4))] H := hP
  have hD : va_D A [(a0, .inr (2, [.ref a2, .int 0, g2])), (a1, .inr (9, [.ref a3, k1, .ref a4, k3, k4, k5, k6, .int 0, k8, k9])), (a2, .inl (K 0, 476, .inl f_30)), (a3, .inl (K 0, 56, .inl f3)), (a4, .inl (K 0, 6, .inl f4))] := hD
  refine lv_iinc (v := 3) (lv' := [(3, .int 3), (2, .int 0), (0, .ref a0), (1, .ref a1)]) hx hb dX2_draft_83 hl (k := 0) rfl (by decide) (by decide) rfl (fun ls hl => ?_)
  refine lv_goto (tgt := 50) hx hb dX2_draft_86 (by decide) ?_
  refine lv_iload_n hx hb dX2_draft_50 rfl (lv_at hl 0 rfl) ?_
  refine lv_iconst (v := 3) hx hb dX2_draft_51 (by decide) ?_
  refine lv_icmp_ge (tgt := 89) hx hb dX2_draft_52 (by decide) (fun c_31 => ?_) (fun c_31 => absurd (by decide) c_31)
  have hP9 := hP.sub (ws' := [(a0, .inr (2, [.ref a2, .int 0, g2])), (a1, .inr (9, [.ref a3, k1, .ref a4, k3, k4, k5, k6, .int 0, k8, k9])), (a2, .inl (K 0, 476, .inl f_30)), (a3, .inl (K 0, 56, .inl f3)), (a4, .inl (K 0, 6, .inl f4))]) [0, 1, 2, 3, 4] rfl
  have hD9 := hD.sub (ws' := [(a0, .inr (2, [.ref a2, .int 0, g2])), (a1, .inr (9, [.ref a3, k1, .ref a4, k3, k4, k5, k6, .int 0, k8, k9])), (a2, .inl (K 0, 476, .inl f_30)), (a3, .inl (K 0, 56, .inl f3)), (a4, .inl (K 0, 6, .inl f4))]) [0, 1, 2, 3, 4] (by decide) rfl
  exact W.vret hx hb hr (fun t ht hW => ⟨⟨(fun _ => 0, fun i => match i with | _ => f_30, fun _ => fun _ => 0, fun _ => 0), rfl, trivial, (⟨by rw [ht]; exact hP9, hD9⟩ : Wd D A _ t)⟩, hS.F ht⟩) hS.2.2 dX2_draft_89
set_option maxHeartbeats 4000000 in
set_option maxRecDepth 100000 in
theorem c_kindle (l : Launch) (D : va_G) (K : Nat → ClassId) (a0 : Nat) (a1 : Nat) (x : Int32) (g0 : Value) (k0 : Value) (k1 : Value) (k2 : Value) (k3 : Value) (k5 : Value) (k6 : Value) (k7 : Value) (k8 : Value) (k9 : Value) (sz : Nat) : Met l yX10_kindle wsX10_kindle ({ frames := 1, cells := 0, slots := 0, locals := 21 }) (va_Pc [.ref a0, .ref a1, .int x] (Pre D K [(a0, .inr (10, [g0])), (a1, .inr (9, [k0, k1, k2, k3, .int 0, k5, k6, k7, k8, k9]))] sz)) (vp_Si (fun r : Int32 => (r = (-2)))) 0 0 (fun _ => False) := by
  refine Met.ofW (cc := cX10_kindle) (maxL := 6) (ret := (some .int)) (by decide) rfl ?_
  intro p e s m args below meth c s₁ B hml hv
  obtain ⟨rfl, hsz, hP, hK, hD0, hN⟩ := hv
  have hx := B.exec
  have hb := B.bytes
  have hr := B.returns
  have hts := atoms_spec (ws := wsX10_kindle) B.pre
  have hown : s.vm.findClass RX10 = some m.cls := findClass_of_methodNamed B.named
  have hlocks := B.notSynchronized
  subst hsz
  have hD := hD0
  have hP : va_P D vwCl [(a0, .inr (10, [g0])), (a1, .inr (9, [k0, k1, k2, k3, .int 0, k5, k6, k7, k8, k9]))] s.heap := hP
  have hl := lv_entry [.ref a0, .ref a1, .int x] (n := 6) (Nat.le_of_ble_eq_true rfl)
  rw [lg_entry_eq]
  generalize (lg_sl [.ref a0, .ref a1, .int x] ++ List.replicate (6 - (lg_sl [.ref a0, .ref a1, .int x]).length) Slot.unset).toArray = ls at hl ⊢
  have hl : lv_has ls 6 [(0, .ref a0), (1, .ref a1), (2, .int x)] := hl
  have hw0 : ∀ w ∈ wsX00, w ∈ wsX10_kindle := fun w h => (List.mem_cons_of_mem _ (List.mem_append_left _ (List.mem_append_left _ (List.mem_append_right _ h))))
  have hw3 : ∀ w ∈ wsX30, w ∈ wsX10_kindle := fun w h => (List.mem_cons_of_mem _ (List.mem_append_right _ h))
  have hw7 : ∀ w ∈ wsX70, w ∈ wsX10_kindle := fun w h => (List.mem_cons_of_mem _ (List.mem_append_left _ (List.mem_append_right _ h)))
  have hw9 : ∀ w ∈ wsX90, w ∈ wsX10_kindle := fun w h => (List.mem_cons_of_mem _ (List.mem_append_left _ (List.mem_append_left _ (List.mem_append_left _ (List.mem_append_right _ h)))))
  have hw10 : ∀ w ∈ wsX100, w ∈ wsX10_kindle := fun w h => (List.mem_cons_of_mem _ (List.mem_append_left _ (List.mem_append_left _ (List.mem_append_left _ (List.mem_append_left _ (List.mem_append_right _ h))))))
  refine lv_aload_n hx hb dX10_kindle_0 rfl (lv_at hl 1 rfl) ?_
  refine lv_iload_n hx hb dX10_kindle_1 rfl (lv_at hl 2 rfl) ?_
  refine pci (va_runVN (As := [.int x]) (rest := []) ⟨hx, hb, hml, hown, hts⟩ (c_has l D K a1 x k0 k1 k2 k3 k5 k6 k7 k8 k9 s.heap.size) ⟨va_cnB 1 hts gX10_kindle_X9_has_n18 rfl rfl rfl (nst_at hN 50 rfl) (hts (.initialized RX9) (List.mem_cons_of_mem _ (List.mem_append_left _ (List.mem_append_left _ (List.mem_append_left _ (List.mem_append_left _ (List.mem_append_left _ (List.mem_append_left _ (List.mem_of_getElem? (i := 6) rfl))))))))) (by decide +kernel) ⟨Nat.le_of_ble_eq_true rfl, Nat.le_of_ble_eq_true rfl⟩, (hts (.instanceMethod yX9_has) (List.mem_cons_of_mem _ (List.mem_append_left _ (List.mem_append_left _ (List.mem_append_left _ (List.mem_append_left _ (List.mem_append_left _ (List.mem_append_left _ (List.mem_of_getElem? (i := 5) rfl))))))))), (hts (.selects RX9 yX9_has yX9_has) (List.mem_cons_of_mem _ (List.mem_append_left _ (List.mem_append_left _ (List.mem_append_left _ (List.mem_append_left _ (List.mem_append_left _ (List.mem_append_left _ (List.mem_of_getElem? (i := 7) rfl)))))))))⟩ (mkV hK hN (hP.sub [1] rfl) (hD.sub [1] (by decide) rfl) (ci := 9) (q0 := 0) rfl rfl) rfl rfl hl.1 rfl (lv_room (Nat.le_of_ble_eq_true rfl)) dX10_kindle_2 ⟨Nat.le_of_ble_eq_true rfl, Nat.le_of_ble_eq_true rfl⟩) (fun r_1 hw => ?_)
  obtain rfl : r_1 = 0 := hw
  refine lv_if_ne (tgt := 11) hx hb dX10_kindle_5 (by decide) (fun c_2 => absurd (by decide) c_2) (fun c_2 => ?_)
  refine lv_bipush (v := (-2)) hx hb dX10_kindle_8 (by decide) ?_
  exact W.iret (v := (-2)) hx hb hr (fun t ht hW => ⟨_, rfl, (by first | exact rfl), ht⟩) (fun q hq => by cases hq) dX10_kindle_10
set_option maxHeartbeats 4000000 in
set_option maxRecDepth 100000 in
theorem c_quench (l : Launch) (D : va_G) (K : Nat → ClassId) (a0 : Nat) (a1 : Nat) (x : Int32) (y : Int32) (g0 : Value) (k0 : Value) (k1 : Value) (k2 : Value) (k3 : Value) (k5 : Value) (k6 : Value) (k7 : Value) (k8 : Value) (k9 : Value) (Y : Int) (sz : Nat) (qy : y.toInt = Y) : Met l yX10_quench wsX10_quench ({ frames := 1, cells := 0, slots := 0, locals := 22 }) (va_Pc [.ref a0, .ref a1, .int x, .int y] (Pre D K [(a0, .inr (10, [g0])), (a1, .inr (9, [k0, k1, k2, k3, .int 0, k5, k6, k7, k8, k9]))] sz)) (vp_Si (fun r : Int32 => (r = (-2) ∧ 1 ≤ Y ∧ Y ≤ 20) ∨ (r = (-1) ∧ (Y < 1 ∨ 20 < Y)))) 0 0 (fun _ => False) := by
  refine Met.ofW (cc := cX10_quench) (maxL := 5) (ret := (some .int)) (by decide) rfl ?_
  intro p e s m args below meth c s₁ B hml hv
  obtain ⟨rfl, hsz, hP, hK, hD0, hN⟩ := hv
  have hx := B.exec
  have hb := B.bytes
  have hr := B.returns
  have hts := atoms_spec (ws := wsX10_quench) B.pre
  have hown : s.vm.findClass RX10 = some m.cls := findClass_of_methodNamed B.named
  have hlocks := B.notSynchronized
  subst hsz
  have hD := hD0
  have hP : va_P D vwCl [(a0, .inr (10, [g0])), (a1, .inr (9, [k0, k1, k2, k3, .int 0, k5, k6, k7, k8, k9]))] s.heap := hP
  have hl := lv_entry [.ref a0, .ref a1, .int x, .int y] (n := 5) (Nat.le_of_ble_eq_true rfl)
  rw [lg_entry_eq]
  generalize (lg_sl [.ref a0, .ref a1, .int x, .int y] ++ List.replicate (5 - (lg_sl [.ref a0, .ref a1, .int x, .int y]).length) Slot.unset).toArray = ls at hl ⊢
  have hl : lv_has ls 5 [(0, .ref a0), (1, .ref a1), (2, .int x), (3, .int y)] := hl
  have hw9 : ∀ w ∈ wsX90, w ∈ wsX10_quench := fun w h => (List.mem_cons_of_mem _ (List.mem_append_right _ h))
  refine lv_iload_n hx hb dX10_quench_0 rfl (lv_at hl 3 rfl) ?_
  refine lv_iconst (v := 1) hx hb dX10_quench_1 (by decide) ?_
  refine lv_bipush (v := 20) hx hb dX10_quench_2 (by decide) ?_
  refine pci (va_runSN (As := [.int y, .int 1, .int 20]) (rest := []) ⟨hx, hb, hml, hown, hts⟩ (c_within l D K y 1 20 Y 1 20 s.heap.size qy rfl rfl) ⟨va_cnB 3 hts gX10_quench_X11_within_n49 rfl rfl rfl (nst_at hN 57 rfl) (hts (.initialized RX11) (List.mem_cons_of_mem _ (List.mem_append_left _ (List.mem_of_getElem? (i := 5) rfl)))) (by decide +kernel) ⟨Nat.le_of_ble_eq_true rfl, Nat.le_of_ble_eq_true rfl⟩, (hts (.static yX11_within) (List.mem_cons_of_mem _ (List.mem_append_left _ (List.mem_of_getElem? (i := 4) rfl)))), trivial⟩ (mkS hK hN (hP.sub [] rfl) (hD.sub [] (by decide) rfl)) rfl rfl hl.1 rfl (lv_room (Nat.le_of_ble_eq_true rfl)) dX10_quench_4 ⟨Nat.le_of_ble_eq_true rfl, Nat.le_of_ble_eq_true rfl⟩) (fun r_1 hw => ?_)
  rcases hw with ⟨rfl, h_2, h_3⟩ | ⟨rfl, h_4⟩
  · refine lv_if_ne (tgt := 12) hx hb dX10_quench_7 (by decide) (fun c_5 => ?_) (fun c_5 => absurd c_5 (by decide))
    refine lv_aload_n hx hb dX10_quench_12 rfl (lv_at hl 1 rfl) ?_
    refine lv_iload_n hx hb dX10_quench_13 rfl (lv_at hl 2 rfl) ?_
    refine pci (va_runVN (As := [.int x]) (rest := []) ⟨hx, hb, hml, hown, hts⟩ (c_has l D K a1 x k0 k1 k2 k3 k5 k6 k7 k8 k9 s.heap.size) ⟨va_cnB 1 hts gX10_quench_X9_has_n18 rfl rfl rfl (nst_at hN 50 rfl) (hts (.initialized RX9) (List.mem_cons_of_mem _ (List.mem_append_left _ (List.mem_of_getElem? (i := 8) rfl)))) (by decide +kernel) ⟨Nat.le_of_ble_eq_true rfl, Nat.le_of_ble_eq_true rfl⟩, (hts (.instanceMethod yX9_has) (List.mem_cons_of_mem _ (List.mem_append_left _ (List.mem_of_getElem? (i := 7) rfl)))), (hts (.selects RX9 yX9_has yX9_has) (List.mem_cons_of_mem _ (List.mem_append_left _ (List.mem_of_getElem? (i := 9) rfl))))⟩ (mkV hK hN (hP.sub [1] rfl) (hD.sub [1] (by decide) rfl) (ci := 9) (q0 := 0) rfl rfl) rfl rfl hl.1 rfl (lv_room (Nat.le_of_ble_eq_true rfl)) dX10_quench_14 ⟨Nat.le_of_ble_eq_true rfl, Nat.le_of_ble_eq_true rfl⟩) (fun r_6 hw => ?_)
    obtain rfl : r_6 = 0 := hw
    refine lv_if_ne (tgt := 23) hx hb dX10_quench_17 (by decide) (fun c_7 => absurd (by decide) c_7) (fun c_7 => ?_)
    refine lv_bipush (v := (-2)) hx hb dX10_quench_20 (by decide) ?_
    exact W.iret (v := (-2)) hx hb hr (fun t ht hW => ⟨_, rfl, (by first | exact Or.inl (⟨rfl, by first | omega | decide | (subst_vars; assumption) | (subst_vars; symm; assumption), by first | omega | decide | (subst_vars; assumption) | (subst_vars; symm; assumption)⟩)), ht⟩) (fun q hq => by cases hq) dX10_quench_22
  · refine lv_if_ne (tgt := 12) hx hb dX10_quench_7 (by decide) (fun c_8 => absurd (by decide) c_8) (fun c_8 => ?_)
    refine lv_iconst (v := (-1)) hx hb dX10_quench_10 (by decide) ?_
    exact W.iret (v := (-1)) hx hb hr (fun t ht hW => ⟨_, rfl, (by first | exact Or.inr (⟨rfl, by first | omega | decide | (subst_vars; assumption) | (subst_vars; symm; assumption)⟩)), ht⟩) (fun q hq => by cases hq) dX10_quench_11
set_option maxHeartbeats 4000000 in
set_option maxRecDepth 100000 in
theorem c_supply (l : Launch) (D : va_G) (K : Nat → ClassId) (a0 : Nat) (a1 : Nat) (x : Int32) (y : Int32) (g0 : Value) (k0 : Value) (k1 : Value) (k2 : Value) (k3 : Value) (k5 : Value) (k6 : Value) (k7 : Value) (k8 : Value) (k9 : Value) (Y : Int) (sz : Nat) (qy : y.toInt = Y) : Met l yX10_supply wsX10_supply ({ frames := 1, cells := 0, slots := 0, locals := 22 }) (va_Pc [.ref a0, .ref a1, .int x, .int y] (Pre D K [(a0, .inr (10, [g0])), (a1, .inr (9, [k0, k1, k2, k3, .int 0, k5, k6, k7, k8, k9]))] sz)) (vp_Si (fun r : Int32 => (r = (-2) ∧ 1 ≤ Y ∧ Y ≤ 999) ∨ (r = (-1) ∧ (Y < 1 ∨ 999 < Y)))) 0 0 (fun _ => False) := by
  refine Met.ofW (cc := cX10_supply) (maxL := 5) (ret := (some .int)) (by decide) rfl ?_
  intro p e s m args below meth c s₁ B hml hv
  obtain ⟨rfl, hsz, hP, hK, hD0, hN⟩ := hv
  have hx := B.exec
  have hb := B.bytes
  have hr := B.returns
  have hts := atoms_spec (ws := wsX10_supply) B.pre
  have hown : s.vm.findClass RX10 = some m.cls := findClass_of_methodNamed B.named
  have hlocks := B.notSynchronized
  subst hsz
  have hD := hD0
  have hP : va_P D vwCl [(a0, .inr (10, [g0])), (a1, .inr (9, [k0, k1, k2, k3, .int 0, k5, k6, k7, k8, k9]))] s.heap := hP
  have hl := lv_entry [.ref a0, .ref a1, .int x, .int y] (n := 5) (Nat.le_of_ble_eq_true rfl)
  rw [lg_entry_eq]
  generalize (lg_sl [.ref a0, .ref a1, .int x, .int y] ++ List.replicate (5 - (lg_sl [.ref a0, .ref a1, .int x, .int y]).length) Slot.unset).toArray = ls at hl ⊢
  have hl : lv_has ls 5 [(0, .ref a0), (1, .ref a1), (2, .int x), (3, .int y)] := hl
  have hw9 : ∀ w ∈ wsX90, w ∈ wsX10_supply := fun w h => (List.mem_cons_of_mem _ (List.mem_append_right _ h))
  refine lv_iload_n hx hb dX10_supply_0 rfl (lv_at hl 3 rfl) ?_
  refine lv_iconst (v := 1) hx hb dX10_supply_1 (by decide) ?_
  refine lv_sipush (v := 999) hx hb dX10_supply_2 (by decide) ?_
  refine pci (va_runSN (As := [.int y, .int 1, .int 999]) (rest := []) ⟨hx, hb, hml, hown, hts⟩ (c_within l D K y 1 999 Y 1 999 s.heap.size qy rfl rfl) ⟨va_cnB 3 hts gX10_supply_X11_within_n49 rfl rfl rfl (nst_at hN 57 rfl) (hts (.initialized RX11) (List.mem_cons_of_mem _ (List.mem_append_left _ (List.mem_of_getElem? (i := 5) rfl)))) (by decide +kernel) ⟨Nat.le_of_ble_eq_true rfl, Nat.le_of_ble_eq_true rfl⟩, (hts (.static yX11_within) (List.mem_cons_of_mem _ (List.mem_append_left _ (List.mem_of_getElem? (i := 4) rfl)))), trivial⟩ (mkS hK hN (hP.sub [] rfl) (hD.sub [] (by decide) rfl)) rfl rfl hl.1 rfl (lv_room (Nat.le_of_ble_eq_true rfl)) dX10_supply_5 ⟨Nat.le_of_ble_eq_true rfl, Nat.le_of_ble_eq_true rfl⟩) (fun r_1 hw => ?_)
  rcases hw with ⟨rfl, h_2, h_3⟩ | ⟨rfl, h_4⟩
  · refine lv_if_ne (tgt := 13) hx hb dX10_supply_8 (by decide) (fun c_5 => ?_) (fun c_5 => absurd c_5 (by decide))
    refine lv_aload_n hx hb dX10_supply_13 rfl (lv_at hl 1 rfl) ?_
    refine lv_iload_n hx hb dX10_supply_14 rfl (lv_at hl 2 rfl) ?_
    refine pci (va_runVN (As := [.int x]) (rest := []) ⟨hx, hb, hml, hown, hts⟩ (c_has l D K a1 x k0 k1 k2 k3 k5 k6 k7 k8 k9 s.heap.size) ⟨va_cnB 1 hts gX10_supply_X9_has_n18 rfl rfl rfl (nst_at hN 50 rfl) (hts (.initialized RX9) (List.mem_cons_of_mem _ (List.mem_append_left _ (List.mem_of_getElem? (i := 8) rfl)))) (by decide +kernel) ⟨Nat.le_of_ble_eq_true rfl, Nat.le_of_ble_eq_true rfl⟩, (hts (.instanceMethod yX9_has) (List.mem_cons_of_mem _ (List.mem_append_left _ (List.mem_of_getElem? (i := 7) rfl)))), (hts (.selects RX9 yX9_has yX9_has) (List.mem_cons_of_mem _ (List.mem_append_left _ (List.mem_of_getElem? (i := 9) rfl))))⟩ (mkV hK hN (hP.sub [1] rfl) (hD.sub [1] (by decide) rfl) (ci := 9) (q0 := 0) rfl rfl) rfl rfl hl.1 rfl (lv_room (Nat.le_of_ble_eq_true rfl)) dX10_supply_15 ⟨Nat.le_of_ble_eq_true rfl, Nat.le_of_ble_eq_true rfl⟩) (fun r_6 hw => ?_)
    obtain rfl : r_6 = 0 := hw
    refine lv_if_ne (tgt := 24) hx hb dX10_supply_18 (by decide) (fun c_7 => absurd (by decide) c_7) (fun c_7 => ?_)
    refine lv_bipush (v := (-2)) hx hb dX10_supply_21 (by decide) ?_
    exact W.iret (v := (-2)) hx hb hr (fun t ht hW => ⟨_, rfl, (by first | exact Or.inl (⟨rfl, by first | omega | decide | (subst_vars; assumption) | (subst_vars; symm; assumption), by first | omega | decide | (subst_vars; assumption) | (subst_vars; symm; assumption)⟩)), ht⟩) (fun q hq => by cases hq) dX10_supply_23
  · refine lv_if_ne (tgt := 13) hx hb dX10_supply_8 (by decide) (fun c_8 => absurd (by decide) c_8) (fun c_8 => ?_)
    refine lv_iconst (v := (-1)) hx hb dX10_supply_11 (by decide) ?_
    exact W.iret (v := (-1)) hx hb hr (fun t ht hW => ⟨_, rfl, (by first | exact Or.inr (⟨rfl, by first | omega | decide | (subst_vars; assumption) | (subst_vars; symm; assumption)⟩)), ht⟩) (fun q hq => by cases hq) dX10_supply_12
set_option maxHeartbeats 4000000 in
set_option maxRecDepth 100000 in
theorem c_settle_1 (l : Launch) (D : va_G) (K : Nat → ClassId) (a0 : Nat) (kd : Int32) (g0 : Value) (g1 : Value) (g2 : Value) (g3 : Value) (g4 : Value) (g5 : Value) (g6 : Value) (g7 : Value) (g8 : Value) (g9 : Value) (g10 : Value) (g11 : Value) (a1 : Nat) (g13 : Value) (g14 : Value) (g15 : Value) (g16 : Value) (f : Nat → Int32) (sz : Nat) : Met l yX11_settle wsX11_settle ({ frames := 2, cells := 0, slots := 0, locals := 44 }) (va_Pc [.ref a0, .int kd, .int (-1)] (Pre D K [(a0, .inr (11, [g0, g1, g2, g3, g4, g5, g6, g7, g8, g9, g10, g11, .ref a1, g13, g14, g15, g16])), (a1, .inl (K 0, 5, .inl f))] sz)) (va_Qi (S := Unit) (fun (r : Int32) (_ : Unit) => (r = (-1))) (fun u t => Wd D (va_A [(a0, .inr (11, [g0, g1, g2, g3, g4, g5, g6, g7, g8, g9, g10, g11, .ref a1, g13, g14, g15, g16])), (a1, .inl (K 0, 5, .inl f))] sz) ((fun _ => []) u) t) (va_A [(a0, .inr (11, [g0, g1, g2, g3, g4, g5, g6, g7, g8, g9, g10, g11, .ref a1, g13, g14, g15, g16])), (a1, .inl (K 0, 5, .inl f))] sz)) 0 0 (va_A [(a0, .inr (11, [g0, g1, g2, g3, g4, g5, g6, g7, g8, g9, g10, g11, .ref a1, g13, g14, g15, g16])), (a1, .inl (K 0, 5, .inl f))] sz) := by
  refine Met.ofW (cc := cX11_settle) (maxL := 3) (ret := (some .int)) (by decide) rfl ?_
  intro p e s m args below meth c s₁ B hml hv
  obtain ⟨rfl, hsz, hP, hK, hD0, hN⟩ := hv
  have hx := B.exec
  have hb := B.bytes
  have hr := B.returns
  have hts := atoms_spec (ws := wsX11_settle) B.pre
  have hown : s.vm.findClass RX11 = some m.cls := findClass_of_methodNamed B.named
  have hlocks := B.notSynchronized
  subst hsz
  have hD := hD0.self (sz := s.heap.size)
  generalize hAe : va_A [(a0, .inr (11, [g0, g1, g2, g3, g4, g5, g6, g7, g8, g9, g10, g11, .ref a1, g13, g14, g15, g16])), (a1, .inl (K 0, 5, .inl f))] s.heap.size = A at hD ⊢
  have hA : ∀ q : Nat, s.heap.size ≤ q → A q := fun q h => by rw [← hAe]; exact Or.inr h
  have hS : va_S A s.heap s.heap [] := va_S.rf
  have hP : va_P D vwCl [(a0, .inr (11, [g0, g1, g2, g3, g4, g5, g6, g7, g8, g9, g10, g11, .ref a1, g13, g14, g15, g16])), (a1, .inl (K 0, 5, .inl f))] s.heap := hP
  have hl := lv_entry [.ref a0, .int kd, .int (-1)] (n := 3) (Nat.le_of_ble_eq_true rfl)
  rw [lg_entry_eq]
  generalize (lg_sl [.ref a0, .int kd, .int (-1)] ++ List.replicate (3 - (lg_sl [.ref a0, .int kd, .int (-1)]).length) Slot.unset).toArray = ls at hl ⊢
  have hl : lv_has ls 3 [(0, .ref a0), (1, .int kd), (2, .int (-1))] := hl
  have hw2 : ∀ w ∈ wsX20, w ∈ wsX11_settle := fun w h => (List.mem_cons_of_mem _ (List.mem_append_right _ h))
  have hw11 : ∀ w ∈ wsX110, w ∈ wsX11_settle := fun w h => (List.mem_cons_of_mem _ (List.mem_append_left _ (List.mem_append_right _ h)))
  refine lv_iload_n hx hb dX11_settle_0 rfl (lv_at hl 2 rfl) ?_
  refine lv_if_ge (tgt := 10) hx hb dX11_settle_1 (by decide) (fun c_1 => absurd c_1 (by decide)) (fun c_1 => ?_)
  refine lv_aload_n hx hb dX11_settle_4 rfl (lv_at hl 0 rfl) ?_
  refine lv_iload_n hx hb dX11_settle_5 rfl (lv_at hl 2 rfl) ?_
  refine kci (wr := []) (va_runV (As := [.int (-1)]) (rest := []) ⟨hx, hb, hml, hown, hts⟩ (c_refuse_1 l D K a0 g0 g1 g2 g3 g4 g5 g6 g7 g8 g9 g10 g11 a1 g13 g14 g15 g16 f s.heap.size) (cwV 1 hts gX11_settle_X11_refuse rfl rfl rfl (by decide +kernel) ⟨Nat.le_of_ble_eq_true rfl, Nat.le_of_ble_eq_true rfl⟩) (mkV hK hN (hP.sub [0, 1] rfl) (hD.sub [0, 1] (by decide) rfl) (ci := 11) (q0 := 0) rfl rfl) rfl rfl hl.1 rfl (lv_room (Nat.le_of_ble_eq_true rfl)) dX11_settle_6 ⟨Nat.le_of_ble_eq_true rfl, Nat.le_of_ble_eq_true rfl⟩) hP hD hS hA [0, 1] [] rfl rfl (by decide) (by decide) (fun r_2 u_3 H locs hw hP hD hS => ?_)
  have hP : va_P D vwCl [] H := hP
  have hD : va_D A [] := hD
  obtain rfl : r_2 = (-1) := hw
  exact W.iret (v := (-1)) hx hb hr (fun t ht hW => ⟨⟨(-1), (), rfl, (by first | exact rfl), Wd.nil⟩, hS.F ht⟩) hS.2.2 dX11_settle_9
set_option maxHeartbeats 4000000 in
set_option maxRecDepth 100000 in
theorem c_settle_2 (l : Launch) (D : va_G) (K : Nat → ClassId) (a0 : Nat) (kd : Int32) (g0 : Value) (g1 : Value) (g2 : Value) (g3 : Value) (g4 : Value) (g5 : Value) (g6 : Value) (g7 : Value) (g8 : Value) (g9 : Value) (g10 : Value) (g11 : Value) (a1 : Nat) (g13 : Value) (g14 : Value) (g15 : Value) (g16 : Value) (f : Nat → Int32) (sz : Nat) : Met l yX11_settle wsX11_settle ({ frames := 2, cells := 0, slots := 0, locals := 44 }) (va_Pc [.ref a0, .int kd, .int (-2)] (Pre D K [(a0, .inr (11, [g0, g1, g2, g3, g4, g5, g6, g7, g8, g9, g10, g11, .ref a1, g13, g14, g15, g16])), (a1, .inl (K 0, 5, .inl f))] sz)) (va_Qi (S := Unit) (fun (r : Int32) (_ : Unit) => (r = (-2))) (fun u t => Wd D (va_A [(a0, .inr (11, [g0, g1, g2, g3, g4, g5, g6, g7, g8, g9, g10, g11, .ref a1, g13, g14, g15, g16])), (a1, .inl (K 0, 5, .inl f))] sz) ((fun _ => []) u) t) (va_A [(a0, .inr (11, [g0, g1, g2, g3, g4, g5, g6, g7, g8, g9, g10, g11, .ref a1, g13, g14, g15, g16])), (a1, .inl (K 0, 5, .inl f))] sz)) 0 0 (va_A [(a0, .inr (11, [g0, g1, g2, g3, g4, g5, g6, g7, g8, g9, g10, g11, .ref a1, g13, g14, g15, g16])), (a1, .inl (K 0, 5, .inl f))] sz) := by
  refine Met.ofW (cc := cX11_settle) (maxL := 3) (ret := (some .int)) (by decide) rfl ?_
  intro p e s m args below meth c s₁ B hml hv
  obtain ⟨rfl, hsz, hP, hK, hD0, hN⟩ := hv
  have hx := B.exec
  have hb := B.bytes
  have hr := B.returns
  have hts := atoms_spec (ws := wsX11_settle) B.pre
  have hown : s.vm.findClass RX11 = some m.cls := findClass_of_methodNamed B.named
  have hlocks := B.notSynchronized
  subst hsz
  have hD := hD0.self (sz := s.heap.size)
  generalize hAe : va_A [(a0, .inr (11, [g0, g1, g2, g3, g4, g5, g6, g7, g8, g9, g10, g11, .ref a1, g13, g14, g15, g16])), (a1, .inl (K 0, 5, .inl f))] s.heap.size = A at hD ⊢
  have hA : ∀ q : Nat, s.heap.size ≤ q → A q := fun q h => by rw [← hAe]; exact Or.inr h
  have hS : va_S A s.heap s.heap [] := va_S.rf
  have hP : va_P D vwCl [(a0, .inr (11, [g0, g1, g2, g3, g4, g5, g6, g7, g8, g9, g10, g11, .ref a1, g13, g14, g15, g16])), (a1, .inl (K 0, 5, .inl f))] s.heap := hP
  have hl := lv_entry [.ref a0, .int kd, .int (-2)] (n := 3) (Nat.le_of_ble_eq_true rfl)
  rw [lg_entry_eq]
  generalize (lg_sl [.ref a0, .int kd, .int (-2)] ++ List.replicate (3 - (lg_sl [.ref a0, .int kd, .int (-2)]).length) Slot.unset).toArray = ls at hl ⊢
  have hl : lv_has ls 3 [(0, .ref a0), (1, .int kd), (2, .int (-2))] := hl
  have hw2 : ∀ w ∈ wsX20, w ∈ wsX11_settle := fun w h => (List.mem_cons_of_mem _ (List.mem_append_right _ h))
  have hw11 : ∀ w ∈ wsX110, w ∈ wsX11_settle := fun w h => (List.mem_cons_of_mem _ (List.mem_append_left _ (List.mem_append_right _ h)))
  refine lv_iload_n hx hb dX11_settle_0 rfl (lv_at hl 2 rfl) ?_
  refine lv_if_ge (tgt := 10) hx hb dX11_settle_1 (by decide) (fun c_1 => absurd c_1 (by decide)) (fun c_1 => ?_)
  refine lv_aload_n hx hb dX11_settle_4 rfl (lv_at hl 0 rfl) ?_
  refine lv_iload_n hx hb dX11_settle_5 rfl (lv_at hl 2 rfl) ?_
  refine kci (wr := []) (va_runV (As := [.int (-2)]) (rest := []) ⟨hx, hb, hml, hown, hts⟩ (c_refuse_2 l D K a0 g0 g1 g2 g3 g4 g5 g6 g7 g8 g9 g10 g11 a1 g13 g14 g15 g16 f s.heap.size) (cwV 1 hts gX11_settle_X11_refuse rfl rfl rfl (by decide +kernel) ⟨Nat.le_of_ble_eq_true rfl, Nat.le_of_ble_eq_true rfl⟩) (mkV hK hN (hP.sub [0, 1] rfl) (hD.sub [0, 1] (by decide) rfl) (ci := 11) (q0 := 0) rfl rfl) rfl rfl hl.1 rfl (lv_room (Nat.le_of_ble_eq_true rfl)) dX11_settle_6 ⟨Nat.le_of_ble_eq_true rfl, Nat.le_of_ble_eq_true rfl⟩) hP hD hS hA [0, 1] [] rfl rfl (by decide) (by decide) (fun r_2 u_3 H locs hw hP hD hS => ?_)
  have hP : va_P D vwCl [] H := hP
  have hD : va_D A [] := hD
  obtain rfl : r_2 = (-2) := hw
  exact W.iret (v := (-2)) hx hb hr (fun t ht hW => ⟨⟨(-2), (), rfl, (by first | exact rfl), Wd.nil⟩, hS.F ht⟩) hS.2.2 dX11_settle_9
set_option maxHeartbeats 4000000 in
set_option maxRecDepth 100000 in
theorem c_keep (l : Launch) (D : va_G) (K : Nat → ClassId) (a0 : Nat) (x : Int32) (a2 : Nat) (f : Nat → Int32) (sz : Nat) : Met l yX2_keep wsX2_keep ({ frames := 1, cells := 0, slots := 0, locals := 14 }) (va_Pc [.ref a0, .int x] (Pre D K [(a0, .inr (2, [.ref a2, .int 0, .int 0])), (a2, .inl (K 0, 476, .inl f))] sz)) (va_Qv (S := Unit) (fun _ => True) (fun u t => Wd D (va_A [(a0, .inr (2, [.ref a2, .int 0, .int 0])), (a2, .inl (K 0, 476, .inl f))] sz) ((fun _ => []) u) t) (va_A [(a0, .inr (2, [.ref a2, .int 0, .int 0])), (a2, .inl (K 0, 476, .inl f))] sz)) 0 0 (va_A [(a0, .inr (2, [.ref a2, .int 0, .int 0])), (a2, .inl (K 0, 476, .inl f))] sz) := by
  refine Met.ofW (cc := cX2_keep) (maxL := 2) (ret := none) (by decide) rfl ?_
  intro p e s m args below meth c s₁ B hml hv
  obtain ⟨rfl, hsz, hP, hK, hD0, hN⟩ := hv
  have hx := B.exec
  have hb := B.bytes
  have hr := B.returns
  have hts := atoms_spec (ws := wsX2_keep) B.pre
  have hown : s.vm.findClass RX2 = some m.cls := findClass_of_methodNamed B.named
  have hlocks := B.notSynchronized
  subst hsz
  have hD := hD0.self (sz := s.heap.size)
  generalize hAe : va_A [(a0, .inr (2, [.ref a2, .int 0, .int 0])), (a2, .inl (K 0, 476, .inl f))] s.heap.size = A at hD ⊢
  have hA : ∀ q : Nat, s.heap.size ≤ q → A q := fun q h => by rw [← hAe]; exact Or.inr h
  have hS : va_S A s.heap s.heap [] := va_S.rf
  have hP : va_P D vwCl [(a0, .inr (2, [.ref a2, .int 0, .int 0])), (a2, .inl (K 0, 476, .inl f))] s.heap := hP
  have hl := lv_entry [.ref a0, .int x] (n := 2) (Nat.le_of_ble_eq_true rfl)
  rw [lg_entry_eq]
  generalize (lg_sl [.ref a0, .int x] ++ List.replicate (2 - (lg_sl [.ref a0, .int x]).length) Slot.unset).toArray = ls at hl ⊢
  have hl : lv_has ls 2 [(0, .ref a0), (1, .int x)] := hl
  have hw2 : ∀ w ∈ wsX20, w ∈ wsX2_keep := fun w h => (List.mem_cons_of_mem _ (List.mem_append_right _ h))
  refine lv_aload_n hx hb dX2_keep_0 rfl (lv_at hl 0 rfl) ?_
  refine va_get (ci := 2) (v := .ref a2) (C := RX2) (T := TX2) (N := 3) hx hb hts hw2 hown hK hP 0 rfl rfl 0 (by decide) (hts (.fieldLink RX2 11 "SmokeTune$History" "slots" "[I") (List.mem_cons_of_mem _ (List.mem_append_left _ (List.mem_of_getElem? (i := 0) rfl)))) (fun _ h9 => h9) rfl dX2_keep_1 ?_
  refine lv_aload_n hx hb dX2_keep_4 rfl (lv_at hl 0 rfl) ?_
  refine va_get (ci := 2) (v := .int 0) (C := RX2) (T := TX2) (N := 3) hx hb hts hw2 hown hK hP 0 rfl rfl 1 (by decide) (hts (.fieldLink RX2 15 "SmokeTune$History" "drafted" "I") (List.mem_cons_of_mem _ (List.mem_append_left _ (List.mem_of_getElem? (i := 1) rfl)))) (fun _ h9 => h9) rfl dX2_keep_5 ?_
  refine lv_bipush (v := 28) hx hb dX2_keep_8 (by decide) ?_
  refine lv_imul hx hb dX2_keep_10 ?_
  refine lv_topi (fun x_1 ex_1 => ?_)
  obtain rfl : x_1 = 0 := ex_1.trans (by first | rfl | decide)
  refine lv_iload_n hx hb dX2_keep_11 rfl (lv_at hl 1 rfl) ?_
  refine va_iast hx hb hK hP hD hS 1 0 rfl rfl (i_in (x := 0) rfl (by omega)) dX2_keep_12 (fun H locs hP hD hS => ?_)
  generalize hf_2 : (upd f (0 : Int32).toNatClampNeg x) = f_2 at hP hD
  have hP : va_P D vwCl [(a0, .inr (2, [.ref a2, .int 0, .int 0])), (a2, .inl (K 0, 476, .inl f_2))] H := hP
  have hD : va_D A [(a0, .inr (2, [.ref a2, .int 0, .int 0])), (a2, .inl (K 0, 476, .inl f_2))] := hD
  refine lv_aload_n hx hb dX2_keep_13 rfl (lv_at hl 0 rfl) ?_
  refine lv_aload_n hx hb dX2_keep_14 rfl (lv_at hl 0 rfl) ?_
  refine va_get (ci := 2) (v := .int 0) (C := RX2) (T := TX2) (N := 3) hx hb hts hw2 hown hK hP 0 rfl rfl 1 (by decide) (hts (.fieldLink RX2 15 "SmokeTune$History" "drafted" "I") (List.mem_cons_of_mem _ (List.mem_append_left _ (List.mem_of_getElem? (i := 1) rfl)))) (fun _ h9 => h9) rfl dX2_keep_15 ?_
  refine lv_iconst (v := 1) hx hb dX2_keep_18 (by decide) ?_
  refine lv_iadd hx hb dX2_keep_19 ?_
  refine lv_topi (fun x_3 ex_3 => ?_)
  obtain rfl : x_3 = 1 := ex_3.trans (by first | rfl | decide)
  refine lv_bipush (v := 17) hx hb dX2_keep_20 (by decide) ?_
  refine lv_irem hx hb dX2_keep_22 (by decide) ?_
  refine lv_topi (fun x_4 ex_4 => ?_)
  obtain rfl : x_4 = 1 := ex_4.trans (by first | rfl | decide)
  refine va_put (ci := 2) (v := .int 1) (ty := .int) (C := RX2) (T := TX2) (N := 3) hx hb hts hw2 tyX2 tyX2_ok nmX2 hown hK hP hD hS 0 rfl rfl 1 (by decide) (hts (.fieldLink RX2 15 "SmokeTune$History" "drafted" "I") (List.mem_cons_of_mem _ (List.mem_append_left _ (List.mem_of_getElem? (i := 1) rfl)))) (fun _ h9 => h9) rfl (by decide +kernel) (by first | rfl | decide) (by first | rfl | decide) (Nat.le_of_ble_eq_true rfl) dX2_keep_23 (fun H locs hP hD hS => ?_)
  have hP : va_P D vwCl [(a0, .inr (2, [.ref a2, .int 1, .int 0])), (a2, .inl (K 0, 476, .inl f_2))] H := hP
  have hD : va_D A [(a0, .inr (2, [.ref a2, .int 1, .int 0])), (a2, .inl (K 0, 476, .inl f_2))] := hD
  refine lv_aload_n hx hb dX2_keep_26 rfl (lv_at hl 0 rfl) ?_
  refine lv_bipush (v := 16) hx hb dX2_keep_27 (by decide) ?_
  refine lv_aload_n hx hb dX2_keep_29 rfl (lv_at hl 0 rfl) ?_
  refine va_get (ci := 2) (v := .int 0) (C := RX2) (T := TX2) (N := 3) hx hb hts hw2 hown hK hP 0 rfl rfl 2 (by decide) (hts (.fieldLink RX2 19 "SmokeTune$History" "kept" "I") (List.mem_cons_of_mem _ (List.mem_append_left _ (List.mem_of_getElem? (i := 2) rfl)))) (fun _ h9 => h9) rfl dX2_keep_30 ?_
  refine lv_iconst (v := 1) hx hb dX2_keep_33 (by decide) ?_
  refine lv_iadd hx hb dX2_keep_34 ?_
  refine lv_topi (fun x_5 ex_5 => ?_)
  obtain rfl : x_5 = 1 := ex_5.trans (by first | rfl | decide)
  refine va_mmin hx hb (hml.trans hl.1.symm) hown (hts (.methodLink RX2 43 Lib.Math.min.name) (List.mem_cons_of_mem _ (List.mem_append_left _ (List.mem_of_getElem? (i := 3) rfl)))) (hts (.static Lib.Math.min.name) (List.mem_cons_of_mem _ (List.mem_append_left _ (List.mem_of_getElem? (i := 4) rfl)))) (hts (.initialized "java/lang/Math") (List.mem_cons_of_mem _ (List.mem_append_left _ (List.mem_of_getElem? (i := 5) rfl)))) (hts (.code Lib.Math.min.name Lib.Math.min.code 2 (some .int)) (List.mem_cons_of_mem _ (List.mem_append_left _ (List.mem_of_getElem? (i := 6) rfl)))) (Nat.le_of_ble_eq_true rfl) (Nat.le_of_ble_eq_true rfl) (Nat.le_of_ble_eq_true rfl) (Nat.le_of_ble_eq_true rfl) dX2_keep_35 ?_
  refine lv_topi (fun x_6 ex_6 => ?_)
  obtain rfl : x_6 = 1 := ex_6.trans (by first | rfl | decide)
  refine va_put (ci := 2) (v := .int 1) (ty := .int) (C := RX2) (T := TX2) (N := 3) hx hb hts hw2 tyX2 tyX2_ok nmX2 hown hK hP hD hS 0 rfl rfl 2 (by decide) (hts (.fieldLink RX2 19 "SmokeTune$History" "kept" "I") (List.mem_cons_of_mem _ (List.mem_append_left _ (List.mem_of_getElem? (i := 2) rfl)))) (fun _ h9 => h9) rfl (by decide +kernel) (by first | rfl | decide) (by first | rfl | decide) (Nat.le_of_ble_eq_true rfl) dX2_keep_38 (fun H locs hP hD hS => ?_)
  have hP : va_P D vwCl [(a0, .inr (2, [.ref a2, .int 1, .int 1])), (a2, .inl (K 0, 476, .inl f_2))] H := hP
  have hD : va_D A [(a0, .inr (2, [.ref a2, .int 1, .int 1])), (a2, .inl (K 0, 476, .inl f_2))] := hD
  exact W.vret hx hb hr (fun t ht hW => ⟨⟨(), rfl, trivial, Wd.nil⟩, hS.F ht⟩) hS.2.2 dX2_keep_41
set_option maxHeartbeats 4000000 in
set_option maxRecDepth 100000 in
theorem c_settle_pass (l : Launch) (D : va_G) (K : Nat → ClassId) (a0 : Nat) (g0 : Value) (g1 : Value) (g2 : Value) (g3 : Value) (g4 : Value) (g5 : Value) (g6 : Value) (g7 : Value) (g8 : Value) (a3 : Nat) (g10 : Value) (g11 : Value) (g12 : Value) (g13 : Value) (g14 : Value) (g15 : Value) (g16 : Value) (a4 : Nat) (f : Nat → Int32) (sz : Nat) : Met l yX11_settle wsX11_settle ({ frames := 2, cells := 0, slots := 0, locals := 35 }) (va_Pc [.ref a0, .int 3, .int 1] (Pre D K [(a0, .inr (11, [g0, g1, g2, g3, g4, g5, g6, g7, g8, .ref a3, g10, g11, g12, g13, g14, g15, g16])), (a3, .inr (2, [.ref a4, .int 0, .int 0])), (a4, .inl (K 0, 476, .inl f))] sz)) (va_Qi (S := Unit) (fun (r : Int32) (_ : Unit) => (r = 1)) (fun u t => Wd D (va_A [(a0, .inr (11, [g0, g1, g2, g3, g4, g5, g6, g7, g8, .ref a3, g10, g11, g12, g13, g14, g15, g16])), (a3, .inr (2, [.ref a4, .int 0, .int 0])), (a4, .inl (K 0, 476, .inl f))] sz) ((fun _ => []) u) t) (va_A [(a0, .inr (11, [g0, g1, g2, g3, g4, g5, g6, g7, g8, .ref a3, g10, g11, g12, g13, g14, g15, g16])), (a3, .inr (2, [.ref a4, .int 0, .int 0])), (a4, .inl (K 0, 476, .inl f))] sz)) 0 0 (va_A [(a0, .inr (11, [g0, g1, g2, g3, g4, g5, g6, g7, g8, .ref a3, g10, g11, g12, g13, g14, g15, g16])), (a3, .inr (2, [.ref a4, .int 0, .int 0])), (a4, .inl (K 0, 476, .inl f))] sz) := by
  refine Met.ofW (cc := cX11_settle) (maxL := 3) (ret := (some .int)) (by decide) rfl ?_
  intro p e s m args below meth c s₁ B hml hv
  obtain ⟨rfl, hsz, hP, hK, hD0, hN⟩ := hv
  have hx := B.exec
  have hb := B.bytes
  have hr := B.returns
  have hts := atoms_spec (ws := wsX11_settle) B.pre
  have hown : s.vm.findClass RX11 = some m.cls := findClass_of_methodNamed B.named
  have hlocks := B.notSynchronized
  subst hsz
  have hD := hD0.self (sz := s.heap.size)
  generalize hAe : va_A [(a0, .inr (11, [g0, g1, g2, g3, g4, g5, g6, g7, g8, .ref a3, g10, g11, g12, g13, g14, g15, g16])), (a3, .inr (2, [.ref a4, .int 0, .int 0])), (a4, .inl (K 0, 476, .inl f))] s.heap.size = A at hD ⊢
  have hA : ∀ q : Nat, s.heap.size ≤ q → A q := fun q h => by rw [← hAe]; exact Or.inr h
  have hS : va_S A s.heap s.heap [] := va_S.rf
  have hP : va_P D vwCl [(a0, .inr (11, [g0, g1, g2, g3, g4, g5, g6, g7, g8, .ref a3, g10, g11, g12, g13, g14, g15, g16])), (a3, .inr (2, [.ref a4, .int 0, .int 0])), (a4, .inl (K 0, 476, .inl f))] s.heap := hP
  have hl := lv_entry [.ref a0, .int 3, .int 1] (n := 3) (Nat.le_of_ble_eq_true rfl)
  rw [lg_entry_eq]
  generalize (lg_sl [.ref a0, .int 3, .int 1] ++ List.replicate (3 - (lg_sl [.ref a0, .int 3, .int 1]).length) Slot.unset).toArray = ls at hl ⊢
  have hl : lv_has ls 3 [(0, .ref a0), (1, .int 3), (2, .int 1)] := hl
  have hw2 : ∀ w ∈ wsX20, w ∈ wsX11_settle := fun w h => (List.mem_cons_of_mem _ (List.mem_append_right _ h))
  have hw11 : ∀ w ∈ wsX110, w ∈ wsX11_settle := fun w h => (List.mem_cons_of_mem _ (List.mem_append_left _ (List.mem_append_right _ h)))
  refine lv_iload_n hx hb dX11_settle_0 rfl (lv_at hl 2 rfl) ?_
  refine lv_if_ge (tgt := 10) hx hb dX11_settle_1 (by decide) (fun c_1 => ?_) (fun c_1 => absurd (by decide) c_1)
  refine lv_aload_n hx hb dX11_settle_10 rfl (lv_at hl 0 rfl) ?_
  refine va_get (ci := 11) (v := .ref a3) (C := RX11) (T := TX11) (N := 17) hx hb hts hw11 hown hK hP 0 rfl rfl 9 (by decide) (hts (.fieldLink RX11 61 "SmokeTune" "history" "LSmokeTune$History;") (List.mem_cons_of_mem _ (List.mem_append_left _ (List.mem_append_left _ (List.mem_append_left _ (List.mem_of_getElem? (i := 0) rfl)))))) (fun _ h9 => h9) rfl dX11_settle_11 ?_
  refine lv_iload_n hx hb dX11_settle_14 rfl (lv_at hl 1 rfl) ?_
  refine kcv (wr := [(a0, .inr (11, [g0, g1, g2, g3, g4, g5, g6, g7, g8, .ref a3, g10, g11, g12, g13, g14, g15, g16]))]) (va_runVN (As := [.int 3]) (rest := []) ⟨hx, hb, hml, hown, hts⟩ (c_keep l D K a3 3 a4 f s.heap.size) ⟨va_cnB 1 hts gX11_settle_X2_keep_n300 rfl rfl rfl (nst_at hN 71 rfl) (hts (.initialized RX2) (List.mem_cons_of_mem _ (List.mem_append_left _ (List.mem_append_left _ (List.mem_append_left _ (List.mem_of_getElem? (i := 12) rfl)))))) (by decide +kernel) ⟨Nat.le_of_ble_eq_true rfl, Nat.le_of_ble_eq_true rfl⟩, (hts (.instanceMethod yX2_keep) (List.mem_cons_of_mem _ (List.mem_append_left _ (List.mem_append_left _ (List.mem_append_left _ (List.mem_of_getElem? (i := 11) rfl)))))), (hts (.selects RX2 yX2_keep yX2_keep) (List.mem_cons_of_mem _ (List.mem_append_left _ (List.mem_append_left _ (List.mem_append_left _ (List.mem_of_getElem? (i := 13) rfl))))))⟩ (mkV hK hN (hP.sub [1, 2] rfl) (hD.sub [1, 2] (by decide) rfl) (ci := 2) (q0 := 0) rfl rfl) rfl rfl hl.1 rfl (lv_room (Nat.le_of_ble_eq_true rfl)) dX11_settle_15 ⟨Nat.le_of_ble_eq_true rfl, Nat.le_of_ble_eq_true rfl⟩) hP hD hS hA [1, 2] [0] rfl rfl (by decide) (by decide) (fun u_3 H locs hw hP hD hS => ?_)
  have hP : va_P D vwCl [(a0, .inr (11, [g0, g1, g2, g3, g4, g5, g6, g7, g8, .ref a3, g10, g11, g12, g13, g14, g15, g16]))] H := hP
  have hD : va_D A [(a0, .inr (11, [g0, g1, g2, g3, g4, g5, g6, g7, g8, .ref a3, g10, g11, g12, g13, g14, g15, g16]))] := hD
  refine lv_aload_n hx hb dX11_settle_18 rfl (lv_at hl 0 rfl) ?_
  refine lv_iload_n hx hb dX11_settle_19 rfl (lv_at hl 2 rfl) ?_
  refine kci (wr := []) (va_runV (As := [.int 1]) (rest := []) ⟨hx, hb, hml, hown, hts⟩ (c_accept l D K a0 1 g0 g1 g2 g3 g4 g5 g6 g7 g8 (.ref a3) g10 g11 g12 g13 g14 g15 g16 H.size) (cwV 1 hts gX11_settle_X11_accept rfl rfl rfl (by decide +kernel) ⟨Nat.le_of_ble_eq_true rfl, Nat.le_of_ble_eq_true rfl⟩) (mkV hK hN (hP.sub [0] rfl) (hD.sub [0] (by decide) rfl) (ci := 11) (q0 := 0) rfl rfl) rfl rfl hl.1 rfl (lv_room (Nat.le_of_ble_eq_true rfl)) dX11_settle_20 ⟨Nat.le_of_ble_eq_true rfl, Nat.le_of_ble_eq_true rfl⟩) hP hD hS hA [0] [] rfl rfl (by decide) (by decide) (fun r_4 u_5 H locs hw hP hD hS => ?_)
  have hP : va_P D vwCl [] H := hP
  have hD : va_D A [] := hD
  obtain rfl : r_4 = 1 := hw
  exact W.iret (v := 1) hx hb hr (fun t ht hW => ⟨⟨1, (), rfl, (by first | exact rfl), Wd.nil⟩, hS.F ht⟩) hS.2.2 dX11_settle_23
