theorem dX9_has_0 : decode cX9_has 0 = .ok (.iload_n 1, 1) := by decide +kernel
theorem dX9_has_1 : decode cX9_has 1 = .ok (.ifCond .lt 15, 3) := by decide +kernel
theorem dX9_has_16 : decode cX9_has 16 = .ok (.iconst 0, 1) := by decide +kernel
theorem dX9_has_17 : decode cX9_has 17 = .ok (.ireturn, 1) := by decide +kernel
theorem dX9_has_4 : decode cX9_has 4 = .ok (.iload_n 1, 1) := by decide +kernel
theorem dX9_has_5 : decode cX9_has 5 = .ok (.aload_n 0, 1) := by decide +kernel
theorem dX9_has_6 : decode cX9_has 6 = .ok (.getfield 27, 3) := by decide +kernel
theorem dX9_has_9 : decode cX9_has 9 = .ok (.if_icmp .ge 7, 3) := by decide +kernel
theorem dX9_has_12 : decode cX9_has 12 = .ok (.iconst 1, 1) := by decide +kernel
theorem dX9_has_13 : decode cX9_has 13 = .ok (.goto 4, 3) := by decide +kernel
theorem dX9_fact_0 : decode cX9_fact 0 = .ok (.iload_n 1, 1) := by decide +kernel
theorem dX9_fact_1 : decode cX9_fact 1 = .ok (.ifCond .lt 23, 3) := by decide +kernel
theorem dX9_fact_24 : decode cX9_fact 24 = .ok (.iconst 0, 1) := by decide +kernel
theorem dX9_fact_25 : decode cX9_fact 25 = .ok (.istore_n 3, 1) := by decide +kernel
theorem dX9_fact_26 : decode cX9_fact 26 = .ok (.iload_n 3, 1) := by decide +kernel
theorem dX9_fact_27 : decode cX9_fact 27 = .ok (.ifCond .eq 17, 3) := by decide +kernel
theorem dX9_fact_44 : decode cX9_fact 44 = .ok (.iconst (-1), 1) := by decide +kernel
theorem dX9_fact_45 : decode cX9_fact 45 = .ok (.ireturn, 1) := by decide +kernel
theorem dX9_fact_4 : decode cX9_fact 4 = .ok (.iload_n 1, 1) := by decide +kernel
theorem dX9_fact_5 : decode cX9_fact 5 = .ok (.bipush 8, 2) := by decide +kernel
theorem dX9_fact_7 : decode cX9_fact 7 = .ok (.if_icmp .ge 17, 3) := by decide +kernel
theorem dX9_fact_10 : decode cX9_fact 10 = .ok (.iload_n 2, 1) := by decide +kernel
theorem dX9_fact_11 : decode cX9_fact 11 = .ok (.ifCond .lt 13, 3) := by decide +kernel
theorem dX9_fact_14 : decode cX9_fact 14 = .ok (.iload_n 2, 1) := by decide +kernel
theorem dX9_fact_15 : decode cX9_fact 15 = .ok (.bipush 7, 2) := by decide +kernel
theorem dX9_fact_17 : decode cX9_fact 17 = .ok (.if_icmp .ge 7, 3) := by decide +kernel
theorem dX9_fact_20 : decode cX9_fact 20 = .ok (.iconst 1, 1) := by decide +kernel
theorem dX9_fact_21 : decode cX9_fact 21 = .ok (.goto 4, 3) := by decide +kernel
theorem dX9_fact_30 : decode cX9_fact 30 = .ok (.aload_n 0, 1) := by decide +kernel
theorem dX9_fact_31 : decode cX9_fact 31 = .ok (.getfield 9, 3) := by decide +kernel
theorem dX9_fact_34 : decode cX9_fact 34 = .ok (.iload_n 2, 1) := by decide +kernel
theorem dX9_fact_35 : decode cX9_fact 35 = .ok (.bipush 8, 2) := by decide +kernel
theorem dX9_fact_37 : decode cX9_fact 37 = .ok (.imul, 1) := by decide +kernel
theorem dX9_fact_38 : decode cX9_fact 38 = .ok (.iload_n 1, 1) := by decide +kernel
theorem dX9_fact_39 : decode cX9_fact 39 = .ok (.iadd, 1) := by decide +kernel
theorem dX9_fact_40 : decode cX9_fact 40 = .ok (.iaload, 1) := by decide +kernel
theorem dX9_fact_41 : decode cX9_fact 41 = .ok (.goto 4, 3) := by decide +kernel
theorem dX9_put_0 : decode cX9_put 0 = .ok (.iload_n 1, 1) := by decide +kernel
theorem dX9_put_1 : decode cX9_put 1 = .ok (.iconst 0, 1) := by decide +kernel
theorem dX9_put_2 : decode cX9_put 2 = .ok (.bipush 7, 2) := by decide +kernel
theorem dX9_put_4 : decode cX9_put 4 = .ok (.invokestatic 52, 3) := by decide +kernel
theorem dX9_put_7 : decode cX9_put 7 = .ok (.ifCond .eq 25, 3) := by decide +kernel
theorem dX9_put_10 : decode cX9_put 10 = .ok (.iload_n 2, 1) := by decide +kernel
theorem dX9_put_11 : decode cX9_put 11 = .ok (.iconst 0, 1) := by decide +kernel
theorem dX9_put_12 : decode cX9_put 12 = .ok (.bipush 6, 2) := by decide +kernel
theorem dX9_put_14 : decode cX9_put 14 = .ok (.invokestatic 52, 3) := by decide +kernel
theorem dX9_put_17 : decode cX9_put 17 = .ok (.ifCond .eq 15, 3) := by decide +kernel
theorem dX9_put_20 : decode cX9_put 20 = .ok (.aload_n 0, 1) := by decide +kernel
theorem dX9_put_21 : decode cX9_put 21 = .ok (.getfield 9, 3) := by decide +kernel
theorem dX9_put_24 : decode cX9_put 24 = .ok (.iload_n 2, 1) := by decide +kernel
theorem dX9_put_25 : decode cX9_put 25 = .ok (.bipush 8, 2) := by decide +kernel
theorem dX9_put_27 : decode cX9_put 27 = .ok (.imul, 1) := by decide +kernel
theorem dX9_put_28 : decode cX9_put 28 = .ok (.iload_n 1, 1) := by decide +kernel
theorem dX9_put_29 : decode cX9_put 29 = .ok (.iadd, 1) := by decide +kernel
theorem dX9_put_30 : decode cX9_put 30 = .ok (.iload_n 3, 1) := by decide +kernel
theorem dX9_put_31 : decode cX9_put 31 = .ok (.iastore, 1) := by decide +kernel
theorem dX9_put_32 : decode cX9_put 32 = .ok (.return_, 1) := by decide +kernel
theorem dX9_dinerOf_0 : decode cX9_dinerOf 0 = .ok (.iconst 0, 1) := by decide +kernel
theorem dX9_dinerOf_1 : decode cX9_dinerOf 1 = .ok (.istore_n 2, 1) := by decide +kernel
theorem dX9_dinerOf_2 : decode cX9_dinerOf 2 = .ok (.iload_n 2, 1) := by decide +kernel
theorem dX9_dinerOf_3 : decode cX9_dinerOf 3 = .ok (.aload_n 0, 1) := by decide +kernel
theorem dX9_dinerOf_4 : decode cX9_dinerOf 4 = .ok (.getfield 27, 3) := by decide +kernel
theorem dX9_dinerOf_7 : decode cX9_dinerOf 7 = .ok (.if_icmp .ge 21, 3) := by decide +kernel
theorem dX9_dinerOf_10 : decode cX9_dinerOf 10 = .ok (.aload_n 0, 1) := by decide +kernel
theorem dX9_dinerOf_11 : decode cX9_dinerOf 11 = .ok (.iload_n 2, 1) := by decide +kernel
theorem dX9_dinerOf_12 : decode cX9_dinerOf 12 = .ok (.iconst 3, 1) := by decide +kernel
theorem dX9_dinerOf_13 : decode cX9_dinerOf 13 = .ok (.invokevirtual 56, 3) := by decide +kernel
theorem dX9_dinerOf_16 : decode cX9_dinerOf 16 = .ok (.iload_n 1, 1) := by decide +kernel
theorem dX9_dinerOf_17 : decode cX9_dinerOf 17 = .ok (.if_icmp .ne 5, 3) := by decide +kernel
theorem dX9_dinerOf_22 : decode cX9_dinerOf 22 = .ok (.iinc 2 1, 3) := by decide +kernel
theorem dX9_dinerOf_25 : decode cX9_dinerOf 25 = .ok (.goto (-23), 3) := by decide +kernel
theorem dX9_dinerOf_28 : decode cX9_dinerOf 28 = .ok (.iconst (-1), 1) := by decide +kernel
theorem dX9_dinerOf_29 : decode cX9_dinerOf 29 = .ok (.ireturn, 1) := by decide +kernel
theorem dX9_dinerOf_20 : decode cX9_dinerOf 20 = .ok (.iload_n 2, 1) := by decide +kernel
theorem dX9_dinerOf_21 : decode cX9_dinerOf 21 = .ok (.ireturn, 1) := by decide +kernel
theorem dX9_build_0 : decode cX9_build 0 = .ok (.aload_n 0, 1) := by decide +kernel
theorem dX9_build_1 : decode cX9_build 1 = .ok (.getfield 27, 3) := by decide +kernel
theorem dX9_build_4 : decode cX9_build 4 = .ok (.istore 6, 2) := by decide +kernel
theorem dX9_build_6 : decode cX9_build 6 = .ok (.aload_n 0, 1) := by decide +kernel
theorem dX9_build_7 : decode cX9_build 7 = .ok (.iload 6, 2) := by decide +kernel
theorem dX9_build_9 : decode cX9_build 9 = .ok (.iconst 0, 1) := by decide +kernel
theorem dX9_build_10 : decode cX9_build 10 = .ok (.iload_n 1, 1) := by decide +kernel
theorem dX9_build_11 : decode cX9_build 11 = .ok (.invokevirtual 60, 3) := by decide +kernel
theorem dX9_build_14 : decode cX9_build 14 = .ok (.aload_n 0, 1) := by decide +kernel
theorem dX9_build_15 : decode cX9_build 15 = .ok (.iload 6, 2) := by decide +kernel
theorem dX9_build_17 : decode cX9_build 17 = .ok (.iconst 1, 1) := by decide +kernel
theorem dX9_build_18 : decode cX9_build 18 = .ok (.iload_n 2, 1) := by decide +kernel
theorem dX9_build_19 : decode cX9_build 19 = .ok (.invokevirtual 60, 3) := by decide +kernel
theorem dX9_build_22 : decode cX9_build 22 = .ok (.aload_n 0, 1) := by decide +kernel
theorem dX9_build_23 : decode cX9_build 23 = .ok (.iload 6, 2) := by decide +kernel
theorem dX9_build_25 : decode cX9_build 25 = .ok (.iconst 2, 1) := by decide +kernel
theorem dX9_build_26 : decode cX9_build 26 = .ok (.iload_n 3, 1) := by decide +kernel
theorem dX9_build_27 : decode cX9_build 27 = .ok (.invokevirtual 60, 3) := by decide +kernel
theorem dX9_build_30 : decode cX9_build 30 = .ok (.aload_n 0, 1) := by decide +kernel
theorem dX9_build_31 : decode cX9_build 31 = .ok (.iload 6, 2) := by decide +kernel
theorem dX9_build_33 : decode cX9_build 33 = .ok (.iconst 3, 1) := by decide +kernel
theorem dX9_build_34 : decode cX9_build 34 = .ok (.iload 4, 2) := by decide +kernel
theorem dX9_build_36 : decode cX9_build 36 = .ok (.invokevirtual 60, 3) := by decide +kernel
theorem dX9_build_39 : decode cX9_build 39 = .ok (.aload_n 0, 1) := by decide +kernel
theorem dX9_build_40 : decode cX9_build 40 = .ok (.iload 6, 2) := by decide +kernel
theorem dX9_build_42 : decode cX9_build 42 = .ok (.iconst 4, 1) := by decide +kernel
theorem dX9_build_43 : decode cX9_build 43 = .ok (.iload 5, 2) := by decide +kernel
theorem dX9_build_45 : decode cX9_build 45 = .ok (.invokevirtual 60, 3) := by decide +kernel
theorem dX9_build_48 : decode cX9_build 48 = .ok (.aload_n 0, 1) := by decide +kernel
theorem dX9_build_49 : decode cX9_build 49 = .ok (.dup, 1) := by decide +kernel
theorem dX9_build_50 : decode cX9_build 50 = .ok (.getfield 27, 3) := by decide +kernel
theorem dX9_build_53 : decode cX9_build 53 = .ok (.iconst 1, 1) := by decide +kernel
theorem dX9_build_54 : decode cX9_build 54 = .ok (.iadd, 1) := by decide +kernel
theorem dX9_build_55 : decode cX9_build 55 = .ok (.putfield 27, 3) := by decide +kernel
theorem dX9_build_58 : decode cX9_build 58 = .ok (.iload 6, 2) := by decide +kernel
theorem dX9_build_60 : decode cX9_build 60 = .ok (.ireturn, 1) := by decide +kernel
theorem dX9_loud_0 : decode cX9_loud 0 = .ok (.iload_n 1, 1) := by decide +kernel
theorem dX9_loud_1 : decode cX9_loud 1 = .ok (.aload_n 0, 1) := by decide +kernel
theorem dX9_loud_2 : decode cX9_loud 2 = .ok (.getfield 18, 3) := by decide +kernel
theorem dX9_loud_5 : decode cX9_loud 5 = .ok (.iconst 2, 1) := by decide +kernel
theorem dX9_loud_6 : decode cX9_loud 6 = .ok (.iaload, 1) := by decide +kernel
theorem dX9_loud_7 : decode cX9_loud 7 = .ok (.if_icmp .lt 17, 3) := by decide +kernel
theorem dX9_loud_10 : decode cX9_loud 10 = .ok (.iload_n 1, 1) := by decide +kernel
theorem dX9_loud_11 : decode cX9_loud 11 = .ok (.aload_n 0, 1) := by decide +kernel
theorem dX9_loud_12 : decode cX9_loud 12 = .ok (.getfield 18, 3) := by decide +kernel
theorem dX9_loud_15 : decode cX9_loud 15 = .ok (.iconst 3, 1) := by decide +kernel
theorem dX9_loud_16 : decode cX9_loud 16 = .ok (.iaload, 1) := by decide +kernel
theorem dX9_loud_17 : decode cX9_loud 17 = .ok (.if_icmp .gt 7, 3) := by decide +kernel
theorem dX9_loud_20 : decode cX9_loud 20 = .ok (.iconst 1, 1) := by decide +kernel
theorem dX9_loud_21 : decode cX9_loud 21 = .ok (.goto 4, 3) := by decide +kernel
theorem dX9_loud_25 : decode cX9_loud 25 = .ok (.ireturn, 1) := by decide +kernel
theorem dX9_loud_24 : decode cX9_loud 24 = .ok (.iconst 0, 1) := by decide +kernel
theorem dX9_sings_0 : decode cX9_sings 0 = .ok (.aload_n 0, 1) := by decide +kernel
theorem dX9_sings_1 : decode cX9_sings 1 = .ok (.aload_n 0, 1) := by decide +kernel
theorem dX9_sings_2 : decode cX9_sings 2 = .ok (.iload_n 1, 1) := by decide +kernel
theorem dX9_sings_3 : decode cX9_sings 3 = .ok (.iconst 5, 1) := by decide +kernel
theorem dX9_sings_4 : decode cX9_sings 4 = .ok (.invokevirtual 56, 3) := by decide +kernel
theorem dX9_sings_7 : decode cX9_sings 7 = .ok (.invokevirtual 68, 3) := by decide +kernel
theorem dX9_sings_10 : decode cX9_sings 10 = .ok (.ireturn, 1) := by decide +kernel
theorem dX9_beside_0 : decode cX9_beside 0 = .ok (.aload_n 0, 1) := by decide +kernel
theorem dX9_beside_1 : decode cX9_beside 1 = .ok (.iload_n 1, 1) := by decide +kernel
theorem dX9_beside_2 : decode cX9_beside 2 = .ok (.iconst 0, 1) := by decide +kernel
theorem dX9_beside_3 : decode cX9_beside 3 = .ok (.invokevirtual 56, 3) := by decide +kernel
theorem dX9_beside_6 : decode cX9_beside 6 = .ok (.aload_n 0, 1) := by decide +kernel
theorem dX9_beside_7 : decode cX9_beside 7 = .ok (.iload_n 2, 1) := by decide +kernel
theorem dX9_beside_8 : decode cX9_beside 8 = .ok (.iconst 0, 1) := by decide +kernel
theorem dX9_beside_9 : decode cX9_beside 9 = .ok (.invokevirtual 56, 3) := by decide +kernel
theorem dX9_beside_12 : decode cX9_beside 12 = .ok (.isub, 1) := by decide +kernel
theorem dX9_beside_13 : decode cX9_beside 13 = .ok (.invokestatic 72, 3) := by decide +kernel
theorem dX9_beside_16 : decode cX9_beside 16 = .ok (.istore_n 3, 1) := by decide +kernel
theorem dX9_beside_17 : decode cX9_beside 17 = .ok (.aload_n 0, 1) := by decide +kernel
theorem dX9_beside_18 : decode cX9_beside 18 = .ok (.iload_n 1, 1) := by decide +kernel
theorem dX9_beside_19 : decode cX9_beside 19 = .ok (.iconst 1, 1) := by decide +kernel
theorem dX9_beside_20 : decode cX9_beside 20 = .ok (.invokevirtual 56, 3) := by decide +kernel
theorem dX9_beside_23 : decode cX9_beside 23 = .ok (.aload_n 0, 1) := by decide +kernel
theorem dX9_beside_24 : decode cX9_beside 24 = .ok (.iload_n 2, 1) := by decide +kernel
theorem dX9_beside_25 : decode cX9_beside 25 = .ok (.iconst 1, 1) := by decide +kernel
theorem dX9_beside_26 : decode cX9_beside 26 = .ok (.invokevirtual 56, 3) := by decide +kernel
theorem dX9_beside_29 : decode cX9_beside 29 = .ok (.if_icmp .ne 18, 3) := by decide +kernel
theorem dX9_beside_32 : decode cX9_beside 32 = .ok (.iload_n 3, 1) := by decide +kernel
theorem dX9_beside_33 : decode cX9_beside 33 = .ok (.iconst 1, 1) := by decide +kernel
theorem dX9_beside_34 : decode cX9_beside 34 = .ok (.if_icmp .eq 9, 3) := by decide +kernel
theorem dX9_beside_37 : decode cX9_beside 37 = .ok (.iload_n 3, 1) := by decide +kernel
theorem dX9_beside_38 : decode cX9_beside 38 = .ok (.bipush 6, 2) := by decide +kernel
theorem dX9_beside_40 : decode cX9_beside 40 = .ok (.if_icmp .ne 7, 3) := by decide +kernel
theorem dX9_beside_43 : decode cX9_beside 43 = .ok (.iconst 1, 1) := by decide +kernel
theorem dX9_beside_44 : decode cX9_beside 44 = .ok (.goto 4, 3) := by decide +kernel
theorem dX9_beside_48 : decode cX9_beside 48 = .ok (.ireturn, 1) := by decide +kernel
theorem dX9_beside_47 : decode cX9_beside 47 = .ok (.iconst 0, 1) := by decide +kernel
theorem dX9_singing_0 : decode cX9_singing 0 = .ok (.iconst 0, 1) := by decide +kernel
theorem dX9_singing_1 : decode cX9_singing 1 = .ok (.istore_n 1, 1) := by decide +kernel
theorem dX9_singing_2 : decode cX9_singing 2 = .ok (.iconst 0, 1) := by decide +kernel
theorem dX9_singing_3 : decode cX9_singing 3 = .ok (.istore_n 2, 1) := by decide +kernel
theorem dX9_singing_4 : decode cX9_singing 4 = .ok (.iload_n 2, 1) := by decide +kernel
theorem dX9_singing_5 : decode cX9_singing 5 = .ok (.aload_n 0, 1) := by decide +kernel
theorem dX9_singing_6 : decode cX9_singing 6 = .ok (.getfield 27, 3) := by decide +kernel
theorem dX9_singing_9 : decode cX9_singing 9 = .ok (.if_icmp .ge 25, 3) := by decide +kernel
theorem dX9_singing_12 : decode cX9_singing 12 = .ok (.iload_n 1, 1) := by decide +kernel
theorem dX9_singing_13 : decode cX9_singing 13 = .ok (.aload_n 0, 1) := by decide +kernel
theorem dX9_singing_14 : decode cX9_singing 14 = .ok (.iload_n 2, 1) := by decide +kernel
theorem dX9_singing_15 : decode cX9_singing 15 = .ok (.invokevirtual 78, 3) := by decide +kernel
theorem dX9_singing_18 : decode cX9_singing 18 = .ok (.ifCond .eq 7, 3) := by decide +kernel
theorem dX9_singing_25 : decode cX9_singing 25 = .ok (.iconst 0, 1) := by decide +kernel
theorem dX9_singing_26 : decode cX9_singing 26 = .ok (.iadd, 1) := by decide +kernel
theorem dX9_singing_27 : decode cX9_singing 27 = .ok (.istore_n 1, 1) := by decide +kernel
theorem dX9_singing_28 : decode cX9_singing 28 = .ok (.iinc 2 1, 3) := by decide +kernel
theorem dX9_singing_31 : decode cX9_singing 31 = .ok (.goto (-27), 3) := by decide +kernel
theorem dX9_singing_21 : decode cX9_singing 21 = .ok (.iconst 1, 1) := by decide +kernel
theorem dX9_singing_22 : decode cX9_singing 22 = .ok (.goto 4, 3) := by decide +kernel
theorem dX9_singing_34 : decode cX9_singing 34 = .ok (.iload_n 1, 1) := by decide +kernel
theorem dX9_singing_35 : decode cX9_singing 35 = .ok (.ireturn, 1) := by decide +kernel
theorem dX9_notesNow_0 : decode cX9_notesNow 0 = .ok (.iconst 0, 1) := by decide +kernel
theorem dX9_notesNow_1 : decode cX9_notesNow 1 = .ok (.istore_n 1, 1) := by decide +kernel
theorem dX9_notesNow_2 : decode cX9_notesNow 2 = .ok (.iconst 0, 1) := by decide +kernel
theorem dX9_notesNow_3 : decode cX9_notesNow 3 = .ok (.istore_n 2, 1) := by decide +kernel
theorem dX9_notesNow_4 : decode cX9_notesNow 4 = .ok (.iload_n 2, 1) := by decide +kernel
theorem dX9_notesNow_5 : decode cX9_notesNow 5 = .ok (.aload_n 0, 1) := by decide +kernel
theorem dX9_notesNow_6 : decode cX9_notesNow 6 = .ok (.getfield 27, 3) := by decide +kernel
theorem dX9_notesNow_9 : decode cX9_notesNow 9 = .ok (.if_icmp .ge 32, 3) := by decide +kernel
theorem dX9_notesNow_12 : decode cX9_notesNow 12 = .ok (.iload_n 1, 1) := by decide +kernel
theorem dX9_notesNow_13 : decode cX9_notesNow 13 = .ok (.aload_n 0, 1) := by decide +kernel
theorem dX9_notesNow_14 : decode cX9_notesNow 14 = .ok (.iload_n 2, 1) := by decide +kernel
theorem dX9_notesNow_15 : decode cX9_notesNow 15 = .ok (.invokevirtual 78, 3) := by decide +kernel
theorem dX9_notesNow_18 : decode cX9_notesNow 18 = .ok (.ifCond .eq 14, 3) := by decide +kernel
theorem dX9_notesNow_32 : decode cX9_notesNow 32 = .ok (.iconst 0, 1) := by decide +kernel
theorem dX9_notesNow_33 : decode cX9_notesNow 33 = .ok (.ior, 1) := by decide +kernel
theorem dX9_notesNow_34 : decode cX9_notesNow 34 = .ok (.istore_n 1, 1) := by decide +kernel
theorem dX9_notesNow_35 : decode cX9_notesNow 35 = .ok (.iinc 2 1, 3) := by decide +kernel
theorem dX9_notesNow_38 : decode cX9_notesNow 38 = .ok (.goto (-34), 3) := by decide +kernel
theorem dX9_notesNow_21 : decode cX9_notesNow 21 = .ok (.iconst 1, 1) := by decide +kernel
theorem dX9_notesNow_22 : decode cX9_notesNow 22 = .ok (.aload_n 0, 1) := by decide +kernel
theorem dX9_notesNow_23 : decode cX9_notesNow 23 = .ok (.iload_n 2, 1) := by decide +kernel
theorem dX9_notesNow_24 : decode cX9_notesNow 24 = .ok (.iconst 0, 1) := by decide +kernel
theorem dX9_notesNow_25 : decode cX9_notesNow 25 = .ok (.invokevirtual 56, 3) := by decide +kernel
theorem dX9_notesNow_28 : decode cX9_notesNow 28 = .ok (.ishl, 1) := by decide +kernel
theorem dX9_notesNow_29 : decode cX9_notesNow 29 = .ok (.goto 4, 3) := by decide +kernel
theorem dX9_notesNow_41 : decode cX9_notesNow 41 = .ok (.iload_n 1, 1) := by decide +kernel
theorem dX9_notesNow_42 : decode cX9_notesNow 42 = .ok (.ireturn, 1) := by decide +kernel
theorem dX9_thirdsNow_0 : decode cX9_thirdsNow 0 = .ok (.aload_n 0, 1) := by decide +kernel
theorem dX9_thirdsNow_1 : decode cX9_thirdsNow 1 = .ok (.invokevirtual 81, 3) := by decide +kernel
theorem dX9_thirdsNow_4 : decode cX9_thirdsNow 4 = .ok (.istore_n 1, 1) := by decide +kernel
theorem dX9_thirdsNow_5 : decode cX9_thirdsNow 5 = .ok (.iconst 0, 1) := by decide +kernel
theorem dX9_thirdsNow_6 : decode cX9_thirdsNow 6 = .ok (.istore_n 2, 1) := by decide +kernel
theorem dX9_thirdsNow_7 : decode cX9_thirdsNow 7 = .ok (.iconst 0, 1) := by decide +kernel
theorem dX9_thirdsNow_8 : decode cX9_thirdsNow 8 = .ok (.istore_n 3, 1) := by decide +kernel
theorem dX9_thirdsNow_9 : decode cX9_thirdsNow 9 = .ok (.iload_n 3, 1) := by decide +kernel
theorem dX9_thirdsNow_10 : decode cX9_thirdsNow 10 = .ok (.bipush 7, 2) := by decide +kernel
theorem dX9_thirdsNow_12 : decode cX9_thirdsNow 12 = .ok (.if_icmp .ge 49, 3) := by decide +kernel
theorem dX9_thirdsNow_15 : decode cX9_thirdsNow 15 = .ok (.iconst 1, 1) := by decide +kernel
theorem dX9_thirdsNow_16 : decode cX9_thirdsNow 16 = .ok (.iload_n 3, 1) := by decide +kernel
theorem dX9_thirdsNow_17 : decode cX9_thirdsNow 17 = .ok (.ishl, 1) := by decide +kernel
theorem dX9_thirdsNow_18 : decode cX9_thirdsNow 18 = .ok (.iconst 1, 1) := by decide +kernel
theorem dX9_thirdsNow_19 : decode cX9_thirdsNow 19 = .ok (.iload_n 3, 1) := by decide +kernel
theorem dX9_thirdsNow_20 : decode cX9_thirdsNow 20 = .ok (.iconst 2, 1) := by decide +kernel
theorem dX9_thirdsNow_21 : decode cX9_thirdsNow 21 = .ok (.iadd, 1) := by decide +kernel
theorem dX9_thirdsNow_22 : decode cX9_thirdsNow 22 = .ok (.bipush 7, 2) := by decide +kernel
theorem dX9_thirdsNow_24 : decode cX9_thirdsNow 24 = .ok (.irem, 1) := by decide +kernel
theorem dX9_thirdsNow_25 : decode cX9_thirdsNow 25 = .ok (.ishl, 1) := by decide +kernel
theorem dX9_thirdsNow_26 : decode cX9_thirdsNow 26 = .ok (.ior, 1) := by decide +kernel
theorem dX9_thirdsNow_27 : decode cX9_thirdsNow 27 = .ok (.iconst 1, 1) := by decide +kernel
theorem dX9_thirdsNow_28 : decode cX9_thirdsNow 28 = .ok (.iload_n 3, 1) := by decide +kernel
theorem dX9_thirdsNow_29 : decode cX9_thirdsNow 29 = .ok (.iconst 4, 1) := by decide +kernel
theorem dX9_thirdsNow_30 : decode cX9_thirdsNow 30 = .ok (.iadd, 1) := by decide +kernel
theorem dX9_thirdsNow_31 : decode cX9_thirdsNow 31 = .ok (.bipush 7, 2) := by decide +kernel
theorem dX9_thirdsNow_33 : decode cX9_thirdsNow 33 = .ok (.irem, 1) := by decide +kernel
theorem dX9_thirdsNow_34 : decode cX9_thirdsNow 34 = .ok (.ishl, 1) := by decide +kernel
theorem dX9_thirdsNow_35 : decode cX9_thirdsNow 35 = .ok (.ior, 1) := by decide +kernel
theorem dX9_thirdsNow_36 : decode cX9_thirdsNow 36 = .ok (.istore 4, 2) := by decide +kernel
theorem dX9_thirdsNow_38 : decode cX9_thirdsNow 38 = .ok (.iload_n 2, 1) := by decide +kernel
theorem dX9_thirdsNow_39 : decode cX9_thirdsNow 39 = .ok (.iload_n 1, 1) := by decide +kernel
theorem dX9_thirdsNow_40 : decode cX9_thirdsNow 40 = .ok (.iload 4, 2) := by decide +kernel
theorem dX9_thirdsNow_42 : decode cX9_thirdsNow 42 = .ok (.iand, 1) := by decide +kernel
theorem dX9_thirdsNow_43 : decode cX9_thirdsNow 43 = .ok (.iload 4, 2) := by decide +kernel
theorem dX9_thirdsNow_45 : decode cX9_thirdsNow 45 = .ok (.if_icmp .ne 7, 3) := by decide +kernel
theorem dX9_thirdsNow_52 : decode cX9_thirdsNow 52 = .ok (.iconst 0, 1) := by decide +kernel
theorem dX9_thirdsNow_53 : decode cX9_thirdsNow 53 = .ok (.iadd, 1) := by decide +kernel
theorem dX9_thirdsNow_54 : decode cX9_thirdsNow 54 = .ok (.istore_n 2, 1) := by decide +kernel
theorem dX9_thirdsNow_55 : decode cX9_thirdsNow 55 = .ok (.iinc 3 1, 3) := by decide +kernel
theorem dX9_thirdsNow_58 : decode cX9_thirdsNow 58 = .ok (.goto (-49), 3) := by decide +kernel
theorem dX9_thirdsNow_48 : decode cX9_thirdsNow 48 = .ok (.iconst 1, 1) := by decide +kernel
theorem dX9_thirdsNow_49 : decode cX9_thirdsNow 49 = .ok (.goto 4, 3) := by decide +kernel
theorem dX9_thirdsNow_61 : decode cX9_thirdsNow 61 = .ok (.iload_n 2, 1) := by decide +kernel
theorem dX9_thirdsNow_62 : decode cX9_thirdsNow 62 = .ok (.ireturn, 1) := by decide +kernel
theorem dX9_chordAt_0 : decode cX9_chordAt 0 = .ok (.iload_n 1, 1) := by decide +kernel
theorem dX9_chordAt_1 : decode cX9_chordAt 1 = .ok (.ifCond .lt 18, 3) := by decide +kernel
theorem dX9_chordAt_4 : decode cX9_chordAt 4 = .ok (.iload_n 1, 1) := by decide +kernel
theorem dX9_chordAt_5 : decode cX9_chordAt 5 = .ok (.bipush 24, 2) := by decide +kernel
theorem dX9_chordAt_7 : decode cX9_chordAt 7 = .ok (.if_icmp .ge 12, 3) := by decide +kernel
theorem dX9_chordAt_10 : decode cX9_chordAt 10 = .ok (.aload_n 0, 1) := by decide +kernel
theorem dX9_chordAt_11 : decode cX9_chordAt 11 = .ok (.getfield 15, 3) := by decide +kernel
theorem dX9_chordAt_14 : decode cX9_chordAt 14 = .ok (.iload_n 1, 1) := by decide +kernel
theorem dX9_chordAt_15 : decode cX9_chordAt 15 = .ok (.iaload, 1) := by decide +kernel
theorem dX9_chordAt_16 : decode cX9_chordAt 16 = .ok (.goto 4, 3) := by decide +kernel
theorem dX9_chordAt_20 : decode cX9_chordAt 20 = .ok (.ireturn, 1) := by decide +kernel
theorem dX9_chordAt_19 : decode cX9_chordAt 19 = .ok (.iconst (-1), 1) := by decide +kernel
theorem dX9_meetsChord_0 : decode cX9_meetsChord 0 = .ok (.aload_n 0, 1) := by decide +kernel
theorem dX9_meetsChord_1 : decode cX9_meetsChord 1 = .ok (.aload_n 0, 1) := by decide +kernel
theorem dX9_meetsChord_2 : decode cX9_meetsChord 2 = .ok (.getfield 18, 3) := by decide +kernel
theorem dX9_meetsChord_5 : decode cX9_meetsChord 5 = .ok (.iconst 0, 1) := by decide +kernel
theorem dX9_meetsChord_6 : decode cX9_meetsChord 6 = .ok (.iaload, 1) := by decide +kernel
theorem dX9_meetsChord_7 : decode cX9_meetsChord 7 = .ok (.invokevirtual 85, 3) := by decide +kernel
theorem dX9_meetsChord_10 : decode cX9_meetsChord 10 = .ok (.istore_n 1, 1) := by decide +kernel
theorem dX9_meetsChord_11 : decode cX9_meetsChord 11 = .ok (.aload_n 0, 1) := by decide +kernel
theorem dX9_meetsChord_12 : decode cX9_meetsChord 12 = .ok (.invokevirtual 81, 3) := by decide +kernel
theorem dX9_meetsChord_15 : decode cX9_meetsChord 15 = .ok (.iload_n 1, 1) := by decide +kernel
theorem dX9_meetsChord_16 : decode cX9_meetsChord 16 = .ok (.iand, 1) := by decide +kernel
theorem dX9_meetsChord_17 : decode cX9_meetsChord 17 = .ok (.iload_n 1, 1) := by decide +kernel
theorem dX9_meetsChord_18 : decode cX9_meetsChord 18 = .ok (.if_icmp .ne 7, 3) := by decide +kernel
theorem dX9_meetsChord_25 : decode cX9_meetsChord 25 = .ok (.iconst 0, 1) := by decide +kernel
theorem dX9_meetsChord_26 : decode cX9_meetsChord 26 = .ok (.ireturn, 1) := by decide +kernel
theorem dX9_meetsChord_21 : decode cX9_meetsChord 21 = .ok (.iconst 1, 1) := by decide +kernel
theorem dX9_meetsChord_22 : decode cX9_meetsChord 22 = .ok (.goto 4, 3) := by decide +kernel
set_option maxRecDepth 20000 in
theorem ggX9_put_X11_within : GoodIn wsX9_put wsX11_within := goodIn_r _ [4] (by decide +kernel) (by decide +kernel)
set_option maxRecDepth 20000 in
theorem gX9_put_X11_within_n52 : GoodIn wsX9_put (wsX11_within) := ggX9_put_X11_within
set_option maxRecDepth 20000 in
theorem ggX9_dinerOf_X9_fact : GoodIn wsX9_dinerOf wsX9_fact := goodIn_r _ [6, 7, 8, 9, 10, 11, 12, 13, 14, 15, 16, 17] (by decide +kernel) (by decide +kernel)
set_option maxRecDepth 20000 in
theorem gX9_dinerOf_X9_fact : GoodIn wsX9_dinerOf (wsV RX9 56 RX9 yX9_fact wsX9_fact) := goodIn_app (goodIn_of _ (by decide +kernel)) ggX9_dinerOf_X9_fact
set_option maxRecDepth 20000 in
theorem ggX9_build_X9_put : GoodIn wsX9_build wsX9_put := goodIn_r _ [6, 7, 8, 9, 10, 11, 12, 13, 14, 15, 16, 17, 18, 19, 20] (by decide +kernel) (by decide +kernel)
set_option maxRecDepth 20000 in
theorem gX9_build_X9_put : GoodIn wsX9_build (wsV RX9 60 RX9 yX9_put wsX9_put) := goodIn_app (goodIn_of _ (by decide +kernel)) ggX9_build_X9_put
set_option maxRecDepth 20000 in
theorem ggX9_sings_X9_fact : GoodIn wsX9_sings wsX9_fact := goodIn_r _ [5, 6, 12, 13, 14, 15, 16, 17, 18, 19, 20, 21] (by decide +kernel) (by decide +kernel)
set_option maxRecDepth 20000 in
theorem gX9_sings_X9_fact : GoodIn wsX9_sings (wsV RX9 56 RX9 yX9_fact wsX9_fact) := goodIn_app (goodIn_of _ (by decide +kernel)) ggX9_sings_X9_fact
set_option maxRecDepth 20000 in
theorem ggX9_sings_X9_loud : GoodIn wsX9_sings wsX9_loud := goodIn_r _ [10, 11, 12, 13, 14, 15, 16, 17, 18, 19, 20, 21] (by decide +kernel) (by decide +kernel)
set_option maxRecDepth 20000 in
theorem gX9_sings_X9_loud : GoodIn wsX9_sings (wsV RX9 68 RX9 yX9_loud wsX9_loud) := goodIn_app (goodIn_of _ (by decide +kernel)) ggX9_sings_X9_loud
set_option maxRecDepth 20000 in
theorem ggX9_beside_X9_fact : GoodIn wsX9_beside wsX9_fact := goodIn_r _ [9, 10, 11, 12, 13, 14, 15, 16, 17, 18, 19, 20] (by decide +kernel) (by decide +kernel)
set_option maxRecDepth 20000 in
theorem gX9_beside_X9_fact : GoodIn wsX9_beside (wsV RX9 56 RX9 yX9_fact wsX9_fact) := goodIn_app (goodIn_of _ (by decide +kernel)) ggX9_beside_X9_fact
set_option maxRecDepth 20000 in
theorem ggX9_singing_X9_sings : GoodIn wsX9_singing wsX9_sings := goodIn_r _ [6, 7, 8, 9, 5, 10, 11, 12, 13, 14, 15, 16, 17, 18, 19, 20, 21, 22, 23, 24, 25, 26] (by decide +kernel) (by decide +kernel)
set_option maxRecDepth 20000 in
theorem gX9_singing_X9_sings : GoodIn wsX9_singing (wsV RX9 78 RX9 yX9_sings wsX9_sings) := goodIn_app (goodIn_of _ (by decide +kernel)) ggX9_singing_X9_sings
set_option maxRecDepth 20000 in
theorem ggX9_notesNow_X9_sings : GoodIn wsX9_notesNow wsX9_sings := goodIn_r _ [6, 7, 8, 9, 5, 10, 11, 12, 13, 14, 15, 16, 17, 18, 19, 20, 21, 22, 23, 24, 25, 26] (by decide +kernel) (by decide +kernel)
set_option maxRecDepth 20000 in
theorem gX9_notesNow_X9_sings : GoodIn wsX9_notesNow (wsV RX9 78 RX9 yX9_sings wsX9_sings) := goodIn_app (goodIn_of _ (by decide +kernel)) ggX9_notesNow_X9_sings
set_option maxRecDepth 20000 in
theorem ggX9_notesNow_X9_fact : GoodIn wsX9_notesNow wsX9_fact := goodIn_r _ [10, 11, 17, 18, 19, 20, 21, 22, 23, 24, 25, 26] (by decide +kernel) (by decide +kernel)
set_option maxRecDepth 20000 in
theorem gX9_notesNow_X9_fact : GoodIn wsX9_notesNow (wsV RX9 56 RX9 yX9_fact wsX9_fact) := goodIn_app (goodIn_of _ (by decide +kernel)) ggX9_notesNow_X9_fact
set_option maxRecDepth 20000 in
theorem ggX9_thirdsNow_X9_notesNow : GoodIn wsX9_thirdsNow wsX9_notesNow := goodIn_r _ [5, 6, 7, 8, 9, 4, 10, 11, 12, 13, 14, 15, 16, 17, 18, 19, 20, 21, 22, 23, 24, 25, 26, 27, 28, 29, 30] (by decide +kernel) (by decide +kernel)
set_option maxRecDepth 20000 in
theorem gX9_thirdsNow_X9_notesNow : GoodIn wsX9_thirdsNow (wsV RX9 81 RX9 yX9_notesNow wsX9_notesNow) := goodIn_app (goodIn_of _ (by decide +kernel)) ggX9_thirdsNow_X9_notesNow
set_option maxRecDepth 20000 in
theorem ggX9_meetsChord_X9_chordAt : GoodIn wsX9_meetsChord wsX9_chordAt := goodIn_r _ [6, 7, 26, 27, 28, 29, 30, 31, 32, 33, 34, 35] (by decide +kernel) (by decide +kernel)
set_option maxRecDepth 20000 in
theorem gX9_meetsChord_X9_chordAt : GoodIn wsX9_meetsChord (wsV RX9 85 RX9 yX9_chordAt wsX9_chordAt) := goodIn_app (goodIn_of _ (by decide +kernel)) ggX9_meetsChord_X9_chordAt
set_option maxRecDepth 20000 in
theorem ggX9_meetsChord_X9_notesNow : GoodIn wsX9_meetsChord wsX9_notesNow := goodIn_r _ [11, 12, 13, 14, 15, 5, 16, 17, 18, 19, 20, 21, 22, 23, 24, 25, 1, 26, 27, 28, 29, 30, 31, 32, 33, 34, 35] (by decide +kernel) (by decide +kernel)
set_option maxRecDepth 20000 in
theorem gX9_meetsChord_X9_notesNow : GoodIn wsX9_meetsChord (wsV RX9 81 RX9 yX9_notesNow wsX9_notesNow) := goodIn_app (goodIn_of _ (by decide +kernel)) ggX9_meetsChord_X9_notesNow
set_option maxHeartbeats 4000000 in
set_option maxRecDepth 100000 in
theorem w_within (l : Launch) (D : va_G) (K : Nat → ClassId) (V : Int) (LO : Int) (HI : Int) (v : Int32) (lo : Int32) (hi : Int32) (sz : Nat) (qv : v.toInt = V) (qlo : lo.toInt = LO) (qhi : hi.toInt = HI) : Met l yX11_within wsX11_within ({ frames := 0, cells := 0, slots := 0, locals := 0 }) (va_Pc [.int v, .int lo, .int hi] (Pre D K [] sz)) (vp_Si (fun r : Int32 => ((r = 1 ∧ LO ≤ V ∧ V ≤ HI) ∨ (r = 0 ∧ (V < LO ∨ HI < V))) ∧ True)) 0 0 (fun _ => False) := by
  refine Met.ofW (cc := cX11_within) (maxL := 3) (ret := (some .boolean)) (by decide) rfl ?_
  intro p e s m args below meth c s₁ B hml hv
  obtain ⟨rfl, hsz, hP, hK, hD0, hN⟩ := hv
  have hx := B.exec
  have hb := B.bytes
  have hr := B.returns
  have hts := atoms_spec (ws := wsX11_within) B.pre
  have hown : s.vm.findClass RX11 = some m.cls := findClass_of_methodNamed B.named
  have hlocks := B.notSynchronized
  subst hsz
  have hD := hD0
  have hP : va_P D vwCl [] s.heap := hP
  have hl := lv_entry [.int v, .int lo, .int hi] (n := 3) (Nat.le_of_ble_eq_true rfl)
  rw [lg_entry_eq]
  generalize (lg_sl [.int v, .int lo, .int hi] ++ List.replicate (3 - (lg_sl [.int v, .int lo, .int hi]).length) Slot.unset).toArray = ls at hl ⊢
  have hl : lv_has ls 3 [(0, .int v), (1, .int lo), (2, .int hi)] := hl
  generalize hQ : MQ below _ _ s _ _ _ = Q
  refine lv_iload_n hx hb dX11_within_0 rfl (lv_at hl 0 rfl) ?_
  refine lv_iload_n hx hb dX11_within_1 rfl (lv_at hl 1 rfl) ?_
  refine lv_icmp_lt (tgt := 14) hx hb dX11_within_2 (by decide) (fun c_3 => ?_) (fun c_3 => ?_)
  · have c_3i := i_lt (x := V) (y := LO) qv qlo c_3
    refine lv_iconst (v := 0) hx hb dX11_within_14 (by decide) ?_
    rw [← hQ]
    exact W.zret (v := 0) hx hb hr (by decide) (fun t ht hW => ⟨_, rfl, ⟨(by first | exact Or.inr (⟨rfl, by first | omega | decide | (subst_vars; assumption)⟩)), trivial⟩, ht⟩) (fun q hq => by cases hq) dX11_within_15
  · have c_3i := i_nlt (x := V) (y := LO) qv qlo c_3
    refine lv_iload_n hx hb dX11_within_5 rfl (lv_at hl 0 rfl) ?_
    refine lv_iload_n hx hb dX11_within_6 rfl (lv_at hl 2 rfl) ?_
    refine lv_icmp_gt (tgt := 14) hx hb dX11_within_7 (by decide) (fun c_4 => ?_) (fun c_4 => ?_)
    · have c_4i := i_lt (x := HI) (y := V) qhi qv c_4
      refine lv_iconst (v := 0) hx hb dX11_within_14 (by decide) ?_
      rw [← hQ]
      exact W.zret (v := 0) hx hb hr (by decide) (fun t ht hW => ⟨_, rfl, ⟨(by first | exact Or.inr (⟨rfl, by first | omega | decide | (subst_vars; assumption)⟩)), trivial⟩, ht⟩) (fun q hq => by cases hq) dX11_within_15
    · have c_4i := i_nlt (x := HI) (y := V) qhi qv c_4
      refine lv_iconst (v := 1) hx hb dX11_within_10 (by decide) ?_
      refine lv_goto (tgt := 15) hx hb dX11_within_11 (by decide) ?_
      rw [← hQ]
      exact W.zret (v := 1) hx hb hr (by decide) (fun t ht hW => ⟨_, rfl, ⟨(by first | exact Or.inl ⟨rfl, by first | omega | decide | (subst_vars; assumption), by first | omega | decide | (subst_vars; assumption)⟩), trivial⟩, ht⟩) (fun q hq => by cases hq) dX11_within_15
set_option maxHeartbeats 4000000 in
set_option maxRecDepth 100000 in
theorem w_has (l : Launch) (D : va_G) (K : Nat → ClassId) (X : Int) (N : Int) (a0 : Nat) (x : Int32) (k_0 : Value) (k_1 : Value) (k_2 : Value) (k_3 : Value) (n : Int32) (k_5 : Value) (k_6 : Value) (k_7 : Value) (k_8 : Value) (k_9 : Value) (sz : Nat) (qx : x.toInt = X) (qn : n.toInt = N) : Met l yX9_has wsX9_has ({ frames := 0, cells := 0, slots := 0, locals := 0 }) (va_Pc [.ref a0, .int x] (Pre D K [(a0, .inr (9, [k_0, k_1, k_2, k_3, .int n, k_5, k_6, k_7, k_8, k_9]))] sz)) (vp_Si (fun r : Int32 => ((r = 1 ∧ 0 ≤ X ∧ X < N) ∨ (r = 0 ∧ (X < 0 ∨ N ≤ X))) ∧ True)) 0 0 (fun _ => False) := by
  refine Met.ofW (cc := cX9_has) (maxL := 2) (ret := (some .boolean)) (by decide) rfl ?_
  intro p e s m args below meth c s₁ B hml hv
  obtain ⟨rfl, hsz, hP, hK, hD0, hN⟩ := hv
  have hx := B.exec
  have hb := B.bytes
  have hr := B.returns
  have hts := atoms_spec (ws := wsX9_has) B.pre
  have hown : s.vm.findClass RX9 = some m.cls := findClass_of_methodNamed B.named
  have hlocks := B.notSynchronized
  subst hsz
  have hD := hD0
  have hP : va_P D vwCl [(a0, .inr (9, [k_0, k_1, k_2, k_3, .int n, k_5, k_6, k_7, k_8, k_9]))] s.heap := hP
  have hl := lv_entry [.ref a0, .int x] (n := 2) (Nat.le_of_ble_eq_true rfl)
  rw [lg_entry_eq]
  generalize (lg_sl [.ref a0, .int x] ++ List.replicate (2 - (lg_sl [.ref a0, .int x]).length) Slot.unset).toArray = ls at hl ⊢
  have hl : lv_has ls 2 [(0, .ref a0), (1, .int x)] := hl
  have hw9 : ∀ w ∈ wsX90, w ∈ wsX9_has := fun w h => (List.mem_cons_of_mem _ (List.mem_append_right _ h))
  generalize hQ : MQ below _ _ s _ _ _ = Q
  refine lv_iload_n hx hb dX9_has_0 rfl (lv_at hl 1 rfl) ?_
  refine lv_if_lt (tgt := 16) hx hb dX9_has_1 (by decide) (fun c_3 => ?_) (fun c_3 => ?_)
  · have c_3i := i_lt (x := X) (y := 0) qx rfl c_3
    refine lv_iconst (v := 0) hx hb dX9_has_16 (by decide) ?_
    rw [← hQ]
    exact W.zret (v := 0) hx hb hr (by decide) (fun t ht hW => ⟨_, rfl, ⟨(by first | exact Or.inr (⟨rfl, by first | omega | decide | (subst_vars; assumption)⟩)), trivial⟩, ht⟩) (fun q hq => by cases hq) dX9_has_17
  · have c_3i := i_nlt (x := X) (y := 0) qx rfl c_3
    refine lv_iload_n hx hb dX9_has_4 rfl (lv_at hl 1 rfl) ?_
    refine lv_aload_n hx hb dX9_has_5 rfl (lv_at hl 0 rfl) ?_
    refine va_get (ci := 9) (v := .int n) (C := RX9) (T := TX9) (N := 10) hx hb hts hw9 hown hK hP 0 rfl rfl 4 (by decide) (hts (.fieldLink RX9 27 "SmokeTune$Town" "houses" "I") (List.mem_cons_of_mem _ (List.mem_append_left _ (List.mem_of_getElem? (i := 0) rfl)))) (fun _ h9 => h9) rfl dX9_has_6 ?_
    refine lv_icmp_ge (tgt := 16) hx hb dX9_has_9 (by decide) (fun c_4 => ?_) (fun c_4 => ?_)
    · have c_4i := i_le (x := N) (y := X) qn qx c_4
      refine lv_iconst (v := 0) hx hb dX9_has_16 (by decide) ?_
      rw [← hQ]
      exact W.zret (v := 0) hx hb hr (by decide) (fun t ht hW => ⟨_, rfl, ⟨(by first | exact Or.inr (⟨rfl, by first | omega | decide | (subst_vars; assumption)⟩)), trivial⟩, ht⟩) (fun q hq => by cases hq) dX9_has_17
    · have c_4i := i_nle (x := N) (y := X) qn qx c_4
      refine lv_iconst (v := 1) hx hb dX9_has_12 (by decide) ?_
      refine lv_goto (tgt := 17) hx hb dX9_has_13 (by decide) ?_
      rw [← hQ]
      exact W.zret (v := 1) hx hb hr (by decide) (fun t ht hW => ⟨_, rfl, ⟨(by first | exact Or.inl ⟨rfl, by first | omega | decide | (subst_vars; assumption), by first | omega | decide | (subst_vars; assumption)⟩), trivial⟩, ht⟩) (fun q hq => by cases hq) dX9_has_17
set_option maxHeartbeats 4000000 in
set_option maxRecDepth 100000 in
theorem w_fact (l : Launch) (D : va_G) (K : Nat → ClassId) (a0 : Nat) (x : Int32) (y : Int32) (a1 : Nat) (k_1 : Value) (k_2 : Value) (k_3 : Value) (k_4 : Value) (k_5 : Value) (k_6 : Value) (k_7 : Value) (k_8 : Value) (k_9 : Value) (f : Nat → Int32) (sz : Nat) : Met l yX9_fact wsX9_fact ({ frames := 0, cells := 0, slots := 0, locals := 0 }) (va_Pc [.ref a0, .int x, .int y] (Pre D K [(a0, .inr (9, [.ref a1, k_1, k_2, k_3, k_4, k_5, k_6, k_7, k_8, k_9])), (a1, .inl (K 0, 56, .inl f))] sz)) (vp_Si (fun r : Int32 => True)) 0 0 (fun _ => False) := by
  refine Met.ofW (cc := cX9_fact) (maxL := 4) (ret := (some .int)) (by decide) rfl ?_
  intro p e s m args below meth c s₁ B hml hv
  obtain ⟨rfl, hsz, hP, hK, hD0, hN⟩ := hv
  have hx := B.exec
  have hb := B.bytes
  have hr := B.returns
  have hts := atoms_spec (ws := wsX9_fact) B.pre
  have hown : s.vm.findClass RX9 = some m.cls := findClass_of_methodNamed B.named
  have hlocks := B.notSynchronized
  subst hsz
  have hD := hD0
  have hP : va_P D vwCl [(a0, .inr (9, [.ref a1, k_1, k_2, k_3, k_4, k_5, k_6, k_7, k_8, k_9])), (a1, .inl (K 0, 56, .inl f))] s.heap := hP
  have hl := lv_entry [.ref a0, .int x, .int y] (n := 4) (Nat.le_of_ble_eq_true rfl)
  rw [lg_entry_eq]
  generalize (lg_sl [.ref a0, .int x, .int y] ++ List.replicate (4 - (lg_sl [.ref a0, .int x, .int y]).length) Slot.unset).toArray = ls at hl ⊢
  have hl : lv_has ls 4 [(0, .ref a0), (1, .int x), (2, .int y)] := hl
  have hw9 : ∀ w ∈ wsX90, w ∈ wsX9_fact := fun w h => (List.mem_cons_of_mem _ (List.mem_append_right _ h))
  generalize hQ : MQ below _ _ s _ _ _ = Q
  refine lv_iload_n hx hb dX9_fact_0 rfl (lv_at hl 1 rfl) ?_
  refine lv_if_lt (tgt := 24) hx hb dX9_fact_1 (by decide) (fun c_13 => ?_) (fun c_13 => ?_)
  · have c_13i := i_lt (x := x.toInt) (y := 0) rfl rfl c_13
    refine lv_iconst (v := 0) hx hb dX9_fact_24 (by decide) ?_
    refine lv_istore_n (lv' := [(3, .int 0), (0, .ref a0), (1, .int x), (2, .int y)]) hx hb dX9_fact_25 rfl hl (by decide) rfl (fun ls hl => ?_)
    refine lv_iload_n hx hb dX9_fact_26 rfl (lv_at hl 0 rfl) ?_
    refine lv_if_eq (tgt := 44) hx hb dX9_fact_27 (by decide) (fun c_14 => ?_) (fun c_14 => absurd (by decide) c_14)
    refine lv_iconst (v := (-1)) hx hb dX9_fact_44 (by decide) ?_
    rw [← hQ]
    exact W.iret (v := (-1)) hx hb hr (fun t ht hW => ⟨_, rfl, trivial, ht⟩) (fun q hq => by cases hq) dX9_fact_45
  · have c_13i := i_nlt (x := x.toInt) (y := 0) rfl rfl c_13
    refine lv_iload_n hx hb dX9_fact_4 rfl (lv_at hl 1 rfl) ?_
    refine lv_bipush (v := 8) hx hb dX9_fact_5 (by decide) ?_
    refine lv_icmp_ge (tgt := 24) hx hb dX9_fact_7 (by decide) (fun c_15 => ?_) (fun c_15 => ?_)
    · have c_15i := i_le (x := 8) (y := x.toInt) rfl rfl c_15
      refine lv_iconst (v := 0) hx hb dX9_fact_24 (by decide) ?_
      refine lv_istore_n (lv' := [(3, .int 0), (0, .ref a0), (1, .int x), (2, .int y)]) hx hb dX9_fact_25 rfl hl (by decide) rfl (fun ls hl => ?_)
      refine lv_iload_n hx hb dX9_fact_26 rfl (lv_at hl 0 rfl) ?_
      refine lv_if_eq (tgt := 44) hx hb dX9_fact_27 (by decide) (fun c_16 => ?_) (fun c_16 => absurd (by decide) c_16)
      refine lv_iconst (v := (-1)) hx hb dX9_fact_44 (by decide) ?_
      rw [← hQ]
      exact W.iret (v := (-1)) hx hb hr (fun t ht hW => ⟨_, rfl, trivial, ht⟩) (fun q hq => by cases hq) dX9_fact_45
    · have c_15i := i_nle (x := 8) (y := x.toInt) rfl rfl c_15
      refine lv_iload_n hx hb dX9_fact_10 rfl (lv_at hl 2 rfl) ?_
      refine lv_if_lt (tgt := 24) hx hb dX9_fact_11 (by decide) (fun c_17 => ?_) (fun c_17 => ?_)
      · have c_17i := i_lt (x := y.toInt) (y := 0) rfl rfl c_17
        refine lv_iconst (v := 0) hx hb dX9_fact_24 (by decide) ?_
        refine lv_istore_n (lv' := [(3, .int 0), (0, .ref a0), (1, .int x), (2, .int y)]) hx hb dX9_fact_25 rfl hl (by decide) rfl (fun ls hl => ?_)
        refine lv_iload_n hx hb dX9_fact_26 rfl (lv_at hl 0 rfl) ?_
        refine lv_if_eq (tgt := 44) hx hb dX9_fact_27 (by decide) (fun c_18 => ?_) (fun c_18 => absurd (by decide) c_18)
        refine lv_iconst (v := (-1)) hx hb dX9_fact_44 (by decide) ?_
        rw [← hQ]
        exact W.iret (v := (-1)) hx hb hr (fun t ht hW => ⟨_, rfl, trivial, ht⟩) (fun q hq => by cases hq) dX9_fact_45
      · have c_17i := i_nlt (x := y.toInt) (y := 0) rfl rfl c_17
        refine lv_iload_n hx hb dX9_fact_14 rfl (lv_at hl 2 rfl) ?_
        refine lv_bipush (v := 7) hx hb dX9_fact_15 (by decide) ?_
        refine lv_icmp_ge (tgt := 24) hx hb dX9_fact_17 (by decide) (fun c_19 => ?_) (fun c_19 => ?_)
        · have c_19i := i_le (x := 7) (y := y.toInt) rfl rfl c_19
          refine lv_iconst (v := 0) hx hb dX9_fact_24 (by decide) ?_
          refine lv_istore_n (lv' := [(3, .int 0), (0, .ref a0), (1, .int x), (2, .int y)]) hx hb dX9_fact_25 rfl hl (by decide) rfl (fun ls hl => ?_)
          refine lv_iload_n hx hb dX9_fact_26 rfl (lv_at hl 0 rfl) ?_
          refine lv_if_eq (tgt := 44) hx hb dX9_fact_27 (by decide) (fun c_20 => ?_) (fun c_20 => absurd (by decide) c_20)
          refine lv_iconst (v := (-1)) hx hb dX9_fact_44 (by decide) ?_
          rw [← hQ]
          exact W.iret (v := (-1)) hx hb hr (fun t ht hW => ⟨_, rfl, trivial, ht⟩) (fun q hq => by cases hq) dX9_fact_45
        · have c_19i := i_nle (x := 7) (y := y.toInt) rfl rfl c_19
          refine lv_iconst (v := 1) hx hb dX9_fact_20 (by decide) ?_
          refine lv_goto (tgt := 25) hx hb dX9_fact_21 (by decide) ?_
          refine lv_istore_n (lv' := [(3, .int 1), (0, .ref a0), (1, .int x), (2, .int y)]) hx hb dX9_fact_25 rfl hl (by decide) rfl (fun ls hl => ?_)
          refine lv_iload_n hx hb dX9_fact_26 rfl (lv_at hl 0 rfl) ?_
          refine lv_if_eq (tgt := 44) hx hb dX9_fact_27 (by decide) (fun c_21 => absurd c_21 (by decide)) (fun c_21 => ?_)
          refine lv_aload_n hx hb dX9_fact_30 rfl (lv_at hl 1 rfl) ?_
          refine va_get (ci := 9) (v := .ref a1) (C := RX9) (T := TX9) (N := 10) hx hb hts hw9 hown hK hP 0 rfl rfl 0 (by decide) (hts (.fieldLink RX9 9 "SmokeTune$Town" "facts" "[I") (List.mem_cons_of_mem _ (List.mem_append_left _ (List.mem_of_getElem? (i := 0) rfl)))) (fun _ h9 => h9) rfl dX9_fact_31 ?_
          refine lv_iload_n hx hb dX9_fact_34 rfl (lv_at hl 3 rfl) ?_
          refine lv_bipush (v := 8) hx hb dX9_fact_35 (by decide) ?_
          refine lv_imul hx hb dX9_fact_37 ?_
          refine lv_topi (fun x_22 ex_22 => ?_)
          have hx_22 : x_22.toInt = (y.toInt * 8) := by rw [ex_22]; exact i_mul rfl (show (8 : Int32).toInt = 8 from rfl) (by omega)
          refine lv_iload_n hx hb dX9_fact_38 rfl (lv_at hl 2 rfl) ?_
          refine lv_iadd hx hb dX9_fact_39 ?_
          refine lv_topi (fun x_23 ex_23 => ?_)
          have hx_23 : x_23.toInt = ((y.toInt * 8) + x.toInt) := by rw [ex_23]; exact i_add hx_22 rfl (by omega)
          refine va_iald hx hb hK hP 1 0 rfl rfl (i_in hx_23 (by omega)) dX9_fact_40 ?_
          refine lv_topi (fun x_24 ex_24 => ?_)
          refine lv_goto (tgt := 45) hx hb dX9_fact_41 (by decide) ?_
          rw [← hQ]
          exact W.iret (v := x_24) hx hb hr (fun t ht hW => ⟨_, rfl, trivial, ht⟩) (fun q hq => by cases hq) dX9_fact_45
set_option maxHeartbeats 4000000 in
set_option maxRecDepth 100000 in
theorem w_put (l : Launch) (D : va_G) (K : Nat → ClassId) (a0 : Nat) (x : Int32) (y : Int32) (z : Int32) (a1 : Nat) (k_1 : Value) (k_2 : Value) (k_3 : Value) (k_4 : Value) (k_5 : Value) (k_6 : Value) (k_7 : Value) (k_8 : Value) (k_9 : Value) (f : Nat → Int32) (sz : Nat) : Met l yX9_put wsX9_put ({ frames := 1, cells := 0, slots := 0, locals := 22 }) (va_Pc [.ref a0, .int x, .int y, .int z] (Pre D K [(a0, .inr (9, [.ref a1, k_1, k_2, k_3, k_4, k_5, k_6, k_7, k_8, k_9])), (a1, .inl (K 0, 56, .inl f))] sz)) (va_Qv (S := Su) (fun (u : Su) => True) (fun u t => Wd D (va_A [(a0, .inr (9, [.ref a1, k_1, k_2, k_3, k_4, k_5, k_6, k_7, k_8, k_9])), (a1, .inl (K 0, 56, .inl f))] sz) ((fun u => [(a0, .inr (9, [.ref a1, k_1, k_2, k_3, k_4, k_5, k_6, k_7, k_8, k_9])), (a1, .inl (K 0, 56, .inl (u.2.1 0)))]) u) t) (va_A [(a0, .inr (9, [.ref a1, k_1, k_2, k_3, k_4, k_5, k_6, k_7, k_8, k_9])), (a1, .inl (K 0, 56, .inl f))] sz)) 0 0 (va_A [(a0, .inr (9, [.ref a1, k_1, k_2, k_3, k_4, k_5, k_6, k_7, k_8, k_9])), (a1, .inl (K 0, 56, .inl f))] sz) := by
  refine Met.ofW (cc := cX9_put) (maxL := 4) (ret := none) (by decide) rfl ?_
  intro p e s m args below meth c s₁ B hml hv
  obtain ⟨rfl, hsz, hP, hK, hD0, hN⟩ := hv
  have hx := B.exec
  have hb := B.bytes
  have hr := B.returns
  have hts := atoms_spec (ws := wsX9_put) B.pre
  have hown : s.vm.findClass RX9 = some m.cls := findClass_of_methodNamed B.named
  have hlocks := B.notSynchronized
  subst hsz
  have hD := hD0.self (sz := s.heap.size)
  generalize hAe : va_A [(a0, .inr (9, [.ref a1, k_1, k_2, k_3, k_4, k_5, k_6, k_7, k_8, k_9])), (a1, .inl (K 0, 56, .inl f))] s.heap.size = A at hD ⊢
  have hA : ∀ q : Nat, s.heap.size ≤ q → A q := fun q h => by rw [← hAe]; exact Or.inr h
  have hS : va_S A s.heap s.heap [] := va_S.rf
  have hP : va_P D vwCl [(a0, .inr (9, [.ref a1, k_1, k_2, k_3, k_4, k_5, k_6, k_7, k_8, k_9])), (a1, .inl (K 0, 56, .inl f))] s.heap := hP
  have hl := lv_entry [.ref a0, .int x, .int y, .int z] (n := 4) (Nat.le_of_ble_eq_true rfl)
  rw [lg_entry_eq]
  generalize (lg_sl [.ref a0, .int x, .int y, .int z] ++ List.replicate (4 - (lg_sl [.ref a0, .int x, .int y, .int z]).length) Slot.unset).toArray = ls at hl ⊢
  have hl : lv_has ls 4 [(0, .ref a0), (1, .int x), (2, .int y), (3, .int z)] := hl
  have hw9 : ∀ w ∈ wsX90, w ∈ wsX9_put := fun w h => (List.mem_cons_of_mem _ (List.mem_append_right _ h))
  generalize hQ : MQ below _ _ s _ _ _ = Q
  refine lv_iload_n hx hb dX9_put_0 rfl (lv_at hl 1 rfl) ?_
  refine lv_iconst (v := 0) hx hb dX9_put_1 (by decide) ?_
  refine lv_bipush (v := 7) hx hb dX9_put_2 (by decide) ?_
  refine pci (va_runSN (As := [.int x, .int 0, .int 7]) (rest := []) ⟨hx, hb, hml, hown, hts⟩ (w_within l D K x.toInt 0 7 x 0 7 s.heap.size rfl (show (0 : Int32).toInt = 0 from rfl) (show (7 : Int32).toInt = 7 from rfl)) ⟨va_cnB 3 hts gX9_put_X11_within_n52 rfl rfl rfl (nst_at hN 18 rfl) (hts (.initialized RX11) (List.mem_cons_of_mem _ (List.mem_append_left _ (List.mem_of_getElem? (i := 2) rfl)))) (by decide +kernel) ⟨Nat.le_of_ble_eq_true rfl, Nat.le_of_ble_eq_true rfl⟩, (hts (.static yX11_within) (List.mem_cons_of_mem _ (List.mem_append_left _ (List.mem_of_getElem? (i := 1) rfl)))), trivial⟩ (mkS hK hN (va_P.nil) (va_D.nil (A := fun _ => True))) rfl rfl hl.1 rfl (lv_room (Nat.le_of_ble_eq_true rfl)) dX9_put_4 ⟨Nat.le_of_ble_eq_true rfl, Nat.le_of_ble_eq_true rfl⟩) (fun r_31 hw => ?_)
  obtain ⟨hw, -⟩ := hw
  rcases hw with ⟨rfl, h_32, h_33⟩ | ⟨rfl, h_34⟩
  · refine lv_if_eq (tgt := 32) hx hb dX9_put_7 (by decide) (fun c_35 => absurd c_35 (by decide)) (fun c_35 => ?_)
    refine lv_iload_n hx hb dX9_put_10 rfl (lv_at hl 2 rfl) ?_
    refine lv_iconst (v := 0) hx hb dX9_put_11 (by decide) ?_
    refine lv_bipush (v := 6) hx hb dX9_put_12 (by decide) ?_
    refine pci (va_runSN (As := [.int y, .int 0, .int 6]) (rest := []) ⟨hx, hb, hml, hown, hts⟩ (w_within l D K y.toInt 0 6 y 0 6 s.heap.size rfl (show (0 : Int32).toInt = 0 from rfl) (show (6 : Int32).toInt = 6 from rfl)) ⟨va_cnB 3 hts gX9_put_X11_within_n52 rfl rfl rfl (nst_at hN 18 rfl) (hts (.initialized RX11) (List.mem_cons_of_mem _ (List.mem_append_left _ (List.mem_of_getElem? (i := 2) rfl)))) (by decide +kernel) ⟨Nat.le_of_ble_eq_true rfl, Nat.le_of_ble_eq_true rfl⟩, (hts (.static yX11_within) (List.mem_cons_of_mem _ (List.mem_append_left _ (List.mem_of_getElem? (i := 1) rfl)))), trivial⟩ (mkS hK hN (va_P.nil) (va_D.nil (A := fun _ => True))) rfl rfl hl.1 rfl (lv_room (Nat.le_of_ble_eq_true rfl)) dX9_put_14 ⟨Nat.le_of_ble_eq_true rfl, Nat.le_of_ble_eq_true rfl⟩) (fun r_36 hw => ?_)
    obtain ⟨hw, -⟩ := hw
    rcases hw with ⟨rfl, h_37, h_38⟩ | ⟨rfl, h_39⟩
    · refine lv_if_eq (tgt := 32) hx hb dX9_put_17 (by decide) (fun c_40 => absurd c_40 (by decide)) (fun c_40 => ?_)
      refine lv_aload_n hx hb dX9_put_20 rfl (lv_at hl 0 rfl) ?_
      refine va_get (ci := 9) (v := .ref a1) (C := RX9) (T := TX9) (N := 10) hx hb hts hw9 hown hK hP 0 rfl rfl 0 (by decide) (hts (.fieldLink RX9 9 "SmokeTune$Town" "facts" "[I") (List.mem_cons_of_mem _ (List.mem_append_left _ (List.mem_of_getElem? (i := 0) rfl)))) (fun _ h9 => h9) rfl dX9_put_21 ?_
      refine lv_iload_n hx hb dX9_put_24 rfl (lv_at hl 2 rfl) ?_
      refine lv_bipush (v := 8) hx hb dX9_put_25 (by decide) ?_
      refine lv_imul hx hb dX9_put_27 ?_
      refine lv_topi (fun x_41 ex_41 => ?_)
      have hx_41 : x_41.toInt = (y.toInt * 8) := by rw [ex_41]; exact i_mul rfl (show (8 : Int32).toInt = 8 from rfl) (by omega)
      refine lv_iload_n hx hb dX9_put_28 rfl (lv_at hl 1 rfl) ?_
      refine lv_iadd hx hb dX9_put_29 ?_
      refine lv_topi (fun x_42 ex_42 => ?_)
      have hx_42 : x_42.toInt = ((y.toInt * 8) + x.toInt) := by rw [ex_42]; exact i_add hx_41 rfl (by omega)
      refine lv_iload_n hx hb dX9_put_30 rfl (lv_at hl 3 rfl) ?_
      refine va_iast hx hb hK hP hD hS 1 0 rfl rfl (i_in hx_42 (by omega)) dX9_put_31 (fun H locs hP hD hS => ?_)
      generalize hf_43 : (upd f (x_42 : Int32).toNatClampNeg z) = f_43 at hP hD
      have hP : va_P D vwCl [(a0, .inr (9, [.ref a1, k_1, k_2, k_3, k_4, k_5, k_6, k_7, k_8, k_9])), (a1, .inl (K 0, 56, .inl f_43))] H := hP
      have hD : va_D A [(a0, .inr (9, [.ref a1, k_1, k_2, k_3, k_4, k_5, k_6, k_7, k_8, k_9])), (a1, .inl (K 0, 56, .inl f_43))] := hD
      rw [← hQ]
      have hP9 := hP.sub (ws' := [(a0, .inr (9, [.ref a1, k_1, k_2, k_3, k_4, k_5, k_6, k_7, k_8, k_9])), (a1, .inl (K 0, 56, .inl f_43))]) [0, 1] rfl
      have hD9 := hD.sub (ws' := [(a0, .inr (9, [.ref a1, k_1, k_2, k_3, k_4, k_5, k_6, k_7, k_8, k_9])), (a1, .inl (K 0, 56, .inl f_43))]) [0, 1] (by decide) rfl
      exact W.vret hx hb hr (fun t ht hW => ⟨⟨((fun _ => 0, fun i => match i with | _ => f_43, fun _ => fun _ => 0, fun _ => 0, fun _ => 0, fun _ => fun _ => none) : Su), rfl, trivial, (⟨by rw [ht]; exact hP9, hD9⟩ : Wd D A _ t)⟩, hS.F ht⟩) hS.2.2 dX9_put_32
    · refine lv_if_eq (tgt := 32) hx hb dX9_put_17 (by decide) (fun c_44 => ?_) (fun c_44 => absurd (by decide) c_44)
      rw [← hQ]
      have hP9 := hP.sub (ws' := [(a0, .inr (9, [.ref a1, k_1, k_2, k_3, k_4, k_5, k_6, k_7, k_8, k_9])), (a1, .inl (K 0, 56, .inl f))]) [0, 1] rfl
      have hD9 := hD.sub (ws' := [(a0, .inr (9, [.ref a1, k_1, k_2, k_3, k_4, k_5, k_6, k_7, k_8, k_9])), (a1, .inl (K 0, 56, .inl f))]) [0, 1] (by decide) rfl
      exact W.vret hx hb hr (fun t ht hW => ⟨⟨((fun _ => 0, fun i => match i with | _ => f, fun _ => fun _ => 0, fun _ => 0, fun _ => 0, fun _ => fun _ => none) : Su), rfl, trivial, (⟨by rw [ht]; exact hP9, hD9⟩ : Wd D A _ t)⟩, hS.F ht⟩) hS.2.2 dX9_put_32
  · refine lv_if_eq (tgt := 32) hx hb dX9_put_7 (by decide) (fun c_45 => ?_) (fun c_45 => absurd (by decide) c_45)
    rw [← hQ]
    have hP9 := hP.sub (ws' := [(a0, .inr (9, [.ref a1, k_1, k_2, k_3, k_4, k_5, k_6, k_7, k_8, k_9])), (a1, .inl (K 0, 56, .inl f))]) [0, 1] rfl
    have hD9 := hD.sub (ws' := [(a0, .inr (9, [.ref a1, k_1, k_2, k_3, k_4, k_5, k_6, k_7, k_8, k_9])), (a1, .inl (K 0, 56, .inl f))]) [0, 1] (by decide) rfl
    exact W.vret hx hb hr (fun t ht hW => ⟨⟨((fun _ => 0, fun i => match i with | _ => f, fun _ => fun _ => 0, fun _ => 0, fun _ => 0, fun _ => fun _ => none) : Su), rfl, trivial, (⟨by rw [ht]; exact hP9, hD9⟩ : Wd D A _ t)⟩, hS.F ht⟩) hS.2.2 dX9_put_32
set_option maxHeartbeats 4000000 in
set_option maxRecDepth 100000 in
theorem w_dinerOf (l : Launch) (D : va_G) (K : Nat → ClassId) (a0 : Nat) (x : Int32) (a1 : Nat) (k_1 : Value) (k_2 : Value) (k_3 : Value) (n : Int32) (k_5 : Value) (k_6 : Value) (k_7 : Value) (k_8 : Value) (k_9 : Value) (f : Nat → Int32) (sz : Nat) (zn : 0 ≤ n.toInt ∧ n.toInt ≤ 8) : Met l yX9_dinerOf wsX9_dinerOf ({ frames := 1, cells := 0, slots := 0, locals := 23 }) (va_Pc [.ref a0, .int x] (Pre D K [(a0, .inr (9, [.ref a1, k_1, k_2, k_3, .int n, k_5, k_6, k_7, k_8, k_9])), (a1, .inl (K 0, 56, .inl f))] sz)) (vp_Si (fun r : Int32 => ((-1) ≤ r.toInt ∧ r.toInt ≤ 7) ∧ True)) 0 0 (fun _ => False) := by
  refine Met.ofW (cc := cX9_dinerOf) (maxL := 3) (ret := (some .int)) (by decide) rfl ?_
  intro p e s m args below meth c s₁ B hml hv
  obtain ⟨rfl, hsz, hP, hK, hD0, hN⟩ := hv
  have hx := B.exec
  have hb := B.bytes
  have hr := B.returns
  have hts := atoms_spec (ws := wsX9_dinerOf) B.pre
  have hown : s.vm.findClass RX9 = some m.cls := findClass_of_methodNamed B.named
  have hlocks := B.notSynchronized
  subst hsz
  have hD := hD0
  have hP : va_P D vwCl [(a0, .inr (9, [.ref a1, k_1, k_2, k_3, .int n, k_5, k_6, k_7, k_8, k_9])), (a1, .inl (K 0, 56, .inl f))] s.heap := hP
  have hl := lv_entry [.ref a0, .int x] (n := 3) (Nat.le_of_ble_eq_true rfl)
  rw [lg_entry_eq]
  generalize (lg_sl [.ref a0, .int x] ++ List.replicate (3 - (lg_sl [.ref a0, .int x]).length) Slot.unset).toArray = ls at hl ⊢
  have hl : lv_has ls 3 [(0, .ref a0), (1, .int x)] := hl
  have hw9 : ∀ w ∈ wsX90, w ∈ wsX9_dinerOf := fun w h => (List.mem_cons_of_mem _ (List.mem_append_right _ h))
  generalize hQ : MQ below _ _ s _ _ _ = Q
  refine lv_iconst (v := 0) hx hb dX9_dinerOf_0 (by decide) ?_
  refine lv_istore_n (lv' := [(2, .int 0), (0, .ref a0), (1, .int x)]) hx hb dX9_dinerOf_1 rfl hl (by decide) rfl (fun ls hl => ?_)
  have lp_97 : ∀ (nn_ : Nat) (v_87 : Int32) (hv_87 : 0 ≤ v_87.toInt ∧ v_87.toInt ≤ 8) (hn : (9 - v_87.toInt : Int).toNat < nn_) (ls : Array Slot) (hl : lv_has ls 3 [(2, .int v_87), (0, .ref a0), (1, .int x)]), W p l e ({ frames := 1, cells := 0, slots := 0, locals := 23 }) s m (([.ref a0, .int x] : List Value).toArray) below meth c s.heap [] 0 0 Q (F0 m 2 ls []) := by
    intro nn_
    induction nn_ with
    | zero =>
      intro v_87 hv_87 hn ls hl
      exact absurd hn (Nat.not_lt_zero _)
    | succ nn_ ih_98 =>
      intro v_87 hv_87 hn ls hl
      refine lv_iload_n hx hb dX9_dinerOf_2 rfl (lv_at hl 0 rfl) ?_
      refine lv_aload_n hx hb dX9_dinerOf_3 rfl (lv_at hl 1 rfl) ?_
      refine va_get (ci := 9) (v := .int n) (C := RX9) (T := TX9) (N := 10) hx hb hts hw9 hown hK hP 0 rfl rfl 4 (by decide) (hts (.fieldLink RX9 27 "SmokeTune$Town" "houses" "I") (List.mem_cons_of_mem _ (List.mem_append_left _ (List.mem_of_getElem? (i := 0) rfl)))) (fun _ h9 => h9) rfl dX9_dinerOf_4 ?_
      refine lv_icmp_ge (tgt := 28) hx hb dX9_dinerOf_7 (by decide) (fun c_99 => ?_) (fun c_99 => ?_)
      · have c_99i := i_le (x := n.toInt) (y := v_87.toInt) rfl rfl c_99
        refine lv_iconst (v := (-1)) hx hb dX9_dinerOf_28 (by decide) ?_
        rw [← hQ]
        exact W.iret (v := (-1)) hx hb hr (fun t ht hW => ⟨_, rfl, ⟨(show (-1) ≤ ((-1) : Int32).toInt ∧ ((-1) : Int32).toInt ≤ 7 by decide), trivial⟩, ht⟩) (fun q hq => by cases hq) dX9_dinerOf_29
      · have c_99i := i_nle (x := n.toInt) (y := v_87.toInt) rfl rfl c_99
        refine lv_aload_n hx hb dX9_dinerOf_10 rfl (lv_at hl 1 rfl) ?_
        refine lv_iload_n hx hb dX9_dinerOf_11 rfl (lv_at hl 0 rfl) ?_
        refine lv_iconst (v := 3) hx hb dX9_dinerOf_12 (by decide) ?_
        refine pci (va_runV (As := [.int v_87, .int 3]) (rest := []) ⟨hx, hb, hml, hown, hts⟩ (w_fact l D K a0 v_87 3 a1 k_1 k_2 k_3 (.int n) k_5 k_6 k_7 k_8 k_9 f s.heap.size) (cwV 2 hts gX9_dinerOf_X9_fact rfl rfl rfl (by decide +kernel) ⟨Nat.le_of_ble_eq_true rfl, Nat.le_of_ble_eq_true rfl⟩) (mkV hK hN (hP.sub [0, 1] rfl) (hD.sub [0, 1] (by decide) rfl) (ci := 9) (q0 := 0) rfl rfl) rfl rfl hl.1 rfl (lv_room (Nat.le_of_ble_eq_true rfl)) dX9_dinerOf_13 ⟨Nat.le_of_ble_eq_true rfl, Nat.le_of_ble_eq_true rfl⟩) (fun r_100 hw => ?_)
        refine lv_iload_n hx hb dX9_dinerOf_16 rfl (lv_at hl 2 rfl) ?_
        refine lv_icmp_ne (tgt := 22) hx hb dX9_dinerOf_17 (by decide) (fun c_101 => ?_) (fun c_101 => ?_)
        · have c_101i := i_ne (x := r_100.toInt) (y := x.toInt) rfl rfl c_101
          obtain ⟨x_102, ex_102⟩ : ∃ y : Int32, y = v_87 + Int32.ofInt 1 := ⟨_, rfl⟩
          have hx_102 : x_102.toInt = (v_87.toInt + 1) := by rw [ex_102]; exact i_add rfl (show (Int32.ofInt 1).toInt = 1 from rfl) (by omega)
          refine lv_iinc (v := x_102) (lv' := [(2, .int x_102), (0, .ref a0), (1, .int x)]) hx hb dX9_dinerOf_22 hl (k := 0) rfl (by rw [ex_102]) (by decide) rfl (fun ls hl => ?_)
          refine lv_goto (tgt := 2) hx hb dX9_dinerOf_25 (by decide) ?_
          exact ih_98 x_102 (by rw [hx_102]; omega) (by omega) ls (lv_sub hl [0, 1, 2] rfl)
        · have c_101i := i_eq (x := r_100.toInt) (y := x.toInt) rfl rfl c_101
          refine lv_iload_n hx hb dX9_dinerOf_20 rfl (lv_at hl 0 rfl) ?_
          rw [← hQ]
          exact W.iret (v := v_87) hx hb hr (fun t ht hW => ⟨_, rfl, ⟨(show (-1) ≤ v_87.toInt ∧ v_87.toInt ≤ 7 by omega), trivial⟩, ht⟩) (fun q hq => by cases hq) dX9_dinerOf_21
  exact lp_97 ((9 - (0 : Int32).toInt : Int).toNat + 1) 0 (by decide) (Nat.lt_succ_self _) ls (lv_sub hl [0, 1, 2] rfl)
set_option maxHeartbeats 4000000 in
set_option maxRecDepth 100000 in
theorem w_build (l : Launch) (D : va_G) (K : Nat → ClassId) (a0 : Nat) (x0 : Int32) (x1 : Int32) (x2 : Int32) (x3 : Int32) (x4 : Int32) (a1 : Nat) (k_1 : Value) (k_2 : Value) (k_3 : Value) (n : Int32) (k_5 : Value) (k_6 : Value) (k_7 : Value) (k_8 : Value) (k_9 : Value) (f : Nat → Int32) (sz : Nat) (zn : 0 ≤ n.toInt ∧ n.toInt ≤ 7) : Met l yX9_build wsX9_build ({ frames := 2, cells := 0, slots := 0, locals := 45 }) (va_Pc [.ref a0, .int x0, .int x1, .int x2, .int x3, .int x4] (Pre D K [(a0, .inr (9, [.ref a1, k_1, k_2, k_3, .int n, k_5, k_6, k_7, k_8, k_9])), (a1, .inl (K 0, 56, .inl f))] sz)) (va_Qi (S := Su) (fun (r : Int32) (u : Su) => (0 ≤ r.toInt ∧ r.toInt ≤ 7) ∧ (1 ≤ (u.2.2.2.1 0).toInt ∧ (u.2.2.2.1 0).toInt ≤ 8) ∧ True) (fun u t => Wd D (va_A [(a0, .inr (9, [.ref a1, k_1, k_2, k_3, .int n, k_5, k_6, k_7, k_8, k_9])), (a1, .inl (K 0, 56, .inl f))] sz) ((fun u => [(a0, .inr (9, [.ref a1, k_1, k_2, k_3, .int (u.2.2.2.1 0), k_5, k_6, k_7, k_8, k_9])), (a1, .inl (K 0, 56, .inl (u.2.1 0)))]) u) t) (va_A [(a0, .inr (9, [.ref a1, k_1, k_2, k_3, .int n, k_5, k_6, k_7, k_8, k_9])), (a1, .inl (K 0, 56, .inl f))] sz)) 0 0 (va_A [(a0, .inr (9, [.ref a1, k_1, k_2, k_3, .int n, k_5, k_6, k_7, k_8, k_9])), (a1, .inl (K 0, 56, .inl f))] sz) := by
  refine Met.ofW (cc := cX9_build) (maxL := 7) (ret := (some .int)) (by decide) rfl ?_
  intro p e s m args below meth c s₁ B hml hv
  obtain ⟨rfl, hsz, hP, hK, hD0, hN⟩ := hv
  have hx := B.exec
  have hb := B.bytes
  have hr := B.returns
  have hts := atoms_spec (ws := wsX9_build) B.pre
  have hown : s.vm.findClass RX9 = some m.cls := findClass_of_methodNamed B.named
  have hlocks := B.notSynchronized
  subst hsz
  have hD := hD0.self (sz := s.heap.size)
  generalize hAe : va_A [(a0, .inr (9, [.ref a1, k_1, k_2, k_3, .int n, k_5, k_6, k_7, k_8, k_9])), (a1, .inl (K 0, 56, .inl f))] s.heap.size = A at hD ⊢
  have hA : ∀ q : Nat, s.heap.size ≤ q → A q := fun q h => by rw [← hAe]; exact Or.inr h
  have hS : va_S A s.heap s.heap [] := va_S.rf
  have hP : va_P D vwCl [(a0, .inr (9, [.ref a1, k_1, k_2, k_3, .int n, k_5, k_6, k_7, k_8, k_9])), (a1, .inl (K 0, 56, .inl f))] s.heap := hP
  have hl := lv_entry [.ref a0, .int x0, .int x1, .int x2, .int x3, .int x4] (n := 7) (Nat.le_of_ble_eq_true rfl)
  rw [lg_entry_eq]
  generalize (lg_sl [.ref a0, .int x0, .int x1, .int x2, .int x3, .int x4] ++ List.replicate (7 - (lg_sl [.ref a0, .int x0, .int x1, .int x2, .int x3, .int x4]).length) Slot.unset).toArray = ls at hl ⊢
  have hl : lv_has ls 7 [(0, .ref a0), (1, .int x0), (2, .int x1), (3, .int x2), (4, .int x3), (5, .int x4)] := hl
  have hw9 : ∀ w ∈ wsX90, w ∈ wsX9_build := fun w h => (List.mem_cons_of_mem _ (List.mem_append_right _ h))
  generalize hQ : MQ below _ _ s _ _ _ = Q
  refine lv_aload_n hx hb dX9_build_0 rfl (lv_at hl 0 rfl) ?_
  refine va_get (ci := 9) (v := .int n) (C := RX9) (T := TX9) (N := 10) hx hb hts hw9 hown hK hP 0 rfl rfl 4 (by decide) (hts (.fieldLink RX9 27 "SmokeTune$Town" "houses" "I") (List.mem_cons_of_mem _ (List.mem_append_left _ (List.mem_of_getElem? (i := 0) rfl)))) (fun _ h9 => h9) rfl dX9_build_1 ?_
  refine lv_istore (lv' := [(6, .int n), (0, .ref a0), (1, .int x0), (2, .int x1), (3, .int x2), (4, .int x3), (5, .int x4)]) hx hb dX9_build_4 hl (by decide) rfl (fun ls hl => ?_)
  refine lv_aload_n hx hb dX9_build_6 rfl (lv_at hl 1 rfl) ?_
  refine lv_iload hx hb dX9_build_7 (lv_at hl 0 rfl) ?_
  refine lv_iconst (v := 0) hx hb dX9_build_9 (by decide) ?_
  refine lv_iload_n hx hb dX9_build_10 rfl (lv_at hl 2 rfl) ?_
  refine kcv (S := Su) (wr := []) (va_runV (As := [.int n, .int 0, .int x0]) (rest := []) ⟨hx, hb, hml, hown, hts⟩ (w_put l D K a0 n 0 x0 a1 k_1 k_2 k_3 (.int n) k_5 k_6 k_7 k_8 k_9 f s.heap.size) (cwV 3 hts gX9_build_X9_put rfl rfl rfl (by decide +kernel) ⟨Nat.le_of_ble_eq_true rfl, Nat.le_of_ble_eq_true rfl⟩) (mkV hK hN (hP.sub [0, 1] rfl) (hD.sub [0, 1] (by decide) rfl) (ci := 9) (q0 := 0) rfl rfl) rfl rfl hl.1 rfl (lv_room (Nat.le_of_ble_eq_true rfl)) dX9_build_11 ⟨Nat.le_of_ble_eq_true rfl, Nat.le_of_ble_eq_true rfl⟩) hP hD hS hA [0, 1] [] rfl rfl (by decide) (by decide) (fun u_24 H locs hw hP hD hS => ?_)
  have hP : va_P D vwCl [(a0, .inr (9, [.ref a1, k_1, k_2, k_3, .int n, k_5, k_6, k_7, k_8, k_9])), (a1, .inl (K 0, 56, .inl (u_24.2.1 0)))] H := hP
  have hD : va_D A [(a0, .inr (9, [.ref a1, k_1, k_2, k_3, .int n, k_5, k_6, k_7, k_8, k_9])), (a1, .inl (K 0, 56, .inl (u_24.2.1 0)))] := hD
  refine lv_aload_n hx hb dX9_build_14 rfl (lv_at hl 1 rfl) ?_
  refine lv_iload hx hb dX9_build_15 (lv_at hl 0 rfl) ?_
  refine lv_iconst (v := 1) hx hb dX9_build_17 (by decide) ?_
  refine lv_iload_n hx hb dX9_build_18 rfl (lv_at hl 3 rfl) ?_
  refine kcv (S := Su) (wr := []) (va_runV (As := [.int n, .int 1, .int x1]) (rest := []) ⟨hx, hb, hml, hown, hts⟩ (w_put l D K a0 n 1 x1 a1 k_1 k_2 k_3 (.int n) k_5 k_6 k_7 k_8 k_9 (u_24.2.1 0) H.size) (cwV 3 hts gX9_build_X9_put rfl rfl rfl (by decide +kernel) ⟨Nat.le_of_ble_eq_true rfl, Nat.le_of_ble_eq_true rfl⟩) (mkV hK hN (hP.sub [0, 1] rfl) (hD.sub [0, 1] (by decide) rfl) (ci := 9) (q0 := 0) rfl rfl) rfl rfl hl.1 rfl (lv_room (Nat.le_of_ble_eq_true rfl)) dX9_build_19 ⟨Nat.le_of_ble_eq_true rfl, Nat.le_of_ble_eq_true rfl⟩) hP hD hS hA [0, 1] [] rfl rfl (by decide) (by decide) (fun u_26 H locs hw hP hD hS => ?_)
  have hP : va_P D vwCl [(a0, .inr (9, [.ref a1, k_1, k_2, k_3, .int n, k_5, k_6, k_7, k_8, k_9])), (a1, .inl (K 0, 56, .inl (u_26.2.1 0)))] H := hP
  have hD : va_D A [(a0, .inr (9, [.ref a1, k_1, k_2, k_3, .int n, k_5, k_6, k_7, k_8, k_9])), (a1, .inl (K 0, 56, .inl (u_26.2.1 0)))] := hD
  refine lv_aload_n hx hb dX9_build_22 rfl (lv_at hl 1 rfl) ?_
  refine lv_iload hx hb dX9_build_23 (lv_at hl 0 rfl) ?_
  refine lv_iconst (v := 2) hx hb dX9_build_25 (by decide) ?_
  refine lv_iload_n hx hb dX9_build_26 rfl (lv_at hl 4 rfl) ?_
  refine kcv (S := Su) (wr := []) (va_runV (As := [.int n, .int 2, .int x2]) (rest := []) ⟨hx, hb, hml, hown, hts⟩ (w_put l D K a0 n 2 x2 a1 k_1 k_2 k_3 (.int n) k_5 k_6 k_7 k_8 k_9 (u_26.2.1 0) H.size) (cwV 3 hts gX9_build_X9_put rfl rfl rfl (by decide +kernel) ⟨Nat.le_of_ble_eq_true rfl, Nat.le_of_ble_eq_true rfl⟩) (mkV hK hN (hP.sub [0, 1] rfl) (hD.sub [0, 1] (by decide) rfl) (ci := 9) (q0 := 0) rfl rfl) rfl rfl hl.1 rfl (lv_room (Nat.le_of_ble_eq_true rfl)) dX9_build_27 ⟨Nat.le_of_ble_eq_true rfl, Nat.le_of_ble_eq_true rfl⟩) hP hD hS hA [0, 1] [] rfl rfl (by decide) (by decide) (fun u_28 H locs hw hP hD hS => ?_)
  have hP : va_P D vwCl [(a0, .inr (9, [.ref a1, k_1, k_2, k_3, .int n, k_5, k_6, k_7, k_8, k_9])), (a1, .inl (K 0, 56, .inl (u_28.2.1 0)))] H := hP
  have hD : va_D A [(a0, .inr (9, [.ref a1, k_1, k_2, k_3, .int n, k_5, k_6, k_7, k_8, k_9])), (a1, .inl (K 0, 56, .inl (u_28.2.1 0)))] := hD
  refine lv_aload_n hx hb dX9_build_30 rfl (lv_at hl 1 rfl) ?_
  refine lv_iload hx hb dX9_build_31 (lv_at hl 0 rfl) ?_
  refine lv_iconst (v := 3) hx hb dX9_build_33 (by decide) ?_
  refine lv_iload hx hb dX9_build_34 (lv_at hl 5 rfl) ?_
  refine kcv (S := Su) (wr := []) (va_runV (As := [.int n, .int 3, .int x3]) (rest := []) ⟨hx, hb, hml, hown, hts⟩ (w_put l D K a0 n 3 x3 a1 k_1 k_2 k_3 (.int n) k_5 k_6 k_7 k_8 k_9 (u_28.2.1 0) H.size) (cwV 3 hts gX9_build_X9_put rfl rfl rfl (by decide +kernel) ⟨Nat.le_of_ble_eq_true rfl, Nat.le_of_ble_eq_true rfl⟩) (mkV hK hN (hP.sub [0, 1] rfl) (hD.sub [0, 1] (by decide) rfl) (ci := 9) (q0 := 0) rfl rfl) rfl rfl hl.1 rfl (lv_room (Nat.le_of_ble_eq_true rfl)) dX9_build_36 ⟨Nat.le_of_ble_eq_true rfl, Nat.le_of_ble_eq_true rfl⟩) hP hD hS hA [0, 1] [] rfl rfl (by decide) (by decide) (fun u_30 H locs hw hP hD hS => ?_)
  have hP : va_P D vwCl [(a0, .inr (9, [.ref a1, k_1, k_2, k_3, .int n, k_5, k_6, k_7, k_8, k_9])), (a1, .inl (K 0, 56, .inl (u_30.2.1 0)))] H := hP
  have hD : va_D A [(a0, .inr (9, [.ref a1, k_1, k_2, k_3, .int n, k_5, k_6, k_7, k_8, k_9])), (a1, .inl (K 0, 56, .inl (u_30.2.1 0)))] := hD
  refine lv_aload_n hx hb dX9_build_39 rfl (lv_at hl 1 rfl) ?_
  refine lv_iload hx hb dX9_build_40 (lv_at hl 0 rfl) ?_
  refine lv_iconst (v := 4) hx hb dX9_build_42 (by decide) ?_
  refine lv_iload hx hb dX9_build_43 (lv_at hl 6 rfl) ?_
  refine kcv (S := Su) (wr := []) (va_runV (As := [.int n, .int 4, .int x4]) (rest := []) ⟨hx, hb, hml, hown, hts⟩ (w_put l D K a0 n 4 x4 a1 k_1 k_2 k_3 (.int n) k_5 k_6 k_7 k_8 k_9 (u_30.2.1 0) H.size) (cwV 3 hts gX9_build_X9_put rfl rfl rfl (by decide +kernel) ⟨Nat.le_of_ble_eq_true rfl, Nat.le_of_ble_eq_true rfl⟩) (mkV hK hN (hP.sub [0, 1] rfl) (hD.sub [0, 1] (by decide) rfl) (ci := 9) (q0 := 0) rfl rfl) rfl rfl hl.1 rfl (lv_room (Nat.le_of_ble_eq_true rfl)) dX9_build_45 ⟨Nat.le_of_ble_eq_true rfl, Nat.le_of_ble_eq_true rfl⟩) hP hD hS hA [0, 1] [] rfl rfl (by decide) (by decide) (fun u_32 H locs hw hP hD hS => ?_)
  have hP : va_P D vwCl [(a0, .inr (9, [.ref a1, k_1, k_2, k_3, .int n, k_5, k_6, k_7, k_8, k_9])), (a1, .inl (K 0, 56, .inl (u_32.2.1 0)))] H := hP
  have hD : va_D A [(a0, .inr (9, [.ref a1, k_1, k_2, k_3, .int n, k_5, k_6, k_7, k_8, k_9])), (a1, .inl (K 0, 56, .inl (u_32.2.1 0)))] := hD
  refine lv_aload_n hx hb dX9_build_48 rfl (lv_at hl 1 rfl) ?_
  refine lv_dup hx hb dX9_build_49 rfl ?_
  refine va_get (ci := 9) (v := .int n) (C := RX9) (T := TX9) (N := 10) hx hb hts hw9 hown hK hP 0 rfl rfl 4 (by decide) (hts (.fieldLink RX9 27 "SmokeTune$Town" "houses" "I") (List.mem_cons_of_mem _ (List.mem_append_left _ (List.mem_of_getElem? (i := 0) rfl)))) (fun _ h9 => h9) rfl dX9_build_50 ?_
  refine lv_iconst (v := 1) hx hb dX9_build_53 (by decide) ?_
  refine lv_iadd hx hb dX9_build_54 ?_
  refine lv_topi (fun x_33 ex_33 => ?_)
  have hx_33 : x_33.toInt = (n.toInt + 1) := by rw [ex_33]; exact i_add rfl (show (1 : Int32).toInt = 1 from rfl) (by omega)
  refine va_put (ci := 9) (v := .int x_33) (ty := .int) (C := RX9) (T := TX9) (N := 10) hx hb hts hw9 tyX9 tyX9_ok nmX9 hown hK hP hD hS 0 rfl rfl 4 (by decide) (hts (.fieldLink RX9 27 "SmokeTune$Town" "houses" "I") (List.mem_cons_of_mem _ (List.mem_append_left _ (List.mem_of_getElem? (i := 0) rfl)))) (fun _ h9 => h9) rfl (by decide +kernel) (by first | rfl | decide) (by first | rfl | decide) (Nat.le_of_ble_eq_true rfl) dX9_build_55 (fun H locs hP hD hS => ?_)
  have hP : va_P D vwCl [(a0, .inr (9, [.ref a1, k_1, k_2, k_3, .int x_33, k_5, k_6, k_7, k_8, k_9])), (a1, .inl (K 0, 56, .inl (u_32.2.1 0)))] H := hP
  have hD : va_D A [(a0, .inr (9, [.ref a1, k_1, k_2, k_3, .int x_33, k_5, k_6, k_7, k_8, k_9])), (a1, .inl (K 0, 56, .inl (u_32.2.1 0)))] := hD
  refine lv_iload hx hb dX9_build_58 (lv_at hl 0 rfl) ?_
  rw [← hQ]
  have hP9 := hP.sub (ws' := [(a0, .inr (9, [.ref a1, k_1, k_2, k_3, .int x_33, k_5, k_6, k_7, k_8, k_9])), (a1, .inl (K 0, 56, .inl (u_32.2.1 0)))]) [0, 1] rfl
  have hD9 := hD.sub (ws' := [(a0, .inr (9, [.ref a1, k_1, k_2, k_3, .int x_33, k_5, k_6, k_7, k_8, k_9])), (a1, .inl (K 0, 56, .inl (u_32.2.1 0)))]) [0, 1] (by decide) rfl
  exact W.iret (v := n) hx hb hr (fun t ht hW => ⟨⟨n, ((fun _ => 0, fun i => match i with | _ => (u_32.2.1 0), fun _ => fun _ => 0, fun i => match i with | _ => x_33, fun _ => 0, fun _ => fun _ => none) : Su), rfl, ⟨(show 0 ≤ n.toInt ∧ n.toInt ≤ 7 by omega), (show 1 ≤ (x_33 : Int32).toInt ∧ (x_33 : Int32).toInt ≤ 8 by rw [hx_33]; omega), trivial⟩, (⟨by rw [ht]; exact hP9, hD9⟩ : Wd D A _ t)⟩, hS.F ht⟩) hS.2.2 dX9_build_60
set_option maxHeartbeats 4000000 in
set_option maxRecDepth 100000 in
theorem w_loud (l : Launch) (D : va_G) (K : Nat → ClassId) (a0 : Nat) (x : Int32) (k_0 : Value) (k_1 : Value) (a2 : Nat) (k_3 : Value) (k_4 : Value) (k_5 : Value) (k_6 : Value) (k_7 : Value) (k_8 : Value) (k_9 : Value) (ft : Nat → Int32) (sz : Nat) : Met l yX9_loud wsX9_loud ({ frames := 0, cells := 0, slots := 0, locals := 0 }) (va_Pc [.ref a0, .int x] (Pre D K [(a0, .inr (9, [k_0, k_1, .ref a2, k_3, k_4, k_5, k_6, k_7, k_8, k_9])), (a2, .inl (K 0, 6, .inl ft))] sz)) (vp_Si (fun r : Int32 => (0 ≤ r.toInt ∧ r.toInt ≤ 1) ∧ True)) 0 0 (fun _ => False) := by
  refine Met.ofW (cc := cX9_loud) (maxL := 2) (ret := (some .boolean)) (by decide) rfl ?_
  intro p e s m args below meth c s₁ B hml hv
  obtain ⟨rfl, hsz, hP, hK, hD0, hN⟩ := hv
  have hx := B.exec
  have hb := B.bytes
  have hr := B.returns
  have hts := atoms_spec (ws := wsX9_loud) B.pre
  have hown : s.vm.findClass RX9 = some m.cls := findClass_of_methodNamed B.named
  have hlocks := B.notSynchronized
  subst hsz
  have hD := hD0
  have hP : va_P D vwCl [(a0, .inr (9, [k_0, k_1, .ref a2, k_3, k_4, k_5, k_6, k_7, k_8, k_9])), (a2, .inl (K 0, 6, .inl ft))] s.heap := hP
  have hl := lv_entry [.ref a0, .int x] (n := 2) (Nat.le_of_ble_eq_true rfl)
  rw [lg_entry_eq]
  generalize (lg_sl [.ref a0, .int x] ++ List.replicate (2 - (lg_sl [.ref a0, .int x]).length) Slot.unset).toArray = ls at hl ⊢
  have hl : lv_has ls 2 [(0, .ref a0), (1, .int x)] := hl
  have hw9 : ∀ w ∈ wsX90, w ∈ wsX9_loud := fun w h => (List.mem_cons_of_mem _ (List.mem_append_right _ h))
  generalize hQ : MQ below _ _ s _ _ _ = Q
  refine lv_iload_n hx hb dX9_loud_0 rfl (lv_at hl 1 rfl) ?_
  refine lv_aload_n hx hb dX9_loud_1 rfl (lv_at hl 0 rfl) ?_
  refine va_get (ci := 9) (v := .ref a2) (C := RX9) (T := TX9) (N := 10) hx hb hts hw9 hown hK hP 0 rfl rfl 2 (by decide) (hts (.fieldLink RX9 18 "SmokeTune$Town" "terms" "[I") (List.mem_cons_of_mem _ (List.mem_append_left _ (List.mem_of_getElem? (i := 0) rfl)))) (fun _ h9 => h9) rfl dX9_loud_2 ?_
  refine lv_iconst (v := 2) hx hb dX9_loud_5 (by decide) ?_
  refine va_iald hx hb hK hP 1 0 rfl rfl (i_in (x := 2) rfl (by omega)) dX9_loud_6 ?_
  refine lv_topi (fun x_17 ex_17 => ?_)
  have j_21 : ∀ (ls : Array Slot) (hl : lv_has ls 2 []), W p l e ({ frames := 0, cells := 0, slots := 0, locals := 0 }) s m (([.ref a0, .int x] : List Value).toArray) below meth c s.heap [] 0 0 Q (F0 m 24 ls []) := by
    intro ls hl
    refine lv_iconst (v := 0) hx hb dX9_loud_24 (by decide) ?_
    rw [← hQ]
    exact W.zret (v := 0) hx hb hr (by decide) (fun t ht hW => ⟨_, rfl, ⟨(show 0 ≤ (0 : Int32).toInt ∧ (0 : Int32).toInt ≤ 1 by decide), trivial⟩, ht⟩) (fun q hq => by cases hq) dX9_loud_25
  refine lv_icmp_lt (tgt := 24) hx hb dX9_loud_7 (by decide) (fun c_22 => ?_) (fun c_22 => ?_)
  · have c_22i := i_lt (x := x.toInt) (y := x_17.toInt) rfl rfl c_22
    exact j_21   ls (lv_sub hl [] rfl)
  · have c_22i := i_nlt (x := x.toInt) (y := x_17.toInt) rfl rfl c_22
    refine lv_iload_n hx hb dX9_loud_10 rfl (lv_at hl 1 rfl) ?_
    refine lv_aload_n hx hb dX9_loud_11 rfl (lv_at hl 0 rfl) ?_
    refine va_get (ci := 9) (v := .ref a2) (C := RX9) (T := TX9) (N := 10) hx hb hts hw9 hown hK hP 0 rfl rfl 2 (by decide) (hts (.fieldLink RX9 18 "SmokeTune$Town" "terms" "[I") (List.mem_cons_of_mem _ (List.mem_append_left _ (List.mem_of_getElem? (i := 0) rfl)))) (fun _ h9 => h9) rfl dX9_loud_12 ?_
    refine lv_iconst (v := 3) hx hb dX9_loud_15 (by decide) ?_
    refine va_iald hx hb hK hP 1 0 rfl rfl (i_in (x := 3) rfl (by omega)) dX9_loud_16 ?_
    refine lv_topi (fun x_23 ex_23 => ?_)
    refine lv_icmp_gt (tgt := 24) hx hb dX9_loud_17 (by decide) (fun c_24 => ?_) (fun c_24 => ?_)
    · have c_24i := i_lt (x := x_23.toInt) (y := x.toInt) rfl rfl c_24
      exact j_21   ls (lv_sub hl [] rfl)
    · have c_24i := i_nlt (x := x_23.toInt) (y := x.toInt) rfl rfl c_24
      refine lv_iconst (v := 1) hx hb dX9_loud_20 (by decide) ?_
      refine lv_goto (tgt := 25) hx hb dX9_loud_21 (by decide) ?_
      rw [← hQ]
      exact W.zret (v := 1) hx hb hr (by decide) (fun t ht hW => ⟨_, rfl, ⟨(show 0 ≤ (1 : Int32).toInt ∧ (1 : Int32).toInt ≤ 1 by decide), trivial⟩, ht⟩) (fun q hq => by cases hq) dX9_loud_25
set_option maxHeartbeats 4000000 in
set_option maxRecDepth 100000 in
theorem w_sings (l : Launch) (D : va_G) (K : Nat → ClassId) (a0 : Nat) (x : Int32) (a1 : Nat) (k_1 : Value) (a2 : Nat) (k_3 : Value) (k_4 : Value) (k_5 : Value) (k_6 : Value) (k_7 : Value) (k_8 : Value) (k_9 : Value) (f : Nat → Int32) (ft : Nat → Int32) (sz : Nat) : Met l yX9_sings wsX9_sings ({ frames := 1, cells := 0, slots := 0, locals := 23 }) (va_Pc [.ref a0, .int x] (Pre D K [(a0, .inr (9, [.ref a1, k_1, .ref a2, k_3, k_4, k_5, k_6, k_7, k_8, k_9])), (a1, .inl (K 0, 56, .inl f)), (a2, .inl (K 0, 6, .inl ft))] sz)) (vp_Si (fun r : Int32 => (0 ≤ r.toInt ∧ r.toInt ≤ 1) ∧ True)) 0 0 (fun _ => False) := by
  refine Met.ofW (cc := cX9_sings) (maxL := 2) (ret := (some .boolean)) (by decide) rfl ?_
  intro p e s m args below meth c s₁ B hml hv
  obtain ⟨rfl, hsz, hP, hK, hD0, hN⟩ := hv
  have hx := B.exec
  have hb := B.bytes
  have hr := B.returns
  have hts := atoms_spec (ws := wsX9_sings) B.pre
  have hown : s.vm.findClass RX9 = some m.cls := findClass_of_methodNamed B.named
  have hlocks := B.notSynchronized
  subst hsz
  have hD := hD0
  have hP : va_P D vwCl [(a0, .inr (9, [.ref a1, k_1, .ref a2, k_3, k_4, k_5, k_6, k_7, k_8, k_9])), (a1, .inl (K 0, 56, .inl f)), (a2, .inl (K 0, 6, .inl ft))] s.heap := hP
  have hl := lv_entry [.ref a0, .int x] (n := 2) (Nat.le_of_ble_eq_true rfl)
  rw [lg_entry_eq]
  generalize (lg_sl [.ref a0, .int x] ++ List.replicate (2 - (lg_sl [.ref a0, .int x]).length) Slot.unset).toArray = ls at hl ⊢
  have hl : lv_has ls 2 [(0, .ref a0), (1, .int x)] := hl
  have hw9 : ∀ w ∈ wsX90, w ∈ wsX9_sings := fun w h => (List.mem_cons_of_mem _ (List.mem_append_right _ h))
  generalize hQ : MQ below _ _ s _ _ _ = Q
  refine lv_aload_n hx hb dX9_sings_0 rfl (lv_at hl 0 rfl) ?_
  refine lv_aload_n hx hb dX9_sings_1 rfl (lv_at hl 0 rfl) ?_
  refine lv_iload_n hx hb dX9_sings_2 rfl (lv_at hl 1 rfl) ?_
  refine lv_iconst (v := 5) hx hb dX9_sings_3 (by decide) ?_
  refine pci (va_runV (As := [.int x, .int 5]) (rest := [.ref a0]) ⟨hx, hb, hml, hown, hts⟩ (w_fact l D K a0 x 5 a1 k_1 (.ref a2) k_3 k_4 k_5 k_6 k_7 k_8 k_9 f s.heap.size) (cwV 2 hts gX9_sings_X9_fact rfl rfl rfl (by decide +kernel) ⟨Nat.le_of_ble_eq_true rfl, Nat.le_of_ble_eq_true rfl⟩) (mkV hK hN (hP.sub [0, 1] rfl) (hD.sub [0, 1] (by decide) rfl) (ci := 9) (q0 := 0) rfl rfl) rfl rfl hl.1 rfl (lv_room (Nat.le_of_ble_eq_true rfl)) dX9_sings_4 ⟨Nat.le_of_ble_eq_true rfl, Nat.le_of_ble_eq_true rfl⟩) (fun r_7 hw => ?_)
  refine pci (va_runV (As := [.int r_7]) (rest := []) ⟨hx, hb, hml, hown, hts⟩ (w_loud l D K a0 r_7 (.ref a1) k_1 a2 k_3 k_4 k_5 k_6 k_7 k_8 k_9 ft s.heap.size) (cwV 1 hts gX9_sings_X9_loud rfl rfl rfl (by decide +kernel) ⟨Nat.le_of_ble_eq_true rfl, Nat.le_of_ble_eq_true rfl⟩) (mkV hK hN (hP.sub [0, 2] rfl) (hD.sub [0, 2] (by decide) rfl) (ci := 9) (q0 := 0) rfl rfl) rfl rfl hl.1 rfl (lv_room (Nat.le_of_ble_eq_true rfl)) dX9_sings_7 ⟨Nat.le_of_ble_eq_true rfl, Nat.le_of_ble_eq_true rfl⟩) (fun r_8 hw => ?_)
  obtain ⟨h_9, -⟩ := hw
  rw [← hQ]
  exact W.zret (v := r_8) hx hb hr (zb rfl (by omega)) (fun t ht hW => ⟨_, rfl, ⟨(show 0 ≤ r_8.toInt ∧ r_8.toInt ≤ 1 by omega), trivial⟩, ht⟩) (fun q hq => by cases hq) dX9_sings_10
set_option maxHeartbeats 4000000 in
set_option maxRecDepth 100000 in
theorem w_beside (l : Launch) (D : va_G) (K : Nat → ClassId) (a0 : Nat) (x : Int32) (y : Int32) (a1 : Nat) (k_1 : Value) (k_2 : Value) (k_3 : Value) (k_4 : Value) (k_5 : Value) (k_6 : Value) (k_7 : Value) (k_8 : Value) (k_9 : Value) (f : Nat → Int32) (sz : Nat) : Met l yX9_beside wsX9_beside ({ frames := 1, cells := 0, slots := 0, locals := 23 }) (va_Pc [.ref a0, .int x, .int y] (Pre D K [(a0, .inr (9, [.ref a1, k_1, k_2, k_3, k_4, k_5, k_6, k_7, k_8, k_9])), (a1, .inl (K 0, 56, .inl f))] sz)) (vp_Si (fun r : Int32 => (0 ≤ r.toInt ∧ r.toInt ≤ 1) ∧ True)) 0 0 (fun _ => False) := by
  refine Met.ofW (cc := cX9_beside) (maxL := 4) (ret := (some .boolean)) (by decide) rfl ?_
  intro p e s m args below meth c s₁ B hml hv
  obtain ⟨rfl, hsz, hP, hK, hD0, hN⟩ := hv
  have hx := B.exec
  have hb := B.bytes
  have hr := B.returns
  have hts := atoms_spec (ws := wsX9_beside) B.pre
  have hown : s.vm.findClass RX9 = some m.cls := findClass_of_methodNamed B.named
  have hlocks := B.notSynchronized
  subst hsz
  have hD := hD0
  have hP : va_P D vwCl [(a0, .inr (9, [.ref a1, k_1, k_2, k_3, k_4, k_5, k_6, k_7, k_8, k_9])), (a1, .inl (K 0, 56, .inl f))] s.heap := hP
  have hl := lv_entry [.ref a0, .int x, .int y] (n := 4) (Nat.le_of_ble_eq_true rfl)
  rw [lg_entry_eq]
  generalize (lg_sl [.ref a0, .int x, .int y] ++ List.replicate (4 - (lg_sl [.ref a0, .int x, .int y]).length) Slot.unset).toArray = ls at hl ⊢
  have hl : lv_has ls 4 [(0, .ref a0), (1, .int x), (2, .int y)] := hl
  have hw9 : ∀ w ∈ wsX90, w ∈ wsX9_beside := fun w h => (List.mem_cons_of_mem _ (List.mem_append_right _ h))
  generalize hQ : MQ below _ _ s _ _ _ = Q
  refine lv_aload_n hx hb dX9_beside_0 rfl (lv_at hl 0 rfl) ?_
  refine lv_iload_n hx hb dX9_beside_1 rfl (lv_at hl 1 rfl) ?_
  refine lv_iconst (v := 0) hx hb dX9_beside_2 (by decide) ?_
  refine pci (va_runV (As := [.int x, .int 0]) (rest := []) ⟨hx, hb, hml, hown, hts⟩ (w_fact l D K a0 x 0 a1 k_1 k_2 k_3 k_4 k_5 k_6 k_7 k_8 k_9 f s.heap.size) (cwV 2 hts gX9_beside_X9_fact rfl rfl rfl (by decide +kernel) ⟨Nat.le_of_ble_eq_true rfl, Nat.le_of_ble_eq_true rfl⟩) (mkV hK hN (hP.sub [0, 1] rfl) (hD.sub [0, 1] (by decide) rfl) (ci := 9) (q0 := 0) rfl rfl) rfl rfl hl.1 rfl (lv_room (Nat.le_of_ble_eq_true rfl)) dX9_beside_3 ⟨Nat.le_of_ble_eq_true rfl, Nat.le_of_ble_eq_true rfl⟩) (fun r_39 hw => ?_)
  refine lv_aload_n hx hb dX9_beside_6 rfl (lv_at hl 0 rfl) ?_
  refine lv_iload_n hx hb dX9_beside_7 rfl (lv_at hl 2 rfl) ?_
  refine lv_iconst (v := 0) hx hb dX9_beside_8 (by decide) ?_
  refine pci (va_runV (As := [.int y, .int 0]) (rest := [.int r_39]) ⟨hx, hb, hml, hown, hts⟩ (w_fact l D K a0 y 0 a1 k_1 k_2 k_3 k_4 k_5 k_6 k_7 k_8 k_9 f s.heap.size) (cwV 2 hts gX9_beside_X9_fact rfl rfl rfl (by decide +kernel) ⟨Nat.le_of_ble_eq_true rfl, Nat.le_of_ble_eq_true rfl⟩) (mkV hK hN (hP.sub [0, 1] rfl) (hD.sub [0, 1] (by decide) rfl) (ci := 9) (q0 := 0) rfl rfl) rfl rfl hl.1 rfl (lv_room (Nat.le_of_ble_eq_true rfl)) dX9_beside_9 ⟨Nat.le_of_ble_eq_true rfl, Nat.le_of_ble_eq_true rfl⟩) (fun r_40 hw => ?_)
  refine lv_isub hx hb dX9_beside_12 ?_
  refine lv_topi (fun x_41 ex_41 => ?_)
  refine va_mabs hx hb (hml.trans hl.1.symm) hown (hts (.methodLink RX9 72 Lib.Math.abs.name) (List.mem_cons_of_mem _ (List.mem_append_left _ (List.mem_of_getElem? (i := 0) rfl)))) (hts (.static Lib.Math.abs.name) (List.mem_cons_of_mem _ (List.mem_append_left _ (List.mem_of_getElem? (i := 1) rfl)))) (hts (.initialized "java/lang/Math") (List.mem_cons_of_mem _ (List.mem_append_left _ (List.mem_of_getElem? (i := 2) rfl)))) (hts (.code Lib.Math.abs.name Lib.Math.abs.code 1 (some .int)) (List.mem_cons_of_mem _ (List.mem_append_left _ (List.mem_of_getElem? (i := 3) rfl)))) (Nat.le_of_ble_eq_true rfl) (Nat.le_of_ble_eq_true rfl) (Nat.le_of_ble_eq_true rfl) (Nat.le_of_ble_eq_true rfl) dX9_beside_13 ?_
  refine lv_topi (fun x_42 ex_42 => ?_)
  refine lv_istore_n (lv' := [(3, .int x_42), (0, .ref a0), (1, .int x), (2, .int y)]) hx hb dX9_beside_16 rfl hl (by decide) rfl (fun ls hl => ?_)
  refine lv_aload_n hx hb dX9_beside_17 rfl (lv_at hl 1 rfl) ?_
  refine lv_iload_n hx hb dX9_beside_18 rfl (lv_at hl 2 rfl) ?_
  refine lv_iconst (v := 1) hx hb dX9_beside_19 (by decide) ?_
  refine pci (va_runV (As := [.int x, .int 1]) (rest := []) ⟨hx, hb, hml, hown, hts⟩ (w_fact l D K a0 x 1 a1 k_1 k_2 k_3 k_4 k_5 k_6 k_7 k_8 k_9 f s.heap.size) (cwV 2 hts gX9_beside_X9_fact rfl rfl rfl (by decide +kernel) ⟨Nat.le_of_ble_eq_true rfl, Nat.le_of_ble_eq_true rfl⟩) (mkV hK hN (hP.sub [0, 1] rfl) (hD.sub [0, 1] (by decide) rfl) (ci := 9) (q0 := 0) rfl rfl) rfl rfl hl.1 rfl (lv_room (Nat.le_of_ble_eq_true rfl)) dX9_beside_20 ⟨Nat.le_of_ble_eq_true rfl, Nat.le_of_ble_eq_true rfl⟩) (fun r_43 hw => ?_)
  refine lv_aload_n hx hb dX9_beside_23 rfl (lv_at hl 1 rfl) ?_
  refine lv_iload_n hx hb dX9_beside_24 rfl (lv_at hl 3 rfl) ?_
  refine lv_iconst (v := 1) hx hb dX9_beside_25 (by decide) ?_
  refine pci (va_runV (As := [.int y, .int 1]) (rest := [.int r_43]) ⟨hx, hb, hml, hown, hts⟩ (w_fact l D K a0 y 1 a1 k_1 k_2 k_3 k_4 k_5 k_6 k_7 k_8 k_9 f s.heap.size) (cwV 2 hts gX9_beside_X9_fact rfl rfl rfl (by decide +kernel) ⟨Nat.le_of_ble_eq_true rfl, Nat.le_of_ble_eq_true rfl⟩) (mkV hK hN (hP.sub [0, 1] rfl) (hD.sub [0, 1] (by decide) rfl) (ci := 9) (q0 := 0) rfl rfl) rfl rfl hl.1 rfl (lv_room (Nat.le_of_ble_eq_true rfl)) dX9_beside_26 ⟨Nat.le_of_ble_eq_true rfl, Nat.le_of_ble_eq_true rfl⟩) (fun r_44 hw => ?_)
  have j_51 : ∀ (ls : Array Slot) (hl : lv_has ls 4 []), W p l e ({ frames := 1, cells := 0, slots := 0, locals := 23 }) s m (([.ref a0, .int x, .int y] : List Value).toArray) below meth c s.heap [] 0 0 Q (F0 m 47 ls []) := by
    intro ls hl
    refine lv_iconst (v := 0) hx hb dX9_beside_47 (by decide) ?_
    rw [← hQ]
    exact W.zret (v := 0) hx hb hr (by decide) (fun t ht hW => ⟨_, rfl, ⟨(show 0 ≤ (0 : Int32).toInt ∧ (0 : Int32).toInt ≤ 1 by decide), trivial⟩, ht⟩) (fun q hq => by cases hq) dX9_beside_48
  refine lv_icmp_ne (tgt := 47) hx hb dX9_beside_29 (by decide) (fun c_52 => ?_) (fun c_52 => ?_)
  · have c_52i := i_ne (x := r_43.toInt) (y := r_44.toInt) rfl rfl c_52
    exact j_51   ls (lv_sub hl [] rfl)
  · have c_52i := i_eq (x := r_43.toInt) (y := r_44.toInt) rfl rfl c_52
    refine lv_iload_n hx hb dX9_beside_32 rfl (lv_at hl 0 rfl) ?_
    refine lv_iconst (v := 1) hx hb dX9_beside_33 (by decide) ?_
    have j_55 : ∀ (ls : Array Slot) (hl : lv_has ls 4 []), W p l e ({ frames := 1, cells := 0, slots := 0, locals := 23 }) s m (([.ref a0, .int x, .int y] : List Value).toArray) below meth c s.heap [] 0 0 Q (F0 m 43 ls []) := by
      intro ls hl
      refine lv_iconst (v := 1) hx hb dX9_beside_43 (by decide) ?_
      refine lv_goto (tgt := 48) hx hb dX9_beside_44 (by decide) ?_
      rw [← hQ]
      exact W.zret (v := 1) hx hb hr (by decide) (fun t ht hW => ⟨_, rfl, ⟨(show 0 ≤ (1 : Int32).toInt ∧ (1 : Int32).toInt ≤ 1 by decide), trivial⟩, ht⟩) (fun q hq => by cases hq) dX9_beside_48
    refine lv_icmp_eq (tgt := 43) hx hb dX9_beside_34 (by decide) (fun c_56 => ?_) (fun c_56 => ?_)
    · have c_56i := i_eq (x := x_42.toInt) (y := 1) rfl rfl c_56
      exact j_55   ls (lv_sub hl [] rfl)
    · have c_56i := i_ne (x := x_42.toInt) (y := 1) rfl rfl c_56
      refine lv_iload_n hx hb dX9_beside_37 rfl (lv_at hl 0 rfl) ?_
      refine lv_bipush (v := 6) hx hb dX9_beside_38 (by decide) ?_
      refine lv_icmp_ne (tgt := 47) hx hb dX9_beside_40 (by decide) (fun c_57 => ?_) (fun c_57 => ?_)
      · have c_57i := i_ne (x := x_42.toInt) (y := 6) rfl rfl c_57
        exact j_51   ls (lv_sub hl [] rfl)
      · have c_57i := i_eq (x := x_42.toInt) (y := 6) rfl rfl c_57
        exact j_55   ls (lv_sub hl [] rfl)
set_option maxHeartbeats 4000000 in
set_option maxRecDepth 100000 in
theorem w_singing (l : Launch) (D : va_G) (K : Nat → ClassId) (a0 : Nat) (a1 : Nat) (k_1 : Value) (a2 : Nat) (k_3 : Value) (n : Int32) (k_5 : Value) (k_6 : Value) (k_7 : Value) (k_8 : Value) (k_9 : Value) (f : Nat → Int32) (ft : Nat → Int32) (sz : Nat) (zn : 0 ≤ n.toInt ∧ n.toInt ≤ 8) : Met l yX9_singing wsX9_singing ({ frames := 2, cells := 0, slots := 0, locals := 44 }) (va_Pc [.ref a0] (Pre D K [(a0, .inr (9, [.ref a1, k_1, .ref a2, k_3, .int n, k_5, k_6, k_7, k_8, k_9])), (a1, .inl (K 0, 56, .inl f)), (a2, .inl (K 0, 6, .inl ft))] sz)) (vp_Si (fun r : Int32 => True)) 0 0 (fun _ => False) := by
  refine Met.ofW (cc := cX9_singing) (maxL := 3) (ret := (some .int)) (by decide) rfl ?_
  intro p e s m args below meth c s₁ B hml hv
  obtain ⟨rfl, hsz, hP, hK, hD0, hN⟩ := hv
  have hx := B.exec
  have hb := B.bytes
  have hr := B.returns
  have hts := atoms_spec (ws := wsX9_singing) B.pre
  have hown : s.vm.findClass RX9 = some m.cls := findClass_of_methodNamed B.named
  have hlocks := B.notSynchronized
  subst hsz
  have hD := hD0
  have hP : va_P D vwCl [(a0, .inr (9, [.ref a1, k_1, .ref a2, k_3, .int n, k_5, k_6, k_7, k_8, k_9])), (a1, .inl (K 0, 56, .inl f)), (a2, .inl (K 0, 6, .inl ft))] s.heap := hP
  have hl := lv_entry [.ref a0] (n := 3) (Nat.le_of_ble_eq_true rfl)
  rw [lg_entry_eq]
  generalize (lg_sl [.ref a0] ++ List.replicate (3 - (lg_sl [.ref a0]).length) Slot.unset).toArray = ls at hl ⊢
  have hl : lv_has ls 3 [(0, .ref a0)] := hl
  have hw9 : ∀ w ∈ wsX90, w ∈ wsX9_singing := fun w h => (List.mem_cons_of_mem _ (List.mem_append_right _ h))
  generalize hQ : MQ below _ _ s _ _ _ = Q
  refine lv_iconst (v := 0) hx hb dX9_singing_0 (by decide) ?_
  refine lv_istore_n (lv' := [(1, .int 0), (0, .ref a0)]) hx hb dX9_singing_1 rfl hl (by decide) rfl (fun ls hl => ?_)
  refine lv_iconst (v := 0) hx hb dX9_singing_2 (by decide) ?_
  refine lv_istore_n (lv' := [(2, .int 0), (1, .int 0), (0, .ref a0)]) hx hb dX9_singing_3 rfl hl (by decide) rfl (fun ls hl => ?_)
  have lp_219 : ∀ (nn_ : Nat) (v_199 : Int32) (v_200 : Int32) (hv_199 : 0 ≤ v_199.toInt ∧ v_199.toInt ≤ 8) (hn : (9 - v_199.toInt : Int).toNat < nn_) (ls : Array Slot) (hl : lv_has ls 3 [(2, .int v_199), (1, .int v_200), (0, .ref a0)]), W p l e ({ frames := 2, cells := 0, slots := 0, locals := 44 }) s m (([.ref a0] : List Value).toArray) below meth c s.heap [] 0 0 Q (F0 m 4 ls []) := by
    intro nn_
    induction nn_ with
    | zero =>
      intro v_199 v_200 hv_199 hn ls hl
      exact absurd hn (Nat.not_lt_zero _)
    | succ nn_ ih_220 =>
      intro v_199 v_200 hv_199 hn ls hl
      refine lv_iload_n hx hb dX9_singing_4 rfl (lv_at hl 0 rfl) ?_
      refine lv_aload_n hx hb dX9_singing_5 rfl (lv_at hl 2 rfl) ?_
      refine va_get (ci := 9) (v := .int n) (C := RX9) (T := TX9) (N := 10) hx hb hts hw9 hown hK hP 0 rfl rfl 4 (by decide) (hts (.fieldLink RX9 27 "SmokeTune$Town" "houses" "I") (List.mem_cons_of_mem _ (List.mem_append_left _ (List.mem_of_getElem? (i := 0) rfl)))) (fun _ h9 => h9) rfl dX9_singing_6 ?_
      refine lv_icmp_ge (tgt := 34) hx hb dX9_singing_9 (by decide) (fun c_221 => ?_) (fun c_221 => ?_)
      · have c_221i := i_le (x := n.toInt) (y := v_199.toInt) rfl rfl c_221
        refine lv_iload_n hx hb dX9_singing_34 rfl (lv_at hl 1 rfl) ?_
        rw [← hQ]
        exact W.iret (v := v_200) hx hb hr (fun t ht hW => ⟨_, rfl, trivial, ht⟩) (fun q hq => by cases hq) dX9_singing_35
      · have c_221i := i_nle (x := n.toInt) (y := v_199.toInt) rfl rfl c_221
        refine lv_iload_n hx hb dX9_singing_12 rfl (lv_at hl 1 rfl) ?_
        refine lv_aload_n hx hb dX9_singing_13 rfl (lv_at hl 2 rfl) ?_
        refine lv_iload_n hx hb dX9_singing_14 rfl (lv_at hl 0 rfl) ?_
        refine pci (va_runV (As := [.int v_199]) (rest := [.int v_200]) ⟨hx, hb, hml, hown, hts⟩ (w_sings l D K a0 v_199 a1 k_1 a2 k_3 (.int n) k_5 k_6 k_7 k_8 k_9 f ft s.heap.size) (cwV 1 hts gX9_singing_X9_sings rfl rfl rfl (by decide +kernel) ⟨Nat.le_of_ble_eq_true rfl, Nat.le_of_ble_eq_true rfl⟩) (mkV hK hN (hP.sub [0, 1, 2] rfl) (hD.sub [0, 1, 2] (by decide) rfl) (ci := 9) (q0 := 0) rfl rfl) rfl rfl hl.1 rfl (lv_room (Nat.le_of_ble_eq_true rfl)) dX9_singing_15 ⟨Nat.le_of_ble_eq_true rfl, Nat.le_of_ble_eq_true rfl⟩) (fun r_222 hw => ?_)
        obtain ⟨h_223, -⟩ := hw
        refine lv_if_eq (tgt := 25) hx hb dX9_singing_18 (by decide) (fun c_224 => ?_) (fun c_224 => ?_)
        · have c_224i := i_eq (x := r_222.toInt) (y := 0) rfl rfl c_224
          refine lv_iconst (v := 0) hx hb dX9_singing_25 (by decide) ?_
          refine lv_iadd hx hb dX9_singing_26 ?_
          refine lv_topi (fun x_225 ex_225 => ?_)
          have hx_225 : x_225.toInt = (v_200.toInt + 0) := by rw [ex_225]; exact i_add rfl (show (0 : Int32).toInt = 0 from rfl) (by have q1 := i_rng (a := v_200) rfl; omega)
          refine lv_istore_n (lv' := [(1, .int x_225), (2, .int v_199), (0, .ref a0)]) hx hb dX9_singing_27 rfl hl (by decide) rfl (fun ls hl => ?_)
          obtain ⟨x_226, ex_226⟩ : ∃ y : Int32, y = v_199 + Int32.ofInt 1 := ⟨_, rfl⟩
          have hx_226 : x_226.toInt = (v_199.toInt + 1) := by rw [ex_226]; exact i_add rfl (show (Int32.ofInt 1).toInt = 1 from rfl) (by omega)
          refine lv_iinc (v := x_226) (lv' := [(2, .int x_226), (1, .int x_225), (0, .ref a0)]) hx hb dX9_singing_28 hl (k := 1) rfl (by rw [ex_226]) (by decide) rfl (fun ls hl => ?_)
          refine lv_goto (tgt := 4) hx hb dX9_singing_31 (by decide) ?_
          exact ih_220 x_226 x_225 (by rw [hx_226]; omega) (by omega) ls (lv_sub hl [0, 1, 2] rfl)
        · have c_224i := i_ne (x := r_222.toInt) (y := 0) rfl rfl c_224
          refine lv_iconst (v := 1) hx hb dX9_singing_21 (by decide) ?_
          refine lv_goto (tgt := 26) hx hb dX9_singing_22 (by decide) ?_
          refine lv_iadd hx hb dX9_singing_26 ?_
          refine lv_topi (fun x_227 ex_227 => ?_)
          refine lv_istore_n (lv' := [(1, .int x_227), (2, .int v_199), (0, .ref a0)]) hx hb dX9_singing_27 rfl hl (by decide) rfl (fun ls hl => ?_)
          obtain ⟨x_228, ex_228⟩ : ∃ y : Int32, y = v_199 + Int32.ofInt 1 := ⟨_, rfl⟩
          have hx_228 : x_228.toInt = (v_199.toInt + 1) := by rw [ex_228]; exact i_add rfl (show (Int32.ofInt 1).toInt = 1 from rfl) (by omega)
          refine lv_iinc (v := x_228) (lv' := [(2, .int x_228), (1, .int x_227), (0, .ref a0)]) hx hb dX9_singing_28 hl (k := 1) rfl (by rw [ex_228]) (by decide) rfl (fun ls hl => ?_)
          refine lv_goto (tgt := 4) hx hb dX9_singing_31 (by decide) ?_
          exact ih_220 x_228 x_227 (by rw [hx_228]; omega) (by omega) ls (lv_sub hl [0, 1, 2] rfl)
  exact lp_219 ((9 - (0 : Int32).toInt : Int).toNat + 1) 0 0 (by decide) (Nat.lt_succ_self _) ls (lv_sub hl [0, 1, 2] rfl)
set_option maxHeartbeats 4000000 in
set_option maxRecDepth 100000 in
theorem w_notesNow (l : Launch) (D : va_G) (K : Nat → ClassId) (a0 : Nat) (a1 : Nat) (k_1 : Value) (a2 : Nat) (k_3 : Value) (n : Int32) (k_5 : Value) (k_6 : Value) (k_7 : Value) (k_8 : Value) (k_9 : Value) (f : Nat → Int32) (ft : Nat → Int32) (sz : Nat) (zn : 0 ≤ n.toInt ∧ n.toInt ≤ 8) : Met l yX9_notesNow wsX9_notesNow ({ frames := 2, cells := 0, slots := 0, locals := 44 }) (va_Pc [.ref a0] (Pre D K [(a0, .inr (9, [.ref a1, k_1, .ref a2, k_3, .int n, k_5, k_6, k_7, k_8, k_9])), (a1, .inl (K 0, 56, .inl f)), (a2, .inl (K 0, 6, .inl ft))] sz)) (vp_Si (fun r : Int32 => True)) 0 0 (fun _ => False) := by
  refine Met.ofW (cc := cX9_notesNow) (maxL := 3) (ret := (some .int)) (by decide) rfl ?_
  intro p e s m args below meth c s₁ B hml hv
  obtain ⟨rfl, hsz, hP, hK, hD0, hN⟩ := hv
  have hx := B.exec
  have hb := B.bytes
  have hr := B.returns
  have hts := atoms_spec (ws := wsX9_notesNow) B.pre
  have hown : s.vm.findClass RX9 = some m.cls := findClass_of_methodNamed B.named
  have hlocks := B.notSynchronized
  subst hsz
  have hD := hD0
  have hP : va_P D vwCl [(a0, .inr (9, [.ref a1, k_1, .ref a2, k_3, .int n, k_5, k_6, k_7, k_8, k_9])), (a1, .inl (K 0, 56, .inl f)), (a2, .inl (K 0, 6, .inl ft))] s.heap := hP
  have hl := lv_entry [.ref a0] (n := 3) (Nat.le_of_ble_eq_true rfl)
  rw [lg_entry_eq]
  generalize (lg_sl [.ref a0] ++ List.replicate (3 - (lg_sl [.ref a0]).length) Slot.unset).toArray = ls at hl ⊢
  have hl : lv_has ls 3 [(0, .ref a0)] := hl
  have hw9 : ∀ w ∈ wsX90, w ∈ wsX9_notesNow := fun w h => (List.mem_cons_of_mem _ (List.mem_append_right _ h))
  generalize hQ : MQ below _ _ s _ _ _ = Q
  refine lv_iconst (v := 0) hx hb dX9_notesNow_0 (by decide) ?_
  refine lv_istore_n (lv' := [(1, .int 0), (0, .ref a0)]) hx hb dX9_notesNow_1 rfl hl (by decide) rfl (fun ls hl => ?_)
  refine lv_iconst (v := 0) hx hb dX9_notesNow_2 (by decide) ?_
  refine lv_istore_n (lv' := [(2, .int 0), (1, .int 0), (0, .ref a0)]) hx hb dX9_notesNow_3 rfl hl (by decide) rfl (fun ls hl => ?_)
  have lp_229 : ∀ (nn_ : Nat) (v_205 : Int32) (v_206 : Int32) (hv_205 : 0 ≤ v_205.toInt ∧ v_205.toInt ≤ 8) (hn : (9 - v_205.toInt : Int).toNat < nn_) (ls : Array Slot) (hl : lv_has ls 3 [(2, .int v_205), (1, .int v_206), (0, .ref a0)]), W p l e ({ frames := 2, cells := 0, slots := 0, locals := 44 }) s m (([.ref a0] : List Value).toArray) below meth c s.heap [] 0 0 Q (F0 m 4 ls []) := by
    intro nn_
    induction nn_ with
    | zero =>
      intro v_205 v_206 hv_205 hn ls hl
      exact absurd hn (Nat.not_lt_zero _)
    | succ nn_ ih_230 =>
      intro v_205 v_206 hv_205 hn ls hl
      refine lv_iload_n hx hb dX9_notesNow_4 rfl (lv_at hl 0 rfl) ?_
      refine lv_aload_n hx hb dX9_notesNow_5 rfl (lv_at hl 2 rfl) ?_
      refine va_get (ci := 9) (v := .int n) (C := RX9) (T := TX9) (N := 10) hx hb hts hw9 hown hK hP 0 rfl rfl 4 (by decide) (hts (.fieldLink RX9 27 "SmokeTune$Town" "houses" "I") (List.mem_cons_of_mem _ (List.mem_append_left _ (List.mem_of_getElem? (i := 0) rfl)))) (fun _ h9 => h9) rfl dX9_notesNow_6 ?_
      refine lv_icmp_ge (tgt := 41) hx hb dX9_notesNow_9 (by decide) (fun c_231 => ?_) (fun c_231 => ?_)
      · have c_231i := i_le (x := n.toInt) (y := v_205.toInt) rfl rfl c_231
        refine lv_iload_n hx hb dX9_notesNow_41 rfl (lv_at hl 1 rfl) ?_
        rw [← hQ]
        exact W.iret (v := v_206) hx hb hr (fun t ht hW => ⟨_, rfl, trivial, ht⟩) (fun q hq => by cases hq) dX9_notesNow_42
      · have c_231i := i_nle (x := n.toInt) (y := v_205.toInt) rfl rfl c_231
        refine lv_iload_n hx hb dX9_notesNow_12 rfl (lv_at hl 1 rfl) ?_
        refine lv_aload_n hx hb dX9_notesNow_13 rfl (lv_at hl 2 rfl) ?_
        refine lv_iload_n hx hb dX9_notesNow_14 rfl (lv_at hl 0 rfl) ?_
        refine pci (va_runV (As := [.int v_205]) (rest := [.int v_206]) ⟨hx, hb, hml, hown, hts⟩ (w_sings l D K a0 v_205 a1 k_1 a2 k_3 (.int n) k_5 k_6 k_7 k_8 k_9 f ft s.heap.size) (cwV 1 hts gX9_notesNow_X9_sings rfl rfl rfl (by decide +kernel) ⟨Nat.le_of_ble_eq_true rfl, Nat.le_of_ble_eq_true rfl⟩) (mkV hK hN (hP.sub [0, 1, 2] rfl) (hD.sub [0, 1, 2] (by decide) rfl) (ci := 9) (q0 := 0) rfl rfl) rfl rfl hl.1 rfl (lv_room (Nat.le_of_ble_eq_true rfl)) dX9_notesNow_15 ⟨Nat.le_of_ble_eq_true rfl, Nat.le_of_ble_eq_true rfl⟩) (fun r_232 hw => ?_)
        obtain ⟨h_233, -⟩ := hw
        refine lv_if_eq (tgt := 32) hx hb dX9_notesNow_18 (by decide) (fun c_234 => ?_) (fun c_234 => ?_)
        · have c_234i := i_eq (x := r_232.toInt) (y := 0) rfl rfl c_234
          refine lv_iconst (v := 0) hx hb dX9_notesNow_32 (by decide) ?_
          refine lv_ior hx hb dX9_notesNow_33 ?_
          refine lv_topi (fun x_235 ex_235 => ?_)
          refine lv_istore_n (lv' := [(1, .int x_235), (2, .int v_205), (0, .ref a0)]) hx hb dX9_notesNow_34 rfl hl (by decide) rfl (fun ls hl => ?_)
          obtain ⟨x_236, ex_236⟩ : ∃ y : Int32, y = v_205 + Int32.ofInt 1 := ⟨_, rfl⟩
          have hx_236 : x_236.toInt = (v_205.toInt + 1) := by rw [ex_236]; exact i_add rfl (show (Int32.ofInt 1).toInt = 1 from rfl) (by omega)
          refine lv_iinc (v := x_236) (lv' := [(2, .int x_236), (1, .int x_235), (0, .ref a0)]) hx hb dX9_notesNow_35 hl (k := 1) rfl (by rw [ex_236]) (by decide) rfl (fun ls hl => ?_)
          refine lv_goto (tgt := 4) hx hb dX9_notesNow_38 (by decide) ?_
          exact ih_230 x_236 x_235 (by rw [hx_236]; omega) (by omega) ls (lv_sub hl [0, 1, 2] rfl)
        · have c_234i := i_ne (x := r_232.toInt) (y := 0) rfl rfl c_234
          refine lv_iconst (v := 1) hx hb dX9_notesNow_21 (by decide) ?_
          refine lv_aload_n hx hb dX9_notesNow_22 rfl (lv_at hl 2 rfl) ?_
          refine lv_iload_n hx hb dX9_notesNow_23 rfl (lv_at hl 0 rfl) ?_
          refine lv_iconst (v := 0) hx hb dX9_notesNow_24 (by decide) ?_
          refine pci (va_runV (As := [.int v_205, .int 0]) (rest := [.int 1, .int v_206]) ⟨hx, hb, hml, hown, hts⟩ (w_fact l D K a0 v_205 0 a1 k_1 (.ref a2) k_3 (.int n) k_5 k_6 k_7 k_8 k_9 f s.heap.size) (cwV 2 hts gX9_notesNow_X9_fact rfl rfl rfl (by decide +kernel) ⟨Nat.le_of_ble_eq_true rfl, Nat.le_of_ble_eq_true rfl⟩) (mkV hK hN (hP.sub [0, 1] rfl) (hD.sub [0, 1] (by decide) rfl) (ci := 9) (q0 := 0) rfl rfl) rfl rfl hl.1 rfl (lv_room (Nat.le_of_ble_eq_true rfl)) dX9_notesNow_25 ⟨Nat.le_of_ble_eq_true rfl, Nat.le_of_ble_eq_true rfl⟩) (fun r_237 hw => ?_)
          refine lv_ishl hx hb dX9_notesNow_28 ?_
          refine lv_topi (fun x_238 ex_238 => ?_)
          refine lv_goto (tgt := 33) hx hb dX9_notesNow_29 (by decide) ?_
          refine lv_ior hx hb dX9_notesNow_33 ?_
          refine lv_topi (fun x_239 ex_239 => ?_)
          refine lv_istore_n (lv' := [(1, .int x_239), (2, .int v_205), (0, .ref a0)]) hx hb dX9_notesNow_34 rfl hl (by decide) rfl (fun ls hl => ?_)
          obtain ⟨x_240, ex_240⟩ : ∃ y : Int32, y = v_205 + Int32.ofInt 1 := ⟨_, rfl⟩
          have hx_240 : x_240.toInt = (v_205.toInt + 1) := by rw [ex_240]; exact i_add rfl (show (Int32.ofInt 1).toInt = 1 from rfl) (by omega)
          refine lv_iinc (v := x_240) (lv' := [(2, .int x_240), (1, .int x_239), (0, .ref a0)]) hx hb dX9_notesNow_35 hl (k := 1) rfl (by rw [ex_240]) (by decide) rfl (fun ls hl => ?_)
          refine lv_goto (tgt := 4) hx hb dX9_notesNow_38 (by decide) ?_
          exact ih_230 x_240 x_239 (by rw [hx_240]; omega) (by omega) ls (lv_sub hl [0, 1, 2] rfl)
  exact lp_229 ((9 - (0 : Int32).toInt : Int).toNat + 1) 0 0 (by decide) (Nat.lt_succ_self _) ls (lv_sub hl [0, 1, 2] rfl)
set_option maxHeartbeats 4000000 in
set_option maxRecDepth 100000 in
theorem w_thirdsNow (l : Launch) (D : va_G) (K : Nat → ClassId) (a0 : Nat) (a1 : Nat) (k_1 : Value) (a2 : Nat) (k_3 : Value) (n : Int32) (k_5 : Value) (k_6 : Value) (k_7 : Value) (k_8 : Value) (k_9 : Value) (f : Nat → Int32) (ft : Nat → Int32) (sz : Nat) (zn : 0 ≤ n.toInt ∧ n.toInt ≤ 8) : Met l yX9_thirdsNow wsX9_thirdsNow ({ frames := 3, cells := 0, slots := 0, locals := 66 }) (va_Pc [.ref a0] (Pre D K [(a0, .inr (9, [.ref a1, k_1, .ref a2, k_3, .int n, k_5, k_6, k_7, k_8, k_9])), (a1, .inl (K 0, 56, .inl f)), (a2, .inl (K 0, 6, .inl ft))] sz)) (vp_Si (fun r : Int32 => True)) 0 0 (fun _ => False) := by
  refine Met.ofW (cc := cX9_thirdsNow) (maxL := 5) (ret := (some .int)) (by decide) rfl ?_
  intro p e s m args below meth c s₁ B hml hv
  obtain ⟨rfl, hsz, hP, hK, hD0, hN⟩ := hv
  have hx := B.exec
  have hb := B.bytes
  have hr := B.returns
  have hts := atoms_spec (ws := wsX9_thirdsNow) B.pre
  have hown : s.vm.findClass RX9 = some m.cls := findClass_of_methodNamed B.named
  have hlocks := B.notSynchronized
  subst hsz
  have hD := hD0
  have hP : va_P D vwCl [(a0, .inr (9, [.ref a1, k_1, .ref a2, k_3, .int n, k_5, k_6, k_7, k_8, k_9])), (a1, .inl (K 0, 56, .inl f)), (a2, .inl (K 0, 6, .inl ft))] s.heap := hP
  have hl := lv_entry [.ref a0] (n := 5) (Nat.le_of_ble_eq_true rfl)
  rw [lg_entry_eq]
  generalize (lg_sl [.ref a0] ++ List.replicate (5 - (lg_sl [.ref a0]).length) Slot.unset).toArray = ls at hl ⊢
  have hl : lv_has ls 5 [(0, .ref a0)] := hl
  have hw9 : ∀ w ∈ wsX90, w ∈ wsX9_thirdsNow := fun w h => (List.mem_cons_of_mem _ (List.mem_append_right _ h))
  generalize hQ : MQ below _ _ s _ _ _ = Q
  refine lv_aload_n hx hb dX9_thirdsNow_0 rfl (lv_at hl 0 rfl) ?_
  refine pci (va_runV (As := []) (rest := []) ⟨hx, hb, hml, hown, hts⟩ (w_notesNow l D K a0 a1 k_1 a2 k_3 n k_5 k_6 k_7 k_8 k_9 f ft s.heap.size (by first | omega | decide)) (cwV 0 hts gX9_thirdsNow_X9_notesNow rfl rfl rfl (by decide +kernel) ⟨Nat.le_of_ble_eq_true rfl, Nat.le_of_ble_eq_true rfl⟩) (mkV hK hN (hP.sub [0, 1, 2] rfl) (hD.sub [0, 1, 2] (by decide) rfl) (ci := 9) (q0 := 0) rfl rfl) rfl rfl hl.1 rfl (lv_room (Nat.le_of_ble_eq_true rfl)) dX9_thirdsNow_1 ⟨Nat.le_of_ble_eq_true rfl, Nat.le_of_ble_eq_true rfl⟩) (fun r_283 hw => ?_)
  refine lv_istore_n (lv' := [(1, .int r_283), (0, .ref a0)]) hx hb dX9_thirdsNow_4 rfl hl (by decide) rfl (fun ls hl => ?_)
  refine lv_iconst (v := 0) hx hb dX9_thirdsNow_5 (by decide) ?_
  refine lv_istore_n (lv' := [(2, .int 0), (1, .int r_283), (0, .ref a0)]) hx hb dX9_thirdsNow_6 rfl hl (by decide) rfl (fun ls hl => ?_)
  refine lv_iconst (v := 0) hx hb dX9_thirdsNow_7 (by decide) ?_
  refine lv_istore_n (lv' := [(3, .int 0), (2, .int 0), (1, .int r_283), (0, .ref a0)]) hx hb dX9_thirdsNow_8 rfl hl (by decide) rfl (fun ls hl => ?_)
  have lp_406 : ∀ (nn_ : Nat) (v_370 : Int32) (v_371 : Int32) (hv_370 : 0 ≤ v_370.toInt ∧ v_370.toInt ≤ 7) (hn : (8 - v_370.toInt : Int).toNat < nn_) (ls : Array Slot) (hl : lv_has ls 5 [(3, .int v_370), (2, .int v_371), (1, .int r_283)]), W p l e ({ frames := 3, cells := 0, slots := 0, locals := 66 }) s m (([.ref a0] : List Value).toArray) below meth c s.heap [] 0 0 Q (F0 m 9 ls []) := by
    intro nn_
    induction nn_ with
    | zero =>
      intro v_370 v_371 hv_370 hn ls hl
      exact absurd hn (Nat.not_lt_zero _)
    | succ nn_ ih_407 =>
      intro v_370 v_371 hv_370 hn ls hl
      refine lv_iload_n hx hb dX9_thirdsNow_9 rfl (lv_at hl 0 rfl) ?_
      refine lv_bipush (v := 7) hx hb dX9_thirdsNow_10 (by decide) ?_
      refine lv_icmp_ge (tgt := 61) hx hb dX9_thirdsNow_12 (by decide) (fun c_408 => ?_) (fun c_408 => ?_)
      · have c_408i := i_le (x := 7) (y := v_370.toInt) rfl rfl c_408
        refine lv_iload_n hx hb dX9_thirdsNow_61 rfl (lv_at hl 1 rfl) ?_
        rw [← hQ]
        exact W.iret (v := v_371) hx hb hr (fun t ht hW => ⟨_, rfl, trivial, ht⟩) (fun q hq => by cases hq) dX9_thirdsNow_62
      · have c_408i := i_nle (x := 7) (y := v_370.toInt) rfl rfl c_408
        refine lv_iconst (v := 1) hx hb dX9_thirdsNow_15 (by decide) ?_
        refine lv_iload_n hx hb dX9_thirdsNow_16 rfl (lv_at hl 0 rfl) ?_
        refine lv_ishl hx hb dX9_thirdsNow_17 ?_
        refine lv_topi (fun x_409 ex_409 => ?_)
        have hx_409 : 1 ≤ x_409.toInt ∧ x_409.toInt ≤ 64 := by rw [ex_409]; exact i_shl1 rfl (n := 6) (by decide) (by omega)
        refine lv_iconst (v := 1) hx hb dX9_thirdsNow_18 (by decide) ?_
        refine lv_iload_n hx hb dX9_thirdsNow_19 rfl (lv_at hl 0 rfl) ?_
        refine lv_iconst (v := 2) hx hb dX9_thirdsNow_20 (by decide) ?_
        refine lv_iadd hx hb dX9_thirdsNow_21 ?_
        refine lv_topi (fun x_410 ex_410 => ?_)
        have hx_410 : x_410.toInt = (v_370.toInt + 2) := by rw [ex_410]; exact i_add rfl (show (2 : Int32).toInt = 2 from rfl) (by omega)
        refine lv_bipush (v := 7) hx hb dX9_thirdsNow_22 (by decide) ?_
        refine lv_irem hx hb dX9_thirdsNow_24 (by decide) ?_
        refine lv_topi (fun x_411 ex_411 => ?_)
        have hx_411 : x_411.toInt = ((v_370.toInt + 2) % 7) := by rw [ex_411]; exact i_rem hx_410 (show (7 : Int32).toInt = 7 from rfl) (by omega) (by omega)
        refine lv_ishl hx hb dX9_thirdsNow_25 ?_
        refine lv_topi (fun x_412 ex_412 => ?_)
        have hx_412 : 1 ≤ x_412.toInt ∧ x_412.toInt ≤ 64 := by rw [ex_412]; exact i_shl1 hx_411 (n := 6) (by decide) (by omega)
        refine lv_ior hx hb dX9_thirdsNow_26 ?_
        refine lv_topi (fun x_413 ex_413 => ?_)
        have hx_413 : 0 ≤ x_413.toInt ∧ x_413.toInt < 128 := by rw [ex_413]; exact i_or (k := 7) rfl rfl (by decide) (by omega) (by omega)
        refine lv_iconst (v := 1) hx hb dX9_thirdsNow_27 (by decide) ?_
        refine lv_iload_n hx hb dX9_thirdsNow_28 rfl (lv_at hl 0 rfl) ?_
        refine lv_iconst (v := 4) hx hb dX9_thirdsNow_29 (by decide) ?_
        refine lv_iadd hx hb dX9_thirdsNow_30 ?_
        refine lv_topi (fun x_414 ex_414 => ?_)
        have hx_414 : x_414.toInt = (v_370.toInt + 4) := by rw [ex_414]; exact i_add rfl (show (4 : Int32).toInt = 4 from rfl) (by omega)
        refine lv_bipush (v := 7) hx hb dX9_thirdsNow_31 (by decide) ?_
        refine lv_irem hx hb dX9_thirdsNow_33 (by decide) ?_
        refine lv_topi (fun x_415 ex_415 => ?_)
        have hx_415 : x_415.toInt = ((v_370.toInt + 4) % 7) := by rw [ex_415]; exact i_rem hx_414 (show (7 : Int32).toInt = 7 from rfl) (by omega) (by omega)
        refine lv_ishl hx hb dX9_thirdsNow_34 ?_
        refine lv_topi (fun x_416 ex_416 => ?_)
        have hx_416 : 1 ≤ x_416.toInt ∧ x_416.toInt ≤ 64 := by rw [ex_416]; exact i_shl1 hx_415 (n := 6) (by decide) (by omega)
        refine lv_ior hx hb dX9_thirdsNow_35 ?_
        refine lv_topi (fun x_417 ex_417 => ?_)
        have hx_417 : 0 ≤ x_417.toInt ∧ x_417.toInt < 128 := by rw [ex_417]; exact i_or (k := 7) rfl rfl (by decide) (by omega) (by omega)
        refine lv_istore (lv' := [(4, .int x_417), (3, .int v_370), (2, .int v_371), (1, .int r_283)]) hx hb dX9_thirdsNow_36 hl (by decide) rfl (fun ls hl => ?_)
        refine lv_iload_n hx hb dX9_thirdsNow_38 rfl (lv_at hl 2 rfl) ?_
        refine lv_iload_n hx hb dX9_thirdsNow_39 rfl (lv_at hl 3 rfl) ?_
        refine lv_iload hx hb dX9_thirdsNow_40 (lv_at hl 0 rfl) ?_
        refine lv_iand hx hb dX9_thirdsNow_42 ?_
        refine lv_topi (fun x_418 ex_418 => ?_)
        have hx_418 : 0 ≤ x_418.toInt ∧ x_418.toInt ≤ x_417.toInt := by rw [ex_418]; exact i_andr rfl (by omega)
        refine lv_iload hx hb dX9_thirdsNow_43 (lv_at hl 0 rfl) ?_
        refine lv_icmp_ne (tgt := 52) hx hb dX9_thirdsNow_45 (by decide) (fun c_419 => ?_) (fun c_419 => ?_)
        · have c_419i := i_ne (x := x_418.toInt) (y := x_417.toInt) rfl rfl c_419
          refine lv_iconst (v := 0) hx hb dX9_thirdsNow_52 (by decide) ?_
          refine lv_iadd hx hb dX9_thirdsNow_53 ?_
          refine lv_topi (fun x_420 ex_420 => ?_)
          have hx_420 : x_420.toInt = (v_371.toInt + 0) := by rw [ex_420]; exact i_add rfl (show (0 : Int32).toInt = 0 from rfl) (by have q1 := i_rng (a := v_371) rfl; omega)
          refine lv_istore_n (lv' := [(2, .int x_420), (4, .int x_417), (3, .int v_370), (1, .int r_283)]) hx hb dX9_thirdsNow_54 rfl hl (by decide) rfl (fun ls hl => ?_)
          obtain ⟨x_421, ex_421⟩ : ∃ y : Int32, y = v_370 + Int32.ofInt 1 := ⟨_, rfl⟩
          have hx_421 : x_421.toInt = (v_370.toInt + 1) := by rw [ex_421]; exact i_add rfl (show (Int32.ofInt 1).toInt = 1 from rfl) (by omega)
          refine lv_iinc (v := x_421) (lv' := [(3, .int x_421), (2, .int x_420), (4, .int x_417), (1, .int r_283)]) hx hb dX9_thirdsNow_55 hl (k := 2) rfl (by rw [ex_421]) (by decide) rfl (fun ls hl => ?_)
          refine lv_goto (tgt := 9) hx hb dX9_thirdsNow_58 (by decide) ?_
          exact ih_407 x_421 x_420 (by rw [hx_421]; omega) (by omega) ls (lv_sub hl [0, 1, 3] rfl)
        · have c_419i := i_eq (x := x_418.toInt) (y := x_417.toInt) rfl rfl c_419
          refine lv_iconst (v := 1) hx hb dX9_thirdsNow_48 (by decide) ?_
          refine lv_goto (tgt := 53) hx hb dX9_thirdsNow_49 (by decide) ?_
          refine lv_iadd hx hb dX9_thirdsNow_53 ?_
          refine lv_topi (fun x_422 ex_422 => ?_)
          refine lv_istore_n (lv' := [(2, .int x_422), (4, .int x_417), (3, .int v_370), (1, .int r_283)]) hx hb dX9_thirdsNow_54 rfl hl (by decide) rfl (fun ls hl => ?_)
          obtain ⟨x_423, ex_423⟩ : ∃ y : Int32, y = v_370 + Int32.ofInt 1 := ⟨_, rfl⟩
          have hx_423 : x_423.toInt = (v_370.toInt + 1) := by rw [ex_423]; exact i_add rfl (show (Int32.ofInt 1).toInt = 1 from rfl) (by omega)
          refine lv_iinc (v := x_423) (lv' := [(3, .int x_423), (2, .int x_422), (4, .int x_417), (1, .int r_283)]) hx hb dX9_thirdsNow_55 hl (k := 2) rfl (by rw [ex_423]) (by decide) rfl (fun ls hl => ?_)
          refine lv_goto (tgt := 9) hx hb dX9_thirdsNow_58 (by decide) ?_
          exact ih_407 x_423 x_422 (by rw [hx_423]; omega) (by omega) ls (lv_sub hl [0, 1, 3] rfl)
  exact lp_406 ((8 - (0 : Int32).toInt : Int).toNat + 1) 0 0 (by decide) (Nat.lt_succ_self _) ls (lv_sub hl [0, 1, 2] rfl)
set_option maxHeartbeats 4000000 in
set_option maxRecDepth 100000 in
theorem w_chordAt (l : Launch) (D : va_G) (K : Nat → ClassId) (a0 : Nat) (x : Int32) (k_0 : Value) (a2 : Nat) (k_2 : Value) (k_3 : Value) (k_4 : Value) (k_5 : Value) (k_6 : Value) (k_7 : Value) (k_8 : Value) (k_9 : Value) (fc : Nat → Int32) (sz : Nat) : Met l yX9_chordAt wsX9_chordAt ({ frames := 0, cells := 0, slots := 0, locals := 0 }) (va_Pc [.ref a0, .int x] (Pre D K [(a0, .inr (9, [k_0, .ref a2, k_2, k_3, k_4, k_5, k_6, k_7, k_8, k_9])), (a2, .inl (K 0, 24, .inl fc))] sz)) (vp_Si (fun r : Int32 => True)) 0 0 (fun _ => False) := by
  refine Met.ofW (cc := cX9_chordAt) (maxL := 2) (ret := (some .int)) (by decide) rfl ?_
  intro p e s m args below meth c s₁ B hml hv
  obtain ⟨rfl, hsz, hP, hK, hD0, hN⟩ := hv
  have hx := B.exec
  have hb := B.bytes
  have hr := B.returns
  have hts := atoms_spec (ws := wsX9_chordAt) B.pre
  have hown : s.vm.findClass RX9 = some m.cls := findClass_of_methodNamed B.named
  have hlocks := B.notSynchronized
  subst hsz
  have hD := hD0
  have hP : va_P D vwCl [(a0, .inr (9, [k_0, .ref a2, k_2, k_3, k_4, k_5, k_6, k_7, k_8, k_9])), (a2, .inl (K 0, 24, .inl fc))] s.heap := hP
  have hl := lv_entry [.ref a0, .int x] (n := 2) (Nat.le_of_ble_eq_true rfl)
  rw [lg_entry_eq]
  generalize (lg_sl [.ref a0, .int x] ++ List.replicate (2 - (lg_sl [.ref a0, .int x]).length) Slot.unset).toArray = ls at hl ⊢
  have hl : lv_has ls 2 [(0, .ref a0), (1, .int x)] := hl
  have hw9 : ∀ w ∈ wsX90, w ∈ wsX9_chordAt := fun w h => (List.mem_cons_of_mem _ (List.mem_append_right _ h))
  generalize hQ : MQ below _ _ s _ _ _ = Q
  refine lv_iload_n hx hb dX9_chordAt_0 rfl (lv_at hl 1 rfl) ?_
  have j_11 : ∀ (ls : Array Slot) (hl : lv_has ls 2 []), W p l e ({ frames := 0, cells := 0, slots := 0, locals := 0 }) s m (([.ref a0, .int x] : List Value).toArray) below meth c s.heap [] 0 0 Q (F0 m 19 ls []) := by
    intro ls hl
    refine lv_iconst (v := (-1)) hx hb dX9_chordAt_19 (by decide) ?_
    rw [← hQ]
    exact W.iret (v := (-1)) hx hb hr (fun t ht hW => ⟨_, rfl, trivial, ht⟩) (fun q hq => by cases hq) dX9_chordAt_20
  refine lv_if_lt (tgt := 19) hx hb dX9_chordAt_1 (by decide) (fun c_12 => ?_) (fun c_12 => ?_)
  · have c_12i := i_lt (x := x.toInt) (y := 0) rfl rfl c_12
    exact j_11   ls (lv_sub hl [] rfl)
  · have c_12i := i_nlt (x := x.toInt) (y := 0) rfl rfl c_12
    refine lv_iload_n hx hb dX9_chordAt_4 rfl (lv_at hl 1 rfl) ?_
    refine lv_bipush (v := 24) hx hb dX9_chordAt_5 (by decide) ?_
    refine lv_icmp_ge (tgt := 19) hx hb dX9_chordAt_7 (by decide) (fun c_13 => ?_) (fun c_13 => ?_)
    · have c_13i := i_le (x := 24) (y := x.toInt) rfl rfl c_13
      exact j_11   ls (lv_sub hl [] rfl)
    · have c_13i := i_nle (x := 24) (y := x.toInt) rfl rfl c_13
      refine lv_aload_n hx hb dX9_chordAt_10 rfl (lv_at hl 0 rfl) ?_
      refine va_get (ci := 9) (v := .ref a2) (C := RX9) (T := TX9) (N := 10) hx hb hts hw9 hown hK hP 0 rfl rfl 1 (by decide) (hts (.fieldLink RX9 15 "SmokeTune$Town" "chords" "[I") (List.mem_cons_of_mem _ (List.mem_append_left _ (List.mem_of_getElem? (i := 0) rfl)))) (fun _ h9 => h9) rfl dX9_chordAt_11 ?_
      refine lv_iload_n hx hb dX9_chordAt_14 rfl (lv_at hl 1 rfl) ?_
      refine va_iald hx hb hK hP 1 0 rfl rfl (i_in rfl (by omega)) dX9_chordAt_15 ?_
      refine lv_topi (fun x_14 ex_14 => ?_)
      refine lv_goto (tgt := 20) hx hb dX9_chordAt_16 (by decide) ?_
      rw [← hQ]
      exact W.iret (v := x_14) hx hb hr (fun t ht hW => ⟨_, rfl, trivial, ht⟩) (fun q hq => by cases hq) dX9_chordAt_20
set_option maxHeartbeats 4000000 in
set_option maxRecDepth 100000 in
theorem w_meetsChord (l : Launch) (D : va_G) (K : Nat → ClassId) (a0 : Nat) (a1 : Nat) (a3 : Nat) (a2 : Nat) (k_3 : Value) (n : Int32) (k_5 : Value) (k_6 : Value) (k_7 : Value) (k_8 : Value) (k_9 : Value) (f : Nat → Int32) (ft : Nat → Int32) (fc : Nat → Int32) (sz : Nat) (zn : 0 ≤ n.toInt ∧ n.toInt ≤ 8) : Met l yX9_meetsChord wsX9_meetsChord ({ frames := 3, cells := 0, slots := 0, locals := 66 }) (va_Pc [.ref a0] (Pre D K [(a0, .inr (9, [.ref a1, .ref a3, .ref a2, k_3, .int n, k_5, k_6, k_7, k_8, k_9])), (a1, .inl (K 0, 56, .inl f)), (a2, .inl (K 0, 6, .inl ft)), (a3, .inl (K 0, 24, .inl fc))] sz)) (vp_Si (fun r : Int32 => (0 ≤ r.toInt ∧ r.toInt ≤ 1) ∧ True)) 0 0 (fun _ => False) := by
  refine Met.ofW (cc := cX9_meetsChord) (maxL := 2) (ret := (some .boolean)) (by decide) rfl ?_
  intro p e s m args below meth c s₁ B hml hv
  obtain ⟨rfl, hsz, hP, hK, hD0, hN⟩ := hv
  have hx := B.exec
  have hb := B.bytes
  have hr := B.returns
  have hts := atoms_spec (ws := wsX9_meetsChord) B.pre
  have hown : s.vm.findClass RX9 = some m.cls := findClass_of_methodNamed B.named
  have hlocks := B.notSynchronized
  subst hsz
  have hD := hD0
  have hP : va_P D vwCl [(a0, .inr (9, [.ref a1, .ref a3, .ref a2, k_3, .int n, k_5, k_6, k_7, k_8, k_9])), (a1, .inl (K 0, 56, .inl f)), (a2, .inl (K 0, 6, .inl ft)), (a3, .inl (K 0, 24, .inl fc))] s.heap := hP
  have hl := lv_entry [.ref a0] (n := 2) (Nat.le_of_ble_eq_true rfl)
  rw [lg_entry_eq]
  generalize (lg_sl [.ref a0] ++ List.replicate (2 - (lg_sl [.ref a0]).length) Slot.unset).toArray = ls at hl ⊢
  have hl : lv_has ls 2 [(0, .ref a0)] := hl
  have hw9 : ∀ w ∈ wsX90, w ∈ wsX9_meetsChord := fun w h => (List.mem_cons_of_mem _ (List.mem_append_right _ h))
  generalize hQ : MQ below _ _ s _ _ _ = Q
  refine lv_aload_n hx hb dX9_meetsChord_0 rfl (lv_at hl 0 rfl) ?_
  refine lv_aload_n hx hb dX9_meetsChord_1 rfl (lv_at hl 0 rfl) ?_
  refine va_get (ci := 9) (v := .ref a2) (C := RX9) (T := TX9) (N := 10) hx hb hts hw9 hown hK hP 0 rfl rfl 2 (by decide) (hts (.fieldLink RX9 18 "SmokeTune$Town" "terms" "[I") (List.mem_cons_of_mem _ (List.mem_append_left _ (List.mem_append_left _ (List.mem_of_getElem? (i := 0) rfl))))) (fun _ h9 => h9) rfl dX9_meetsChord_2 ?_
  refine lv_iconst (v := 0) hx hb dX9_meetsChord_5 (by decide) ?_
  refine va_iald hx hb hK hP 2 0 rfl rfl (i_in (x := 0) rfl (by omega)) dX9_meetsChord_6 ?_
  refine lv_topi (fun x_11 ex_11 => ?_)
  refine pci (va_runV (As := [.int x_11]) (rest := []) ⟨hx, hb, hml, hown, hts⟩ (w_chordAt l D K a0 x_11 (.ref a1) a3 (.ref a2) k_3 (.int n) k_5 k_6 k_7 k_8 k_9 fc s.heap.size) (cwV 1 hts gX9_meetsChord_X9_chordAt rfl rfl rfl (by decide +kernel) ⟨Nat.le_of_ble_eq_true rfl, Nat.le_of_ble_eq_true rfl⟩) (mkV hK hN (hP.sub [0, 3] rfl) (hD.sub [0, 3] (by decide) rfl) (ci := 9) (q0 := 0) rfl rfl) rfl rfl hl.1 rfl (lv_room (Nat.le_of_ble_eq_true rfl)) dX9_meetsChord_7 ⟨Nat.le_of_ble_eq_true rfl, Nat.le_of_ble_eq_true rfl⟩) (fun r_12 hw => ?_)
  refine lv_istore_n (lv' := [(1, .int r_12), (0, .ref a0)]) hx hb dX9_meetsChord_10 rfl hl (by decide) rfl (fun ls hl => ?_)
  refine lv_aload_n hx hb dX9_meetsChord_11 rfl (lv_at hl 1 rfl) ?_
  refine pci (va_runV (As := []) (rest := []) ⟨hx, hb, hml, hown, hts⟩ (w_notesNow l D K a0 a1 (.ref a3) a2 k_3 n k_5 k_6 k_7 k_8 k_9 f ft s.heap.size (by first | omega | decide)) (cwV 0 hts gX9_meetsChord_X9_notesNow rfl rfl rfl (by decide +kernel) ⟨Nat.le_of_ble_eq_true rfl, Nat.le_of_ble_eq_true rfl⟩) (mkV hK hN (hP.sub [0, 1, 2] rfl) (hD.sub [0, 1, 2] (by decide) rfl) (ci := 9) (q0 := 0) rfl rfl) rfl rfl hl.1 rfl (lv_room (Nat.le_of_ble_eq_true rfl)) dX9_meetsChord_12 ⟨Nat.le_of_ble_eq_true rfl, Nat.le_of_ble_eq_true rfl⟩) (fun r_13 hw => ?_)
  refine lv_iload_n hx hb dX9_meetsChord_15 rfl (lv_at hl 0 rfl) ?_
  refine lv_iand hx hb dX9_meetsChord_16 ?_
  refine lv_topi (fun x_14 ex_14 => ?_)
  refine lv_iload_n hx hb dX9_meetsChord_17 rfl (lv_at hl 0 rfl) ?_
  refine lv_icmp_ne (tgt := 25) hx hb dX9_meetsChord_18 (by decide) (fun c_15 => ?_) (fun c_15 => ?_)
  · have c_15i := i_ne (x := x_14.toInt) (y := r_12.toInt) rfl rfl c_15
    refine lv_iconst (v := 0) hx hb dX9_meetsChord_25 (by decide) ?_
    rw [← hQ]
    exact W.zret (v := 0) hx hb hr (by decide) (fun t ht hW => ⟨_, rfl, ⟨(show 0 ≤ (0 : Int32).toInt ∧ (0 : Int32).toInt ≤ 1 by decide), trivial⟩, ht⟩) (fun q hq => by cases hq) dX9_meetsChord_26
  · have c_15i := i_eq (x := x_14.toInt) (y := r_12.toInt) rfl rfl c_15
    refine lv_iconst (v := 1) hx hb dX9_meetsChord_21 (by decide) ?_
    refine lv_goto (tgt := 26) hx hb dX9_meetsChord_22 (by decide) ?_
    rw [← hQ]
    exact W.zret (v := 1) hx hb hr (by decide) (fun t ht hW => ⟨_, rfl, ⟨(show 0 ≤ (1 : Int32).toInt ∧ (1 : Int32).toInt ≤ 1 by decide), trivial⟩, ht⟩) (fun q hq => by cases hq) dX9_meetsChord_26
