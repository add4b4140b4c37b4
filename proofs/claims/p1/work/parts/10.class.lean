theorem dfv_X0 : ∀ j, j < 2 → defaultValue (tyX0 j) = vp_V [.null, .null] j := by decide +kernel
theorem dfv_X1 : ∀ j, j < 8 → defaultValue (tyX1 j) = vp_V [.null, .null, .null, .null, .null, .int 0, .int 0, .int 0] j := by decide +kernel
theorem dfv_X2 : ∀ j, j < 3 → defaultValue (tyX2 j) = vp_V [.null, .int 0, .int 0] j := by decide +kernel
theorem dfv_X3 : ∀ j, j < 2 → defaultValue (tyX3 j) = vp_V [.null, .int 0] j := by decide +kernel
theorem dfv_X4 : ∀ j, j < 5 → defaultValue (tyX4 j) = vp_V [.null, .null, .null, .null, .null] j := by decide +kernel
theorem dfv_X5 : ∀ j, j < 6 → defaultValue (tyX5 j) = vp_V [.null, .null, .null, .null, .null, .null] j := by decide +kernel
theorem dfv_X6 : ∀ j, j < 5 → defaultValue (tyX6 j) = vp_V [.null, .null, .int 0, .int 0, .int 0] j := by decide +kernel
theorem dfv_X7 : ∀ j, j < 4 → defaultValue (tyX7 j) = vp_V [.null, .null, .int 0, .int 0] j := by decide +kernel
theorem dfv_X8 : ∀ j, j < 6 → defaultValue (tyX8 j) = vp_V [.null, .int 0, .int 0, .int 0, .int 0, .int 0] j := by decide +kernel
theorem dfv_X9 : ∀ j, j < 10 → defaultValue (tyX9 j) = vp_V [.null, .null, .null, .null, .int 0, .int 0, .int 0, .int 0, .int 0, .int 0] j := by decide +kernel
theorem dfv_X10 : ∀ j, j < 1 → defaultValue (tyX10 j) = vp_V [.null] j := by decide +kernel
theorem dfv_X11 : ∀ j, j < 17 → defaultValue (tyX11 j) = vp_V [.null, .null, .null, .null, .null, .null, .null, .null, .null, .null, .null, .null, .null, .int 0, .int 0, .int 0, .int 0] j := by decide +kernel
theorem dfv_X12 : ∀ j, j < 60 → defaultValue (tyX12 j) = vp_V [.int 0, .int 0, .null, .null, .null, .null, .null, .null, .int 0, .null, .null, .int 0, .null, .int 0, .int 0, .int 0, .int 0, .long 0, .int 0, .int 0, .int 0, .int 0, .null, .int 0, .null, .null, .int 0, .null, .null, .int 0, .int 0, .null, .null, .null, .int 0, .null, .null, .null, .int 0, .long 0, .long 0, .null, .null, .null, .null, .null, .null, .null, .null, .null, .null, .null, .int 0, .int 0, .int 0, .int 0, .long 0, .null, .int 0, .int 0] j := by decide +kernel
def tm0 : Nat → Int32 := upd (upd (upd (upd (upd (upd (fun _ => 0) 0 0) 1 0) 2 3) 3 12) 4 3) 5 0
def row0 : Nat → Int32 := upd (upd (upd (upd (fun _ => 0) 3 (-1)) 6 3) 7 12) 8 3
theorem dX11_within_0 : decode cX11_within 0 = .ok (.iload_n 0, 1) := by decide +kernel
theorem dX11_within_1 : decode cX11_within 1 = .ok (.iload_n 1, 1) := by decide +kernel
theorem dX11_within_2 : decode cX11_within 2 = .ok (.if_icmp .lt 12, 3) := by decide +kernel
theorem dX11_within_14 : decode cX11_within 14 = .ok (.iconst 0, 1) := by decide +kernel
theorem dX11_within_15 : decode cX11_within 15 = .ok (.ireturn, 1) := by decide +kernel
theorem dX11_within_5 : decode cX11_within 5 = .ok (.iload_n 0, 1) := by decide +kernel
theorem dX11_within_6 : decode cX11_within 6 = .ok (.iload_n 2, 1) := by decide +kernel
theorem dX11_within_7 : decode cX11_within 7 = .ok (.if_icmp .gt 7, 3) := by decide +kernel
theorem dX11_within_10 : decode cX11_within 10 = .ok (.iconst 1, 1) := by decide +kernel
theorem dX11_within_11 : decode cX11_within 11 = .ok (.goto 4, 3) := by decide +kernel
theorem dX9_has_0 : decode cX9_has 0 = .ok (.iload_n 1, 1) := by decide +kernel
theorem dX9_has_1 : decode cX9_has 1 = .ok (.ifCond .lt 15, 3) := by decide +kernel
theorem dX9_has_16 : decode cX9_has 16 = .ok (.iconst 0, 1) := by decide +kernel
theorem dX9_has_17 : decode cX9_has 17 = .ok (.ireturn, 1) := by decide +kernel
theorem dX9_has_4 : decode cX9_has 4 = .ok (.iload_n 1, 1) := by decide +kernel
theorem dX9_has_5 : decode cX9_has 5 = .ok (.aload_n 0, 1) := by decide +kernel
theorem dX9_has_6 : decode cX9_has 6 = .ok (.getfield 27, 3) := by decide +kernel
theorem dX9_has_9 : decode cX9_has 9 = .ok (.if_icmp .ge 7, 3) := by decide +kernel
theorem dX11_accept_0 : decode cX11_accept 0 = .ok (.aload_n 0, 1) := by decide +kernel
theorem dX11_accept_1 : decode cX11_accept 1 = .ok (.iconst 0, 1) := by decide +kernel
theorem dX11_accept_2 : decode cX11_accept 2 = .ok (.putfield 83, 3) := by decide +kernel
theorem dX11_accept_5 : decode cX11_accept 5 = .ok (.iload_n 1, 1) := by decide +kernel
theorem dX11_accept_6 : decode cX11_accept 6 = .ok (.ireturn, 1) := by decide +kernel
theorem dX11_refuse_0 : decode cX11_refuse 0 = .ok (.iload_n 1, 1) := by decide +kernel
theorem dX11_refuse_1 : decode cX11_refuse 1 = .ok (.bipush (-4), 2) := by decide +kernel
theorem dX11_refuse_3 : decode cX11_refuse 3 = .ok (.if_icmp .le 10, 3) := by decide +kernel
theorem dX11_refuse_6 : decode cX11_refuse 6 = .ok (.iload_n 1, 1) := by decide +kernel
theorem dX11_refuse_7 : decode cX11_refuse 7 = .ok (.ineg, 1) := by decide +kernel
theorem dX11_refuse_8 : decode cX11_refuse 8 = .ok (.iconst 1, 1) := by decide +kernel
theorem dX11_refuse_9 : decode cX11_refuse 9 = .ok (.isub, 1) := by decide +kernel
theorem dX11_refuse_10 : decode cX11_refuse 10 = .ok (.goto 7, 3) := by decide +kernel
theorem dX11_refuse_17 : decode cX11_refuse 17 = .ok (.istore_n 2, 1) := by decide +kernel
theorem dX11_refuse_18 : decode cX11_refuse 18 = .ok (.iload_n 2, 1) := by decide +kernel
theorem dX11_refuse_19 : decode cX11_refuse 19 = .ok (.iconst 0, 1) := by decide +kernel
theorem dX11_refuse_20 : decode cX11_refuse 20 = .ok (.aload_n 0, 1) := by decide +kernel
theorem dX11_refuse_21 : decode cX11_refuse 21 = .ok (.getfield 79, 3) := by decide +kernel
theorem dX11_refuse_24 : decode cX11_refuse 24 = .ok (.arraylength, 1) := by decide +kernel
theorem dX11_refuse_25 : decode cX11_refuse 25 = .ok (.iconst 1, 1) := by decide +kernel
theorem dX11_refuse_26 : decode cX11_refuse 26 = .ok (.isub, 1) := by decide +kernel
theorem dX11_refuse_27 : decode cX11_refuse 27 = .ok (.invokestatic 97, 3) := by decide +kernel
theorem dX11_refuse_30 : decode cX11_refuse 30 = .ok (.ifCond .eq 13, 3) := by decide +kernel
theorem dX11_refuse_33 : decode cX11_refuse 33 = .ok (.aload_n 0, 1) := by decide +kernel
theorem dX11_refuse_34 : decode cX11_refuse 34 = .ok (.getfield 79, 3) := by decide +kernel
theorem dX11_refuse_37 : decode cX11_refuse 37 = .ok (.iload_n 2, 1) := by decide +kernel
theorem dX11_refuse_38 : decode cX11_refuse 38 = .ok (.dup2, 1) := by decide +kernel
theorem dX11_refuse_39 : decode cX11_refuse 39 = .ok (.iaload, 1) := by decide +kernel
theorem dX11_refuse_40 : decode cX11_refuse 40 = .ok (.iconst 1, 1) := by decide +kernel
theorem dX11_refuse_41 : decode cX11_refuse 41 = .ok (.iadd, 1) := by decide +kernel
theorem dX11_refuse_42 : decode cX11_refuse 42 = .ok (.iastore, 1) := by decide +kernel
theorem dX11_refuse_43 : decode cX11_refuse 43 = .ok (.aload_n 0, 1) := by decide +kernel
theorem dX11_refuse_44 : decode cX11_refuse 44 = .ok (.iload_n 1, 1) := by decide +kernel
theorem dX11_refuse_45 : decode cX11_refuse 45 = .ok (.putfield 83, 3) := by decide +kernel
theorem dX11_refuse_48 : decode cX11_refuse 48 = .ok (.iload_n 1, 1) := by decide +kernel
theorem dX11_refuse_49 : decode cX11_refuse 49 = .ok (.ireturn, 1) := by decide +kernel
theorem dX11_refuse_13 : decode cX11_refuse 13 = .ok (.iload_n 1, 1) := by decide +kernel
theorem dX11_refuse_14 : decode cX11_refuse 14 = .ok (.ineg, 1) := by decide +kernel
theorem dX11_refuse_15 : decode cX11_refuse 15 = .ok (.iconst 2, 1) := by decide +kernel
theorem dX11_refuse_16 : decode cX11_refuse 16 = .ok (.isub, 1) := by decide +kernel
theorem dX11_status_0 : decode cX11_status 0 = .ok (.aload_n 0, 1) := by decide +kernel
theorem dX11_status_1 : decode cX11_status 1 = .ok (.getfield 83, 3) := by decide +kernel
theorem dX11_status_4 : decode cX11_status 4 = .ok (.ireturn, 1) := by decide +kernel
theorem dX11_ash_0 : decode cX11_ash 0 = .ok (.aload_n 0, 1) := by decide +kernel
theorem dX11_ash_1 : decode cX11_ash 1 = .ok (.getfield 87, 3) := by decide +kernel
theorem dX11_ash_4 : decode cX11_ash 4 = .ok (.ireturn, 1) := by decide +kernel
theorem dX11_hear_0 : decode cX11_hear 0 = .ok (.iload_n 1, 1) := by decide +kernel
theorem dX11_hear_1 : decode cX11_hear 1 = .ok (.iconst 0, 1) := by decide +kernel
theorem dX11_hear_2 : decode cX11_hear 2 = .ok (.bipush 127, 2) := by decide +kernel
theorem dX11_hear_4 : decode cX11_hear 4 = .ok (.invokestatic 97, 3) := by decide +kernel
theorem dX11_hear_7 : decode cX11_hear 7 = .ok (.ifCond .ne 9, 3) := by decide +kernel
theorem dX11_hear_16 : decode cX11_hear 16 = .ok (.aload_n 0, 1) := by decide +kernel
theorem dX11_hear_17 : decode cX11_hear 17 = .ok (.getfield 10, 3) := by decide +kernel
theorem dX11_hear_20 : decode cX11_hear 20 = .ok (.getfield 258, 3) := by decide +kernel
theorem dX11_hear_23 : decode cX11_hear 23 = .ok (.bipush 6, 2) := by decide +kernel
theorem dX11_hear_25 : decode cX11_hear 25 = .ok (.if_icmp .lt 10, 3) := by decide +kernel
theorem dX11_hear_35 : decode cX11_hear 35 = .ok (.aload_n 0, 1) := by decide +kernel
theorem dX11_hear_36 : decode cX11_hear 36 = .ok (.getfield 10, 3) := by decide +kernel
theorem dX11_hear_39 : decode cX11_hear 39 = .ok (.dup, 1) := by decide +kernel
theorem dX11_hear_40 : decode cX11_hear 40 = .ok (.getfield 261, 3) := by decide +kernel
theorem dX11_hear_43 : decode cX11_hear 43 = .ok (.iload_n 1, 1) := by decide +kernel
theorem dX11_hear_44 : decode cX11_hear 44 = .ok (.ior, 1) := by decide +kernel
theorem dX11_hear_45 : decode cX11_hear 45 = .ok (.putfield 261, 3) := by decide +kernel
theorem dX11_hear_48 : decode cX11_hear 48 = .ok (.aload_n 0, 1) := by decide +kernel
theorem dX11_hear_49 : decode cX11_hear 49 = .ok (.getfield 10, 3) := by decide +kernel
theorem dX11_hear_52 : decode cX11_hear 52 = .ok (.dup, 1) := by decide +kernel
theorem dX11_hear_53 : decode cX11_hear 53 = .ok (.getfield 258, 3) := by decide +kernel
theorem dX11_hear_56 : decode cX11_hear 56 = .ok (.iconst 1, 1) := by decide +kernel
theorem dX11_hear_57 : decode cX11_hear 57 = .ok (.iadd, 1) := by decide +kernel
theorem dX11_hear_58 : decode cX11_hear 58 = .ok (.putfield 258, 3) := by decide +kernel
theorem dX11_hear_61 : decode cX11_hear 61 = .ok (.aload_n 0, 1) := by decide +kernel
theorem dX11_hear_62 : decode cX11_hear 62 = .ok (.aload_n 0, 1) := by decide +kernel
theorem dX11_hear_63 : decode cX11_hear 63 = .ok (.getfield 10, 3) := by decide +kernel
theorem dX11_hear_66 : decode cX11_hear 66 = .ok (.getfield 258, 3) := by decide +kernel
theorem dX11_hear_69 : decode cX11_hear 69 = .ok (.invokevirtual 118, 3) := by decide +kernel
theorem dX11_hear_72 : decode cX11_hear 72 = .ok (.ireturn, 1) := by decide +kernel
theorem dX11_hear_10 : decode cX11_hear 10 = .ok (.aload_n 0, 1) := by decide +kernel
theorem dX11_hear_11 : decode cX11_hear 11 = .ok (.iconst (-1), 1) := by decide +kernel
theorem dX11_hear_12 : decode cX11_hear 12 = .ok (.invokevirtual 101, 3) := by decide +kernel
theorem dX11_hear_15 : decode cX11_hear 15 = .ok (.ireturn, 1) := by decide +kernel
theorem dX11_forget_0 : decode cX11_forget 0 = .ok (.aload_n 0, 1) := by decide +kernel
theorem dX11_forget_1 : decode cX11_forget 1 = .ok (.getfield 10, 3) := by decide +kernel
theorem dX11_forget_4 : decode cX11_forget 4 = .ok (.getfield 258, 3) := by decide +kernel
theorem dX11_forget_7 : decode cX11_forget 7 = .ok (.istore_n 1, 1) := by decide +kernel
theorem dX11_forget_8 : decode cX11_forget 8 = .ok (.aload_n 0, 1) := by decide +kernel
theorem dX11_forget_9 : decode cX11_forget 9 = .ok (.getfield 10, 3) := by decide +kernel
theorem dX11_forget_12 : decode cX11_forget 12 = .ok (.iconst 0, 1) := by decide +kernel
theorem dX11_forget_13 : decode cX11_forget 13 = .ok (.putfield 258, 3) := by decide +kernel
theorem dX11_forget_16 : decode cX11_forget 16 = .ok (.aload_n 0, 1) := by decide +kernel
theorem dX11_forget_17 : decode cX11_forget 17 = .ok (.getfield 10, 3) := by decide +kernel
theorem dX11_forget_20 : decode cX11_forget 20 = .ok (.iconst 0, 1) := by decide +kernel
theorem dX11_forget_21 : decode cX11_forget 21 = .ok (.putfield 261, 3) := by decide +kernel
theorem dX11_forget_24 : decode cX11_forget 24 = .ok (.iload_n 1, 1) := by decide +kernel
theorem dX11_forget_25 : decode cX11_forget 25 = .ok (.ireturn, 1) := by decide +kernel
theorem dX11_fault_0 : decode cX11_fault 0 = .ok (.aload_n 0, 1) := by decide +kernel
theorem dX11_fault_1 : decode cX11_fault 1 = .ok (.getfield 30, 3) := by decide +kernel
theorem dX11_fault_4 : decode cX11_fault 4 = .ok (.getfield 200, 3) := by decide +kernel
theorem dX11_fault_7 : decode cX11_fault 7 = .ok (.ireturn, 1) := by decide +kernel
theorem dX11_stopped_0 : decode cX11_stopped 0 = .ok (.aload_n 0, 1) := by decide +kernel
theorem dX11_stopped_1 : decode cX11_stopped 1 = .ok (.getfield 42, 3) := by decide +kernel
theorem dX11_stopped_4 : decode cX11_stopped 4 = .ok (.getfield 193, 3) := by decide +kernel
theorem dX11_stopped_7 : decode cX11_stopped 7 = .ok (.ireturn, 1) := by decide +kernel
theorem dX11_of_0 : decode cX11_of 0 = .ok (.aload_n 0, 1) := by decide +kernel
theorem dX11_of_1 : decode cX11_of 1 = .ok (.getfield 10, 3) := by decide +kernel
theorem dX11_of_4 : decode cX11_of 4 = .ok (.iload_n 1, 1) := by decide +kernel
theorem dX11_of_5 : decode cX11_of 5 = .ok (.invokevirtual 121, 3) := by decide +kernel
theorem dX11_of_8 : decode cX11_of 8 = .ok (.ifCond .ne 5, 3) := by decide +kernel
theorem dX11_of_11 : decode cX11_of 11 = .ok (.iconst (-1), 1) := by decide +kernel
theorem dX11_of_12 : decode cX11_of 12 = .ok (.ireturn, 1) := by decide +kernel
theorem dX11_least_0 : decode cX11_least 0 = .ok (.aload_n 0, 1) := by decide +kernel
theorem dX11_least_1 : decode cX11_least 1 = .ok (.getfield 10, 3) := by decide +kernel
theorem dX11_least_4 : decode cX11_least 4 = .ok (.iload_n 1, 1) := by decide +kernel
theorem dX11_least_5 : decode cX11_least 5 = .ok (.invokevirtual 121, 3) := by decide +kernel
theorem dX11_least_8 : decode cX11_least 8 = .ok (.ifCond .eq 26, 3) := by decide +kernel
theorem dX11_least_34 : decode cX11_least 34 = .ok (.iconst (-1), 1) := by decide +kernel
theorem dX11_least_35 : decode cX11_least 35 = .ok (.ireturn, 1) := by decide +kernel
theorem dX11_rings_0 : decode cX11_rings 0 = .ok (.aload_n 0, 1) := by decide +kernel
theorem dX11_rings_1 : decode cX11_rings 1 = .ok (.getfield 10, 3) := by decide +kernel
theorem dX11_rings_4 : decode cX11_rings 4 = .ok (.iload_n 1, 1) := by decide +kernel
theorem dX11_rings_5 : decode cX11_rings 5 = .ok (.invokevirtual 121, 3) := by decide +kernel
theorem dX11_rings_8 : decode cX11_rings 8 = .ok (.ifCond .eq 18, 3) := by decide +kernel
theorem dX11_rings_26 : decode cX11_rings 26 = .ok (.iconst (-1), 1) := by decide +kernel
theorem dX11_rings_27 : decode cX11_rings 27 = .ok (.ireturn, 1) := by decide +kernel
theorem dX9_chordAt_0 : decode cX9_chordAt 0 = .ok (.iload_n 1, 1) := by decide +kernel
theorem dX9_chordAt_1 : decode cX9_chordAt 1 = .ok (.ifCond .lt 18, 3) := by decide +kernel
theorem dX9_chordAt_19 : decode cX9_chordAt 19 = .ok (.iconst (-1), 1) := by decide +kernel
theorem dX9_chordAt_20 : decode cX9_chordAt 20 = .ok (.ireturn, 1) := by decide +kernel
theorem dX9_chordAt_4 : decode cX9_chordAt 4 = .ok (.iload_n 1, 1) := by decide +kernel
theorem dX9_chordAt_5 : decode cX9_chordAt 5 = .ok (.bipush 24, 2) := by decide +kernel
theorem dX9_chordAt_7 : decode cX9_chordAt 7 = .ok (.if_icmp .ge 12, 3) := by decide +kernel
theorem dX9_chordAt_10 : decode cX9_chordAt 10 = .ok (.aload_n 0, 1) := by decide +kernel
theorem dX9_chordAt_11 : decode cX9_chordAt 11 = .ok (.getfield 15, 3) := by decide +kernel
theorem dX9_chordAt_14 : decode cX9_chordAt 14 = .ok (.iload_n 1, 1) := by decide +kernel
theorem dX9_chordAt_15 : decode cX9_chordAt 15 = .ok (.iaload, 1) := by decide +kernel
theorem dX9_chordAt_16 : decode cX9_chordAt 16 = .ok (.goto 4, 3) := by decide +kernel
theorem dX11_chord_0 : decode cX11_chord 0 = .ok (.aload_n 0, 1) := by decide +kernel
theorem dX11_chord_1 : decode cX11_chord 1 = .ok (.getfield 10, 3) := by decide +kernel
theorem dX11_chord_4 : decode cX11_chord 4 = .ok (.iload_n 1, 1) := by decide +kernel
theorem dX11_chord_5 : decode cX11_chord 5 = .ok (.invokevirtual 146, 3) := by decide +kernel
theorem dX11_chord_8 : decode cX11_chord 8 = .ok (.ireturn, 1) := by decide +kernel
theorem dX11_score_0 : decode cX11_score 0 = .ok (.iload_n 1, 1) := by decide +kernel
theorem dX11_score_1 : decode cX11_score 1 = .ok (.iconst 0, 1) := by decide +kernel
theorem dX11_score_2 : decode cX11_score 2 = .ok (.bipush 23, 2) := by decide +kernel
theorem dX11_score_4 : decode cX11_score 4 = .ok (.invokestatic 97, 3) := by decide +kernel
theorem dX11_score_7 : decode cX11_score 7 = .ok (.ifCond .eq 13, 3) := by decide +kernel
theorem dX11_score_10 : decode cX11_score 10 = .ok (.iload_n 2, 1) := by decide +kernel
theorem dX11_score_11 : decode cX11_score 11 = .ok (.iconst 0, 1) := by decide +kernel
theorem dX11_score_12 : decode cX11_score 12 = .ok (.bipush 127, 2) := by decide +kernel
theorem dX11_score_14 : decode cX11_score 14 = .ok (.invokestatic 97, 3) := by decide +kernel
theorem dX11_score_17 : decode cX11_score 17 = .ok (.ifCond .ne 9, 3) := by decide +kernel
theorem dX11_score_26 : decode cX11_score 26 = .ok (.aload_n 0, 1) := by decide +kernel
theorem dX11_score_27 : decode cX11_score 27 = .ok (.getfield 10, 3) := by decide +kernel
theorem dX11_score_30 : decode cX11_score 30 = .ok (.iload_n 1, 1) := by decide +kernel
theorem dX11_score_31 : decode cX11_score 31 = .ok (.invokevirtual 146, 3) := by decide +kernel
theorem dX11_score_34 : decode cX11_score 34 = .ok (.istore_n 3, 1) := by decide +kernel
theorem dX11_score_35 : decode cX11_score 35 = .ok (.aload_n 0, 1) := by decide +kernel
theorem dX11_score_36 : decode cX11_score 36 = .ok (.getfield 10, 3) := by decide +kernel
theorem dX11_score_39 : decode cX11_score 39 = .ok (.getfield 149, 3) := by decide +kernel
theorem dX11_score_42 : decode cX11_score 42 = .ok (.iload_n 1, 1) := by decide +kernel
theorem dX11_score_43 : decode cX11_score 43 = .ok (.iload_n 2, 1) := by decide +kernel
theorem dX11_score_44 : decode cX11_score 44 = .ok (.iastore, 1) := by decide +kernel
theorem dX11_score_45 : decode cX11_score 45 = .ok (.aload_n 0, 1) := by decide +kernel
theorem dX11_score_46 : decode cX11_score 46 = .ok (.iload_n 3, 1) := by decide +kernel
theorem dX11_score_47 : decode cX11_score 47 = .ok (.invokevirtual 118, 3) := by decide +kernel
theorem dX11_score_50 : decode cX11_score 50 = .ok (.ireturn, 1) := by decide +kernel
theorem dX11_score_20 : decode cX11_score 20 = .ok (.aload_n 0, 1) := by decide +kernel
theorem dX11_score_21 : decode cX11_score 21 = .ok (.iconst (-1), 1) := by decide +kernel
theorem dX11_score_22 : decode cX11_score 22 = .ok (.invokevirtual 101, 3) := by decide +kernel
theorem dX11_score_25 : decode cX11_score 25 = .ok (.ireturn, 1) := by decide +kernel
theorem dX9_dinerOf_0 : decode cX9_dinerOf 0 = .ok (.iconst 0, 1) := by decide +kernel
theorem dX9_dinerOf_1 : decode cX9_dinerOf 1 = .ok (.istore_n 2, 1) := by decide +kernel
theorem dX9_dinerOf_2 : decode cX9_dinerOf 2 = .ok (.iload_n 2, 1) := by decide +kernel
theorem dX9_dinerOf_3 : decode cX9_dinerOf 3 = .ok (.aload_n 0, 1) := by decide +kernel
theorem dX9_dinerOf_4 : decode cX9_dinerOf 4 = .ok (.getfield 27, 3) := by decide +kernel
theorem dX9_dinerOf_7 : decode cX9_dinerOf 7 = .ok (.if_icmp .ge 21, 3) := by decide +kernel
theorem dX9_dinerOf_28 : decode cX9_dinerOf 28 = .ok (.iconst (-1), 1) := by decide +kernel
theorem dX9_dinerOf_29 : decode cX9_dinerOf 29 = .ok (.ireturn, 1) := by decide +kernel
theorem dX2_clear_0 : decode cX2_clear 0 = .ok (.aload_n 0, 1) := by decide +kernel
theorem dX2_clear_1 : decode cX2_clear 1 = .ok (.iconst 0, 1) := by decide +kernel
theorem dX2_clear_2 : decode cX2_clear 2 = .ok (.putfield 19, 3) := by decide +kernel
theorem dX2_clear_5 : decode cX2_clear 5 = .ok (.return_, 1) := by decide +kernel
theorem dX9_put_0 : decode cX9_put 0 = .ok (.iload_n 1, 1) := by decide +kernel
theorem dX9_put_1 : decode cX9_put 1 = .ok (.iconst 0, 1) := by decide +kernel
theorem dX9_put_2 : decode cX9_put 2 = .ok (.bipush 7, 2) := by decide +kernel
theorem dX9_put_4 : decode cX9_put 4 = .ok (.invokestatic 52, 3) := by decide +kernel
theorem dX9_put_7 : decode cX9_put 7 = .ok (.ifCond .eq 25, 3) := by decide +kernel
theorem dX9_put_10 : decode cX9_put 10 = .ok (.iload_n 2, 1) := by decide +kernel
theorem dX9_put_11 : decode cX9_put 11 = .ok (.iconst 0, 1) := by decide +kernel
theorem dX9_put_12 : decode cX9_put 12 = .ok (.bipush 6, 2) := by decide +kernel
theorem dX9_put_14 : decode cX9_put 14 = .ok (.invokestatic 52, 3) := by decide +kernel
theorem dX9_put_17 : decode cX9_put 17 = .ok (.ifCond .eq 15, 3) := by decide +kernel
theorem dX9_put_20 : decode cX9_put 20 = .ok (.aload_n 0, 1) := by decide +kernel
theorem dX9_put_21 : decode cX9_put 21 = .ok (.getfield 9, 3) := by decide +kernel
theorem dX9_put_24 : decode cX9_put 24 = .ok (.iload_n 2, 1) := by decide +kernel
theorem dX9_put_25 : decode cX9_put 25 = .ok (.bipush 8, 2) := by decide +kernel
theorem dX9_put_27 : decode cX9_put 27 = .ok (.imul, 1) := by decide +kernel
theorem dX9_put_28 : decode cX9_put 28 = .ok (.iload_n 1, 1) := by decide +kernel
theorem dX9_put_29 : decode cX9_put 29 = .ok (.iadd, 1) := by decide +kernel
theorem dX9_put_30 : decode cX9_put 30 = .ok (.iload_n 3, 1) := by decide +kernel
theorem dX9_put_31 : decode cX9_put 31 = .ok (.iastore, 1) := by decide +kernel
theorem dX9_put_32 : decode cX9_put 32 = .ok (.return_, 1) := by decide +kernel
theorem dX9_build_0 : decode cX9_build 0 = .ok (.aload_n 0, 1) := by decide +kernel
theorem dX9_build_1 : decode cX9_build 1 = .ok (.getfield 27, 3) := by decide +kernel
theorem dX9_build_4 : decode cX9_build 4 = .ok (.istore 6, 2) := by decide +kernel
theorem dX9_build_6 : decode cX9_build 6 = .ok (.aload_n 0, 1) := by decide +kernel
theorem dX9_build_7 : decode cX9_build 7 = .ok (.iload 6, 2) := by decide +kernel
theorem dX9_build_9 : decode cX9_build 9 = .ok (.iconst 0, 1) := by decide +kernel
theorem dX9_build_10 : decode cX9_build 10 = .ok (.iload_n 1, 1) := by decide +kernel
theorem dX9_build_11 : decode cX9_build 11 = .ok (.invokevirtual 60, 3) := by decide +kernel
theorem dX9_build_14 : decode cX9_build 14 = .ok (.aload_n 0, 1) := by decide +kernel
theorem dX9_build_15 : decode cX9_build 15 = .ok (.iload 6, 2) := by decide +kernel
theorem dX9_build_17 : decode cX9_build 17 = .ok (.iconst 1, 1) := by decide +kernel
theorem dX9_build_18 : decode cX9_build 18 = .ok (.iload_n 2, 1) := by decide +kernel
theorem dX9_build_19 : decode cX9_build 19 = .ok (.invokevirtual 60, 3) := by decide +kernel
theorem dX9_build_22 : decode cX9_build 22 = .ok (.aload_n 0, 1) := by decide +kernel
theorem dX9_build_23 : decode cX9_build 23 = .ok (.iload 6, 2) := by decide +kernel
theorem dX9_build_25 : decode cX9_build 25 = .ok (.iconst 2, 1) := by decide +kernel
theorem dX9_build_26 : decode cX9_build 26 = .ok (.iload_n 3, 1) := by decide +kernel
theorem dX9_build_27 : decode cX9_build 27 = .ok (.invokevirtual 60, 3) := by decide +kernel
theorem dX9_build_30 : decode cX9_build 30 = .ok (.aload_n 0, 1) := by decide +kernel
theorem dX9_build_31 : decode cX9_build 31 = .ok (.iload 6, 2) := by decide +kernel
theorem dX9_build_33 : decode cX9_build 33 = .ok (.iconst 3, 1) := by decide +kernel
theorem dX9_build_34 : decode cX9_build 34 = .ok (.iload 4, 2) := by decide +kernel
theorem dX9_build_36 : decode cX9_build 36 = .ok (.invokevirtual 60, 3) := by decide +kernel
theorem dX9_build_39 : decode cX9_build 39 = .ok (.aload_n 0, 1) := by decide +kernel
theorem dX9_build_40 : decode cX9_build 40 = .ok (.iload 6, 2) := by decide +kernel
theorem dX9_build_42 : decode cX9_build 42 = .ok (.iconst 4, 1) := by decide +kernel
theorem dX9_build_43 : decode cX9_build 43 = .ok (.iload 5, 2) := by decide +kernel
theorem dX9_build_45 : decode cX9_build 45 = .ok (.invokevirtual 60, 3) := by decide +kernel
theorem dX9_build_48 : decode cX9_build 48 = .ok (.aload_n 0, 1) := by decide +kernel
theorem dX9_build_49 : decode cX9_build 49 = .ok (.dup, 1) := by decide +kernel
theorem dX9_build_50 : decode cX9_build 50 = .ok (.getfield 27, 3) := by decide +kernel
theorem dX9_build_53 : decode cX9_build 53 = .ok (.iconst 1, 1) := by decide +kernel
theorem dX9_build_54 : decode cX9_build 54 = .ok (.iadd, 1) := by decide +kernel
theorem dX9_build_55 : decode cX9_build 55 = .ok (.putfield 27, 3) := by decide +kernel
theorem dX9_build_58 : decode cX9_build 58 = .ok (.iload 6, 2) := by decide +kernel
theorem dX9_build_60 : decode cX9_build 60 = .ok (.ireturn, 1) := by decide +kernel
theorem dX11_house_0 : decode cX11_house 0 = .ok (.iload_n 1, 1) := by decide +kernel
theorem dX11_house_1 : decode cX11_house 1 = .ok (.iconst 0, 1) := by decide +kernel
theorem dX11_house_2 : decode cX11_house 2 = .ok (.bipush 6, 2) := by decide +kernel
theorem dX11_house_4 : decode cX11_house 4 = .ok (.invokestatic 97, 3) := by decide +kernel
theorem dX11_house_7 : decode cX11_house 7 = .ok (.ifCond .eq 16, 3) := by decide +kernel
theorem dX11_house_10 : decode cX11_house 10 = .ok (.iload_n 2, 1) := by decide +kernel
theorem dX11_house_11 : decode cX11_house 11 = .ok (.iconst 0, 1) := by decide +kernel
theorem dX11_house_12 : decode cX11_house 12 = .ok (.iconst 3, 1) := by decide +kernel
theorem dX11_house_13 : decode cX11_house 13 = .ok (.invokestatic 97, 3) := by decide +kernel
theorem dX11_house_16 : decode cX11_house 16 = .ok (.ifCond .eq 7, 3) := by decide +kernel
theorem dX11_house_19 : decode cX11_house 19 = .ok (.iconst 1, 1) := by decide +kernel
theorem dX11_house_20 : decode cX11_house 20 = .ok (.goto 4, 3) := by decide +kernel
theorem dX11_house_24 : decode cX11_house 24 = .ok (.istore 6, 2) := by decide +kernel
theorem dX11_house_26 : decode cX11_house 26 = .ok (.iload 4, 2) := by decide +kernel
theorem dX11_house_28 : decode cX11_house 28 = .ok (.iconst 0, 1) := by decide +kernel
theorem dX11_house_29 : decode cX11_house 29 = .ok (.bipush 7, 2) := by decide +kernel
theorem dX11_house_31 : decode cX11_house 31 = .ok (.invokestatic 97, 3) := by decide +kernel
theorem dX11_house_34 : decode cX11_house 34 = .ok (.ifCond .eq 18, 3) := by decide +kernel
theorem dX11_house_37 : decode cX11_house 37 = .ok (.iload 5, 2) := by decide +kernel
theorem dX11_house_39 : decode cX11_house 39 = .ok (.iconst 0, 1) := by decide +kernel
theorem dX11_house_40 : decode cX11_house 40 = .ok (.bipush 7, 2) := by decide +kernel
theorem dX11_house_42 : decode cX11_house 42 = .ok (.invokestatic 97, 3) := by decide +kernel
theorem dX11_house_45 : decode cX11_house 45 = .ok (.ifCond .eq 7, 3) := by decide +kernel
theorem dX11_house_48 : decode cX11_house 48 = .ok (.iconst 1, 1) := by decide +kernel
theorem dX11_house_49 : decode cX11_house 49 = .ok (.goto 4, 3) := by decide +kernel
theorem dX11_house_53 : decode cX11_house 53 = .ok (.istore 7, 2) := by decide +kernel
theorem dX11_house_55 : decode cX11_house 55 = .ok (.iload 6, 2) := by decide +kernel
theorem dX11_house_57 : decode cX11_house 57 = .ok (.ifCond .eq 19, 3) := by decide +kernel
theorem dX11_house_60 : decode cX11_house 60 = .ok (.iload 7, 2) := by decide +kernel
theorem dX11_house_62 : decode cX11_house 62 = .ok (.ifCond .eq 14, 3) := by decide +kernel
theorem dX11_house_65 : decode cX11_house 65 = .ok (.iload_n 3, 1) := by decide +kernel
theorem dX11_house_66 : decode cX11_house 66 = .ok (.iconst 0, 1) := by decide +kernel
theorem dX11_house_67 : decode cX11_house 67 = .ok (.sipush 999, 3) := by decide +kernel
theorem dX11_house_70 : decode cX11_house 70 = .ok (.invokestatic 97, 3) := by decide +kernel
theorem dX11_house_73 : decode cX11_house 73 = .ok (.ifCond .ne 9, 3) := by decide +kernel
theorem dX11_house_82 : decode cX11_house 82 = .ok (.aload_n 0, 1) := by decide +kernel
theorem dX11_house_83 : decode cX11_house 83 = .ok (.getfield 10, 3) := by decide +kernel
theorem dX11_house_86 : decode cX11_house 86 = .ok (.iload 4, 2) := by decide +kernel
theorem dX11_house_88 : decode cX11_house 88 = .ok (.invokevirtual 105, 3) := by decide +kernel
theorem dX11_house_91 : decode cX11_house 91 = .ok (.iconst (-1), 1) := by decide +kernel
theorem dX11_house_92 : decode cX11_house 92 = .ok (.if_icmp .eq 10, 3) := by decide +kernel
theorem dX11_house_102 : decode cX11_house 102 = .ok (.aload_n 0, 1) := by decide +kernel
theorem dX11_house_103 : decode cX11_house 103 = .ok (.getfield 10, 3) := by decide +kernel
theorem dX11_house_106 : decode cX11_house 106 = .ok (.getfield 108, 3) := by decide +kernel
theorem dX11_house_109 : decode cX11_house 109 = .ok (.bipush 8, 2) := by decide +kernel
theorem dX11_house_111 : decode cX11_house 111 = .ok (.if_icmp .lt 10, 3) := by decide +kernel
theorem dX11_house_121 : decode cX11_house 121 = .ok (.aload_n 0, 1) := by decide +kernel
theorem dX11_house_122 : decode cX11_house 122 = .ok (.getfield 61, 3) := by decide +kernel
theorem dX11_house_125 : decode cX11_house 125 = .ok (.invokevirtual 111, 3) := by decide +kernel
theorem dX11_house_128 : decode cX11_house 128 = .ok (.aload_n 0, 1) := by decide +kernel
theorem dX11_house_129 : decode cX11_house 129 = .ok (.aload_n 0, 1) := by decide +kernel
theorem dX11_house_130 : decode cX11_house 130 = .ok (.getfield 10, 3) := by decide +kernel
theorem dX11_house_133 : decode cX11_house 133 = .ok (.iload_n 1, 1) := by decide +kernel
theorem dX11_house_134 : decode cX11_house 134 = .ok (.iload_n 2, 1) := by decide +kernel
theorem dX11_house_135 : decode cX11_house 135 = .ok (.iload_n 3, 1) := by decide +kernel
theorem dX11_house_136 : decode cX11_house 136 = .ok (.iload 4, 2) := by decide +kernel
theorem dX11_house_138 : decode cX11_house 138 = .ok (.iload 5, 2) := by decide +kernel
theorem dX11_house_140 : decode cX11_house 140 = .ok (.invokevirtual 114, 3) := by decide +kernel
theorem dX11_house_143 : decode cX11_house 143 = .ok (.invokevirtual 118, 3) := by decide +kernel
theorem dX11_house_146 : decode cX11_house 146 = .ok (.ireturn, 1) := by decide +kernel
theorem dX11_house_76 : decode cX11_house 76 = .ok (.aload_n 0, 1) := by decide +kernel
theorem dX11_house_77 : decode cX11_house 77 = .ok (.iconst (-1), 1) := by decide +kernel
theorem dX11_house_78 : decode cX11_house 78 = .ok (.invokevirtual 101, 3) := by decide +kernel
theorem dX11_house_81 : decode cX11_house 81 = .ok (.ireturn, 1) := by decide +kernel
theorem dX11_house_52 : decode cX11_house 52 = .ok (.iconst 0, 1) := by decide +kernel
theorem dX11_house_23 : decode cX11_house 23 = .ok (.iconst 0, 1) := by decide +kernel
theorem dX8_take_0 : decode cX8_take 0 = .ok (.bipush 24, 2) := by decide +kernel
theorem dX8_take_2 : decode cX8_take 2 = .ok (.istore_n 2, 1) := by decide +kernel
theorem dX8_take_3 : decode cX8_take 3 = .ok (.iload_n 2, 1) := by decide +kernel
theorem dX8_take_4 : decode cX8_take 4 = .ok (.ifCond .lt 45, 3) := by decide +kernel
theorem dX8_take_7 : decode cX8_take 7 = .ok (.aload_n 0, 1) := by decide +kernel
theorem dX8_take_8 : decode cX8_take 8 = .ok (.getfield 15, 3) := by decide +kernel
theorem dX8_take_11 : decode cX8_take 11 = .ok (.sipush 400, 3) := by decide +kernel
theorem dX8_take_14 : decode cX8_take 14 = .ok (.if_icmp .ge 35, 3) := by decide +kernel
theorem dX8_take_17 : decode cX8_take 17 = .ok (.aload_n 0, 1) := by decide +kernel
theorem dX8_take_18 : decode cX8_take 18 = .ok (.getfield 11, 3) := by decide +kernel
theorem dX8_take_21 : decode cX8_take 21 = .ok (.aload_n 0, 1) := by decide +kernel
theorem dX8_take_22 : decode cX8_take 22 = .ok (.getfield 15, 3) := by decide +kernel
theorem dX8_take_25 : decode cX8_take 25 = .ok (.iload_n 1, 1) := by decide +kernel
theorem dX8_take_26 : decode cX8_take 26 = .ok (.iload_n 2, 1) := by decide +kernel
theorem dX8_take_27 : decode cX8_take 27 = .ok (.ishr, 1) := by decide +kernel
theorem dX8_take_28 : decode cX8_take 28 = .ok (.sipush 255, 3) := by decide +kernel
theorem dX8_take_31 : decode cX8_take 31 = .ok (.iand, 1) := by decide +kernel
theorem dX8_take_32 : decode cX8_take 32 = .ok (.iastore, 1) := by decide +kernel
theorem dX8_take_33 : decode cX8_take 33 = .ok (.aload_n 0, 1) := by decide +kernel
theorem dX8_take_34 : decode cX8_take 34 = .ok (.dup, 1) := by decide +kernel
theorem dX8_take_35 : decode cX8_take 35 = .ok (.getfield 15, 3) := by decide +kernel
theorem dX8_take_38 : decode cX8_take 38 = .ok (.iconst 1, 1) := by decide +kernel
theorem dX8_take_39 : decode cX8_take 39 = .ok (.iadd, 1) := by decide +kernel
theorem dX8_take_40 : decode cX8_take 40 = .ok (.putfield 15, 3) := by decide +kernel
theorem dX8_take_43 : decode cX8_take 43 = .ok (.iinc 2 (-8), 3) := by decide +kernel
theorem dX8_take_46 : decode cX8_take 46 = .ok (.goto (-43), 3) := by decide +kernel
theorem dX8_take_49 : decode cX8_take 49 = .ok (.return_, 1) := by decide +kernel
theorem dX11_feed_0 : decode cX11_feed 0 = .ok (.aload_n 0, 1) := by decide +kernel
theorem dX11_feed_1 : decode cX11_feed 1 = .ok (.getfield 38, 3) := by decide +kernel
theorem dX11_feed_4 : decode cX11_feed 4 = .ok (.getfield 161, 3) := by decide +kernel
theorem dX11_feed_7 : decode cX11_feed 7 = .ok (.bipush 20, 2) := by decide +kernel
theorem dX11_feed_9 : decode cX11_feed 9 = .ok (.iadd, 1) := by decide +kernel
theorem dX11_feed_10 : decode cX11_feed 10 = .ok (.sipush 400, 3) := by decide +kernel
theorem dX11_feed_13 : decode cX11_feed 13 = .ok (.if_icmp .le 5, 3) := by decide +kernel
theorem dX11_feed_18 : decode cX11_feed 18 = .ok (.aload_n 0, 1) := by decide +kernel
theorem dX11_feed_19 : decode cX11_feed 19 = .ok (.getfield 38, 3) := by decide +kernel
theorem dX11_feed_22 : decode cX11_feed 22 = .ok (.iload_n 1, 1) := by decide +kernel
theorem dX11_feed_23 : decode cX11_feed 23 = .ok (.invokevirtual 166, 3) := by decide +kernel
theorem dX11_feed_26 : decode cX11_feed 26 = .ok (.aload_n 0, 1) := by decide +kernel
theorem dX11_feed_27 : decode cX11_feed 27 = .ok (.getfield 38, 3) := by decide +kernel
theorem dX11_feed_30 : decode cX11_feed 30 = .ok (.iload_n 2, 1) := by decide +kernel
theorem dX11_feed_31 : decode cX11_feed 31 = .ok (.invokevirtual 166, 3) := by decide +kernel
theorem dX11_feed_34 : decode cX11_feed 34 = .ok (.aload_n 0, 1) := by decide +kernel
theorem dX11_feed_35 : decode cX11_feed 35 = .ok (.getfield 38, 3) := by decide +kernel
theorem dX11_feed_38 : decode cX11_feed 38 = .ok (.iload_n 3, 1) := by decide +kernel
theorem dX11_feed_39 : decode cX11_feed 39 = .ok (.invokevirtual 166, 3) := by decide +kernel
theorem dX11_feed_42 : decode cX11_feed 42 = .ok (.aload_n 0, 1) := by decide +kernel
theorem dX11_feed_43 : decode cX11_feed 43 = .ok (.getfield 38, 3) := by decide +kernel
theorem dX11_feed_46 : decode cX11_feed 46 = .ok (.iload 4, 2) := by decide +kernel
theorem dX11_feed_48 : decode cX11_feed 48 = .ok (.invokevirtual 166, 3) := by decide +kernel
theorem dX11_feed_51 : decode cX11_feed 51 = .ok (.aload_n 0, 1) := by decide +kernel
theorem dX11_feed_52 : decode cX11_feed 52 = .ok (.getfield 38, 3) := by decide +kernel
theorem dX11_feed_55 : decode cX11_feed 55 = .ok (.iload 5, 2) := by decide +kernel
theorem dX11_feed_57 : decode cX11_feed 57 = .ok (.invokevirtual 166, 3) := by decide +kernel
theorem dX11_feed_60 : decode cX11_feed 60 = .ok (.aload_n 0, 1) := by decide +kernel
theorem dX11_feed_61 : decode cX11_feed 61 = .ok (.getfield 38, 3) := by decide +kernel
theorem dX11_feed_64 : decode cX11_feed 64 = .ok (.getfield 161, 3) := by decide +kernel
theorem dX11_feed_67 : decode cX11_feed 67 = .ok (.ireturn, 1) := by decide +kernel
theorem dX11_end_0 : decode cX11_end 0 = .ok (.iload_n 1, 1) := by decide +kernel
theorem dX11_end_1 : decode cX11_end 1 = .ok (.iconst 0, 1) := by decide +kernel
theorem dX11_end_2 : decode cX11_end 2 = .ok (.aload_n 0, 1) := by decide +kernel
theorem dX11_end_3 : decode cX11_end 3 = .ok (.getfield 38, 3) := by decide +kernel
theorem dX11_end_6 : decode cX11_end 6 = .ok (.getfield 161, 3) := by decide +kernel
theorem dX11_end_9 : decode cX11_end 9 = .ok (.invokestatic 97, 3) := by decide +kernel
theorem dX11_end_12 : decode cX11_end 12 = .ok (.ifCond .ne 5, 3) := by decide +kernel
theorem dX11_end_17 : decode cX11_end 17 = .ok (.aload_n 0, 1) := by decide +kernel
theorem dX11_end_18 : decode cX11_end 18 = .ok (.getfield 38, 3) := by decide +kernel
theorem dX11_end_21 : decode cX11_end 21 = .ok (.iload_n 1, 1) := by decide +kernel
theorem dX11_end_22 : decode cX11_end 22 = .ok (.putfield 161, 3) := by decide +kernel
theorem dX11_end_25 : decode cX11_end 25 = .ok (.iload_n 1, 1) := by decide +kernel
theorem dX11_end_26 : decode cX11_end 26 = .ok (.ireturn, 1) := by decide +kernel
theorem dX11_end_15 : decode cX11_end 15 = .ok (.iconst (-1), 1) := by decide +kernel
theorem dX11_end_16 : decode cX11_end 16 = .ok (.ireturn, 1) := by decide +kernel
theorem dX11_row_0 : decode cX11_row 0 = .ok (.aload_n 0, 1) := by decide +kernel
theorem dX11_row_1 : decode cX11_row 1 = .ok (.getfield 38, 3) := by decide +kernel
theorem dX11_row_4 : decode cX11_row 4 = .ok (.getfield 161, 3) := by decide +kernel
theorem dX11_row_7 : decode cX11_row 7 = .ok (.ifCond .ne 10, 3) := by decide +kernel
theorem dX11_row_10 : decode cX11_row 10 = .ok (.aload_n 0, 1) := by decide +kernel
theorem dX11_row_11 : decode cX11_row 11 = .ok (.bipush (-6), 2) := by decide +kernel
theorem dX11_row_13 : decode cX11_row 13 = .ok (.invokevirtual 101, 3) := by decide +kernel
theorem dX11_row_16 : decode cX11_row 16 = .ok (.ireturn, 1) := by decide +kernel
theorem dX11_force_0 : decode cX11_force 0 = .ok (.iload_n 1, 1) := by decide +kernel
theorem dX11_force_1 : decode cX11_force 1 = .ok (.iconst (-1), 1) := by decide +kernel
theorem dX11_force_2 : decode cX11_force 2 = .ok (.if_icmp .eq 27, 3) := by decide +kernel
theorem dX11_force_29 : decode cX11_force 29 = .ok (.aload_n 0, 1) := by decide +kernel
theorem dX11_force_30 : decode cX11_force 30 = .ok (.getfield 10, 3) := by decide +kernel
theorem dX11_force_33 : decode cX11_force 33 = .ok (.getfield 203, 3) := by decide +kernel
theorem dX11_force_36 : decode cX11_force 36 = .ok (.istore_n 2, 1) := by decide +kernel
theorem dX11_force_37 : decode cX11_force 37 = .ok (.aload_n 0, 1) := by decide +kernel
theorem dX11_force_38 : decode cX11_force 38 = .ok (.getfield 10, 3) := by decide +kernel
theorem dX11_force_41 : decode cX11_force 41 = .ok (.iload_n 1, 1) := by decide +kernel
theorem dX11_force_42 : decode cX11_force 42 = .ok (.putfield 203, 3) := by decide +kernel
theorem dX11_force_45 : decode cX11_force 45 = .ok (.aload_n 0, 1) := by decide +kernel
theorem dX11_force_46 : decode cX11_force 46 = .ok (.iload_n 2, 1) := by decide +kernel
theorem dX11_force_47 : decode cX11_force 47 = .ok (.invokevirtual 118, 3) := by decide +kernel
theorem dX11_force_50 : decode cX11_force 50 = .ok (.ireturn, 1) := by decide +kernel
theorem dX11_force_5 : decode cX11_force 5 = .ok (.iload_n 1, 1) := by decide +kernel
theorem dX11_force_6 : decode cX11_force 6 = .ok (.iconst 0, 1) := by decide +kernel
theorem dX11_force_7 : decode cX11_force 7 = .ok (.aload_n 0, 1) := by decide +kernel
theorem dX11_force_8 : decode cX11_force 8 = .ok (.getfield 10, 3) := by decide +kernel
theorem dX11_force_11 : decode cX11_force 11 = .ok (.getfield 173, 3) := by decide +kernel
theorem dX11_force_14 : decode cX11_force 14 = .ok (.iconst 1, 1) := by decide +kernel
theorem dX11_force_15 : decode cX11_force 15 = .ok (.isub, 1) := by decide +kernel
theorem dX11_force_16 : decode cX11_force 16 = .ok (.invokestatic 97, 3) := by decide +kernel
theorem dX11_force_19 : decode cX11_force 19 = .ok (.ifCond .ne 10, 3) := by decide +kernel
theorem dX11_force_22 : decode cX11_force 22 = .ok (.aload_n 0, 1) := by decide +kernel
theorem dX11_force_23 : decode cX11_force 23 = .ok (.bipush (-2), 2) := by decide +kernel
theorem dX11_force_25 : decode cX11_force 25 = .ok (.invokevirtual 101, 3) := by decide +kernel
theorem dX11_force_28 : decode cX11_force 28 = .ok (.ireturn, 1) := by decide +kernel
theorem dX10_discords_0 : decode cX10_discords 0 = .ok (.iconst 0, 1) := by decide +kernel
theorem dX10_discords_1 : decode cX10_discords 1 = .ok (.istore_n 2, 1) := by decide +kernel
theorem dX10_discords_2 : decode cX10_discords 2 = .ok (.iconst 0, 1) := by decide +kernel
theorem dX10_discords_3 : decode cX10_discords 3 = .ok (.istore_n 3, 1) := by decide +kernel
theorem dX10_discords_4 : decode cX10_discords 4 = .ok (.iload_n 3, 1) := by decide +kernel
theorem dX10_discords_5 : decode cX10_discords 5 = .ok (.aload_n 1, 1) := by decide +kernel
theorem dX10_discords_6 : decode cX10_discords 6 = .ok (.getfield 77, 3) := by decide +kernel
theorem dX10_discords_9 : decode cX10_discords 9 = .ok (.if_icmp .ge 101, 3) := by decide +kernel
theorem dX10_discords_110 : decode cX10_discords 110 = .ok (.iload_n 2, 1) := by decide +kernel
theorem dX10_discords_111 : decode cX10_discords 111 = .ok (.ireturn, 1) := by decide +kernel
theorem dX11_discord_0 : decode cX11_discord 0 = .ok (.aload_n 0, 1) := by decide +kernel
theorem dX11_discord_1 : decode cX11_discord 1 = .ok (.getfield 50, 3) := by decide +kernel
theorem dX11_discord_4 : decode cX11_discord 4 = .ok (.aload_n 0, 1) := by decide +kernel
theorem dX11_discord_5 : decode cX11_discord 5 = .ok (.getfield 10, 3) := by decide +kernel
theorem dX11_discord_8 : decode cX11_discord 8 = .ok (.invokevirtual 206, 3) := by decide +kernel
theorem dX11_discord_11 : decode cX11_discord 11 = .ok (.ireturn, 1) := by decide +kernel
theorem dX9_notesNow_0 : decode cX9_notesNow 0 = .ok (.iconst 0, 1) := by decide +kernel
theorem dX9_notesNow_1 : decode cX9_notesNow 1 = .ok (.istore_n 1, 1) := by decide +kernel
theorem dX9_notesNow_2 : decode cX9_notesNow 2 = .ok (.iconst 0, 1) := by decide +kernel
theorem dX9_notesNow_3 : decode cX9_notesNow 3 = .ok (.istore_n 2, 1) := by decide +kernel
theorem dX9_notesNow_4 : decode cX9_notesNow 4 = .ok (.iload_n 2, 1) := by decide +kernel
theorem dX9_notesNow_5 : decode cX9_notesNow 5 = .ok (.aload_n 0, 1) := by decide +kernel
theorem dX9_notesNow_6 : decode cX9_notesNow 6 = .ok (.getfield 27, 3) := by decide +kernel
theorem dX9_notesNow_9 : decode cX9_notesNow 9 = .ok (.if_icmp .ge 32, 3) := by decide +kernel
theorem dX9_notesNow_41 : decode cX9_notesNow 41 = .ok (.iload_n 1, 1) := by decide +kernel
theorem dX9_notesNow_42 : decode cX9_notesNow 42 = .ok (.ireturn, 1) := by decide +kernel
theorem dX9_thirdsNow_0 : decode cX9_thirdsNow 0 = .ok (.aload_n 0, 1) := by decide +kernel
theorem dX9_thirdsNow_1 : decode cX9_thirdsNow 1 = .ok (.invokevirtual 81, 3) := by decide +kernel
theorem dX9_thirdsNow_4 : decode cX9_thirdsNow 4 = .ok (.istore_n 1, 1) := by decide +kernel
theorem dX9_thirdsNow_5 : decode cX9_thirdsNow 5 = .ok (.iconst 0, 1) := by decide +kernel
theorem dX9_thirdsNow_6 : decode cX9_thirdsNow 6 = .ok (.istore_n 2, 1) := by decide +kernel
theorem dX9_thirdsNow_7 : decode cX9_thirdsNow 7 = .ok (.iconst 0, 1) := by decide +kernel
theorem dX9_thirdsNow_8 : decode cX9_thirdsNow 8 = .ok (.istore_n 3, 1) := by decide +kernel
theorem dX9_thirdsNow_9 : decode cX9_thirdsNow 9 = .ok (.iload_n 3, 1) := by decide +kernel
theorem dX9_thirdsNow_10 : decode cX9_thirdsNow 10 = .ok (.bipush 7, 2) := by decide +kernel
theorem dX9_thirdsNow_12 : decode cX9_thirdsNow 12 = .ok (.if_icmp .ge 49, 3) := by decide +kernel
theorem dX9_thirdsNow_15 : decode cX9_thirdsNow 15 = .ok (.iconst 1, 1) := by decide +kernel
theorem dX9_thirdsNow_16 : decode cX9_thirdsNow 16 = .ok (.iload_n 3, 1) := by decide +kernel
theorem dX9_thirdsNow_17 : decode cX9_thirdsNow 17 = .ok (.ishl, 1) := by decide +kernel
theorem dX9_thirdsNow_18 : decode cX9_thirdsNow 18 = .ok (.iconst 1, 1) := by decide +kernel
theorem dX9_thirdsNow_19 : decode cX9_thirdsNow 19 = .ok (.iload_n 3, 1) := by decide +kernel
theorem dX9_thirdsNow_20 : decode cX9_thirdsNow 20 = .ok (.iconst 2, 1) := by decide +kernel
theorem dX9_thirdsNow_21 : decode cX9_thirdsNow 21 = .ok (.iadd, 1) := by decide +kernel
theorem dX9_thirdsNow_22 : decode cX9_thirdsNow 22 = .ok (.bipush 7, 2) := by decide +kernel
theorem dX9_thirdsNow_24 : decode cX9_thirdsNow 24 = .ok (.irem, 1) := by decide +kernel
theorem dX9_thirdsNow_25 : decode cX9_thirdsNow 25 = .ok (.ishl, 1) := by decide +kernel
theorem dX9_thirdsNow_26 : decode cX9_thirdsNow 26 = .ok (.ior, 1) := by decide +kernel
theorem dX9_thirdsNow_27 : decode cX9_thirdsNow 27 = .ok (.iconst 1, 1) := by decide +kernel
theorem dX9_thirdsNow_28 : decode cX9_thirdsNow 28 = .ok (.iload_n 3, 1) := by decide +kernel
theorem dX9_thirdsNow_29 : decode cX9_thirdsNow 29 = .ok (.iconst 4, 1) := by decide +kernel
theorem dX9_thirdsNow_30 : decode cX9_thirdsNow 30 = .ok (.iadd, 1) := by decide +kernel
theorem dX9_thirdsNow_31 : decode cX9_thirdsNow 31 = .ok (.bipush 7, 2) := by decide +kernel
theorem dX9_thirdsNow_33 : decode cX9_thirdsNow 33 = .ok (.irem, 1) := by decide +kernel
theorem dX9_thirdsNow_34 : decode cX9_thirdsNow 34 = .ok (.ishl, 1) := by decide +kernel
theorem dX9_thirdsNow_35 : decode cX9_thirdsNow 35 = .ok (.ior, 1) := by decide +kernel
theorem dX9_thirdsNow_36 : decode cX9_thirdsNow 36 = .ok (.istore 4, 2) := by decide +kernel
theorem dX9_thirdsNow_38 : decode cX9_thirdsNow 38 = .ok (.iload_n 2, 1) := by decide +kernel
theorem dX9_thirdsNow_39 : decode cX9_thirdsNow 39 = .ok (.iload_n 1, 1) := by decide +kernel
theorem dX9_thirdsNow_40 : decode cX9_thirdsNow 40 = .ok (.iload 4, 2) := by decide +kernel
theorem dX9_thirdsNow_42 : decode cX9_thirdsNow 42 = .ok (.iand, 1) := by decide +kernel
theorem dX9_thirdsNow_43 : decode cX9_thirdsNow 43 = .ok (.iload 4, 2) := by decide +kernel
theorem dX9_thirdsNow_45 : decode cX9_thirdsNow 45 = .ok (.if_icmp .ne 7, 3) := by decide +kernel
theorem dX9_thirdsNow_52 : decode cX9_thirdsNow 52 = .ok (.iconst 0, 1) := by decide +kernel
theorem dX9_thirdsNow_53 : decode cX9_thirdsNow 53 = .ok (.iadd, 1) := by decide +kernel
theorem dX9_thirdsNow_54 : decode cX9_thirdsNow 54 = .ok (.istore_n 2, 1) := by decide +kernel
theorem dX9_thirdsNow_55 : decode cX9_thirdsNow 55 = .ok (.iinc 3 1, 3) := by decide +kernel
theorem dX9_thirdsNow_58 : decode cX9_thirdsNow 58 = .ok (.goto (-49), 3) := by decide +kernel
theorem dX9_thirdsNow_61 : decode cX9_thirdsNow 61 = .ok (.iload_n 2, 1) := by decide +kernel
theorem dX9_thirdsNow_62 : decode cX9_thirdsNow 62 = .ok (.ireturn, 1) := by decide +kernel
theorem dX9_meetsChord_0 : decode cX9_meetsChord 0 = .ok (.aload_n 0, 1) := by decide +kernel
theorem dX9_meetsChord_1 : decode cX9_meetsChord 1 = .ok (.aload_n 0, 1) := by decide +kernel
theorem dX9_meetsChord_2 : decode cX9_meetsChord 2 = .ok (.getfield 18, 3) := by decide +kernel
theorem dX9_meetsChord_5 : decode cX9_meetsChord 5 = .ok (.iconst 0, 1) := by decide +kernel
theorem dX9_meetsChord_6 : decode cX9_meetsChord 6 = .ok (.iaload, 1) := by decide +kernel
theorem dX9_meetsChord_7 : decode cX9_meetsChord 7 = .ok (.invokevirtual 85, 3) := by decide +kernel
theorem dX9_meetsChord_10 : decode cX9_meetsChord 10 = .ok (.istore_n 1, 1) := by decide +kernel
theorem dX9_meetsChord_11 : decode cX9_meetsChord 11 = .ok (.aload_n 0, 1) := by decide +kernel
theorem dX9_meetsChord_12 : decode cX9_meetsChord 12 = .ok (.invokevirtual 81, 3) := by decide +kernel
theorem dX9_meetsChord_15 : decode cX9_meetsChord 15 = .ok (.iload_n 1, 1) := by decide +kernel
theorem dX9_meetsChord_16 : decode cX9_meetsChord 16 = .ok (.iand, 1) := by decide +kernel
theorem dX9_meetsChord_17 : decode cX9_meetsChord 17 = .ok (.iload_n 1, 1) := by decide +kernel
theorem dX9_meetsChord_18 : decode cX9_meetsChord 18 = .ok (.if_icmp .ne 7, 3) := by decide +kernel
theorem dX9_meetsChord_21 : decode cX9_meetsChord 21 = .ok (.iconst 1, 1) := by decide +kernel
theorem dX9_meetsChord_22 : decode cX9_meetsChord 22 = .ok (.goto 4, 3) := by decide +kernel
theorem dX9_meetsChord_26 : decode cX9_meetsChord 26 = .ok (.ireturn, 1) := by decide +kernel
theorem dX10_burnDown_0 : decode cX10_burnDown 0 = .ok (.iconst 0, 1) := by decide +kernel
theorem dX10_burnDown_1 : decode cX10_burnDown 1 = .ok (.istore_n 2, 1) := by decide +kernel
theorem dX10_burnDown_2 : decode cX10_burnDown 2 = .ok (.iload_n 2, 1) := by decide +kernel
theorem dX10_burnDown_3 : decode cX10_burnDown 3 = .ok (.aload_n 1, 1) := by decide +kernel
theorem dX10_burnDown_4 : decode cX10_burnDown 4 = .ok (.getfield 77, 3) := by decide +kernel
theorem dX10_burnDown_7 : decode cX10_burnDown 7 = .ok (.if_icmp .ge 73, 3) := by decide +kernel
theorem dX10_burnDown_80 : decode cX10_burnDown 80 = .ok (.return_, 1) := by decide +kernel
theorem dX10_nextHour_0 : decode cX10_nextHour 0 = .ok (.aload_n 1, 1) := by decide +kernel
theorem dX10_nextHour_1 : decode cX10_nextHour 1 = .ok (.getfield 56, 3) := by decide +kernel
theorem dX10_nextHour_4 : decode cX10_nextHour 4 = .ok (.iconst 0, 1) := by decide +kernel
theorem dX10_nextHour_5 : decode cX10_nextHour 5 = .ok (.iaload, 1) := by decide +kernel
theorem dX10_nextHour_6 : decode cX10_nextHour 6 = .ok (.bipush 23, 2) := by decide +kernel
theorem dX10_nextHour_8 : decode cX10_nextHour 8 = .ok (.if_icmp .ne 7, 3) := by decide +kernel
theorem dX10_nextHour_15 : decode cX10_nextHour 15 = .ok (.iconst 0, 1) := by decide +kernel
theorem dX10_nextHour_16 : decode cX10_nextHour 16 = .ok (.istore_n 2, 1) := by decide +kernel
theorem dX10_nextHour_17 : decode cX10_nextHour 17 = .ok (.iload_n 2, 1) := by decide +kernel
theorem dX10_nextHour_18 : decode cX10_nextHour 18 = .ok (.ifCond .eq 18, 3) := by decide +kernel
theorem dX10_nextHour_36 : decode cX10_nextHour 36 = .ok (.aload_n 1, 1) := by decide +kernel
theorem dX10_nextHour_37 : decode cX10_nextHour 37 = .ok (.invokevirtual 60, 3) := by decide +kernel
theorem dX10_nextHour_40 : decode cX10_nextHour 40 = .ok (.ifCond .eq 7, 3) := by decide +kernel
theorem dX10_nextHour_43 : decode cX10_nextHour 43 = .ok (.iconst 1, 1) := by decide +kernel
theorem dX10_nextHour_44 : decode cX10_nextHour 44 = .ok (.goto 4, 3) := by decide +kernel
theorem dX10_nextHour_48 : decode cX10_nextHour 48 = .ok (.istore_n 3, 1) := by decide +kernel
theorem dX10_nextHour_49 : decode cX10_nextHour 49 = .ok (.aload_n 1, 1) := by decide +kernel
theorem dX10_nextHour_50 : decode cX10_nextHour 50 = .ok (.ldc 64, 2) := by decide +kernel
theorem dX10_nextHour_52 : decode cX10_nextHour 52 = .ok (.aload_n 1, 1) := by decide +kernel
theorem dX10_nextHour_53 : decode cX10_nextHour 53 = .ok (.getfield 65, 3) := by decide +kernel
theorem dX10_nextHour_56 : decode cX10_nextHour 56 = .ok (.aload_n 0, 1) := by decide +kernel
theorem dX10_nextHour_57 : decode cX10_nextHour 57 = .ok (.aload_n 1, 1) := by decide +kernel
theorem dX10_nextHour_58 : decode cX10_nextHour 58 = .ok (.invokevirtual 69, 3) := by decide +kernel
theorem dX10_nextHour_61 : decode cX10_nextHour 61 = .ok (.iadd, 1) := by decide +kernel
theorem dX10_nextHour_62 : decode cX10_nextHour 62 = .ok (.invokestatic 40, 3) := by decide +kernel
theorem dX10_nextHour_65 : decode cX10_nextHour 65 = .ok (.putfield 65, 3) := by decide +kernel
theorem dX10_nextHour_68 : decode cX10_nextHour 68 = .ok (.aload_n 0, 1) := by decide +kernel
theorem dX10_nextHour_69 : decode cX10_nextHour 69 = .ok (.aload_n 1, 1) := by decide +kernel
theorem dX10_nextHour_70 : decode cX10_nextHour 70 = .ok (.invokevirtual 73, 3) := by decide +kernel
theorem dX10_nextHour_73 : decode cX10_nextHour 73 = .ok (.aload_n 1, 1) := by decide +kernel
theorem dX10_nextHour_74 : decode cX10_nextHour 74 = .ok (.getfield 56, 3) := by decide +kernel
theorem dX10_nextHour_77 : decode cX10_nextHour 77 = .ok (.iconst 0, 1) := by decide +kernel
theorem dX10_nextHour_78 : decode cX10_nextHour 78 = .ok (.iload_n 2, 1) := by decide +kernel
theorem dX10_nextHour_79 : decode cX10_nextHour 79 = .ok (.ifCond .eq 7, 3) := by decide +kernel
theorem dX10_nextHour_86 : decode cX10_nextHour 86 = .ok (.aload_n 1, 1) := by decide +kernel
theorem dX10_nextHour_87 : decode cX10_nextHour 87 = .ok (.getfield 56, 3) := by decide +kernel
theorem dX10_nextHour_90 : decode cX10_nextHour 90 = .ok (.iconst 0, 1) := by decide +kernel
theorem dX10_nextHour_91 : decode cX10_nextHour 91 = .ok (.iaload, 1) := by decide +kernel
theorem dX10_nextHour_92 : decode cX10_nextHour 92 = .ok (.iconst 1, 1) := by decide +kernel
theorem dX10_nextHour_93 : decode cX10_nextHour 93 = .ok (.iadd, 1) := by decide +kernel
theorem dX10_nextHour_94 : decode cX10_nextHour 94 = .ok (.iastore, 1) := by decide +kernel
theorem dX10_nextHour_95 : decode cX10_nextHour 95 = .ok (.aload_n 1, 1) := by decide +kernel
theorem dX10_nextHour_96 : decode cX10_nextHour 96 = .ok (.getfield 56, 3) := by decide +kernel
theorem dX10_nextHour_99 : decode cX10_nextHour 99 = .ok (.iconst 1, 1) := by decide +kernel
theorem dX10_nextHour_100 : decode cX10_nextHour 100 = .ok (.dup2, 1) := by decide +kernel
theorem dX10_nextHour_101 : decode cX10_nextHour 101 = .ok (.iaload, 1) := by decide +kernel
theorem dX10_nextHour_102 : decode cX10_nextHour 102 = .ok (.iload_n 2, 1) := by decide +kernel
theorem dX10_nextHour_103 : decode cX10_nextHour 103 = .ok (.ifCond .eq 7, 3) := by decide +kernel
theorem dX10_nextHour_110 : decode cX10_nextHour 110 = .ok (.iconst 0, 1) := by decide +kernel
theorem dX10_nextHour_111 : decode cX10_nextHour 111 = .ok (.iadd, 1) := by decide +kernel
theorem dX10_nextHour_112 : decode cX10_nextHour 112 = .ok (.iastore, 1) := by decide +kernel
theorem dX10_nextHour_113 : decode cX10_nextHour 113 = .ok (.iload_n 3, 1) := by decide +kernel
theorem dX10_nextHour_114 : decode cX10_nextHour 114 = .ok (.ireturn, 1) := by decide +kernel
theorem dX10_nextHour_11 : decode cX10_nextHour 11 = .ok (.iconst 1, 1) := by decide +kernel
theorem dX10_nextHour_12 : decode cX10_nextHour 12 = .ok (.goto 4, 3) := by decide +kernel
theorem dX10_nextHour_21 : decode cX10_nextHour 21 = .ok (.aload_n 1, 1) := by decide +kernel
theorem dX10_nextHour_22 : decode cX10_nextHour 22 = .ok (.getfield 56, 3) := by decide +kernel
theorem dX10_nextHour_25 : decode cX10_nextHour 25 = .ok (.iconst 1, 1) := by decide +kernel
theorem dX10_nextHour_26 : decode cX10_nextHour 26 = .ok (.iaload, 1) := by decide +kernel
theorem dX10_nextHour_27 : decode cX10_nextHour 27 = .ok (.sipush 999, 3) := by decide +kernel
theorem dX10_nextHour_30 : decode cX10_nextHour 30 = .ok (.if_icmp .lt 6, 3) := by decide +kernel
theorem dX10_nextHour_82 : decode cX10_nextHour 82 = .ok (.iconst 0, 1) := by decide +kernel
theorem dX10_nextHour_83 : decode cX10_nextHour 83 = .ok (.goto 11, 3) := by decide +kernel
theorem dX10_nextHour_106 : decode cX10_nextHour 106 = .ok (.iconst 1, 1) := by decide +kernel
theorem dX10_nextHour_107 : decode cX10_nextHour 107 = .ok (.goto 4, 3) := by decide +kernel
theorem dX2_changing_0 : decode cX2_changing 0 = .ok (.iload_n 0, 1) := by decide +kernel
theorem dX2_changing_1 : decode cX2_changing 1 = .ok (.ifCond .ne 7, 3) := by decide +kernel
theorem dX2_changing_4 : decode cX2_changing 4 = .ok (.iconst 2, 1) := by decide +kernel
theorem dX2_changing_5 : decode cX2_changing 5 = .ok (.goto 14, 3) := by decide +kernel
theorem dX2_changing_19 : decode cX2_changing 19 = .ok (.ireturn, 1) := by decide +kernel
theorem dX2_changing_8 : decode cX2_changing 8 = .ok (.iload_n 0, 1) := by decide +kernel
theorem dX2_changing_9 : decode cX2_changing 9 = .ok (.iconst 1, 1) := by decide +kernel
theorem dX2_changing_10 : decode cX2_changing 10 = .ok (.if_icmp .ne 7, 3) := by decide +kernel
theorem dX2_changing_13 : decode cX2_changing 13 = .ok (.iconst 5, 1) := by decide +kernel
theorem dX2_changing_14 : decode cX2_changing 14 = .ok (.goto 5, 3) := by decide +kernel
theorem dX2_changing_17 : decode cX2_changing 17 = .ok (.bipush 6, 2) := by decide +kernel
theorem dX2_draft_0 : decode cX2_draft 0 = .ok (.aload_n 0, 1) := by decide +kernel
theorem dX2_draft_1 : decode cX2_draft 1 = .ok (.getfield 15, 3) := by decide +kernel
theorem dX2_draft_4 : decode cX2_draft 4 = .ok (.bipush 28, 2) := by decide +kernel
theorem dX2_draft_6 : decode cX2_draft 6 = .ok (.imul, 1) := by decide +kernel
theorem dX2_draft_7 : decode cX2_draft 7 = .ok (.istore_n 2, 1) := by decide +kernel
theorem dX2_draft_8 : decode cX2_draft 8 = .ok (.aload_n 0, 1) := by decide +kernel
theorem dX2_draft_9 : decode cX2_draft 9 = .ok (.getfield 11, 3) := by decide +kernel
theorem dX2_draft_12 : decode cX2_draft 12 = .ok (.iload_n 2, 1) := by decide +kernel
theorem dX2_draft_13 : decode cX2_draft 13 = .ok (.iconst 1, 1) := by decide +kernel
theorem dX2_draft_14 : decode cX2_draft 14 = .ok (.iadd, 1) := by decide +kernel
theorem dX2_draft_15 : decode cX2_draft 15 = .ok (.aload_n 1, 1) := by decide +kernel
theorem dX2_draft_16 : decode cX2_draft 16 = .ok (.getfield 28, 3) := by decide +kernel
theorem dX2_draft_19 : decode cX2_draft 19 = .ok (.iastore, 1) := by decide +kernel
theorem dX2_draft_20 : decode cX2_draft 20 = .ok (.aload_n 0, 1) := by decide +kernel
theorem dX2_draft_21 : decode cX2_draft 21 = .ok (.getfield 11, 3) := by decide +kernel
theorem dX2_draft_24 : decode cX2_draft 24 = .ok (.iload_n 2, 1) := by decide +kernel
theorem dX2_draft_25 : decode cX2_draft 25 = .ok (.iconst 2, 1) := by decide +kernel
theorem dX2_draft_26 : decode cX2_draft 26 = .ok (.iadd, 1) := by decide +kernel
theorem dX2_draft_27 : decode cX2_draft 27 = .ok (.aload_n 1, 1) := by decide +kernel
theorem dX2_draft_28 : decode cX2_draft 28 = .ok (.getfield 33, 3) := by decide +kernel
theorem dX2_draft_31 : decode cX2_draft 31 = .ok (.iconst 0, 1) := by decide +kernel
theorem dX2_draft_32 : decode cX2_draft 32 = .ok (.iaload, 1) := by decide +kernel
theorem dX2_draft_33 : decode cX2_draft 33 = .ok (.iastore, 1) := by decide +kernel
theorem dX2_draft_34 : decode cX2_draft 34 = .ok (.aload_n 0, 1) := by decide +kernel
theorem dX2_draft_35 : decode cX2_draft 35 = .ok (.getfield 11, 3) := by decide +kernel
theorem dX2_draft_38 : decode cX2_draft 38 = .ok (.iload_n 2, 1) := by decide +kernel
theorem dX2_draft_39 : decode cX2_draft 39 = .ok (.iconst 3, 1) := by decide +kernel
theorem dX2_draft_40 : decode cX2_draft 40 = .ok (.iadd, 1) := by decide +kernel
theorem dX2_draft_41 : decode cX2_draft 41 = .ok (.aload_n 1, 1) := by decide +kernel
theorem dX2_draft_42 : decode cX2_draft 42 = .ok (.getfield 33, 3) := by decide +kernel
theorem dX2_draft_45 : decode cX2_draft 45 = .ok (.iconst 1, 1) := by decide +kernel
theorem dX2_draft_46 : decode cX2_draft 46 = .ok (.iaload, 1) := by decide +kernel
theorem dX2_draft_47 : decode cX2_draft 47 = .ok (.iastore, 1) := by decide +kernel
theorem dX2_draft_48 : decode cX2_draft 48 = .ok (.iconst 0, 1) := by decide +kernel
theorem dX2_draft_49 : decode cX2_draft 49 = .ok (.istore_n 3, 1) := by decide +kernel
theorem dX2_draft_50 : decode cX2_draft 50 = .ok (.iload_n 3, 1) := by decide +kernel
theorem dX2_draft_51 : decode cX2_draft 51 = .ok (.iconst 3, 1) := by decide +kernel
theorem dX2_draft_52 : decode cX2_draft 52 = .ok (.if_icmp .ge 37, 3) := by decide +kernel
theorem dX2_draft_55 : decode cX2_draft 55 = .ok (.aload_n 1, 1) := by decide +kernel
theorem dX2_draft_56 : decode cX2_draft 56 = .ok (.getfield 36, 3) := by decide +kernel
theorem dX2_draft_59 : decode cX2_draft 59 = .ok (.iload_n 3, 1) := by decide +kernel
theorem dX2_draft_60 : decode cX2_draft 60 = .ok (.invokestatic 39, 3) := by decide +kernel
theorem dX2_draft_63 : decode cX2_draft 63 = .ok (.bipush 8, 2) := by decide +kernel
theorem dX2_draft_65 : decode cX2_draft 65 = .ok (.imul, 1) := by decide +kernel
theorem dX2_draft_66 : decode cX2_draft 66 = .ok (.aload_n 0, 1) := by decide +kernel
theorem dX2_draft_67 : decode cX2_draft 67 = .ok (.getfield 11, 3) := by decide +kernel
theorem dX2_draft_70 : decode cX2_draft 70 = .ok (.iload_n 2, 1) := by decide +kernel
theorem dX2_draft_71 : decode cX2_draft 71 = .ok (.iconst 4, 1) := by decide +kernel
theorem dX2_draft_72 : decode cX2_draft 72 = .ok (.iadd, 1) := by decide +kernel
theorem dX2_draft_73 : decode cX2_draft 73 = .ok (.iload_n 3, 1) := by decide +kernel
theorem dX2_draft_74 : decode cX2_draft 74 = .ok (.bipush 8, 2) := by decide +kernel
theorem dX2_draft_76 : decode cX2_draft 76 = .ok (.imul, 1) := by decide +kernel
theorem dX2_draft_77 : decode cX2_draft 77 = .ok (.iadd, 1) := by decide +kernel
theorem dX2_draft_78 : decode cX2_draft 78 = .ok (.bipush 8, 2) := by decide +kernel
theorem dX2_draft_80 : decode cX2_draft 80 = .ok (.invokestatic 22, 3) := by decide +kernel
theorem dX2_draft_83 : decode cX2_draft 83 = .ok (.iinc 3 1, 3) := by decide +kernel
theorem dX2_draft_86 : decode cX2_draft 86 = .ok (.goto (-36), 3) := by decide +kernel
theorem dX2_draft_89 : decode cX2_draft 89 = .ok (.return_, 1) := by decide +kernel
theorem dX10_kindle_0 : decode cX10_kindle 0 = .ok (.aload_n 1, 1) := by decide +kernel
theorem dX10_kindle_1 : decode cX10_kindle 1 = .ok (.iload_n 2, 1) := by decide +kernel
theorem dX10_kindle_2 : decode cX10_kindle 2 = .ok (.invokevirtual 18, 3) := by decide +kernel
theorem dX10_kindle_5 : decode cX10_kindle 5 = .ok (.ifCond .ne 6, 3) := by decide +kernel
theorem dX10_kindle_8 : decode cX10_kindle 8 = .ok (.bipush (-2), 2) := by decide +kernel
theorem dX10_kindle_10 : decode cX10_kindle 10 = .ok (.ireturn, 1) := by decide +kernel
theorem dX10_quench_0 : decode cX10_quench 0 = .ok (.iload_n 3, 1) := by decide +kernel
theorem dX10_quench_1 : decode cX10_quench 1 = .ok (.iconst 1, 1) := by decide +kernel
theorem dX10_quench_2 : decode cX10_quench 2 = .ok (.bipush 20, 2) := by decide +kernel
theorem dX10_quench_4 : decode cX10_quench 4 = .ok (.invokestatic 49, 3) := by decide +kernel
theorem dX10_quench_7 : decode cX10_quench 7 = .ok (.ifCond .ne 5, 3) := by decide +kernel
theorem dX10_quench_12 : decode cX10_quench 12 = .ok (.aload_n 1, 1) := by decide +kernel
theorem dX10_quench_13 : decode cX10_quench 13 = .ok (.iload_n 2, 1) := by decide +kernel
theorem dX10_quench_14 : decode cX10_quench 14 = .ok (.invokevirtual 18, 3) := by decide +kernel
theorem dX10_quench_17 : decode cX10_quench 17 = .ok (.ifCond .ne 6, 3) := by decide +kernel
theorem dX10_quench_20 : decode cX10_quench 20 = .ok (.bipush (-2), 2) := by decide +kernel
theorem dX10_quench_22 : decode cX10_quench 22 = .ok (.ireturn, 1) := by decide +kernel
theorem dX10_quench_10 : decode cX10_quench 10 = .ok (.iconst (-1), 1) := by decide +kernel
theorem dX10_quench_11 : decode cX10_quench 11 = .ok (.ireturn, 1) := by decide +kernel
theorem dX10_supply_0 : decode cX10_supply 0 = .ok (.iload_n 3, 1) := by decide +kernel
theorem dX10_supply_1 : decode cX10_supply 1 = .ok (.iconst 1, 1) := by decide +kernel
theorem dX10_supply_2 : decode cX10_supply 2 = .ok (.sipush 999, 3) := by decide +kernel
theorem dX10_supply_5 : decode cX10_supply 5 = .ok (.invokestatic 49, 3) := by decide +kernel
theorem dX10_supply_8 : decode cX10_supply 8 = .ok (.ifCond .ne 5, 3) := by decide +kernel
theorem dX10_supply_13 : decode cX10_supply 13 = .ok (.aload_n 1, 1) := by decide +kernel
theorem dX10_supply_14 : decode cX10_supply 14 = .ok (.iload_n 2, 1) := by decide +kernel
theorem dX10_supply_15 : decode cX10_supply 15 = .ok (.invokevirtual 18, 3) := by decide +kernel
theorem dX10_supply_18 : decode cX10_supply 18 = .ok (.ifCond .ne 6, 3) := by decide +kernel
theorem dX10_supply_21 : decode cX10_supply 21 = .ok (.bipush (-2), 2) := by decide +kernel
theorem dX10_supply_23 : decode cX10_supply 23 = .ok (.ireturn, 1) := by decide +kernel
theorem dX10_supply_11 : decode cX10_supply 11 = .ok (.iconst (-1), 1) := by decide +kernel
theorem dX10_supply_12 : decode cX10_supply 12 = .ok (.ireturn, 1) := by decide +kernel
theorem dX11_settle_0 : decode cX11_settle 0 = .ok (.iload_n 2, 1) := by decide +kernel
theorem dX11_settle_1 : decode cX11_settle 1 = .ok (.ifCond .ge 9, 3) := by decide +kernel
theorem dX11_settle_4 : decode cX11_settle 4 = .ok (.aload_n 0, 1) := by decide +kernel
theorem dX11_settle_5 : decode cX11_settle 5 = .ok (.iload_n 2, 1) := by decide +kernel
theorem dX11_settle_6 : decode cX11_settle 6 = .ok (.invokevirtual 101, 3) := by decide +kernel
theorem dX11_settle_9 : decode cX11_settle 9 = .ok (.ireturn, 1) := by decide +kernel
theorem dX2_keep_0 : decode cX2_keep 0 = .ok (.aload_n 0, 1) := by decide +kernel
theorem dX2_keep_1 : decode cX2_keep 1 = .ok (.getfield 11, 3) := by decide +kernel
theorem dX2_keep_4 : decode cX2_keep 4 = .ok (.aload_n 0, 1) := by decide +kernel
theorem dX2_keep_5 : decode cX2_keep 5 = .ok (.getfield 15, 3) := by decide +kernel
theorem dX2_keep_8 : decode cX2_keep 8 = .ok (.bipush 28, 2) := by decide +kernel
theorem dX2_keep_10 : decode cX2_keep 10 = .ok (.imul, 1) := by decide +kernel
theorem dX2_keep_11 : decode cX2_keep 11 = .ok (.iload_n 1, 1) := by decide +kernel
theorem dX2_keep_12 : decode cX2_keep 12 = .ok (.iastore, 1) := by decide +kernel
theorem dX2_keep_13 : decode cX2_keep 13 = .ok (.aload_n 0, 1) := by decide +kernel
theorem dX2_keep_14 : decode cX2_keep 14 = .ok (.aload_n 0, 1) := by decide +kernel
theorem dX2_keep_15 : decode cX2_keep 15 = .ok (.getfield 15, 3) := by decide +kernel
theorem dX2_keep_18 : decode cX2_keep 18 = .ok (.iconst 1, 1) := by decide +kernel
theorem dX2_keep_19 : decode cX2_keep 19 = .ok (.iadd, 1) := by decide +kernel
theorem dX2_keep_20 : decode cX2_keep 20 = .ok (.bipush 17, 2) := by decide +kernel
theorem dX2_keep_22 : decode cX2_keep 22 = .ok (.irem, 1) := by decide +kernel
theorem dX2_keep_23 : decode cX2_keep 23 = .ok (.putfield 15, 3) := by decide +kernel
theorem dX2_keep_26 : decode cX2_keep 26 = .ok (.aload_n 0, 1) := by decide +kernel
theorem dX2_keep_27 : decode cX2_keep 27 = .ok (.bipush 16, 2) := by decide +kernel
theorem dX2_keep_29 : decode cX2_keep 29 = .ok (.aload_n 0, 1) := by decide +kernel
theorem dX2_keep_30 : decode cX2_keep 30 = .ok (.getfield 19, 3) := by decide +kernel
theorem dX2_keep_33 : decode cX2_keep 33 = .ok (.iconst 1, 1) := by decide +kernel
theorem dX2_keep_34 : decode cX2_keep 34 = .ok (.iadd, 1) := by decide +kernel
theorem dX2_keep_35 : decode cX2_keep 35 = .ok (.invokestatic 43, 3) := by decide +kernel
theorem dX2_keep_38 : decode cX2_keep 38 = .ok (.putfield 19, 3) := by decide +kernel
theorem dX2_keep_41 : decode cX2_keep 41 = .ok (.return_, 1) := by decide +kernel
theorem dX11_settle_10 : decode cX11_settle 10 = .ok (.aload_n 0, 1) := by decide +kernel
theorem dX11_settle_11 : decode cX11_settle 11 = .ok (.getfield 61, 3) := by decide +kernel
theorem dX11_settle_14 : decode cX11_settle 14 = .ok (.iload_n 1, 1) := by decide +kernel
theorem dX11_settle_15 : decode cX11_settle 15 = .ok (.invokevirtual 300, 3) := by decide +kernel
theorem dX11_settle_18 : decode cX11_settle 18 = .ok (.aload_n 0, 1) := by decide +kernel
theorem dX11_settle_19 : decode cX11_settle 19 = .ok (.iload_n 2, 1) := by decide +kernel
theorem dX11_settle_20 : decode cX11_settle 20 = .ok (.invokevirtual 118, 3) := by decide +kernel
theorem dX11_settle_23 : decode cX11_settle 23 = .ok (.ireturn, 1) := by decide +kernel
theorem dX11_stoke_0 : decode cX11_stoke 0 = .ok (.aload_n 0, 1) := by decide +kernel
theorem dX11_stoke_1 : decode cX11_stoke 1 = .ok (.getfield 61, 3) := by decide +kernel
theorem dX11_stoke_4 : decode cX11_stoke 4 = .ok (.aload_n 0, 1) := by decide +kernel
theorem dX11_stoke_5 : decode cX11_stoke 5 = .ok (.getfield 10, 3) := by decide +kernel
theorem dX11_stoke_8 : decode cX11_stoke 8 = .ok (.invokevirtual 221, 3) := by decide +kernel
theorem dX11_stoke_11 : decode cX11_stoke 11 = .ok (.aload_n 0, 1) := by decide +kernel
theorem dX11_stoke_12 : decode cX11_stoke 12 = .ok (.iconst 0, 1) := by decide +kernel
theorem dX11_stoke_13 : decode cX11_stoke 13 = .ok (.aload_n 0, 1) := by decide +kernel
theorem dX11_stoke_14 : decode cX11_stoke 14 = .ok (.getfield 50, 3) := by decide +kernel
theorem dX11_stoke_17 : decode cX11_stoke 17 = .ok (.aload_n 0, 1) := by decide +kernel
theorem dX11_stoke_18 : decode cX11_stoke 18 = .ok (.getfield 10, 3) := by decide +kernel
theorem dX11_stoke_21 : decode cX11_stoke 21 = .ok (.iload_n 1, 1) := by decide +kernel
theorem dX11_stoke_22 : decode cX11_stoke 22 = .ok (.invokevirtual 225, 3) := by decide +kernel
theorem dX11_stoke_25 : decode cX11_stoke 25 = .ok (.invokevirtual 229, 3) := by decide +kernel
theorem dX11_stoke_28 : decode cX11_stoke 28 = .ok (.ireturn, 1) := by decide +kernel
theorem dX11_damp_0 : decode cX11_damp 0 = .ok (.aload_n 0, 1) := by decide +kernel
theorem dX11_damp_1 : decode cX11_damp 1 = .ok (.getfield 61, 3) := by decide +kernel
theorem dX11_damp_4 : decode cX11_damp 4 = .ok (.aload_n 0, 1) := by decide +kernel
theorem dX11_damp_5 : decode cX11_damp 5 = .ok (.getfield 10, 3) := by decide +kernel
theorem dX11_damp_8 : decode cX11_damp 8 = .ok (.invokevirtual 221, 3) := by decide +kernel
theorem dX11_damp_11 : decode cX11_damp 11 = .ok (.aload_n 0, 1) := by decide +kernel
theorem dX11_damp_12 : decode cX11_damp 12 = .ok (.iconst 1, 1) := by decide +kernel
theorem dX11_damp_13 : decode cX11_damp 13 = .ok (.aload_n 0, 1) := by decide +kernel
theorem dX11_damp_14 : decode cX11_damp 14 = .ok (.getfield 50, 3) := by decide +kernel
theorem dX11_damp_17 : decode cX11_damp 17 = .ok (.aload_n 0, 1) := by decide +kernel
theorem dX11_damp_18 : decode cX11_damp 18 = .ok (.getfield 10, 3) := by decide +kernel
theorem dX11_damp_21 : decode cX11_damp 21 = .ok (.iload_n 1, 1) := by decide +kernel
theorem dX11_damp_22 : decode cX11_damp 22 = .ok (.iload_n 2, 1) := by decide +kernel
theorem dX11_damp_23 : decode cX11_damp 23 = .ok (.invokevirtual 232, 3) := by decide +kernel
theorem dX11_damp_26 : decode cX11_damp 26 = .ok (.invokevirtual 229, 3) := by decide +kernel
theorem dX11_damp_29 : decode cX11_damp 29 = .ok (.ireturn, 1) := by decide +kernel
theorem dX11_buy_0 : decode cX11_buy 0 = .ok (.aload_n 0, 1) := by decide +kernel
theorem dX11_buy_1 : decode cX11_buy 1 = .ok (.getfield 61, 3) := by decide +kernel
theorem dX11_buy_4 : decode cX11_buy 4 = .ok (.aload_n 0, 1) := by decide +kernel
theorem dX11_buy_5 : decode cX11_buy 5 = .ok (.getfield 10, 3) := by decide +kernel
theorem dX11_buy_8 : decode cX11_buy 8 = .ok (.invokevirtual 221, 3) := by decide +kernel
theorem dX11_buy_11 : decode cX11_buy 11 = .ok (.aload_n 0, 1) := by decide +kernel
theorem dX11_buy_12 : decode cX11_buy 12 = .ok (.iconst 2, 1) := by decide +kernel
theorem dX11_buy_13 : decode cX11_buy 13 = .ok (.aload_n 0, 1) := by decide +kernel
theorem dX11_buy_14 : decode cX11_buy 14 = .ok (.getfield 50, 3) := by decide +kernel
theorem dX11_buy_17 : decode cX11_buy 17 = .ok (.aload_n 0, 1) := by decide +kernel
theorem dX11_buy_18 : decode cX11_buy 18 = .ok (.getfield 10, 3) := by decide +kernel
theorem dX11_buy_21 : decode cX11_buy 21 = .ok (.iload_n 1, 1) := by decide +kernel
theorem dX11_buy_22 : decode cX11_buy 22 = .ok (.iload_n 2, 1) := by decide +kernel
theorem dX11_buy_23 : decode cX11_buy 23 = .ok (.invokevirtual 236, 3) := by decide +kernel
theorem dX11_buy_26 : decode cX11_buy 26 = .ok (.invokevirtual 229, 3) := by decide +kernel
theorem dX11_buy_29 : decode cX11_buy 29 = .ok (.ireturn, 1) := by decide +kernel
theorem dX11_pass_0 : decode cX11_pass 0 = .ok (.aload_n 0, 1) := by decide +kernel
theorem dX11_pass_1 : decode cX11_pass 1 = .ok (.getfield 61, 3) := by decide +kernel
theorem dX11_pass_4 : decode cX11_pass 4 = .ok (.aload_n 0, 1) := by decide +kernel
theorem dX11_pass_5 : decode cX11_pass 5 = .ok (.getfield 10, 3) := by decide +kernel
theorem dX11_pass_8 : decode cX11_pass 8 = .ok (.invokevirtual 221, 3) := by decide +kernel
theorem dX11_pass_11 : decode cX11_pass 11 = .ok (.aload_n 0, 1) := by decide +kernel
theorem dX11_pass_12 : decode cX11_pass 12 = .ok (.iconst 3, 1) := by decide +kernel
theorem dX11_pass_13 : decode cX11_pass 13 = .ok (.aload_n 0, 1) := by decide +kernel
theorem dX11_pass_14 : decode cX11_pass 14 = .ok (.getfield 50, 3) := by decide +kernel
theorem dX11_pass_17 : decode cX11_pass 17 = .ok (.aload_n 0, 1) := by decide +kernel
theorem dX11_pass_18 : decode cX11_pass 18 = .ok (.getfield 10, 3) := by decide +kernel
theorem dX11_pass_21 : decode cX11_pass 21 = .ok (.invokevirtual 239, 3) := by decide +kernel
theorem dX11_pass_24 : decode cX11_pass 24 = .ok (.invokevirtual 229, 3) := by decide +kernel
theorem dX11_pass_27 : decode cX11_pass 27 = .ok (.ireturn, 1) := by decide +kernel
theorem dX2_takeBack_0 : decode cX2_takeBack 0 = .ok (.aload_n 0, 1) := by decide +kernel
theorem dX2_takeBack_1 : decode cX2_takeBack 1 = .ok (.getfield 19, 3) := by decide +kernel
theorem dX2_takeBack_4 : decode cX2_takeBack 4 = .ok (.ifCond .ne 5, 3) := by decide +kernel
theorem dX2_takeBack_7 : decode cX2_takeBack 7 = .ok (.iconst (-1), 1) := by decide +kernel
theorem dX2_takeBack_8 : decode cX2_takeBack 8 = .ok (.ireturn, 1) := by decide +kernel
theorem dX11_undo_0 : decode cX11_undo 0 = .ok (.aload_n 0, 1) := by decide +kernel
theorem dX11_undo_1 : decode cX11_undo 1 = .ok (.getfield 61, 3) := by decide +kernel
theorem dX11_undo_4 : decode cX11_undo 4 = .ok (.aload_n 0, 1) := by decide +kernel
theorem dX11_undo_5 : decode cX11_undo 5 = .ok (.getfield 10, 3) := by decide +kernel
theorem dX11_undo_8 : decode cX11_undo 8 = .ok (.invokevirtual 242, 3) := by decide +kernel
theorem dX11_undo_11 : decode cX11_undo 11 = .ok (.istore_n 1, 1) := by decide +kernel
theorem dX11_undo_12 : decode cX11_undo 12 = .ok (.iload_n 1, 1) := by decide +kernel
theorem dX11_undo_13 : decode cX11_undo 13 = .ok (.iconst (-1), 1) := by decide +kernel
theorem dX11_undo_14 : decode cX11_undo 14 = .ok (.if_icmp .ne 12, 3) := by decide +kernel
theorem dX11_undo_17 : decode cX11_undo 17 = .ok (.aload_n 0, 1) := by decide +kernel
theorem dX11_undo_18 : decode cX11_undo 18 = .ok (.bipush (-3), 2) := by decide +kernel
theorem dX11_undo_20 : decode cX11_undo 20 = .ok (.invokevirtual 101, 3) := by decide +kernel
theorem dX11_undo_23 : decode cX11_undo 23 = .ok (.goto 8, 3) := by decide +kernel
theorem dX11_undo_31 : decode cX11_undo 31 = .ok (.ireturn, 1) := by decide +kernel
theorem dX11_sounds_0 : decode cX11_sounds 0 = .ok (.iload_n 1, 1) := by decide +kernel
theorem dX11_sounds_1 : decode cX11_sounds 1 = .ok (.tableswitch 59 0 2 #[27, 35, 43], 27) := by decide +kernel
theorem dX11_sounds_28 : decode cX11_sounds 28 = .ok (.aload_n 0, 1) := by decide +kernel
theorem dX11_sounds_29 : decode cX11_sounds 29 = .ok (.getfield 10, 3) := by decide +kernel
theorem dX11_sounds_32 : decode cX11_sounds 32 = .ok (.invokevirtual 210, 3) := by decide +kernel
theorem dX11_sounds_35 : decode cX11_sounds 35 = .ok (.ireturn, 1) := by decide +kernel
theorem dX11_sounds_36 : decode cX11_sounds 36 = .ok (.aload_n 0, 1) := by decide +kernel
theorem dX11_sounds_37 : decode cX11_sounds 37 = .ok (.getfield 10, 3) := by decide +kernel
theorem dX11_sounds_40 : decode cX11_sounds 40 = .ok (.invokevirtual 214, 3) := by decide +kernel
theorem dX11_sounds_43 : decode cX11_sounds 43 = .ok (.ireturn, 1) := by decide +kernel
theorem dX11_sounds_44 : decode cX11_sounds 44 = .ok (.aload_n 0, 1) := by decide +kernel
theorem dX11_sounds_45 : decode cX11_sounds 45 = .ok (.getfield 10, 3) := by decide +kernel
theorem dX11_sounds_48 : decode cX11_sounds 48 = .ok (.invokevirtual 217, 3) := by decide +kernel
theorem dX11_sounds_51 : decode cX11_sounds 51 = .ok (.ifCond .eq 7, 3) := by decide +kernel
theorem dX11_sounds_54 : decode cX11_sounds 54 = .ok (.iconst 1, 1) := by decide +kernel
theorem dX11_sounds_55 : decode cX11_sounds 55 = .ok (.goto 4, 3) := by decide +kernel
theorem dX11_sounds_59 : decode cX11_sounds 59 = .ok (.ireturn, 1) := by decide +kernel
theorem dX11_sounds_60 : decode cX11_sounds 60 = .ok (.iconst (-1), 1) := by decide +kernel
theorem dX11_sounds_61 : decode cX11_sounds 61 = .ok (.ireturn, 1) := by decide +kernel
theorem dX11_drawn_0 : decode cX11_drawn 0 = .ok (.aload_n 0, 1) := by decide +kernel
theorem dX11_drawn_1 : decode cX11_drawn 1 = .ok (.getfield 90, 3) := by decide +kernel
theorem dX11_drawn_4 : decode cX11_drawn 4 = .ok (.ifCond .ne 5, 3) := by decide +kernel
theorem dX11_drawn_7 : decode cX11_drawn 7 = .ok (.iconst (-1), 1) := by decide +kernel
theorem dX11_drawn_8 : decode cX11_drawn 8 = .ok (.ireturn, 1) := by decide +kernel
theorem dX11_back_0 : decode cX11_back 0 = .ok (.iload_n 1, 1) := by decide +kernel
theorem dX11_back_1 : decode cX11_back 1 = .ok (.iconst 0, 1) := by decide +kernel
theorem dX11_back_2 : decode cX11_back 2 = .ok (.iconst 1, 1) := by decide +kernel
theorem dX11_back_3 : decode cX11_back 3 = .ok (.invokestatic 97, 3) := by decide +kernel
theorem dX11_back_6 : decode cX11_back 6 = .ok (.ifCond .ne 9, 3) := by decide +kernel
theorem dX11_back_15 : decode cX11_back 15 = .ok (.aload_n 0, 1) := by decide +kernel
theorem dX11_back_16 : decode cX11_back 16 = .ok (.getfield 20, 3) := by decide +kernel
theorem dX11_back_19 : decode cX11_back 19 = .ok (.iload_n 1, 1) := by decide +kernel
theorem dX11_back_20 : decode cX11_back 20 = .ok (.baload, 1) := by decide +kernel
theorem dX11_back_21 : decode cX11_back 21 = .ok (.ifCond .ne 10, 3) := by decide +kernel
theorem dX11_back_24 : decode cX11_back 24 = .ok (.aload_n 0, 1) := by decide +kernel
theorem dX11_back_25 : decode cX11_back 25 = .ok (.bipush (-2), 2) := by decide +kernel
theorem dX11_back_27 : decode cX11_back 27 = .ok (.invokevirtual 101, 3) := by decide +kernel
theorem dX11_back_30 : decode cX11_back 30 = .ok (.ireturn, 1) := by decide +kernel
theorem dX11_back_9 : decode cX11_back 9 = .ok (.aload_n 0, 1) := by decide +kernel
theorem dX11_back_10 : decode cX11_back 10 = .ok (.iconst (-1), 1) := by decide +kernel
theorem dX11_back_11 : decode cX11_back 11 = .ok (.invokevirtual 101, 3) := by decide +kernel
theorem dX11_back_14 : decode cX11_back 14 = .ok (.ireturn, 1) := by decide +kernel
theorem dX9_singing_0 : decode cX9_singing 0 = .ok (.iconst 0, 1) := by decide +kernel
theorem dX9_singing_1 : decode cX9_singing 1 = .ok (.istore_n 1, 1) := by decide +kernel
theorem dX9_singing_2 : decode cX9_singing 2 = .ok (.iconst 0, 1) := by decide +kernel
theorem dX9_singing_3 : decode cX9_singing 3 = .ok (.istore_n 2, 1) := by decide +kernel
theorem dX9_singing_4 : decode cX9_singing 4 = .ok (.iload_n 2, 1) := by decide +kernel
theorem dX9_singing_5 : decode cX9_singing 5 = .ok (.aload_n 0, 1) := by decide +kernel
theorem dX9_singing_6 : decode cX9_singing 6 = .ok (.getfield 27, 3) := by decide +kernel
theorem dX9_singing_9 : decode cX9_singing 9 = .ok (.if_icmp .ge 25, 3) := by decide +kernel
theorem dX9_singing_34 : decode cX9_singing 34 = .ok (.iload_n 1, 1) := by decide +kernel
theorem dX9_singing_35 : decode cX9_singing 35 = .ok (.ireturn, 1) := by decide +kernel
theorem dX11_count_0 : decode cX11_count 0 = .ok (.iload_n 1, 1) := by decide +kernel
theorem dX11_count_1 : decode cX11_count 1 = .ok (.bipush 6, 2) := by decide +kernel
theorem dX11_count_3 : decode cX11_count 3 = .ok (.bipush 10, 2) := by decide +kernel
theorem dX11_count_5 : decode cX11_count 5 = .ok (.invokestatic 97, 3) := by decide +kernel
theorem dX11_count_8 : decode cX11_count 8 = .ok (.ifCond .eq 13, 3) := by decide +kernel
theorem dX11_count_21 : decode cX11_count 21 = .ok (.iload_n 1, 1) := by decide +kernel
theorem dX11_count_22 : decode cX11_count 22 = .ok (.bipush 13, 2) := by decide +kernel
theorem dX11_count_24 : decode cX11_count 24 = .ok (.bipush 18, 2) := by decide +kernel
theorem dX11_count_26 : decode cX11_count 26 = .ok (.invokestatic 97, 3) := by decide +kernel
theorem dX11_count_29 : decode cX11_count 29 = .ok (.ifCond .eq 16, 3) := by decide +kernel
theorem dX11_count_45 : decode cX11_count 45 = .ok (.iload_n 1, 1) := by decide +kernel
theorem dX11_count_46 : decode cX11_count 46 = .ok (.tableswitch 130 0 12 #[66, 74, 82, 90, 98, 106, 130, 130, 130, 130, 130, 114, 122], 66) := by decide +kernel
theorem dX11_count_112 : decode cX11_count 112 = .ok (.aload_n 0, 1) := by decide +kernel
theorem dX11_count_113 : decode cX11_count 113 = .ok (.getfield 10, 3) := by decide +kernel
theorem dX11_count_116 : decode cX11_count 116 = .ok (.getfield 108, 3) := by decide +kernel
theorem dX11_count_119 : decode cX11_count 119 = .ok (.ireturn, 1) := by decide +kernel
theorem dX11_count_120 : decode cX11_count 120 = .ok (.aload_n 0, 1) := by decide +kernel
theorem dX11_count_121 : decode cX11_count 121 = .ok (.getfield 10, 3) := by decide +kernel
theorem dX11_count_124 : decode cX11_count 124 = .ok (.invokevirtual 294, 3) := by decide +kernel
theorem dX11_count_127 : decode cX11_count 127 = .ok (.ireturn, 1) := by decide +kernel
theorem dX11_count_128 : decode cX11_count 128 = .ok (.aload_n 0, 1) := by decide +kernel
theorem dX11_count_129 : decode cX11_count 129 = .ok (.getfield 10, 3) := by decide +kernel
theorem dX11_count_132 : decode cX11_count 132 = .ok (.getfield 258, 3) := by decide +kernel
theorem dX11_count_135 : decode cX11_count 135 = .ok (.ireturn, 1) := by decide +kernel
theorem dX11_count_136 : decode cX11_count 136 = .ok (.aload_n 0, 1) := by decide +kernel
theorem dX11_count_137 : decode cX11_count 137 = .ok (.getfield 10, 3) := by decide +kernel
theorem dX11_count_140 : decode cX11_count 140 = .ok (.getfield 173, 3) := by decide +kernel
theorem dX11_count_143 : decode cX11_count 143 = .ok (.ireturn, 1) := by decide +kernel
theorem dX11_count_144 : decode cX11_count 144 = .ok (.aload_n 0, 1) := by decide +kernel
theorem dX11_count_145 : decode cX11_count 145 = .ok (.getfield 61, 3) := by decide +kernel
theorem dX11_count_148 : decode cX11_count 148 = .ok (.getfield 297, 3) := by decide +kernel
theorem dX11_count_151 : decode cX11_count 151 = .ok (.ireturn, 1) := by decide +kernel
theorem dX11_count_152 : decode cX11_count 152 = .ok (.aload_n 0, 1) := by decide +kernel
theorem dX11_count_153 : decode cX11_count 153 = .ok (.getfield 38, 3) := by decide +kernel
theorem dX11_count_156 : decode cX11_count 156 = .ok (.getfield 161, 3) := by decide +kernel
theorem dX11_count_159 : decode cX11_count 159 = .ok (.ireturn, 1) := by decide +kernel
theorem dX11_count_11 : decode cX11_count 11 = .ok (.aload_n 0, 1) := by decide +kernel
theorem dX11_count_12 : decode cX11_count 12 = .ok (.getfield 79, 3) := by decide +kernel
theorem dX11_count_15 : decode cX11_count 15 = .ok (.iload_n 1, 1) := by decide +kernel
theorem dX11_count_16 : decode cX11_count 16 = .ok (.bipush 6, 2) := by decide +kernel
theorem dX11_count_18 : decode cX11_count 18 = .ok (.isub, 1) := by decide +kernel
theorem dX11_count_19 : decode cX11_count 19 = .ok (.iaload, 1) := by decide +kernel
theorem dX11_count_20 : decode cX11_count 20 = .ok (.ireturn, 1) := by decide +kernel
theorem dX11_count_160 : decode cX11_count 160 = .ok (.aload_n 0, 1) := by decide +kernel
theorem dX11_count_161 : decode cX11_count 161 = .ok (.getfield 10, 3) := by decide +kernel
theorem dX11_count_164 : decode cX11_count 164 = .ok (.getfield 203, 3) := by decide +kernel
theorem dX11_count_167 : decode cX11_count 167 = .ok (.ireturn, 1) := by decide +kernel
theorem dX11_count_168 : decode cX11_count 168 = .ok (.aload_n 0, 1) := by decide +kernel
theorem dX11_count_169 : decode cX11_count 169 = .ok (.getfield 10, 3) := by decide +kernel
theorem dX11_count_172 : decode cX11_count 172 = .ok (.getfield 291, 3) := by decide +kernel
theorem dX11_count_175 : decode cX11_count 175 = .ok (.ireturn, 1) := by decide +kernel
theorem dX11_count_32 : decode cX11_count 32 = .ok (.aload_n 0, 1) := by decide +kernel
theorem dX11_count_33 : decode cX11_count 33 = .ok (.getfield 10, 3) := by decide +kernel
theorem dX11_count_36 : decode cX11_count 36 = .ok (.getfield 158, 3) := by decide +kernel
theorem dX11_count_39 : decode cX11_count 39 = .ok (.iload_n 1, 1) := by decide +kernel
theorem dX11_count_40 : decode cX11_count 40 = .ok (.bipush 13, 2) := by decide +kernel
theorem dX11_count_42 : decode cX11_count 42 = .ok (.isub, 1) := by decide +kernel
theorem dX11_count_43 : decode cX11_count 43 = .ok (.iaload, 1) := by decide +kernel
theorem dX11_count_44 : decode cX11_count 44 = .ok (.ireturn, 1) := by decide +kernel
theorem dX11_count_176 : decode cX11_count 176 = .ok (.iconst (-1), 1) := by decide +kernel
theorem dX11_count_177 : decode cX11_count 177 = .ok (.ireturn, 1) := by decide +kernel
theorem dX4_mapSets_0 : decode cX4_mapSets 0 = .ok (.iconst 1, 1) := by decide +kernel
theorem dX4_mapSets_1 : decode cX4_mapSets 1 = .ok (.istore_n 2, 1) := by decide +kernel
theorem dX4_mapSets_2 : decode cX4_mapSets 2 = .ok (.iconst 0, 1) := by decide +kernel
theorem dX4_mapSets_3 : decode cX4_mapSets 3 = .ok (.istore_n 3, 1) := by decide +kernel
theorem dX4_mapSets_4 : decode cX4_mapSets 4 = .ok (.iload_n 3, 1) := by decide +kernel
theorem dX4_mapSets_5 : decode cX4_mapSets 5 = .ok (.aload_n 1, 1) := by decide +kernel
theorem dX4_mapSets_6 : decode cX4_mapSets 6 = .ok (.getfield 27, 3) := by decide +kernel
theorem dX4_mapSets_9 : decode cX4_mapSets 9 = .ok (.if_icmp .ge 59, 3) := by decide +kernel
theorem dX4_mapSets_68 : decode cX4_mapSets 68 = .ok (.iload_n 2, 1) := by decide +kernel
theorem dX4_mapSets_69 : decode cX4_mapSets 69 = .ok (.ireturn, 1) := by decide +kernel
theorem dX4_hillSet_0 : decode cX4_hillSet 0 = .ok (.aload_n 0, 1) := by decide +kernel
theorem dX4_hillSet_1 : decode cX4_hillSet 1 = .ok (.aload_n 1, 1) := by decide +kernel
theorem dX4_hillSet_2 : decode cX4_hillSet 2 = .ok (.invokevirtual 77, 3) := by decide +kernel
theorem dX4_hillSet_5 : decode cX4_hillSet 5 = .ok (.istore_n 3, 1) := by decide +kernel
theorem dX4_hillSet_6 : decode cX4_hillSet 6 = .ok (.iconst 0, 1) := by decide +kernel
theorem dX4_hillSet_7 : decode cX4_hillSet 7 = .ok (.istore 4, 2) := by decide +kernel
theorem dX4_hillSet_9 : decode cX4_hillSet 9 = .ok (.iconst 0, 1) := by decide +kernel
theorem dX4_hillSet_10 : decode cX4_hillSet 10 = .ok (.istore 5, 2) := by decide +kernel
theorem dX4_hillSet_12 : decode cX4_hillSet 12 = .ok (.iload 5, 2) := by decide +kernel
theorem dX4_hillSet_14 : decode cX4_hillSet 14 = .ok (.iload_n 3, 1) := by decide +kernel
theorem dX4_hillSet_15 : decode cX4_hillSet 15 = .ok (.if_icmp .ge 35, 3) := by decide +kernel
theorem dX4_hillSet_18 : decode cX4_hillSet 18 = .ok (.aload_n 0, 1) := by decide +kernel
theorem dX4_hillSet_19 : decode cX4_hillSet 19 = .ok (.getfield 24, 3) := by decide +kernel
theorem dX4_hillSet_22 : decode cX4_hillSet 22 = .ok (.iload 5, 2) := by decide +kernel
theorem dX4_hillSet_24 : decode cX4_hillSet 24 = .ok (.iaload, 1) := by decide +kernel
theorem dX4_hillSet_25 : decode cX4_hillSet 25 = .ok (.aload_n 1, 1) := by decide +kernel
theorem dX4_hillSet_26 : decode cX4_hillSet 26 = .ok (.getfield 81, 3) := by decide +kernel
theorem dX4_hillSet_29 : decode cX4_hillSet 29 = .ok (.if_icmp .ne 15, 3) := by decide +kernel
theorem dX4_hillSet_32 : decode cX4_hillSet 32 = .ok (.iload 4, 2) := by decide +kernel
theorem dX4_hillSet_34 : decode cX4_hillSet 34 = .ok (.iload_n 2, 1) := by decide +kernel
theorem dX4_hillSet_35 : decode cX4_hillSet 35 = .ok (.if_icmp .ne 6, 3) := by decide +kernel
theorem dX4_hillSet_41 : decode cX4_hillSet 41 = .ok (.iinc 4 1, 3) := by decide +kernel
theorem dX4_hillSet_44 : decode cX4_hillSet 44 = .ok (.iinc 5 1, 3) := by decide +kernel
theorem dX4_hillSet_47 : decode cX4_hillSet 47 = .ok (.goto (-35), 3) := by decide +kernel
theorem dX4_hillSet_50 : decode cX4_hillSet 50 = .ok (.iload_n 2, 1) := by decide +kernel
theorem dX4_hillSet_51 : decode cX4_hillSet 51 = .ok (.iconst (-1), 1) := by decide +kernel
theorem dX4_hillSet_52 : decode cX4_hillSet 52 = .ok (.if_icmp .ne 8, 3) := by decide +kernel
theorem dX4_hillSet_60 : decode cX4_hillSet 60 = .ok (.iconst (-1), 1) := by decide +kernel
theorem dX4_hillSet_61 : decode cX4_hillSet 61 = .ok (.ireturn, 1) := by decide +kernel
theorem dX4_hillSet_55 : decode cX4_hillSet 55 = .ok (.iload 4, 2) := by decide +kernel
theorem dX4_hillSet_57 : decode cX4_hillSet 57 = .ok (.goto 4, 3) := by decide +kernel
theorem dX4_hillSet_38 : decode cX4_hillSet 38 = .ok (.iload 5, 2) := by decide +kernel
theorem dX4_hillSet_40 : decode cX4_hillSet 40 = .ok (.ireturn, 1) := by decide +kernel
theorem dX11_hill_0 : decode cX11_hill 0 = .ok (.aload_n 0, 1) := by decide +kernel
theorem dX11_hill_1 : decode cX11_hill 1 = .ok (.getfield 75, 3) := by decide +kernel
theorem dX11_hill_4 : decode cX11_hill 4 = .ok (.aload_n 0, 1) := by decide +kernel
theorem dX11_hill_5 : decode cX11_hill 5 = .ok (.getfield 10, 3) := by decide +kernel
theorem dX11_hill_8 : decode cX11_hill 8 = .ok (.iload_n 1, 1) := by decide +kernel
theorem dX11_hill_9 : decode cX11_hill 9 = .ok (.invokevirtual 264, 3) := by decide +kernel
theorem dX11_hill_12 : decode cX11_hill 12 = .ok (.ireturn, 1) := by decide +kernel
theorem dX4_question_0 : decode cX4_question 0 = .ok (.aload_n 0, 1) := by decide +kernel
theorem dX4_question_1 : decode cX4_question 1 = .ok (.aload_n 1, 1) := by decide +kernel
theorem dX4_question_2 : decode cX4_question 2 = .ok (.iconst (-1), 1) := by decide +kernel
theorem dX4_question_3 : decode cX4_question 3 = .ok (.invokevirtual 84, 3) := by decide +kernel
theorem dX4_question_6 : decode cX4_question 6 = .ok (.istore_n 3, 1) := by decide +kernel
theorem dX4_question_7 : decode cX4_question 7 = .ok (.iconst (-1), 1) := by decide +kernel
theorem dX4_question_8 : decode cX4_question 8 = .ok (.istore 4, 2) := by decide +kernel
theorem dX4_question_10 : decode cX4_question 10 = .ok (.iload_n 3, 1) := by decide +kernel
theorem dX4_question_11 : decode cX4_question 11 = .ok (.iconst 1, 1) := by decide +kernel
theorem dX4_question_12 : decode cX4_question 12 = .ok (.iadd, 1) := by decide +kernel
theorem dX4_question_13 : decode cX4_question 13 = .ok (.istore 5, 2) := by decide +kernel
theorem dX4_question_15 : decode cX4_question 15 = .ok (.iconst 0, 1) := by decide +kernel
theorem dX4_question_16 : decode cX4_question 16 = .ok (.istore 6, 2) := by decide +kernel
theorem dX4_question_18 : decode cX4_question 18 = .ok (.iload 6, 2) := by decide +kernel
theorem dX4_question_20 : decode cX4_question 20 = .ok (.aload_n 1, 1) := by decide +kernel
theorem dX4_question_21 : decode cX4_question 21 = .ok (.getfield 27, 3) := by decide +kernel
theorem dX4_question_24 : decode cX4_question 24 = .ok (.if_icmp .ge 48, 3) := by decide +kernel
theorem dX4_question_72 : decode cX4_question 72 = .ok (.iload 4, 2) := by decide +kernel
theorem dX4_question_74 : decode cX4_question 74 = .ok (.iconst (-1), 1) := by decide +kernel
theorem dX4_question_75 : decode cX4_question 75 = .ok (.if_icmp .eq 7, 3) := by decide +kernel
theorem dX4_question_82 : decode cX4_question 82 = .ok (.iload 4, 2) := by decide +kernel
theorem dX4_question_84 : decode cX4_question 84 = .ok (.goto 5, 3) := by decide +kernel
theorem dX4_question_89 : decode cX4_question 89 = .ok (.ireturn, 1) := by decide +kernel
theorem dX11_ask_0 : decode cX11_ask 0 = .ok (.iload_n 1, 1) := by decide +kernel
theorem dX11_ask_1 : decode cX11_ask 1 = .ok (.iconst 0, 1) := by decide +kernel
theorem dX11_ask_2 : decode cX11_ask 2 = .ok (.iconst 1, 1) := by decide +kernel
theorem dX11_ask_3 : decode cX11_ask 3 = .ok (.invokestatic 97, 3) := by decide +kernel
theorem dX11_ask_6 : decode cX11_ask 6 = .ok (.ifCond .eq 18, 3) := by decide +kernel
theorem dX11_ask_9 : decode cX11_ask 9 = .ok (.aload_n 0, 1) := by decide +kernel
theorem dX11_ask_10 : decode cX11_ask 10 = .ok (.getfield 75, 3) := by decide +kernel
theorem dX11_ask_13 : decode cX11_ask 13 = .ok (.aload_n 0, 1) := by decide +kernel
theorem dX11_ask_14 : decode cX11_ask 14 = .ok (.getfield 10, 3) := by decide +kernel
theorem dX11_ask_17 : decode cX11_ask 17 = .ok (.iload_n 1, 1) := by decide +kernel
theorem dX11_ask_18 : decode cX11_ask 18 = .ok (.invokevirtual 267, 3) := by decide +kernel
theorem dX11_ask_21 : decode cX11_ask 21 = .ok (.goto 4, 3) := by decide +kernel
theorem dX11_ask_25 : decode cX11_ask 25 = .ok (.ireturn, 1) := by decide +kernel
theorem dX11_ask_24 : decode cX11_ask 24 = .ok (.iconst (-1), 1) := by decide +kernel
theorem dX9_lawAt_0 : decode cX9_lawAt 0 = .ok (.iload_n 1, 1) := by decide +kernel
theorem dX9_lawAt_1 : decode cX9_lawAt 1 = .ok (.iconst 0, 1) := by decide +kernel
theorem dX9_lawAt_2 : decode cX9_lawAt 2 = .ok (.aload_n 0, 1) := by decide +kernel
theorem dX9_lawAt_3 : decode cX9_lawAt 3 = .ok (.getfield 31, 3) := by decide +kernel
theorem dX9_lawAt_6 : decode cX9_lawAt 6 = .ok (.iconst 1, 1) := by decide +kernel
theorem dX9_lawAt_7 : decode cX9_lawAt 7 = .ok (.isub, 1) := by decide +kernel
theorem dX9_lawAt_8 : decode cX9_lawAt 8 = .ok (.invokestatic 52, 3) := by decide +kernel
theorem dX9_lawAt_11 : decode cX9_lawAt 11 = .ok (.ifCond .eq 12, 3) := by decide +kernel
theorem dX9_lawAt_23 : decode cX9_lawAt 23 = .ok (.aconst_null, 1) := by decide +kernel
theorem dX9_lawAt_24 : decode cX9_lawAt 24 = .ok (.areturn, 1) := by decide +kernel
theorem dX5_coalBy_0 : decode cX5_coalBy 0 = .ok (.iconst 0, 1) := by decide +kernel
theorem dX5_coalBy_1 : decode cX5_coalBy 1 = .ok (.istore 4, 2) := by decide +kernel
theorem dX5_coalBy_3 : decode cX5_coalBy 3 = .ok (.iconst 0, 1) := by decide +kernel
theorem dX5_coalBy_4 : decode cX5_coalBy 4 = .ok (.istore 5, 2) := by decide +kernel
theorem dX5_coalBy_6 : decode cX5_coalBy 6 = .ok (.iload 5, 2) := by decide +kernel
theorem dX5_coalBy_8 : decode cX5_coalBy 8 = .ok (.aload_n 1, 1) := by decide +kernel
theorem dX5_coalBy_9 : decode cX5_coalBy 9 = .ok (.getfield 76, 3) := by decide +kernel
theorem dX5_coalBy_12 : decode cX5_coalBy 12 = .ok (.if_icmp .ge 112, 3) := by decide +kernel
theorem dX5_coalBy_124 : decode cX5_coalBy 124 = .ok (.iload 4, 2) := by decide +kernel
theorem dX5_coalBy_126 : decode cX5_coalBy 126 = .ok (.ireturn, 1) := by decide +kernel
theorem dX11_compare_0 : decode cX11_compare 0 = .ok (.iload_n 1, 1) := by decide +kernel
theorem dX11_compare_1 : decode cX11_compare 1 = .ok (.iconst (-1), 1) := by decide +kernel
theorem dX11_compare_2 : decode cX11_compare 2 = .ok (.aload_n 0, 1) := by decide +kernel
theorem dX11_compare_3 : decode cX11_compare 3 = .ok (.getfield 10, 3) := by decide +kernel
theorem dX11_compare_6 : decode cX11_compare 6 = .ok (.getfield 173, 3) := by decide +kernel
theorem dX11_compare_9 : decode cX11_compare 9 = .ok (.iconst 1, 1) := by decide +kernel
theorem dX11_compare_10 : decode cX11_compare 10 = .ok (.isub, 1) := by decide +kernel
theorem dX11_compare_11 : decode cX11_compare 11 = .ok (.invokestatic 97, 3) := by decide +kernel
theorem dX11_compare_14 : decode cX11_compare 14 = .ok (.ifCond .eq 13, 3) := by decide +kernel
theorem dX11_compare_17 : decode cX11_compare 17 = .ok (.iload_n 2, 1) := by decide +kernel
theorem dX11_compare_18 : decode cX11_compare 18 = .ok (.iconst 1, 1) := by decide +kernel
theorem dX11_compare_19 : decode cX11_compare 19 = .ok (.bipush 60, 2) := by decide +kernel
theorem dX11_compare_21 : decode cX11_compare 21 = .ok (.invokestatic 97, 3) := by decide +kernel
theorem dX11_compare_24 : decode cX11_compare 24 = .ok (.ifCond .ne 5, 3) := by decide +kernel
theorem dX11_compare_29 : decode cX11_compare 29 = .ok (.aload_n 0, 1) := by decide +kernel
theorem dX11_compare_30 : decode cX11_compare 30 = .ok (.getfield 68, 3) := by decide +kernel
theorem dX11_compare_33 : decode cX11_compare 33 = .ok (.aload_n 0, 1) := by decide +kernel
theorem dX11_compare_34 : decode cX11_compare 34 = .ok (.getfield 10, 3) := by decide +kernel
theorem dX11_compare_37 : decode cX11_compare 37 = .ok (.aload_n 0, 1) := by decide +kernel
theorem dX11_compare_38 : decode cX11_compare 38 = .ok (.getfield 10, 3) := by decide +kernel
theorem dX11_compare_41 : decode cX11_compare 41 = .ok (.iload_n 1, 1) := by decide +kernel
theorem dX11_compare_42 : decode cX11_compare 42 = .ok (.invokevirtual 276, 3) := by decide +kernel
theorem dX11_compare_45 : decode cX11_compare 45 = .ok (.iload_n 2, 1) := by decide +kernel
theorem dX11_compare_46 : decode cX11_compare 46 = .ok (.invokevirtual 280, 3) := by decide +kernel
theorem dX11_compare_49 : decode cX11_compare 49 = .ok (.ireturn, 1) := by decide +kernel
theorem dX11_compare_27 : decode cX11_compare 27 = .ok (.iconst (-1), 1) := by decide +kernel
theorem dX11_compare_28 : decode cX11_compare 28 = .ok (.ireturn, 1) := by decide +kernel
set_option maxRecDepth 20000 in
theorem ggX11_refuse_X11_within : GoodIn wsX11_refuse wsX11_within := goodIn_r _ [6] (by decide +kernel) (by decide +kernel)
set_option maxRecDepth 20000 in
theorem gX11_refuse_X11_within : GoodIn wsX11_refuse (va_wsS RX11 97 yX11_within wsX11_within) := goodIn_app (goodIn_of _ (by decide +kernel)) ggX11_refuse_X11_within
set_option maxRecDepth 20000 in
theorem ggX11_hear_X11_within : GoodIn wsX11_hear wsX11_within := goodIn_r _ [5] (by decide +kernel) (by decide +kernel)
set_option maxRecDepth 20000 in
theorem gX11_hear_X11_within : GoodIn wsX11_hear (va_wsS RX11 97 yX11_within wsX11_within) := goodIn_app (goodIn_of _ (by decide +kernel)) ggX11_hear_X11_within
set_option maxRecDepth 20000 in
theorem ggX11_hear_X11_accept : GoodIn wsX11_hear wsX11_accept := goodIn_r _ [15, 11, 16, 17, 18, 19, 20, 21, 22, 23, 24, 25, 26, 27, 28, 29, 30, 31, 32] (by decide +kernel) (by decide +kernel)
set_option maxRecDepth 20000 in
theorem gX11_hear_X11_accept : GoodIn wsX11_hear (wsV RX11 118 RX11 yX11_accept wsX11_accept) := goodIn_app (goodIn_of _ (by decide +kernel)) ggX11_hear_X11_accept
set_option maxRecDepth 20000 in
theorem ggX11_hear_X11_refuse : GoodIn wsX11_hear wsX11_refuse := goodIn_r _ [9, 10, 11, 2, 3, 4, 5, 16, 17, 18, 19, 20, 21, 22, 23, 24, 25, 26, 27, 28, 29, 30, 31, 32] (by decide +kernel) (by decide +kernel)
set_option maxRecDepth 20000 in
theorem gX11_hear_X11_refuse : GoodIn wsX11_hear (wsV RX11 101 RX11 yX11_refuse wsX11_refuse) := goodIn_app (goodIn_of _ (by decide +kernel)) ggX11_hear_X11_refuse
set_option maxRecDepth 20000 in
theorem ggX11_of_X9_has : GoodIn wsX11_of wsX9_has := goodIn_r _ [6, 7, 86, 87, 88, 89, 90, 91, 92, 93, 94, 95] (by decide +kernel) (by decide +kernel)
set_option maxRecDepth 20000 in
theorem gX11_of_X9_has_n121 : GoodIn wsX11_of (wsX9_has) := ggX11_of_X9_has
set_option maxRecDepth 20000 in
theorem ggX11_least_X9_has : GoodIn wsX11_least wsX9_has := goodIn_r _ [6, 7, 101, 102, 103, 104, 105, 106, 107, 108, 109, 110] (by decide +kernel) (by decide +kernel)
set_option maxRecDepth 20000 in
theorem gX11_least_X9_has_n121 : GoodIn wsX11_least (wsX9_has) := ggX11_least_X9_has
set_option maxRecDepth 20000 in
theorem ggX11_rings_X9_has : GoodIn wsX11_rings wsX9_has := goodIn_r _ [6, 7, 50, 51, 52, 53, 54, 55, 56, 57, 58, 59] (by decide +kernel) (by decide +kernel)
set_option maxRecDepth 20000 in
theorem gX11_rings_X9_has_n121 : GoodIn wsX11_rings (wsX9_has) := ggX11_rings_X9_has
set_option maxRecDepth 20000 in
theorem ggX11_chord_X9_chordAt : GoodIn wsX11_chord wsX9_chordAt := goodIn_r _ [5, 6, 24, 25, 26, 27, 28, 29, 30, 31, 32, 33] (by decide +kernel) (by decide +kernel)
set_option maxRecDepth 20000 in
theorem gX11_chord_X9_chordAt_n146 : GoodIn wsX11_chord (wsX9_chordAt) := ggX11_chord_X9_chordAt
set_option maxRecDepth 20000 in
theorem ggX11_score_X11_within : GoodIn wsX11_score wsX11_within := goodIn_r _ [5] (by decide +kernel) (by decide +kernel)
set_option maxRecDepth 20000 in
theorem gX11_score_X11_within : GoodIn wsX11_score (va_wsS RX11 97 yX11_within wsX11_within) := goodIn_app (goodIn_of _ (by decide +kernel)) ggX11_score_X11_within
set_option maxRecDepth 20000 in
theorem ggX11_score_X9_chordAt : GoodIn wsX11_score wsX9_chordAt := goodIn_r _ [15, 16, 38, 39, 40, 41, 42, 43, 44, 45, 46, 47] (by decide +kernel) (by decide +kernel)
set_option maxRecDepth 20000 in
theorem gX11_score_X9_chordAt_n146 : GoodIn wsX11_score (wsX9_chordAt) := ggX11_score_X9_chordAt
set_option maxRecDepth 20000 in
theorem ggX11_score_X11_accept : GoodIn wsX11_score wsX11_accept := goodIn_r _ [20, 11, 21, 22, 23, 24, 25, 26, 27, 28, 29, 30, 31, 32, 33, 34, 35, 36, 37] (by decide +kernel) (by decide +kernel)
set_option maxRecDepth 20000 in
theorem gX11_score_X11_accept : GoodIn wsX11_score (wsV RX11 118 RX11 yX11_accept wsX11_accept) := goodIn_app (goodIn_of _ (by decide +kernel)) ggX11_score_X11_accept
set_option maxRecDepth 20000 in
theorem ggX11_score_X11_refuse : GoodIn wsX11_score wsX11_refuse := goodIn_r _ [9, 10, 11, 2, 3, 4, 5, 21, 22, 23, 24, 25, 26, 27, 28, 29, 30, 31, 32, 33, 34, 35, 36, 37] (by decide +kernel) (by decide +kernel)
set_option maxRecDepth 20000 in
theorem gX11_score_X11_refuse : GoodIn wsX11_score (wsV RX11 101 RX11 yX11_refuse wsX11_refuse) := goodIn_app (goodIn_of _ (by decide +kernel)) ggX11_score_X11_refuse
set_option maxRecDepth 20000 in
theorem ggX9_put_X11_within : GoodIn wsX9_put wsX11_within := goodIn_r _ [4] (by decide +kernel) (by decide +kernel)
set_option maxRecDepth 20000 in
theorem gX9_put_X11_within_n52 : GoodIn wsX9_put (wsX11_within) := ggX9_put_X11_within
set_option maxRecDepth 20000 in
theorem ggX9_build_X9_put : GoodIn wsX9_build wsX9_put := goodIn_r _ [6, 7, 8, 9, 10, 11, 12, 13, 14, 15, 16, 17, 18, 19, 20] (by decide +kernel) (by decide +kernel)
set_option maxRecDepth 20000 in
theorem gX9_build_X9_put : GoodIn wsX9_build (wsV RX9 60 RX9 yX9_put wsX9_put) := goodIn_app (goodIn_of _ (by decide +kernel)) ggX9_build_X9_put
set_option maxRecDepth 20000 in
theorem ggX11_house_X11_within : GoodIn wsX11_house wsX11_within := goodIn_r _ [6] (by decide +kernel) (by decide +kernel)
set_option maxRecDepth 20000 in
theorem gX11_house_X11_within : GoodIn wsX11_house (va_wsS RX11 97 yX11_within wsX11_within) := goodIn_app (goodIn_of _ (by decide +kernel)) ggX11_house_X11_within
set_option maxRecDepth 20000 in
theorem ggX11_house_X9_dinerOf : GoodIn wsX11_house wsX9_dinerOf := goodIn_r _ [16, 17, 18, 19, 20, 14, 21, 22, 56, 57, 58, 59, 60, 61, 62, 63, 64, 65] (by decide +kernel) (by decide +kernel)
set_option maxRecDepth 20000 in
theorem gX11_house_X9_dinerOf_n105 : GoodIn wsX11_house (wsX9_dinerOf) := ggX11_house_X9_dinerOf
set_option maxRecDepth 20000 in
theorem ggX11_house_X2_clear : GoodIn wsX11_house wsX2_clear := goodIn_r _ [26, 27, 66, 67, 68] (by decide +kernel) (by decide +kernel)
set_option maxRecDepth 20000 in
theorem gX11_house_X2_clear_n111 : GoodIn wsX11_house (wsX2_clear) := ggX11_house_X2_clear
set_option maxRecDepth 20000 in
theorem ggX11_house_X9_build : GoodIn wsX11_house wsX9_build := goodIn_r _ [30, 17, 31, 32, 33, 14, 34, 22, 4, 5, 6, 56, 57, 58, 59, 60, 61, 62, 63, 64, 65] (by decide +kernel) (by decide +kernel)
set_option maxRecDepth 20000 in
theorem gX11_house_X9_build_n114 : GoodIn wsX11_house (wsX9_build) := ggX11_house_X9_build
set_option maxRecDepth 20000 in
theorem ggX11_house_X11_accept : GoodIn wsX11_house wsX11_accept := goodIn_r _ [38, 12, 39, 40, 41, 42, 43, 44, 45, 46, 47, 48, 49, 50, 51, 52, 53, 54, 55] (by decide +kernel) (by decide +kernel)
set_option maxRecDepth 20000 in
theorem gX11_house_X11_accept : GoodIn wsX11_house (wsV RX11 118 RX11 yX11_accept wsX11_accept) := goodIn_app (goodIn_of _ (by decide +kernel)) ggX11_house_X11_accept
set_option maxRecDepth 20000 in
theorem ggX11_house_X11_refuse : GoodIn wsX11_house wsX11_refuse := goodIn_r _ [10, 11, 12, 3, 4, 5, 6, 39, 40, 41, 42, 43, 44, 45, 46, 47, 48, 49, 50, 51, 52, 53, 54, 55] (by decide +kernel) (by decide +kernel)
set_option maxRecDepth 20000 in
theorem gX11_house_X11_refuse : GoodIn wsX11_house (wsV RX11 101 RX11 yX11_refuse wsX11_refuse) := goodIn_app (goodIn_of _ (by decide +kernel)) ggX11_house_X11_refuse
set_option maxRecDepth 20000 in
theorem ggX11_feed_X8_take : GoodIn wsX11_feed wsX8_take := goodIn_r _ [5, 6, 7, 25, 26, 27, 28, 29, 30] (by decide +kernel) (by decide +kernel)
set_option maxRecDepth 20000 in
theorem gX11_feed_X8_take_n166 : GoodIn wsX11_feed (wsX8_take) := ggX11_feed_X8_take
set_option maxRecDepth 20000 in
theorem ggX11_end_X11_within : GoodIn wsX11_end wsX11_within := goodIn_r _ [5] (by decide +kernel) (by decide +kernel)
set_option maxRecDepth 20000 in
theorem gX11_end_X11_within : GoodIn wsX11_end (va_wsS RX11 97 yX11_within wsX11_within) := goodIn_app (goodIn_of _ (by decide +kernel)) ggX11_end_X11_within
set_option maxRecDepth 20000 in
theorem ggX11_row_X11_refuse : GoodIn wsX11_row wsX11_refuse := goodIn_r _ [8, 9, 10, 11, 12, 7, 13, 24, 25, 26, 27, 28, 29, 30, 31, 32, 33, 34, 35, 36, 37, 38, 39, 40] (by decide +kernel) (by decide +kernel)
set_option maxRecDepth 20000 in
theorem gX11_row_X11_refuse : GoodIn wsX11_row (wsV RX11 101 RX11 yX11_refuse wsX11_refuse) := goodIn_app (goodIn_of _ (by decide +kernel)) ggX11_row_X11_refuse
set_option maxRecDepth 20000 in
theorem ggX11_force_X11_accept : GoodIn wsX11_force wsX11_accept := goodIn_r _ [15, 11, 16, 17, 18, 19, 20, 21, 22, 23, 24, 25, 26, 27, 28, 29, 30, 31, 32] (by decide +kernel) (by decide +kernel)
set_option maxRecDepth 20000 in
theorem gX11_force_X11_accept : GoodIn wsX11_force (wsV RX11 118 RX11 yX11_accept wsX11_accept) := goodIn_app (goodIn_of _ (by decide +kernel)) ggX11_force_X11_accept
set_option maxRecDepth 20000 in
theorem ggX11_force_X11_within : GoodIn wsX11_force wsX11_within := goodIn_r _ [5] (by decide +kernel) (by decide +kernel)
set_option maxRecDepth 20000 in
theorem gX11_force_X11_within : GoodIn wsX11_force (va_wsS RX11 97 yX11_within wsX11_within) := goodIn_app (goodIn_of _ (by decide +kernel)) ggX11_force_X11_within
set_option maxRecDepth 20000 in
theorem ggX11_force_X11_refuse : GoodIn wsX11_force wsX11_refuse := goodIn_r _ [9, 10, 11, 2, 3, 4, 5, 16, 17, 18, 19, 20, 21, 22, 23, 24, 25, 26, 27, 28, 29, 30, 31, 32] (by decide +kernel) (by decide +kernel)
set_option maxRecDepth 20000 in
theorem gX11_force_X11_refuse : GoodIn wsX11_force (wsV RX11 101 RX11 yX11_refuse wsX11_refuse) := goodIn_app (goodIn_of _ (by decide +kernel)) ggX11_force_X11_refuse
set_option maxRecDepth 20000 in
theorem ggX11_discord_X10_discords : GoodIn wsX11_discord wsX10_discords := goodIn_r _ [6, 7, 8, 9, 10, 11, 12, 13, 14, 15, 16, 17, 18, 19, 20, 21, 22, 23, 24, 25, 26, 27, 28, 29, 30, 31, 32, 33, 34, 35, 36, 37, 38, 39, 40, 41, 42, 43, 44, 45, 46, 47, 48, 49, 50, 51, 52, 53, 54, 55, 56, 57, 58, 59, 60, 61, 62, 63, 64, 65, 66, 67, 68, 69, 70, 71, 72, 73, 74, 75, 76, 77, 95, 96, 97, 98, 99, 100, 101, 102, 103, 104, 105, 106, 107, 108, 109, 110, 111, 112, 113] (by decide +kernel) (by decide +kernel)
set_option maxRecDepth 20000 in
theorem gX11_discord_X10_discords_n206 : GoodIn wsX11_discord (wsX10_discords) := ggX11_discord_X10_discords
set_option maxRecDepth 20000 in
theorem ggX9_thirdsNow_X9_notesNow : GoodIn wsX9_thirdsNow wsX9_notesNow := goodIn_r _ [5, 6, 7, 8, 9, 4, 10, 11, 12, 13, 14, 15, 16, 17, 18, 19, 20, 21, 22, 23, 24, 25, 26, 27, 28, 29, 30] (by decide +kernel) (by decide +kernel)
set_option maxRecDepth 20000 in
theorem gX9_thirdsNow_X9_notesNow : GoodIn wsX9_thirdsNow (wsV RX9 81 RX9 yX9_notesNow wsX9_notesNow) := goodIn_app (goodIn_of _ (by decide +kernel)) ggX9_thirdsNow_X9_notesNow
set_option maxRecDepth 20000 in
theorem ggX9_meetsChord_X9_chordAt : GoodIn wsX9_meetsChord wsX9_chordAt := goodIn_r _ [6, 7, 26, 27, 28, 29, 30, 31, 32, 33, 34, 35] (by decide +kernel) (by decide +kernel)
set_option maxRecDepth 20000 in
theorem gX9_meetsChord_X9_chordAt : GoodIn wsX9_meetsChord (wsV RX9 85 RX9 yX9_chordAt wsX9_chordAt) := goodIn_app (goodIn_of _ (by decide +kernel)) ggX9_meetsChord_X9_chordAt
set_option maxRecDepth 20000 in
theorem ggX9_meetsChord_X9_notesNow : GoodIn wsX9_meetsChord wsX9_notesNow := goodIn_r _ [11, 12, 13, 14, 15, 5, 16, 17, 18, 19, 20, 21, 22, 23, 24, 25, 1, 26, 27, 28, 29, 30, 31, 32, 33, 34, 35] (by decide +kernel) (by decide +kernel)
set_option maxRecDepth 20000 in
theorem gX9_meetsChord_X9_notesNow : GoodIn wsX9_meetsChord (wsV RX9 81 RX9 yX9_notesNow wsX9_notesNow) := goodIn_app (goodIn_of _ (by decide +kernel)) ggX9_meetsChord_X9_notesNow
set_option maxRecDepth 20000 in
theorem ggX10_nextHour_X9_meetsChord : GoodIn wsX10_nextHour wsX9_meetsChord := goodIn_r _ [9, 10, 11, 12, 13, 7, 14, 15, 16, 17, 18, 19, 20, 21, 22, 23, 24, 25, 26, 27, 28, 29, 30, 31, 32, 33, 101, 102, 103, 104, 105, 106, 107, 108, 109, 110] (by decide +kernel) (by decide +kernel)
set_option maxRecDepth 20000 in
theorem gX10_nextHour_X9_meetsChord_n60 : GoodIn wsX10_nextHour (wsX9_meetsChord) := ggX10_nextHour_X9_meetsChord
set_option maxRecDepth 20000 in
theorem ggX10_nextHour_X10_discords : GoodIn wsX10_nextHour wsX10_discords := goodIn_r _ [38, 39, 22, 7, 23, 24, 25, 26, 27, 28, 29, 30, 31, 32, 33, 10, 40, 41, 42, 43, 44, 4, 45, 46, 47, 48, 49, 50, 51, 52, 53, 54, 55, 56, 57, 58, 59, 60, 61, 62, 63, 64, 65, 66, 67, 68, 69, 70, 71, 3, 5, 72, 73, 74, 75, 76, 77, 78, 79, 80, 81, 82, 83, 84, 85, 86, 87, 88, 89, 90, 91, 92, 101, 102, 103, 104, 105, 106, 107, 108, 109, 110, 111, 112, 113, 114, 115, 116, 117, 118, 119] (by decide +kernel) (by decide +kernel)
set_option maxRecDepth 20000 in
theorem gX10_nextHour_X10_discords : GoodIn wsX10_nextHour (wsV RX10 69 RX10 yX10_discords wsX10_discords) := goodIn_app (goodIn_of _ (by decide +kernel)) ggX10_nextHour_X10_discords
set_option maxRecDepth 20000 in
theorem ggX10_nextHour_X10_burnDown : GoodIn wsX10_nextHour wsX10_burnDown := goodIn_r _ [96, 39, 2, 3, 4, 5, 97, 73, 74, 26, 7, 27, 28, 29, 46, 47, 48, 49, 50, 98, 99, 100, 64, 65, 66, 54, 55, 56, 57, 58, 59, 60, 61, 62, 63, 67, 68, 69, 70, 71, 72, 75, 76, 77, 78, 79, 80, 81, 82, 83, 84, 85, 86, 87, 88, 89, 90, 91, 92, 101, 102, 103, 104, 105, 106, 107, 108, 109, 110, 111, 112, 113, 114, 115, 116, 117, 118, 119] (by decide +kernel) (by decide +kernel)
set_option maxRecDepth 20000 in
theorem gX10_nextHour_X10_burnDown : GoodIn wsX10_nextHour (wsV RX10 73 RX10 yX10_burnDown wsX10_burnDown) := goodIn_app (goodIn_of _ (by decide +kernel)) ggX10_nextHour_X10_burnDown
set_option maxRecDepth 20000 in
theorem ggX2_draft_X2_changing : GoodIn wsX2_draft wsX2_changing := goodIn_r _ [10] (by decide +kernel) (by decide +kernel)
set_option maxRecDepth 20000 in
theorem gX2_draft_X2_changing : GoodIn wsX2_draft (va_wsS RX2 39 yX2_changing wsX2_changing) := goodIn_app (goodIn_of _ (by decide +kernel)) ggX2_draft_X2_changing
set_option maxRecDepth 20000 in
theorem ggX10_kindle_X9_has : GoodIn wsX10_kindle wsX9_has := goodIn_r _ [9, 10, 63, 64, 65, 66, 67, 68, 69, 70, 71, 72] (by decide +kernel) (by decide +kernel)
set_option maxRecDepth 20000 in
theorem gX10_kindle_X9_has_n18 : GoodIn wsX10_kindle (wsX9_has) := ggX10_kindle_X9_has
set_option maxRecDepth 20000 in
theorem ggX10_quench_X11_within : GoodIn wsX10_quench wsX11_within := goodIn_r _ [7] (by decide +kernel) (by decide +kernel)
set_option maxRecDepth 20000 in
theorem gX10_quench_X11_within_n49 : GoodIn wsX10_quench (wsX11_within) := ggX10_quench_X11_within
set_option maxRecDepth 20000 in
theorem ggX10_quench_X9_has : GoodIn wsX10_quench wsX9_has := goodIn_r _ [11, 12, 20, 21, 22, 23, 24, 25, 26, 27, 28, 29] (by decide +kernel) (by decide +kernel)
set_option maxRecDepth 20000 in
theorem gX10_quench_X9_has_n18 : GoodIn wsX10_quench (wsX9_has) := ggX10_quench_X9_has
set_option maxRecDepth 20000 in
theorem ggX10_supply_X11_within : GoodIn wsX10_supply wsX11_within := goodIn_r _ [7] (by decide +kernel) (by decide +kernel)
set_option maxRecDepth 20000 in
theorem gX10_supply_X11_within_n49 : GoodIn wsX10_supply (wsX11_within) := ggX10_supply_X11_within
set_option maxRecDepth 20000 in
theorem ggX10_supply_X9_has : GoodIn wsX10_supply wsX9_has := goodIn_r _ [11, 12, 20, 21, 22, 23, 24, 25, 26, 27, 28, 29] (by decide +kernel) (by decide +kernel)
set_option maxRecDepth 20000 in
theorem gX10_supply_X9_has_n18 : GoodIn wsX10_supply (wsX9_has) := ggX10_supply_X9_has
set_option maxRecDepth 20000 in
theorem ggX11_settle_X11_refuse : GoodIn wsX11_settle wsX11_refuse := goodIn_r _ [6, 7, 8, 9, 10, 5, 11, 27, 28, 29, 30, 31, 32, 33, 34, 35, 36, 37, 38, 39, 40, 41, 42, 43] (by decide +kernel) (by decide +kernel)
set_option maxRecDepth 20000 in
theorem gX11_settle_X11_refuse : GoodIn wsX11_settle (wsV RX11 101 RX11 yX11_refuse wsX11_refuse) := goodIn_app (goodIn_of _ (by decide +kernel)) ggX11_settle_X11_refuse
set_option maxRecDepth 20000 in
theorem ggX11_settle_X2_keep : GoodIn wsX11_settle wsX2_keep := goodIn_r _ [15, 16, 17, 18, 19, 20, 21, 22, 44, 45, 46] (by decide +kernel) (by decide +kernel)
set_option maxRecDepth 20000 in
theorem gX11_settle_X2_keep_n300 : GoodIn wsX11_settle (wsX2_keep) := ggX11_settle_X2_keep
set_option maxRecDepth 20000 in
theorem ggX11_settle_X11_accept : GoodIn wsX11_settle wsX11_accept := goodIn_r _ [26, 8, 27, 28, 29, 30, 31, 32, 33, 34, 35, 36, 37, 38, 39, 40, 41, 42, 43] (by decide +kernel) (by decide +kernel)
set_option maxRecDepth 20000 in
theorem gX11_settle_X11_accept : GoodIn wsX11_settle (wsV RX11 118 RX11 yX11_accept wsX11_accept) := goodIn_app (goodIn_of _ (by decide +kernel)) ggX11_settle_X11_accept
set_option maxRecDepth 20000 in
theorem ggX11_stoke_X2_draft : GoodIn wsX11_stoke wsX2_draft := goodIn_r _ [7, 8, 9, 10, 11, 12, 13, 14, 15, 5, 16, 119, 120, 121, 122, 123, 124, 125, 126, 127, 128, 129, 130, 131] (by decide +kernel) (by decide +kernel)
set_option maxRecDepth 20000 in
theorem gX11_stoke_X2_draft_n221 : GoodIn wsX11_stoke (wsX2_draft) := ggX11_stoke_X2_draft
set_option maxRecDepth 20000 in
theorem ggX11_stoke_X10_kindle : GoodIn wsX11_stoke wsX10_kindle := goodIn_r _ [20, 21, 22, 23, 24, 25, 26, 27, 28, 29, 30, 31, 32, 33, 34, 35, 36, 37, 38, 39, 40, 41, 42, 43, 44, 45, 46, 47, 48, 49, 50, 51, 52, 53, 54, 55, 56, 57, 58, 59, 60, 61, 62, 63, 64, 65, 66, 67, 68, 69, 70, 71, 72, 73, 74, 75, 76, 77, 78, 79, 80, 81, 132, 122, 123, 124, 125, 126, 127, 128, 129, 130, 131, 133, 134, 135, 136, 137, 138, 139, 140] (by decide +kernel) (by decide +kernel)
set_option maxRecDepth 20000 in
theorem gX11_stoke_X10_kindle_n225 : GoodIn wsX11_stoke (wsX10_kindle) := ggX11_stoke_X10_kindle
set_option maxRecDepth 20000 in
theorem ggX11_stoke_X11_settle : GoodIn wsX11_stoke wsX11_settle := goodIn_r _ [85, 1, 86, 87, 88, 51, 89, 90, 91, 92, 50, 52, 93, 5, 94, 95, 9, 8, 96, 97, 23, 24, 25, 98, 99, 100, 101, 102, 103, 104, 105, 106, 107, 108, 109, 110, 111, 112, 113, 114, 115, 116, 117, 118, 119, 120, 121] (by decide +kernel) (by decide +kernel)
set_option maxRecDepth 20000 in
theorem gX11_stoke_X11_settle : GoodIn wsX11_stoke (wsV RX11 229 RX11 yX11_settle wsX11_settle) := goodIn_app (goodIn_of _ (by decide +kernel)) ggX11_stoke_X11_settle
set_option maxRecDepth 20000 in
theorem ggX11_damp_X2_draft : GoodIn wsX11_damp wsX2_draft := goodIn_r _ [7, 8, 9, 10, 11, 12, 13, 14, 15, 5, 16, 79, 80, 81, 82, 83, 84, 85, 86, 87, 88, 89, 90, 91] (by decide +kernel) (by decide +kernel)
set_option maxRecDepth 20000 in
theorem gX11_damp_X2_draft_n221 : GoodIn wsX11_damp (wsX2_draft) := ggX11_damp_X2_draft
set_option maxRecDepth 20000 in
theorem ggX11_damp_X10_quench : GoodIn wsX11_damp wsX10_quench := goodIn_r _ [20, 21, 22, 23, 24, 25, 26, 27, 28, 29, 30, 31, 32, 33, 34, 35, 36, 37, 38, 39, 82, 83, 84, 85, 86, 87, 88, 89, 90, 91] (by decide +kernel) (by decide +kernel)
set_option maxRecDepth 20000 in
theorem gX11_damp_X10_quench_n232 : GoodIn wsX11_damp (wsX10_quench) := ggX11_damp_X10_quench
set_option maxRecDepth 20000 in
theorem ggX11_damp_X11_settle : GoodIn wsX11_damp wsX11_settle := goodIn_r _ [43, 1, 44, 45, 46, 26, 47, 48, 49, 50, 25, 27, 51, 5, 52, 53, 9, 8, 54, 55, 56, 23, 57, 58, 59, 60, 61, 62, 63, 64, 65, 66, 67, 68, 69, 70, 71, 72, 73, 74, 75, 76, 77, 78, 79, 80, 81] (by decide +kernel) (by decide +kernel)
set_option maxRecDepth 20000 in
theorem gX11_damp_X11_settle : GoodIn wsX11_damp (wsV RX11 229 RX11 yX11_settle wsX11_settle) := goodIn_app (goodIn_of _ (by decide +kernel)) ggX11_damp_X11_settle
set_option maxRecDepth 20000 in
theorem ggX11_buy_X2_draft : GoodIn wsX11_buy wsX2_draft := goodIn_r _ [7, 8, 9, 10, 11, 12, 13, 14, 15, 5, 16, 77, 78, 79, 80, 81, 82, 83, 84, 85, 86, 87, 88, 89] (by decide +kernel) (by decide +kernel)
set_option maxRecDepth 20000 in
theorem gX11_buy_X2_draft_n221 : GoodIn wsX11_buy (wsX2_draft) := ggX11_buy_X2_draft
set_option maxRecDepth 20000 in
theorem ggX11_buy_X10_supply : GoodIn wsX11_buy wsX10_supply := goodIn_r _ [20, 21, 22, 23, 24, 25, 26, 27, 28, 29, 30, 31, 32, 33, 34, 35, 36, 37, 38, 39, 80, 81, 82, 83, 84, 85, 86, 87, 88, 89] (by decide +kernel) (by decide +kernel)
set_option maxRecDepth 20000 in
theorem gX11_buy_X10_supply_n236 : GoodIn wsX11_buy (wsX10_supply) := ggX11_buy_X10_supply
set_option maxRecDepth 20000 in
theorem ggX11_buy_X11_settle : GoodIn wsX11_buy wsX11_settle := goodIn_r _ [43, 1, 44, 45, 46, 26, 47, 48, 49, 50, 25, 27, 51, 5, 52, 53, 9, 8, 54, 55, 22, 23, 24, 56, 57, 58, 59, 60, 61, 62, 63, 64, 65, 66, 67, 68, 69, 70, 71, 72, 73, 74, 75, 76, 77, 78, 79] (by decide +kernel) (by decide +kernel)
set_option maxRecDepth 20000 in
theorem gX11_buy_X11_settle : GoodIn wsX11_buy (wsV RX11 229 RX11 yX11_settle wsX11_settle) := goodIn_app (goodIn_of _ (by decide +kernel)) ggX11_buy_X11_settle
set_option maxRecDepth 20000 in
theorem ggX11_pass_X2_draft : GoodIn wsX11_pass wsX2_draft := goodIn_r _ [7, 8, 9, 10, 11, 12, 13, 14, 15, 5, 16, 157, 158, 159, 160, 161, 162, 163, 164, 165, 166, 167, 168, 169] (by decide +kernel) (by decide +kernel)
set_option maxRecDepth 20000 in
theorem gX11_pass_X2_draft_n221 : GoodIn wsX11_pass (wsX2_draft) := ggX11_pass_X2_draft
set_option maxRecDepth 20000 in
theorem ggX11_pass_X10_nextHour : GoodIn wsX11_pass wsX10_nextHour := goodIn_r _ [20, 21, 22, 23, 24, 25, 26, 27, 28, 29, 30, 31, 32, 33, 34, 35, 36, 37, 38, 39, 40, 41, 42, 43, 44, 45, 46, 47, 48, 49, 50, 51, 52, 53, 54, 55, 56, 18, 57, 58, 59, 60, 61, 62, 63, 64, 65, 66, 67, 68, 69, 70, 71, 72, 73, 74, 75, 76, 77, 78, 79, 80, 81, 82, 83, 84, 85, 86, 87, 88, 89, 90, 91, 92, 93, 94, 95, 96, 97, 98, 99, 100, 101, 102, 103, 104, 105, 106, 107, 108, 109, 110, 111, 112, 113, 114, 115, 116, 117, 118, 119, 160, 161, 162, 163, 164, 165, 166, 167, 168, 169, 170, 171, 172, 173, 174, 175, 176, 177, 178] (by decide +kernel) (by decide +kernel)
set_option maxRecDepth 20000 in
theorem gX11_pass_X10_nextHour_n239 : GoodIn wsX11_pass (wsX10_nextHour) := ggX11_pass_X10_nextHour
set_option maxRecDepth 20000 in
theorem ggX11_pass_X11_settle : GoodIn wsX11_pass wsX11_settle := goodIn_r _ [123, 1, 124, 125, 126, 84, 127, 128, 129, 130, 83, 85, 131, 5, 132, 133, 9, 8, 134, 135, 23, 24, 25, 136, 137, 138, 139, 140, 141, 142, 143, 144, 145, 146, 147, 148, 149, 150, 151, 152, 153, 154, 155, 156, 157, 158, 159] (by decide +kernel) (by decide +kernel)
set_option maxRecDepth 20000 in
theorem gX11_pass_X11_settle : GoodIn wsX11_pass (wsV RX11 229 RX11 yX11_settle wsX11_settle) := goodIn_app (goodIn_of _ (by decide +kernel)) ggX11_pass_X11_settle
set_option maxRecDepth 20000 in
theorem ggX11_undo_X2_takeBack : GoodIn wsX11_undo wsX2_takeBack := goodIn_r _ [6, 7, 8, 9, 10, 11, 12, 13, 14, 15, 4, 16, 48, 49, 50, 51, 52, 53, 54, 55, 56, 57, 58, 59, 60] (by decide +kernel) (by decide +kernel)
set_option maxRecDepth 20000 in
theorem gX11_undo_X2_takeBack_n242 : GoodIn wsX11_undo (wsX2_takeBack) := ggX11_undo_X2_takeBack
set_option maxRecDepth 20000 in
theorem ggX11_undo_X11_refuse : GoodIn wsX11_undo wsX11_refuse := goodIn_r _ [21, 22, 23, 24, 25, 20, 26, 31, 32, 33, 34, 35, 36, 37, 38, 39, 40, 41, 42, 43, 44, 45, 46, 47] (by decide +kernel) (by decide +kernel)
set_option maxRecDepth 20000 in
theorem gX11_undo_X11_refuse : GoodIn wsX11_undo (wsV RX11 101 RX11 yX11_refuse wsX11_refuse) := goodIn_app (goodIn_of _ (by decide +kernel)) ggX11_undo_X11_refuse
set_option maxRecDepth 20000 in
theorem ggX11_sounds_X9_notesNow : GoodIn wsX11_sounds wsX9_notesNow := goodIn_r _ [5, 6, 7, 8, 9, 3, 10, 11, 12, 13, 14, 15, 16, 17, 18, 19, 20, 50, 51, 52, 53, 54, 55, 56, 57, 58, 59] (by decide +kernel) (by decide +kernel)
set_option maxRecDepth 20000 in
theorem gX11_sounds_X9_notesNow_n210 : GoodIn wsX11_sounds (wsX9_notesNow) := ggX11_sounds_X9_notesNow
set_option maxRecDepth 20000 in
theorem ggX11_sounds_X9_thirdsNow : GoodIn wsX11_sounds wsX9_thirdsNow := goodIn_r _ [23, 24, 2, 4, 3, 5, 6, 7, 8, 9, 10, 11, 12, 13, 14, 15, 16, 17, 18, 19, 20, 50, 51, 52, 53, 54, 55, 56, 57, 58, 59] (by decide +kernel) (by decide +kernel)
set_option maxRecDepth 20000 in
theorem gX11_sounds_X9_thirdsNow_n214 : GoodIn wsX11_sounds (wsX9_thirdsNow) := ggX11_sounds_X9_thirdsNow
set_option maxRecDepth 20000 in
theorem ggX11_sounds_X9_meetsChord : GoodIn wsX11_sounds wsX9_meetsChord := goodIn_r _ [27, 20, 28, 29, 30, 3, 31, 32, 24, 2, 4, 5, 6, 7, 8, 9, 10, 11, 12, 13, 14, 15, 16, 17, 18, 19, 50, 51, 52, 53, 54, 55, 56, 57, 58, 59] (by decide +kernel) (by decide +kernel)
set_option maxRecDepth 20000 in
theorem gX11_sounds_X9_meetsChord_n217 : GoodIn wsX11_sounds (wsX9_meetsChord) := ggX11_sounds_X9_meetsChord
set_option maxRecDepth 20000 in
theorem ggX11_back_X11_within : GoodIn wsX11_back wsX11_within := goodIn_r _ [8] (by decide +kernel) (by decide +kernel)
set_option maxRecDepth 20000 in
theorem gX11_back_X11_within : GoodIn wsX11_back (va_wsS RX11 97 yX11_within wsX11_within) := goodIn_app (goodIn_of _ (by decide +kernel)) ggX11_back_X11_within
set_option maxRecDepth 20000 in
theorem ggX11_back_X11_refuse : GoodIn wsX11_back wsX11_refuse := goodIn_r _ [12, 13, 14, 5, 6, 7, 8, 42, 43, 44, 45, 46, 47, 48, 49, 50, 51, 52, 53, 54, 55, 56, 57, 58] (by decide +kernel) (by decide +kernel)
set_option maxRecDepth 20000 in
theorem gX11_back_X11_refuse : GoodIn wsX11_back (wsV RX11 101 RX11 yX11_refuse wsX11_refuse) := goodIn_app (goodIn_of _ (by decide +kernel)) ggX11_back_X11_refuse
set_option maxRecDepth 20000 in
theorem ggX11_count_X11_within : GoodIn wsX11_count wsX11_within := goodIn_r _ [8] (by decide +kernel) (by decide +kernel)
set_option maxRecDepth 20000 in
theorem gX11_count_X11_within : GoodIn wsX11_count (va_wsS RX11 97 yX11_within wsX11_within) := goodIn_app (goodIn_of _ (by decide +kernel)) ggX11_count_X11_within
set_option maxRecDepth 20000 in
theorem ggX11_count_X9_singing : GoodIn wsX11_count wsX9_singing := goodIn_r _ [12, 13, 14, 15, 16, 10, 17, 18, 19, 20, 21, 22, 23, 24, 25, 26, 27, 45, 46, 47, 48, 49, 50, 51, 52, 53, 54] (by decide +kernel) (by decide +kernel)
set_option maxRecDepth 20000 in
theorem gX11_count_X9_singing_n294 : GoodIn wsX11_count (wsX9_singing) := ggX11_count_X9_singing
set_option maxRecDepth 20000 in
theorem ggX4_hillSet_X4_mapSets : GoodIn wsX4_hillSet wsX4_mapSets := goodIn_r _ [6, 1, 7, 8, 9, 10, 11, 17, 18, 19, 20, 21, 22, 23, 24, 25, 26, 12, 13, 14, 15, 16] (by decide +kernel) (by decide +kernel)
set_option maxRecDepth 20000 in
theorem gX4_hillSet_X4_mapSets : GoodIn wsX4_hillSet (wsV RX4 77 RX4 yX4_mapSets wsX4_mapSets) := goodIn_app (goodIn_of _ (by decide +kernel)) ggX4_hillSet_X4_mapSets
set_option maxRecDepth 20000 in
theorem ggX11_hill_X4_hillSet : GoodIn wsX11_hill wsX4_hillSet := goodIn_r _ [6, 7, 8, 9, 10, 4, 11, 12, 13, 14, 15, 16, 34, 35, 36, 37, 38, 39, 40, 41, 42, 43, 44, 45, 46, 47, 48] (by decide +kernel) (by decide +kernel)
set_option maxRecDepth 20000 in
theorem gX11_hill_X4_hillSet_n264 : GoodIn wsX11_hill (wsX4_hillSet) := ggX11_hill_X4_hillSet
set_option maxRecDepth 20000 in
theorem ggX4_question_X4_hillSet : GoodIn wsX4_question wsX4_hillSet := goodIn_r _ [9, 10, 11, 12, 13, 8, 14, 15, 16, 17, 18, 19, 34, 35, 36, 37, 38, 24, 25, 26, 27, 28, 29, 30, 31, 32, 33] (by decide +kernel) (by decide +kernel)
set_option maxRecDepth 20000 in
theorem gX4_question_X4_hillSet : GoodIn wsX4_question (wsV RX4 84 RX4 yX4_hillSet wsX4_hillSet) := goodIn_app (goodIn_of _ (by decide +kernel)) ggX4_question_X4_hillSet
set_option maxRecDepth 20000 in
theorem ggX11_ask_X11_within : GoodIn wsX11_ask wsX11_within := goodIn_r _ [6] (by decide +kernel) (by decide +kernel)
set_option maxRecDepth 20000 in
theorem gX11_ask_X11_within : GoodIn wsX11_ask (va_wsS RX11 97 yX11_within wsX11_within) := goodIn_app (goodIn_of _ (by decide +kernel)) ggX11_ask_X11_within
set_option maxRecDepth 20000 in
theorem ggX11_ask_X4_question : GoodIn wsX11_ask wsX4_question := goodIn_r _ [10, 11, 12, 13, 14, 15, 16, 17, 8, 18, 19, 20, 21, 22, 23, 24, 25, 26, 27, 28, 29, 30, 31, 32, 50, 51, 52, 53, 54, 55, 56, 57, 58, 59, 60, 61, 62, 63, 64] (by decide +kernel) (by decide +kernel)
set_option maxRecDepth 20000 in
theorem gX11_ask_X4_question_n267 : GoodIn wsX11_ask (wsX4_question) := ggX11_ask_X4_question
set_option maxRecDepth 20000 in
theorem ggX9_lawAt_X11_within : GoodIn wsX9_lawAt wsX11_within := goodIn_r _ [5] (by decide +kernel) (by decide +kernel)
set_option maxRecDepth 20000 in
theorem gX9_lawAt_X11_within_n52 : GoodIn wsX9_lawAt (wsX11_within) := ggX9_lawAt_X11_within
set_option maxRecDepth 20000 in
theorem ggX11_compare_X11_within : GoodIn wsX11_compare wsX11_within := goodIn_r _ [6] (by decide +kernel) (by decide +kernel)
set_option maxRecDepth 20000 in
theorem gX11_compare_X11_within : GoodIn wsX11_compare (va_wsS RX11 97 yX11_within wsX11_within) := goodIn_app (goodIn_of _ (by decide +kernel)) ggX11_compare_X11_within
set_option maxRecDepth 20000 in
theorem ggX11_compare_X9_lawAt : GoodIn wsX11_compare wsX9_lawAt := goodIn_r _ [10, 11, 12, 4, 5, 6, 75, 76, 77, 78, 79, 80, 81, 82, 83, 84] (by decide +kernel) (by decide +kernel)
set_option maxRecDepth 20000 in
theorem gX11_compare_X9_lawAt_n276 : GoodIn wsX11_compare (wsX9_lawAt) := ggX11_compare_X9_lawAt
set_option maxRecDepth 20000 in
theorem ggX11_compare_X5_coalBy : GoodIn wsX11_compare wsX5_coalBy := goodIn_r _ [16, 17, 18, 19, 20, 21, 22, 23, 24, 25, 8, 26, 27, 28, 29, 30, 31, 32, 33, 34, 35, 36, 37, 38, 39, 40, 41, 42, 43, 44, 45, 46, 47, 48, 49, 50, 51, 52, 53, 54, 55, 56, 57, 75, 76, 77, 78, 79, 80, 81, 82, 83, 84, 85, 86, 87, 88, 89, 90, 91, 92, 93, 94, 95, 96, 97, 98] (by decide +kernel) (by decide +kernel)
set_option maxRecDepth 20000 in
theorem gX11_compare_X5_coalBy_n280 : GoodIn wsX11_compare (wsX5_coalBy) := ggX11_compare_X5_coalBy
set_option maxHeartbeats 4000000 in
set_option maxRecDepth 100000 in
theorem c_within (l : Launch) (D : va_G) (K : Nat → ClassId) (v : Int32) (lo : Int32) (hi : Int32) (V : Int) (LO : Int) (HI : Int) (sz : Nat) (hv : v.toInt = V) (hlo : lo.toInt = LO) (hhi : hi.toInt = HI) : Met l yX11_within wsX11_within ({ frames := 0, cells := 0, slots := 0, locals := 0 }) (va_Pc [.int v, .int lo, .int hi] (Pre D K [] sz)) (vp_Si (fun r : Int32 => (r = 1 ∧ LO ≤ V ∧ V ≤ HI) ∨ (r = 0 ∧ (V < LO ∨ HI < V)))) 0 0 (fun _ => False) := by
  refine Met.ofW (cc := cX11_within) (maxL := 3) (ret := (some .boolean)) (by decide) rfl ?_
  intro p e s m args below meth c s₁ B hml hv
  obtain ⟨rfl, hsz, hP, hK, hD0, hN⟩ := hv
  have hx := B.exec
  have hb := B.bytes
  have hr := B.returns
  have hts := atoms_spec (ws := wsX11_within) B.pre
  have hown : s.vm.findClass RX11 = some m.cls := findClass_of_methodNamed B.named
  have hlocks := B.notSynchronized
  subst hsz
  have hD := hD0
  have hP : va_P D vwCl [] s.heap := hP
  have hl := lv_entry [.int v, .int lo, .int hi] (n := 3) (Nat.le_of_ble_eq_true rfl)
  rw [lg_entry_eq]
  generalize (lg_sl [.int v, .int lo, .int hi] ++ List.replicate (3 - (lg_sl [.int v, .int lo, .int hi]).length) Slot.unset).toArray = ls at hl ⊢
  have hl : lv_has ls 3 [(0, .int v), (1, .int lo), (2, .int hi)] := hl
  refine lv_iload_n hx hb dX11_within_0 rfl (lv_at hl 0 rfl) ?_
  refine lv_iload_n hx hb dX11_within_1 rfl (lv_at hl 1 rfl) ?_
  refine lv_icmp_lt (tgt := 14) hx hb dX11_within_2 (by decide) (fun c_1 => ?_) (fun c_1 => ?_)
  · have c_1i := i_lt hv hlo c_1
    refine lv_iconst (v := 0) hx hb dX11_within_14 (by decide) ?_
    exact W.zret (v := 0) hx hb hr (by first | rfl | decide) (fun t ht hW => ⟨_, rfl, (by first | exact Or.inr (⟨rfl, by first | omega | decide | (subst_vars; assumption)⟩)), ht⟩) (fun q hq => by cases hq) dX11_within_15
  · have c_1i := i_nlt hv hlo c_1
    refine lv_iload_n hx hb dX11_within_5 rfl (lv_at hl 0 rfl) ?_
    refine lv_iload_n hx hb dX11_within_6 rfl (lv_at hl 2 rfl) ?_
    refine lv_icmp_gt (tgt := 14) hx hb dX11_within_7 (by decide) (fun c_2 => ?_) (fun c_2 => ?_)
    · have c_2i := i_lt hhi hv c_2
      refine lv_iconst (v := 0) hx hb dX11_within_14 (by decide) ?_
      exact W.zret (v := 0) hx hb hr (by first | rfl | decide) (fun t ht hW => ⟨_, rfl, (by first | exact Or.inr (⟨rfl, by first | omega | decide | (subst_vars; assumption)⟩)), ht⟩) (fun q hq => by cases hq) dX11_within_15
    · have c_2i := i_nlt hhi hv c_2
      refine lv_iconst (v := 1) hx hb dX11_within_10 (by decide) ?_
      refine lv_goto (tgt := 15) hx hb dX11_within_11 (by decide) ?_
      exact W.zret (v := 1) hx hb hr (by first | rfl | decide) (fun t ht hW => ⟨_, rfl, (by first | exact Or.inl (⟨rfl, by first | omega | decide | (subst_vars; assumption), by first | omega | decide | (subst_vars; assumption)⟩)), ht⟩) (fun q hq => by cases hq) dX11_within_15
set_option maxHeartbeats 4000000 in
set_option maxRecDepth 100000 in
theorem c_has (l : Launch) (D : va_G) (K : Nat → ClassId) (a0 : Nat) (x : Int32) (k0 : Value) (k1 : Value) (k2 : Value) (k3 : Value) (k5 : Value) (k6 : Value) (k7 : Value) (k8 : Value) (k9 : Value) (sz : Nat) : Met l yX9_has wsX9_has ({ frames := 0, cells := 0, slots := 0, locals := 0 }) (va_Pc [.ref a0, .int x] (Pre D K [(a0, .inr (9, [k0, k1, k2, k3, .int 0, k5, k6, k7, k8, k9]))] sz)) (vp_Si (fun r : Int32 => (r = 0))) 0 0 (fun _ => False) := by
  refine Met.ofW (cc := cX9_has) (maxL := 2) (ret := (some .boolean)) (by decide) rfl ?_
  intro p e s m args below meth c s₁ B hml hv
  obtain ⟨rfl, hsz, hP, hK, hD0, hN⟩ := hv
  have hx := B.exec
  have hb := B.bytes
  have hr := B.returns
  have hts := atoms_spec (ws := wsX9_has) B.pre
  have hown : s.vm.findClass RX9 = some m.cls := findClass_of_methodNamed B.named
  have hlocks := B.notSynchronized
  subst hsz
  have hD := hD0
  have hP : va_P D vwCl [(a0, .inr (9, [k0, k1, k2, k3, .int 0, k5, k6, k7, k8, k9]))] s.heap := hP
  have hl := lv_entry [.ref a0, .int x] (n := 2) (Nat.le_of_ble_eq_true rfl)
  rw [lg_entry_eq]
  generalize (lg_sl [.ref a0, .int x] ++ List.replicate (2 - (lg_sl [.ref a0, .int x]).length) Slot.unset).toArray = ls at hl ⊢
  have hl : lv_has ls 2 [(0, .ref a0), (1, .int x)] := hl
  have hw9 : ∀ w ∈ wsX90, w ∈ wsX9_has := fun w h => (List.mem_cons_of_mem _ (List.mem_append_right _ h))
  refine lv_iload_n hx hb dX9_has_0 rfl (lv_at hl 1 rfl) ?_
  refine lv_if_lt (tgt := 16) hx hb dX9_has_1 (by decide) (fun c_1 => ?_) (fun c_1 => ?_)
  · have c_1i := i_lt rfl rfl c_1
    refine lv_iconst (v := 0) hx hb dX9_has_16 (by decide) ?_
    exact W.zret (v := 0) hx hb hr (by first | rfl | decide) (fun t ht hW => ⟨_, rfl, (by first | exact rfl), ht⟩) (fun q hq => by cases hq) dX9_has_17
  · have c_1i := i_nlt rfl rfl c_1
    refine lv_iload_n hx hb dX9_has_4 rfl (lv_at hl 1 rfl) ?_
    refine lv_aload_n hx hb dX9_has_5 rfl (lv_at hl 0 rfl) ?_
    refine va_get (ci := 9) (v := .int 0) (C := RX9) (T := TX9) (N := 10) hx hb hts hw9 hown hK hP 0 rfl rfl 4 (by decide) (hts (.fieldLink RX9 27 "SmokeTune$Town" "houses" "I") (List.mem_cons_of_mem _ (List.mem_append_left _ (List.mem_of_getElem? (i := 0) rfl)))) (fun _ h9 => h9) rfl dX9_has_6 ?_
    refine lv_icmp_ge (tgt := 16) hx hb dX9_has_9 (by decide) (fun c_2 => ?_) (fun c_2 => ?_)
    · have c_2i := i_le rfl rfl c_2
      refine lv_iconst (v := 0) hx hb dX9_has_16 (by decide) ?_
      exact W.zret (v := 0) hx hb hr (by first | rfl | decide) (fun t ht hW => ⟨_, rfl, (by first | exact rfl), ht⟩) (fun q hq => by cases hq) dX9_has_17
    · have c_2i := i_nle rfl rfl c_2
      exfalso; omega
set_option maxHeartbeats 4000000 in
set_option maxRecDepth 100000 in
theorem c_accept (l : Launch) (D : va_G) (K : Nat → ClassId) (a0 : Nat) (x : Int32) (g0 : Value) (g1 : Value) (g2 : Value) (g3 : Value) (g4 : Value) (g5 : Value) (g6 : Value) (g7 : Value) (g8 : Value) (g9 : Value) (g10 : Value) (g11 : Value) (g12 : Value) (g13 : Value) (g14 : Value) (g15 : Value) (g16 : Value) (sz : Nat) : Met l yX11_accept wsX11_accept ({ frames := 0, cells := 0, slots := 0, locals := 0 }) (va_Pc [.ref a0, .int x] (Pre D K [(a0, .inr (11, [g0, g1, g2, g3, g4, g5, g6, g7, g8, g9, g10, g11, g12, g13, g14, g15, g16]))] sz)) (va_Qi (S := Unit) (fun (r : Int32) (_ : Unit) => (r = x)) (fun u t => Wd D (va_A [(a0, .inr (11, [g0, g1, g2, g3, g4, g5, g6, g7, g8, g9, g10, g11, g12, g13, g14, g15, g16]))] sz) ((fun _ => []) u) t) (va_A [(a0, .inr (11, [g0, g1, g2, g3, g4, g5, g6, g7, g8, g9, g10, g11, g12, g13, g14, g15, g16]))] sz)) 0 0 (va_A [(a0, .inr (11, [g0, g1, g2, g3, g4, g5, g6, g7, g8, g9, g10, g11, g12, g13, g14, g15, g16]))] sz) := by
  refine Met.ofW (cc := cX11_accept) (maxL := 2) (ret := (some .int)) (by decide) rfl ?_
  intro p e s m args below meth c s₁ B hml hv
  obtain ⟨rfl, hsz, hP, hK, hD0, hN⟩ := hv
  have hx := B.exec
  have hb := B.bytes
  have hr := B.returns
  have hts := atoms_spec (ws := wsX11_accept) B.pre
  have hown : s.vm.findClass RX11 = some m.cls := findClass_of_methodNamed B.named
  have hlocks := B.notSynchronized
  subst hsz
  have hD := hD0.self (sz := s.heap.size)
  generalize hAe : va_A [(a0, .inr (11, [g0, g1, g2, g3, g4, g5, g6, g7, g8, g9, g10, g11, g12, g13, g14, g15, g16]))] s.heap.size = A at hD ⊢
  have hA : ∀ q : Nat, s.heap.size ≤ q → A q := fun q h => by rw [← hAe]; exact Or.inr h
  have hS : va_S A s.heap s.heap [] := va_S.rf
  have hP : va_P D vwCl [(a0, .inr (11, [g0, g1, g2, g3, g4, g5, g6, g7, g8, g9, g10, g11, g12, g13, g14, g15, g16]))] s.heap := hP
  have hl := lv_entry [.ref a0, .int x] (n := 2) (Nat.le_of_ble_eq_true rfl)
  rw [lg_entry_eq]
  generalize (lg_sl [.ref a0, .int x] ++ List.replicate (2 - (lg_sl [.ref a0, .int x]).length) Slot.unset).toArray = ls at hl ⊢
  have hl : lv_has ls 2 [(0, .ref a0), (1, .int x)] := hl
  have hw11 : ∀ w ∈ wsX110, w ∈ wsX11_accept := fun w h => (List.mem_cons_of_mem _ (List.mem_append_right _ h))
  refine lv_aload_n hx hb dX11_accept_0 rfl (lv_at hl 0 rfl) ?_
  refine lv_iconst (v := 0) hx hb dX11_accept_1 (by decide) ?_
  refine va_put (ci := 11) (v := .int 0) (ty := .int) (C := RX11) (T := TX11) (N := 17) hx hb hts hw11 tyX11 tyX11_ok nmX11 hown hK hP hD hS 0 rfl rfl 13 (by decide) (hts (.fieldLink RX11 83 "SmokeTune" "refusedBy" "I") (List.mem_cons_of_mem _ (List.mem_append_left _ (List.mem_of_getElem? (i := 0) rfl)))) (fun _ h9 => h9) rfl (by decide +kernel) (by first | rfl | decide) (by first | rfl | decide) (Nat.le_of_ble_eq_true rfl) dX11_accept_2 (fun H locs hP hD hS => ?_)
  have hP : va_P D vwCl [(a0, .inr (11, [g0, g1, g2, g3, g4, g5, g6, g7, g8, g9, g10, g11, g12, .int 0, g14, g15, g16]))] H := hP
  have hD : va_D A [(a0, .inr (11, [g0, g1, g2, g3, g4, g5, g6, g7, g8, g9, g10, g11, g12, .int 0, g14, g15, g16]))] := hD
  refine lv_iload_n hx hb dX11_accept_5 rfl (lv_at hl 1 rfl) ?_
  exact W.iret (v := x) hx hb hr (fun t ht hW => ⟨⟨x, (), rfl, (by first | exact rfl), Wd.nil⟩, hS.F ht⟩) hS.2.2 dX11_accept_6
set_option maxHeartbeats 4000000 in
set_option maxRecDepth 100000 in
theorem c_refuse_1 (l : Launch) (D : va_G) (K : Nat → ClassId) (a0 : Nat) (g0 : Value) (g1 : Value) (g2 : Value) (g3 : Value) (g4 : Value) (g5 : Value) (g6 : Value) (g7 : Value) (g8 : Value) (g9 : Value) (g10 : Value) (g11 : Value) (a1 : Nat) (g13 : Value) (g14 : Value) (g15 : Value) (g16 : Value) (f : Nat → Int32) (sz : Nat) : Met l yX11_refuse wsX11_refuse ({ frames := 1, cells := 0, slots := 0, locals := 22 }) (va_Pc [.ref a0, .int (-1)] (Pre D K [(a0, .inr (11, [g0, g1, g2, g3, g4, g5, g6, g7, g8, g9, g10, g11, .ref a1, g13, g14, g15, g16])), (a1, .inl (K 0, 5, .inl f))] sz)) (va_Qi (S := Unit) (fun (r : Int32) (_ : Unit) => (r = (-1))) (fun u t => Wd D (va_A [(a0, .inr (11, [g0, g1, g2, g3, g4, g5, g6, g7, g8, g9, g10, g11, .ref a1, g13, g14, g15, g16])), (a1, .inl (K 0, 5, .inl f))] sz) ((fun _ => []) u) t) (va_A [(a0, .inr (11, [g0, g1, g2, g3, g4, g5, g6, g7, g8, g9, g10, g11, .ref a1, g13, g14, g15, g16])), (a1, .inl (K 0, 5, .inl f))] sz)) 0 0 (va_A [(a0, .inr (11, [g0, g1, g2, g3, g4, g5, g6, g7, g8, g9, g10, g11, .ref a1, g13, g14, g15, g16])), (a1, .inl (K 0, 5, .inl f))] sz) := by
  refine Met.ofW (cc := cX11_refuse) (maxL := 3) (ret := (some .int)) (by decide) rfl ?_
  intro p e s m args below meth c s₁ B hml hv
  obtain ⟨rfl, hsz, hP, hK, hD0, hN⟩ := hv
  have hx := B.exec
  have hb := B.bytes
  have hr := B.returns
  have hts := atoms_spec (ws := wsX11_refuse) B.pre
  have hown : s.vm.findClass RX11 = some m.cls := findClass_of_methodNamed B.named
  have hlocks := B.notSynchronized
  subst hsz
  have hD := hD0.self (sz := s.heap.size)
  generalize hAe : va_A [(a0, .inr (11, [g0, g1, g2, g3, g4, g5, g6, g7, g8, g9, g10, g11, .ref a1, g13, g14, g15, g16])), (a1, .inl (K 0, 5, .inl f))] s.heap.size = A at hD ⊢
  have hA : ∀ q : Nat, s.heap.size ≤ q → A q := fun q h => by rw [← hAe]; exact Or.inr h
  have hS : va_S A s.heap s.heap [] := va_S.rf
  have hP : va_P D vwCl [(a0, .inr (11, [g0, g1, g2, g3, g4, g5, g6, g7, g8, g9, g10, g11, .ref a1, g13, g14, g15, g16])), (a1, .inl (K 0, 5, .inl f))] s.heap := hP
  have hl := lv_entry [.ref a0, .int (-1)] (n := 3) (Nat.le_of_ble_eq_true rfl)
  rw [lg_entry_eq]
  generalize (lg_sl [.ref a0, .int (-1)] ++ List.replicate (3 - (lg_sl [.ref a0, .int (-1)]).length) Slot.unset).toArray = ls at hl ⊢
  have hl : lv_has ls 3 [(0, .ref a0), (1, .int (-1))] := hl
  have hw11 : ∀ w ∈ wsX110, w ∈ wsX11_refuse := fun w h => (List.mem_cons_of_mem _ (List.mem_append_right _ h))
  refine lv_iload_n hx hb dX11_refuse_0 rfl (lv_at hl 1 rfl) ?_
  refine lv_bipush (v := (-4)) hx hb dX11_refuse_1 (by decide) ?_
  refine lv_icmp_le (tgt := 13) hx hb dX11_refuse_3 (by decide) (fun c_1 => absurd c_1 (by decide)) (fun c_1 => ?_)
  refine lv_iload_n hx hb dX11_refuse_6 rfl (lv_at hl 1 rfl) ?_
  refine lv_ineg hx hb dX11_refuse_7 ?_
  refine lv_topi (fun x_2 ex_2 => ?_)
  obtain rfl : x_2 = 1 := ex_2.trans (by first | rfl | decide)
  refine lv_iconst (v := 1) hx hb dX11_refuse_8 (by decide) ?_
  refine lv_isub hx hb dX11_refuse_9 ?_
  refine lv_topi (fun x_3 ex_3 => ?_)
  obtain rfl : x_3 = 0 := ex_3.trans (by first | rfl | decide)
  refine lv_goto (tgt := 17) hx hb dX11_refuse_10 (by decide) ?_
  refine lv_istore_n (lv' := [(2, .int 0), (0, .ref a0), (1, .int (-1))]) hx hb dX11_refuse_17 rfl hl (by decide) rfl (fun ls hl => ?_)
  refine lv_iload_n hx hb dX11_refuse_18 rfl (lv_at hl 0 rfl) ?_
  refine lv_iconst (v := 0) hx hb dX11_refuse_19 (by decide) ?_
  refine lv_aload_n hx hb dX11_refuse_20 rfl (lv_at hl 1 rfl) ?_
  refine va_get (ci := 11) (v := .ref a1) (C := RX11) (T := TX11) (N := 17) hx hb hts hw11 hown hK hP 0 rfl rfl 12 (by decide) (hts (.fieldLink RX11 79 "SmokeTune" "refusals" "[I") (List.mem_cons_of_mem _ (List.mem_append_left _ (List.mem_of_getElem? (i := 0) rfl)))) (fun _ h9 => h9) rfl dX11_refuse_21 ?_
  refine va_alen (v := 5) hx hb hK hP 1 0 rfl rfl (by decide) dX11_refuse_24 ?_
  refine lv_iconst (v := 1) hx hb dX11_refuse_25 (by decide) ?_
  refine lv_isub hx hb dX11_refuse_26 ?_
  refine lv_topi (fun x_4 ex_4 => ?_)
  obtain rfl : x_4 = 4 := ex_4.trans (by first | rfl | decide)
  refine pci (va_runS (As := [.int 0, .int 0, .int 4]) (rest := []) ⟨hx, hb, hml, hown, hts⟩ (c_within l D K 0 0 4 0 0 4 s.heap.size rfl rfl rfl) (va_cwS 3 hts gX11_refuse_X11_within rfl rfl rfl (by decide +kernel) ⟨Nat.le_of_ble_eq_true rfl, Nat.le_of_ble_eq_true rfl⟩) (mkS hK hN (hP.sub [] rfl) (hD.sub [] (by decide) rfl)) rfl rfl hl.1 rfl (lv_room (Nat.le_of_ble_eq_true rfl)) dX11_refuse_27 ⟨Nat.le_of_ble_eq_true rfl, Nat.le_of_ble_eq_true rfl⟩) (fun r_5 hw => ?_)
  rcases hw with ⟨rfl, h_6, h_7⟩ | ⟨rfl, h_8⟩
  · refine lv_if_eq (tgt := 43) hx hb dX11_refuse_30 (by decide) (fun c_9 => absurd c_9 (by decide)) (fun c_9 => ?_)
    refine lv_aload_n hx hb dX11_refuse_33 rfl (lv_at hl 1 rfl) ?_
    refine va_get (ci := 11) (v := .ref a1) (C := RX11) (T := TX11) (N := 17) hx hb hts hw11 hown hK hP 0 rfl rfl 12 (by decide) (hts (.fieldLink RX11 79 "SmokeTune" "refusals" "[I") (List.mem_cons_of_mem _ (List.mem_append_left _ (List.mem_of_getElem? (i := 0) rfl)))) (fun _ h9 => h9) rfl dX11_refuse_34 ?_
    refine lv_iload_n hx hb dX11_refuse_37 rfl (lv_at hl 0 rfl) ?_
    refine lv_dup2_11 hx hb dX11_refuse_38 rfl rfl ?_
    refine va_iald hx hb hK hP 1 0 rfl rfl (i_in (x := 0) rfl (by omega)) dX11_refuse_39 ?_
    refine lv_topi (fun x_10 ex_10 => ?_)
    refine lv_iconst (v := 1) hx hb dX11_refuse_40 (by decide) ?_
    refine lv_iadd hx hb dX11_refuse_41 ?_
    refine lv_topi (fun x_11 ex_11 => ?_)
    refine va_iast hx hb hK hP hD hS 1 0 rfl rfl (i_in (x := 0) rfl (by omega)) dX11_refuse_42 (fun H locs hP hD hS => ?_)
    generalize hf_12 : (upd f (0 : Int32).toNatClampNeg x_11) = f_12 at hP hD
    have hP : va_P D vwCl [(a0, .inr (11, [g0, g1, g2, g3, g4, g5, g6, g7, g8, g9, g10, g11, .ref a1, g13, g14, g15, g16])), (a1, .inl (K 0, 5, .inl f_12))] H := hP
    have hD : va_D A [(a0, .inr (11, [g0, g1, g2, g3, g4, g5, g6, g7, g8, g9, g10, g11, .ref a1, g13, g14, g15, g16])), (a1, .inl (K 0, 5, .inl f_12))] := hD
    refine lv_aload_n hx hb dX11_refuse_43 rfl (lv_at hl 1 rfl) ?_
    refine lv_iload_n hx hb dX11_refuse_44 rfl (lv_at hl 2 rfl) ?_
    refine va_put (ci := 11) (v := .int (-1)) (ty := .int) (C := RX11) (T := TX11) (N := 17) hx hb hts hw11 tyX11 tyX11_ok nmX11 hown hK hP hD hS 0 rfl rfl 13 (by decide) (hts (.fieldLink RX11 83 "SmokeTune" "refusedBy" "I") (List.mem_cons_of_mem _ (List.mem_append_left _ (List.mem_of_getElem? (i := 1) rfl)))) (fun _ h9 => h9) rfl (by decide +kernel) (by first | rfl | decide) (by first | rfl | decide) (Nat.le_of_ble_eq_true rfl) dX11_refuse_45 (fun H locs hP hD hS => ?_)
    have hP : va_P D vwCl [(a0, .inr (11, [g0, g1, g2, g3, g4, g5, g6, g7, g8, g9, g10, g11, .ref a1, .int (-1), g14, g15, g16])), (a1, .inl (K 0, 5, .inl f_12))] H := hP
    have hD : va_D A [(a0, .inr (11, [g0, g1, g2, g3, g4, g5, g6, g7, g8, g9, g10, g11, .ref a1, .int (-1), g14, g15, g16])), (a1, .inl (K 0, 5, .inl f_12))] := hD
    refine lv_iload_n hx hb dX11_refuse_48 rfl (lv_at hl 2 rfl) ?_
    exact W.iret (v := (-1)) hx hb hr (fun t ht hW => ⟨⟨(-1), (), rfl, (by first | exact rfl), Wd.nil⟩, hS.F ht⟩) hS.2.2 dX11_refuse_49
  · exfalso; omega
set_option maxHeartbeats 4000000 in
set_option maxRecDepth 100000 in
theorem c_refuse_2 (l : Launch) (D : va_G) (K : Nat → ClassId) (a0 : Nat) (g0 : Value) (g1 : Value) (g2 : Value) (g3 : Value) (g4 : Value) (g5 : Value) (g6 : Value) (g7 : Value) (g8 : Value) (g9 : Value) (g10 : Value) (g11 : Value) (a1 : Nat) (g13 : Value) (g14 : Value) (g15 : Value) (g16 : Value) (f : Nat → Int32) (sz : Nat) : Met l yX11_refuse wsX11_refuse ({ frames := 1, cells := 0, slots := 0, locals := 22 }) (va_Pc [.ref a0, .int (-2)] (Pre D K [(a0, .inr (11, [g0, g1, g2, g3, g4, g5, g6, g7, g8, g9, g10, g11, .ref a1, g13, g14, g15, g16])), (a1, .inl (K 0, 5, .inl f))] sz)) (va_Qi (S := Unit) (fun (r : Int32) (_ : Unit) => (r = (-2))) (fun u t => Wd D (va_A [(a0, .inr (11, [g0, g1, g2, g3, g4, g5, g6, g7, g8, g9, g10, g11, .ref a1, g13, g14, g15, g16])), (a1, .inl (K 0, 5, .inl f))] sz) ((fun _ => []) u) t) (va_A [(a0, .inr (11, [g0, g1, g2, g3, g4, g5, g6, g7, g8, g9, g10, g11, .ref a1, g13, g14, g15, g16])), (a1, .inl (K 0, 5, .inl f))] sz)) 0 0 (va_A [(a0, .inr (11, [g0, g1, g2, g3, g4, g5, g6, g7, g8, g9, g10, g11, .ref a1, g13, g14, g15, g16])), (a1, .inl (K 0, 5, .inl f))] sz) := by
  refine Met.ofW (cc := cX11_refuse) (maxL := 3) (ret := (some .int)) (by decide) rfl ?_
  intro p e s m args below meth c s₁ B hml hv
  obtain ⟨rfl, hsz, hP, hK, hD0, hN⟩ := hv
  have hx := B.exec
  have hb := B.bytes
  have hr := B.returns
  have hts := atoms_spec (ws := wsX11_refuse) B.pre
  have hown : s.vm.findClass RX11 = some m.cls := findClass_of_methodNamed B.named
  have hlocks := B.notSynchronized
  subst hsz
  have hD := hD0.self (sz := s.heap.size)
  generalize hAe : va_A [(a0, .inr (11, [g0, g1, g2, g3, g4, g5, g6, g7, g8, g9, g10, g11, .ref a1, g13, g14, g15, g16])), (a1, .inl (K 0, 5, .inl f))] s.heap.size = A at hD ⊢
  have hA : ∀ q : Nat, s.heap.size ≤ q → A q := fun q h => by rw [← hAe]; exact Or.inr h
  have hS : va_S A s.heap s.heap [] := va_S.rf
  have hP : va_P D vwCl [(a0, .inr (11, [g0, g1, g2, g3, g4, g5, g6, g7, g8, g9, g10, g11, .ref a1, g13, g14, g15, g16])), (a1, .inl (K 0, 5, .inl f))] s.heap := hP
  have hl := lv_entry [.ref a0, .int (-2)] (n := 3) (Nat.le_of_ble_eq_true rfl)
  rw [lg_entry_eq]
  generalize (lg_sl [.ref a0, .int (-2)] ++ List.replicate (3 - (lg_sl [.ref a0, .int (-2)]).length) Slot.unset).toArray = ls at hl ⊢
  have hl : lv_has ls 3 [(0, .ref a0), (1, .int (-2))] := hl
  have hw11 : ∀ w ∈ wsX110, w ∈ wsX11_refuse := fun w h => (List.mem_cons_of_mem _ (List.mem_append_right _ h))
  refine lv_iload_n hx hb dX11_refuse_0 rfl (lv_at hl 1 rfl) ?_
  refine lv_bipush (v := (-4)) hx hb dX11_refuse_1 (by decide) ?_
  refine lv_icmp_le (tgt := 13) hx hb dX11_refuse_3 (by decide) (fun c_1 => absurd c_1 (by decide)) (fun c_1 => ?_)
  refine lv_iload_n hx hb dX11_refuse_6 rfl (lv_at hl 1 rfl) ?_
  refine lv_ineg hx hb dX11_refuse_7 ?_
  refine lv_topi (fun x_2 ex_2 => ?_)
  obtain rfl : x_2 = 2 := ex_2.trans (by first | rfl | decide)
  refine lv_iconst (v := 1) hx hb dX11_refuse_8 (by decide) ?_
  refine lv_isub hx hb dX11_refuse_9 ?_
  refine lv_topi (fun x_3 ex_3 => ?_)
  obtain rfl : x_3 = 1 := ex_3.trans (by first | rfl | decide)
  refine lv_goto (tgt := 17) hx hb dX11_refuse_10 (by decide) ?_
  refine lv_istore_n (lv' := [(2, .int 1), (0, .ref a0), (1, .int (-2))]) hx hb dX11_refuse_17 rfl hl (by decide) rfl (fun ls hl => ?_)
  refine lv_iload_n hx hb dX11_refuse_18 rfl (lv_at hl 0 rfl) ?_
  refine lv_iconst (v := 0) hx hb dX11_refuse_19 (by decide) ?_
  refine lv_aload_n hx hb dX11_refuse_20 rfl (lv_at hl 1 rfl) ?_
  refine va_get (ci := 11) (v := .ref a1) (C := RX11) (T := TX11) (N := 17) hx hb hts hw11 hown hK hP 0 rfl rfl 12 (by decide) (hts (.fieldLink RX11 79 "SmokeTune" "refusals" "[I") (List.mem_cons_of_mem _ (List.mem_append_left _ (List.mem_of_getElem? (i := 0) rfl)))) (fun _ h9 => h9) rfl dX11_refuse_21 ?_
  refine va_alen (v := 5) hx hb hK hP 1 0 rfl rfl (by decide) dX11_refuse_24 ?_
  refine lv_iconst (v := 1) hx hb dX11_refuse_25 (by decide) ?_
  refine lv_isub hx hb dX11_refuse_26 ?_
  refine lv_topi (fun x_4 ex_4 => ?_)
  obtain rfl : x_4 = 4 := ex_4.trans (by first | rfl | decide)
  refine pci (va_runS (As := [.int 1, .int 0, .int 4]) (rest := []) ⟨hx, hb, hml, hown, hts⟩ (c_within l D K 1 0 4 1 0 4 s.heap.size rfl rfl rfl) (va_cwS 3 hts gX11_refuse_X11_within rfl rfl rfl (by decide +kernel) ⟨Nat.le_of_ble_eq_true rfl, Nat.le_of_ble_eq_true rfl⟩) (mkS hK hN (hP.sub [] rfl) (hD.sub [] (by decide) rfl)) rfl rfl hl.1 rfl (lv_room (Nat.le_of_ble_eq_true rfl)) dX11_refuse_27 ⟨Nat.le_of_ble_eq_true rfl, Nat.le_of_ble_eq_true rfl⟩) (fun r_5 hw => ?_)
  rcases hw with ⟨rfl, h_6, h_7⟩ | ⟨rfl, h_8⟩
  · refine lv_if_eq (tgt := 43) hx hb dX11_refuse_30 (by decide) (fun c_9 => absurd c_9 (by decide)) (fun c_9 => ?_)
    refine lv_aload_n hx hb dX11_refuse_33 rfl (lv_at hl 1 rfl) ?_
    refine va_get (ci := 11) (v := .ref a1) (C := RX11) (T := TX11) (N := 17) hx hb hts hw11 hown hK hP 0 rfl rfl 12 (by decide) (hts (.fieldLink RX11 79 "SmokeTune" "refusals" "[I") (List.mem_cons_of_mem _ (List.mem_append_left _ (List.mem_of_getElem? (i := 0) rfl)))) (fun _ h9 => h9) rfl dX11_refuse_34 ?_
    refine lv_iload_n hx hb dX11_refuse_37 rfl (lv_at hl 0 rfl) ?_
    refine lv_dup2_11 hx hb dX11_refuse_38 rfl rfl ?_
    refine va_iald hx hb hK hP 1 0 rfl rfl (i_in (x := 1) rfl (by omega)) dX11_refuse_39 ?_
    refine lv_topi (fun x_10 ex_10 => ?_)
    refine lv_iconst (v := 1) hx hb dX11_refuse_40 (by decide) ?_
    refine lv_iadd hx hb dX11_refuse_41 ?_
    refine lv_topi (fun x_11 ex_11 => ?_)
    refine va_iast hx hb hK hP hD hS 1 0 rfl rfl (i_in (x := 1) rfl (by omega)) dX11_refuse_42 (fun H locs hP hD hS => ?_)
    generalize hf_12 : (upd f (1 : Int32).toNatClampNeg x_11) = f_12 at hP hD
    have hP : va_P D vwCl [(a0, .inr (11, [g0, g1, g2, g3, g4, g5, g6, g7, g8, g9, g10, g11, .ref a1, g13, g14, g15, g16])), (a1, .inl (K 0, 5, .inl f_12))] H := hP
    have hD : va_D A [(a0, .inr (11, [g0, g1, g2, g3, g4, g5, g6, g7, g8, g9, g10, g11, .ref a1, g13, g14, g15, g16])), (a1, .inl (K 0, 5, .inl f_12))] := hD
    refine lv_aload_n hx hb dX11_refuse_43 rfl (lv_at hl 1 rfl) ?_
    refine lv_iload_n hx hb dX11_refuse_44 rfl (lv_at hl 2 rfl) ?_
    refine va_put (ci := 11) (v := .int (-2)) (ty := .int) (C := RX11) (T := TX11) (N := 17) hx hb hts hw11 tyX11 tyX11_ok nmX11 hown hK hP hD hS 0 rfl rfl 13 (by decide) (hts (.fieldLink RX11 83 "SmokeTune" "refusedBy" "I") (List.mem_cons_of_mem _ (List.mem_append_left _ (List.mem_of_getElem? (i := 1) rfl)))) (fun _ h9 => h9) rfl (by decide +kernel) (by first | rfl | decide) (by first | rfl | decide) (Nat.le_of_ble_eq_true rfl) dX11_refuse_45 (fun H locs hP hD hS => ?_)
    have hP : va_P D vwCl [(a0, .inr (11, [g0, g1, g2, g3, g4, g5, g6, g7, g8, g9, g10, g11, .ref a1, .int (-2), g14, g15, g16])), (a1, .inl (K 0, 5, .inl f_12))] H := hP
    have hD : va_D A [(a0, .inr (11, [g0, g1, g2, g3, g4, g5, g6, g7, g8, g9, g10, g11, .ref a1, .int (-2), g14, g15, g16])), (a1, .inl (K 0, 5, .inl f_12))] := hD
    refine lv_iload_n hx hb dX11_refuse_48 rfl (lv_at hl 2 rfl) ?_
    exact W.iret (v := (-2)) hx hb hr (fun t ht hW => ⟨⟨(-2), (), rfl, (by first | exact rfl), Wd.nil⟩, hS.F ht⟩) hS.2.2 dX11_refuse_49
  · exfalso; omega
set_option maxHeartbeats 4000000 in
set_option maxRecDepth 100000 in
theorem c_refuse_3 (l : Launch) (D : va_G) (K : Nat → ClassId) (a0 : Nat) (g0 : Value) (g1 : Value) (g2 : Value) (g3 : Value) (g4 : Value) (g5 : Value) (g6 : Value) (g7 : Value) (g8 : Value) (g9 : Value) (g10 : Value) (g11 : Value) (a1 : Nat) (g13 : Value) (g14 : Value) (g15 : Value) (g16 : Value) (f : Nat → Int32) (sz : Nat) : Met l yX11_refuse wsX11_refuse ({ frames := 1, cells := 0, slots := 0, locals := 22 }) (va_Pc [.ref a0, .int (-3)] (Pre D K [(a0, .inr (11, [g0, g1, g2, g3, g4, g5, g6, g7, g8, g9, g10, g11, .ref a1, g13, g14, g15, g16])), (a1, .inl (K 0, 5, .inl f))] sz)) (va_Qi (S := Unit) (fun (r : Int32) (_ : Unit) => (r = (-3))) (fun u t => Wd D (va_A [(a0, .inr (11, [g0, g1, g2, g3, g4, g5, g6, g7, g8, g9, g10, g11, .ref a1, g13, g14, g15, g16])), (a1, .inl (K 0, 5, .inl f))] sz) ((fun _ => []) u) t) (va_A [(a0, .inr (11, [g0, g1, g2, g3, g4, g5, g6, g7, g8, g9, g10, g11, .ref a1, g13, g14, g15, g16])), (a1, .inl (K 0, 5, .inl f))] sz)) 0 0 (va_A [(a0, .inr (11, [g0, g1, g2, g3, g4, g5, g6, g7, g8, g9, g10, g11, .ref a1, g13, g14, g15, g16])), (a1, .inl (K 0, 5, .inl f))] sz) := by
  refine Met.ofW (cc := cX11_refuse) (maxL := 3) (ret := (some .int)) (by decide) rfl ?_
  intro p e s m args below meth c s₁ B hml hv
  obtain ⟨rfl, hsz, hP, hK, hD0, hN⟩ := hv
  have hx := B.exec
  have hb := B.bytes
  have hr := B.returns
  have hts := atoms_spec (ws := wsX11_refuse) B.pre
  have hown : s.vm.findClass RX11 = some m.cls := findClass_of_methodNamed B.named
  have hlocks := B.notSynchronized
  subst hsz
  have hD := hD0.self (sz := s.heap.size)
  generalize hAe : va_A [(a0, .inr (11, [g0, g1, g2, g3, g4, g5, g6, g7, g8, g9, g10, g11, .ref a1, g13, g14, g15, g16])), (a1, .inl (K 0, 5, .inl f))] s.heap.size = A at hD ⊢
  have hA : ∀ q : Nat, s.heap.size ≤ q → A q := fun q h => by rw [← hAe]; exact Or.inr h
  have hS : va_S A s.heap s.heap [] := va_S.rf
  have hP : va_P D vwCl [(a0, .inr (11, [g0, g1, g2, g3, g4, g5, g6, g7, g8, g9, g10, g11, .ref a1, g13, g14, g15, g16])), (a1, .inl (K 0, 5, .inl f))] s.heap := hP
  have hl := lv_entry [.ref a0, .int (-3)] (n := 3) (Nat.le_of_ble_eq_true rfl)
  rw [lg_entry_eq]
  generalize (lg_sl [.ref a0, .int (-3)] ++ List.replicate (3 - (lg_sl [.ref a0, .int (-3)]).length) Slot.unset).toArray = ls at hl ⊢
  have hl : lv_has ls 3 [(0, .ref a0), (1, .int (-3))] := hl
  have hw11 : ∀ w ∈ wsX110, w ∈ wsX11_refuse := fun w h => (List.mem_cons_of_mem _ (List.mem_append_right _ h))
  refine lv_iload_n hx hb dX11_refuse_0 rfl (lv_at hl 1 rfl) ?_
  refine lv_bipush (v := (-4)) hx hb dX11_refuse_1 (by decide) ?_
  refine lv_icmp_le (tgt := 13) hx hb dX11_refuse_3 (by decide) (fun c_1 => absurd c_1 (by decide)) (fun c_1 => ?_)
  refine lv_iload_n hx hb dX11_refuse_6 rfl (lv_at hl 1 rfl) ?_
  refine lv_ineg hx hb dX11_refuse_7 ?_
  refine lv_topi (fun x_2 ex_2 => ?_)
  obtain rfl : x_2 = 3 := ex_2.trans (by first | rfl | decide)
  refine lv_iconst (v := 1) hx hb dX11_refuse_8 (by decide) ?_
  refine lv_isub hx hb dX11_refuse_9 ?_
  refine lv_topi (fun x_3 ex_3 => ?_)
  obtain rfl : x_3 = 2 := ex_3.trans (by first | rfl | decide)
  refine lv_goto (tgt := 17) hx hb dX11_refuse_10 (by decide) ?_
  refine lv_istore_n (lv' := [(2, .int 2), (0, .ref a0), (1, .int (-3))]) hx hb dX11_refuse_17 rfl hl (by decide) rfl (fun ls hl => ?_)
  refine lv_iload_n hx hb dX11_refuse_18 rfl (lv_at hl 0 rfl) ?_
  refine lv_iconst (v := 0) hx hb dX11_refuse_19 (by decide) ?_
  refine lv_aload_n hx hb dX11_refuse_20 rfl (lv_at hl 1 rfl) ?_
  refine va_get (ci := 11) (v := .ref a1) (C := RX11) (T := TX11) (N := 17) hx hb hts hw11 hown hK hP 0 rfl rfl 12 (by decide) (hts (.fieldLink RX11 79 "SmokeTune" "refusals" "[I") (List.mem_cons_of_mem _ (List.mem_append_left _ (List.mem_of_getElem? (i := 0) rfl)))) (fun _ h9 => h9) rfl dX11_refuse_21 ?_
  refine va_alen (v := 5) hx hb hK hP 1 0 rfl rfl (by decide) dX11_refuse_24 ?_
  refine lv_iconst (v := 1) hx hb dX11_refuse_25 (by decide) ?_
  refine lv_isub hx hb dX11_refuse_26 ?_
  refine lv_topi (fun x_4 ex_4 => ?_)
  obtain rfl : x_4 = 4 := ex_4.trans (by first | rfl | decide)
  refine pci (va_runS (As := [.int 2, .int 0, .int 4]) (rest := []) ⟨hx, hb, hml, hown, hts⟩ (c_within l D K 2 0 4 2 0 4 s.heap.size rfl rfl rfl) (va_cwS 3 hts gX11_refuse_X11_within rfl rfl rfl (by decide +kernel) ⟨Nat.le_of_ble_eq_true rfl, Nat.le_of_ble_eq_true rfl⟩) (mkS hK hN (hP.sub [] rfl) (hD.sub [] (by decide) rfl)) rfl rfl hl.1 rfl (lv_room (Nat.le_of_ble_eq_true rfl)) dX11_refuse_27 ⟨Nat.le_of_ble_eq_true rfl, Nat.le_of_ble_eq_true rfl⟩) (fun r_5 hw => ?_)
  rcases hw with ⟨rfl, h_6, h_7⟩ | ⟨rfl, h_8⟩
  · refine lv_if_eq (tgt := 43) hx hb dX11_refuse_30 (by decide) (fun c_9 => absurd c_9 (by decide)) (fun c_9 => ?_)
    refine lv_aload_n hx hb dX11_refuse_33 rfl (lv_at hl 1 rfl) ?_
    refine va_get (ci := 11) (v := .ref a1) (C := RX11) (T := TX11) (N := 17) hx hb hts hw11 hown hK hP 0 rfl rfl 12 (by decide) (hts (.fieldLink RX11 79 "SmokeTune" "refusals" "[I") (List.mem_cons_of_mem _ (List.mem_append_left _ (List.mem_of_getElem? (i := 0) rfl)))) (fun _ h9 => h9) rfl dX11_refuse_34 ?_
    refine lv_iload_n hx hb dX11_refuse_37 rfl (lv_at hl 0 rfl) ?_
    refine lv_dup2_11 hx hb dX11_refuse_38 rfl rfl ?_
    refine va_iald hx hb hK hP 1 0 rfl rfl (i_in (x := 2) rfl (by omega)) dX11_refuse_39 ?_
    refine lv_topi (fun x_10 ex_10 => ?_)
    refine lv_iconst (v := 1) hx hb dX11_refuse_40 (by decide) ?_
    refine lv_iadd hx hb dX11_refuse_41 ?_
    refine lv_topi (fun x_11 ex_11 => ?_)
    refine va_iast hx hb hK hP hD hS 1 0 rfl rfl (i_in (x := 2) rfl (by omega)) dX11_refuse_42 (fun H locs hP hD hS => ?_)
    generalize hf_12 : (upd f (2 : Int32).toNatClampNeg x_11) = f_12 at hP hD
    have hP : va_P D vwCl [(a0, .inr (11, [g0, g1, g2, g3, g4, g5, g6, g7, g8, g9, g10, g11, .ref a1, g13, g14, g15, g16])), (a1, .inl (K 0, 5, .inl f_12))] H := hP
    have hD : va_D A [(a0, .inr (11, [g0, g1, g2, g3, g4, g5, g6, g7, g8, g9, g10, g11, .ref a1, g13, g14, g15, g16])), (a1, .inl (K 0, 5, .inl f_12))] := hD
    refine lv_aload_n hx hb dX11_refuse_43 rfl (lv_at hl 1 rfl) ?_
    refine lv_iload_n hx hb dX11_refuse_44 rfl (lv_at hl 2 rfl) ?_
    refine va_put (ci := 11) (v := .int (-3)) (ty := .int) (C := RX11) (T := TX11) (N := 17) hx hb hts hw11 tyX11 tyX11_ok nmX11 hown hK hP hD hS 0 rfl rfl 13 (by decide) (hts (.fieldLink RX11 83 "SmokeTune" "refusedBy" "I") (List.mem_cons_of_mem _ (List.mem_append_left _ (List.mem_of_getElem? (i := 1) rfl)))) (fun _ h9 => h9) rfl (by decide +kernel) (by first | rfl | decide) (by first | rfl | decide) (Nat.le_of_ble_eq_true rfl) dX11_refuse_45 (fun H locs hP hD hS => ?_)
    have hP : va_P D vwCl [(a0, .inr (11, [g0, g1, g2, g3, g4, g5, g6, g7, g8, g9, g10, g11, .ref a1, .int (-3), g14, g15, g16])), (a1, .inl (K 0, 5, .inl f_12))] H := hP
    have hD : va_D A [(a0, .inr (11, [g0, g1, g2, g3, g4, g5, g6, g7, g8, g9, g10, g11, .ref a1, .int (-3), g14, g15, g16])), (a1, .inl (K 0, 5, .inl f_12))] := hD
    refine lv_iload_n hx hb dX11_refuse_48 rfl (lv_at hl 2 rfl) ?_
    exact W.iret (v := (-3)) hx hb hr (fun t ht hW => ⟨⟨(-3), (), rfl, (by first | exact rfl), Wd.nil⟩, hS.F ht⟩) hS.2.2 dX11_refuse_49
  · exfalso; omega
set_option maxHeartbeats 4000000 in
set_option maxRecDepth 100000 in
theorem c_refuse_5 (l : Launch) (D : va_G) (K : Nat → ClassId) (a0 : Nat) (g0 : Value) (g1 : Value) (g2 : Value) (g3 : Value) (g4 : Value) (g5 : Value) (g6 : Value) (g7 : Value) (g8 : Value) (g9 : Value) (g10 : Value) (g11 : Value) (a1 : Nat) (g13 : Value) (g14 : Value) (g15 : Value) (g16 : Value) (f : Nat → Int32) (sz : Nat) : Met l yX11_refuse wsX11_refuse ({ frames := 1, cells := 0, slots := 0, locals := 22 }) (va_Pc [.ref a0, .int (-5)] (Pre D K [(a0, .inr (11, [g0, g1, g2, g3, g4, g5, g6, g7, g8, g9, g10, g11, .ref a1, g13, g14, g15, g16])), (a1, .inl (K 0, 5, .inl f))] sz)) (va_Qi (S := Unit) (fun (r : Int32) (_ : Unit) => (r = (-5))) (fun u t => Wd D (va_A [(a0, .inr (11, [g0, g1, g2, g3, g4, g5, g6, g7, g8, g9, g10, g11, .ref a1, g13, g14, g15, g16])), (a1, .inl (K 0, 5, .inl f))] sz) ((fun _ => []) u) t) (va_A [(a0, .inr (11, [g0, g1, g2, g3, g4, g5, g6, g7, g8, g9, g10, g11, .ref a1, g13, g14, g15, g16])), (a1, .inl (K 0, 5, .inl f))] sz)) 0 0 (va_A [(a0, .inr (11, [g0, g1, g2, g3, g4, g5, g6, g7, g8, g9, g10, g11, .ref a1, g13, g14, g15, g16])), (a1, .inl (K 0, 5, .inl f))] sz) := by
  refine Met.ofW (cc := cX11_refuse) (maxL := 3) (ret := (some .int)) (by decide) rfl ?_
  intro p e s m args below meth c s₁ B hml hv
  obtain ⟨rfl, hsz, hP, hK, hD0, hN⟩ := hv
  have hx := B.exec
  have hb := B.bytes
  have hr := B.returns
  have hts := atoms_spec (ws := wsX11_refuse) B.pre
  have hown : s.vm.findClass RX11 = some m.cls := findClass_of_methodNamed B.named
  have hlocks := B.notSynchronized
  subst hsz
  have hD := hD0.self (sz := s.heap.size)
  generalize hAe : va_A [(a0, .inr (11, [g0, g1, g2, g3, g4, g5, g6, g7, g8, g9, g10, g11, .ref a1, g13, g14, g15, g16])), (a1, .inl (K 0, 5, .inl f))] s.heap.size = A at hD ⊢
  have hA : ∀ q : Nat, s.heap.size ≤ q → A q := fun q h => by rw [← hAe]; exact Or.inr h
  have hS : va_S A s.heap s.heap [] := va_S.rf
  have hP : va_P D vwCl [(a0, .inr (11, [g0, g1, g2, g3, g4, g5, g6, g7, g8, g9, g10, g11, .ref a1, g13, g14, g15, g16])), (a1, .inl (K 0, 5, .inl f))] s.heap := hP
  have hl := lv_entry [.ref a0, .int (-5)] (n := 3) (Nat.le_of_ble_eq_true rfl)
  rw [lg_entry_eq]
  generalize (lg_sl [.ref a0, .int (-5)] ++ List.replicate (3 - (lg_sl [.ref a0, .int (-5)]).length) Slot.unset).toArray = ls at hl ⊢
  have hl : lv_has ls 3 [(0, .ref a0), (1, .int (-5))] := hl
  have hw11 : ∀ w ∈ wsX110, w ∈ wsX11_refuse := fun w h => (List.mem_cons_of_mem _ (List.mem_append_right _ h))
  refine lv_iload_n hx hb dX11_refuse_0 rfl (lv_at hl 1 rfl) ?_
  refine lv_bipush (v := (-4)) hx hb dX11_refuse_1 (by decide) ?_
  refine lv_icmp_le (tgt := 13) hx hb dX11_refuse_3 (by decide) (fun c_1 => ?_) (fun c_1 => absurd (by decide) c_1)
  refine lv_iload_n hx hb dX11_refuse_13 rfl (lv_at hl 1 rfl) ?_
  refine lv_ineg hx hb dX11_refuse_14 ?_
  refine lv_topi (fun x_2 ex_2 => ?_)
  obtain rfl : x_2 = 5 := ex_2.trans (by first | rfl | decide)
  refine lv_iconst (v := 2) hx hb dX11_refuse_15 (by decide) ?_
  refine lv_isub hx hb dX11_refuse_16 ?_
  refine lv_topi (fun x_3 ex_3 => ?_)
  obtain rfl : x_3 = 3 := ex_3.trans (by first | rfl | decide)
  refine lv_istore_n (lv' := [(2, .int 3), (0, .ref a0), (1, .int (-5))]) hx hb dX11_refuse_17 rfl hl (by decide) rfl (fun ls hl => ?_)
  refine lv_iload_n hx hb dX11_refuse_18 rfl (lv_at hl 0 rfl) ?_
  refine lv_iconst (v := 0) hx hb dX11_refuse_19 (by decide) ?_
  refine lv_aload_n hx hb dX11_refuse_20 rfl (lv_at hl 1 rfl) ?_
  refine va_get (ci := 11) (v := .ref a1) (C := RX11) (T := TX11) (N := 17) hx hb hts hw11 hown hK hP 0 rfl rfl 12 (by decide) (hts (.fieldLink RX11 79 "SmokeTune" "refusals" "[I") (List.mem_cons_of_mem _ (List.mem_append_left _ (List.mem_of_getElem? (i := 0) rfl)))) (fun _ h9 => h9) rfl dX11_refuse_21 ?_
  refine va_alen (v := 5) hx hb hK hP 1 0 rfl rfl (by decide) dX11_refuse_24 ?_
  refine lv_iconst (v := 1) hx hb dX11_refuse_25 (by decide) ?_
  refine lv_isub hx hb dX11_refuse_26 ?_
  refine lv_topi (fun x_4 ex_4 => ?_)
  obtain rfl : x_4 = 4 := ex_4.trans (by first | rfl | decide)
  refine pci (va_runS (As := [.int 3, .int 0, .int 4]) (rest := []) ⟨hx, hb, hml, hown, hts⟩ (c_within l D K 3 0 4 3 0 4 s.heap.size rfl rfl rfl) (va_cwS 3 hts gX11_refuse_X11_within rfl rfl rfl (by decide +kernel) ⟨Nat.le_of_ble_eq_true rfl, Nat.le_of_ble_eq_true rfl⟩) (mkS hK hN (hP.sub [] rfl) (hD.sub [] (by decide) rfl)) rfl rfl hl.1 rfl (lv_room (Nat.le_of_ble_eq_true rfl)) dX11_refuse_27 ⟨Nat.le_of_ble_eq_true rfl, Nat.le_of_ble_eq_true rfl⟩) (fun r_5 hw => ?_)
  rcases hw with ⟨rfl, h_6, h_7⟩ | ⟨rfl, h_8⟩
  · refine lv_if_eq (tgt := 43) hx hb dX11_refuse_30 (by decide) (fun c_9 => absurd c_9 (by decide)) (fun c_9 => ?_)
    refine lv_aload_n hx hb dX11_refuse_33 rfl (lv_at hl 1 rfl) ?_
    refine va_get (ci := 11) (v := .ref a1) (C := RX11) (T := TX11) (N := 17) hx hb hts hw11 hown hK hP 0 rfl rfl 12 (by decide) (hts (.fieldLink RX11 79 "SmokeTune" "refusals" "[I") (List.mem_cons_of_mem _ (List.mem_append_left _ (List.mem_of_getElem? (i := 0) rfl)))) (fun _ h9 => h9) rfl dX11_refuse_34 ?_
    refine lv_iload_n hx hb dX11_refuse_37 rfl (lv_at hl 0 rfl) ?_
    refine lv_dup2_11 hx hb dX11_refuse_38 rfl rfl ?_
    refine va_iald hx hb hK hP 1 0 rfl rfl (i_in (x := 3) rfl (by omega)) dX11_refuse_39 ?_
    refine lv_topi (fun x_10 ex_10 => ?_)
    refine lv_iconst (v := 1) hx hb dX11_refuse_40 (by decide) ?_
    refine lv_iadd hx hb dX11_refuse_41 ?_
    refine lv_topi (fun x_11 ex_11 => ?_)
    refine va_iast hx hb hK hP hD hS 1 0 rfl rfl (i_in (x := 3) rfl (by omega)) dX11_refuse_42 (fun H locs hP hD hS => ?_)
    generalize hf_12 : (upd f (3 : Int32).toNatClampNeg x_11) = f_12 at hP hD
    have hP : va_P D vwCl [(a0, .inr (11, [g0, g1, g2, g3, g4, g5, g6, g7, g8, g9, g10, g11, .ref a1, g13, g14, g15, g16])), (a1, .inl (K 0, 5, .inl f_12))] H := hP
    have hD : va_D A [(a0, .inr (11, [g0, g1, g2, g3, g4, g5, g6, g7, g8, g9, g10, g11, .ref a1, g13, g14, g15, g16])), (a1, .inl (K 0, 5, .inl f_12))] := hD
    refine lv_aload_n hx hb dX11_refuse_43 rfl (lv_at hl 1 rfl) ?_
    refine lv_iload_n hx hb dX11_refuse_44 rfl (lv_at hl 2 rfl) ?_
    refine va_put (ci := 11) (v := .int (-5)) (ty := .int) (C := RX11) (T := TX11) (N := 17) hx hb hts hw11 tyX11 tyX11_ok nmX11 hown hK hP hD hS 0 rfl rfl 13 (by decide) (hts (.fieldLink RX11 83 "SmokeTune" "refusedBy" "I") (List.mem_cons_of_mem _ (List.mem_append_left _ (List.mem_of_getElem? (i := 1) rfl)))) (fun _ h9 => h9) rfl (by decide +kernel) (by first | rfl | decide) (by first | rfl | decide) (Nat.le_of_ble_eq_true rfl) dX11_refuse_45 (fun H locs hP hD hS => ?_)
    have hP : va_P D vwCl [(a0, .inr (11, [g0, g1, g2, g3, g4, g5, g6, g7, g8, g9, g10, g11, .ref a1, .int (-5), g14, g15, g16])), (a1, .inl (K 0, 5, .inl f_12))] H := hP
    have hD : va_D A [(a0, .inr (11, [g0, g1, g2, g3, g4, g5, g6, g7, g8, g9, g10, g11, .ref a1, .int (-5), g14, g15, g16])), (a1, .inl (K 0, 5, .inl f_12))] := hD
    refine lv_iload_n hx hb dX11_refuse_48 rfl (lv_at hl 2 rfl) ?_
    exact W.iret (v := (-5)) hx hb hr (fun t ht hW => ⟨⟨(-5), (), rfl, (by first | exact rfl), Wd.nil⟩, hS.F ht⟩) hS.2.2 dX11_refuse_49
  · exfalso; omega
set_option maxHeartbeats 4000000 in
set_option maxRecDepth 100000 in
theorem c_refuse_6 (l : Launch) (D : va_G) (K : Nat → ClassId) (a0 : Nat) (g0 : Value) (g1 : Value) (g2 : Value) (g3 : Value) (g4 : Value) (g5 : Value) (g6 : Value) (g7 : Value) (g8 : Value) (g9 : Value) (g10 : Value) (g11 : Value) (a1 : Nat) (g13 : Value) (g14 : Value) (g15 : Value) (g16 : Value) (f : Nat → Int32) (sz : Nat) : Met l yX11_refuse wsX11_refuse ({ frames := 1, cells := 0, slots := 0, locals := 22 }) (va_Pc [.ref a0, .int (-6)] (Pre D K [(a0, .inr (11, [g0, g1, g2, g3, g4, g5, g6, g7, g8, g9, g10, g11, .ref a1, g13, g14, g15, g16])), (a1, .inl (K 0, 5, .inl f))] sz)) (va_Qi (S := Unit) (fun (r : Int32) (_ : Unit) => (r = (-6))) (fun u t => Wd D (va_A [(a0, .inr (11, [g0, g1, g2, g3, g4, g5, g6, g7, g8, g9, g10, g11, .ref a1, g13, g14, g15, g16])), (a1, .inl (K 0, 5, .inl f))] sz) ((fun _ => []) u) t) (va_A [(a0, .inr (11, [g0, g1, g2, g3, g4, g5, g6, g7, g8, g9, g10, g11, .ref a1, g13, g14, g15, g16])), (a1, .inl (K 0, 5, .inl f))] sz)) 0 0 (va_A [(a0, .inr (11, [g0, g1, g2, g3, g4, g5, g6, g7, g8, g9, g10, g11, .ref a1, g13, g14, g15, g16])), (a1, .inl (K 0, 5, .inl f))] sz) := by
  refine Met.ofW (cc := cX11_refuse) (maxL := 3) (ret := (some .int)) (by decide) rfl ?_
  intro p e s m args below meth c s₁ B hml hv
  obtain ⟨rfl, hsz, hP, hK, hD0, hN⟩ := hv
  have hx := B.exec
  have hb := B.bytes
  have hr := B.returns
  have hts := atoms_spec (ws := wsX11_refuse) B.pre
  have hown : s.vm.findClass RX11 = some m.cls := findClass_of_methodNamed B.named
  have hlocks := B.notSynchronized
  subst hsz
  have hD := hD0.self (sz := s.heap.size)
  generalize hAe : va_A [(a0, .inr (11, [g0, g1, g2, g3, g4, g5, g6, g7, g8, g9, g10, g11, .ref a1, g13, g14, g15, g16])), (a1, .inl (K 0, 5, .inl f))] s.heap.size = A at hD ⊢
  have hA : ∀ q : Nat, s.heap.size ≤ q → A q := fun q h => by rw [← hAe]; exact Or.inr h
  have hS : va_S A s.heap s.heap [] := va_S.rf
  have hP : va_P D vwCl [(a0, .inr (11, [g0, g1, g2, g3, g4, g5, g6, g7, g8, g9, g10, g11, .ref a1, g13, g14, g15, g16])), (a1, .inl (K 0, 5, .inl f))] s.heap := hP
  have hl := lv_entry [.ref a0, .int (-6)] (n := 3) (Nat.le_of_ble_eq_true rfl)
  rw [lg_entry_eq]
  generalize (lg_sl [.ref a0, .int (-6)] ++ List.replicate (3 - (lg_sl [.ref a0, .int (-6)]).length) Slot.unset).toArray = ls at hl ⊢
  have hl : lv_has ls 3 [(0, .ref a0), (1, .int (-6))] := hl
  have hw11 : ∀ w ∈ wsX110, w ∈ wsX11_refuse := fun w h => (List.mem_cons_of_mem _ (List.mem_append_right _ h))
  refine lv_iload_n hx hb dX11_refuse_0 rfl (lv_at hl 1 rfl) ?_
  refine lv_bipush (v := (-4)) hx hb dX11_refuse_1 (by decide) ?_
  refine lv_icmp_le (tgt := 13) hx hb dX11_refuse_3 (by decide) (fun c_1 => ?_) (fun c_1 => absurd (by decide) c_1)
  refine lv_iload_n hx hb dX11_refuse_13 rfl (lv_at hl 1 rfl) ?_
  refine lv_ineg hx hb dX11_refuse_14 ?_
  refine lv_topi (fun x_2 ex_2 => ?_)
  obtain rfl : x_2 = 6 := ex_2.trans (by first | rfl | decide)
  refine lv_iconst (v := 2) hx hb dX11_refuse_15 (by decide) ?_
  refine lv_isub hx hb dX11_refuse_16 ?_
  refine lv_topi (fun x_3 ex_3 => ?_)
  obtain rfl : x_3 = 4 := ex_3.trans (by first | rfl | decide)
  refine lv_istore_n (lv' := [(2, .int 4), (0, .ref a0), (1, .int (-6))]) hx hb dX11_refuse_17 rfl hl (by decide) rfl (fun ls hl => ?_)
  refine lv_iload_n hx hb dX11_refuse_18 rfl (lv_at hl 0 rfl) ?_
  refine lv_iconst (v := 0) hx hb dX11_refuse_19 (by decide) ?_
  refine lv_aload_n hx hb dX11_refuse_20 rfl (lv_at hl 1 rfl) ?_
  refine va_get (ci := 11) (v := .ref a1) (C := RX11) (T := TX11) (N := 17) hx hb hts hw11 hown hK hP 0 rfl rfl 12 (by decide) (hts (.fieldLink RX11 79 "SmokeTune" "refusals" "[I") (List.mem_cons_of_mem _ (List.mem_append_left _ (List.mem_of_getElem? (i := 0) rfl)))) (fun _ h9 => h9) rfl dX11_refuse_21 ?_
  refine va_alen (v := 5) hx hb hK hP 1 0 rfl rfl (by decide) dX11_refuse_24 ?_
  refine lv_iconst (v := 1) hx hb dX11_refuse_25 (by decide) ?_
  refine lv_isub hx hb dX11_refuse_26 ?_
  refine lv_topi (fun x_4 ex_4 => ?_)
  obtain rfl : x_4 = 4 := ex_4.trans (by first | rfl | decide)
  refine pci (va_runS (As := [.int 4, .int 0, .int 4]) (rest := []) ⟨hx, hb, hml, hown, hts⟩ (c_within l D K 4 0 4 4 0 4 s.heap.size rfl rfl rfl) (va_cwS 3 hts gX11_refuse_X11_within rfl rfl rfl (by decide +kernel) ⟨Nat.le_of_ble_eq_true rfl, Nat.le_of_ble_eq_true rfl⟩) (mkS hK hN (hP.sub [] rfl) (hD.sub [] (by decide) rfl)) rfl rfl hl.1 rfl (lv_room (Nat.le_of_ble_eq_true rfl)) dX11_refuse_27 ⟨Nat.le_of_ble_eq_true rfl, Nat.le_of_ble_eq_true rfl⟩) (fun r_5 hw => ?_)
  rcases hw with ⟨rfl, h_6, h_7⟩ | ⟨rfl, h_8⟩
  · refine lv_if_eq (tgt := 43) hx hb dX11_refuse_30 (by decide) (fun c_9 => absurd c_9 (by decide)) (fun c_9 => ?_)
    refine lv_aload_n hx hb dX11_refuse_33 rfl (lv_at hl 1 rfl) ?_
    refine va_get (ci := 11) (v := .ref a1) (C := RX11) (T := TX11) (N := 17) hx hb hts hw11 hown hK hP 0 rfl rfl 12 (by decide) (hts (.fieldLink RX11 79 "SmokeTune" "refusals" "[I") (List.mem_cons_of_mem _ (List.mem_append_left _ (List.mem_of_getElem? (i := 0) rfl)))) (fun _ h9 => h9) rfl dX11_refuse_34 ?_
    refine lv_iload_n hx hb dX11_refuse_37 rfl (lv_at hl 0 rfl) ?_
    refine lv_dup2_11 hx hb dX11_refuse_38 rfl rfl ?_
    refine va_iald hx hb hK hP 1 0 rfl rfl (i_in (x := 4) rfl (by omega)) dX11_refuse_39 ?_
    refine lv_topi (fun x_10 ex_10 => ?_)
    refine lv_iconst (v := 1) hx hb dX11_refuse_40 (by decide) ?_
    refine lv_iadd hx hb dX11_refuse_41 ?_
    refine lv_topi (fun x_11 ex_11 => ?_)
    refine va_iast hx hb hK hP hD hS 1 0 rfl rfl (i_in (x := 4) rfl (by omega)) dX11_refuse_42 (fun H locs hP hD hS => ?_)
    generalize hf_12 : (upd f (4 : Int32).toNatClampNeg x_11) = f_12 at hP hD
    have hP : va_P D vwCl [(a0, .inr (11, [g0, g1, g2, g3, g4, g5, g6, g7, g8, g9, g10, g11, .ref a1, g13, g14, g15, g16])), (a1, .inl (K 0, 5, .inl f_12))] H := hP
    have hD : va_D A [(a0, .inr (11, [g0, g1, g2, g3, g4, g5, g6, g7, g8, g9, g10, g11, .ref a1, g13, g14, g15, g16])), (a1, .inl (K 0, 5, .inl f_12))] := hD
    refine lv_aload_n hx hb dX11_refuse_43 rfl (lv_at hl 1 rfl) ?_
    refine lv_iload_n hx hb dX11_refuse_44 rfl (lv_at hl 2 rfl) ?_
    refine va_put (ci := 11) (v := .int (-6)) (ty := .int) (C := RX11) (T := TX11) (N := 17) hx hb hts hw11 tyX11 tyX11_ok nmX11 hown hK hP hD hS 0 rfl rfl 13 (by decide) (hts (.fieldLink RX11 83 "SmokeTune" "refusedBy" "I") (List.mem_cons_of_mem _ (List.mem_append_left _ (List.mem_of_getElem? (i := 1) rfl)))) (fun _ h9 => h9) rfl (by decide +kernel) (by first | rfl | decide) (by first | rfl | decide) (Nat.le_of_ble_eq_true rfl) dX11_refuse_45 (fun H locs hP hD hS => ?_)
    have hP : va_P D vwCl [(a0, .inr (11, [g0, g1, g2, g3, g4, g5, g6, g7, g8, g9, g10, g11, .ref a1, .int (-6), g14, g15, g16])), (a1, .inl (K 0, 5, .inl f_12))] H := hP
    have hD : va_D A [(a0, .inr (11, [g0, g1, g2, g3, g4, g5, g6, g7, g8, g9, g10, g11, .ref a1, .int (-6), g14, g15, g16])), (a1, .inl (K 0, 5, .inl f_12))] := hD
    refine lv_iload_n hx hb dX11_refuse_48 rfl (lv_at hl 2 rfl) ?_
    exact W.iret (v := (-6)) hx hb hr (fun t ht hW => ⟨⟨(-6), (), rfl, (by first | exact rfl), Wd.nil⟩, hS.F ht⟩) hS.2.2 dX11_refuse_49
  · exfalso; omega
set_option maxHeartbeats 4000000 in
set_option maxRecDepth 100000 in
theorem t_status (l : Launch) (D : va_G) (K : Nat → ClassId) (a0 : Nat) (g0 : Value) (g1 : Value) (g2 : Value) (g3 : Value) (g4 : Value) (g5 : Value) (g6 : Value) (g7 : Value) (g8 : Value) (g9 : Value) (g10 : Value) (g11 : Value) (g12 : Value) (g14 : Value) (g15 : Value) (g16 : Value) (sz : Nat) : Met l yX11_status wsX11_status ({ frames := 0, cells := 0, slots := 0, locals := 0 }) (va_Pc [.ref a0] (Pre D K [(a0, .inr (11, [g0, g1, g2, g3, g4, g5, g6, g7, g8, g9, g10, g11, g12, .int 0, g14, g15, g16]))] sz)) (vp_Si (fun r : Int32 => (r = 0))) 0 0 (fun _ => False) := by
  refine Met.ofW (cc := cX11_status) (maxL := 1) (ret := (some .int)) (by decide) rfl ?_
  intro p e s m args below meth c s₁ B hml hv
  obtain ⟨rfl, hsz, hP, hK, hD0, hN⟩ := hv
  have hx := B.exec
  have hb := B.bytes
  have hr := B.returns
  have hts := atoms_spec (ws := wsX11_status) B.pre
  have hown : s.vm.findClass RX11 = some m.cls := findClass_of_methodNamed B.named
  have hlocks := B.notSynchronized
  subst hsz
  have hD := hD0
  have hP : va_P D vwCl [(a0, .inr (11, [g0, g1, g2, g3, g4, g5, g6, g7, g8, g9, g10, g11, g12, .int 0, g14, g15, g16]))] s.heap := hP
  have hl := lv_entry [.ref a0] (n := 1) (Nat.le_of_ble_eq_true rfl)
  rw [lg_entry_eq]
  generalize (lg_sl [.ref a0] ++ List.replicate (1 - (lg_sl [.ref a0]).length) Slot.unset).toArray = ls at hl ⊢
  have hl : lv_has ls 1 [(0, .ref a0)] := hl
  have hw11 : ∀ w ∈ wsX110, w ∈ wsX11_status := fun w h => (List.mem_cons_of_mem _ (List.mem_append_right _ h))
  refine lv_aload_n hx hb dX11_status_0 rfl (lv_at hl 0 rfl) ?_
  refine va_get (ci := 11) (v := .int 0) (C := RX11) (T := TX11) (N := 17) hx hb hts hw11 hown hK hP 0 rfl rfl 13 (by decide) (hts (.fieldLink RX11 83 "SmokeTune" "refusedBy" "I") (List.mem_cons_of_mem _ (List.mem_append_left _ (List.mem_of_getElem? (i := 0) rfl)))) (fun _ h9 => h9) rfl dX11_status_1 ?_
  exact W.iret (v := 0) hx hb hr (fun t ht hW => ⟨_, rfl, (by first | exact rfl), ht⟩) (fun q hq => by cases hq) dX11_status_4
set_option maxHeartbeats 4000000 in
set_option maxRecDepth 100000 in
theorem t_ash (l : Launch) (D : va_G) (K : Nat → ClassId) (a0 : Nat) (g0 : Value) (g1 : Value) (g2 : Value) (g3 : Value) (g4 : Value) (g5 : Value) (g6 : Value) (g7 : Value) (g8 : Value) (g9 : Value) (g10 : Value) (g11 : Value) (g12 : Value) (g13 : Value) (g15 : Value) (g16 : Value) (sz : Nat) : Met l yX11_ash wsX11_ash ({ frames := 0, cells := 0, slots := 0, locals := 0 }) (va_Pc [.ref a0] (Pre D K [(a0, .inr (11, [g0, g1, g2, g3, g4, g5, g6, g7, g8, g9, g10, g11, g12, g13, .int 0, g15, g16]))] sz)) (vp_Si (fun r : Int32 => (r = 0))) 0 0 (fun _ => False) := by
  refine Met.ofW (cc := cX11_ash) (maxL := 1) (ret := (some .int)) (by decide) rfl ?_
  intro p e s m args below meth c s₁ B hml hv
  obtain ⟨rfl, hsz, hP, hK, hD0, hN⟩ := hv
  have hx := B.exec
  have hb := B.bytes
  have hr := B.returns
  have hts := atoms_spec (ws := wsX11_ash) B.pre
  have hown : s.vm.findClass RX11 = some m.cls := findClass_of_methodNamed B.named
  have hlocks := B.notSynchronized
  subst hsz
  have hD := hD0
  have hP : va_P D vwCl [(a0, .inr (11, [g0, g1, g2, g3, g4, g5, g6, g7, g8, g9, g10, g11, g12, g13, .int 0, g15, g16]))] s.heap := hP
  have hl := lv_entry [.ref a0] (n := 1) (Nat.le_of_ble_eq_true rfl)
  rw [lg_entry_eq]
  generalize (lg_sl [.ref a0] ++ List.replicate (1 - (lg_sl [.ref a0]).length) Slot.unset).toArray = ls at hl ⊢
  have hl : lv_has ls 1 [(0, .ref a0)] := hl
  have hw11 : ∀ w ∈ wsX110, w ∈ wsX11_ash := fun w h => (List.mem_cons_of_mem _ (List.mem_append_right _ h))
  refine lv_aload_n hx hb dX11_ash_0 rfl (lv_at hl 0 rfl) ?_
  refine va_get (ci := 11) (v := .int 0) (C := RX11) (T := TX11) (N := 17) hx hb hts hw11 hown hK hP 0 rfl rfl 14 (by decide) (hts (.fieldLink RX11 87 "SmokeTune" "ashTold" "I") (List.mem_cons_of_mem _ (List.mem_append_left _ (List.mem_of_getElem? (i := 0) rfl)))) (fun _ h9 => h9) rfl dX11_ash_1 ?_
  exact W.iret (v := 0) hx hb hr (fun t ht hW => ⟨_, rfl, (by first | exact rfl), ht⟩) (fun q hq => by cases hq) dX11_ash_4
set_option maxHeartbeats 4000000 in
set_option maxRecDepth 100000 in
theorem t_hear (l : Launch) (D : va_G) (K : Nat → ClassId) (a0 : Nat) (x : Int32) (a2 : Nat) (g1 : Value) (g2 : Value) (g3 : Value) (g4 : Value) (g5 : Value) (g6 : Value) (g7 : Value) (g8 : Value) (g9 : Value) (g10 : Value) (g11 : Value) (a1 : Nat) (g13 : Value) (g14 : Value) (g15 : Value) (g16 : Value) (f : Nat → Int32) (k0 : Value) (k1 : Value) (k2 : Value) (k3 : Value) (k4 : Value) (k5 : Value) (k6 : Value) (k7 : Value) (sz : Nat) : Met l yX11_hear wsX11_hear ({ frames := 2, cells := 0, slots := 0, locals := 44 }) (va_Pc [.ref a0, .int x] (Pre D K [(a0, .inr (11, [.ref a2, g1, g2, g3, g4, g5, g6, g7, g8, g9, g10, g11, .ref a1, g13, g14, g15, g16])), (a1, .inl (K 0, 5, .inl f)), (a2, .inr (9, [k0, k1, k2, k3, k4, k5, k6, k7, .int 0, .int 0]))] sz)) (va_Qi (S := Unit) (fun (r : Int32) (_ : Unit) => (r = 1 ∧ 0 ≤ x.toInt ∧ x.toInt ≤ 127) ∨ (r = (-1) ∧ (x.toInt < 0 ∨ 127 < x.toInt))) (fun u t => Wd D (va_A [(a0, .inr (11, [.ref a2, g1, g2, g3, g4, g5, g6, g7, g8, g9, g10, g11, .ref a1, g13, g14, g15, g16])), (a1, .inl (K 0, 5, .inl f)), (a2, .inr (9, [k0, k1, k2, k3, k4, k5, k6, k7, .int 0, .int 0]))] sz) ((fun _ => []) u) t) (va_A [(a0, .inr (11, [.ref a2, g1, g2, g3, g4, g5, g6, g7, g8, g9, g10, g11, .ref a1, g13, g14, g15, g16])), (a1, .inl (K 0, 5, .inl f)), (a2, .inr (9, [k0, k1, k2, k3, k4, k5, k6, k7, .int 0, .int 0]))] sz)) 0 0 (va_A [(a0, .inr (11, [.ref a2, g1, g2, g3, g4, g5, g6, g7, g8, g9, g10, g11, .ref a1, g13, g14, g15, g16])), (a1, .inl (K 0, 5, .inl f)), (a2, .inr (9, [k0, k1, k2, k3, k4, k5, k6, k7, .int 0, .int 0]))] sz) := by
  refine Met.ofW (cc := cX11_hear) (maxL := 2) (ret := (some .int)) (by decide) rfl ?_
  intro p e s m args below meth c s₁ B hml hv
  obtain ⟨rfl, hsz, hP, hK, hD0, hN⟩ := hv
  have hx := B.exec
  have hb := B.bytes
  have hr := B.returns
  have hts := atoms_spec (ws := wsX11_hear) B.pre
  have hown : s.vm.findClass RX11 = some m.cls := findClass_of_methodNamed B.named
  have hlocks := B.notSynchronized
  subst hsz
  have hD := hD0.self (sz := s.heap.size)
  generalize hAe : va_A [(a0, .inr (11, [.ref a2, g1, g2, g3, g4, g5, g6, g7, g8, g9, g10, g11, .ref a1, g13, g14, g15, g16])), (a1, .inl (K 0, 5, .inl f)), (a2, .inr (9, [k0, k1, k2, k3, k4, k5, k6, k7, .int 0, .int 0]))] s.heap.size = A at hD ⊢
  have hA : ∀ q : Nat, s.heap.size ≤ q → A q := fun q h => by rw [← hAe]; exact Or.inr h
  have hS : va_S A s.heap s.heap [] := va_S.rf
  have hP : va_P D vwCl [(a0, .inr (11, [.ref a2, g1, g2, g3, g4, g5, g6, g7, g8, g9, g10, g11, .ref a1, g13, g14, g15, g16])), (a1, .inl (K 0, 5, .inl f)), (a2, .inr (9, [k0, k1, k2, k3, k4, k5, k6, k7, .int 0, .int 0]))] s.heap := hP
  have hl := lv_entry [.ref a0, .int x] (n := 2) (Nat.le_of_ble_eq_true rfl)
  rw [lg_entry_eq]
  generalize (lg_sl [.ref a0, .int x] ++ List.replicate (2 - (lg_sl [.ref a0, .int x]).length) Slot.unset).toArray = ls at hl ⊢
  have hl : lv_has ls 2 [(0, .ref a0), (1, .int x)] := hl
  have hw9 : ∀ w ∈ wsX90, w ∈ wsX11_hear := fun w h => (List.mem_cons_of_mem _ (List.mem_append_right _ h))
  have hw11 : ∀ w ∈ wsX110, w ∈ wsX11_hear := fun w h => (List.mem_cons_of_mem _ (List.mem_append_left _ (List.mem_append_right _ h)))
  refine lv_iload_n hx hb dX11_hear_0 rfl (lv_at hl 1 rfl) ?_
  refine lv_iconst (v := 0) hx hb dX11_hear_1 (by decide) ?_
  refine lv_bipush (v := 127) hx hb dX11_hear_2 (by decide) ?_
  refine pci (va_runS (As := [.int x, .int 0, .int 127]) (rest := []) ⟨hx, hb, hml, hown, hts⟩ (c_within l D K x 0 127 x.toInt 0 127 s.heap.size rfl rfl rfl) (va_cwS 3 hts gX11_hear_X11_within rfl rfl rfl (by decide +kernel) ⟨Nat.le_of_ble_eq_true rfl, Nat.le_of_ble_eq_true rfl⟩) (mkS hK hN (hP.sub [] rfl) (hD.sub [] (by decide) rfl)) rfl rfl hl.1 rfl (lv_room (Nat.le_of_ble_eq_true rfl)) dX11_hear_4 ⟨Nat.le_of_ble_eq_true rfl, Nat.le_of_ble_eq_true rfl⟩) (fun r_1 hw => ?_)
  rcases hw with ⟨rfl, h_2, h_3⟩ | ⟨rfl, h_4⟩
  · refine lv_if_ne (tgt := 16) hx hb dX11_hear_7 (by decide) (fun c_5 => ?_) (fun c_5 => absurd (by decide) c_5)
    refine lv_aload_n hx hb dX11_hear_16 rfl (lv_at hl 0 rfl) ?_
    refine va_get (ci := 11) (v := .ref a2) (C := RX11) (T := TX11) (N := 17) hx hb hts hw11 hown hK hP 0 rfl rfl 0 (by decide) (hts (.fieldLink RX11 10 "SmokeTune" "town" "LSmokeTune$Town;") (List.mem_cons_of_mem _ (List.mem_append_left _ (List.mem_append_left _ (List.mem_of_getElem? (i := 0) rfl))))) (fun _ h9 => h9) rfl dX11_hear_17 ?_
    refine va_getN (ci := 9) (v := .int 0) (C := RX9) (T := TX9) (N := 10) hx hb hts hw9 hown hK hP 2 rfl rfl 8 (by decide) (nst_use hN 116 rfl) (fun _ h9 => h9) rfl dX11_hear_20 ?_
    refine lv_bipush (v := 6) hx hb dX11_hear_23 (by decide) ?_
    refine lv_icmp_lt (tgt := 35) hx hb dX11_hear_25 (by decide) (fun c_6 => ?_) (fun c_6 => absurd (by decide) c_6)
    refine lv_aload_n hx hb dX11_hear_35 rfl (lv_at hl 0 rfl) ?_
    refine va_get (ci := 11) (v := .ref a2) (C := RX11) (T := TX11) (N := 17) hx hb hts hw11 hown hK hP 0 rfl rfl 0 (by decide) (hts (.fieldLink RX11 10 "SmokeTune" "town" "LSmokeTune$Town;") (List.mem_cons_of_mem _ (List.mem_append_left _ (List.mem_append_left _ (List.mem_of_getElem? (i := 0) rfl))))) (fun _ h9 => h9) rfl dX11_hear_36 ?_
    refine lv_dup hx hb dX11_hear_39 rfl ?_
    refine va_getN (ci := 9) (v := .int 0) (C := RX9) (T := TX9) (N := 10) hx hb hts hw9 hown hK hP 2 rfl rfl 9 (by decide) (nst_use hN 118 rfl) (fun _ h9 => h9) rfl dX11_hear_40 ?_
    refine lv_iload_n hx hb dX11_hear_43 rfl (lv_at hl 1 rfl) ?_
    refine lv_ior hx hb dX11_hear_44 ?_
    refine lv_topi (fun x_7 ex_7 => ?_)
    refine va_putN (ci := 9) (v := .int x_7) (ty := .int) (C := RX9) (T := TX9) (N := 10) hx hb hts hw9 tyX9 tyX9_ok nmX9 hown hK hP hD hS 2 rfl rfl 9 (by decide) (nst_use hN 118 rfl) (fun _ h9 => h9) rfl (by decide +kernel) (by first | rfl | decide) (by first | rfl | decide) (Nat.le_of_ble_eq_true rfl) dX11_hear_45 (fun H locs hP hD hS => ?_)
    have hP : va_P D vwCl [(a0, .inr (11, [.ref a2, g1, g2, g3, g4, g5, g6, g7, g8, g9, g10, g11, .ref a1, g13, g14, g15, g16])), (a1, .inl (K 0, 5, .inl f)), (a2, .inr (9, [k0, k1, k2, k3, k4, k5, k6, k7, .int 0, .int x_7]))] H := hP
    have hD : va_D A [(a0, .inr (11, [.ref a2, g1, g2, g3, g4, g5, g6, g7, g8, g9, g10, g11, .ref a1, g13, g14, g15, g16])), (a1, .inl (K 0, 5, .inl f)), (a2, .inr (9, [k0, k1, k2, k3, k4, k5, k6, k7, .int 0, .int x_7]))] := hD
    refine lv_aload_n hx hb dX11_hear_48 rfl (lv_at hl 0 rfl) ?_
    refine va_get (ci := 11) (v := .ref a2) (C := RX11) (T := TX11) (N := 17) hx hb hts hw11 hown hK hP 0 rfl rfl 0 (by decide) (hts (.fieldLink RX11 10 "SmokeTune" "town" "LSmokeTune$Town;") (List.mem_cons_of_mem _ (List.mem_append_left _ (List.mem_append_left _ (List.mem_of_getElem? (i := 0) rfl))))) (fun _ h9 => h9) rfl dX11_hear_49 ?_
    refine lv_dup hx hb dX11_hear_52 rfl ?_
    refine va_getN (ci := 9) (v := .int 0) (C := RX9) (T := TX9) (N := 10) hx hb hts hw9 hown hK hP 2 rfl rfl 8 (by decide) (nst_use hN 116 rfl) (fun _ h9 => h9) rfl dX11_hear_53 ?_
    refine lv_iconst (v := 1) hx hb dX11_hear_56 (by decide) ?_
    refine lv_iadd hx hb dX11_hear_57 ?_
    refine lv_topi (fun x_8 ex_8 => ?_)
    obtain rfl : x_8 = 1 := ex_8.trans (by first | rfl | decide)
    refine va_putN (ci := 9) (v := .int 1) (ty := .int) (C := RX9) (T := TX9) (N := 10) hx hb hts hw9 tyX9 tyX9_ok nmX9 hown hK hP hD hS 2 rfl rfl 8 (by decide) (nst_use hN 116 rfl) (fun _ h9 => h9) rfl (by decide +kernel) (by first | rfl | decide) (by first | rfl | decide) (Nat.le_of_ble_eq_true rfl) dX11_hear_58 (fun H locs hP hD hS => ?_)
    have hP : va_P D vwCl [(a0, .inr (11, [.ref a2, g1, g2, g3, g4, g5, g6, g7, g8, g9, g10, g11, .ref a1, g13, g14, g15, g16])), (a1, .inl (K 0, 5, .inl f)), (a2, .inr (9, [k0, k1, k2, k3, k4, k5, k6, k7, .int 1, .int x_7]))] H := hP
    have hD : va_D A [(a0, .inr (11, [.ref a2, g1, g2, g3, g4, g5, g6, g7, g8, g9, g10, g11, .ref a1, g13, g14, g15, g16])), (a1, .inl (K 0, 5, .inl f)), (a2, .inr (9, [k0, k1, k2, k3, k4, k5, k6, k7, .int 1, .int x_7]))] := hD
    refine lv_aload_n hx hb dX11_hear_61 rfl (lv_at hl 0 rfl) ?_
    refine lv_aload_n hx hb dX11_hear_62 rfl (lv_at hl 0 rfl) ?_
    refine va_get (ci := 11) (v := .ref a2) (C := RX11) (T := TX11) (N := 17) hx hb hts hw11 hown hK hP 0 rfl rfl 0 (by decide) (hts (.fieldLink RX11 10 "SmokeTune" "town" "LSmokeTune$Town;") (List.mem_cons_of_mem _ (List.mem_append_left _ (List.mem_append_left _ (List.mem_of_getElem? (i := 0) rfl))))) (fun _ h9 => h9) rfl dX11_hear_63 ?_
    refine va_getN (ci := 9) (v := .int 1) (C := RX9) (T := TX9) (N := 10) hx hb hts hw9 hown hK hP 2 rfl rfl 8 (by decide) (nst_use hN 116 rfl) (fun _ h9 => h9) rfl dX11_hear_66 ?_
    refine kci (wr := [(a1, .inl (K 0, 5, .inl f)), (a2, .inr (9, [k0, k1, k2, k3, k4, k5, k6, k7, .int 1, .int x_7]))]) (va_runV (As := [.int 1]) (rest := []) ⟨hx, hb, hml, hown, hts⟩ (c_accept l D K a0 1 (.ref a2) g1 g2 g3 g4 g5 g6 g7 g8 g9 g10 g11 (.ref a1) g13 g14 g15 g16 H.size) (cwV 1 hts gX11_hear_X11_accept rfl rfl rfl (by decide +kernel) ⟨Nat.le_of_ble_eq_true rfl, Nat.le_of_ble_eq_true rfl⟩) (mkV hK hN (hP.sub [0] rfl) (hD.sub [0] (by decide) rfl) (ci := 11) (q0 := 0) rfl rfl) rfl rfl hl.1 rfl (lv_room (Nat.le_of_ble_eq_true rfl)) dX11_hear_69 ⟨Nat.le_of_ble_eq_true rfl, Nat.le_of_ble_eq_true rfl⟩) hP hD hS hA [0] [1, 2] rfl rfl (by decide) (by decide) (fun r_9 u_10 H locs hw hP hD hS => ?_)
    have hP : va_P D vwCl [(a1, .inl (K 0, 5, .inl f)), (a2, .inr (9, [k0, k1, k2, k3, k4, k5, k6, k7, .int 1, .int x_7]))] H := hP
    have hD : va_D A [(a1, .inl (K 0, 5, .inl f)), (a2, .inr (9, [k0, k1, k2, k3, k4, k5, k6, k7, .int 1, .int x_7]))] := hD
    obtain rfl : r_9 = 1 := hw
    exact W.iret (v := 1) hx hb hr (fun t ht hW => ⟨⟨1, (), rfl, (by first | exact Or.inl (⟨rfl, by first | omega | decide | (subst_vars; assumption), by first | omega | decide | (subst_vars; assumption)⟩)), Wd.nil⟩, hS.F ht⟩) hS.2.2 dX11_hear_72
  · refine lv_if_ne (tgt := 16) hx hb dX11_hear_7 (by decide) (fun c_11 => absurd c_11 (by decide)) (fun c_11 => ?_)
    refine lv_aload_n hx hb dX11_hear_10 rfl (lv_at hl 0 rfl) ?_
    refine lv_iconst (v := (-1)) hx hb dX11_hear_11 (by decide) ?_
    refine kci (wr := [(a2, .inr (9, [k0, k1, k2, k3, k4, k5, k6, k7, .int 0, .int 0]))]) (va_runV (As := [.int (-1)]) (rest := []) ⟨hx, hb, hml, hown, hts⟩ (c_refuse_1 l D K a0 (.ref a2) g1 g2 g3 g4 g5 g6 g7 g8 g9 g10 g11 a1 g13 g14 g15 g16 f s.heap.size) (cwV 1 hts gX11_hear_X11_refuse rfl rfl rfl (by decide +kernel) ⟨Nat.le_of_ble_eq_true rfl, Nat.le_of_ble_eq_true rfl⟩) (mkV hK hN (hP.sub [0, 1] rfl) (hD.sub [0, 1] (by decide) rfl) (ci := 11) (q0 := 0) rfl rfl) rfl rfl hl.1 rfl (lv_room (Nat.le_of_ble_eq_true rfl)) dX11_hear_12 ⟨Nat.le_of_ble_eq_true rfl, Nat.le_of_ble_eq_true rfl⟩) hP hD hS hA [0, 1] [2] rfl rfl (by decide) (by decide) (fun r_12 u_13 H locs hw hP hD hS => ?_)
    have hP : va_P D vwCl [(a2, .inr (9, [k0, k1, k2, k3, k4, k5, k6, k7, .int 0, .int 0]))] H := hP
    have hD : va_D A [(a2, .inr (9, [k0, k1, k2, k3, k4, k5, k6, k7, .int 0, .int 0]))] := hD
    obtain rfl : r_12 = (-1) := hw
    exact W.iret (v := (-1)) hx hb hr (fun t ht hW => ⟨⟨(-1), (), rfl, (by first | exact Or.inr (⟨rfl, by first | omega | decide | (subst_vars; assumption)⟩)), Wd.nil⟩, hS.F ht⟩) hS.2.2 dX11_hear_15
set_option maxHeartbeats 4000000 in
set_option maxRecDepth 100000 in
theorem t_forget (l : Launch) (D : va_G) (K : Nat → ClassId) (a0 : Nat) (a2 : Nat) (g1 : Value) (g2 : Value) (g3 : Value) (g4 : Value) (g5 : Value) (g6 : Value) (g7 : Value) (g8 : Value) (g9 : Value) (g10 : Value) (g11 : Value) (g12 : Value) (g13 : Value) (g14 : Value) (g15 : Value) (g16 : Value) (k0 : Value) (k1 : Value) (k2 : Value) (k3 : Value) (k4 : Value) (k5 : Value) (k6 : Value) (k7 : Value) (k9 : Value) (sz : Nat) : Met l yX11_forget wsX11_forget ({ frames := 0, cells := 0, slots := 0, locals := 0 }) (va_Pc [.ref a0] (Pre D K [(a0, .inr (11, [.ref a2, g1, g2, g3, g4, g5, g6, g7, g8, g9, g10, g11, g12, g13, g14, g15, g16])), (a2, .inr (9, [k0, k1, k2, k3, k4, k5, k6, k7, .int 0, k9]))] sz)) (va_Qi (S := Unit) (fun (r : Int32) (_ : Unit) => (r = 0)) (fun u t => Wd D (va_A [(a0, .inr (11, [.ref a2, g1, g2, g3, g4, g5, g6, g7, g8, g9, g10, g11, g12, g13, g14, g15, g16])), (a2, .inr (9, [k0, k1, k2, k3, k4, k5, k6, k7, .int 0, k9]))] sz) ((fun _ => []) u) t) (va_A [(a0, .inr (11, [.ref a2, g1, g2, g3, g4, g5, g6, g7, g8, g9, g10, g11, g12, g13, g14, g15, g16])), (a2, .inr (9, [k0, k1, k2, k3, k4, k5, k6, k7, .int 0, k9]))] sz)) 0 0 (va_A [(a0, .inr (11, [.ref a2, g1, g2, g3, g4, g5, g6, g7, g8, g9, g10, g11, g12, g13, g14, g15, g16])), (a2, .inr (9, [k0, k1, k2, k3, k4, k5, k6, k7, .int 0, k9]))] sz) := by
  refine Met.ofW (cc := cX11_forget) (maxL := 2) (ret := (some .int)) (by decide) rfl ?_
  intro p e s m args below meth c s₁ B hml hv
  obtain ⟨rfl, hsz, hP, hK, hD0, hN⟩ := hv
  have hx := B.exec
  have hb := B.bytes
  have hr := B.returns
  have hts := atoms_spec (ws := wsX11_forget) B.pre
  have hown : s.vm.findClass RX11 = some m.cls := findClass_of_methodNamed B.named
  have hlocks := B.notSynchronized
  subst hsz
  have hD := hD0.self (sz := s.heap.size)
  generalize hAe : va_A [(a0, .inr (11, [.ref a2, g1, g2, g3, g4, g5, g6, g7, g8, g9, g10, g11, g12, g13, g14, g15, g16])), (a2, .inr (9, [k0, k1, k2, k3, k4, k5, k6, k7, .int 0, k9]))] s.heap.size = A at hD ⊢
  have hA : ∀ q : Nat, s.heap.size ≤ q → A q := fun q h => by rw [← hAe]; exact Or.inr h
  have hS : va_S A s.heap s.heap [] := va_S.rf
  have hP : va_P D vwCl [(a0, .inr (11, [.ref a2, g1, g2, g3, g4, g5, g6, g7, g8, g9, g10, g11, g12, g13, g14, g15, g16])), (a2, .inr (9, [k0, k1, k2, k3, k4, k5, k6, k7, .int 0, k9]))] s.heap := hP
  have hl := lv_entry [.ref a0] (n := 2) (Nat.le_of_ble_eq_true rfl)
  rw [lg_entry_eq]
  generalize (lg_sl [.ref a0] ++ List.replicate (2 - (lg_sl [.ref a0]).length) Slot.unset).toArray = ls at hl ⊢
  have hl : lv_has ls 2 [(0, .ref a0)] := hl
  have hw9 : ∀ w ∈ wsX90, w ∈ wsX11_forget := fun w h => (List.mem_cons_of_mem _ (List.mem_append_right _ h))
  have hw11 : ∀ w ∈ wsX110, w ∈ wsX11_forget := fun w h => (List.mem_cons_of_mem _ (List.mem_append_left _ (List.mem_append_right _ h)))
  refine lv_aload_n hx hb dX11_forget_0 rfl (lv_at hl 0 rfl) ?_
  refine va_get (ci := 11) (v := .ref a2) (C := RX11) (T := TX11) (N := 17) hx hb hts hw11 hown hK hP 0 rfl rfl 0 (by decide) (hts (.fieldLink RX11 10 "SmokeTune" "town" "LSmokeTune$Town;") (List.mem_cons_of_mem _ (List.mem_append_left _ (List.mem_append_left _ (List.mem_of_getElem? (i := 0) rfl))))) (fun _ h9 => h9) rfl dX11_forget_1 ?_
  refine va_getN (ci := 9) (v := .int 0) (C := RX9) (T := TX9) (N := 10) hx hb hts hw9 hown hK hP 1 rfl rfl 8 (by decide) (nst_use hN 116 rfl) (fun _ h9 => h9) rfl dX11_forget_4 ?_
  refine lv_istore_n (lv' := [(1, .int 0), (0, .ref a0)]) hx hb dX11_forget_7 rfl hl (by decide) rfl (fun ls hl => ?_)
  refine lv_aload_n hx hb dX11_forget_8 rfl (lv_at hl 1 rfl) ?_
  refine va_get (ci := 11) (v := .ref a2) (C := RX11) (T := TX11) (N := 17) hx hb hts hw11 hown hK hP 0 rfl rfl 0 (by decide) (hts (.fieldLink RX11 10 "SmokeTune" "town" "LSmokeTune$Town;") (List.mem_cons_of_mem _ (List.mem_append_left _ (List.mem_append_left _ (List.mem_of_getElem? (i := 0) rfl))))) (fun _ h9 => h9) rfl dX11_forget_9 ?_
  refine lv_iconst (v := 0) hx hb dX11_forget_12 (by decide) ?_
  refine va_putN (ci := 9) (v := .int 0) (ty := .int) (C := RX9) (T := TX9) (N := 10) hx hb hts hw9 tyX9 tyX9_ok nmX9 hown hK hP hD hS 1 rfl rfl 8 (by decide) (nst_use hN 116 rfl) (fun _ h9 => h9) rfl (by decide +kernel) (by first | rfl | decide) (by first | rfl | decide) (Nat.le_of_ble_eq_true rfl) dX11_forget_13 (fun H locs hP hD hS => ?_)
  have hP : va_P D vwCl [(a0, .inr (11, [.ref a2, g1, g2, g3, g4, g5, g6, g7, g8, g9, g10, g11, g12, g13, g14, g15, g16])), (a2, .inr (9, [k0, k1, k2, k3, k4, k5, k6, k7, .int 0, k9]))] H := hP
  have hD : va_D A [(a0, .inr (11, [.ref a2, g1, g2, g3, g4, g5, g6, g7, g8, g9, g10, g11, g12, g13, g14, g15, g16])), (a2, .inr (9, [k0, k1, k2, k3, k4, k5, k6, k7, .int 0, k9]))] := hD
  refine lv_aload_n hx hb dX11_forget_16 rfl (lv_at hl 1 rfl) ?_
  refine va_get (ci := 11) (v := .ref a2) (C := RX11) (T := TX11) (N := 17) hx hb hts hw11 hown hK hP 0 rfl rfl 0 (by decide) (hts (.fieldLink RX11 10 "SmokeTune" "town" "LSmokeTune$Town;") (List.mem_cons_of_mem _ (List.mem_append_left _ (List.mem_append_left _ (List.mem_of_getElem? (i := 0) rfl))))) (fun _ h9 => h9) rfl dX11_forget_17 ?_
  refine lv_iconst (v := 0) hx hb dX11_forget_20 (by decide) ?_
  refine va_putN (ci := 9) (v := .int 0) (ty := .int) (C := RX9) (T := TX9) (N := 10) hx hb hts hw9 tyX9 tyX9_ok nmX9 hown hK hP hD hS 1 rfl rfl 9 (by decide) (nst_use hN 118 rfl) (fun _ h9 => h9) rfl (by decide +kernel) (by first | rfl | decide) (by first | rfl | decide) (Nat.le_of_ble_eq_true rfl) dX11_forget_21 (fun H locs hP hD hS => ?_)
  have hP : va_P D vwCl [(a0, .inr (11, [.ref a2, g1, g2, g3, g4, g5, g6, g7, g8, g9, g10, g11, g12, g13, g14, g15, g16])), (a2, .inr (9, [k0, k1, k2, k3, k4, k5, k6, k7, .int 0, .int 0]))] H := hP
  have hD : va_D A [(a0, .inr (11, [.ref a2, g1, g2, g3, g4, g5, g6, g7, g8, g9, g10, g11, g12, g13, g14, g15, g16])), (a2, .inr (9, [k0, k1, k2, k3, k4, k5, k6, k7, .int 0, .int 0]))] := hD
  refine lv_iload_n hx hb dX11_forget_24 rfl (lv_at hl 0 rfl) ?_
  exact W.iret (v := 0) hx hb hr (fun t ht hW => ⟨⟨0, (), rfl, (by first | exact rfl), Wd.nil⟩, hS.F ht⟩) hS.2.2 dX11_forget_25
set_option maxHeartbeats 4000000 in
set_option maxRecDepth 100000 in
theorem t_fault (l : Launch) (D : va_G) (K : Nat → ClassId) (a0 : Nat) (g0 : Value) (g1 : Value) (g2 : Value) (g3 : Value) (a2 : Nat) (g5 : Value) (g6 : Value) (g7 : Value) (g8 : Value) (g9 : Value) (g10 : Value) (g11 : Value) (g12 : Value) (g13 : Value) (g14 : Value) (g15 : Value) (g16 : Value) (k0 : Value) (k1 : Value) (k2 : Value) (k3 : Value) (sz : Nat) : Met l yX11_fault wsX11_fault ({ frames := 0, cells := 0, slots := 0, locals := 0 }) (va_Pc [.ref a0] (Pre D K [(a0, .inr (11, [g0, g1, g2, g3, .ref a2, g5, g6, g7, g8, g9, g10, g11, g12, g13, g14, g15, g16])), (a2, .inr (6, [k0, k1, k2, k3, .int (-1)]))] sz)) (vp_Si (fun r : Int32 => (r = (-1)))) 0 0 (fun _ => False) := by
  refine Met.ofW (cc := cX11_fault) (maxL := 1) (ret := (some .int)) (by decide) rfl ?_
  intro p e s m args below meth c s₁ B hml hv
  obtain ⟨rfl, hsz, hP, hK, hD0, hN⟩ := hv
  have hx := B.exec
  have hb := B.bytes
  have hr := B.returns
  have hts := atoms_spec (ws := wsX11_fault) B.pre
  have hown : s.vm.findClass RX11 = some m.cls := findClass_of_methodNamed B.named
  have hlocks := B.notSynchronized
  subst hsz
  have hD := hD0
  have hP : va_P D vwCl [(a0, .inr (11, [g0, g1, g2, g3, .ref a2, g5, g6, g7, g8, g9, g10, g11, g12, g13, g14, g15, g16])), (a2, .inr (6, [k0, k1, k2, k3, .int (-1)]))] s.heap := hP
  have hl := lv_entry [.ref a0] (n := 1) (Nat.le_of_ble_eq_true rfl)
  rw [lg_entry_eq]
  generalize (lg_sl [.ref a0] ++ List.replicate (1 - (lg_sl [.ref a0]).length) Slot.unset).toArray = ls at hl ⊢
  have hl : lv_has ls 1 [(0, .ref a0)] := hl
  have hw6 : ∀ w ∈ wsX60, w ∈ wsX11_fault := fun w h => (List.mem_cons_of_mem _ (List.mem_append_right _ h))
  have hw11 : ∀ w ∈ wsX110, w ∈ wsX11_fault := fun w h => (List.mem_cons_of_mem _ (List.mem_append_left _ (List.mem_append_right _ h)))
  refine lv_aload_n hx hb dX11_fault_0 rfl (lv_at hl 0 rfl) ?_
  refine va_get (ci := 11) (v := .ref a2) (C := RX11) (T := TX11) (N := 17) hx hb hts hw11 hown hK hP 0 rfl rfl 4 (by decide) (hts (.fieldLink RX11 30 "SmokeTune" "reader" "LSmokeTune$Reader;") (List.mem_cons_of_mem _ (List.mem_append_left _ (List.mem_append_left _ (List.mem_of_getElem? (i := 0) rfl))))) (fun _ h9 => h9) rfl dX11_fault_1 ?_
  refine va_getN (ci := 6) (v := .int (-1)) (C := RX6) (T := TX6) (N := 5) hx hb hts hw6 hown hK hP 1 rfl rfl 4 (by decide) (nst_use hN 133 rfl) (fun _ h9 => h9) rfl dX11_fault_4 ?_
  exact W.iret (v := (-1)) hx hb hr (fun t ht hW => ⟨_, rfl, (by first | exact rfl), ht⟩) (fun q hq => by cases hq) dX11_fault_7
set_option maxHeartbeats 4000000 in
set_option maxRecDepth 100000 in
theorem t_stopped (l : Launch) (D : va_G) (K : Nat → ClassId) (a0 : Nat) (g0 : Value) (g1 : Value) (g2 : Value) (g3 : Value) (g4 : Value) (g5 : Value) (a2 : Nat) (g7 : Value) (g8 : Value) (g9 : Value) (g10 : Value) (g11 : Value) (g12 : Value) (g13 : Value) (g14 : Value) (g15 : Value) (g16 : Value) (k0 : Value) (k1 : Value) (k2 : Value) (k3 : Value) (k4 : Value) (k5 : Value) (k6 : Value) (sz : Nat) : Met l yX11_stopped wsX11_stopped ({ frames := 0, cells := 0, slots := 0, locals := 0 }) (va_Pc [.ref a0] (Pre D K [(a0, .inr (11, [g0, g1, g2, g3, g4, g5, .ref a2, g7, g8, g9, g10, g11, g12, g13, g14, g15, g16])), (a2, .inr (1, [k0, k1, k2, k3, k4, k5, k6, .int (-1)]))] sz)) (vp_Si (fun r : Int32 => (r = (-1)))) 0 0 (fun _ => False) := by
  refine Met.ofW (cc := cX11_stopped) (maxL := 1) (ret := (some .int)) (by decide) rfl ?_
  intro p e s m args below meth c s₁ B hml hv
  obtain ⟨rfl, hsz, hP, hK, hD0, hN⟩ := hv
  have hx := B.exec
  have hb := B.bytes
  have hr := B.returns
  have hts := atoms_spec (ws := wsX11_stopped) B.pre
  have hown : s.vm.findClass RX11 = some m.cls := findClass_of_methodNamed B.named
  have hlocks := B.notSynchronized
  subst hsz
  have hD := hD0
  have hP : va_P D vwCl [(a0, .inr (11, [g0, g1, g2, g3, g4, g5, .ref a2, g7, g8, g9, g10, g11, g12, g13, g14, g15, g16])), (a2, .inr (1, [k0, k1, k2, k3, k4, k5, k6, .int (-1)]))] s.heap := hP
  have hl := lv_entry [.ref a0] (n := 1) (Nat.le_of_ble_eq_true rfl)
  rw [lg_entry_eq]
  generalize (lg_sl [.ref a0] ++ List.replicate (1 - (lg_sl [.ref a0]).length) Slot.unset).toArray = ls at hl ⊢
  have hl : lv_has ls 1 [(0, .ref a0)] := hl
  have hw1 : ∀ w ∈ wsX10, w ∈ wsX11_stopped := fun w h => (List.mem_cons_of_mem _ (List.mem_append_right _ h))
  have hw11 : ∀ w ∈ wsX110, w ∈ wsX11_stopped := fun w h => (List.mem_cons_of_mem _ (List.mem_append_left _ (List.mem_append_right _ h)))
  refine lv_aload_n hx hb dX11_stopped_0 rfl (lv_at hl 0 rfl) ?_
  refine va_get (ci := 11) (v := .ref a2) (C := RX11) (T := TX11) (N := 17) hx hb hts hw11 hown hK hP 0 rfl rfl 6 (by decide) (hts (.fieldLink RX11 42 "SmokeTune" "crew" "LSmokeTune$Crew;") (List.mem_cons_of_mem _ (List.mem_append_left _ (List.mem_append_left _ (List.mem_of_getElem? (i := 0) rfl))))) (fun _ h9 => h9) rfl dX11_stopped_1 ?_
  refine va_getN (ci := 1) (v := .int (-1)) (C := RX1) (T := TX1) (N := 8) hx hb hts hw1 hown hK hP 1 rfl rfl 7 (by decide) (nst_use hN 139 rfl) (fun _ h9 => h9) rfl dX11_stopped_4 ?_
  exact W.iret (v := (-1)) hx hb hr (fun t ht hW => ⟨_, rfl, (by first | exact rfl), ht⟩) (fun q hq => by cases hq) dX11_stopped_7
set_option maxHeartbeats 4000000 in
set_option maxRecDepth 100000 in
theorem t_of (l : Launch) (D : va_G) (K : Nat → ClassId) (a0 : Nat) (x : Int32) (y : Int32) (a2 : Nat) (g1 : Value) (g2 : Value) (g3 : Value) (g4 : Value) (g5 : Value) (g6 : Value) (g7 : Value) (g8 : Value) (g9 : Value) (g10 : Value) (g11 : Value) (g12 : Value) (g13 : Value) (g14 : Value) (g15 : Value) (g16 : Value) (k0 : Value) (k1 : Value) (k2 : Value) (k3 : Value) (k5 : Value) (k6 : Value) (k7 : Value) (k8 : Value) (k9 : Value) (sz : Nat) : Met l yX11_of wsX11_of ({ frames := 1, cells := 0, slots := 0, locals := 21 }) (va_Pc [.ref a0, .int x, .int y] (Pre D K [(a0, .inr (11, [.ref a2, g1, g2, g3, g4, g5, g6, g7, g8, g9, g10, g11, g12, g13, g14, g15, g16])), (a2, .inr (9, [k0, k1, k2, k3, .int 0, k5, k6, k7, k8, k9]))] sz)) (vp_Si (fun r : Int32 => (r = (-1)))) 0 0 (fun _ => False) := by
  refine Met.ofW (cc := cX11_of) (maxL := 3) (ret := (some .int)) (by decide) rfl ?_
  intro p e s m args below meth c s₁ B hml hv
  obtain ⟨rfl, hsz, hP, hK, hD0, hN⟩ := hv
  have hx := B.exec
  have hb := B.bytes
  have hr := B.returns
  have hts := atoms_spec (ws := wsX11_of) B.pre
  have hown : s.vm.findClass RX11 = some m.cls := findClass_of_methodNamed B.named
  have hlocks := B.notSynchronized
  subst hsz
  have hD := hD0
  have hP : va_P D vwCl [(a0, .inr (11, [.ref a2, g1, g2, g3, g4, g5, g6, g7, g8, g9, g10, g11, g12, g13, g14, g15, g16])), (a2, .inr (9, [k0, k1, k2, k3, .int 0, k5, k6, k7, k8, k9]))] s.heap := hP
  have hl := lv_entry [.ref a0, .int x, .int y] (n := 3) (Nat.le_of_ble_eq_true rfl)
  rw [lg_entry_eq]
  generalize (lg_sl [.ref a0, .int x, .int y] ++ List.replicate (3 - (lg_sl [.ref a0, .int x, .int y]).length) Slot.unset).toArray = ls at hl ⊢
  have hl : lv_has ls 3 [(0, .ref a0), (1, .int x), (2, .int y)] := hl
  have hw0 : ∀ w ∈ wsX00, w ∈ wsX11_of := fun w h => (List.mem_cons_of_mem _ (List.mem_append_left _ (List.mem_append_left _ (List.mem_append_right _ h))))
  have hw3 : ∀ w ∈ wsX30, w ∈ wsX11_of := fun w h => (List.mem_cons_of_mem _ (List.mem_append_right _ h))
  have hw7 : ∀ w ∈ wsX70, w ∈ wsX11_of := fun w h => (List.mem_cons_of_mem _ (List.mem_append_left _ (List.mem_append_right _ h)))
  have hw9 : ∀ w ∈ wsX90, w ∈ wsX11_of := fun w h => (List.mem_cons_of_mem _ (List.mem_append_left _ (List.mem_append_left _ (List.mem_append_left _ (List.mem_append_right _ h)))))
  have hw11 : ∀ w ∈ wsX110, w ∈ wsX11_of := fun w h => (List.mem_cons_of_mem _ (List.mem_append_left _ (List.mem_append_left _ (List.mem_append_left _ (List.mem_append_left _ (List.mem_append_right _ h))))))
  refine lv_aload_n hx hb dX11_of_0 rfl (lv_at hl 0 rfl) ?_
  refine va_get (ci := 11) (v := .ref a2) (C := RX11) (T := TX11) (N := 17) hx hb hts hw11 hown hK hP 0 rfl rfl 0 (by decide) (hts (.fieldLink RX11 10 "SmokeTune" "town" "LSmokeTune$Town;") (List.mem_cons_of_mem _ (List.mem_append_left _ (List.mem_append_left _ (List.mem_append_left _ (List.mem_append_left _ (List.mem_append_left _ (List.mem_append_left _ (List.mem_of_getElem? (i := 0) rfl))))))))) (fun _ h9 => h9) rfl dX11_of_1 ?_
  refine lv_iload_n hx hb dX11_of_4 rfl (lv_at hl 1 rfl) ?_
  refine pci (va_runVN (As := [.int x]) (rest := []) ⟨hx, hb, hml, hown, hts⟩ (c_has l D K a2 x k0 k1 k2 k3 k5 k6 k7 k8 k9 s.heap.size) ⟨va_cnB 1 hts gX11_of_X9_has_n121 rfl rfl rfl (nst_at hN 19 rfl) (hts (.initialized RX9) (List.mem_cons_of_mem _ (List.mem_append_left _ (List.mem_append_left _ (List.mem_append_left _ (List.mem_append_left _ (List.mem_append_left _ (List.mem_append_left _ (List.mem_of_getElem? (i := 3) rfl))))))))) (by decide +kernel) ⟨Nat.le_of_ble_eq_true rfl, Nat.le_of_ble_eq_true rfl⟩, (hts (.instanceMethod yX9_has) (List.mem_cons_of_mem _ (List.mem_append_left _ (List.mem_append_left _ (List.mem_append_left _ (List.mem_append_left _ (List.mem_append_left _ (List.mem_append_left _ (List.mem_of_getElem? (i := 2) rfl))))))))), (hts (.selects RX9 yX9_has yX9_has) (List.mem_cons_of_mem _ (List.mem_append_left _ (List.mem_append_left _ (List.mem_append_left _ (List.mem_append_left _ (List.mem_append_left _ (List.mem_append_left _ (List.mem_of_getElem? (i := 4) rfl)))))))))⟩ (mkV hK hN (hP.sub [1] rfl) (hD.sub [1] (by decide) rfl) (ci := 9) (q0 := 0) rfl rfl) rfl rfl hl.1 rfl (lv_room (Nat.le_of_ble_eq_true rfl)) dX11_of_5 ⟨Nat.le_of_ble_eq_true rfl, Nat.le_of_ble_eq_true rfl⟩) (fun r_1 hw => ?_)
  obtain rfl : r_1 = 0 := hw
  refine lv_if_ne (tgt := 13) hx hb dX11_of_8 (by decide) (fun c_2 => absurd c_2 (by decide)) (fun c_2 => ?_)
  refine lv_iconst (v := (-1)) hx hb dX11_of_11 (by decide) ?_
  exact W.iret (v := (-1)) hx hb hr (fun t ht hW => ⟨_, rfl, (by first | exact rfl), ht⟩) (fun q hq => by cases hq) dX11_of_12
set_option maxHeartbeats 4000000 in
set_option maxRecDepth 100000 in
theorem t_least (l : Launch) (D : va_G) (K : Nat → ClassId) (a0 : Nat) (x : Int32) (y : Int32) (z : Int32) (w : Int32) (a2 : Nat) (g1 : Value) (g2 : Value) (g3 : Value) (g4 : Value) (g5 : Value) (g6 : Value) (g7 : Value) (g8 : Value) (g9 : Value) (g10 : Value) (g11 : Value) (g12 : Value) (g13 : Value) (g14 : Value) (g15 : Value) (g16 : Value) (k0 : Value) (k1 : Value) (k2 : Value) (k3 : Value) (k5 : Value) (k6 : Value) (k7 : Value) (k8 : Value) (k9 : Value) (sz : Nat) : Met l yX11_least wsX11_least ({ frames := 1, cells := 0, slots := 0, locals := 21 }) (va_Pc [.ref a0, .int x, .int y, .int z, .int w] (Pre D K [(a0, .inr (11, [.ref a2, g1, g2, g3, g4, g5, g6, g7, g8, g9, g10, g11, g12, g13, g14, g15, g16])), (a2, .inr (9, [k0, k1, k2, k3, .int 0, k5, k6, k7, k8, k9]))] sz)) (vp_Si (fun r : Int32 => (r = (-1)))) 0 0 (fun _ => False) := by
  refine Met.ofW (cc := cX11_least) (maxL := 5) (ret := (some .int)) (by decide) rfl ?_
  intro p e s m args below meth c s₁ B hml hv
  obtain ⟨rfl, hsz, hP, hK, hD0, hN⟩ := hv
  have hx := B.exec
  have hb := B.bytes
  have hr := B.returns
  have hts := atoms_spec (ws := wsX11_least) B.pre
  have hown : s.vm.findClass RX11 = some m.cls := findClass_of_methodNamed B.named
  have hlocks := B.notSynchronized
  subst hsz
  have hD := hD0
  have hP : va_P D vwCl [(a0, .inr (11, [.ref a2, g1, g2, g3, g4, g5, g6, g7, g8, g9, g10, g11, g12, g13, g14, g15, g16])), (a2, .inr (9, [k0, k1, k2, k3, .int 0, k5, k6, k7, k8, k9]))] s.heap := hP
  have hl := lv_entry [.ref a0, .int x, .int y, .int z, .int w] (n := 5) (Nat.le_of_ble_eq_true rfl)
  rw [lg_entry_eq]
  generalize (lg_sl [.ref a0, .int x, .int y, .int z, .int w] ++ List.replicate (5 - (lg_sl [.ref a0, .int x, .int y, .int z, .int w]).length) Slot.unset).toArray = ls at hl ⊢
  have hl : lv_has ls 5 [(0, .ref a0), (1, .int x), (2, .int y), (3, .int z), (4, .int w)] := hl
  have hw0 : ∀ w ∈ wsX00, w ∈ wsX11_least := fun w h => (List.mem_cons_of_mem _ (List.mem_append_left _ (List.mem_append_left _ (List.mem_append_right _ h))))
  have hw3 : ∀ w ∈ wsX30, w ∈ wsX11_least := fun w h => (List.mem_cons_of_mem _ (List.mem_append_right _ h))
  have hw5 : ∀ w ∈ wsX50, w ∈ wsX11_least := fun w h => (List.mem_cons_of_mem _ (List.mem_append_left _ (List.mem_append_left _ (List.mem_append_left _ (List.mem_append_right _ h)))))
  have hw7 : ∀ w ∈ wsX70, w ∈ wsX11_least := fun w h => (List.mem_cons_of_mem _ (List.mem_append_left _ (List.mem_append_right _ h)))
  have hw9 : ∀ w ∈ wsX90, w ∈ wsX11_least := fun w h => (List.mem_cons_of_mem _ (List.mem_append_left _ (List.mem_append_left _ (List.mem_append_left _ (List.mem_append_left _ (List.mem_append_right _ h))))))
  have hw11 : ∀ w ∈ wsX110, w ∈ wsX11_least := fun w h => (List.mem_cons_of_mem _ (List.mem_append_left _ (List.mem_append_left _ (List.mem_append_left _ (List.mem_append_left _ (List.mem_append_left _ (List.mem_append_right _ h)))))))
  refine lv_aload_n hx hb dX11_least_0 rfl (lv_at hl 0 rfl) ?_
  refine va_get (ci := 11) (v := .ref a2) (C := RX11) (T := TX11) (N := 17) hx hb hts hw11 hown hK hP 0 rfl rfl 0 (by decide) (hts (.fieldLink RX11 10 "SmokeTune" "town" "LSmokeTune$Town;") (List.mem_cons_of_mem _ (List.mem_append_left _ (List.mem_append_left _ (List.mem_append_left _ (List.mem_append_left _ (List.mem_append_left _ (List.mem_append_left _ (List.mem_append_left _ (List.mem_of_getElem? (i := 0) rfl)))))))))) (fun _ h9 => h9) rfl dX11_least_1 ?_
  refine lv_iload_n hx hb dX11_least_4 rfl (lv_at hl 1 rfl) ?_
  refine pci (va_runVN (As := [.int x]) (rest := []) ⟨hx, hb, hml, hown, hts⟩ (c_has l D K a2 x k0 k1 k2 k3 k5 k6 k7 k8 k9 s.heap.size) ⟨va_cnB 1 hts gX11_least_X9_has_n121 rfl rfl rfl (nst_at hN 19 rfl) (hts (.initialized RX9) (List.mem_cons_of_mem _ (List.mem_append_left _ (List.mem_append_left _ (List.mem_append_left _ (List.mem_append_left _ (List.mem_append_left _ (List.mem_append_left _ (List.mem_append_left _ (List.mem_of_getElem? (i := 3) rfl)))))))))) (by decide +kernel) ⟨Nat.le_of_ble_eq_true rfl, Nat.le_of_ble_eq_true rfl⟩, (hts (.instanceMethod yX9_has) (List.mem_cons_of_mem _ (List.mem_append_left _ (List.mem_append_left _ (List.mem_append_left _ (List.mem_append_left _ (List.mem_append_left _ (List.mem_append_left _ (List.mem_append_left _ (List.mem_of_getElem? (i := 2) rfl)))))))))), (hts (.selects RX9 yX9_has yX9_has) (List.mem_cons_of_mem _ (List.mem_append_left _ (List.mem_append_left _ (List.mem_append_left _ (List.mem_append_left _ (List.mem_append_left _ (List.mem_append_left _ (List.mem_append_left _ (List.mem_of_getElem? (i := 4) rfl))))))))))⟩ (mkV hK hN (hP.sub [1] rfl) (hD.sub [1] (by decide) rfl) (ci := 9) (q0 := 0) rfl rfl) rfl rfl hl.1 rfl (lv_room (Nat.le_of_ble_eq_true rfl)) dX11_least_5 ⟨Nat.le_of_ble_eq_true rfl, Nat.le_of_ble_eq_true rfl⟩) (fun r_1 hw => ?_)
  obtain rfl : r_1 = 0 := hw
  refine lv_if_eq (tgt := 34) hx hb dX11_least_8 (by decide) (fun c_2 => ?_) (fun c_2 => absurd (by decide) c_2)
  refine lv_iconst (v := (-1)) hx hb dX11_least_34 (by decide) ?_
  exact W.iret (v := (-1)) hx hb hr (fun t ht hW => ⟨_, rfl, (by first | exact rfl), ht⟩) (fun q hq => by cases hq) dX11_least_35
set_option maxHeartbeats 4000000 in
set_option maxRecDepth 100000 in
theorem t_rings (l : Launch) (D : va_G) (K : Nat → ClassId) (a0 : Nat) (x : Int32) (a2 : Nat) (g1 : Value) (g2 : Value) (g3 : Value) (g4 : Value) (g5 : Value) (g6 : Value) (g7 : Value) (g8 : Value) (g9 : Value) (g10 : Value) (g11 : Value) (g12 : Value) (g13 : Value) (g14 : Value) (g15 : Value) (g16 : Value) (k0 : Value) (k1 : Value) (k2 : Value) (k3 : Value) (k5 : Value) (k6 : Value) (k7 : Value) (k8 : Value) (k9 : Value) (sz : Nat) : Met l yX11_rings wsX11_rings ({ frames := 1, cells := 0, slots := 0, locals := 21 }) (va_Pc [.ref a0, .int x] (Pre D K [(a0, .inr (11, [.ref a2, g1, g2, g3, g4, g5, g6, g7, g8, g9, g10, g11, g12, g13, g14, g15, g16])), (a2, .inr (9, [k0, k1, k2, k3, .int 0, k5, k6, k7, k8, k9]))] sz)) (vp_Si (fun r : Int32 => (r = (-1)))) 0 0 (fun _ => False) := by
  refine Met.ofW (cc := cX11_rings) (maxL := 2) (ret := (some .int)) (by decide) rfl ?_
  intro p e s m args below meth c s₁ B hml hv
  obtain ⟨rfl, hsz, hP, hK, hD0, hN⟩ := hv
  have hx := B.exec
  have hb := B.bytes
  have hr := B.returns
  have hts := atoms_spec (ws := wsX11_rings) B.pre
  have hown : s.vm.findClass RX11 = some m.cls := findClass_of_methodNamed B.named
  have hlocks := B.notSynchronized
  subst hsz
  have hD := hD0
  have hP : va_P D vwCl [(a0, .inr (11, [.ref a2, g1, g2, g3, g4, g5, g6, g7, g8, g9, g10, g11, g12, g13, g14, g15, g16])), (a2, .inr (9, [k0, k1, k2, k3, .int 0, k5, k6, k7, k8, k9]))] s.heap := hP
  have hl := lv_entry [.ref a0, .int x] (n := 2) (Nat.le_of_ble_eq_true rfl)
  rw [lg_entry_eq]
  generalize (lg_sl [.ref a0, .int x] ++ List.replicate (2 - (lg_sl [.ref a0, .int x]).length) Slot.unset).toArray = ls at hl ⊢
  have hl : lv_has ls 2 [(0, .ref a0), (1, .int x)] := hl
  have hw4 : ∀ w ∈ wsX40, w ∈ wsX11_rings := fun w h => (List.mem_cons_of_mem _ (List.mem_append_right _ h))
  have hw9 : ∀ w ∈ wsX90, w ∈ wsX11_rings := fun w h => (List.mem_cons_of_mem _ (List.mem_append_left _ (List.mem_append_right _ h)))
  have hw11 : ∀ w ∈ wsX110, w ∈ wsX11_rings := fun w h => (List.mem_cons_of_mem _ (List.mem_append_left _ (List.mem_append_left _ (List.mem_append_right _ h))))
  refine lv_aload_n hx hb dX11_rings_0 rfl (lv_at hl 0 rfl) ?_
  refine va_get (ci := 11) (v := .ref a2) (C := RX11) (T := TX11) (N := 17) hx hb hts hw11 hown hK hP 0 rfl rfl 0 (by decide) (hts (.fieldLink RX11 10 "SmokeTune" "town" "LSmokeTune$Town;") (List.mem_cons_of_mem _ (List.mem_append_left _ (List.mem_append_left _ (List.mem_append_left _ (List.mem_append_left _ (List.mem_of_getElem? (i := 0) rfl))))))) (fun _ h9 => h9) rfl dX11_rings_1 ?_
  refine lv_iload_n hx hb dX11_rings_4 rfl (lv_at hl 1 rfl) ?_
  refine pci (va_runVN (As := [.int x]) (rest := []) ⟨hx, hb, hml, hown, hts⟩ (c_has l D K a2 x k0 k1 k2 k3 k5 k6 k7 k8 k9 s.heap.size) ⟨va_cnB 1 hts gX11_rings_X9_has_n121 rfl rfl rfl (nst_at hN 19 rfl) (hts (.initialized RX9) (List.mem_cons_of_mem _ (List.mem_append_left _ (List.mem_append_left _ (List.mem_append_left _ (List.mem_append_left _ (List.mem_of_getElem? (i := 3) rfl))))))) (by decide +kernel) ⟨Nat.le_of_ble_eq_true rfl, Nat.le_of_ble_eq_true rfl⟩, (hts (.instanceMethod yX9_has) (List.mem_cons_of_mem _ (List.mem_append_left _ (List.mem_append_left _ (List.mem_append_left _ (List.mem_append_left _ (List.mem_of_getElem? (i := 2) rfl))))))), (hts (.selects RX9 yX9_has yX9_has) (List.mem_cons_of_mem _ (List.mem_append_left _ (List.mem_append_left _ (List.mem_append_left _ (List.mem_append_left _ (List.mem_of_getElem? (i := 4) rfl)))))))⟩ (mkV hK hN (hP.sub [1] rfl) (hD.sub [1] (by decide) rfl) (ci := 9) (q0 := 0) rfl rfl) rfl rfl hl.1 rfl (lv_room (Nat.le_of_ble_eq_true rfl)) dX11_rings_5 ⟨Nat.le_of_ble_eq_true rfl, Nat.le_of_ble_eq_true rfl⟩) (fun r_1 hw => ?_)
  obtain rfl : r_1 = 0 := hw
  refine lv_if_eq (tgt := 26) hx hb dX11_rings_8 (by decide) (fun c_2 => ?_) (fun c_2 => absurd (by decide) c_2)
  refine lv_iconst (v := (-1)) hx hb dX11_rings_26 (by decide) ?_
  exact W.iret (v := (-1)) hx hb hr (fun t ht hW => ⟨_, rfl, (by first | exact rfl), ht⟩) (fun q hq => by cases hq) dX11_rings_27
set_option maxHeartbeats 4000000 in
set_option maxRecDepth 100000 in
theorem c_chordAt (l : Launch) (D : va_G) (K : Nat → ClassId) (a0 : Nat) (x : Int32) (k0 : Value) (a2 : Nat) (k2 : Value) (k3 : Value) (k4 : Value) (k5 : Value) (k6 : Value) (k7 : Value) (k8 : Value) (k9 : Value) (fc : Nat → Int32) (X : Int) (sz : Nat) (hx : x.toInt = X) (hc : ∀ j, j < 24 → fc j = 0) : Met l yX9_chordAt wsX9_chordAt ({ frames := 0, cells := 0, slots := 0, locals := 0 }) (va_Pc [.ref a0, .int x] (Pre D K [(a0, .inr (9, [k0, .ref a2, k2, k3, k4, k5, k6, k7, k8, k9])), (a2, .inl (K 0, 24, .inl fc))] sz)) (vp_Si (fun r : Int32 => (r = 0 ∧ 0 ≤ X ∧ X ≤ 23) ∨ (r = (-1) ∧ (X < 0 ∨ 23 < X)))) 0 0 (fun _ => False) := by
  refine Met.ofW (cc := cX9_chordAt) (maxL := 2) (ret := (some .int)) (by decide) rfl ?_
  intro p e s m args below meth c s₁ B hml hv
  obtain ⟨rfl, hsz, hP, hK, hD0, hN⟩ := hv
  have hx := B.exec
  have hb := B.bytes
  have hr := B.returns
  have hts := atoms_spec (ws := wsX9_chordAt) B.pre
  have hown : s.vm.findClass RX9 = some m.cls := findClass_of_methodNamed B.named
  have hlocks := B.notSynchronized
  subst hsz
  have hD := hD0
  have hP : va_P D vwCl [(a0, .inr (9, [k0, .ref a2, k2, k3, k4, k5, k6, k7, k8, k9])), (a2, .inl (K 0, 24, .inl fc))] s.heap := hP
  have hl := lv_entry [.ref a0, .int x] (n := 2) (Nat.le_of_ble_eq_true rfl)
  rw [lg_entry_eq]
  generalize (lg_sl [.ref a0, .int x] ++ List.replicate (2 - (lg_sl [.ref a0, .int x]).length) Slot.unset).toArray = ls at hl ⊢
  have hl : lv_has ls 2 [(0, .ref a0), (1, .int x)] := hl
  have hw9 : ∀ w ∈ wsX90, w ∈ wsX9_chordAt := fun w h => (List.mem_cons_of_mem _ (List.mem_append_right _ h))
  refine lv_iload_n hx hb dX9_chordAt_0 rfl (lv_at hl 1 rfl) ?_
  refine lv_if_lt (tgt := 19) hx hb dX9_chordAt_1 (by decide) (fun c_1 => ?_) (fun c_1 => ?_)
  · have c_1i := i_lt hx rfl c_1
    refine lv_iconst (v := (-1)) hx hb dX9_chordAt_19 (by decide) ?_
    exact W.iret (v := (-1)) hx hb hr (fun t ht hW => ⟨_, rfl, (by first | exact Or.inr (⟨rfl, by first | omega | decide | (subst_vars; assumption)⟩)), ht⟩) (fun q hq => by cases hq) dX9_chordAt_20
  · have c_1i := i_nlt hx rfl c_1
    refine lv_iload_n hx hb dX9_chordAt_4 rfl (lv_at hl 1 rfl) ?_
    refine lv_bipush (v := 24) hx hb dX9_chordAt_5 (by decide) ?_
    refine lv_icmp_ge (tgt := 19) hx hb dX9_chordAt_7 (by decide) (fun c_2 => ?_) (fun c_2 => ?_)
    · have c_2i := i_le rfl hx c_2
      refine lv_iconst (v := (-1)) hx hb dX9_chordAt_19 (by decide) ?_
      exact W.iret (v := (-1)) hx hb hr (fun t ht hW => ⟨_, rfl, (by first | exact Or.inr (⟨rfl, by first | omega | decide | (subst_vars; assumption)⟩)), ht⟩) (fun q hq => by cases hq) dX9_chordAt_20
    · have c_2i := i_nle rfl hx c_2
      refine lv_aload_n hx hb dX9_chordAt_10 rfl (lv_at hl 0 rfl) ?_
      refine va_get (ci := 9) (v := .ref a2) (C := RX9) (T := TX9) (N := 10) hx hb hts hw9 hown hK hP 0 rfl rfl 1 (by decide) (hts (.fieldLink RX9 15 "SmokeTune$Town" "chords" "[I") (List.mem_cons_of_mem _ (List.mem_append_left _ (List.mem_of_getElem? (i := 0) rfl)))) (fun _ h9 => h9) rfl dX9_chordAt_11 ?_
      refine lv_iload_n hx hb dX9_chordAt_14 rfl (lv_at hl 1 rfl) ?_
      refine va_iald hx hb hK hP 1 0 rfl rfl (i_in hx (by omega)) dX9_chordAt_15 ?_
      refine lv_topi (fun x_3 ex_3 => ?_)
      obtain rfl : x_3 = 0 := ex_3.trans (hc _ (by rw [i_clamp hx]; omega))
      refine lv_goto (tgt := 20) hx hb dX9_chordAt_16 (by decide) ?_
      exact W.iret (v := 0) hx hb hr (fun t ht hW => ⟨_, rfl, (by first | exact Or.inl (⟨rfl, by first | omega | decide | (subst_vars; assumption), by first | omega | decide | (subst_vars; assumption)⟩)), ht⟩) (fun q hq => by cases hq) dX9_chordAt_20
set_option maxHeartbeats 4000000 in
set_option maxRecDepth 100000 in
theorem t_chord (l : Launch) (D : va_G) (K : Nat → ClassId) (a0 : Nat) (x : Int32) (a2 : Nat) (g1 : Value) (g2 : Value) (g3 : Value) (g4 : Value) (g5 : Value) (g6 : Value) (g7 : Value) (g8 : Value) (g9 : Value) (g10 : Value) (g11 : Value) (g12 : Value) (g13 : Value) (g14 : Value) (g15 : Value) (g16 : Value) (k0 : Value) (a3 : Nat) (k2 : Value) (k3 : Value) (k4 : Value) (k5 : Value) (k6 : Value) (k7 : Value) (k8 : Value) (k9 : Value) (sz : Nat) : Met l yX11_chord wsX11_chord ({ frames := 1, cells := 0, slots := 0, locals := 21 }) (va_Pc [.ref a0, .int x] (Pre D K [(a0, .inr (11, [.ref a2, g1, g2, g3, g4, g5, g6, g7, g8, g9, g10, g11, g12, g13, g14, g15, g16])), (a2, .inr (9, [k0, .ref a3, k2, k3, k4, k5, k6, k7, k8, k9])), (a3, .inl (K 0, 24, .inl (fun _ => 0)))] sz)) (vp_Si (fun r : Int32 => (r = 0 ∧ 0 ≤ x.toInt ∧ x.toInt ≤ 23) ∨ (r = (-1) ∧ (x.toInt < 0 ∨ 23 < x.toInt)))) 0 0 (fun _ => False) := by
  refine Met.ofW (cc := cX11_chord) (maxL := 2) (ret := (some .int)) (by decide) rfl ?_
  intro p e s m args below meth c s₁ B hml hv
  obtain ⟨rfl, hsz, hP, hK, hD0, hN⟩ := hv
  have hx := B.exec
  have hb := B.bytes
  have hr := B.returns
  have hts := atoms_spec (ws := wsX11_chord) B.pre
  have hown : s.vm.findClass RX11 = some m.cls := findClass_of_methodNamed B.named
  have hlocks := B.notSynchronized
  subst hsz
  have hD := hD0
  have hP : va_P D vwCl [(a0, .inr (11, [.ref a2, g1, g2, g3, g4, g5, g6, g7, g8, g9, g10, g11, g12, g13, g14, g15, g16])), (a2, .inr (9, [k0, .ref a3, k2, k3, k4, k5, k6, k7, k8, k9])), (a3, .inl (K 0, 24, .inl (fun _ => 0)))] s.heap := hP
  have hl := lv_entry [.ref a0, .int x] (n := 2) (Nat.le_of_ble_eq_true rfl)
  rw [lg_entry_eq]
  generalize (lg_sl [.ref a0, .int x] ++ List.replicate (2 - (lg_sl [.ref a0, .int x]).length) Slot.unset).toArray = ls at hl ⊢
  have hl : lv_has ls 2 [(0, .ref a0), (1, .int x)] := hl
  have hw9 : ∀ w ∈ wsX90, w ∈ wsX11_chord := fun w h => (List.mem_cons_of_mem _ (List.mem_append_right _ h))
  have hw11 : ∀ w ∈ wsX110, w ∈ wsX11_chord := fun w h => (List.mem_cons_of_mem _ (List.mem_append_left _ (List.mem_append_right _ h)))
  refine lv_aload_n hx hb dX11_chord_0 rfl (lv_at hl 0 rfl) ?_
  refine va_get (ci := 11) (v := .ref a2) (C := RX11) (T := TX11) (N := 17) hx hb hts hw11 hown hK hP 0 rfl rfl 0 (by decide) (hts (.fieldLink RX11 10 "SmokeTune" "town" "LSmokeTune$Town;") (List.mem_cons_of_mem _ (List.mem_append_left _ (List.mem_append_left _ (List.mem_of_getElem? (i := 0) rfl))))) (fun _ h9 => h9) rfl dX11_chord_1 ?_
  refine lv_iload_n hx hb dX11_chord_4 rfl (lv_at hl 1 rfl) ?_
  refine pci (va_runVN (As := [.int x]) (rest := []) ⟨hx, hb, hml, hown, hts⟩ (c_chordAt l D K a2 x k0 a3 k2 k3 k4 k5 k6 k7 k8 k9 (fun _ => 0) x.toInt s.heap.size rfl (fun _ _ => rfl)) ⟨va_cnB 1 hts gX11_chord_X9_chordAt_n146 rfl rfl rfl (nst_at hN 28 rfl) (hts (.initialized RX9) (List.mem_cons_of_mem _ (List.mem_append_left _ (List.mem_append_left _ (List.mem_of_getElem? (i := 2) rfl))))) (by decide +kernel) ⟨Nat.le_of_ble_eq_true rfl, Nat.le_of_ble_eq_true rfl⟩, (hts (.instanceMethod yX9_chordAt) (List.mem_cons_of_mem _ (List.mem_append_left _ (List.mem_append_left _ (List.mem_of_getElem? (i := 1) rfl))))), (hts (.selects RX9 yX9_chordAt yX9_chordAt) (List.mem_cons_of_mem _ (List.mem_append_left _ (List.mem_append_left _ (List.mem_of_getElem? (i := 3) rfl)))))⟩ (mkV hK hN (hP.sub [1, 2] rfl) (hD.sub [1, 2] (by decide) rfl) (ci := 9) (q0 := 0) rfl rfl) rfl rfl hl.1 rfl (lv_room (Nat.le_of_ble_eq_true rfl)) dX11_chord_5 ⟨Nat.le_of_ble_eq_true rfl, Nat.le_of_ble_eq_true rfl⟩) (fun r_1 hw => ?_)
  rcases hw with ⟨rfl, h_2, h_3⟩ | ⟨rfl, h_4⟩
  · exact W.iret (v := 0) hx hb hr (fun t ht hW => ⟨_, rfl, (by first | exact Or.inl (⟨rfl, by first | omega | decide | (subst_vars; assumption), by first | omega | decide | (subst_vars; assumption)⟩)), ht⟩) (fun q hq => by cases hq) dX11_chord_8
  · exact W.iret (v := (-1)) hx hb hr (fun t ht hW => ⟨_, rfl, (by first | exact Or.inr (⟨rfl, by first | omega | decide | (subst_vars; assumption)⟩)), ht⟩) (fun q hq => by cases hq) dX11_chord_8
set_option maxHeartbeats 4000000 in
set_option maxRecDepth 100000 in
theorem t_score (l : Launch) (D : va_G) (K : Nat → ClassId) (a0 : Nat) (x : Int32) (y : Int32) (a2 : Nat) (g1 : Value) (g2 : Value) (g3 : Value) (g4 : Value) (g5 : Value) (g6 : Value) (g7 : Value) (g8 : Value) (g9 : Value) (g10 : Value) (g11 : Value) (a1 : Nat) (g13 : Value) (g14 : Value) (g15 : Value) (g16 : Value) (f : Nat → Int32) (k0 : Value) (a3 : Nat) (k2 : Value) (k3 : Value) (k4 : Value) (k5 : Value) (k6 : Value) (k7 : Value) (k8 : Value) (k9 : Value) (sz : Nat) : Met l yX11_score wsX11_score ({ frames := 2, cells := 0, slots := 0, locals := 44 }) (va_Pc [.ref a0, .int x, .int y] (Pre D K [(a0, .inr (11, [.ref a2, g1, g2, g3, g4, g5, g6, g7, g8, g9, g10, g11, .ref a1, g13, g14, g15, g16])), (a1, .inl (K 0, 5, .inl f)), (a2, .inr (9, [k0, .ref a3, k2, k3, k4, k5, k6, k7, k8, k9])), (a3, .inl (K 0, 24, .inl (fun _ => 0)))] sz)) (va_Qi (S := Unit) (fun (r : Int32) (_ : Unit) => (r = 0 ∧ 0 ≤ x.toInt ∧ x.toInt ≤ 23 ∧ 0 ≤ y.toInt ∧ y.toInt ≤ 127) ∨ (r = (-1) ∧ (x.toInt < 0 ∨ 23 < x.toInt ∨ y.toInt < 0 ∨ 127 < y.toInt))) (fun u t => Wd D (va_A [(a0, .inr (11, [.ref a2, g1, g2, g3, g4, g5, g6, g7, g8, g9, g10, g11, .ref a1, g13, g14, g15, g16])), (a1, .inl (K 0, 5, .inl f)), (a2, .inr (9, [k0, .ref a3, k2, k3, k4, k5, k6, k7, k8, k9])), (a3, .inl (K 0, 24, .inl (fun _ => 0)))] sz) ((fun _ => []) u) t) (va_A [(a0, .inr (11, [.ref a2, g1, g2, g3, g4, g5, g6, g7, g8, g9, g10, g11, .ref a1, g13, g14, g15, g16])), (a1, .inl (K 0, 5, .inl f)), (a2, .inr (9, [k0, .ref a3, k2, k3, k4, k5, k6, k7, k8, k9])), (a3, .inl (K 0, 24, .inl (fun _ => 0)))] sz)) 0 0 (va_A [(a0, .inr (11, [.ref a2, g1, g2, g3, g4, g5, g6, g7, g8, g9, g10, g11, .ref a1, g13, g14, g15, g16])), (a1, .inl (K 0, 5, .inl f)), (a2, .inr (9, [k0, .ref a3, k2, k3, k4, k5, k6, k7, k8, k9])), (a3, .inl (K 0, 24, .inl (fun _ => 0)))] sz) := by
  refine Met.ofW (cc := cX11_score) (maxL := 4) (ret := (some .int)) (by decide) rfl ?_
  intro p e s m args below meth c s₁ B hml hv
  obtain ⟨rfl, hsz, hP, hK, hD0, hN⟩ := hv
  have hx := B.exec
  have hb := B.bytes
  have hr := B.returns
  have hts := atoms_spec (ws := wsX11_score) B.pre
  have hown : s.vm.findClass RX11 = some m.cls := findClass_of_methodNamed B.named
  have hlocks := B.notSynchronized
  subst hsz
  have hD := hD0.self (sz := s.heap.size)
  generalize hAe : va_A [(a0, .inr (11, [.ref a2, g1, g2, g3, g4, g5, g6, g7, g8, g9, g10, g11, .ref a1, g13, g14, g15, g16])), (a1, .inl (K 0, 5, .inl f)), (a2, .inr (9, [k0, .ref a3, k2, k3, k4, k5, k6, k7, k8, k9])), (a3, .inl (K 0, 24, .inl (fun _ => 0)))] s.heap.size = A at hD ⊢
  have hA : ∀ q : Nat, s.heap.size ≤ q → A q := fun q h => by rw [← hAe]; exact Or.inr h
  have hS : va_S A s.heap s.heap [] := va_S.rf
  have hP : va_P D vwCl [(a0, .inr (11, [.ref a2, g1, g2, g3, g4, g5, g6, g7, g8, g9, g10, g11, .ref a1, g13, g14, g15, g16])), (a1, .inl (K 0, 5, .inl f)), (a2, .inr (9, [k0, .ref a3, k2, k3, k4, k5, k6, k7, k8, k9])), (a3, .inl (K 0, 24, .inl (fun _ => 0)))] s.heap := hP
  have hl := lv_entry [.ref a0, .int x, .int y] (n := 4) (Nat.le_of_ble_eq_true rfl)
  rw [lg_entry_eq]
  generalize (lg_sl [.ref a0, .int x, .int y] ++ List.replicate (4 - (lg_sl [.ref a0, .int x, .int y]).length) Slot.unset).toArray = ls at hl ⊢
  have hl : lv_has ls 4 [(0, .ref a0), (1, .int x), (2, .int y)] := hl
  have hw9 : ∀ w ∈ wsX90, w ∈ wsX11_score := fun w h => (List.mem_cons_of_mem _ (List.mem_append_right _ h))
  have hw11 : ∀ w ∈ wsX110, w ∈ wsX11_score := fun w h => (List.mem_cons_of_mem _ (List.mem_append_left _ (List.mem_append_right _ h)))
  refine lv_iload_n hx hb dX11_score_0 rfl (lv_at hl 1 rfl) ?_
  refine lv_iconst (v := 0) hx hb dX11_score_1 (by decide) ?_
  refine lv_bipush (v := 23) hx hb dX11_score_2 (by decide) ?_
  refine pci (va_runS (As := [.int x, .int 0, .int 23]) (rest := []) ⟨hx, hb, hml, hown, hts⟩ (c_within l D K x 0 23 x.toInt 0 23 s.heap.size rfl rfl rfl) (va_cwS 3 hts gX11_score_X11_within rfl rfl rfl (by decide +kernel) ⟨Nat.le_of_ble_eq_true rfl, Nat.le_of_ble_eq_true rfl⟩) (mkS hK hN (hP.sub [] rfl) (hD.sub [] (by decide) rfl)) rfl rfl hl.1 rfl (lv_room (Nat.le_of_ble_eq_true rfl)) dX11_score_4 ⟨Nat.le_of_ble_eq_true rfl, Nat.le_of_ble_eq_true rfl⟩) (fun r_1 hw => ?_)
  rcases hw with ⟨rfl, h_2, h_3⟩ | ⟨rfl, h_4⟩
  · refine lv_if_eq (tgt := 20) hx hb dX11_score_7 (by decide) (fun c_5 => absurd c_5 (by decide)) (fun c_5 => ?_)
    refine lv_iload_n hx hb dX11_score_10 rfl (lv_at hl 2 rfl) ?_
    refine lv_iconst (v := 0) hx hb dX11_score_11 (by decide) ?_
    refine lv_bipush (v := 127) hx hb dX11_score_12 (by decide) ?_
    refine pci (va_runS (As := [.int y, .int 0, .int 127]) (rest := []) ⟨hx, hb, hml, hown, hts⟩ (c_within l D K y 0 127 y.toInt 0 127 s.heap.size rfl rfl rfl) (va_cwS 3 hts gX11_score_X11_within rfl rfl rfl (by decide +kernel) ⟨Nat.le_of_ble_eq_true rfl, Nat.le_of_ble_eq_true rfl⟩) (mkS hK hN (hP.sub [] rfl) (hD.sub [] (by decide) rfl)) rfl rfl hl.1 rfl (lv_room (Nat.le_of_ble_eq_true rfl)) dX11_score_14 ⟨Nat.le_of_ble_eq_true rfl, Nat.le_of_ble_eq_true rfl⟩) (fun r_6 hw => ?_)
    rcases hw with ⟨rfl, h_7, h_8⟩ | ⟨rfl, h_9⟩
    · refine lv_if_ne (tgt := 26) hx hb dX11_score_17 (by decide) (fun c_10 => ?_) (fun c_10 => absurd (by decide) c_10)
      refine lv_aload_n hx hb dX11_score_26 rfl (lv_at hl 0 rfl) ?_
      refine va_get (ci := 11) (v := .ref a2) (C := RX11) (T := TX11) (N := 17) hx hb hts hw11 hown hK hP 0 rfl rfl 0 (by decide) (hts (.fieldLink RX11 10 "SmokeTune" "town" "LSmokeTune$Town;") (List.mem_cons_of_mem _ (List.mem_append_left _ (List.mem_append_left _ (List.mem_of_getElem? (i := 0) rfl))))) (fun _ h9 => h9) rfl dX11_score_27 ?_
      refine lv_iload_n hx hb dX11_score_30 rfl (lv_at hl 1 rfl) ?_
      refine pci (va_runVN (As := [.int x]) (rest := []) ⟨hx, hb, hml, hown, hts⟩ (c_chordAt l D K a2 x k0 a3 k2 k3 k4 k5 k6 k7 k8 k9 (fun _ => 0) x.toInt s.heap.size rfl (fun _ _ => rfl)) ⟨va_cnB 1 hts gX11_score_X9_chordAt_n146 rfl rfl rfl (nst_at hN 28 rfl) (hts (.initialized RX9) (List.mem_cons_of_mem _ (List.mem_append_left _ (List.mem_append_left _ (List.mem_of_getElem? (i := 12) rfl))))) (by decide +kernel) ⟨Nat.le_of_ble_eq_true rfl, Nat.le_of_ble_eq_true rfl⟩, (hts (.instanceMethod yX9_chordAt) (List.mem_cons_of_mem _ (List.mem_append_left _ (List.mem_append_left _ (List.mem_of_getElem? (i := 11) rfl))))), (hts (.selects RX9 yX9_chordAt yX9_chordAt) (List.mem_cons_of_mem _ (List.mem_append_left _ (List.mem_append_left _ (List.mem_of_getElem? (i := 13) rfl)))))⟩ (mkV hK hN (hP.sub [2, 3] rfl) (hD.sub [2, 3] (by decide) rfl) (ci := 9) (q0 := 0) rfl rfl) rfl rfl hl.1 rfl (lv_room (Nat.le_of_ble_eq_true rfl)) dX11_score_31 ⟨Nat.le_of_ble_eq_true rfl, Nat.le_of_ble_eq_true rfl⟩) (fun r_11 hw => ?_)
      rcases hw with ⟨rfl, h_12, h_13⟩ | ⟨rfl, h_14⟩
      · refine lv_istore_n (lv' := [(3, .int 0), (0, .ref a0), (1, .int x), (2, .int y)]) hx hb dX11_score_34 rfl hl (by decide) rfl (fun ls hl => ?_)
        refine lv_aload_n hx hb dX11_score_35 rfl (lv_at hl 1 rfl) ?_
        refine va_get (ci := 11) (v := .ref a2) (C := RX11) (T := TX11) (N := 17) hx hb hts hw11 hown hK hP 0 rfl rfl 0 (by decide) (hts (.fieldLink RX11 10 "SmokeTune" "town" "LSmokeTune$Town;") (List.mem_cons_of_mem _ (List.mem_append_left _ (List.mem_append_left _ (List.mem_of_getElem? (i := 0) rfl))))) (fun _ h9 => h9) rfl dX11_score_36 ?_
        refine va_getN (ci := 9) (v := .ref a3) (C := RX9) (T := TX9) (N := 10) hx hb hts hw9 hown hK hP 2 rfl rfl 1 (by decide) (nst_use hN 98 rfl) (fun _ h9 => h9) rfl dX11_score_39 ?_
        refine lv_iload_n hx hb dX11_score_42 rfl (lv_at hl 2 rfl) ?_
        refine lv_iload_n hx hb dX11_score_43 rfl (lv_at hl 3 rfl) ?_
        refine va_iast hx hb hK hP hD hS 3 0 rfl rfl (i_in rfl (by omega)) dX11_score_44 (fun H locs hP hD hS => ?_)
        generalize hf_15 : (upd (fun _ => 0) (x : Int32).toNatClampNeg y) = f_15 at hP hD
        have hP : va_P D vwCl [(a0, .inr (11, [.ref a2, g1, g2, g3, g4, g5, g6, g7, g8, g9, g10, g11, .ref a1, g13, g14, g15, g16])), (a1, .inl (K 0, 5, .inl f)), (a2, .inr (9, [k0, .ref a3, k2, k3, k4, k5, k6, k7, k8, k9])), (a3, .inl (K 0, 24, .inl f_15))] H := hP
        have hD : va_D A [(a0, .inr (11, [.ref a2, g1, g2, g3, g4, g5, g6, g7, g8, g9, g10, g11, .ref a1, g13, g14, g15, g16])), (a1, .inl (K 0, 5, .inl f)), (a2, .inr (9, [k0, .ref a3, k2, k3, k4, k5, k6, k7, k8, k9])), (a3, .inl (K 0, 24, .inl f_15))] := hD
        refine lv_aload_n hx hb dX11_score_45 rfl (lv_at hl 1 rfl) ?_
        refine lv_iload_n hx hb dX11_score_46 rfl (lv_at hl 0 rfl) ?_
        refine kci (wr := [(a1, .inl (K 0, 5, .inl f)), (a2, .inr (9, [k0, .ref a3, k2, k3, k4, k5, k6, k7, k8, k9])), (a3, .inl (K 0, 24, .inl f_15))]) (va_runV (As := [.int 0]) (rest := []) ⟨hx, hb, hml, hown, hts⟩ (c_accept l D K a0 0 (.ref a2) g1 g2 g3 g4 g5 g6 g7 g8 g9 g10 g11 (.ref a1) g13 g14 g15 g16 H.size) (cwV 1 hts gX11_score_X11_accept rfl rfl rfl (by decide +kernel) ⟨Nat.le_of_ble_eq_true rfl, Nat.le_of_ble_eq_true rfl⟩) (mkV hK hN (hP.sub [0] rfl) (hD.sub [0] (by decide) rfl) (ci := 11) (q0 := 0) rfl rfl) rfl rfl hl.1 rfl (lv_room (Nat.le_of_ble_eq_true rfl)) dX11_score_47 ⟨Nat.le_of_ble_eq_true rfl, Nat.le_of_ble_eq_true rfl⟩) hP hD hS hA [0] [1, 2, 3] rfl rfl (by decide) (by decide) (fun r_16 u_17 H locs hw hP hD hS => ?_)
        have hP : va_P D vwCl [(a1, .inl (K 0, 5, .inl f)), (a2, .inr (9, [k0, .ref a3, k2, k3, k4, k5, k6, k7, k8, k9])), (a3, .inl (K 0, 24, .inl f_15))] H := hP
        have hD : va_D A [(a1, .inl (K 0, 5, .inl f)), (a2, .inr (9, [k0, .ref a3, k2, k3, k4, k5, k6, k7, k8, k9])), (a3, .inl (K 0, 24, .inl f_15))] := hD
        obtain rfl : r_16 = 0 := hw
        exact W.iret (v := 0) hx hb hr (fun t ht hW => ⟨⟨0, (), rfl, (by first | exact Or.inl (⟨rfl, by first | omega | decide | (subst_vars; assumption), by first | omega | decide | (subst_vars; assumption), by first | omega | decide | (subst_vars; assumption), by first | omega | decide | (subst_vars; assumption)⟩)), Wd.nil⟩, hS.F ht⟩) hS.2.2 dX11_score_50
      · exfalso; omega
    · refine lv_if_ne (tgt := 26) hx hb dX11_score_17 (by decide) (fun c_18 => absurd c_18 (by decide)) (fun c_18 => ?_)
      refine lv_aload_n hx hb dX11_score_20 rfl (lv_at hl 0 rfl) ?_
      refine lv_iconst (v := (-1)) hx hb dX11_score_21 (by decide) ?_
      refine kci (wr := [(a2, .inr (9, [k0, .ref a3, k2, k3, k4, k5, k6, k7, k8, k9])), (a3, .inl (K 0, 24, .inl (fun _ => 0)))]) (va_runV (As := [.int (-1)]) (rest := []) ⟨hx, hb, hml, hown, hts⟩ (c_refuse_1 l D K a0 (.ref a2) g1 g2 g3 g4 g5 g6 g7 g8 g9 g10 g11 a1 g13 g14 g15 g16 f s.heap.size) (cwV 1 hts gX11_score_X11_refuse rfl rfl rfl (by decide +kernel) ⟨Nat.le_of_ble_eq_true rfl, Nat.le_of_ble_eq_true rfl⟩) (mkV hK hN (hP.sub [0, 1] rfl) (hD.sub [0, 1] (by decide) rfl) (ci := 11) (q0 := 0) rfl rfl) rfl rfl hl.1 rfl (lv_room (Nat.le_of_ble_eq_true rfl)) dX11_score_22 ⟨Nat.le_of_ble_eq_true rfl, Nat.le_of_ble_eq_true rfl⟩) hP hD hS hA [0, 1] [2, 3] rfl rfl (by decide) (by decide) (fun r_19 u_20 H locs hw hP hD hS => ?_)
      have hP : va_P D vwCl [(a2, .inr (9, [k0, .ref a3, k2, k3, k4, k5, k6, k7, k8, k9])), (a3, .inl (K 0, 24, .inl (fun _ => 0)))] H := hP
      have hD : va_D A [(a2, .inr (9, [k0, .ref a3, k2, k3, k4, k5, k6, k7, k8, k9])), (a3, .inl (K 0, 24, .inl (fun _ => 0)))] := hD
      obtain rfl : r_19 = (-1) := hw
      exact W.iret (v := (-1)) hx hb hr (fun t ht hW => ⟨⟨(-1), (), rfl, (by first | exact Or.inr (⟨rfl, by first | omega | decide | (subst_vars; assumption)⟩)), Wd.nil⟩, hS.F ht⟩) hS.2.2 dX11_score_25
  · refine lv_if_eq (tgt := 20) hx hb dX11_score_7 (by decide) (fun c_21 => ?_) (fun c_21 => absurd (by decide) c_21)
    refine lv_aload_n hx hb dX11_score_20 rfl (lv_at hl 0 rfl) ?_
    refine lv_iconst (v := (-1)) hx hb dX11_score_21 (by decide) ?_
    refine kci (wr := [(a2, .inr (9, [k0, .ref a3, k2, k3, k4, k5, k6, k7, k8, k9])), (a3, .inl (K 0, 24, .inl (fun _ => 0)))]) (va_runV (As := [.int (-1)]) (rest := []) ⟨hx, hb, hml, hown, hts⟩ (c_refuse_1 l D K a0 (.ref a2) g1 g2 g3 g4 g5 g6 g7 g8 g9 g10 g11 a1 g13 g14 g15 g16 f s.heap.size) (cwV 1 hts gX11_score_X11_refuse rfl rfl rfl (by decide +kernel) ⟨Nat.le_of_ble_eq_true rfl, Nat.le_of_ble_eq_true rfl⟩) (mkV hK hN (hP.sub [0, 1] rfl) (hD.sub [0, 1] (by decide) rfl) (ci := 11) (q0 := 0) rfl rfl) rfl rfl hl.1 rfl (lv_room (Nat.le_of_ble_eq_true rfl)) dX11_score_22 ⟨Nat.le_of_ble_eq_true rfl, Nat.le_of_ble_eq_true rfl⟩) hP hD hS hA [0, 1] [2, 3] rfl rfl (by decide) (by decide) (fun r_22 u_23 H locs hw hP hD hS => ?_)
    have hP : va_P D vwCl [(a2, .inr (9, [k0, .ref a3, k2, k3, k4, k5, k6, k7, k8, k9])), (a3, .inl (K 0, 24, .inl (fun _ => 0)))] H := hP
    have hD : va_D A [(a2, .inr (9, [k0, .ref a3, k2, k3, k4, k5, k6, k7, k8, k9])), (a3, .inl (K 0, 24, .inl (fun _ => 0)))] := hD
    obtain rfl : r_22 = (-1) := hw
    exact W.iret (v := (-1)) hx hb hr (fun t ht hW => ⟨⟨(-1), (), rfl, (by first | exact Or.inr (⟨rfl, by first | omega | decide | (subst_vars; assumption)⟩)), Wd.nil⟩, hS.F ht⟩) hS.2.2 dX11_score_25
set_option maxHeartbeats 4000000 in
set_option maxRecDepth 100000 in
theorem c_dinerOf (l : Launch) (D : va_G) (K : Nat → ClassId) (a0 : Nat) (x : Int32) (k0 : Value) (k1 : Value) (k2 : Value) (k3 : Value) (k5 : Value) (k6 : Value) (k7 : Value) (k8 : Value) (k9 : Value) (sz : Nat) : Met l yX9_dinerOf wsX9_dinerOf ({ frames := 0, cells := 0, slots := 0, locals := 0 }) (va_Pc [.ref a0, .int x] (Pre D K [(a0, .inr (9, [k0, k1, k2, k3, .int 0, k5, k6, k7, k8, k9]))] sz)) (vp_Si (fun r : Int32 => (r = (-1)))) 0 0 (fun _ => False) := by
  refine Met.ofW (cc := cX9_dinerOf) (maxL := 3) (ret := (some .int)) (by decide) rfl ?_
  intro p e s m args below meth c s₁ B hml hv
  obtain ⟨rfl, hsz, hP, hK, hD0, hN⟩ := hv
  have hx := B.exec
  have hb := B.bytes
  have hr := B.returns
  have hts := atoms_spec (ws := wsX9_dinerOf) B.pre
  have hown : s.vm.findClass RX9 = some m.cls := findClass_of_methodNamed B.named
  have hlocks := B.notSynchronized
  subst hsz
  have hD := hD0
  have hP : va_P D vwCl [(a0, .inr (9, [k0, k1, k2, k3, .int 0, k5, k6, k7, k8, k9]))] s.heap := hP
  have hl := lv_entry [.ref a0, .int x] (n := 3) (Nat.le_of_ble_eq_true rfl)
  rw [lg_entry_eq]
  generalize (lg_sl [.ref a0, .int x] ++ List.replicate (3 - (lg_sl [.ref a0, .int x]).length) Slot.unset).toArray = ls at hl ⊢
  have hl : lv_has ls 3 [(0, .ref a0), (1, .int x)] := hl
  have hw9 : ∀ w ∈ wsX90, w ∈ wsX9_dinerOf := fun w h => (List.mem_cons_of_mem _ (List.mem_append_right _ h))
  refine lv_iconst (v := 0) hx hb dX9_dinerOf_0 (by decide) ?_
  refine lv_istore_n (lv' := [(2, .int 0), (0, .ref a0), (1, .int x)]) hx hb dX9_dinerOf_1 rfl hl (by decide) rfl (fun ls hl => ?_)
  refine lv_iload_n hx hb dX9_dinerOf_2 rfl (lv_at hl 0 rfl) ?_
  refine lv_aload_n hx hb dX9_dinerOf_3 rfl (lv_at hl 1 rfl) ?_
  refine va_get (ci := 9) (v := .int 0) (C := RX9) (T := TX9) (N := 10) hx hb hts hw9 hown hK hP 0 rfl rfl 4 (by decide) (hts (.fieldLink RX9 27 "SmokeTune$Town" "houses" "I") (List.mem_cons_of_mem _ (List.mem_append_left _ (List.mem_of_getElem? (i := 0) rfl)))) (fun _ h9 => h9) rfl dX9_dinerOf_4 ?_
  refine lv_icmp_ge (tgt := 28) hx hb dX9_dinerOf_7 (by decide) (fun c_1 => ?_) (fun c_1 => absurd (by decide) c_1)
  refine lv_iconst (v := (-1)) hx hb dX9_dinerOf_28 (by decide) ?_
  exact W.iret (v := (-1)) hx hb hr (fun t ht hW => ⟨_, rfl, (by first | exact rfl), ht⟩) (fun q hq => by cases hq) dX9_dinerOf_29
set_option maxHeartbeats 4000000 in
set_option maxRecDepth 100000 in
theorem c_clear (l : Launch) (D : va_G) (K : Nat → ClassId) (a0 : Nat) (g0 : Value) (g1 : Value) (g2 : Value) (sz : Nat) : Met l yX2_clear wsX2_clear ({ frames := 0, cells := 0, slots := 0, locals := 0 }) (va_Pc [.ref a0] (Pre D K [(a0, .inr (2, [g0, g1, g2]))] sz)) (va_Qv (S := Unit) (fun _ => True) (fun u t => Wd D (va_A [(a0, .inr (2, [g0, g1, g2]))] sz) ((fun _ => []) u) t) (va_A [(a0, .inr (2, [g0, g1, g2]))] sz)) 0 0 (va_A [(a0, .inr (2, [g0, g1, g2]))] sz) := by
  refine Met.ofW (cc := cX2_clear) (maxL := 1) (ret := none) (by decide) rfl ?_
  intro p e s m args below meth c s₁ B hml hv
  obtain ⟨rfl, hsz, hP, hK, hD0, hN⟩ := hv
  have hx := B.exec
  have hb := B.bytes
  have hr := B.returns
  have hts := atoms_spec (ws := wsX2_clear) B.pre
  have hown : s.vm.findClass RX2 = some m.cls := findClass_of_methodNamed B.named
  have hlocks := B.notSynchronized
  subst hsz
  have hD := hD0.self (sz := s.heap.size)
  generalize hAe : va_A [(a0, .inr (2, [g0, g1, g2]))] s.heap.size = A at hD ⊢
  have hA : ∀ q : Nat, s.heap.size ≤ q → A q := fun q h => by rw [← hAe]; exact Or.inr h
  have hS : va_S A s.heap s.heap [] := va_S.rf
  have hP : va_P D vwCl [(a0, .inr (2, [g0, g1, g2]))] s.heap := hP
  have hl := lv_entry [.ref a0] (n := 1) (Nat.le_of_ble_eq_true rfl)
  rw [lg_entry_eq]
  generalize (lg_sl [.ref a0] ++ List.replicate (1 - (lg_sl [.ref a0]).length) Slot.unset).toArray = ls at hl ⊢
  have hl : lv_has ls 1 [(0, .ref a0)] := hl
  have hw2 : ∀ w ∈ wsX20, w ∈ wsX2_clear := fun w h => (List.mem_cons_of_mem _ (List.mem_append_right _ h))
  refine lv_aload_n hx hb dX2_clear_0 rfl (lv_at hl 0 rfl) ?_
  refine lv_iconst (v := 0) hx hb dX2_clear_1 (by decide) ?_
  refine va_put (ci := 2) (v := .int 0) (ty := .int) (C := RX2) (T := TX2) (N := 3) hx hb hts hw2 tyX2 tyX2_ok nmX2 hown hK hP hD hS 0 rfl rfl 2 (by decide) (hts (.fieldLink RX2 19 "SmokeTune$History" "kept" "I") (List.mem_cons_of_mem _ (List.mem_append_left _ (List.mem_of_getElem? (i := 0) rfl)))) (fun _ h9 => h9) rfl (by decide +kernel) (by first | rfl | decide) (by first | rfl | decide) (Nat.le_of_ble_eq_true rfl) dX2_clear_2 (fun H locs hP hD hS => ?_)
  have hP : va_P D vwCl [(a0, .inr (2, [g0, g1, .int 0]))] H := hP
  have hD : va_D A [(a0, .inr (2, [g0, g1, .int 0]))] := hD
  exact W.vret hx hb hr (fun t ht hW => ⟨⟨(), rfl, trivial, Wd.nil⟩, hS.F ht⟩) hS.2.2 dX2_clear_5
set_option maxHeartbeats 4000000 in
set_option maxRecDepth 100000 in
theorem c_put_0 (l : Launch) (D : va_G) (K : Nat → ClassId) (a0 : Nat) (x : Int32) (a1 : Nat) (k1 : Value) (k2 : Value) (k3 : Value) (k4 : Value) (k5 : Value) (k6 : Value) (k7 : Value) (k8 : Value) (k9 : Value) (f : Nat → Int32) (sz : Nat) : Met l yX9_put wsX9_put ({ frames := 1, cells := 0, slots := 0, locals := 22 }) (va_Pc [.ref a0, .int 0, .int 0, .int x] (Pre D K [(a0, .inr (9, [.ref a1, k1, k2, k3, k4, k5, k6, k7, k8, k9])), (a1, .inl (K 0, 56, .inl f))] sz)) (va_Qv (S := (Nat → Nat) × (Nat → Nat → Int32) × (Nat → Nat → Int64) × (Nat → Int32)) (fun _ => True) (fun u t => Wd D (va_A [(a0, .inr (9, [.ref a1, k1, k2, k3, k4, k5, k6, k7, k8, k9])), (a1, .inl (K 0, 56, .inl f))] sz) ((fun u => [(a0, .inr (9, [.ref a1, k1, k2, k3, k4, k5, k6, k7, k8, k9])), (a1, .inl (K 0, 56, .inl ((u.2.1 0))))]) u) t) (va_A [(a0, .inr (9, [.ref a1, k1, k2, k3, k4, k5, k6, k7, k8, k9])), (a1, .inl (K 0, 56, .inl f))] sz)) 0 0 (va_A [(a0, .inr (9, [.ref a1, k1, k2, k3, k4, k5, k6, k7, k8, k9])), (a1, .inl (K 0, 56, .inl f))] sz) := by
  refine Met.ofW (cc := cX9_put) (maxL := 4) (ret := none) (by decide) rfl ?_
  intro p e s m args below meth c s₁ B hml hv
  obtain ⟨rfl, hsz, hP, hK, hD0, hN⟩ := hv
  have hx := B.exec
  have hb := B.bytes
  have hr := B.returns
  have hts := atoms_spec (ws := wsX9_put) B.pre
  have hown : s.vm.findClass RX9 = some m.cls := findClass_of_methodNamed B.named
  have hlocks := B.notSynchronized
  subst hsz
  have hD := hD0.self (sz := s.heap.size)
  generalize hAe : va_A [(a0, .inr (9, [.ref a1, k1, k2, k3, k4, k5, k6, k7, k8, k9])), (a1, .inl (K 0, 56, .inl f))] s.heap.size = A at hD ⊢
  have hA : ∀ q : Nat, s.heap.size ≤ q → A q := fun q h => by rw [← hAe]; exact Or.inr h
  have hS : va_S A s.heap s.heap [] := va_S.rf
  have hP : va_P D vwCl [(a0, .inr (9, [.ref a1, k1, k2, k3, k4, k5, k6, k7, k8, k9])), (a1, .inl (K 0, 56, .inl f))] s.heap := hP
  have hl := lv_entry [.ref a0, .int 0, .int 0, .int x] (n := 4) (Nat.le_of_ble_eq_true rfl)
  rw [lg_entry_eq]
  generalize (lg_sl [.ref a0, .int 0, .int 0, .int x] ++ List.replicate (4 - (lg_sl [.ref a0, .int 0, .int 0, .int x]).length) Slot.unset).toArray = ls at hl ⊢
  have hl : lv_has ls 4 [(0, .ref a0), (1, .int 0), (2, .int 0), (3, .int x)] := hl
  have hw9 : ∀ w ∈ wsX90, w ∈ wsX9_put := fun w h => (List.mem_cons_of_mem _ (List.mem_append_right _ h))
  refine lv_iload_n hx hb dX9_put_0 rfl (lv_at hl 1 rfl) ?_
  refine lv_iconst (v := 0) hx hb dX9_put_1 (by decide) ?_
  refine lv_bipush (v := 7) hx hb dX9_put_2 (by decide) ?_
  refine pci (va_runSN (As := [.int 0, .int 0, .int 7]) (rest := []) ⟨hx, hb, hml, hown, hts⟩ (c_within l D K 0 0 7 0 0 7 s.heap.size rfl rfl rfl) ⟨va_cnB 3 hts gX9_put_X11_within_n52 rfl rfl rfl (nst_at hN 18 rfl) (hts (.initialized RX11) (List.mem_cons_of_mem _ (List.mem_append_left _ (List.mem_of_getElem? (i := 2) rfl)))) (by decide +kernel) ⟨Nat.le_of_ble_eq_true rfl, Nat.le_of_ble_eq_true rfl⟩, (hts (.static yX11_within) (List.mem_cons_of_mem _ (List.mem_append_left _ (List.mem_of_getElem? (i := 1) rfl)))), trivial⟩ (mkS hK hN (hP.sub [] rfl) (hD.sub [] (by decide) rfl)) rfl rfl hl.1 rfl (lv_room (Nat.le_of_ble_eq_true rfl)) dX9_put_4 ⟨Nat.le_of_ble_eq_true rfl, Nat.le_of_ble_eq_true rfl⟩) (fun r_1 hw => ?_)
  rcases hw with ⟨rfl, h_2, h_3⟩ | ⟨rfl, h_4⟩
  · refine lv_if_eq (tgt := 32) hx hb dX9_put_7 (by decide) (fun c_5 => absurd c_5 (by decide)) (fun c_5 => ?_)
    refine lv_iload_n hx hb dX9_put_10 rfl (lv_at hl 2 rfl) ?_
    refine lv_iconst (v := 0) hx hb dX9_put_11 (by decide) ?_
    refine lv_bipush (v := 6) hx hb dX9_put_12 (by decide) ?_
    refine pci (va_runSN (As := [.int 0, .int 0, .int 6]) (rest := []) ⟨hx, hb, hml, hown, hts⟩ (c_within l D K 0 0 6 0 0 6 s.heap.size rfl rfl rfl) ⟨va_cnB 3 hts gX9_put_X11_within_n52 rfl rfl rfl (nst_at hN 18 rfl) (hts (.initialized RX11) (List.mem_cons_of_mem _ (List.mem_append_left _ (List.mem_of_getElem? (i := 2) rfl)))) (by decide +kernel) ⟨Nat.le_of_ble_eq_true rfl, Nat.le_of_ble_eq_true rfl⟩, (hts (.static yX11_within) (List.mem_cons_of_mem _ (List.mem_append_left _ (List.mem_of_getElem? (i := 1) rfl)))), trivial⟩ (mkS hK hN (hP.sub [] rfl) (hD.sub [] (by decide) rfl)) rfl rfl hl.1 rfl (lv_room (Nat.le_of_ble_eq_true rfl)) dX9_put_14 ⟨Nat.le_of_ble_eq_true rfl, Nat.le_of_ble_eq_true rfl⟩) (fun r_6 hw => ?_)
    rcases hw with ⟨rfl, h_7, h_8⟩ | ⟨rfl, h_9⟩
    · refine lv_if_eq (tgt := 32) hx hb dX9_put_17 (by decide) (fun c_10 => absurd c_10 (by decide)) (fun c_10 => ?_)
      refine lv_aload_n hx hb dX9_put_20 rfl (lv_at hl 0 rfl) ?_
      refine va_get (ci := 9) (v := .ref a1) (C := RX9) (T := TX9) (N := 10) hx hb hts hw9 hown hK hP 0 rfl rfl 0 (by decide) (hts (.fieldLink RX9 9 "SmokeTune$Town" "facts" "[I") (List.mem_cons_of_mem _ (List.mem_append_left _ (List.mem_of_getElem? (i := 0) rfl)))) (fun _ h9 => h9) rfl dX9_put_21 ?_
      refine lv_iload_n hx hb dX9_put_24 rfl (lv_at hl 2 rfl) ?_
      refine lv_bipush (v := 8) hx hb dX9_put_25 (by decide) ?_
      refine lv_imul hx hb dX9_put_27 ?_
      refine lv_topi (fun x_11 ex_11 => ?_)
      obtain rfl : x_11 = 0 := ex_11.trans (by first | rfl | decide)
      refine lv_iload_n hx hb dX9_put_28 rfl (lv_at hl 1 rfl) ?_
      refine lv_iadd hx hb dX9_put_29 ?_
      refine lv_topi (fun x_12 ex_12 => ?_)
      obtain rfl : x_12 = 0 := ex_12.trans (by first | rfl | decide)
      refine lv_iload_n hx hb dX9_put_30 rfl (lv_at hl 3 rfl) ?_
      refine va_iast hx hb hK hP hD hS 1 0 rfl rfl (i_in (x := 0) rfl (by omega)) dX9_put_31 (fun H locs hP hD hS => ?_)
      generalize hf_13 : (upd f (0 : Int32).toNatClampNeg x) = f_13 at hP hD
      have hP : va_P D vwCl [(a0, .inr (9, [.ref a1, k1, k2, k3, k4, k5, k6, k7, k8, k9])), (a1, .inl (K 0, 56, .inl f_13))] H := hP
      have hD : va_D A [(a0, .inr (9, [.ref a1, k1, k2, k3, k4, k5, k6, k7, k8, k9])), (a1, .inl (K 0, 56, .inl f_13))] := hD
      have hP9 := hP.sub (ws' := [(a0, .inr (9, [.ref a1, k1, k2, k3, k4, k5, k6, k7, k8, k9])), (a1, .inl (K 0, 56, .inl f_13))]) [0, 1] rfl
      have hD9 := hD.sub (ws' := [(a0, .inr (9, [.ref a1, k1, k2, k3, k4, k5, k6, k7, k8, k9])), (a1, .inl (K 0, 56, .inl f_13))]) [0, 1] (by decide) rfl
      exact W.vret hx hb hr (fun t ht hW => ⟨⟨(fun _ => 0, fun i => match i with | _ => f_13, fun _ => fun _ => 0, fun _ => 0), rfl, trivial, (⟨by rw [ht]; exact hP9, hD9⟩ : Wd D A _ t)⟩, hS.F ht⟩) hS.2.2 dX9_put_32
    · exfalso; omega
  · exfalso; omega
set_option maxHeartbeats 4000000 in
set_option maxRecDepth 100000 in
theorem c_put_1 (l : Launch) (D : va_G) (K : Nat → ClassId) (a0 : Nat) (x : Int32) (a1 : Nat) (k1 : Value) (k2 : Value) (k3 : Value) (k4 : Value) (k5 : Value) (k6 : Value) (k7 : Value) (k8 : Value) (k9 : Value) (f : Nat → Int32) (sz : Nat) : Met l yX9_put wsX9_put ({ frames := 1, cells := 0, slots := 0, locals := 22 }) (va_Pc [.ref a0, .int 0, .int 1, .int x] (Pre D K [(a0, .inr (9, [.ref a1, k1, k2, k3, k4, k5, k6, k7, k8, k9])), (a1, .inl (K 0, 56, .inl f))] sz)) (va_Qv (S := (Nat → Nat) × (Nat → Nat → Int32) × (Nat → Nat → Int64) × (Nat → Int32)) (fun _ => True) (fun u t => Wd D (va_A [(a0, .inr (9, [.ref a1, k1, k2, k3, k4, k5, k6, k7, k8, k9])), (a1, .inl (K 0, 56, .inl f))] sz) ((fun u => [(a0, .inr (9, [.ref a1, k1, k2, k3, k4, k5, k6, k7, k8, k9])), (a1, .inl (K 0, 56, .inl ((u.2.1 0))))]) u) t) (va_A [(a0, .inr (9, [.ref a1, k1, k2, k3, k4, k5, k6, k7, k8, k9])), (a1, .inl (K 0, 56, .inl f))] sz)) 0 0 (va_A [(a0, .inr (9, [.ref a1, k1, k2, k3, k4, k5, k6, k7, k8, k9])), (a1, .inl (K 0, 56, .inl f))] sz) := by
  refine Met.ofW (cc := cX9_put) (maxL := 4) (ret := none) (by decide) rfl ?_
  intro p e s m args below meth c s₁ B hml hv
  obtain ⟨rfl, hsz, hP, hK, hD0, hN⟩ := hv
  have hx := B.exec
  have hb := B.bytes
  have hr := B.returns
  have hts := atoms_spec (ws := wsX9_put) B.pre
  have hown : s.vm.findClass RX9 = some m.cls := findClass_of_methodNamed B.named
  have hlocks := B.notSynchronized
  subst hsz
  have hD := hD0.self (sz := s.heap.size)
  generalize hAe : va_A [(a0, .inr (9, [.ref a1, k1, k2, k3, k4, k5, k6, k7, k8, k9])), (a1, .inl (K 0, 56, .inl f))] s.heap.size = A at hD ⊢
  have hA : ∀ q : Nat, s.heap.size ≤ q → A q := fun q h => by rw [← hAe]; exact Or.inr h
  have hS : va_S A s.heap s.heap [] := va_S.rf
  have hP : va_P D vwCl [(a0, .inr (9, [.ref a1, k1, k2, k3, k4, k5, k6, k7, k8, k9])), (a1, .inl (K 0, 56, .inl f))] s.heap := hP
  have hl := lv_entry [.ref a0, .int 0, .int 1, .int x] (n := 4) (Nat.le_of_ble_eq_true rfl)
  rw [lg_entry_eq]
  generalize (lg_sl [.ref a0, .int 0, .int 1, .int x] ++ List.replicate (4 - (lg_sl [.ref a0, .int 0, .int 1, .int x]).length) Slot.unset).toArray = ls at hl ⊢
  have hl : lv_has ls 4 [(0, .ref a0), (1, .int 0), (2, .int 1), (3, .int x)] := hl
  have hw9 : ∀ w ∈ wsX90, w ∈ wsX9_put := fun w h => (List.mem_cons_of_mem _ (List.mem_append_right _ h))
  refine lv_iload_n hx hb dX9_put_0 rfl (lv_at hl 1 rfl) ?_
  refine lv_iconst (v := 0) hx hb dX9_put_1 (by decide) ?_
  refine lv_bipush (v := 7) hx hb dX9_put_2 (by decide) ?_
  refine pci (va_runSN (As := [.int 0, .int 0, .int 7]) (rest := []) ⟨hx, hb, hml, hown, hts⟩ (c_within l D K 0 0 7 0 0 7 s.heap.size rfl rfl rfl) ⟨va_cnB 3 hts gX9_put_X11_within_n52 rfl rfl rfl (nst_at hN 18 rfl) (hts (.initialized RX11) (List.mem_cons_of_mem _ (List.mem_append_left _ (List.mem_of_getElem? (i := 2) rfl)))) (by decide +kernel) ⟨Nat.le_of_ble_eq_true rfl, Nat.le_of_ble_eq_true rfl⟩, (hts (.static yX11_within) (List.mem_cons_of_mem _ (List.mem_append_left _ (List.mem_of_getElem? (i := 1) rfl)))), trivial⟩ (mkS hK hN (hP.sub [] rfl) (hD.sub [] (by decide) rfl)) rfl rfl hl.1 rfl (lv_room (Nat.le_of_ble_eq_true rfl)) dX9_put_4 ⟨Nat.le_of_ble_eq_true rfl, Nat.le_of_ble_eq_true rfl⟩) (fun r_1 hw => ?_)
  rcases hw with ⟨rfl, h_2, h_3⟩ | ⟨rfl, h_4⟩
  · refine lv_if_eq (tgt := 32) hx hb dX9_put_7 (by decide) (fun c_5 => absurd c_5 (by decide)) (fun c_5 => ?_)
    refine lv_iload_n hx hb dX9_put_10 rfl (lv_at hl 2 rfl) ?_
    refine lv_iconst (v := 0) hx hb dX9_put_11 (by decide) ?_
    refine lv_bipush (v := 6) hx hb dX9_put_12 (by decide) ?_
    refine pci (va_runSN (As := [.int 1, .int 0, .int 6]) (rest := []) ⟨hx, hb, hml, hown, hts⟩ (c_within l D K 1 0 6 1 0 6 s.heap.size rfl rfl rfl) ⟨va_cnB 3 hts gX9_put_X11_within_n52 rfl rfl rfl (nst_at hN 18 rfl) (hts (.initialized RX11) (List.mem_cons_of_mem _ (List.mem_append_left _ (List.mem_of_getElem? (i := 2) rfl)))) (by decide +kernel) ⟨Nat.le_of_ble_eq_true rfl, Nat.le_of_ble_eq_true rfl⟩, (hts (.static yX11_within) (List.mem_cons_of_mem _ (List.mem_append_left _ (List.mem_of_getElem? (i := 1) rfl)))), trivial⟩ (mkS hK hN (hP.sub [] rfl) (hD.sub [] (by decide) rfl)) rfl rfl hl.1 rfl (lv_room (Nat.le_of_ble_eq_true rfl)) dX9_put_14 ⟨Nat.le_of_ble_eq_true rfl, Nat.le_of_ble_eq_true rfl⟩) (fun r_6 hw => ?_)
    rcases hw with ⟨rfl, h_7, h_8⟩ | ⟨rfl, h_9⟩
    · refine lv_if_eq (tgt := 32) hx hb dX9_put_17 (by decide) (fun c_10 => absurd c_10 (by decide)) (fun c_10 => ?_)
      refine lv_aload_n hx hb dX9_put_20 rfl (lv_at hl 0 rfl) ?_
      refine va_get (ci := 9) (v := .ref a1) (C := RX9) (T := TX9) (N := 10) hx hb hts hw9 hown hK hP 0 rfl rfl 0 (by decide) (hts (.fieldLink RX9 9 "SmokeTune$Town" "facts" "[I") (List.mem_cons_of_mem _ (List.mem_append_left _ (List.mem_of_getElem? (i := 0) rfl)))) (fun _ h9 => h9) rfl dX9_put_21 ?_
      refine lv_iload_n hx hb dX9_put_24 rfl (lv_at hl 2 rfl) ?_
      refine lv_bipush (v := 8) hx hb dX9_put_25 (by decide) ?_
      refine lv_imul hx hb dX9_put_27 ?_
      refine lv_topi (fun x_11 ex_11 => ?_)
      obtain rfl : x_11 = 8 := ex_11.trans (by first | rfl | decide)
      refine lv_iload_n hx hb dX9_put_28 rfl (lv_at hl 1 rfl) ?_
      refine lv_iadd hx hb dX9_put_29 ?_
      refine lv_topi (fun x_12 ex_12 => ?_)
      obtain rfl : x_12 = 8 := ex_12.trans (by first | rfl | decide)
      refine lv_iload_n hx hb dX9_put_30 rfl (lv_at hl 3 rfl) ?_
      refine va_iast hx hb hK hP hD hS 1 0 rfl rfl (i_in (x := 8) rfl (by omega)) dX9_put_31 (fun H locs hP hD hS => ?_)
      generalize hf_13 : (upd f (8 : Int32).toNatClampNeg x) = f_13 at hP hD
      have hP : va_P D vwCl [(a0, .inr (9, [.ref a1, k1, k2, k3, k4, k5, k6, k7, k8, k9])), (a1, .inl (K 0, 56, .inl f_13))] H := hP
      have hD : va_D A [(a0, .inr (9, [.ref a1, k1, k2, k3, k4, k5, k6, k7, k8, k9])), (a1, .inl (K 0, 56, .inl f_13))] := hD
      have hP9 := hP.sub (ws' := [(a0, .inr (9, [.ref a1, k1, k2, k3, k4, k5, k6, k7, k8, k9])), (a1, .inl (K 0, 56, .inl f_13))]) [0, 1] rfl
      have hD9 := hD.sub (ws' := [(a0, .inr (9, [.ref a1, k1, k2, k3, k4, k5, k6, k7, k8, k9])), (a1, .inl (K 0, 56, .inl f_13))]) [0, 1] (by decide) rfl
      exact W.vret hx hb hr (fun t ht hW => ⟨⟨(fun _ => 0, fun i => match i with | _ => f_13, fun _ => fun _ => 0, fun _ => 0), rfl, trivial, (⟨by rw [ht]; exact hP9, hD9⟩ : Wd D A _ t)⟩, hS.F ht⟩) hS.2.2 dX9_put_32
    · exfalso; omega
  · exfalso; omega
set_option maxHeartbeats 4000000 in
set_option maxRecDepth 100000 in
theorem c_put_2 (l : Launch) (D : va_G) (K : Nat → ClassId) (a0 : Nat) (x : Int32) (a1 : Nat) (k1 : Value) (k2 : Value) (k3 : Value) (k4 : Value) (k5 : Value) (k6 : Value) (k7 : Value) (k8 : Value) (k9 : Value) (f : Nat → Int32) (sz : Nat) : Met l yX9_put wsX9_put ({ frames := 1, cells := 0, slots := 0, locals := 22 }) (va_Pc [.ref a0, .int 0, .int 2, .int x] (Pre D K [(a0, .inr (9, [.ref a1, k1, k2, k3, k4, k5, k6, k7, k8, k9])), (a1, .inl (K 0, 56, .inl f))] sz)) (va_Qv (S := (Nat → Nat) × (Nat → Nat → Int32) × (Nat → Nat → Int64) × (Nat → Int32)) (fun _ => True) (fun u t => Wd D (va_A [(a0, .inr (9, [.ref a1, k1, k2, k3, k4, k5, k6, k7, k8, k9])), (a1, .inl (K 0, 56, .inl f))] sz) ((fun u => [(a0, .inr (9, [.ref a1, k1, k2, k3, k4, k5, k6, k7, k8, k9])), (a1, .inl (K 0, 56, .inl ((u.2.1 0))))]) u) t) (va_A [(a0, .inr (9, [.ref a1, k1, k2, k3, k4, k5, k6, k7, k8, k9])), (a1, .inl (K 0, 56, .inl f))] sz)) 0 0 (va_A [(a0, .inr (9, [.ref a1, k1, k2, k3, k4, k5, k6, k7, k8, k9])), (a1, .inl (K 0, 56, .inl f))] sz) := by
  refine Met.ofW (cc := cX9_put) (maxL := 4) (ret := none) (by decide) rfl ?_
  intro p e s m args below meth c s₁ B hml hv
  obtain ⟨rfl, hsz, hP, hK, hD0, hN⟩ := hv
  have hx := B.exec
  have hb := B.bytes
  have hr := B.returns
  have hts := atoms_spec (ws := wsX9_put) B.pre
  have hown : s.vm.findClass RX9 = some m.cls := findClass_of_methodNamed B.named
  have hlocks := B.notSynchronized
  subst hsz
  have hD := hD0.self (sz := s.heap.size)
  generalize hAe : va_A [(a0, .inr (9, [.ref a1, k1, k2, k3, k4, k5, k6, k7, k8, k9])), (a1, .inl (K 0, 56, .inl f))] s.heap.size = A at hD ⊢
  have hA : ∀ q : Nat, s.heap.size ≤ q → A q := fun q h => by rw [← hAe]; exact Or.inr h
  have hS : va_S A s.heap s.heap [] := va_S.rf
  have hP : va_P D vwCl [(a0, .inr (9, [.ref a1, k1, k2, k3, k4, k5, k6, k7, k8, k9])), (a1, .inl (K 0, 56, .inl f))] s.heap := hP
  have hl := lv_entry [.ref a0, .int 0, .int 2, .int x] (n := 4) (Nat.le_of_ble_eq_true rfl)
  rw [lg_entry_eq]
  generalize (lg_sl [.ref a0, .int 0, .int 2, .int x] ++ List.replicate (4 - (lg_sl [.ref a0, .int 0, .int 2, .int x]).length) Slot.unset).toArray = ls at hl ⊢
  have hl : lv_has ls 4 [(0, .ref a0), (1, .int 0), (2, .int 2), (3, .int x)] := hl
  have hw9 : ∀ w ∈ wsX90, w ∈ wsX9_put := fun w h => (List.mem_cons_of_mem _ (List.mem_append_right _ h))
  refine lv_iload_n hx hb dX9_put_0 rfl (lv_at hl 1 rfl) ?_
  refine lv_iconst (v := 0) hx hb dX9_put_1 (by decide) ?_
  refine lv_bipush (v := 7) hx hb dX9_put_2 (by decide) ?_
  refine pci (va_runSN (As := [.int 0, .int 0, .int 7]) (rest := []) ⟨hx, hb, hml, hown, hts⟩ (c_within l D K 0 0 7 0 0 7 s.heap.size rfl rfl rfl) ⟨va_cnB 3 hts gX9_put_X11_within_n52 rfl rfl rfl (nst_at hN 18 rfl) (hts (.initialized RX11) (List.mem_cons_of_mem _ (List.mem_append_left _ (List.mem_of_getElem? (i := 2) rfl)))) (by decide +kernel) ⟨Nat.le_of_ble_eq_true rfl, Nat.le_of_ble_eq_true rfl⟩, (hts (.static yX11_within) (List.mem_cons_of_mem _ (List.mem_append_left _ (List.mem_of_getElem? (i := 1) rfl)))), trivial⟩ (mkS hK hN (hP.sub [] rfl) (hD.sub [] (by decide) rfl)) rfl rfl hl.1 rfl (lv_room (Nat.le_of_ble_eq_true rfl)) dX9_put_4 ⟨Nat.le_of_ble_eq_true rfl, Nat.le_of_ble_eq_true rfl⟩) (fun r_1 hw => ?_)
  rcases hw with ⟨rfl, h_2, h_3⟩ | ⟨rfl, h_4⟩
  · refine lv_if_eq (tgt := 32) hx hb dX9_put_7 (by decide) (fun c_5 => absurd c_5 (by decide)) (fun c_5 => ?_)
    refine lv_iload_n hx hb dX9_put_10 rfl (lv_at hl 2 rfl) ?_
    refine lv_iconst (v := 0) hx hb dX9_put_11 (by decide) ?_
    refine lv_bipush (v := 6) hx hb dX9_put_12 (by decide) ?_
    refine pci (va_runSN (As := [.int 2, .int 0, .int 6]) (rest := []) ⟨hx, hb, hml, hown, hts⟩ (c_within l D K 2 0 6 2 0 6 s.heap.size rfl rfl rfl) ⟨va_cnB 3 hts gX9_put_X11_within_n52 rfl rfl rfl (nst_at hN 18 rfl) (hts (.initialized RX11) (List.mem_cons_of_mem _ (List.mem_append_left _ (List.mem_of_getElem? (i := 2) rfl)))) (by decide +kernel) ⟨Nat.le_of_ble_eq_true rfl, Nat.le_of_ble_eq_true rfl⟩, (hts (.static yX11_within) (List.mem_cons_of_mem _ (List.mem_append_left _ (List.mem_of_getElem? (i := 1) rfl)))), trivial⟩ (mkS hK hN (hP.sub [] rfl) (hD.sub [] (by decide) rfl)) rfl rfl hl.1 rfl (lv_room (Nat.le_of_ble_eq_true rfl)) dX9_put_14 ⟨Nat.le_of_ble_eq_true rfl, Nat.le_of_ble_eq_true rfl⟩) (fun r_6 hw => ?_)
    rcases hw with ⟨rfl, h_7, h_8⟩ | ⟨rfl, h_9⟩
    · refine lv_if_eq (tgt := 32) hx hb dX9_put_17 (by decide) (fun c_10 => absurd c_10 (by decide)) (fun c_10 => ?_)
      refine lv_aload_n hx hb dX9_put_20 rfl (lv_at hl 0 rfl) ?_
      refine va_get (ci := 9) (v := .ref a1) (C := RX9) (T := TX9) (N := 10) hx hb hts hw9 hown hK hP 0 rfl rfl 0 (by decide) (hts (.fieldLink RX9 9 "SmokeTune$Town" "facts" "[I") (List.mem_cons_of_mem _ (List.mem_append_left _ (List.mem_of_getElem? (i := 0) rfl)))) (fun _ h9 => h9) rfl dX9_put_21 ?_
      refine lv_iload_n hx hb dX9_put_24 rfl (lv_at hl 2 rfl) ?_
      refine lv_bipush (v := 8) hx hb dX9_put_25 (by decide) ?_
      refine lv_imul hx hb dX9_put_27 ?_
      refine lv_topi (fun x_11 ex_11 => ?_)
      obtain rfl : x_11 = 16 := ex_11.trans (by first | rfl | decide)
      refine lv_iload_n hx hb dX9_put_28 rfl (lv_at hl 1 rfl) ?_
      refine lv_iadd hx hb dX9_put_29 ?_
      refine lv_topi (fun x_12 ex_12 => ?_)
      obtain rfl : x_12 = 16 := ex_12.trans (by first | rfl | decide)
      refine lv_iload_n hx hb dX9_put_30 rfl (lv_at hl 3 rfl) ?_
      refine va_iast hx hb hK hP hD hS 1 0 rfl rfl (i_in (x := 16) rfl (by omega)) dX9_put_31 (fun H locs hP hD hS => ?_)
      generalize hf_13 : (upd f (16 : Int32).toNatClampNeg x) = f_13 at hP hD
      have hP : va_P D vwCl [(a0, .inr (9, [.ref a1, k1, k2, k3, k4, k5, k6, k7, k8, k9])), (a1, .inl (K 0, 56, .inl f_13))] H := hP
      have hD : va_D A [(a0, .inr (9, [.ref a1, k1, k2, k3, k4, k5, k6, k7, k8, k9])), (a1, .inl (K 0, 56, .inl f_13))] := hD
      have hP9 := hP.sub (ws' := [(a0, .inr (9, [.ref a1, k1, k2, k3, k4, k5, k6, k7, k8, k9])), (a1, .inl (K 0, 56, .inl f_13))]) [0, 1] rfl
      have hD9 := hD.sub (ws' := [(a0, .inr (9, [.ref a1, k1, k2, k3, k4, k5, k6, k7, k8, k9])), (a1, .inl (K 0, 56, .inl f_13))]) [0, 1] (by decide) rfl
      exact W.vret hx hb hr (fun t ht hW => ⟨⟨(fun _ => 0, fun i => match i with | _ => f_13, fun _ => fun _ => 0, fun _ => 0), rfl, trivial, (⟨by rw [ht]; exact hP9, hD9⟩ : Wd D A _ t)⟩, hS.F ht⟩) hS.2.2 dX9_put_32
    · exfalso; omega
  · exfalso; omega
set_option maxHeartbeats 4000000 in
set_option maxRecDepth 100000 in
theorem c_put_3 (l : Launch) (D : va_G) (K : Nat → ClassId) (a0 : Nat) (x : Int32) (a1 : Nat) (k1 : Value) (k2 : Value) (k3 : Value) (k4 : Value) (k5 : Value) (k6 : Value) (k7 : Value) (k8 : Value) (k9 : Value) (f : Nat → Int32) (sz : Nat) : Met l yX9_put wsX9_put ({ frames := 1, cells := 0, slots := 0, locals := 22 }) (va_Pc [.ref a0, .int 0, .int 3, .int x] (Pre D K [(a0, .inr (9, [.ref a1, k1, k2, k3, k4, k5, k6, k7, k8, k9])), (a1, .inl (K 0, 56, .inl f))] sz)) (va_Qv (S := (Nat → Nat) × (Nat → Nat → Int32) × (Nat → Nat → Int64) × (Nat → Int32)) (fun _ => True) (fun u t => Wd D (va_A [(a0, .inr (9, [.ref a1, k1, k2, k3, k4, k5, k6, k7, k8, k9])), (a1, .inl (K 0, 56, .inl f))] sz) ((fun u => [(a0, .inr (9, [.ref a1, k1, k2, k3, k4, k5, k6, k7, k8, k9])), (a1, .inl (K 0, 56, .inl ((u.2.1 0))))]) u) t) (va_A [(a0, .inr (9, [.ref a1, k1, k2, k3, k4, k5, k6, k7, k8, k9])), (a1, .inl (K 0, 56, .inl f))] sz)) 0 0 (va_A [(a0, .inr (9, [.ref a1, k1, k2, k3, k4, k5, k6, k7, k8, k9])), (a1, .inl (K 0, 56, .inl f))] sz) := by
  refine Met.ofW (cc := cX9_put) (maxL := 4) (ret := none) (by decide) rfl ?_
  intro p e s m args below meth c s₁ B hml hv
  obtain ⟨rfl, hsz, hP, hK, hD0, hN⟩ := hv
  have hx := B.exec
  have hb := B.bytes
  have hr := B.returns
  have hts := atoms_spec (ws := wsX9_put) B.pre
  have hown : s.vm.findClass RX9 = some m.cls := findClass_of_methodNamed B.named
  have hlocks := B.notSynchronized
  subst hsz
  have hD := hD0.self (sz := s.heap.size)
  generalize hAe : va_A [(a0, .inr (9, [.ref a1, k1, k2, k3, k4, k5, k6, k7, k8, k9])), (a1, .inl (K 0, 56, .inl f))] s.heap.size = A at hD ⊢
  have hA : ∀ q : Nat, s.heap.size ≤ q → A q := fun q h => by rw [← hAe]; exact Or.inr h
  have hS : va_S A s.heap s.heap [] := va_S.rf
  have hP : va_P D vwCl [(a0, .inr (9, [.ref a1, k1, k2, k3, k4, k5, k6, k7, k8, k9])), (a1, .inl (K 0, 56, .inl f))] s.heap := hP
  have hl := lv_entry [.ref a0, .int 0, .int 3, .int x] (n := 4) (Nat.le_of_ble_eq_true rfl)
  rw [lg_entry_eq]
  generalize (lg_sl [.ref a0, .int 0, .int 3, .int x] ++ List.replicate (4 - (lg_sl [.ref a0, .int 0, .int 3, .int x]).length) Slot.unset).toArray = ls at hl ⊢
  have hl : lv_has ls 4 [(0, .ref a0), (1, .int 0), (2, .int 3), (3, .int x)] := hl
  have hw9 : ∀ w ∈ wsX90, w ∈ wsX9_put := fun w h => (List.mem_cons_of_mem _ (List.mem_append_right _ h))
  refine lv_iload_n hx hb dX9_put_0 rfl (lv_at hl 1 rfl) ?_
  refine lv_iconst (v := 0) hx hb dX9_put_1 (by decide) ?_
  refine lv_bipush (v := 7) hx hb dX9_put_2 (by decide) ?_
  refine pci (va_runSN (As := [.int 0, .int 0, .int 7]) (rest := []) ⟨hx, hb, hml, hown, hts⟩ (c_within l D K 0 0 7 0 0 7 s.heap.size rfl rfl rfl) ⟨va_cnB 3 hts gX9_put_X11_within_n52 rfl rfl rfl (nst_at hN 18 rfl) (hts (.initialized RX11) (List.mem_cons_of_mem _ (List.mem_append_left _ (List.mem_of_getElem? (i := 2) rfl)))) (by decide +kernel) ⟨Nat.le_of_ble_eq_true rfl, Nat.le_of_ble_eq_true rfl⟩, (hts (.static yX11_within) (List.mem_cons_of_mem _ (List.mem_append_left _ (List.mem_of_getElem? (i := 1) rfl)))), trivial⟩ (mkS hK hN (hP.sub [] rfl) (hD.sub [] (by decide) rfl)) rfl rfl hl.1 rfl (lv_room (Nat.le_of_ble_eq_true rfl)) dX9_put_4 ⟨Nat.le_of_ble_eq_true rfl, Nat.le_of_ble_eq_true rfl⟩) (fun r_1 hw => ?_)
  rcases hw with ⟨rfl, h_2, h_3⟩ | ⟨rfl, h_4⟩
  · refine lv_if_eq (tgt := 32) hx hb dX9_put_7 (by decide) (fun c_5 => absurd c_5 (by decide)) (fun c_5 => ?_)
    refine lv_iload_n hx hb dX9_put_10 rfl (lv_at hl 2 rfl) ?_
    refine lv_iconst (v := 0) hx hb dX9_put_11 (by decide) ?_
    refine lv_bipush (v := 6) hx hb dX9_put_12 (by decide) ?_
    refine pci (va_runSN (As := [.int 3, .int 0, .int 6]) (rest := []) ⟨hx, hb, hml, hown, hts⟩ (c_within l D K 3 0 6 3 0 6 s.heap.size rfl rfl rfl) ⟨va_cnB 3 hts gX9_put_X11_within_n52 rfl rfl rfl (nst_at hN 18 rfl) (hts (.initialized RX11) (List.mem_cons_of_mem _ (List.mem_append_left _ (List.mem_of_getElem? (i := 2) rfl)))) (by decide +kernel) ⟨Nat.le_of_ble_eq_true rfl, Nat.le_of_ble_eq_true rfl⟩, (hts (.static yX11_within) (List.mem_cons_of_mem _ (List.mem_append_left _ (List.mem_of_getElem? (i := 1) rfl)))), trivial⟩ (mkS hK hN (hP.sub [] rfl) (hD.sub [] (by decide) rfl)) rfl rfl hl.1 rfl (lv_room (Nat.le_of_ble_eq_true rfl)) dX9_put_14 ⟨Nat.le_of_ble_eq_true rfl, Nat.le_of_ble_eq_true rfl⟩) (fun r_6 hw => ?_)
    rcases hw with ⟨rfl, h_7, h_8⟩ | ⟨rfl, h_9⟩
    · refine lv_if_eq (tgt := 32) hx hb dX9_put_17 (by decide) (fun c_10 => absurd c_10 (by decide)) (fun c_10 => ?_)
      refine lv_aload_n hx hb dX9_put_20 rfl (lv_at hl 0 rfl) ?_
      refine va_get (ci := 9) (v := .ref a1) (C := RX9) (T := TX9) (N := 10) hx hb hts hw9 hown hK hP 0 rfl rfl 0 (by decide) (hts (.fieldLink RX9 9 "SmokeTune$Town" "facts" "[I") (List.mem_cons_of_mem _ (List.mem_append_left _ (List.mem_of_getElem? (i := 0) rfl)))) (fun _ h9 => h9) rfl dX9_put_21 ?_
      refine lv_iload_n hx hb dX9_put_24 rfl (lv_at hl 2 rfl) ?_
      refine lv_bipush (v := 8) hx hb dX9_put_25 (by decide) ?_
      refine lv_imul hx hb dX9_put_27 ?_
      refine lv_topi (fun x_11 ex_11 => ?_)
      obtain rfl : x_11 = 24 := ex_11.trans (by first | rfl | decide)
      refine lv_iload_n hx hb dX9_put_28 rfl (lv_at hl 1 rfl) ?_
      refine lv_iadd hx hb dX9_put_29 ?_
      refine lv_topi (fun x_12 ex_12 => ?_)
      obtain rfl : x_12 = 24 := ex_12.trans (by first | rfl | decide)
      refine lv_iload_n hx hb dX9_put_30 rfl (lv_at hl 3 rfl) ?_
      refine va_iast hx hb hK hP hD hS 1 0 rfl rfl (i_in (x := 24) rfl (by omega)) dX9_put_31 (fun H locs hP hD hS => ?_)
      generalize hf_13 : (upd f (24 : Int32).toNatClampNeg x) = f_13 at hP hD
      have hP : va_P D vwCl [(a0, .inr (9, [.ref a1, k1, k2, k3, k4, k5, k6, k7, k8, k9])), (a1, .inl (K 0, 56, .inl f_13))] H := hP
      have hD : va_D A [(a0, .inr (9, [.ref a1, k1, k2, k3, k4, k5, k6, k7, k8, k9])), (a1, .inl (K 0, 56, .inl f_13))] := hD
      have hP9 := hP.sub (ws' := [(a0, .inr (9, [.ref a1, k1, k2, k3, k4, k5, k6, k7, k8, k9])), (a1, .inl (K 0, 56, .inl f_13))]) [0, 1] rfl
      have hD9 := hD.sub (ws' := [(a0, .inr (9, [.ref a1, k1, k2, k3, k4, k5, k6, k7, k8, k9])), (a1, .inl (K 0, 56, .inl f_13))]) [0, 1] (by decide) rfl
      exact W.vret hx hb hr (fun t ht hW => ⟨⟨(fun _ => 0, fun i => match i with | _ => f_13, fun _ => fun _ => 0, fun _ => 0), rfl, trivial, (⟨by rw [ht]; exact hP9, hD9⟩ : Wd D A _ t)⟩, hS.F ht⟩) hS.2.2 dX9_put_32
    · exfalso; omega
  · exfalso; omega
set_option maxHeartbeats 4000000 in
set_option maxRecDepth 100000 in
theorem c_put_4 (l : Launch) (D : va_G) (K : Nat → ClassId) (a0 : Nat) (x : Int32) (a1 : Nat) (k1 : Value) (k2 : Value) (k3 : Value) (k4 : Value) (k5 : Value) (k6 : Value) (k7 : Value) (k8 : Value) (k9 : Value) (f : Nat → Int32) (sz : Nat) : Met l yX9_put wsX9_put ({ frames := 1, cells := 0, slots := 0, locals := 22 }) (va_Pc [.ref a0, .int 0, .int 4, .int x] (Pre D K [(a0, .inr (9, [.ref a1, k1, k2, k3, k4, k5, k6, k7, k8, k9])), (a1, .inl (K 0, 56, .inl f))] sz)) (va_Qv (S := (Nat → Nat) × (Nat → Nat → Int32) × (Nat → Nat → Int64) × (Nat → Int32)) (fun _ => True) (fun u t => Wd D (va_A [(a0, .inr (9, [.ref a1, k1, k2, k3, k4, k5, k6, k7, k8, k9])), (a1, .inl (K 0, 56, .inl f))] sz) ((fun u => [(a0, .inr (9, [.ref a1, k1, k2, k3, k4, k5, k6, k7, k8, k9])), (a1, .inl (K 0, 56, .inl ((u.2.1 0))))]) u) t) (va_A [(a0, .inr (9, [.ref a1, k1, k2, k3, k4, k5, k6, k7, k8, k9])), (a1, .inl (K 0, 56, .inl f))] sz)) 0 0 (va_A [(a0, .inr (9, [.ref a1, k1, k2, k3, k4, k5, k6, k7, k8, k9])), (a1, .inl (K 0, 56, .inl f))] sz) := by
  refine Met.ofW (cc := cX9_put) (maxL := 4) (ret := none) (by decide) rfl ?_
  intro p e s m args below meth c s₁ B hml hv
  obtain ⟨rfl, hsz, hP, hK, hD0, hN⟩ := hv
  have hx := B.exec
  have hb := B.bytes
  have hr := B.returns
  have hts := atoms_spec (ws := wsX9_put) B.pre
  have hown : s.vm.findClass RX9 = some m.cls := findClass_of_methodNamed B.named
  have hlocks := B.notSynchronized
  subst hsz
  have hD := hD0.self (sz := s.heap.size)
  generalize hAe : va_A [(a0, .inr (9, [.ref a1, k1, k2, k3, k4, k5, k6, k7, k8, k9])), (a1, .inl (K 0, 56, .inl f))] s.heap.size = A at hD ⊢
  have hA : ∀ q : Nat, s.heap.size ≤ q → A q := fun q h => by rw [← hAe]; exact Or.inr h
  have hS : va_S A s.heap s.heap [] := va_S.rf
  have hP : va_P D vwCl [(a0, .inr (9, [.ref a1, k1, k2, k3, k4, k5, k6, k7, k8, k9])), (a1, .inl (K 0, 56, .inl f))] s.heap := hP
  have hl := lv_entry [.ref a0, .int 0, .int 4, .int x] (n := 4) (Nat.le_of_ble_eq_true rfl)
  rw [lg_entry_eq]
  generalize (lg_sl [.ref a0, .int 0, .int 4, .int x] ++ List.replicate (4 - (lg_sl [.ref a0, .int 0, .int 4, .int x]).length) Slot.unset).toArray = ls at hl ⊢
  have hl : lv_has ls 4 [(0, .ref a0), (1, .int 0), (2, .int 4), (3, .int x)] := hl
  have hw9 : ∀ w ∈ wsX90, w ∈ wsX9_put := fun w h => (List.mem_cons_of_mem _ (List.mem_append_right _ h))
  refine lv_iload_n hx hb dX9_put_0 rfl (lv_at hl 1 rfl) ?_
  refine lv_iconst (v := 0) hx hb dX9_put_1 (by decide) ?_
  refine lv_bipush (v := 7) hx hb dX9_put_2 (by decide) ?_
  refine pci (va_runSN (As := [.int 0, .int 0, .int 7]) (rest := []) ⟨hx, hb, hml, hown, hts⟩ (c_within l D K 0 0 7 0 0 7 s.heap.size rfl rfl rfl) ⟨va_cnB 3 hts gX9_put_X11_within_n52 rfl rfl rfl (nst_at hN 18 rfl) (hts (.initialized RX11) (List.mem_cons_of_mem _ (List.mem_append_left _ (List.mem_of_getElem? (i := 2) rfl)))) (by decide +kernel) ⟨Nat.le_of_ble_eq_true rfl, Nat.le_of_ble_eq_true rfl⟩, (hts (.static yX11_within) (List.mem_cons_of_mem _ (List.mem_append_left _ (List.mem_of_getElem? (i := 1) rfl)))), trivial⟩ (mkS hK hN (hP.sub [] rfl) (hD.sub [] (by decide) rfl)) rfl rfl hl.1 rfl (lv_room (Nat.le_of_ble_eq_true rfl)) dX9_put_4 ⟨Nat.le_of_ble_eq_true rfl, Nat.le_of_ble_eq_true rfl⟩) (fun r_1 hw => ?_)
  rcases hw with ⟨rfl, h_2, h_3⟩ | ⟨rfl, h_4⟩
  · refine lv_if_eq (tgt := 32) hx hb dX9_put_7 (by decide) (fun c_5 => absurd c_5 (by decide)) (fun c_5 => ?_)
    refine lv_iload_n hx hb dX9_put_10 rfl (lv_at hl 2 rfl) ?_
    refine lv_iconst (v := 0) hx hb dX9_put_11 (by decide) ?_
    refine lv_bipush (v := 6) hx hb dX9_put_12 (by decide) ?_
    refine pci (va_runSN (As := [.int 4, .int 0, .int 6]) (rest := []) ⟨hx, hb, hml, hown, hts⟩ (c_within l D K 4 0 6 4 0 6 s.heap.size rfl rfl rfl) ⟨va_cnB 3 hts gX9_put_X11_within_n52 rfl rfl rfl (nst_at hN 18 rfl) (hts (.initialized RX11) (List.mem_cons_of_mem _ (List.mem_append_left _ (List.mem_of_getElem? (i := 2) rfl)))) (by decide +kernel) ⟨Nat.le_of_ble_eq_true rfl, Nat.le_of_ble_eq_true rfl⟩, (hts (.static yX11_within) (List.mem_cons_of_mem _ (List.mem_append_left _ (List.mem_of_getElem? (i := 1) rfl)))), trivial⟩ (mkS hK hN (hP.sub [] rfl) (hD.sub [] (by decide) rfl)) rfl rfl hl.1 rfl (lv_room (Nat.le_of_ble_eq_true rfl)) dX9_put_14 ⟨Nat.le_of_ble_eq_true rfl, Nat.le_of_ble_eq_true rfl⟩) (fun r_6 hw => ?_)
    rcases hw with ⟨rfl, h_7, h_8⟩ | ⟨rfl, h_9⟩
    · refine lv_if_eq (tgt := 32) hx hb dX9_put_17 (by decide) (fun c_10 => absurd c_10 (by decide)) (fun c_10 => ?_)
      refine lv_aload_n hx hb dX9_put_20 rfl (lv_at hl 0 rfl) ?_
      refine va_get (ci := 9) (v := .ref a1) (C := RX9) (T := TX9) (N := 10) hx hb hts hw9 hown hK hP 0 rfl rfl 0 (by decide) (hts (.fieldLink RX9 9 "SmokeTune$Town" "facts" "[I") (List.mem_cons_of_mem _ (List.mem_append_left _ (List.mem_of_getElem? (i := 0) rfl)))) (fun _ h9 => h9) rfl dX9_put_21 ?_
      refine lv_iload_n hx hb dX9_put_24 rfl (lv_at hl 2 rfl) ?_
      refine lv_bipush (v := 8) hx hb dX9_put_25 (by decide) ?_
      refine lv_imul hx hb dX9_put_27 ?_
      refine lv_topi (fun x_11 ex_11 => ?_)
      obtain rfl : x_11 = 32 := ex_11.trans (by first | rfl | decide)
      refine lv_iload_n hx hb dX9_put_28 rfl (lv_at hl 1 rfl) ?_
      refine lv_iadd hx hb dX9_put_29 ?_
      refine lv_topi (fun x_12 ex_12 => ?_)
      obtain rfl : x_12 = 32 := ex_12.trans (by first | rfl | decide)
      refine lv_iload_n hx hb dX9_put_30 rfl (lv_at hl 3 rfl) ?_
      refine va_iast hx hb hK hP hD hS 1 0 rfl rfl (i_in (x := 32) rfl (by omega)) dX9_put_31 (fun H locs hP hD hS => ?_)
      generalize hf_13 : (upd f (32 : Int32).toNatClampNeg x) = f_13 at hP hD
      have hP : va_P D vwCl [(a0, .inr (9, [.ref a1, k1, k2, k3, k4, k5, k6, k7, k8, k9])), (a1, .inl (K 0, 56, .inl f_13))] H := hP
      have hD : va_D A [(a0, .inr (9, [.ref a1, k1, k2, k3, k4, k5, k6, k7, k8, k9])), (a1, .inl (K 0, 56, .inl f_13))] := hD
      have hP9 := hP.sub (ws' := [(a0, .inr (9, [.ref a1, k1, k2, k3, k4, k5, k6, k7, k8, k9])), (a1, .inl (K 0, 56, .inl f_13))]) [0, 1] rfl
      have hD9 := hD.sub (ws' := [(a0, .inr (9, [.ref a1, k1, k2, k3, k4, k5, k6, k7, k8, k9])), (a1, .inl (K 0, 56, .inl f_13))]) [0, 1] (by decide) rfl
      exact W.vret hx hb hr (fun t ht hW => ⟨⟨(fun _ => 0, fun i => match i with | _ => f_13, fun _ => fun _ => 0, fun _ => 0), rfl, trivial, (⟨by rw [ht]; exact hP9, hD9⟩ : Wd D A _ t)⟩, hS.F ht⟩) hS.2.2 dX9_put_32
    · exfalso; omega
  · exfalso; omega
set_option maxHeartbeats 4000000 in
set_option maxRecDepth 100000 in
theorem c_build (l : Launch) (D : va_G) (K : Nat → ClassId) (a0 : Nat) (x0 : Int32) (x1 : Int32) (x2 : Int32) (x3 : Int32) (x4 : Int32) (a1 : Nat) (k1 : Value) (k2 : Value) (k3 : Value) (k5 : Value) (k6 : Value) (k7 : Value) (k8 : Value) (k9 : Value) (f : Nat → Int32) (sz : Nat) : Met l yX9_build wsX9_build ({ frames := 2, cells := 0, slots := 0, locals := 45 }) (va_Pc [.ref a0, .int x0, .int x1, .int x2, .int x3, .int x4] (Pre D K [(a0, .inr (9, [.ref a1, k1, k2, k3, .int 0, k5, k6, k7, k8, k9])), (a1, .inl (K 0, 56, .inl f))] sz)) (va_Qi (S := Unit) (fun (r : Int32) (_ : Unit) => (r = 0)) (fun u t => Wd D (va_A [(a0, .inr (9, [.ref a1, k1, k2, k3, .int 0, k5, k6, k7, k8, k9])), (a1, .inl (K 0, 56, .inl f))] sz) ((fun _ => []) u) t) (va_A [(a0, .inr (9, [.ref a1, k1, k2, k3, .int 0, k5, k6, k7, k8, k9])), (a1, .inl (K 0, 56, .inl f))] sz)) 0 0 (va_A [(a0, .inr (9, [.ref a1, k1, k2, k3, .int 0, k5, k6, k7, k8, k9])), (a1, .inl (K 0, 56, .inl f))] sz) := by
  refine Met.ofW (cc := cX9_build) (maxL := 7) (ret := (some .int)) (by decide) rfl ?_
  intro p e s m args below meth c s₁ B hml hv
  obtain ⟨rfl, hsz, hP, hK, hD0, hN⟩ := hv
  have hx := B.exec
  have hb := B.bytes
  have hr := B.returns
  have hts := atoms_spec (ws := wsX9_build) B.pre
  have hown : s.vm.findClass RX9 = some m.cls := findClass_of_methodNamed B.named
  have hlocks := B.notSynchronized
  subst hsz
  have hD := hD0.self (sz := s.heap.size)
  generalize hAe : va_A [(a0, .inr (9, [.ref a1, k1, k2, k3, .int 0, k5, k6, k7, k8, k9])), (a1, .inl (K 0, 56, .inl f))] s.heap.size = A at hD ⊢
  have hA : ∀ q : Nat, s.heap.size ≤ q → A q := fun q h => by rw [← hAe]; exact Or.inr h
  have hS : va_S A s.heap s.heap [] := va_S.rf
  have hP : va_P D vwCl [(a0, .inr (9, [.ref a1, k1, k2, k3, .int 0, k5, k6, k7, k8, k9])), (a1, .inl (K 0, 56, .inl f))] s.heap := hP
  have hl := lv_entry [.ref a0, .int x0, .int x1, .int x2, .int x3, .int x4] (n := 7) (Nat.le_of_ble_eq_true rfl)
  rw [lg_entry_eq]
  generalize (lg_sl [.ref a0, .int x0, .int x1, .int x2, .int x3, .int x4] ++ List.replicate (7 - (lg_sl [.ref a0, .int x0, .int x1, .int x2, .int x3, .int x4]).length) Slot.unset).toArray = ls at hl ⊢
  have hl : lv_has ls 7 [(0, .ref a0), (1, .int x0), (2, .int x1), (3, .int x2), (4, .int x3), (5, .int x4)] := hl
  have hw9 : ∀ w ∈ wsX90, w ∈ wsX9_build := fun w h => (List.mem_cons_of_mem _ (List.mem_append_right _ h))
  refine lv_aload_n hx hb dX9_build_0 rfl (lv_at hl 0 rfl) ?_
  refine va_get (ci := 9) (v := .int 0) (C := RX9) (T := TX9) (N := 10) hx hb hts hw9 hown hK hP 0 rfl rfl 4 (by decide) (hts (.fieldLink RX9 27 "SmokeTune$Town" "houses" "I") (List.mem_cons_of_mem _ (List.mem_append_left _ (List.mem_of_getElem? (i := 0) rfl)))) (fun _ h9 => h9) rfl dX9_build_1 ?_
  refine lv_istore (lv' := [(6, .int 0), (0, .ref a0), (1, .int x0), (2, .int x1), (3, .int x2), (4, .int x3), (5, .int x4)]) hx hb dX9_build_4 hl (by decide) rfl (fun ls hl => ?_)
  refine lv_aload_n hx hb dX9_build_6 rfl (lv_at hl 1 rfl) ?_
  refine lv_iload hx hb dX9_build_7 (lv_at hl 0 rfl) ?_
  refine lv_iconst (v := 0) hx hb dX9_build_9 (by decide) ?_
  refine lv_iload_n hx hb dX9_build_10 rfl (lv_at hl 2 rfl) ?_
  refine kcv (wr := []) (va_runV (As := [.int 0, .int 0, .int x0]) (rest := []) ⟨hx, hb, hml, hown, hts⟩ (c_put_0 l D K a0 x0 a1 k1 k2 k3 (.int 0) k5 k6 k7 k8 k9 f s.heap.size) (cwV 3 hts gX9_build_X9_put rfl rfl rfl (by decide +kernel) ⟨Nat.le_of_ble_eq_true rfl, Nat.le_of_ble_eq_true rfl⟩) (mkV hK hN (hP.sub [0, 1] rfl) (hD.sub [0, 1] (by decide) rfl) (ci := 9) (q0 := 0) rfl rfl) rfl rfl hl.1 rfl (lv_room (Nat.le_of_ble_eq_true rfl)) dX9_build_11 ⟨Nat.le_of_ble_eq_true rfl, Nat.le_of_ble_eq_true rfl⟩) hP hD hS hA [0, 1] [] rfl rfl (by decide) (by decide) (fun u_2 H locs hw hP hD hS => ?_)
  have hP : va_P D vwCl [(a0, .inr (9, [.ref a1, k1, k2, k3, .int 0, k5, k6, k7, k8, k9])), (a1, .inl (K 0, 56, .inl ((u_2.2.1 0))))] H := hP
  have hD : va_D A [(a0, .inr (9, [.ref a1, k1, k2, k3, .int 0, k5, k6, k7, k8, k9])), (a1, .inl (K 0, 56, .inl ((u_2.2.1 0))))] := hD
  refine lv_aload_n hx hb dX9_build_14 rfl (lv_at hl 1 rfl) ?_
  refine lv_iload hx hb dX9_build_15 (lv_at hl 0 rfl) ?_
  refine lv_iconst (v := 1) hx hb dX9_build_17 (by decide) ?_
  refine lv_iload_n hx hb dX9_build_18 rfl (lv_at hl 3 rfl) ?_
  refine kcv (wr := []) (va_runV (As := [.int 0, .int 1, .int x1]) (rest := []) ⟨hx, hb, hml, hown, hts⟩ (c_put_1 l D K a0 x1 a1 k1 k2 k3 (.int 0) k5 k6 k7 k8 k9 (u_2.2.1 0) H.size) (cwV 3 hts gX9_build_X9_put rfl rfl rfl (by decide +kernel) ⟨Nat.le_of_ble_eq_true rfl, Nat.le_of_ble_eq_true rfl⟩) (mkV hK hN (hP.sub [0, 1] rfl) (hD.sub [0, 1] (by decide) rfl) (ci := 9) (q0 := 0) rfl rfl) rfl rfl hl.1 rfl (lv_room (Nat.le_of_ble_eq_true rfl)) dX9_build_19 ⟨Nat.le_of_ble_eq_true rfl, Nat.le_of_ble_eq_true rfl⟩) hP hD hS hA [0, 1] [] rfl rfl (by decide) (by decide) (fun u_4 H locs hw hP hD hS => ?_)
  have hP : va_P D vwCl [(a0, .inr (9, [.ref a1, k1, k2, k3, .int 0, k5, k6, k7, k8, k9])), (a1, .inl (K 0, 56, .inl ((u_4.2.1 0))))] H := hP
  have hD : va_D A [(a0, .inr (9, [.ref a1, k1, k2, k3, .int 0, k5, k6, k7, k8, k9])), (a1, .inl (K 0, 56, .inl ((u_4.2.1 0))))] := hD
  refine lv_aload_n hx hb dX9_build_22 rfl (lv_at hl 1 rfl) ?_
  refine lv_iload hx hb dX9_build_23 (lv_at hl 0 rfl) ?_
  refine lv_iconst (v := 2) hx hb dX9_build_25 (by decide) ?_
  refine lv_iload_n hx hb dX9_build_26 rfl (lv_at hl 4 rfl) ?_
  refine kcv (wr := []) (va_runV (As := [.int 0, .int 2, .int x2]) (rest := []) ⟨hx, hb, hml, hown, hts⟩ (c_put_2 l D K a0 x2 a1 k1 k2 k3 (.int 0) k5 k6 k7 k8 k9 (u_4.2.1 0) H.size) (cwV 3 hts gX9_build_X9_put rfl rfl rfl (by decide +kernel) ⟨Nat.le_of_ble_eq_true rfl, Nat.le_of_ble_eq_true rfl⟩) (mkV hK hN (hP.sub [0, 1] rfl) (hD.sub [0, 1] (by decide) rfl) (ci := 9) (q0 := 0) rfl rfl) rfl rfl hl.1 rfl (lv_room (Nat.le_of_ble_eq_true rfl)) dX9_build_27 ⟨Nat.le_of_ble_eq_true rfl, Nat.le_of_ble_eq_true rfl⟩) hP hD hS hA [0, 1] [] rfl rfl (by decide) (by decide) (fun u_6 H locs hw hP hD hS => ?_)
  have hP : va_P D vwCl [(a0, .inr (9, [.ref a1, k1, k2, k3, .int 0, k5, k6, k7, k8, k9])), (a1, .inl (K 0, 56, .inl ((u_6.2.1 0))))] H := hP
  have hD : va_D A [(a0, .inr (9, [.ref a1, k1, k2, k3, .int 0, k5, k6, k7, k8, k9])), (a1, .inl (K 0, 56, .inl ((u_6.2.1 0))))] := hD
  refine lv_aload_n hx hb dX9_build_30 rfl (lv_at hl 1 rfl) ?_
  refine lv_iload hx hb dX9_build_31 (lv_at hl 0 rfl) ?_
  refine lv_iconst (v := 3) hx hb dX9_build_33 (by decide) ?_
  refine lv_iload hx hb dX9_build_34 (lv_at hl 5 rfl) ?_
  refine kcv (wr := []) (va_runV (As := [.int 0, .int 3, .int x3]) (rest := []) ⟨hx, hb, hml, hown, hts⟩ (c_put_3 l D K a0 x3 a1 k1 k2 k3 (.int 0) k5 k6 k7 k8 k9 (u_6.2.1 0) H.size) (cwV 3 hts gX9_build_X9_put rfl rfl rfl (by decide +kernel) ⟨Nat.le_of_ble_eq_true rfl, Nat.le_of_ble_eq_true rfl⟩) (mkV hK hN (hP.sub [0, 1] rfl) (hD.sub [0, 1] (by decide) rfl) (ci := 9) (q0 := 0) rfl rfl) rfl rfl hl.1 rfl (lv_room (Nat.le_of_ble_eq_true rfl)) dX9_build_36 ⟨Nat.le_of_ble_eq_true rfl, Nat.le_of_ble_eq_true rfl⟩) hP hD hS hA [0, 1] [] rfl rfl (by decide) (by decide) (fun u_8 H locs hw hP hD hS => ?_)
  have hP : va_P D vwCl [(a0, .inr (9, [.ref a1, k1, k2, k3, .int 0, k5, k6, k7, k8, k9])), (a1, .inl (K 0, 56, .inl ((u_8.2.1 0))))] H := hP
  have hD : va_D A [(a0, .inr (9, [.ref a1, k1, k2, k3, .int 0, k5, k6, k7, k8, k9])), (a1, .inl (K 0, 56, .inl ((u_8.2.1 0))))] := hD
  refine lv_aload_n hx hb dX9_build_39 rfl (lv_at hl 1 rfl) ?_
  refine lv_iload hx hb dX9_build_40 (lv_at hl 0 rfl) ?_
  refine lv_iconst (v := 4) hx hb dX9_build_42 (by decide) ?_
  refine lv_iload hx hb dX9_build_43 (lv_at hl 6 rfl) ?_
  refine kcv (wr := []) (va_runV (As := [.int 0, .int 4, .int x4]) (rest := []) ⟨hx, hb, hml, hown, hts⟩ (c_put_4 l D K a0 x4 a1 k1 k2 k3 (.int 0) k5 k6 k7 k8 k9 (u_8.2.1 0) H.size) (cwV 3 hts gX9_build_X9_put rfl rfl rfl (by decide +kernel) ⟨Nat.le_of_ble_eq_true rfl, Nat.le_of_ble_eq_true rfl⟩) (mkV hK hN (hP.sub [0, 1] rfl) (hD.sub [0, 1] (by decide) rfl) (ci := 9) (q0 := 0) rfl rfl) rfl rfl hl.1 rfl (lv_room (Nat.le_of_ble_eq_true rfl)) dX9_build_45 ⟨Nat.le_of_ble_eq_true rfl, Nat.le_of_ble_eq_true rfl⟩) hP hD hS hA [0, 1] [] rfl rfl (by decide) (by decide) (fun u_10 H locs hw hP hD hS => ?_)
  have hP : va_P D vwCl [(a0, .inr (9, [.ref a1, k1, k2, k3, .int 0, k5, k6, k7, k8, k9])), (a1, .inl (K 0, 56, .inl ((u_10.2.1 0))))] H := hP
  have hD : va_D A [(a0, .inr (9, [.ref a1, k1, k2, k3, .int 0, k5, k6, k7, k8, k9])), (a1, .inl (K 0, 56, .inl ((u_10.2.1 0))))] := hD
  refine lv_aload_n hx hb dX9_build_48 rfl (lv_at hl 1 rfl) ?_
  refine lv_dup hx hb dX9_build_49 rfl ?_
  refine va_get (ci := 9) (v := .int 0) (C := RX9) (T := TX9) (N := 10) hx hb hts hw9 hown hK hP 0 rfl rfl 4 (by decide) (hts (.fieldLink RX9 27 "SmokeTune$Town" "houses" "I") (List.mem_cons_of_mem _ (List.mem_append_left _ (List.mem_of_getElem? (i := 0) rfl)))) (fun _ h9 => h9) rfl dX9_build_50 ?_
  refine lv_iconst (v := 1) hx hb dX9_build_53 (by decide) ?_
  refine lv_iadd hx hb dX9_build_54 ?_
  refine lv_topi (fun x_11 ex_11 => ?_)
  obtain rfl : x_11 = 1 := ex_11.trans (by first | rfl | decide)
  refine va_put (ci := 9) (v := .int 1) (ty := .int) (C := RX9) (T := TX9) (N := 10) hx hb hts hw9 tyX9 tyX9_ok nmX9 hown hK hP hD hS 0 rfl rfl 4 (by decide) (hts (.fieldLink RX9 27 "SmokeTune$Town" "houses" "I") (List.mem_cons_of_mem _ (List.mem_append_left _ (List.mem_of_getElem? (i := 0) rfl)))) (fun _ h9 => h9) rfl (by decide +kernel) (by first | rfl | decide) (by first | rfl | decide) (Nat.le_of_ble_eq_true rfl) dX9_build_55 (fun H locs hP hD hS => ?_)
  have hP : va_P D vwCl [(a0, .inr (9, [.ref a1, k1, k2, k3, .int 1, k5, k6, k7, k8, k9])), (a1, .inl (K 0, 56, .inl ((u_10.2.1 0))))] H := hP
  have hD : va_D A [(a0, .inr (9, [.ref a1, k1, k2, k3, .int 1, k5, k6, k7, k8, k9])), (a1, .inl (K 0, 56, .inl ((u_10.2.1 0))))] := hD
  refine lv_iload hx hb dX9_build_58 (lv_at hl 0 rfl) ?_
  exact W.iret (v := 0) hx hb hr (fun t ht hW => ⟨⟨0, (), rfl, (by first | exact rfl), Wd.nil⟩, hS.F ht⟩) hS.2.2 dX9_build_60
set_option maxHeartbeats 4000000 in
set_option maxRecDepth 100000 in
theorem t_house (l : Launch) (D : va_G) (K : Nat → ClassId) (a0 : Nat) (x0 : Int32) (x1 : Int32) (x2 : Int32) (x3 : Int32) (x4 : Int32) (a2 : Nat) (g1 : Value) (g2 : Value) (g3 : Value) (g4 : Value) (g5 : Value) (g6 : Value) (g7 : Value) (g8 : Value) (a3 : Nat) (g10 : Value) (g11 : Value) (a1 : Nat) (g13 : Value) (g14 : Value) (g15 : Value) (g16 : Value) (f : Nat → Int32) (a4 : Nat) (k1 : Value) (k2 : Value) (k3 : Value) (k5 : Value) (k6 : Value) (k7 : Value) (k8 : Value) (k9 : Value) (p0 : Value) (p1 : Value) (p2 : Value) (sz : Nat) : Met l yX11_house wsX11_house ({ frames := 3, cells := 0, slots := 0, locals := 71 }) (va_Pc [.ref a0, .int x0, .int x1, .int x2, .int x3, .int x4] (Pre D K [(a0, .inr (11, [.ref a2, g1, g2, g3, g4, g5, g6, g7, g8, .ref a3, g10, g11, .ref a1, g13, g14, g15, g16])), (a1, .inl (K 0, 5, .inl f)), (a2, .inr (9, [.ref a4, k1, k2, k3, .int 0, k5, k6, k7, k8, k9])), (a3, .inr (2, [p0, p1, p2])), (a4, .inl (K 0, 56, .inl (fun _ => 0)))] sz)) (va_Qi (S := Unit) (fun (r : Int32) (_ : Unit) => (r = 0 ∧ 0 ≤ x0.toInt ∧ x0.toInt ≤ 6 ∧ 0 ≤ x1.toInt ∧ x1.toInt ≤ 3 ∧ 0 ≤ x2.toInt ∧ x2.toInt ≤ 999 ∧ 0 ≤ x3.toInt ∧ x3.toInt ≤ 7 ∧ 0 ≤ x4.toInt ∧ x4.toInt ≤ 7) ∨ (r = (-1) ∧ (x0.toInt < 0 ∨ 6 < x0.toInt ∨ x1.toInt < 0 ∨ 3 < x1.toInt ∨ x2.toInt < 0 ∨ 999 < x2.toInt ∨ x3.toInt < 0 ∨ 7 < x3.toInt ∨ x4.toInt < 0 ∨ 7 < x4.toInt))) (fun u t => Wd D (va_A [(a0, .inr (11, [.ref a2, g1, g2, g3, g4, g5, g6, g7, g8, .ref a3, g10, g11, .ref a1, g13, g14, g15, g16])), (a1, .inl (K 0, 5, .inl f)), (a2, .inr (9, [.ref a4, k1, k2, k3, .int 0, k5, k6, k7, k8, k9])), (a3, .inr (2, [p0, p1, p2])), (a4, .inl (K 0, 56, .inl (fun _ => 0)))] sz) ((fun _ => []) u) t) (va_A [(a0, .inr (11, [.ref a2, g1, g2, g3, g4, g5, g6, g7, g8, .ref a3, g10, g11, .ref a1, g13, g14, g15, g16])), (a1, .inl (K 0, 5, .inl f)), (a2, .inr (9, [.ref a4, k1, k2, k3, .int 0, k5, k6, k7, k8, k9])), (a3, .inr (2, [p0, p1, p2])), (a4, .inl (K 0, 56, .inl (fun _ => 0)))] sz)) 0 0 (va_A [(a0, .inr (11, [.ref a2, g1, g2, g3, g4, g5, g6, g7, g8, .ref a3, g10, g11, .ref a1, g13, g14, g15, g16])), (a1, .inl (K 0, 5, .inl f)), (a2, .inr (9, [.ref a4, k1, k2, k3, .int 0, k5, k6, k7, k8, k9])), (a3, .inr (2, [p0, p1, p2])), (a4, .inl (K 0, 56, .inl (fun _ => 0)))] sz) := by
  refine Met.ofW (cc := cX11_house) (maxL := 8) (ret := (some .int)) (by decide) rfl ?_
  intro p e s m args below meth c s₁ B hml hv
  obtain ⟨rfl, hsz, hP, hK, hD0, hN⟩ := hv
  have hx := B.exec
  have hb := B.bytes
  have hr := B.returns
  have hts := atoms_spec (ws := wsX11_house) B.pre
  have hown : s.vm.findClass RX11 = some m.cls := findClass_of_methodNamed B.named
  have hlocks := B.notSynchronized
  subst hsz
  have hD := hD0.self (sz := s.heap.size)
  generalize hAe : va_A [(a0, .inr (11, [.ref a2, g1, g2, g3, g4, g5, g6, g7, g8, .ref a3, g10, g11, .ref a1, g13, g14, g15, g16])), (a1, .inl (K 0, 5, .inl f)), (a2, .inr (9, [.ref a4, k1, k2, k3, .int 0, k5, k6, k7, k8, k9])), (a3, .inr (2, [p0, p1, p2])), (a4, .inl (K 0, 56, .inl (fun _ => 0)))] s.heap.size = A at hD ⊢
  have hA : ∀ q : Nat, s.heap.size ≤ q → A q := fun q h => by rw [← hAe]; exact Or.inr h
  have hS : va_S A s.heap s.heap [] := va_S.rf
  have hP : va_P D vwCl [(a0, .inr (11, [.ref a2, g1, g2, g3, g4, g5, g6, g7, g8, .ref a3, g10, g11, .ref a1, g13, g14, g15, g16])), (a1, .inl (K 0, 5, .inl f)), (a2, .inr (9, [.ref a4, k1, k2, k3, .int 0, k5, k6, k7, k8, k9])), (a3, .inr (2, [p0, p1, p2])), (a4, .inl (K 0, 56, .inl (fun _ => 0)))] s.heap := hP
  have hl := lv_entry [.ref a0, .int x0, .int x1, .int x2, .int x3, .int x4] (n := 8) (Nat.le_of_ble_eq_true rfl)
  rw [lg_entry_eq]
  generalize (lg_sl [.ref a0, .int x0, .int x1, .int x2, .int x3, .int x4] ++ List.replicate (8 - (lg_sl [.ref a0, .int x0, .int x1, .int x2, .int x3, .int x4]).length) Slot.unset).toArray = ls at hl ⊢
  have hl : lv_has ls 8 [(0, .ref a0), (1, .int x0), (2, .int x1), (3, .int x2), (4, .int x3), (5, .int x4)] := hl
  have hw2 : ∀ w ∈ wsX20, w ∈ wsX11_house := fun w h => (List.mem_cons_of_mem _ (List.mem_append_right _ h))
  have hw9 : ∀ w ∈ wsX90, w ∈ wsX11_house := fun w h => (List.mem_cons_of_mem _ (List.mem_append_left _ (List.mem_append_right _ h)))
  have hw11 : ∀ w ∈ wsX110, w ∈ wsX11_house := fun w h => (List.mem_cons_of_mem _ (List.mem_append_left _ (List.mem_append_left _ (List.mem_append_right _ h))))
  refine lv_iload_n hx hb dX11_house_0 rfl (lv_at hl 1 rfl) ?_
  refine lv_iconst (v := 0) hx hb dX11_house_1 (by decide) ?_
  refine lv_bipush (v := 6) hx hb dX11_house_2 (by decide) ?_
  refine pci (va_runS (As := [.int x0, .int 0, .int 6]) (rest := []) ⟨hx, hb, hml, hown, hts⟩ (c_within l D K x0 0 6 x0.toInt 0 6 s.heap.size rfl rfl rfl) (va_cwS 3 hts gX11_house_X11_within rfl rfl rfl (by decide +kernel) ⟨Nat.le_of_ble_eq_true rfl, Nat.le_of_ble_eq_true rfl⟩) (mkS hK hN (hP.sub [] rfl) (hD.sub [] (by decide) rfl)) rfl rfl hl.1 rfl (lv_room (Nat.le_of_ble_eq_true rfl)) dX11_house_4 ⟨Nat.le_of_ble_eq_true rfl, Nat.le_of_ble_eq_true rfl⟩) (fun r_1 hw => ?_)
  rcases hw with ⟨rfl, h_2, h_3⟩ | ⟨rfl, h_4⟩
  · refine lv_if_eq (tgt := 23) hx hb dX11_house_7 (by decide) (fun c_5 => absurd c_5 (by decide)) (fun c_5 => ?_)
    refine lv_iload_n hx hb dX11_house_10 rfl (lv_at hl 2 rfl) ?_
    refine lv_iconst (v := 0) hx hb dX11_house_11 (by decide) ?_
    refine lv_iconst (v := 3) hx hb dX11_house_12 (by decide) ?_
    refine pci (va_runS (As := [.int x1, .int 0, .int 3]) (rest := []) ⟨hx, hb, hml, hown, hts⟩ (c_within l D K x1 0 3 x1.toInt 0 3 s.heap.size rfl rfl rfl) (va_cwS 3 hts gX11_house_X11_within rfl rfl rfl (by decide +kernel) ⟨Nat.le_of_ble_eq_true rfl, Nat.le_of_ble_eq_true rfl⟩) (mkS hK hN (hP.sub [] rfl) (hD.sub [] (by decide) rfl)) rfl rfl hl.1 rfl (lv_room (Nat.le_of_ble_eq_true rfl)) dX11_house_13 ⟨Nat.le_of_ble_eq_true rfl, Nat.le_of_ble_eq_true rfl⟩) (fun r_6 hw => ?_)
    rcases hw with ⟨rfl, h_7, h_8⟩ | ⟨rfl, h_9⟩
    · refine lv_if_eq (tgt := 23) hx hb dX11_house_16 (by decide) (fun c_10 => absurd c_10 (by decide)) (fun c_10 => ?_)
      refine lv_iconst (v := 1) hx hb dX11_house_19 (by decide) ?_
      refine lv_goto (tgt := 24) hx hb dX11_house_20 (by decide) ?_
      refine lv_istore (lv' := [(6, .int 1), (0, .ref a0), (1, .int x0), (2, .int x1), (3, .int x2), (4, .int x3), (5, .int x4)]) hx hb dX11_house_24 hl (by decide) rfl (fun ls hl => ?_)
      refine lv_iload hx hb dX11_house_26 (lv_at hl 5 rfl) ?_
      refine lv_iconst (v := 0) hx hb dX11_house_28 (by decide) ?_
      refine lv_bipush (v := 7) hx hb dX11_house_29 (by decide) ?_
      refine pci (va_runS (As := [.int x3, .int 0, .int 7]) (rest := []) ⟨hx, hb, hml, hown, hts⟩ (c_within l D K x3 0 7 x3.toInt 0 7 s.heap.size rfl rfl rfl) (va_cwS 3 hts gX11_house_X11_within rfl rfl rfl (by decide +kernel) ⟨Nat.le_of_ble_eq_true rfl, Nat.le_of_ble_eq_true rfl⟩) (mkS hK hN (hP.sub [] rfl) (hD.sub [] (by decide) rfl)) rfl rfl hl.1 rfl (lv_room (Nat.le_of_ble_eq_true rfl)) dX11_house_31 ⟨Nat.le_of_ble_eq_true rfl, Nat.le_of_ble_eq_true rfl⟩) (fun r_11 hw => ?_)
      rcases hw with ⟨rfl, h_12, h_13⟩ | ⟨rfl, h_14⟩
      · refine lv_if_eq (tgt := 52) hx hb dX11_house_34 (by decide) (fun c_15 => absurd c_15 (by decide)) (fun c_15 => ?_)
        refine lv_iload hx hb dX11_house_37 (lv_at hl 6 rfl) ?_
        refine lv_iconst (v := 0) hx hb dX11_house_39 (by decide) ?_
        refine lv_bipush (v := 7) hx hb dX11_house_40 (by decide) ?_
        refine pci (va_runS (As := [.int x4, .int 0, .int 7]) (rest := []) ⟨hx, hb, hml, hown, hts⟩ (c_within l D K x4 0 7 x4.toInt 0 7 s.heap.size rfl rfl rfl) (va_cwS 3 hts gX11_house_X11_within rfl rfl rfl (by decide +kernel) ⟨Nat.le_of_ble_eq_true rfl, Nat.le_of_ble_eq_true rfl⟩) (mkS hK hN (hP.sub [] rfl) (hD.sub [] (by decide) rfl)) rfl rfl hl.1 rfl (lv_room (Nat.le_of_ble_eq_true rfl)) dX11_house_42 ⟨Nat.le_of_ble_eq_true rfl, Nat.le_of_ble_eq_true rfl⟩) (fun r_16 hw => ?_)
        rcases hw with ⟨rfl, h_17, h_18⟩ | ⟨rfl, h_19⟩
        · refine lv_if_eq (tgt := 52) hx hb dX11_house_45 (by decide) (fun c_20 => absurd c_20 (by decide)) (fun c_20 => ?_)
          refine lv_iconst (v := 1) hx hb dX11_house_48 (by decide) ?_
          refine lv_goto (tgt := 53) hx hb dX11_house_49 (by decide) ?_
          refine lv_istore (lv' := [(7, .int 1), (6, .int 1), (0, .ref a0), (1, .int x0), (2, .int x1), (3, .int x2), (4, .int x3), (5, .int x4)]) hx hb dX11_house_53 hl (by decide) rfl (fun ls hl => ?_)
          refine lv_iload hx hb dX11_house_55 (lv_at hl 1 rfl) ?_
          refine lv_if_eq (tgt := 76) hx hb dX11_house_57 (by decide) (fun c_21 => absurd c_21 (by decide)) (fun c_21 => ?_)
          refine lv_iload hx hb dX11_house_60 (lv_at hl 0 rfl) ?_
          refine lv_if_eq (tgt := 76) hx hb dX11_house_62 (by decide) (fun c_22 => absurd c_22 (by decide)) (fun c_22 => ?_)
          refine lv_iload_n hx hb dX11_house_65 rfl (lv_at hl 5 rfl) ?_
          refine lv_iconst (v := 0) hx hb dX11_house_66 (by decide) ?_
          refine lv_sipush (v := 999) hx hb dX11_house_67 (by decide) ?_
          refine pci (va_runS (As := [.int x2, .int 0, .int 999]) (rest := []) ⟨hx, hb, hml, hown, hts⟩ (c_within l D K x2 0 999 x2.toInt 0 999 s.heap.size rfl rfl rfl) (va_cwS 3 hts gX11_house_X11_within rfl rfl rfl (by decide +kernel) ⟨Nat.le_of_ble_eq_true rfl, Nat.le_of_ble_eq_true rfl⟩) (mkS hK hN (hP.sub [] rfl) (hD.sub [] (by decide) rfl)) rfl rfl hl.1 rfl (lv_room (Nat.le_of_ble_eq_true rfl)) dX11_house_70 ⟨Nat.le_of_ble_eq_true rfl, Nat.le_of_ble_eq_true rfl⟩) (fun r_23 hw => ?_)
          rcases hw with ⟨rfl, h_24, h_25⟩ | ⟨rfl, h_26⟩
          · refine lv_if_ne (tgt := 82) hx hb dX11_house_73 (by decide) (fun c_27 => ?_) (fun c_27 => absurd (by decide) c_27)
            refine lv_aload_n hx hb dX11_house_82 rfl (lv_at hl 2 rfl) ?_
            refine va_get (ci := 11) (v := .ref a2) (C := RX11) (T := TX11) (N := 17) hx hb hts hw11 hown hK hP 0 rfl rfl 0 (by decide) (hts (.fieldLink RX11 10 "SmokeTune" "town" "LSmokeTune$Town;") (List.mem_cons_of_mem _ (List.mem_append_left _ (List.mem_append_left _ (List.mem_append_left _ (List.mem_append_left _ (List.mem_of_getElem? (i := 0) rfl))))))) (fun _ h9 => h9) rfl dX11_house_83 ?_
            refine lv_iload hx hb dX11_house_86 (lv_at hl 6 rfl) ?_
            refine pci (va_runVN (As := [.int x3]) (rest := []) ⟨hx, hb, hml, hown, hts⟩ (c_dinerOf l D K a2 x3 (.ref a4) k1 k2 k3 k5 k6 k7 k8 k9 s.heap.size) ⟨va_cnB 1 hts gX11_house_X9_dinerOf_n105 rfl rfl rfl (nst_at hN 15 rfl) (hts (.initialized RX9) (List.mem_cons_of_mem _ (List.mem_append_left _ (List.mem_append_left _ (List.mem_append_left _ (List.mem_append_left _ (List.mem_of_getElem? (i := 13) rfl))))))) (by decide +kernel) ⟨Nat.le_of_ble_eq_true rfl, Nat.le_of_ble_eq_true rfl⟩, (hts (.instanceMethod yX9_dinerOf) (List.mem_cons_of_mem _ (List.mem_append_left _ (List.mem_append_left _ (List.mem_append_left _ (List.mem_append_left _ (List.mem_of_getElem? (i := 12) rfl))))))), (hts (.selects RX9 yX9_dinerOf yX9_dinerOf) (List.mem_cons_of_mem _ (List.mem_append_left _ (List.mem_append_left _ (List.mem_append_left _ (List.mem_append_left _ (List.mem_of_getElem? (i := 14) rfl)))))))⟩ (mkV hK hN (hP.sub [2] rfl) (hD.sub [2] (by decide) rfl) (ci := 9) (q0 := 0) rfl rfl) rfl rfl hl.1 rfl (lv_room (Nat.le_of_ble_eq_true rfl)) dX11_house_88 ⟨Nat.le_of_ble_eq_true rfl, Nat.le_of_ble_eq_true rfl⟩) (fun r_28 hw => ?_)
            obtain rfl : r_28 = (-1) := hw
            refine lv_iconst (v := (-1)) hx hb dX11_house_91 (by decide) ?_
            refine lv_icmp_eq (tgt := 102) hx hb dX11_house_92 (by decide) (fun c_29 => ?_) (fun c_29 => absurd (by decide) c_29)
            refine lv_aload_n hx hb dX11_house_102 rfl (lv_at hl 2 rfl) ?_
            refine va_get (ci := 11) (v := .ref a2) (C := RX11) (T := TX11) (N := 17) hx hb hts hw11 hown hK hP 0 rfl rfl 0 (by decide) (hts (.fieldLink RX11 10 "SmokeTune" "town" "LSmokeTune$Town;") (List.mem_cons_of_mem _ (List.mem_append_left _ (List.mem_append_left _ (List.mem_append_left _ (List.mem_append_left _ (List.mem_of_getElem? (i := 0) rfl))))))) (fun _ h9 => h9) rfl dX11_house_103 ?_
            refine va_getN (ci := 9) (v := .int 0) (C := RX9) (T := TX9) (N := 10) hx hb hts hw9 hown hK hP 2 rfl rfl 4 (by decide) (nst_use hN 107 rfl) (fun _ h9 => h9) rfl dX11_house_106 ?_
            refine lv_bipush (v := 8) hx hb dX11_house_109 (by decide) ?_
            refine lv_icmp_lt (tgt := 121) hx hb dX11_house_111 (by decide) (fun c_30 => ?_) (fun c_30 => absurd (by decide) c_30)
            refine lv_aload_n hx hb dX11_house_121 rfl (lv_at hl 2 rfl) ?_
            refine va_get (ci := 11) (v := .ref a3) (C := RX11) (T := TX11) (N := 17) hx hb hts hw11 hown hK hP 0 rfl rfl 9 (by decide) (hts (.fieldLink RX11 61 "SmokeTune" "history" "LSmokeTune$History;") (List.mem_cons_of_mem _ (List.mem_append_left _ (List.mem_append_left _ (List.mem_append_left _ (List.mem_append_left _ (List.mem_of_getElem? (i := 1) rfl))))))) (fun _ h9 => h9) rfl dX11_house_122 ?_
            refine kcv (wr := [(a0, .inr (11, [.ref a2, g1, g2, g3, g4, g5, g6, g7, g8, .ref a3, g10, g11, .ref a1, g13, g14, g15, g16])), (a1, .inl (K 0, 5, .inl f)), (a2, .inr (9, [.ref a4, k1, k2, k3, .int 0, k5, k6, k7, k8, k9])), (a4, .inl (K 0, 56, .inl (fun _ => 0)))]) (va_runVN (As := []) (rest := []) ⟨hx, hb, hml, hown, hts⟩ (c_clear l D K a3 p0 p1 p2 s.heap.size) ⟨va_cnB 0 hts gX11_house_X2_clear_n111 rfl rfl rfl (nst_at hN 16 rfl) (hts (.initialized RX2) (List.mem_cons_of_mem _ (List.mem_append_left _ (List.mem_append_left _ (List.mem_append_left _ (List.mem_append_left _ (List.mem_of_getElem? (i := 23) rfl))))))) (by decide +kernel) ⟨Nat.le_of_ble_eq_true rfl, Nat.le_of_ble_eq_true rfl⟩, (hts (.instanceMethod yX2_clear) (List.mem_cons_of_mem _ (List.mem_append_left _ (List.mem_append_left _ (List.mem_append_left _ (List.mem_append_left _ (List.mem_of_getElem? (i := 22) rfl))))))), (hts (.selects RX2 yX2_clear yX2_clear) (List.mem_cons_of_mem _ (List.mem_append_left _ (List.mem_append_left _ (List.mem_append_left _ (List.mem_append_right _ (List.mem_of_getElem? (i := 0) rfl)))))))⟩ (mkV hK hN (hP.sub [3] rfl) (hD.sub [3] (by decide) rfl) (ci := 2) (q0 := 0) rfl rfl) rfl rfl hl.1 rfl (lv_room (Nat.le_of_ble_eq_true rfl)) dX11_house_125 ⟨Nat.le_of_ble_eq_true rfl, Nat.le_of_ble_eq_true rfl⟩) hP hD hS hA [3] [0, 1, 2, 4] rfl rfl (by decide) (by decide) (fun u_32 H locs hw hP hD hS => ?_)
            have hP : va_P D vwCl [(a0, .inr (11, [.ref a2, g1, g2, g3, g4, g5, g6, g7, g8, .ref a3, g10, g11, .ref a1, g13, g14, g15, g16])), (a1, .inl (K 0, 5, .inl f)), (a2, .inr (9, [.ref a4, k1, k2, k3, .int 0, k5, k6, k7, k8, k9])), (a4, .inl (K 0, 56, .inl (fun _ => 0)))] H := hP
            have hD : va_D A [(a0, .inr (11, [.ref a2, g1, g2, g3, g4, g5, g6, g7, g8, .ref a3, g10, g11, .ref a1, g13, g14, g15, g16])), (a1, .inl (K 0, 5, .inl f)), (a2, .inr (9, [.ref a4, k1, k2, k3, .int 0, k5, k6, k7, k8, k9])), (a4, .inl (K 0, 56, .inl (fun _ => 0)))] := hD
            refine lv_aload_n hx hb dX11_house_128 rfl (lv_at hl 2 rfl) ?_
            refine lv_aload_n hx hb dX11_house_129 rfl (lv_at hl 2 rfl) ?_
            refine va_get (ci := 11) (v := .ref a2) (C := RX11) (T := TX11) (N := 17) hx hb hts hw11 hown hK hP 0 rfl rfl 0 (by decide) (hts (.fieldLink RX11 10 "SmokeTune" "town" "LSmokeTune$Town;") (List.mem_cons_of_mem _ (List.mem_append_left _ (List.mem_append_left _ (List.mem_append_left _ (List.mem_append_left _ (List.mem_of_getElem? (i := 0) rfl))))))) (fun _ h9 => h9) rfl dX11_house_130 ?_
            refine lv_iload_n hx hb dX11_house_133 rfl (lv_at hl 3 rfl) ?_
            refine lv_iload_n hx hb dX11_house_134 rfl (lv_at hl 4 rfl) ?_
            refine lv_iload_n hx hb dX11_house_135 rfl (lv_at hl 5 rfl) ?_
            refine lv_iload hx hb dX11_house_136 (lv_at hl 6 rfl) ?_
            refine lv_iload hx hb dX11_house_138 (lv_at hl 7 rfl) ?_
            refine kci (wr := [(a0, .inr (11, [.ref a2, g1, g2, g3, g4, g5, g6, g7, g8, .ref a3, g10, g11, .ref a1, g13, g14, g15, g16])), (a1, .inl (K 0, 5, .inl f))]) (va_runVN (As := [.int x0, .int x1, .int x2, .int x3, .int x4]) (rest := [.ref a0]) ⟨hx, hb, hml, hown, hts⟩ (c_build l D K a2 x0 x1 x2 x3 x4 a4 k1 k2 k3 k5 k6 k7 k8 k9 (fun _ => 0) H.size) ⟨va_cnB 5 hts gX11_house_X9_build_n114 rfl rfl rfl (nst_at hN 17 rfl) (hts (.initialized RX9) (List.mem_cons_of_mem _ (List.mem_append_left _ (List.mem_append_left _ (List.mem_append_left _ (List.mem_append_left _ (List.mem_of_getElem? (i := 13) rfl))))))) (by decide +kernel) ⟨Nat.le_of_ble_eq_true rfl, Nat.le_of_ble_eq_true rfl⟩, (hts (.instanceMethod yX9_build) (List.mem_cons_of_mem _ (List.mem_append_left _ (List.mem_append_left _ (List.mem_append_left _ (List.mem_append_right _ (List.mem_of_getElem? (i := 3) rfl))))))), (hts (.selects RX9 yX9_build yX9_build) (List.mem_cons_of_mem _ (List.mem_append_left _ (List.mem_append_left _ (List.mem_append_left _ (List.mem_append_right _ (List.mem_of_getElem? (i := 4) rfl)))))))⟩ (mkV hK hN (hP.sub [2, 3] rfl) (hD.sub [2, 3] (by decide) rfl) (ci := 9) (q0 := 0) rfl rfl) rfl rfl hl.1 rfl (lv_room (Nat.le_of_ble_eq_true rfl)) dX11_house_140 ⟨Nat.le_of_ble_eq_true rfl, Nat.le_of_ble_eq_true rfl⟩) hP hD hS hA [2, 3] [0, 1] rfl rfl (by decide) (by decide) (fun r_33 u_34 H locs hw hP hD hS => ?_)
            have hP : va_P D vwCl [(a0, .inr (11, [.ref a2, g1, g2, g3, g4, g5, g6, g7, g8, .ref a3, g10, g11, .ref a1, g13, g14, g15, g16])), (a1, .inl (K 0, 5, .inl f))] H := hP
            have hD : va_D A [(a0, .inr (11, [.ref a2, g1, g2, g3, g4, g5, g6, g7, g8, .ref a3, g10, g11, .ref a1, g13, g14, g15, g16])), (a1, .inl (K 0, 5, .inl f))] := hD
            obtain rfl : r_33 = 0 := hw
            refine kci (wr := [(a1, .inl (K 0, 5, .inl f))]) (va_runV (As := [.int 0]) (rest := []) ⟨hx, hb, hml, hown, hts⟩ (c_accept l D K a0 0 (.ref a2) g1 g2 g3 g4 g5 g6 g7 g8 (.ref a3) g10 g11 (.ref a1) g13 g14 g15 g16 H.size) (cwV 1 hts gX11_house_X11_accept rfl rfl rfl (by decide +kernel) ⟨Nat.le_of_ble_eq_true rfl, Nat.le_of_ble_eq_true rfl⟩) (mkV hK hN (hP.sub [0] rfl) (hD.sub [0] (by decide) rfl) (ci := 11) (q0 := 0) rfl rfl) rfl rfl hl.1 rfl (lv_room (Nat.le_of_ble_eq_true rfl)) dX11_house_143 ⟨Nat.le_of_ble_eq_true rfl, Nat.le_of_ble_eq_true rfl⟩) hP hD hS hA [0] [1] rfl rfl (by decide) (by decide) (fun r_35 u_36 H locs hw hP hD hS => ?_)
            have hP : va_P D vwCl [(a1, .inl (K 0, 5, .inl f))] H := hP
            have hD : va_D A [(a1, .inl (K 0, 5, .inl f))] := hD
            obtain rfl : r_35 = 0 := hw
            exact W.iret (v := 0) hx hb hr (fun t ht hW => ⟨⟨0, (), rfl, (by first | exact Or.inl (⟨rfl, by first | omega | decide | (subst_vars; assumption), by first | omega | decide | (subst_vars; assumption), by first | omega | decide | (subst_vars; assumption), by first | omega | decide | (subst_vars; assumption), by first | omega | decide | (subst_vars; assumption), by first | omega | decide | (subst_vars; assumption), by first | omega | decide | (subst_vars; assumption), by first | omega | decide | (subst_vars; assumption), by first | omega | decide | (subst_vars; assumption), by first | omega | decide | (subst_vars; assumption)⟩)), Wd.nil⟩, hS.F ht⟩) hS.2.2 dX11_house_146
          · refine lv_if_ne (tgt := 82) hx hb dX11_house_73 (by decide) (fun c_37 => absurd c_37 (by decide)) (fun c_37 => ?_)
            refine lv_aload_n hx hb dX11_house_76 rfl (lv_at hl 2 rfl) ?_
            refine lv_iconst (v := (-1)) hx hb dX11_house_77 (by decide) ?_
            refine kci (wr := [(a2, .inr (9, [.ref a4, k1, k2, k3, .int 0, k5, k6, k7, k8, k9])), (a3, .inr (2, [p0, p1, p2])), (a4, .inl (K 0, 56, .inl (fun _ => 0)))]) (va_runV (As := [.int (-1)]) (rest := []) ⟨hx, hb, hml, hown, hts⟩ (c_refuse_1 l D K a0 (.ref a2) g1 g2 g3 g4 g5 g6 g7 g8 (.ref a3) g10 g11 a1 g13 g14 g15 g16 f s.heap.size) (cwV 1 hts gX11_house_X11_refuse rfl rfl rfl (by decide +kernel) ⟨Nat.le_of_ble_eq_true rfl, Nat.le_of_ble_eq_true rfl⟩) (mkV hK hN (hP.sub [0, 1] rfl) (hD.sub [0, 1] (by decide) rfl) (ci := 11) (q0 := 0) rfl rfl) rfl rfl hl.1 rfl (lv_room (Nat.le_of_ble_eq_true rfl)) dX11_house_78 ⟨Nat.le_of_ble_eq_true rfl, Nat.le_of_ble_eq_true rfl⟩) hP hD hS hA [0, 1] [2, 3, 4] rfl rfl (by decide) (by decide) (fun r_38 u_39 H locs hw hP hD hS => ?_)
            have hP : va_P D vwCl [(a2, .inr (9, [.ref a4, k1, k2, k3, .int 0, k5, k6, k7, k8, k9])), (a3, .inr (2, [p0, p1, p2])), (a4, .inl (K 0, 56, .inl (fun _ => 0)))] H := hP
            have hD : va_D A [(a2, .inr (9, [.ref a4, k1, k2, k3, .int 0, k5, k6, k7, k8, k9])), (a3, .inr (2, [p0, p1, p2])), (a4, .inl (K 0, 56, .inl (fun _ => 0)))] := hD
            obtain rfl : r_38 = (-1) := hw
            exact W.iret (v := (-1)) hx hb hr (fun t ht hW => ⟨⟨(-1), (), rfl, (by first | exact Or.inr (⟨rfl, by first | omega | decide | (subst_vars; assumption)⟩)), Wd.nil⟩, hS.F ht⟩) hS.2.2 dX11_house_81
        · refine lv_if_eq (tgt := 52) hx hb dX11_house_45 (by decide) (fun c_40 => ?_) (fun c_40 => absurd (by decide) c_40)
          refine lv_iconst (v := 0) hx hb dX11_house_52 (by decide) ?_
          refine lv_istore (lv' := [(7, .int 0), (6, .int 1), (0, .ref a0), (1, .int x0), (2, .int x1), (3, .int x2), (4, .int x3), (5, .int x4)]) hx hb dX11_house_53 hl (by decide) rfl (fun ls hl => ?_)
          refine lv_iload hx hb dX11_house_55 (lv_at hl 1 rfl) ?_
          refine lv_if_eq (tgt := 76) hx hb dX11_house_57 (by decide) (fun c_41 => absurd c_41 (by decide)) (fun c_41 => ?_)
          refine lv_iload hx hb dX11_house_60 (lv_at hl 0 rfl) ?_
          refine lv_if_eq (tgt := 76) hx hb dX11_house_62 (by decide) (fun c_42 => ?_) (fun c_42 => absurd (by decide) c_42)
          refine lv_aload_n hx hb dX11_house_76 rfl (lv_at hl 2 rfl) ?_
          refine lv_iconst (v := (-1)) hx hb dX11_house_77 (by decide) ?_
          refine kci (wr := [(a2, .inr (9, [.ref a4, k1, k2, k3, .int 0, k5, k6, k7, k8, k9])), (a3, .inr (2, [p0, p1, p2])), (a4, .inl (K 0, 56, .inl (fun _ => 0)))]) (va_runV (As := [.int (-1)]) (rest := []) ⟨hx, hb, hml, hown, hts⟩ (c_refuse_1 l D K a0 (.ref a2) g1 g2 g3 g4 g5 g6 g7 g8 (.ref a3) g10 g11 a1 g13 g14 g15 g16 f s.heap.size) (cwV 1 hts gX11_house_X11_refuse rfl rfl rfl (by decide +kernel) ⟨Nat.le_of_ble_eq_true rfl, Nat.le_of_ble_eq_true rfl⟩) (mkV hK hN (hP.sub [0, 1] rfl) (hD.sub [0, 1] (by decide) rfl) (ci := 11) (q0 := 0) rfl rfl) rfl rfl hl.1 rfl (lv_room (Nat.le_of_ble_eq_true rfl)) dX11_house_78 ⟨Nat.le_of_ble_eq_true rfl, Nat.le_of_ble_eq_true rfl⟩) hP hD hS hA [0, 1] [2, 3, 4] rfl rfl (by decide) (by decide) (fun r_43 u_44 H locs hw hP hD hS => ?_)
          have hP : va_P D vwCl [(a2, .inr (9, [.ref a4, k1, k2, k3, .int 0, k5, k6, k7, k8, k9])), (a3, .inr (2, [p0, p1, p2])), (a4, .inl (K 0, 56, .inl (fun _ => 0)))] H := hP
          have hD : va_D A [(a2, .inr (9, [.ref a4, k1, k2, k3, .int 0, k5, k6, k7, k8, k9])), (a3, .inr (2, [p0, p1, p2])), (a4, .inl (K 0, 56, .inl (fun _ => 0)))] := hD
          obtain rfl : r_43 = (-1) := hw
          exact W.iret (v := (-1)) hx hb hr (fun t ht hW => ⟨⟨(-1), (), rfl, (by first | exact Or.inr (⟨rfl, by first | omega | decide | (subst_vars; assumption)⟩)), Wd.nil⟩, hS.F ht⟩) hS.2.2 dX11_house_81
      · refine lv_if_eq (tgt := 52) hx hb dX11_house_34 (by decide) (fun c_45 => ?_) (fun c_45 => absurd (by decide) c_45)
        refine lv_iconst (v := 0) hx hb dX11_house_52 (by decide) ?_
        refine lv_istore (lv' := [(7, .int 0), (6, .int 1), (0, .ref a0), (1, .int x0), (2, .int x1), (3, .int x2), (4, .int x3), (5, .int x4)]) hx hb dX11_house_53 hl (by decide) rfl (fun ls hl => ?_)
        refine lv_iload hx hb dX11_house_55 (lv_at hl 1 rfl) ?_
        refine lv_if_eq (tgt := 76) hx hb dX11_house_57 (by decide) (fun c_46 => absurd c_46 (by decide)) (fun c_46 => ?_)
        refine lv_iload hx hb dX11_house_60 (lv_at hl 0 rfl) ?_
        refine lv_if_eq (tgt := 76) hx hb dX11_house_62 (by decide) (fun c_47 => ?_) (fun c_47 => absurd (by decide) c_47)
        refine lv_aload_n hx hb dX11_house_76 rfl (lv_at hl 2 rfl) ?_
        refine lv_iconst (v := (-1)) hx hb dX11_house_77 (by decide) ?_
        refine kci (wr := [(a2, .inr (9, [.ref a4, k1, k2, k3, .int 0, k5, k6, k7, k8, k9])), (a3, .inr (2, [p0, p1, p2])), (a4, .inl (K 0, 56, .inl (fun _ => 0)))]) (va_runV (As := [.int (-1)]) (rest := []) ⟨hx, hb, hml, hown, hts⟩ (c_refuse_1 l D K a0 (.ref a2) g1 g2 g3 g4 g5 g6 g7 g8 (.ref a3) g10 g11 a1 g13 g14 g15 g16 f s.heap.size) (cwV 1 hts gX11_house_X11_refuse rfl rfl rfl (by decide +kernel) ⟨Nat.le_of_ble_eq_true rfl, Nat.le_of_ble_eq_true rfl⟩) (mkV hK hN (hP.sub [0, 1] rfl) (hD.sub [0, 1] (by decide) rfl) (ci := 11) (q0 := 0) rfl rfl) rfl rfl hl.1 rfl (lv_room (Nat.le_of_ble_eq_true rfl)) dX11_house_78 ⟨Nat.le_of_ble_eq_true rfl, Nat.le_of_ble_eq_true rfl⟩) hP hD hS hA [0, 1] [2, 3, 4] rfl rfl (by decide) (by decide) (fun r_48 u_49 H locs hw hP hD hS => ?_)
        have hP : va_P D vwCl [(a2, .inr (9, [.ref a4, k1, k2, k3, .int 0, k5, k6, k7, k8, k9])), (a3, .inr (2, [p0, p1, p2])), (a4, .inl (K 0, 56, .inl (fun _ => 0)))] H := hP
        have hD : va_D A [(a2, .inr (9, [.ref a4, k1, k2, k3, .int 0, k5, k6, k7, k8, k9])), (a3, .inr (2, [p0, p1, p2])), (a4, .inl (K 0, 56, .inl (fun _ => 0)))] := hD
        obtain rfl : r_48 = (-1) := hw
        exact W.iret (v := (-1)) hx hb hr (fun t ht hW => ⟨⟨(-1), (), rfl, (by first | exact Or.inr (⟨rfl, by first | omega | decide | (subst_vars; assumption)⟩)), Wd.nil⟩, hS.F ht⟩) hS.2.2 dX11_house_81
    · refine lv_if_eq (tgt := 23) hx hb dX11_house_16 (by decide) (fun c_50 => ?_) (fun c_50 => absurd (by decide) c_50)
      refine lv_iconst (v := 0) hx hb dX11_house_23 (by decide) ?_
      refine lv_istore (lv' := [(6, .int 0), (0, .ref a0), (1, .int x0), (2, .int x1), (3, .int x2), (4, .int x3), (5, .int x4)]) hx hb dX11_house_24 hl (by decide) rfl (fun ls hl => ?_)
      refine lv_iload hx hb dX11_house_26 (lv_at hl 5 rfl) ?_
      refine lv_iconst (v := 0) hx hb dX11_house_28 (by decide) ?_
      refine lv_bipush (v := 7) hx hb dX11_house_29 (by decide) ?_
      refine pci (va_runS (As := [.int x3, .int 0, .int 7]) (rest := []) ⟨hx, hb, hml, hown, hts⟩ (c_within l D K x3 0 7 x3.toInt 0 7 s.heap.size rfl rfl rfl) (va_cwS 3 hts gX11_house_X11_within rfl rfl rfl (by decide +kernel) ⟨Nat.le_of_ble_eq_true rfl, Nat.le_of_ble_eq_true rfl⟩) (mkS hK hN (hP.sub [] rfl) (hD.sub [] (by decide) rfl)) rfl rfl hl.1 rfl (lv_room (Nat.le_of_ble_eq_true rfl)) dX11_house_31 ⟨Nat.le_of_ble_eq_true rfl, Nat.le_of_ble_eq_true rfl⟩) (fun r_51 hw => ?_)
      rcases hw with ⟨rfl, h_52, h_53⟩ | ⟨rfl, h_54⟩
      · refine lv_if_eq (tgt := 52) hx hb dX11_house_34 (by decide) (fun c_55 => absurd c_55 (by decide)) (fun c_55 => ?_)
        refine lv_iload hx hb dX11_house_37 (lv_at hl 6 rfl) ?_
        refine lv_iconst (v := 0) hx hb dX11_house_39 (by decide) ?_
        refine lv_bipush (v := 7) hx hb dX11_house_40 (by decide) ?_
        refine pci (va_runS (As := [.int x4, .int 0, .int 7]) (rest := []) ⟨hx, hb, hml, hown, hts⟩ (c_within l D K x4 0 7 x4.toInt 0 7 s.heap.size rfl rfl rfl) (va_cwS 3 hts gX11_house_X11_within rfl rfl rfl (by decide +kernel) ⟨Nat.le_of_ble_eq_true rfl, Nat.le_of_ble_eq_true rfl⟩) (mkS hK hN (hP.sub [] rfl) (hD.sub [] (by decide) rfl)) rfl rfl hl.1 rfl (lv_room (Nat.le_of_ble_eq_true rfl)) dX11_house_42 ⟨Nat.le_of_ble_eq_true rfl, Nat.le_of_ble_eq_true rfl⟩) (fun r_56 hw => ?_)
        rcases hw with ⟨rfl, h_57, h_58⟩ | ⟨rfl, h_59⟩
        · refine lv_if_eq (tgt := 52) hx hb dX11_house_45 (by decide) (fun c_60 => absurd c_60 (by decide)) (fun c_60 => ?_)
          refine lv_iconst (v := 1) hx hb dX11_house_48 (by decide) ?_
          refine lv_goto (tgt := 53) hx hb dX11_house_49 (by decide) ?_
          refine lv_istore (lv' := [(7, .int 1), (6, .int 0), (0, .ref a0), (1, .int x0), (2, .int x1), (3, .int x2), (4, .int x3), (5, .int x4)]) hx hb dX11_house_53 hl (by decide) rfl (fun ls hl => ?_)
          refine lv_iload hx hb dX11_house_55 (lv_at hl 1 rfl) ?_
          refine lv_if_eq (tgt := 76) hx hb dX11_house_57 (by decide) (fun c_61 => ?_) (fun c_61 => absurd (by decide) c_61)
          refine lv_aload_n hx hb dX11_house_76 rfl (lv_at hl 2 rfl) ?_
          refine lv_iconst (v := (-1)) hx hb dX11_house_77 (by decide) ?_
          refine kci (wr := [(a2, .inr (9, [.ref a4, k1, k2, k3, .int 0, k5, k6, k7, k8, k9])), (a3, .inr (2, [p0, p1, p2])), (a4, .inl (K 0, 56, .inl (fun _ => 0)))]) (va_runV (As := [.int (-1)]) (rest := []) ⟨hx, hb, hml, hown, hts⟩ (c_refuse_1 l D K a0 (.ref a2) g1 g2 g3 g4 g5 g6 g7 g8 (.ref a3) g10 g11 a1 g13 g14 g15 g16 f s.heap.size) (cwV 1 hts gX11_house_X11_refuse rfl rfl rfl (by decide +kernel) ⟨Nat.le_of_ble_eq_true rfl, Nat.le_of_ble_eq_true rfl⟩) (mkV hK hN (hP.sub [0, 1] rfl) (hD.sub [0, 1] (by decide) rfl) (ci := 11) (q0 := 0) rfl rfl) rfl rfl hl.1 rfl (lv_room (Nat.le_of_ble_eq_true rfl)) dX11_house_78 ⟨Nat.le_of_ble_eq_true rfl, Nat.le_of_ble_eq_true rfl⟩) hP hD hS hA [0, 1] [2, 3, 4] rfl rfl (by decide) (by decide) (fun r_62 u_63 H locs hw hP hD hS => ?_)
          have hP : va_P D vwCl [(a2, .inr (9, [.ref a4, k1, k2, k3, .int 0, k5, k6, k7, k8, k9])), (a3, .inr (2, [p0, p1, p2])), (a4, .inl (K 0, 56, .inl (fun _ => 0)))] H := hP
          have hD : va_D A [(a2, .inr (9, [.ref a4, k1, k2, k3, .int 0, k5, k6, k7, k8, k9])), (a3, .inr (2, [p0, p1, p2])), (a4, .inl (K 0, 56, .inl (fun _ => 0)))] := hD
          obtain rfl : r_62 = (-1) := hw
          exact W.iret (v := (-1)) hx hb hr (fun t ht hW => ⟨⟨(-1), (), rfl, (by first | exact Or.inr (⟨rfl, by first | omega | decide | (subst_vars; assumption)⟩)), Wd.nil⟩, hS.F ht⟩) hS.2.2 dX11_house_81
        · refine lv_if_eq (tgt := 52) hx hb dX11_house_45 (by decide) (fun c_64 => ?_) (fun c_64 => absurd (by decide) c_64)
          refine lv_iconst (v := 0) hx hb dX11_house_52 (by decide) ?_
          refine lv_istore (lv' := [(7, .int 0), (6, .int 0), (0, .ref a0), (1, .int x0), (2, .int x1), (3, .int x2), (4, .int x3), (5, .int x4)]) hx hb dX11_house_53 hl (by decide) rfl (fun ls hl => ?_)
          refine lv_iload hx hb dX11_house_55 (lv_at hl 1 rfl) ?_
          refine lv_if_eq (tgt := 76) hx hb dX11_house_57 (by decide) (fun c_65 => ?_) (fun c_65 => absurd (by decide) c_65)
          refine lv_aload_n hx hb dX11_house_76 rfl (lv_at hl 2 rfl) ?_
          refine lv_iconst (v := (-1)) hx hb dX11_house_77 (by decide) ?_
          refine kci (wr := [(a2, .inr (9, [.ref a4, k1, k2, k3, .int 0, k5, k6, k7, k8, k9])), (a3, .inr (2, [p0, p1, p2])), (a4, .inl (K 0, 56, .inl (fun _ => 0)))]) (va_runV (As := [.int (-1)]) (rest := []) ⟨hx, hb, hml, hown, hts⟩ (c_refuse_1 l D K a0 (.ref a2) g1 g2 g3 g4 g5 g6 g7 g8 (.ref a3) g10 g11 a1 g13 g14 g15 g16 f s.heap.size) (cwV 1 hts gX11_house_X11_refuse rfl rfl rfl (by decide +kernel) ⟨Nat.le_of_ble_eq_true rfl, Nat.le_of_ble_eq_true rfl⟩) (mkV hK hN (hP.sub [0, 1] rfl) (hD.sub [0, 1] (by decide) rfl) (ci := 11) (q0 := 0) rfl rfl) rfl rfl hl.1 rfl (lv_room (Nat.le_of_ble_eq_true rfl)) dX11_house_78 ⟨Nat.le_of_ble_eq_true rfl, Nat.le_of_ble_eq_true rfl⟩) hP hD hS hA [0, 1] [2, 3, 4] rfl rfl (by decide) (by decide) (fun r_66 u_67 H locs hw hP hD hS => ?_)
          have hP : va_P D vwCl [(a2, .inr (9, [.ref a4, k1, k2, k3, .int 0, k5, k6, k7, k8, k9])), (a3, .inr (2, [p0, p1, p2])), (a4, .inl (K 0, 56, .inl (fun _ => 0)))] H := hP
          have hD : va_D A [(a2, .inr (9, [.ref a4, k1, k2, k3, .int 0, k5, k6, k7, k8, k9])), (a3, .inr (2, [p0, p1, p2])), (a4, .inl (K 0, 56, .inl (fun _ => 0)))] := hD
          obtain rfl : r_66 = (-1) := hw
          exact W.iret (v := (-1)) hx hb hr (fun t ht hW => ⟨⟨(-1), (), rfl, (by first | exact Or.inr (⟨rfl, by first | omega | decide | (subst_vars; assumption)⟩)), Wd.nil⟩, hS.F ht⟩) hS.2.2 dX11_house_81
      · refine lv_if_eq (tgt := 52) hx hb dX11_house_34 (by decide) (fun c_68 => ?_) (fun c_68 => absurd (by decide) c_68)
        refine lv_iconst (v := 0) hx hb dX11_house_52 (by decide) ?_
        refine lv_istore (lv' := [(7, .int 0), (6, .int 0), (0, .ref a0), (1, .int x0), (2, .int x1), (3, .int x2), (4, .int x3), (5, .int x4)]) hx hb dX11_house_53 hl (by decide) rfl (fun ls hl => ?_)
        refine lv_iload hx hb dX11_house_55 (lv_at hl 1 rfl) ?_
        refine lv_if_eq (tgt := 76) hx hb dX11_house_57 (by decide) (fun c_69 => ?_) (fun c_69 => absurd (by decide) c_69)
        refine lv_aload_n hx hb dX11_house_76 rfl (lv_at hl 2 rfl) ?_
        refine lv_iconst (v := (-1)) hx hb dX11_house_77 (by decide) ?_
        refine kci (wr := [(a2, .inr (9, [.ref a4, k1, k2, k3, .int 0, k5, k6, k7, k8, k9])), (a3, .inr (2, [p0, p1, p2])), (a4, .inl (K 0, 56, .inl (fun _ => 0)))]) (va_runV (As := [.int (-1)]) (rest := []) ⟨hx, hb, hml, hown, hts⟩ (c_refuse_1 l D K a0 (.ref a2) g1 g2 g3 g4 g5 g6 g7 g8 (.ref a3) g10 g11 a1 g13 g14 g15 g16 f s.heap.size) (cwV 1 hts gX11_house_X11_refuse rfl rfl rfl (by decide +kernel) ⟨Nat.le_of_ble_eq_true rfl, Nat.le_of_ble_eq_true rfl⟩) (mkV hK hN (hP.sub [0, 1] rfl) (hD.sub [0, 1] (by decide) rfl) (ci := 11) (q0 := 0) rfl rfl) rfl rfl hl.1 rfl (lv_room (Nat.le_of_ble_eq_true rfl)) dX11_house_78 ⟨Nat.le_of_ble_eq_true rfl, Nat.le_of_ble_eq_true rfl⟩) hP hD hS hA [0, 1] [2, 3, 4] rfl rfl (by decide) (by decide) (fun r_70 u_71 H locs hw hP hD hS => ?_)
        have hP : va_P D vwCl [(a2, .inr (9, [.ref a4, k1, k2, k3, .int 0, k5, k6, k7, k8, k9])), (a3, .inr (2, [p0, p1, p2])), (a4, .inl (K 0, 56, .inl (fun _ => 0)))] H := hP
        have hD : va_D A [(a2, .inr (9, [.ref a4, k1, k2, k3, .int 0, k5, k6, k7, k8, k9])), (a3, .inr (2, [p0, p1, p2])), (a4, .inl (K 0, 56, .inl (fun _ => 0)))] := hD
        obtain rfl : r_70 = (-1) := hw
        exact W.iret (v := (-1)) hx hb hr (fun t ht hW => ⟨⟨(-1), (), rfl, (by first | exact Or.inr (⟨rfl, by first | omega | decide | (subst_vars; assumption)⟩)), Wd.nil⟩, hS.F ht⟩) hS.2.2 dX11_house_81
  · refine lv_if_eq (tgt := 23) hx hb dX11_house_7 (by decide) (fun c_72 => ?_) (fun c_72 => absurd (by decide) c_72)
    refine lv_iconst (v := 0) hx hb dX11_house_23 (by decide) ?_
    refine lv_istore (lv' := [(6, .int 0), (0, .ref a0), (1, .int x0), (2, .int x1), (3, .int x2), (4, .int x3), (5, .int x4)]) hx hb dX11_house_24 hl (by decide) rfl (fun ls hl => ?_)
    refine lv_iload hx hb dX11_house_26 (lv_at hl 5 rfl) ?_
    refine lv_iconst (v := 0) hx hb dX11_house_28 (by decide) ?_
    refine lv_bipush (v := 7) hx hb dX11_house_29 (by decide) ?_
    refine pci (va_runS (As := [.int x3, .int 0, .int 7]) (rest := []) ⟨hx, hb, hml, hown, hts⟩ (c_within l D K x3 0 7 x3.toInt 0 7 s.heap.size rfl rfl rfl) (va_cwS 3 hts gX11_house_X11_within rfl rfl rfl (by decide +kernel) ⟨Nat.le_of_ble_eq_true rfl, Nat.le_of_ble_eq_true rfl⟩) (mkS hK hN (hP.sub [] rfl) (hD.sub [] (by decide) rfl)) rfl rfl hl.1 rfl (lv_room (Nat.le_of_ble_eq_true rfl)) dX11_house_31 ⟨Nat.le_of_ble_eq_true rfl, Nat.le_of_ble_eq_true rfl⟩) (fun r_73 hw => ?_)
    rcases hw with ⟨rfl, h_74, h_75⟩ | ⟨rfl, h_76⟩
    · refine lv_if_eq (tgt := 52) hx hb dX11_house_34 (by decide) (fun c_77 => absurd c_77 (by decide)) (fun c_77 => ?_)
      refine lv_iload hx hb dX11_house_37 (lv_at hl 6 rfl) ?_
      refine lv_iconst (v := 0) hx hb dX11_house_39 (by decide) ?_
      refine lv_bipush (v := 7) hx hb dX11_house_40 (by decide) ?_
      refine pci (va_runS (As := [.int x4, .int 0, .int 7]) (rest := []) ⟨hx, hb, hml, hown, hts⟩ (c_within l D K x4 0 7 x4.toInt 0 7 s.heap.size rfl rfl rfl) (va_cwS 3 hts gX11_house_X11_within rfl rfl rfl (by decide +kernel) ⟨Nat.le_of_ble_eq_true rfl, Nat.le_of_ble_eq_true rfl⟩) (mkS hK hN (hP.sub [] rfl) (hD.sub [] (by decide) rfl)) rfl rfl hl.1 rfl (lv_room (Nat.le_of_ble_eq_true rfl)) dX11_house_42 ⟨Nat.le_of_ble_eq_true rfl, Nat.le_of_ble_eq_true rfl⟩) (fun r_78 hw => ?_)
      rcases hw with ⟨rfl, h_79, h_80⟩ | ⟨rfl, h_81⟩
      · refine lv_if_eq (tgt := 52) hx hb dX11_house_45 (by decide) (fun c_82 => absurd c_82 (by decide)) (fun c_82 => ?_)
        refine lv_iconst (v := 1) hx hb dX11_house_48 (by decide) ?_
        refine lv_goto (tgt := 53) hx hb dX11_house_49 (by decide) ?_
        refine lv_istore (lv' := [(7, .int 1), (6, .int 0), (0, .ref a0), (1, .int x0), (2, .int x1), (3, .int x2), (4, .int x3), (5, .int x4)]) hx hb dX11_house_53 hl (by decide) rfl (fun ls hl => ?_)
        refine lv_iload hx hb dX11_house_55 (lv_at hl 1 rfl) ?_
        refine lv_if_eq (tgt := 76) hx hb dX11_house_57 (by decide) (fun c_83 => ?_) (fun c_83 => absurd (by decide) c_83)
        refine lv_aload_n hx hb dX11_house_76 rfl (lv_at hl 2 rfl) ?_
        refine lv_iconst (v := (-1)) hx hb dX11_house_77 (by decide) ?_
        refine kci (wr := [(a2, .inr (9, [.ref a4, k1, k2, k3, .int 0, k5, k6, k7, k8, k9])), (a3, .inr (2, [p0, p1, p2])), (a4, .inl (K 0, 56, .inl (fun _ => 0)))]) (va_runV (As := [.int (-1)]) (rest := []) ⟨hx, hb, hml, hown, hts⟩ (c_refuse_1 l D K a0 (.ref a2) g1 g2 g3 g4 g5 g6 g7 g8 (.ref a3) g10 g11 a1 g13 g14 g15 g16 f s.heap.size) (cwV 1 hts gX11_house_X11_refuse rfl rfl rfl (by decide +kernel) ⟨Nat.le_of_ble_eq_true rfl, Nat.le_of_ble_eq_true rfl⟩) (mkV hK hN (hP.sub [0, 1] rfl) (hD.sub [0, 1] (by decide) rfl) (ci := 11) (q0 := 0) rfl rfl) rfl rfl hl.1 rfl (lv_room (Nat.le_of_ble_eq_true rfl)) dX11_house_78 ⟨Nat.le_of_ble_eq_true rfl, Nat.le_of_ble_eq_true rfl⟩) hP hD hS hA [0, 1] [2, 3, 4] rfl rfl (by decide) (by decide) (fun r_84 u_85 H locs hw hP hD hS => ?_)
        have hP : va_P D vwCl [(a2, .inr (9, [.ref a4, k1, k2, k3, .int 0, k5, k6, k7, k8, k9])), (a3, .inr (2, [p0, p1, p2])), (a4, .inl (K 0, 56, .inl (fun _ => 0)))] H := hP
        have hD : va_D A [(a2, .inr (9, [.ref a4, k1, k2, k3, .int 0, k5, k6, k7, k8, k9])), (a3, .inr (2, [p0, p1, p2])), (a4, .inl (K 0, 56, .inl (fun _ => 0)))] := hD
        obtain rfl : r_84 = (-1) := hw
        exact W.iret (v := (-1)) hx hb hr (fun t ht hW => ⟨⟨(-1), (), rfl, (by first | exact Or.inr (⟨rfl, by first | omega | decide | (subst_vars; assumption)⟩)), Wd.nil⟩, hS.F ht⟩) hS.2.2 dX11_house_81
      · refine lv_if_eq (tgt := 52) hx hb dX11_house_45 (by decide) (fun c_86 => ?_) (fun c_86 => absurd (by decide) c_86)
        refine lv_iconst (v := 0) hx hb dX11_house_52 (by decide) ?_
        refine lv_istore (lv' := [(7, .int 0), (6, .int 0), (0, .ref a0), (1, .int x0), (2, .int x1), (3, .int x2), (4, .int x3), (5, .int x4)]) hx hb dX11_house_53 hl (by decide) rfl (fun ls hl => ?_)
        refine lv_iload hx hb dX11_house_55 (lv_at hl 1 rfl) ?_
        refine lv_if_eq (tgt := 76) hx hb dX11_house_57 (by decide) (fun c_87 => ?_) (fun c_87 => absurd (by decide) c_87)
        refine lv_aload_n hx hb dX11_house_76 rfl (lv_at hl 2 rfl) ?_
        refine lv_iconst (v := (-1)) hx hb dX11_house_77 (by decide) ?_
        refine kci (wr := [(a2, .inr (9, [.ref a4, k1, k2, k3, .int 0, k5, k6, k7, k8, k9])), (a3, .inr (2, [p0, p1, p2])), (a4, .inl (K 0, 56, .inl (fun _ => 0)))]) (va_runV (As := [.int (-1)]) (rest := []) ⟨hx, hb, hml, hown, hts⟩ (c_refuse_1 l D K a0 (.ref a2) g1 g2 g3 g4 g5 g6 g7 g8 (.ref a3) g10 g11 a1 g13 g14 g15 g16 f s.heap.size) (cwV 1 hts gX11_house_X11_refuse rfl rfl rfl (by decide +kernel) ⟨Nat.le_of_ble_eq_true rfl, Nat.le_of_ble_eq_true rfl⟩) (mkV hK hN (hP.sub [0, 1] rfl) (hD.sub [0, 1] (by decide) rfl) (ci := 11) (q0 := 0) rfl rfl) rfl rfl hl.1 rfl (lv_room (Nat.le_of_ble_eq_true rfl)) dX11_house_78 ⟨Nat.le_of_ble_eq_true rfl, Nat.le_of_ble_eq_true rfl⟩) hP hD hS hA [0, 1] [2, 3, 4] rfl rfl (by decide) (by decide) (fun r_88 u_89 H locs hw hP hD hS => ?_)
        have hP : va_P D vwCl [(a2, .inr (9, [.ref a4, k1, k2, k3, .int 0, k5, k6, k7, k8, k9])), (a3, .inr (2, [p0, p1, p2])), (a4, .inl (K 0, 56, .inl (fun _ => 0)))] H := hP
        have hD : va_D A [(a2, .inr (9, [.ref a4, k1, k2, k3, .int 0, k5, k6, k7, k8, k9])), (a3, .inr (2, [p0, p1, p2])), (a4, .inl (K 0, 56, .inl (fun _ => 0)))] := hD
        obtain rfl : r_88 = (-1) := hw
        exact W.iret (v := (-1)) hx hb hr (fun t ht hW => ⟨⟨(-1), (), rfl, (by first | exact Or.inr (⟨rfl, by first | omega | decide | (subst_vars; assumption)⟩)), Wd.nil⟩, hS.F ht⟩) hS.2.2 dX11_house_81
    · refine lv_if_eq (tgt := 52) hx hb dX11_house_34 (by decide) (fun c_90 => ?_) (fun c_90 => absurd (by decide) c_90)
      refine lv_iconst (v := 0) hx hb dX11_house_52 (by decide) ?_
      refine lv_istore (lv' := [(7, .int 0), (6, .int 0), (0, .ref a0), (1, .int x0), (2, .int x1), (3, .int x2), (4, .int x3), (5, .int x4)]) hx hb dX11_house_53 hl (by decide) rfl (fun ls hl => ?_)
      refine lv_iload hx hb dX11_house_55 (lv_at hl 1 rfl) ?_
      refine lv_if_eq (tgt := 76) hx hb dX11_house_57 (by decide) (fun c_91 => ?_) (fun c_91 => absurd (by decide) c_91)
      refine lv_aload_n hx hb dX11_house_76 rfl (lv_at hl 2 rfl) ?_
      refine lv_iconst (v := (-1)) hx hb dX11_house_77 (by decide) ?_
      refine kci (wr := [(a2, .inr (9, [.ref a4, k1, k2, k3, .int 0, k5, k6, k7, k8, k9])), (a3, .inr (2, [p0, p1, p2])), (a4, .inl (K 0, 56, .inl (fun _ => 0)))]) (va_runV (As := [.int (-1)]) (rest := []) ⟨hx, hb, hml, hown, hts⟩ (c_refuse_1 l D K a0 (.ref a2) g1 g2 g3 g4 g5 g6 g7 g8 (.ref a3) g10 g11 a1 g13 g14 g15 g16 f s.heap.size) (cwV 1 hts gX11_house_X11_refuse rfl rfl rfl (by decide +kernel) ⟨Nat.le_of_ble_eq_true rfl, Nat.le_of_ble_eq_true rfl⟩) (mkV hK hN (hP.sub [0, 1] rfl) (hD.sub [0, 1] (by decide) rfl) (ci := 11) (q0 := 0) rfl rfl) rfl rfl hl.1 rfl (lv_room (Nat.le_of_ble_eq_true rfl)) dX11_house_78 ⟨Nat.le_of_ble_eq_true rfl, Nat.le_of_ble_eq_true rfl⟩) hP hD hS hA [0, 1] [2, 3, 4] rfl rfl (by decide) (by decide) (fun r_92 u_93 H locs hw hP hD hS => ?_)
      have hP : va_P D vwCl [(a2, .inr (9, [.ref a4, k1, k2, k3, .int 0, k5, k6, k7, k8, k9])), (a3, .inr (2, [p0, p1, p2])), (a4, .inl (K 0, 56, .inl (fun _ => 0)))] H := hP
      have hD : va_D A [(a2, .inr (9, [.ref a4, k1, k2, k3, .int 0, k5, k6, k7, k8, k9])), (a3, .inr (2, [p0, p1, p2])), (a4, .inl (K 0, 56, .inl (fun _ => 0)))] := hD
      obtain rfl : r_92 = (-1) := hw
      exact W.iret (v := (-1)) hx hb hr (fun t ht hW => ⟨⟨(-1), (), rfl, (by first | exact Or.inr (⟨rfl, by first | omega | decide | (subst_vars; assumption)⟩)), Wd.nil⟩, hS.F ht⟩) hS.2.2 dX11_house_81
set_option maxHeartbeats 4000000 in
set_option maxRecDepth 100000 in
theorem c_take_0 (l : Launch) (D : va_G) (K : Nat → ClassId) (a0 : Nat) (x : Int32) (a1 : Nat) (g2 : Value) (g3 : Value) (g4 : Value) (g5 : Value) (f : Nat → Int32) (sz : Nat) : Met l yX8_take wsX8_take ({ frames := 0, cells := 0, slots := 0, locals := 0 }) (va_Pc [.ref a0, .int x] (Pre D K [(a0, .inr (8, [.ref a1, .int 0, g2, g3, g4, g5])), (a1, .inl (K 0, 400, .inl f))] sz)) (va_Qv (S := (Nat → Nat) × (Nat → Nat → Int32) × (Nat → Nat → Int64) × (Nat → Int32)) (fun _ => True) (fun u t => Wd D (va_A [(a0, .inr (8, [.ref a1, .int 0, g2, g3, g4, g5])), (a1, .inl (K 0, 400, .inl f))] sz) ((fun u => [(a0, .inr (8, [.ref a1, .int 4, g2, g3, g4, g5])), (a1, .inl (K 0, 400, .inl ((u.2.1 0))))]) u) t) (va_A [(a0, .inr (8, [.ref a1, .int 0, g2, g3, g4, g5])), (a1, .inl (K 0, 400, .inl f))] sz)) 0 0 (va_A [(a0, .inr (8, [.ref a1, .int 0, g2, g3, g4, g5])), (a1, .inl (K 0, 400, .inl f))] sz) := by
  refine Met.ofW (cc := cX8_take) (maxL := 3) (ret := none) (by decide) rfl ?_
  intro p e s m args below meth c s₁ B hml hv
  obtain ⟨rfl, hsz, hP, hK, hD0, hN⟩ := hv
  have hx := B.exec
  have hb := B.bytes
  have hr := B.returns
  have hts := atoms_spec (ws := wsX8_take) B.pre
  have hown : s.vm.findClass RX8 = some m.cls := findClass_of_methodNamed B.named
  have hlocks := B.notSynchronized
  subst hsz
  have hD := hD0.self (sz := s.heap.size)
  generalize hAe : va_A [(a0, .inr (8, [.ref a1, .int 0, g2, g3, g4, g5])), (a1, .inl (K 0, 400, .inl f))] s.heap.size = A at hD ⊢
  have hA : ∀ q : Nat, s.heap.size ≤ q → A q := fun q h => by rw [← hAe]; exact Or.inr h
  have hS : va_S A s.heap s.heap [] := va_S.rf
  have hP : va_P D vwCl [(a0, .inr (8, [.ref a1, .int 0, g2, g3, g4, g5])), (a1, .inl (K 0, 400, .inl f))] s.heap := hP
  have hl := lv_entry [.ref a0, .int x] (n := 3) (Nat.le_of_ble_eq_true rfl)
  rw [lg_entry_eq]
  generalize (lg_sl [.ref a0, .int x] ++ List.replicate (3 - (lg_sl [.ref a0, .int x]).length) Slot.unset).toArray = ls at hl ⊢
  have hl : lv_has ls 3 [(0, .ref a0), (1, .int x)] := hl
  have hw8 : ∀ w ∈ wsX80, w ∈ wsX8_take := fun w h => (List.mem_cons_of_mem _ (List.mem_append_right _ h))
  refine lv_bipush (v := 24) hx hb dX8_take_0 (by decide) ?_
  refine lv_istore_n (lv' := [(2, .int 24), (0, .ref a0), (1, .int x)]) hx hb dX8_take_2 rfl hl (by decide) rfl (fun ls hl => ?_)
  refine lv_iload_n hx hb dX8_take_3 rfl (lv_at hl 0 rfl) ?_
  refine lv_if_lt (tgt := 49) hx hb dX8_take_4 (by decide) (fun c_1 => absurd c_1 (by decide)) (fun c_1 => ?_)
  refine lv_aload_n hx hb dX8_take_7 rfl (lv_at hl 1 rfl) ?_
  refine va_get (ci := 8) (v := .int 0) (C := RX8) (T := TX8) (N := 6) hx hb hts hw8 hown hK hP 0 rfl rfl 1 (by decide) (hts (.fieldLink RX8 15 "SmokeTune$Tape" "length" "I") (List.mem_cons_of_mem _ (List.mem_append_left _ (List.mem_of_getElem? (i := 0) rfl)))) (fun _ h9 => h9) rfl dX8_take_8 ?_
  refine lv_sipush (v := 400) hx hb dX8_take_11 (by decide) ?_
  refine lv_icmp_ge (tgt := 49) hx hb dX8_take_14 (by decide) (fun c_2 => absurd c_2 (by decide)) (fun c_2 => ?_)
  refine lv_aload_n hx hb dX8_take_17 rfl (lv_at hl 1 rfl) ?_
  refine va_get (ci := 8) (v := .ref a1) (C := RX8) (T := TX8) (N := 6) hx hb hts hw8 hown hK hP 0 rfl rfl 0 (by decide) (hts (.fieldLink RX8 11 "SmokeTune$Tape" "bytes" "[I") (List.mem_cons_of_mem _ (List.mem_append_left _ (List.mem_of_getElem? (i := 1) rfl)))) (fun _ h9 => h9) rfl dX8_take_18 ?_
  refine lv_aload_n hx hb dX8_take_21 rfl (lv_at hl 1 rfl) ?_
  refine va_get (ci := 8) (v := .int 0) (C := RX8) (T := TX8) (N := 6) hx hb hts hw8 hown hK hP 0 rfl rfl 1 (by decide) (hts (.fieldLink RX8 15 "SmokeTune$Tape" "length" "I") (List.mem_cons_of_mem _ (List.mem_append_left _ (List.mem_of_getElem? (i := 0) rfl)))) (fun _ h9 => h9) rfl dX8_take_22 ?_
  refine lv_iload_n hx hb dX8_take_25 rfl (lv_at hl 2 rfl) ?_
  refine lv_iload_n hx hb dX8_take_26 rfl (lv_at hl 0 rfl) ?_
  refine lv_ishr hx hb dX8_take_27 ?_
  refine lv_topi (fun x_3 ex_3 => ?_)
  refine lv_sipush (v := 255) hx hb dX8_take_28 (by decide) ?_
  refine lv_iand hx hb dX8_take_31 ?_
  refine lv_topi (fun x_4 ex_4 => ?_)
  refine va_iast hx hb hK hP hD hS 1 0 rfl rfl (i_in (x := 0) rfl (by omega)) dX8_take_32 (fun H locs hP hD hS => ?_)
  generalize hf_5 : (upd f (0 : Int32).toNatClampNeg x_4) = f_5 at hP hD
  have hP : va_P D vwCl [(a0, .inr (8, [.ref a1, .int 0, g2, g3, g4, g5])), (a1, .inl (K 0, 400, .inl f_5))] H := hP
  have hD : va_D A [(a0, .inr (8, [.ref a1, .int 0, g2, g3, g4, g5])), (a1, .inl (K 0, 400, .inl f_5))] := hD
  refine lv_aload_n hx hb dX8_take_33 rfl (lv_at hl 1 rfl) ?_
  refine lv_dup hx hb dX8_take_34 rfl ?_
  refine va_get (ci := 8) (v := .int 0) (C := RX8) (T := TX8) (N := 6) hx hb hts hw8 hown hK hP 0 rfl rfl 1 (by decide) (hts (.fieldLink RX8 15 "SmokeTune$Tape" "length" "I") (List.mem_cons_of_mem _ (List.mem_append_left _ (List.mem_of_getElem? (i := 0) rfl)))) (fun _ h9 => h9) rfl dX8_take_35 ?_
  refine lv_iconst (v := 1) hx hb dX8_take_38 (by decide) ?_
  refine lv_iadd hx hb dX8_take_39 ?_
  refine lv_topi (fun x_6 ex_6 => ?_)
  obtain rfl : x_6 = 1 := ex_6.trans (by first | rfl | decide)
  refine va_put (ci := 8) (v := .int 1) (ty := .int) (C := RX8) (T := TX8) (N := 6) hx hb hts hw8 tyX8 tyX8_ok nmX8 hown hK hP hD hS 0 rfl rfl 1 (by decide) (hts (.fieldLink RX8 15 "SmokeTune$Tape" "length" "I") (List.mem_cons_of_mem _ (List.mem_append_left _ (List.mem_of_getElem? (i := 0) rfl)))) (fun _ h9 => h9) rfl (by decide +kernel) (by first | rfl | decide) (by first | rfl | decide) (Nat.le_of_ble_eq_true rfl) dX8_take_40 (fun H locs hP hD hS => ?_)
  have hP : va_P D vwCl [(a0, .inr (8, [.ref a1, .int 1, g2, g3, g4, g5])), (a1, .inl (K 0, 400, .inl f_5))] H := hP
  have hD : va_D A [(a0, .inr (8, [.ref a1, .int 1, g2, g3, g4, g5])), (a1, .inl (K 0, 400, .inl f_5))] := hD
  refine lv_iinc (v := 16) (lv' := [(2, .int 16), (0, .ref a0), (1, .int x)]) hx hb dX8_take_43 hl (k := 0) rfl (by decide) (by decide) rfl (fun ls hl => ?_)
  refine lv_goto (tgt := 3) hx hb dX8_take_46 (by decide) ?_
  refine lv_iload_n hx hb dX8_take_3 rfl (lv_at hl 0 rfl) ?_
  refine lv_if_lt (tgt := 49) hx hb dX8_take_4 (by decide) (fun c_7 => absurd c_7 (by decide)) (fun c_7 => ?_)
  refine lv_aload_n hx hb dX8_take_7 rfl (lv_at hl 1 rfl) ?_
  refine va_get (ci := 8) (v := .int 1) (C := RX8) (T := TX8) (N := 6) hx hb hts hw8 hown hK hP 0 rfl rfl 1 (by decide) (hts (.fieldLink RX8 15 "SmokeTune$Tape" "length" "I") (List.mem_cons_of_mem _ (List.mem_append_left _ (List.mem_of_getElem? (i := 0) rfl)))) (fun _ h9 => h9) rfl dX8_take_8 ?_
  refine lv_sipush (v := 400) hx hb dX8_take_11 (by decide) ?_
  refine lv_icmp_ge (tgt := 49) hx hb dX8_take_14 (by decide) (fun c_8 => absurd c_8 (by decide)) (fun c_8 => ?_)
  refine lv_aload_n hx hb dX8_take_17 rfl (lv_at hl 1 rfl) ?_
  refine va_get (ci := 8) (v := .ref a1) (C := RX8) (T := TX8) (N := 6) hx hb hts hw8 hown hK hP 0 rfl rfl 0 (by decide) (hts (.fieldLink RX8 11 "SmokeTune$Tape" "bytes" "[I") (List.mem_cons_of_mem _ (List.mem_append_left _ (List.mem_of_getElem? (i := 1) rfl)))) (fun _ h9 => h9) rfl dX8_take_18 ?_
  refine lv_aload_n hx hb dX8_take_21 rfl (lv_at hl 1 rfl) ?_
  refine va_get (ci := 8) (v := .int 1) (C := RX8) (T := TX8) (N := 6) hx hb hts hw8 hown hK hP 0 rfl rfl 1 (by decide) (hts (.fieldLink RX8 15 "SmokeTune$Tape" "length" "I") (List.mem_cons_of_mem _ (List.mem_append_left _ (List.mem_of_getElem? (i := 0) rfl)))) (fun _ h9 => h9) rfl dX8_take_22 ?_
  refine lv_iload_n hx hb dX8_take_25 rfl (lv_at hl 2 rfl) ?_
  refine lv_iload_n hx hb dX8_take_26 rfl (lv_at hl 0 rfl) ?_
  refine lv_ishr hx hb dX8_take_27 ?_
  refine lv_topi (fun x_9 ex_9 => ?_)
  refine lv_sipush (v := 255) hx hb dX8_take_28 (by decide) ?_
  refine lv_iand hx hb dX8_take_31 ?_
  refine lv_topi (fun x_10 ex_10 => ?_)
  refine va_iast hx hb hK hP hD hS 1 0 rfl rfl (i_in (x := 1) rfl (by omega)) dX8_take_32 (fun H locs hP hD hS => ?_)
  generalize hf_11 : (upd f_5 (1 : Int32).toNatClampNeg x_10) = f_11 at hP hD
  have hP : va_P D vwCl [(a0, .inr (8, [.ref a1, .int 1, g2, g3, g4, g5])), (a1, .inl (K 0, 400, .inl f_11))] H := hP
  have hD : va_D A [(a0, .inr (8, [.ref a1, .int 1, g2, g3, g4, g5])), (a1, .inl (K 0, 400, .inl f_11))] := hD
  refine lv_aload_n hx hb dX8_take_33 rfl (lv_at hl 1 rfl) ?_
  refine lv_dup hx hb dX8_take_34 rfl ?_
  refine va_get (ci := 8) (v := .int 1) (C := RX8) (T := TX8) (N := 6) hx hb hts hw8 hown hK hP 0 rfl rfl 1 (by decide) (hts (.fieldLink RX8 15 "SmokeTune$Tape" "length" "I") (List.mem_cons_of_mem _ (List.mem_append_left _ (List.mem_of_getElem? (i := 0) rfl)))) (fun _ h9 => h9) rfl dX8_take_35 ?_
  refine lv_iconst (v := 1) hx hb dX8_take_38 (by decide) ?_
  refine lv_iadd hx hb dX8_take_39 ?_
  refine lv_topi (fun x_12 ex_12 => ?_)
  obtain rfl : x_12 = 2 := ex_12.trans (by first | rfl | decide)
  refine va_put (ci := 8) (v := .int 2) (ty := .int) (C := RX8) (T := TX8) (N := 6) hx hb hts hw8 tyX8 tyX8_ok nmX8 hown hK hP hD hS 0 rfl rfl 1 (by decide) (hts (.fieldLink RX8 15 "SmokeTune$Tape" "length" "I") (List.mem_cons_of_mem _ (List.mem_append_left _ (List.mem_of_getElem? (i := 0) rfl)))) (fun _ h9 => h9) rfl (by decide +kernel) (by first | rfl | decide) (by first | rfl | decide) (Nat.le_of_ble_eq_true rfl) dX8_take_40 (fun H locs hP hD hS => ?_)
  have hP : va_P D vwCl [(a0, .inr (8, [.ref a1, .int 2, g2, g3, g4, g5])), (a1, .inl (K 0, 400, .inl f_11))] H := hP
  have hD : va_D A [(a0, .inr (8, [.ref a1, .int 2, g2, g3, g4, g5])), (a1, .inl (K 0, 400, .inl f_11))] := hD
  refine lv_iinc (v := 8) (lv' := [(2, .int 8), (0, .ref a0), (1, .int x)]) hx hb dX8_take_43 hl (k := 0) rfl (by decide) (by decide) rfl (fun ls hl => ?_)
  refine lv_goto (tgt := 3) hx hb dX8_take_46 (by decide) ?_
  refine lv_iload_n hx hb dX8_take_3 rfl (lv_at hl 0 rfl) ?_
  refine lv_if_lt (tgt := 49) hx hb dX8_take_4 (by decide) (fun c_13 => absurd c_13 (by decide)) (fun c_13 => ?_)
  refine lv_aload_n hx hb dX8_take_7 rfl (lv_at hl 1 rfl) ?_
  refine va_get (ci := 8) (v := .int 2) (C := RX8) (T := TX8) (N := 6) hx hb hts hw8 hown hK hP 0 rfl rfl 1 (by decide) (hts (.fieldLink RX8 15 "SmokeTune$Tape" "length" "I") (List.mem_cons_of_mem _ (List.mem_append_left _ (List.mem_of_getElem? (i := 0) rfl)))) (fun _ h9 => h9) rfl dX8_take_8 ?_
  refine lv_sipush (v := 400) hx hb dX8_take_11 (by decide) ?_
  refine lv_icmp_ge (tgt := 49) hx hb dX8_take_14 (by decide) (fun c_14 => absurd c_14 (by decide)) (fun c_14 => ?_)
  refine lv_aload_n hx hb dX8_take_17 rfl (lv_at hl 1 rfl) ?_
  refine va_get (ci := 8) (v := .ref a1) (C := RX8) (T := TX8) (N := 6) hx hb hts hw8 hown hK hP 0 rfl rfl 0 (by decide) (hts (.fieldLink RX8 11 "SmokeTune$Tape" "bytes" "[I") (List.mem_cons_of_mem _ (List.mem_append_left _ (List.mem_of_getElem? (i := 1) rfl)))) (fun _ h9 => h9) rfl dX8_take_18 ?_
  refine lv_aload_n hx hb dX8_take_21 rfl (lv_at hl 1 rfl) ?_
  refine va_get (ci := 8) (v := .int 2) (C := RX8) (T := TX8) (N := 6) hx hb hts hw8 hown hK hP 0 rfl rfl 1 (by decide) (hts (.fieldLink RX8 15 "SmokeTune$Tape" "length" "I") (List.mem_cons_of_mem _ (List.mem_append_left _ (List.mem_of_getElem? (i := 0) rfl)))) (fun _ h9 => h9) rfl dX8_take_22 ?_
  refine lv_iload_n hx hb dX8_take_25 rfl (lv_at hl 2 rfl) ?_
  refine lv_iload_n hx hb dX8_take_26 rfl (lv_at hl 0 rfl) ?_
  refine lv_ishr hx hb dX8_take_27 ?_
  refine lv_topi (fun x_15 ex_15 => ?_)
  refine lv_sipush (v := 255) hx hb dX8_take_28 (by decide) ?_
  refine lv_iand hx hb dX8_take_31 ?_
  refine lv_topi (fun x_16 ex_16 => ?_)
  refine va_iast hx hb hK hP hD hS 1 0 rfl rfl (i_in (x := 2) rfl (by omega)) dX8_take_32 (fun H locs hP hD hS => ?_)
  generalize hf_17 : (upd f_11 (2 : Int32).toNatClampNeg x_16) = f_17 at hP hD
  have hP : va_P D vwCl [(a0, .inr (8, [.ref a1, .int 2, g2, g3, g4, g5])), (a1, .inl (K 0, 400, .inl f_17))] H := hP
  have hD : va_D A [(a0, .inr (8, [.ref a1, .int 2, g2, g3, g4, g5])), (a1, .inl (K 0, 400, .inl f_17))] := hD
  refine lv_aload_n hx hb dX8_take_33 rfl (lv_at hl 1 rfl) ?_
  refine lv_dup hx hb dX8_take_34 rfl ?_
  refine va_get (ci := 8) (v := .int 2) (C := RX8) (T := TX8) (N := 6) hx hb hts hw8 hown hK hP 0 rfl rfl 1 (by decide) (hts (.fieldLink RX8 15 "SmokeTune$Tape" "length" "I") (List.mem_cons_of_mem _ (List.mem_append_left _ (List.mem_of_getElem? (i := 0) rfl)))) (fun _ h9 => h9) rfl dX8_take_35 ?_
  refine lv_iconst (v := 1) hx hb dX8_take_38 (by decide) ?_
  refine lv_iadd hx hb dX8_take_39 ?_
  refine lv_topi (fun x_18 ex_18 => ?_)
  obtain rfl : x_18 = 3 := ex_18.trans (by first | rfl | decide)
  refine va_put (ci := 8) (v := .int 3) (ty := .int) (C := RX8) (T := TX8) (N := 6) hx hb hts hw8 tyX8 tyX8_ok nmX8 hown hK hP hD hS 0 rfl rfl 1 (by decide) (hts (.fieldLink RX8 15 "SmokeTune$Tape" "length" "I") (List.mem_cons_of_mem _ (List.mem_append_left _ (List.mem_of_getElem? (i := 0) rfl)))) (fun _ h9 => h9) rfl (by decide +kernel) (by first | rfl | decide) (by first | rfl | decide) (Nat.le_of_ble_eq_true rfl) dX8_take_40 (fun H locs hP hD hS => ?_)
  have hP : va_P D vwCl [(a0, .inr (8, [.ref a1, .int 3, g2, g3, g4, g5])), (a1, .inl (K 0, 400, .inl f_17))] H := hP
  have hD : va_D A [(a0, .inr (8, [.ref a1, .int 3, g2, g3, g4, g5])), (a1, .inl (K 0, 400, .inl f_17))] := hD
  refine lv_iinc (v := 0) (lv' := [(2, .int 0), (0, .ref a0), (1, .int x)]) hx hb dX8_take_43 hl (k := 0) rfl (by decide) (by decide) rfl (fun ls hl => ?_)
  refine lv_goto (tgt := 3) hx hb dX8_take_46 (by decide) ?_
  refine lv_iload_n hx hb dX8_take_3 rfl (lv_at hl 0 rfl) ?_
  refine lv_if_lt (tgt := 49) hx hb dX8_take_4 (by decide) (fun c_19 => absurd c_19 (by decide)) (fun c_19 => ?_)
  refine lv_aload_n hx hb dX8_take_7 rfl (lv_at hl 1 rfl) ?_
  refine va_get (ci := 8) (v := .int 3) (C := RX8) (T := TX8) (N := 6) hx hb hts hw8 hown hK hP 0 rfl rfl 1 (by decide) (hts (.fieldLink RX8 15 "SmokeTune$Tape" "length" "I") (List.mem_cons_of_mem _ (List.mem_append_left _ (List.mem_of_getElem? (i := 0) rfl)))) (fun _ h9 => h9) rfl dX8_take_8 ?_
  refine lv_sipush (v := 400) hx hb dX8_take_11 (by decide) ?_
  refine lv_icmp_ge (tgt := 49) hx hb dX8_take_14 (by decide) (fun c_20 => absurd c_20 (by decide)) (fun c_20 => ?_)
  refine lv_aload_n hx hb dX8_take_17 rfl (lv_at hl 1 rfl) ?_
  refine va_get (ci := 8) (v := .ref a1) (C := RX8) (T := TX8) (N := 6) hx hb hts hw8 hown hK hP 0 rfl rfl 0 (by decide) (hts (.fieldLink RX8 11 "SmokeTune$Tape" "bytes" "[I") (List.mem_cons_of_mem _ (List.mem_append_left _ (List.mem_of_getElem? (i := 1) rfl)))) (fun _ h9 => h9) rfl dX8_take_18 ?_
  refine lv_aload_n hx hb dX8_take_21 rfl (lv_at hl 1 rfl) ?_
  refine va_get (ci := 8) (v := .int 3) (C := RX8) (T := TX8) (N := 6) hx hb hts hw8 hown hK hP 0 rfl rfl 1 (by decide) (hts (.fieldLink RX8 15 "SmokeTune$Tape" "length" "I") (List.mem_cons_of_mem _ (List.mem_append_left _ (List.mem_of_getElem? (i := 0) rfl)))) (fun _ h9 => h9) rfl dX8_take_22 ?_
  refine lv_iload_n hx hb dX8_take_25 rfl (lv_at hl 2 rfl) ?_
  refine lv_iload_n hx hb dX8_take_26 rfl (lv_at hl 0 rfl) ?_
  refine lv_ishr hx hb dX8_take_27 ?_
  refine lv_topi (fun x_21 ex_21 => ?_)
  refine lv_sipush (v := 255) hx hb dX8_take_28 (by decide) ?_
  refine lv_iand hx hb dX8_take_31 ?_
  refine lv_topi (fun x_22 ex_22 => ?_)
  refine va_iast hx hb hK hP hD hS 1 0 rfl rfl (i_in (x := 3) rfl (by omega)) dX8_take_32 (fun H locs hP hD hS => ?_)
  generalize hf_23 : (upd f_17 (3 : Int32).toNatClampNeg x_22) = f_23 at hP hD
  have hP : va_P D vwCl [(a0, .inr (8, [.ref a1, .int 3, g2, g3, g4, g5])), (a1, .inl (K 0, 400, .inl f_23))] H := hP
  have hD : va_D A [(a0, .inr (8, [.ref a1, .int 3, g2, g3, g4, g5])), (a1, .inl (K 0, 400, .inl f_23))] := hD
  refine lv_aload_n hx hb dX8_take_33 rfl (lv_at hl 1 rfl) ?_
  refine lv_dup hx hb dX8_take_34 rfl ?_
  refine va_get (ci := 8) (v := .int 3) (C := RX8) (T := TX8) (N := 6) hx hb hts hw8 hown hK hP 0 rfl rfl 1 (by decide) (hts (.fieldLink RX8 15 "SmokeTune$Tape" "length" "I") (List.mem_cons_of_mem _ (List.mem_append_left _ (List.mem_of_getElem? (i := 0) rfl)))) (fun _ h9 => h9) rfl dX8_take_35 ?_
  refine lv_iconst (v := 1) hx hb dX8_take_38 (by decide) ?_
  refine lv_iadd hx hb dX8_take_39 ?_
  refine lv_topi (fun x_24 ex_24 => ?_)
  obtain rfl : x_24 = 4 := ex_24.trans (by first | rfl | decide)
  refine va_put (ci := 8) (v := .int 4) (ty := .int) (C := RX8) (T := TX8) (N := 6) hx hb hts hw8 tyX8 tyX8_ok nmX8 hown hK hP hD hS 0 rfl rfl 1 (by decide) (hts (.fieldLink RX8 15 "SmokeTune$Tape" "length" "I") (List.mem_cons_of_mem _ (List.mem_append_left _ (List.mem_of_getElem? (i := 0) rfl)))) (fun _ h9 => h9) rfl (by decide +kernel) (by first | rfl | decide) (by first | rfl | decide) (Nat.le_of_ble_eq_true rfl) dX8_take_40 (fun H locs hP hD hS => ?_)
  have hP : va_P D vwCl [(a0, .inr (8, [.ref a1, .int 4, g2, g3, g4, g5])), (a1, .inl (K 0, 400, .inl f_23))] H := hP
  have hD : va_D A [(a0, .inr (8, [.ref a1, .int 4, g2, g3, g4, g5])), (a1, .inl (K 0, 400, .inl f_23))] := hD
  refine lv_iinc (v := (-8)) (lv' := [(2, .int (-8)), (0, .ref a0), (1, .int x)]) hx hb dX8_take_43 hl (k := 0) rfl (by decide) (by decide) rfl (fun ls hl => ?_)
  refine lv_goto (tgt := 3) hx hb dX8_take_46 (by decide) ?_
  refine lv_iload_n hx hb dX8_take_3 rfl (lv_at hl 0 rfl) ?_
  refine lv_if_lt (tgt := 49) hx hb dX8_take_4 (by decide) (fun c_25 => ?_) (fun c_25 => absurd (by decide) c_25)
  have hP9 := hP.sub (ws' := [(a0, .inr (8, [.ref a1, .int 4, g2, g3, g4, g5])), (a1, .inl (K 0, 400, .inl f_23))]) [0, 1] rfl
  have hD9 := hD.sub (ws' := [(a0, .inr (8, [.ref a1, .int 4, g2, g3, g4, g5])), (a1, .inl (K 0, 400, .inl f_23))]) [0, 1] (by decide) rfl
  exact W.vret hx hb hr (fun t ht hW => ⟨⟨(fun _ => 0, fun i => match i with | _ => f_23, fun _ => fun _ => 0, fun _ => 0), rfl, trivial, (⟨by rw [ht]; exact hP9, hD9⟩ : Wd D A _ t)⟩, hS.F ht⟩) hS.2.2 dX8_take_49
set_option maxHeartbeats 4000000 in
set_option maxRecDepth 100000 in
theorem c_take_4 (l : Launch) (D : va_G) (K : Nat → ClassId) (a0 : Nat) (x : Int32) (a1 : Nat) (g2 : Value) (g3 : Value) (g4 : Value) (g5 : Value) (f : Nat → Int32) (sz : Nat) : Met l yX8_take wsX8_take ({ frames := 0, cells := 0, slots := 0, locals := 0 }) (va_Pc [.ref a0, .int x] (Pre D K [(a0, .inr (8, [.ref a1, .int 4, g2, g3, g4, g5])), (a1, .inl (K 0, 400, .inl f))] sz)) (va_Qv (S := (Nat → Nat) × (Nat → Nat → Int32) × (Nat → Nat → Int64) × (Nat → Int32)) (fun _ => True) (fun u t => Wd D (va_A [(a0, .inr (8, [.ref a1, .int 4, g2, g3, g4, g5])), (a1, .inl (K 0, 400, .inl f))] sz) ((fun u => [(a0, .inr (8, [.ref a1, .int 8, g2, g3, g4, g5])), (a1, .inl (K 0, 400, .inl ((u.2.1 0))))]) u) t) (va_A [(a0, .inr (8, [.ref a1, .int 4, g2, g3, g4, g5])), (a1, .inl (K 0, 400, .inl f))] sz)) 0 0 (va_A [(a0, .inr (8, [.ref a1, .int 4, g2, g3, g4, g5])), (a1, .inl (K 0, 400, .inl f))] sz) := by
  refine Met.ofW (cc := cX8_take) (maxL := 3) (ret := none) (by decide) rfl ?_
  intro p e s m args below meth c s₁ B hml hv
  obtain ⟨rfl, hsz, hP, hK, hD0, hN⟩ := hv
  have hx := B.exec
  have hb := B.bytes
  have hr := B.returns
  have hts := atoms_spec (ws := wsX8_take) B.pre
  have hown : s.vm.findClass RX8 = some m.cls := findClass_of_methodNamed B.named
  have hlocks := B.notSynchronized
  subst hsz
  have hD := hD0.self (sz := s.heap.size)
  generalize hAe : va_A [(a0, .inr (8, [.ref a1, .int 4, g2, g3, g4, g5])), (a1, .inl (K 0, 400, .inl f))] s.heap.size = A at hD ⊢
  have hA : ∀ q : Nat, s.heap.size ≤ q → A q := fun q h => by rw [← hAe]; exact Or.inr h
  have hS : va_S A s.heap s.heap [] := va_S.rf
  have hP : va_P D vwCl [(a0, .inr (8, [.ref a1, .int 4, g2, g3, g4, g5])), (a1, .inl (K 0, 400, .inl f))] s.heap := hP
  have hl := lv_entry [.ref a0, .int x] (n := 3) (Nat.le_of_ble_eq_true rfl)
  rw [lg_entry_eq]
  generalize (lg_sl [.ref a0, .int x] ++ List.replicate (3 - (lg_sl [.ref a0, .int x]).length) Slot.unset).toArray = ls at hl ⊢
  have hl : lv_has ls 3 [(0, .ref a0), (1, .int x)] := hl
  have hw8 : ∀ w ∈ wsX80, w ∈ wsX8_take := fun w h => (List.mem_cons_of_mem _ (List.mem_append_right _ h))
  refine lv_bipush (v := 24) hx hb dX8_take_0 (by decide) ?_
  refine lv_istore_n (lv' := [(2, .int 24), (0, .ref a0), (1, .int x)]) hx hb dX8_take_2 rfl hl (by decide) rfl (fun ls hl => ?_)
  refine lv_iload_n hx hb dX8_take_3 rfl (lv_at hl 0 rfl) ?_
  refine lv_if_lt (tgt := 49) hx hb dX8_take_4 (by decide) (fun c_1 => absurd c_1 (by decide)) (fun c_1 => ?_)
  refine lv_aload_n hx hb dX8_take_7 rfl (lv_at hl 1 rfl) ?_
  refine va_get (ci := 8) (v := .int 4) (C := RX8) (T := TX8) (N := 6) hx hb hts hw8 hown hK hP 0 rfl rfl 1 (by decide) (hts (.fieldLink RX8 15 "SmokeTune$Tape" "length" "I") (List.mem_cons_of_mem _ (List.mem_append_left _ (List.mem_of_getElem? (i := 0) rfl)))) (fun _ h9 => h9) rfl dX8_take_8 ?_
  refine lv_sipush (v := 400) hx hb dX8_take_11 (by decide) ?_
  refine lv_icmp_ge (tgt := 49) hx hb dX8_take_14 (by decide) (fun c_2 => absurd c_2 (by decide)) (fun c_2 => ?_)
  refine lv_aload_n hx hb dX8_take_17 rfl (lv_at hl 1 rfl) ?_
  refine va_get (ci := 8) (v := .ref a1) (C := RX8) (T := TX8) (N := 6) hx hb hts hw8 hown hK hP 0 rfl rfl 0 (by decide) (hts (.fieldLink RX8 11 "SmokeTune$Tape" "bytes" "[I") (List.mem_cons_of_mem _ (List.mem_append_left _ (List.mem_of_getElem? (i := 1) rfl)))) (fun _ h9 => h9) rfl dX8_take_18 ?_
  refine lv_aload_n hx hb dX8_take_21 rfl (lv_at hl 1 rfl) ?_
  refine va_get (ci := 8) (v := .int 4) (C := RX8) (T := TX8) (N := 6) hx hb hts hw8 hown hK hP 0 rfl rfl 1 (by decide) (hts (.fieldLink RX8 15 "SmokeTune$Tape" "length" "I") (List.mem_cons_of_mem _ (List.mem_append_left _ (List.mem_of_getElem? (i := 0) rfl)))) (fun _ h9 => h9) rfl dX8_take_22 ?_
  refine lv_iload_n hx hb dX8_take_25 rfl (lv_at hl 2 rfl) ?_
  refine lv_iload_n hx hb dX8_take_26 rfl (lv_at hl 0 rfl) ?_
  refine lv_ishr hx hb dX8_take_27 ?_
  refine lv_topi (fun x_3 ex_3 => ?_)
  refine lv_sipush (v := 255) hx hb dX8_take_28 (by decide) ?_
  refine lv_iand hx hb dX8_take_31 ?_
  refine lv_topi (fun x_4 ex_4 => ?_)
  refine va_iast hx hb hK hP hD hS 1 0 rfl rfl (i_in (x := 4) rfl (by omega)) dX8_take_32 (fun H locs hP hD hS => ?_)
  generalize hf_5 : (upd f (4 : Int32).toNatClampNeg x_4) = f_5 at hP hD
  have hP : va_P D vwCl [(a0, .inr (8, [.ref a1, .int 4, g2, g3, g4, g5])), (a1, .inl (K 0, 400, .inl f_5))] H := hP
  have hD : va_D A [(a0, .inr (8, [.ref a1, .int 4, g2, g3, g4, g5])), (a1, .inl (K 0, 400, .inl f_5))] := hD
  refine lv_aload_n hx hb dX8_take_33 rfl (lv_at hl 1 rfl) ?_
  refine lv_dup hx hb dX8_take_34 rfl ?_
  refine va_get (ci := 8) (v := .int 4) (C := RX8) (T := TX8) (N := 6) hx hb hts hw8 hown hK hP 0 rfl rfl 1 (by decide) (hts (.fieldLink RX8 15 "SmokeTune$Tape" "length" "I") (List.mem_cons_of_mem _ (List.mem_append_left _ (List.mem_of_getElem? (i := 0) rfl)))) (fun _ h9 => h9) rfl dX8_take_35 ?_
  refine lv_iconst (v := 1) hx hb dX8_take_38 (by decide) ?_
  refine lv_iadd hx hb dX8_take_39 ?_
  refine lv_topi (fun x_6 ex_6 => ?_)
  obtain rfl : x_6 = 5 := ex_6.trans (by first | rfl | decide)
  refine va_put (ci := 8) (v := .int 5) (ty := .int) (C := RX8) (T := TX8) (N := 6) hx hb hts hw8 tyX8 tyX8_ok nmX8 hown hK hP hD hS 0 rfl rfl 1 (by decide) (hts (.fieldLink RX8 15 "SmokeTune$Tape" "length" "I") (List.mem_cons_of_mem _ (List.mem_append_left _ (List.mem_of_getElem? (i := 0) rfl)))) (fun _ h9 => h9) rfl (by decide +kernel) (by first | rfl | decide) (by first | rfl | decide) (Nat.le_of_ble_eq_true rfl) dX8_take_40 (fun H locs hP hD hS => ?_)
  have hP : va_P D vwCl [(a0, .inr (8, [.ref a1, .int 5, g2, g3, g4, g5])), (a1, .inl (K 0, 400, .inl f_5))] H := hP
  have hD : va_D A [(a0, .inr (8, [.ref a1, .int 5, g2, g3, g4, g5])), (a1, .inl (K 0, 400, .inl f_5))] := hD
  refine lv_iinc (v := 16) (lv' := [(2, .int 16), (0, .ref a0), (1, .int x)]) hx hb dX8_take_43 hl (k := 0) rfl (by decide) (by decide) rfl (fun ls hl => ?_)
  refine lv_goto (tgt := 3) hx hb dX8_take_46 (by decide) ?_
  refine lv_iload_n hx hb dX8_take_3 rfl (lv_at hl 0 rfl) ?_
  refine lv_if_lt (tgt := 49) hx hb dX8_take_4 (by decide) (fun c_7 => absurd c_7 (by decide)) (fun c_7 => ?_)
  refine lv_aload_n hx hb dX8_take_7 rfl (lv_at hl 1 rfl) ?_
  refine va_get (ci := 8) (v := .int 5) (C := RX8) (T := TX8) (N := 6) hx hb hts hw8 hown hK hP 0 rfl rfl 1 (by decide) (hts (.fieldLink RX8 15 "SmokeTune$Tape" "length" "I") (List.mem_cons_of_mem _ (List.mem_append_left _ (List.mem_of_getElem? (i := 0) rfl)))) (fun _ h9 => h9) rfl dX8_take_8 ?_
  refine lv_sipush (v := 400) hx hb dX8_take_11 (by decide) ?_
  refine lv_icmp_ge (tgt := 49) hx hb dX8_take_14 (by decide) (fun c_8 => absurd c_8 (by decide)) (fun c_8 => ?_)
  refine lv_aload_n hx hb dX8_take_17 rfl (lv_at hl 1 rfl) ?_
  refine va_get (ci := 8) (v := .ref a1) (C := RX8) (T := TX8) (N := 6) hx hb hts hw8 hown hK hP 0 rfl rfl 0 (by decide) (hts (.fieldLink RX8 11 "SmokeTune$Tape" "bytes" "[I") (List.mem_cons_of_mem _ (List.mem_append_left _ (List.mem_of_getElem? (i := 1) rfl)))) (fun _ h9 => h9) rfl dX8_take_18 ?_
  refine lv_aload_n hx hb dX8_take_21 rfl (lv_at hl 1 rfl) ?_
  refine va_get (ci := 8) (v := .int 5) (C := RX8) (T := TX8) (N := 6) hx hb hts hw8 hown hK hP 0 rfl rfl 1 (by decide) (hts (.fieldLink RX8 15 "SmokeTune$Tape" "length" "I") (List.mem_cons_of_mem _ (List.mem_append_left _ (List.mem_of_getElem? (i := 0) rfl)))) (fun _ h9 => h9) rfl dX8_take_22 ?_
  refine lv_iload_n hx hb dX8_take_25 rfl (lv_at hl 2 rfl) ?_
  refine lv_iload_n hx hb dX8_take_26 rfl (lv_at hl 0 rfl) ?_
  refine lv_ishr hx hb dX8_take_27 ?_
  refine lv_topi (fun x_9 ex_9 => ?_)
  refine lv_sipush (v := 255) hx hb dX8_take_28 (by decide) ?_
  refine lv_iand hx hb dX8_take_31 ?_
  refine lv_topi (fun x_10 ex_10 => ?_)
  refine va_iast hx hb hK hP hD hS 1 0 rfl rfl (i_in (x := 5) rfl (by omega)) dX8_take_32 (fun H locs hP hD hS => ?_)
  generalize hf_11 : (upd f_5 (5 : Int32).toNatClampNeg x_10) = f_11 at hP hD
  have hP : va_P D vwCl [(a0, .inr (8, [.ref a1, .int 5, g2, g3, g4, g5])), (a1, .inl (K 0, 400, .inl f_11))] H := hP
  have hD : va_D A [(a0, .inr (8, [.ref a1, .int 5, g2, g3, g4, g5])), (a1, .inl (K 0, 400, .inl f_11))] := hD
  refine lv_aload_n hx hb dX8_take_33 rfl (lv_at hl 1 rfl) ?_
  refine lv_dup hx hb dX8_take_34 rfl ?_
  refine va_get (ci := 8) (v := .int 5) (C := RX8) (T := TX8) (N := 6) hx hb hts hw8 hown hK hP 0 rfl rfl 1 (by decide) (hts (.fieldLink RX8 15 "SmokeTune$Tape" "length" "I") (List.mem_cons_of_mem _ (List.mem_append_left _ (List.mem_of_getElem? (i := 0) rfl)))) (fun _ h9 => h9) rfl dX8_take_35 ?_
  refine lv_iconst (v := 1) hx hb dX8_take_38 (by decide) ?_
  refine lv_iadd hx hb dX8_take_39 ?_
  refine lv_topi (fun x_12 ex_12 => ?_)
  obtain rfl : x_12 = 6 := ex_12.trans (by first | rfl | decide)
  refine va_put (ci := 8) (v := .int 6) (ty := .int) (C := RX8) (T := TX8) (N := 6) hx hb hts hw8 tyX8 tyX8_ok nmX8 hown hK hP hD hS 0 rfl rfl 1 (by decide) (hts (.fieldLink RX8 15 "SmokeTune$Tape" "length" "I") (List.mem_cons_of_mem _ (List.mem_append_left _ (List.mem_of_getElem? (i := 0) rfl)))) (fun _ h9 => h9) rfl (by decide +kernel) (by first | rfl | decide) (by first | rfl | decide) (Nat.le_of_ble_eq_true rfl) dX8_take_40 (fun H locs hP hD hS => ?_)
  have hP : va_P D vwCl [(a0, .inr (8, [.ref a1, .int 6, g2, g3, g4, g5])), (a1, .inl (K 0, 400, .inl f_11))] H := hP
  have hD : va_D A [(a0, .inr (8, [.ref a1, .int 6, g2, g3, g4, g5])), (a1, .inl (K 0, 400, .inl f_11))] := hD
  refine lv_iinc (v := 8) (lv' := [(2, .int 8), (0, .ref a0), (1, .int x)]) hx hb dX8_take_43 hl (k := 0) rfl (by decide) (by decide) rfl (fun ls hl => ?_)
  refine lv_goto (tgt := 3) hx hb dX8_take_46 (by decide) ?_
  refine lv_iload_n hx hb dX8_take_3 rfl (lv_at hl 0 rfl) ?_
  refine lv_if_lt (tgt := 49) hx hb dX8_take_4 (by decide) (fun c_13 => absurd c_13 (by decide)) (fun c_13 => ?_)
  refine lv_aload_n hx hb dX8_take_7 rfl (lv_at hl 1 rfl) ?_
  refine va_get (ci := 8) (v := .int 6) (C := RX8) (T := TX8) (N := 6) hx hb hts hw8 hown hK hP 0 rfl rfl 1 (by decide) (hts (.fieldLink RX8 15 "SmokeTune$Tape" "length" "I") (List.mem_cons_of_mem _ (List.mem_append_left _ (List.mem_of_getElem? (i := 0) rfl)))) (fun _ h9 => h9) rfl dX8_take_8 ?_
  refine lv_sipush (v := 400) hx hb dX8_take_11 (by decide) ?_
  refine lv_icmp_ge (tgt := 49) hx hb dX8_take_14 (by decide) (fun c_14 => absurd c_14 (by decide)) (fun c_14 => ?_)
  refine lv_aload_n hx hb dX8_take_17 rfl (lv_at hl 1 rfl) ?_
  refine va_get (ci := 8) (v := .ref a1) (C := RX8) (T := TX8) (N := 6) hx hb hts hw8 hown hK hP 0 rfl rfl 0 (by decide) (hts (.fieldLink RX8 11 "SmokeTune$Tape" "bytes" "[I") (List.mem_cons_of_mem _ (List.mem_append_left _ (List.mem_of_getElem? (i := 1) rfl)))) (fun _ h9 => h9) rfl dX8_take_18 ?_
  refine lv_aload_n hx hb dX8_take_21 rfl (lv_at hl 1 rfl) ?_
  refine va_get (ci := 8) (v := .int 6) (C := RX8) (T := TX8) (N := 6) hx hb hts hw8 hown hK hP 0 rfl rfl 1 (by decide) (hts (.fieldLink RX8 15 "SmokeTune$Tape" "length" "I") (List.mem_cons_of_mem _ (List.mem_append_left _ (List.mem_of_getElem? (i := 0) rfl)))) (fun _ h9 => h9) rfl dX8_take_22 ?_
  refine lv_iload_n hx hb dX8_take_25 rfl (lv_at hl 2 rfl) ?_
  refine lv_iload_n hx hb dX8_take_26 rfl (lv_at hl 0 rfl) ?_
  refine lv_ishr hx hb dX8_take_27 ?_
  refine lv_topi (fun x_15 ex_15 => ?_)
  refine lv_sipush (v := 255) hx hb dX8_take_28 (by decide) ?_
  refine lv_iand hx hb dX8_take_31 ?_
  refine lv_topi (fun x_16 ex_16 => ?_)
  refine va_iast hx hb hK hP hD hS 1 0 rfl rfl (i_in (x := 6) rfl (by omega)) dX8_take_32 (fun H locs hP hD hS => ?_)
  generalize hf_17 : (upd f_11 (6 : Int32).toNatClampNeg x_16) = f_17 at hP hD
  have hP : va_P D vwCl [(a0, .inr (8, [.ref a1, .int 6, g2, g3, g4, g5])), (a1, .inl (K 0, 400, .inl f_17))] H := hP
  have hD : va_D A [(a0, .inr (8, [.ref a1, .int 6, g2, g3, g4, g5])), (a1, .inl (K 0, 400, .inl f_17))] := hD
  refine lv_aload_n hx hb dX8_take_33 rfl (lv_at hl 1 rfl) ?_
  refine lv_dup hx hb dX8_take_34 rfl ?_
  refine va_get (ci := 8) (v := .int 6) (C := RX8) (T := TX8) (N := 6) hx hb hts hw8 hown hK hP 0 rfl rfl 1 (by decide) (hts (.fieldLink RX8 15 "SmokeTune$Tape" "length" "I") (List.mem_cons_of_mem _ (List.mem_append_left _ (List.mem_of_getElem? (i := 0) rfl)))) (fun _ h9 => h9) rfl dX8_take_35 ?_
  refine lv_iconst (v := 1) hx hb dX8_take_38 (by decide) ?_
  refine lv_iadd hx hb dX8_take_39 ?_
  refine lv_topi (fun x_18 ex_18 => ?_)
  obtain rfl : x_18 = 7 := ex_18.trans (by first | rfl | decide)
  refine va_put (ci := 8) (v := .int 7) (ty := .int) (C := RX8) (T := TX8) (N := 6) hx hb hts hw8 tyX8 tyX8_ok nmX8 hown hK hP hD hS 0 rfl rfl 1 (by decide) (hts (.fieldLink RX8 15 "SmokeTune$Tape" "length" "I") (List.mem_cons_of_mem _ (List.mem_append_left _ (List.mem_of_getElem? (i := 0) rfl)))) (fun _ h9 => h9) rfl (by decide +kernel) (by first | rfl | decide) (by first | rfl | decide) (Nat.le_of_ble_eq_true rfl) dX8_take_40 (fun H locs hP hD hS => ?_)
  have hP : va_P D vwCl [(a0, .inr (8, [.ref a1, .int 7, g2, g3, g4, g5])), (a1, .inl (K 0, 400, .inl f_17))] H := hP
  have hD : va_D A [(a0, .inr (8, [.ref a1, .int 7, g2, g3, g4, g5])), (a1, .inl (K 0, 400, .inl f_17))] := hD
  refine lv_iinc (v := 0) (lv' := [(2, .int 0), (0, .ref a0), (1, .int x)]) hx hb dX8_take_43 hl (k := 0) rfl (by decide) (by decide) rfl (fun ls hl => ?_)
  refine lv_goto (tgt := 3) hx hb dX8_take_46 (by decide) ?_
  refine lv_iload_n hx hb dX8_take_3 rfl (lv_at hl 0 rfl) ?_
  refine lv_if_lt (tgt := 49) hx hb dX8_take_4 (by decide) (fun c_19 => absurd c_19 (by decide)) (fun c_19 => ?_)
  refine lv_aload_n hx hb dX8_take_7 rfl (lv_at hl 1 rfl) ?_
  refine va_get (ci := 8) (v := .int 7) (C := RX8) (T := TX8) (N := 6) hx hb hts hw8 hown hK hP 0 rfl rfl 1 (by decide) (hts (.fieldLink RX8 15 "SmokeTune$Tape" "length" "I") (List.mem_cons_of_mem _ (List.mem_append_left _ (List.mem_of_getElem? (i := 0) rfl)))) (fun _ h9 => h9) rfl dX8_take_8 ?_
  refine lv_sipush (v := 400) hx hb dX8_take_11 (by decide) ?_
  refine lv_icmp_ge (tgt := 49) hx hb dX8_take_14 (by decide) (fun c_20 => absurd c_20 (by decide)) (fun c_20 => ?_)
  refine lv_aload_n hx hb dX8_take_17 rfl (lv_at hl 1 rfl) ?_
  refine va_get (ci := 8) (v := .ref a1) (C := RX8) (T := TX8) (N := 6) hx hb hts hw8 hown hK hP 0 rfl rfl 0 (by decide) (hts (.fieldLink RX8 11 "SmokeTune$Tape" "bytes" "[I") (List.mem_cons_of_mem _ (List.mem_append_left _ (List.mem_of_getElem? (i := 1) rfl)))) (fun _ h9 => h9) rfl dX8_take_18 ?_
  refine lv_aload_n hx hb dX8_take_21 rfl (lv_at hl 1 rfl) ?_
  refine va_get (ci := 8) (v := .int 7) (C := RX8) (T := TX8) (N := 6) hx hb hts hw8 hown hK hP 0 rfl rfl 1 (by decide) (hts (.fieldLink RX8 15 "SmokeTune$Tape" "length" "I") (List.mem_cons_of_mem _ (List.mem_append_left _ (List.mem_of_getElem? (i := 0) rfl)))) (fun _ h9 => h9) rfl dX8_take_22 ?_
  refine lv_iload_n hx hb dX8_take_25 rfl (lv_at hl 2 rfl) ?_
  refine lv_iload_n hx hb dX8_take_26 rfl (lv_at hl 0 rfl) ?_
  refine lv_ishr hx hb dX8_take_27 ?_
  refine lv_topi (fun x_21 ex_21 => ?_)
  refine lv_sipush (v := 255) hx hb dX8_take_28 (by decide) ?_
  refine lv_iand hx hb dX8_take_31 ?_
  refine lv_topi (fun x_22 ex_22 => ?_)
  refine va_iast hx hb hK hP hD hS 1 0 rfl rfl (i_in (x := 7) rfl (by omega)) dX8_take_32 (fun H locs hP hD hS => ?_)
  generalize hf_23 : (upd f_17 (7 : Int32).toNatClampNeg x_22) = f_23 at hP hD
  have hP : va_P D vwCl [(a0, .inr (8, [.ref a1, .int 7, g2, g3, g4, g5])), (a1, .inl (K 0, 400, .inl f_23))] H := hP
  have hD : va_D A [(a0, .inr (8, [.ref a1, .int 7, g2, g3, g4, g5])), (a1, .inl (K 0, 400, .inl f_23))] := hD
  refine lv_aload_n hx hb dX8_take_33 rfl (lv_at hl 1 rfl) ?_
  refine lv_dup hx hb dX8_take_34 rfl ?_
  refine va_get (ci := 8) (v := .int 7) (C := RX8) (T := TX8) (N := 6) hx hb hts hw8 hown hK hP 0 rfl rfl 1 (by decide) (hts (.fieldLink RX8 15 "SmokeTune$Tape" "length" "I") (List.mem_cons_of_mem _ (List.mem_append_left _ (List.mem_of_getElem? (i := 0) rfl)))) (fun _ h9 => h9) rfl dX8_take_35 ?_
  refine lv_iconst (v := 1) hx hb dX8_take_38 (by decide) ?_
  refine lv_iadd hx hb dX8_take_39 ?_
  refine lv_topi (fun x_24 ex_24 => ?_)
  obtain rfl : x_24 = 8 := ex_24.trans (by first | rfl | decide)
  refine va_put (ci := 8) (v := .int 8) (ty := .int) (C := RX8) (T := TX8) (N := 6) hx hb hts hw8 tyX8 tyX8_ok nmX8 hown hK hP hD hS 0 rfl rfl 1 (by decide) (hts (.fieldLink RX8 15 "SmokeTune$Tape" "length" "I") (List.mem_cons_of_mem _ (List.mem_append_left _ (List.mem_of_getElem? (i := 0) rfl)))) (fun _ h9 => h9) rfl (by decide +kernel) (by first | rfl | decide) (by first | rfl | decide) (Nat.le_of_ble_eq_true rfl) dX8_take_40 (fun H locs hP hD hS => ?_)
  have hP : va_P D vwCl [(a0, .inr (8, [.ref a1, .int 8, g2, g3, g4, g5])), (a1, .inl (K 0, 400, .inl f_23))] H := hP
  have hD : va_D A [(a0, .inr (8, [.ref a1, .int 8, g2, g3, g4, g5])), (a1, .inl (K 0, 400, .inl f_23))] := hD
  refine lv_iinc (v := (-8)) (lv' := [(2, .int (-8)), (0, .ref a0), (1, .int x)]) hx hb dX8_take_43 hl (k := 0) rfl (by decide) (by decide) rfl (fun ls hl => ?_)
  refine lv_goto (tgt := 3) hx hb dX8_take_46 (by decide) ?_
  refine lv_iload_n hx hb dX8_take_3 rfl (lv_at hl 0 rfl) ?_
  refine lv_if_lt (tgt := 49) hx hb dX8_take_4 (by decide) (fun c_25 => ?_) (fun c_25 => absurd (by decide) c_25)
  have hP9 := hP.sub (ws' := [(a0, .inr (8, [.ref a1, .int 8, g2, g3, g4, g5])), (a1, .inl (K 0, 400, .inl f_23))]) [0, 1] rfl
  have hD9 := hD.sub (ws' := [(a0, .inr (8, [.ref a1, .int 8, g2, g3, g4, g5])), (a1, .inl (K 0, 400, .inl f_23))]) [0, 1] (by decide) rfl
  exact W.vret hx hb hr (fun t ht hW => ⟨⟨(fun _ => 0, fun i => match i with | _ => f_23, fun _ => fun _ => 0, fun _ => 0), rfl, trivial, (⟨by rw [ht]; exact hP9, hD9⟩ : Wd D A _ t)⟩, hS.F ht⟩) hS.2.2 dX8_take_49
set_option maxHeartbeats 4000000 in
set_option maxRecDepth 100000 in
theorem c_take_8 (l : Launch) (D : va_G) (K : Nat → ClassId) (a0 : Nat) (x : Int32) (a1 : Nat) (g2 : Value) (g3 : Value) (g4 : Value) (g5 : Value) (f : Nat → Int32) (sz : Nat) : Met l yX8_take wsX8_take ({ frames := 0, cells := 0, slots := 0, locals := 0 }) (va_Pc [.ref a0, .int x] (Pre D K [(a0, .inr (8, [.ref a1, .int 8, g2, g3, g4, g5])), (a1, .inl (K 0, 400, .inl f))] sz)) (va_Qv (S := (Nat → Nat) × (Nat → Nat → Int32) × (Nat → Nat → Int64) × (Nat → Int32)) (fun _ => True) (fun u t => Wd D (va_A [(a0, .inr (8, [.ref a1, .int 8, g2, g3, g4, g5])), (a1, .inl (K 0, 400, .inl f))] sz) ((fun u => [(a0, .inr (8, [.ref a1, .int 12, g2, g3, g4, g5])), (a1, .inl (K 0, 400, .inl ((u.2.1 0))))]) u) t) (va_A [(a0, .inr (8, [.ref a1, .int 8, g2, g3, g4, g5])), (a1, .inl (K 0, 400, .inl f))] sz)) 0 0 (va_A [(a0, .inr (8, [.ref a1, .int 8, g2, g3, g4, g5])), (a1, .inl (K 0, 400, .inl f))] sz) := by
  refine Met.ofW (cc := cX8_take) (maxL := 3) (ret := none) (by decide) rfl ?_
  intro p e s m args below meth c s₁ B hml hv
  obtain ⟨rfl, hsz, hP, hK, hD0, hN⟩ := hv
  have hx := B.exec
  have hb := B.bytes
  have hr := B.returns
  have hts := atoms_spec (ws := wsX8_take) B.pre
  have hown : s.vm.findClass RX8 = some m.cls := findClass_of_methodNamed B.named
  have hlocks := B.notSynchronized
  subst hsz
  have hD := hD0.self (sz := s.heap.size)
  generalize hAe : va_A [(a0, .inr (8, [.ref a1, .int 8, g2, g3, g4, g5])), (a1, .inl (K 0, 400, .inl f))] s.heap.size = A at hD ⊢
  have hA : ∀ q : Nat, s.heap.size ≤ q → A q := fun q h => by rw [← hAe]; exact Or.inr h
  have hS : va_S A s.heap s.heap [] := va_S.rf
  have hP : va_P D vwCl [(a0, .inr (8, [.ref a1, .int 8, g2, g3, g4, g5])), (a1, .inl (K 0, 400, .inl f))] s.heap := hP
  have hl := lv_entry [.ref a0, .int x] (n := 3) (Nat.le_of_ble_eq_true rfl)
  rw [lg_entry_eq]
  generalize (lg_sl [.ref a0, .int x] ++ List.replicate (3 - (lg_sl [.ref a0, .int x]).length) Slot.unset).toArray = ls at hl ⊢
  have hl : lv_has ls 3 [(0, .ref a0), (1, .int x)] := hl
  have hw8 : ∀ w ∈ wsX80, w ∈ wsX8_take := fun w h => (List.mem_cons_of_mem _ (List.mem_append_right _ h))
  refine lv_bipush (v := 24) hx hb dX8_take_0 (by decide) ?_
  refine lv_istore_n (lv' := [(2, .int 24), (0, .ref a0), (1, .int x)]) hx hb dX8_take_2 rfl hl (by decide) rfl (fun ls hl => ?_)
  refine lv_iload_n hx hb dX8_take_3 rfl (lv_at hl 0 rfl) ?_
  refine lv_if_lt (tgt := 49) hx hb dX8_take_4 (by decide) (fun c_1 => absurd c_1 (by decide)) (fun c_1 => ?_)
  refine lv_aload_n hx hb dX8_take_7 rfl (lv_at hl 1 rfl) ?_
  refine va_get (ci := 8) (v := .int 8) (C := RX8) (T := TX8) (N := 6) hx hb hts hw8 hown hK hP 0 rfl rfl 1 (by decide) (hts (.fieldLink RX8 15 "SmokeTune$Tape" "length" "I") (List.mem_cons_of_mem _ (List.mem_append_left _ (List.mem_of_getElem? (i := 0) rfl)))) (fun _ h9 => h9) rfl dX8_take_8 ?_
  refine lv_sipush (v := 400) hx hb dX8_take_11 (by decide) ?_
  refine lv_icmp_ge (tgt := 49) hx hb dX8_take_14 (by decide) (fun c_2 => absurd c_2 (by decide)) (fun c_2 => ?_)
  refine lv_aload_n hx hb dX8_take_17 rfl (lv_at hl 1 rfl) ?_
  refine va_get (ci := 8) (v := .ref a1) (C := RX8) (T := TX8) (N := 6) hx hb hts hw8 hown hK hP 0 rfl rfl 0 (by decide) (hts (.fieldLink RX8 11 "SmokeTune$Tape" "bytes" "[I") (List.mem_cons_of_mem _ (List.mem_append_left _ (List.mem_of_getElem? (i := 1) rfl)))) (fun _ h9 => h9) rfl dX8_take_18 ?_
  refine lv_aload_n hx hb dX8_take_21 rfl (lv_at hl 1 rfl) ?_
  refine va_get (ci := 8) (v := .int 8) (C := RX8) (T := TX8) (N := 6) hx hb hts hw8 hown hK hP 0 rfl rfl 1 (by decide) (hts (.fieldLink RX8 15 "SmokeTune$Tape" "length" "I") (List.mem_cons_of_mem _ (List.mem_append_left _ (List.mem_of_getElem? (i := 0) rfl)))) (fun _ h9 => h9) rfl dX8_take_22 ?_
  refine lv_iload_n hx hb dX8_take_25 rfl (lv_at hl 2 rfl) ?_
  refine lv_iload_n hx hb dX8_take_26 rfl (lv_at hl 0 rfl) ?_
  refine lv_ishr hx hb dX8_take_27 ?_
  refine lv_topi (fun x_3 ex_3 => ?_)
  refine lv_sipush (v := 255) hx hb dX8_take_28 (by decide) ?_
  refine lv_iand hx hb dX8_take_31 ?_
  refine lv_topi (fun x_4 ex_4 => ?_)
  refine va_iast hx hb hK hP hD hS 1 0 rfl rfl (i_in (x := 8) rfl (by omega)) dX8_take_32 (fun H locs hP hD hS => ?_)
  generalize hf_5 : (upd f (8 : Int32).toNatClampNeg x_4) = f_5 at hP hD
  have hP : va_P D vwCl [(a0, .inr (8, [.ref a1, .int 8, g2, g3, g4, g5])), (a1, .inl (K 0, 400, .inl f_5))] H := hP
  have hD : va_D A [(a0, .inr (8, [.ref a1, .int 8, g2, g3, g4, g5])), (a1, .inl (K 0, 400, .inl f_5))] := hD
  refine lv_aload_n hx hb dX8_take_33 rfl (lv_at hl 1 rfl) ?_
  refine lv_dup hx hb dX8_take_34 rfl ?_
  refine va_get (ci := 8) (v := .int 8) (C := RX8) (T := TX8) (N := 6) hx hb hts hw8 hown hK hP 0 rfl rfl 1 (by decide) (hts (.fieldLink RX8 15 "SmokeTune$Tape" "length" "I") (List.mem_cons_of_mem _ (List.mem_append_left _ (List.mem_of_getElem? (i := 0) rfl)))) (fun _ h9 => h9) rfl dX8_take_35 ?_
  refine lv_iconst (v := 1) hx hb dX8_take_38 (by decide) ?_
  refine lv_iadd hx hb dX8_take_39 ?_
  refine lv_topi (fun x_6 ex_6 => ?_)
  obtain rfl : x_6 = 9 := ex_6.trans (by first | rfl | decide)
  refine va_put (ci := 8) (v := .int 9) (ty := .int) (C := RX8) (T := TX8) (N := 6) hx hb hts hw8 tyX8 tyX8_ok nmX8 hown hK hP hD hS 0 rfl rfl 1 (by decide) (hts (.fieldLink RX8 15 "SmokeTune$Tape" "length" "I") (List.mem_cons_of_mem _ (List.mem_append_left _ (List.mem_of_getElem? (i := 0) rfl)))) (fun _ h9 => h9) rfl (by decide +kernel) (by first | rfl | decide) (by first | rfl | decide) (Nat.le_of_ble_eq_true rfl) dX8_take_40 (fun H locs hP hD hS => ?_)
  have hP : va_P D vwCl [(a0, .inr (8, [.ref a1, .int 9, g2, g3, g4, g5])), (a1, .inl (K 0, 400, .inl f_5))] H := hP
  have hD : va_D A [(a0, .inr (8, [.ref a1, .int 9, g2, g3, g4, g5])), (a1, .inl (K 0, 400, .inl f_5))] := hD
  refine lv_iinc (v := 16) (lv' := [(2, .int 16), (0, .ref a0), (1, .int x)]) hx hb dX8_take_43 hl (k := 0) rfl (by decide) (by decide) rfl (fun ls hl => ?_)
  refine lv_goto (tgt := 3) hx hb dX8_take_46 (by decide) ?_
  refine lv_iload_n hx hb dX8_take_3 rfl (lv_at hl 0 rfl) ?_
  refine lv_if_lt (tgt := 49) hx hb dX8_take_4 (by decide) (fun c_7 => absurd c_7 (by decide)) (fun c_7 => ?_)
  refine lv_aload_n hx hb dX8_take_7 rfl (lv_at hl 1 rfl) ?_
  refine va_get (ci := 8) (v := .int 9) (C := RX8) (T := TX8) (N := 6) hx hb hts hw8 hown hK hP 0 rfl rfl 1 (by decide) (hts (.fieldLink RX8 15 "SmokeTune$Tape" "length" "I") (List.mem_cons_of_mem _ (List.mem_append_left _ (List.mem_of_getElem? (i := 0) rfl)))) (fun _ h9 => h9) rfl dX8_take_8 ?_
  refine lv_sipush (v := 400) hx hb dX8_take_11 (by decide) ?_
  refine lv_icmp_ge (tgt := 49) hx hb dX8_take_14 (by decide) (fun c_8 => absurd c_8 (by decide)) (fun c_8 => ?_)
  refine lv_aload_n hx hb dX8_take_17 rfl (lv_at hl 1 rfl) ?_
  refine va_get (ci := 8) (v := .ref a1) (C := RX8) (T := TX8) (N := 6) hx hb hts hw8 hown hK hP 0 rfl rfl 0 (by decide) (hts (.fieldLink RX8 11 "SmokeTune$Tape" "bytes" "[I") (List.mem_cons_of_mem _ (List.mem_append_left _ (List.mem_of_getElem? (i := 1) rfl)))) (fun _ h9 => h9) rfl dX8_take_18 ?_
  refine lv_aload_n hx hb dX8_take_21 rfl (lv_at hl 1 rfl) ?_
  refine va_get (ci := 8) (v := .int 9) (C := RX8) (T := TX8) (N := 6) hx hb hts hw8 hown hK hP 0 rfl rfl 1 (by decide) (hts (.fieldLink RX8 15 "SmokeTune$Tape" "length" "I") (List.mem_cons_of_mem _ (List.mem_append_left _ (List.mem_of_getElem? (i := 0) rfl)))) (fun _ h9 => h9) rfl dX8_take_22 ?_
  refine lv_iload_n hx hb dX8_take_25 rfl (lv_at hl 2 rfl) ?_
  refine lv_iload_n hx hb dX8_take_26 rfl (lv_at hl 0 rfl) ?_
  refine lv_ishr hx hb dX8_take_27 ?_
  refine lv_topi (fun x_9 ex_9 => ?_)
  refine lv_sipush (v := 255) hx hb dX8_take_28 (by decide) ?_
  refine lv_iand hx hb dX8_take_31 ?_
  refine lv_topi (fun x_10 ex_10 => ?_)
  refine va_iast hx hb hK hP hD hS 1 0 rfl rfl (i_in (x := 9) rfl (by omega)) dX8_take_32 (fun H locs hP hD hS => ?_)
  generalize hf_11 : (upd f_5 (9 : Int32).toNatClampNeg x_10) = f_11 at hP hD
  have hP : va_P D vwCl [(a0, .inr (8, [.ref a1, .int 9, g2, g3, g4, g5])), (a1, .inl (K 0, 400, .inl f_11))] H := hP
  have hD : va_D A [(a0, .inr (8, [.ref a1, .int 9, g2, g3, g4, g5])), (a1, .inl (K 0, 400, .inl f_11))] := hD
  refine lv_aload_n hx hb dX8_take_33 rfl (lv_at hl 1 rfl) ?_
  refine lv_dup hx hb dX8_take_34 rfl ?_
  refine va_get (ci := 8) (v := .int 9) (C := RX8) (T := TX8) (N := 6) hx hb hts hw8 hown hK hP 0 rfl rfl 1 (by decide) (hts (.fieldLink RX8 15 "SmokeTune$Tape" "length" "I") (List.mem_cons_of_mem _ (List.mem_append_left _ (List.mem_of_getElem? (i := 0) rfl)))) (fun _ h9 => h9) rfl dX8_take_35 ?_
  refine lv_iconst (v := 1) hx hb dX8_take_38 (by decide) ?_
  refine lv_iadd hx hb dX8_take_39 ?_
  refine lv_topi (fun x_12 ex_12 => ?_)
  obtain rfl : x_12 = 10 := ex_12.trans (by first | rfl | decide)
  refine va_put (ci := 8) (v := .int 10) (ty := .int) (C := RX8) (T := TX8) (N := 6) hx hb hts hw8 tyX8 tyX8_ok nmX8 hown hK hP hD hS 0 rfl rfl 1 (by decide) (hts (.fieldLink RX8 15 "SmokeTune$Tape" "length" "I") (List.mem_cons_of_mem _ (List.mem_append_left _ (List.mem_of_getElem? (i := 0) rfl)))) (fun _ h9 => h9) rfl (by decide +kernel) (by first | rfl | decide) (by first | rfl | decide) (Nat.le_of_ble_eq_true rfl) dX8_take_40 (fun H locs hP hD hS => ?_)
  have hP : va_P D vwCl [(a0, .inr (8, [.ref a1, .int 10, g2, g3, g4, g5])), (a1, .inl (K 0, 400, .inl f_11))] H := hP
  have hD : va_D A [(a0, .inr (8, [.ref a1, .int 10, g2, g3, g4, g5])), (a1, .inl (K 0, 400, .inl f_11))] := hD
  refine lv_iinc (v := 8) (lv' := [(2, .int 8), (0, .ref a0), (1, .int x)]) hx hb dX8_take_43 hl (k := 0) rfl (by decide) (by decide) rfl (fun ls hl => ?_)
  refine lv_goto (tgt := 3) hx hb dX8_take_46 (by decide) ?_
  refine lv_iload_n hx hb dX8_take_3 rfl (lv_at hl 0 rfl) ?_
  refine lv_if_lt (tgt := 49) hx hb dX8_take_4 (by decide) (fun c_13 => absurd c_13 (by decide)) (fun c_13 => ?_)
  refine lv_aload_n hx hb dX8_take_7 rfl (lv_at hl 1 rfl) ?_
  refine va_get (ci := 8) (v := .int 10) (C := RX8) (T := TX8) (N := 6) hx hb hts hw8 hown hK hP 0 rfl rfl 1 (by decide) (hts (.fieldLink RX8 15 "SmokeTune$Tape" "length" "I") (List.mem_cons_of_mem _ (List.mem_append_left _ (List.mem_of_getElem? (i := 0) rfl)))) (fun _ h9 => h9) rfl dX8_take_8 ?_
  refine lv_sipush (v := 400) hx hb dX8_take_11 (by decide) ?_
  refine lv_icmp_ge (tgt := 49) hx hb dX8_take_14 (by decide) (fun c_14 => absurd c_14 (by decide)) (fun c_14 => ?_)
  refine lv_aload_n hx hb dX8_take_17 rfl (lv_at hl 1 rfl) ?_
  refine va_get (ci := 8) (v := .ref a1) (C := RX8) (T := TX8) (N := 6) hx hb hts hw8 hown hK hP 0 rfl rfl 0 (by decide) (hts (.fieldLink RX8 11 "SmokeTune$Tape" "bytes" "[I") (List.mem_cons_of_mem _ (List.mem_append_left _ (List.mem_of_getElem? (i := 1) rfl)))) (fun _ h9 => h9) rfl dX8_take_18 ?_
  refine lv_aload_n hx hb dX8_take_21 rfl (lv_at hl 1 rfl) ?_
  refine va_get (ci := 8) (v := .int 10) (C := RX8) (T := TX8) (N := 6) hx hb hts hw8 hown hK hP 0 rfl rfl 1 (by decide) (hts (.fieldLink RX8 15 "SmokeTune$Tape" "length" "I") (List.mem_cons_of_mem _ (List.mem_append_left _ (List.mem_of_getElem? (i := 0) rfl)))) (fun _ h9 => h9) rfl dX8_take_22 ?_
  refine lv_iload_n hx hb dX8_take_25 rfl (lv_at hl 2 rfl) ?_
  refine lv_iload_n hx hb dX8_take_26 rfl (lv_at hl 0 rfl) ?_
  refine lv_ishr hx hb dX8_take_27 ?_
  refine lv_topi (fun x_15 ex_15 => ?_)
  refine lv_sipush (v := 255) hx hb dX8_take_28 (by decide) ?_
  refine lv_iand hx hb dX8_take_31 ?_
  refine lv_topi (fun x_16 ex_16 => ?_)
  refine va_iast hx hb hK hP hD hS 1 0 rfl rfl (i_in (x := 10) rfl (by omega)) dX8_take_32 (fun H locs hP hD hS => ?_)
  generalize hf_17 : (upd f_11 (10 : Int32).toNatClampNeg x_16) = f_17 at hP hD
  have hP : va_P D vwCl [(a0, .inr (8, [.ref a1, .int 10, g2, g3, g4, g5])), (a1, .inl (K 0, 400, .inl f_17))] H := hP
  have hD : va_D A [(a0, .inr (8, [.ref a1, .int 10, g2, g3, g4, g5])), (a1, .inl (K 0, 400, .inl f_17))] := hD
  refine lv_aload_n hx hb dX8_take_33 rfl (lv_at hl 1 rfl) ?_
  refine lv_dup hx hb dX8_take_34 rfl ?_
  refine va_get (ci := 8) (v := .int 10) (C := RX8) (T := TX8) (N := 6) hx hb hts hw8 hown hK hP 0 rfl rfl 1 (by decide) (hts (.fieldLink RX8 15 "SmokeTune$Tape" "length" "I") (List.mem_cons_of_mem _ (List.mem_append_left _ (List.mem_of_getElem? (i := 0) rfl)))) (fun _ h9 => h9) rfl dX8_take_35 ?_
  refine lv_iconst (v := 1) hx hb dX8_take_38 (by decide) ?_
  refine lv_iadd hx hb dX8_take_39 ?_
  refine lv_topi (fun x_18 ex_18 => ?_)
  obtain rfl : x_18 = 11 := ex_18.trans (by first | rfl | decide)
  refine va_put (ci := 8) (v := .int 11) (ty := .int) (C := RX8) (T := TX8) (N := 6) hx hb hts hw8 tyX8 tyX8_ok nmX8 hown hK hP hD hS 0 rfl rfl 1 (by decide) (hts (.fieldLink RX8 15 "SmokeTune$Tape" "length" "I") (List.mem_cons_of_mem _ (List.mem_append_left _ (List.mem_of_getElem? (i := 0) rfl)))) (fun _ h9 => h9) rfl (by decide +kernel) (by first | rfl | decide) (by first | rfl | decide) (Nat.le_of_ble_eq_true rfl) dX8_take_40 (fun H locs hP hD hS => ?_)
  have hP : va_P D vwCl [(a0, .inr (8, [.ref a1, .int 11, g2, g3, g4, g5])), (a1, .inl (K 0, 400, .inl f_17))] H := hP
  have hD : va_D A [(a0, .inr (8, [.ref a1, .int 11, g2, g3, g4, g5])), (a1, .inl (K 0, 400, .inl f_17))] := hD
  refine lv_iinc (v := 0) (lv' := [(2, .int 0), (0, .ref a0), (1, .int x)]) hx hb dX8_take_43 hl (k := 0) rfl (by decide) (by decide) rfl (fun ls hl => ?_)
  refine lv_goto (tgt := 3) hx hb dX8_take_46 (by decide) ?_
  refine lv_iload_n hx hb dX8_take_3 rfl (lv_at hl 0 rfl) ?_
  refine lv_if_lt (tgt := 49) hx hb dX8_take_4 (by decide) (fun c_19 => absurd c_19 (by decide)) (fun c_19 => ?_)
  refine lv_aload_n hx hb dX8_take_7 rfl (lv_at hl 1 rfl) ?_
  refine va_get (ci := 8) (v := .int 11) (C := RX8) (T := TX8) (N := 6) hx hb hts hw8 hown hK hP 0 rfl rfl 1 (by decide) (hts (.fieldLink RX8 15 "SmokeTune$Tape" "length" "I") (List.mem_cons_of_mem _ (List.mem_append_left _ (List.mem_of_getElem? (i := 0) rfl)))) (fun _ h9 => h9) rfl dX8_take_8 ?_
  refine lv_sipush (v := 400) hx hb dX8_take_11 (by decide) ?_
  refine lv_icmp_ge (tgt := 49) hx hb dX8_take_14 (by decide) (fun c_20 => absurd c_20 (by decide)) (fun c_20 => ?_)
  refine lv_aload_n hx hb dX8_take_17 rfl (lv_at hl 1 rfl) ?_
  refine va_get (ci := 8) (v := .ref a1) (C := RX8) (T := TX8) (N := 6) hx hb hts hw8 hown hK hP 0 rfl rfl 0 (by decide) (hts (.fieldLink RX8 11 "SmokeTune$Tape" "bytes" "[I") (List.mem_cons_of_mem _ (List.mem_append_left _ (List.mem_of_getElem? (i := 1) rfl)))) (fun _ h9 => h9) rfl dX8_take_18 ?_
  refine lv_aload_n hx hb dX8_take_21 rfl (lv_at hl 1 rfl) ?_
  refine va_get (ci := 8) (v := .int 11) (C := RX8) (T := TX8) (N := 6) hx hb hts hw8 hown hK hP 0 rfl rfl 1 (by decide) (hts (.fieldLink RX8 15 "SmokeTune$Tape" "length" "I") (List.mem_cons_of_mem _ (List.mem_append_left _ (List.mem_of_getElem? (i := 0) rfl)))) (fun _ h9 => h9) rfl dX8_take_22 ?_
  refine lv_iload_n hx hb dX8_take_25 rfl (lv_at hl 2 rfl) ?_
  refine lv_iload_n hx hb dX8_take_26 rfl (lv_at hl 0 rfl) ?_
  refine lv_ishr hx hb dX8_take_27 ?_
  refine lv_topi (fun x_21 ex_21 => ?_)
  refine lv_sipush (v := 255) hx hb dX8_take_28 (by decide) ?_
  refine lv_iand hx hb dX8_take_31 ?_
  refine lv_topi (fun x_22 ex_22 => ?_)
  refine va_iast hx hb hK hP hD hS 1 0 rfl rfl (i_in (x := 11) rfl (by omega)) dX8_take_32 (fun H locs hP hD hS => ?_)
  generalize hf_23 : (upd f_17 (11 : Int32).toNatClampNeg x_22) = f_23 at hP hD
  have hP : va_P D vwCl [(a0, .inr (8, [.ref a1, .int 11, g2, g3, g4, g5])), (a1, .inl (K 0, 400, .inl f_23))] H := hP
  have hD : va_D A [(a0, .inr (8, [.ref a1, .int 11, g2, g3, g4, g5])), (a1, .inl (K 0, 400, .inl f_23))] := hD
  refine lv_aload_n hx hb dX8_take_33 rfl (lv_at hl 1 rfl) ?_
  refine lv_dup hx hb dX8_take_34 rfl ?_
  refine va_get (ci := 8) (v := .int 11) (C := RX8) (T := TX8) (N := 6) hx hb hts hw8 hown hK hP 0 rfl rfl 1 (by decide) (hts (.fieldLink RX8 15 "SmokeTune$Tape" "length" "I") (List.mem_cons_of_mem _ (List.mem_append_left _ (List.mem_of_getElem? (i := 0) rfl)))) (fun _ h9 => h9) rfl dX8_take_35 ?_
  refine lv_iconst (v := 1) hx hb dX8_take_38 (by decide) ?_
  refine lv_iadd hx hb dX8_take_39 ?_
  refine lv_topi (fun x_24 ex_24 => ?_)
  obtain rfl : x_24 = 12 := ex_24.trans (by first | rfl | decide)
  refine va_put (ci := 8) (v := .int 12) (ty := .int) (C := RX8) (T := TX8) (N := 6) hx hb hts hw8 tyX8 tyX8_ok nmX8 hown hK hP hD hS 0 rfl rfl 1 (by decide) (hts (.fieldLink RX8 15 "SmokeTune$Tape" "length" "I") (List.mem_cons_of_mem _ (List.mem_append_left _ (List.mem_of_getElem? (i := 0) rfl)))) (fun _ h9 => h9) rfl (by decide +kernel) (by first | rfl | decide) (by first | rfl | decide) (Nat.le_of_ble_eq_true rfl) dX8_take_40 (fun H locs hP hD hS => ?_)
  have hP : va_P D vwCl [(a0, .inr (8, [.ref a1, .int 12, g2, g3, g4, g5])), (a1, .inl (K 0, 400, .inl f_23))] H := hP
  have hD : va_D A [(a0, .inr (8, [.ref a1, .int 12, g2, g3, g4, g5])), (a1, .inl (K 0, 400, .inl f_23))] := hD
  refine lv_iinc (v := (-8)) (lv' := [(2, .int (-8)), (0, .ref a0), (1, .int x)]) hx hb dX8_take_43 hl (k := 0) rfl (by decide) (by decide) rfl (fun ls hl => ?_)
  refine lv_goto (tgt := 3) hx hb dX8_take_46 (by decide) ?_
  refine lv_iload_n hx hb dX8_take_3 rfl (lv_at hl 0 rfl) ?_
  refine lv_if_lt (tgt := 49) hx hb dX8_take_4 (by decide) (fun c_25 => ?_) (fun c_25 => absurd (by decide) c_25)
  have hP9 := hP.sub (ws' := [(a0, .inr (8, [.ref a1, .int 12, g2, g3, g4, g5])), (a1, .inl (K 0, 400, .inl f_23))]) [0, 1] rfl
  have hD9 := hD.sub (ws' := [(a0, .inr (8, [.ref a1, .int 12, g2, g3, g4, g5])), (a1, .inl (K 0, 400, .inl f_23))]) [0, 1] (by decide) rfl
  exact W.vret hx hb hr (fun t ht hW => ⟨⟨(fun _ => 0, fun i => match i with | _ => f_23, fun _ => fun _ => 0, fun _ => 0), rfl, trivial, (⟨by rw [ht]; exact hP9, hD9⟩ : Wd D A _ t)⟩, hS.F ht⟩) hS.2.2 dX8_take_49
set_option maxHeartbeats 4000000 in
set_option maxRecDepth 100000 in
theorem c_take_12 (l : Launch) (D : va_G) (K : Nat → ClassId) (a0 : Nat) (x : Int32) (a1 : Nat) (g2 : Value) (g3 : Value) (g4 : Value) (g5 : Value) (f : Nat → Int32) (sz : Nat) : Met l yX8_take wsX8_take ({ frames := 0, cells := 0, slots := 0, locals := 0 }) (va_Pc [.ref a0, .int x] (Pre D K [(a0, .inr (8, [.ref a1, .int 12, g2, g3, g4, g5])), (a1, .inl (K 0, 400, .inl f))] sz)) (va_Qv (S := (Nat → Nat) × (Nat → Nat → Int32) × (Nat → Nat → Int64) × (Nat → Int32)) (fun _ => True) (fun u t => Wd D (va_A [(a0, .inr (8, [.ref a1, .int 12, g2, g3, g4, g5])), (a1, .inl (K 0, 400, .inl f))] sz) ((fun u => [(a0, .inr (8, [.ref a1, .int 16, g2, g3, g4, g5])), (a1, .inl (K 0, 400, .inl ((u.2.1 0))))]) u) t) (va_A [(a0, .inr (8, [.ref a1, .int 12, g2, g3, g4, g5])), (a1, .inl (K 0, 400, .inl f))] sz)) 0 0 (va_A [(a0, .inr (8, [.ref a1, .int 12, g2, g3, g4, g5])), (a1, .inl (K 0, 400, .inl f))] sz) := by
  refine Met.ofW (cc := cX8_take) (maxL := 3) (ret := none) (by decide) rfl ?_
  intro p e s m args below meth c s₁ B hml hv
  obtain ⟨rfl, hsz, hP, hK, hD0, hN⟩ := hv
  have hx := B.exec
  have hb := B.bytes
  have hr := B.returns
  have hts := atoms_spec (ws := wsX8_take) B.pre
  have hown : s.vm.findClass RX8 = some m.cls := findClass_of_methodNamed B.named
  have hlocks := B.notSynchronized
  subst hsz
  have hD := hD0.self (sz := s.heap.size)
  generalize hAe : va_A [(a0, .inr (8, [.ref a1, .int 12, g2, g3, g4, g5])), (a1, .inl (K 0, 400, .inl f))] s.heap.size = A at hD ⊢
  have hA : ∀ q : Nat, s.heap.size ≤ q → A q := fun q h => by rw [← hAe]; exact Or.inr h
  have hS : va_S A s.heap s.heap [] := va_S.rf
  have hP : va_P D vwCl [(a0, .inr (8, [.ref a1, .int 12, g2, g3, g4, g5])), (a1, .inl (K 0, 400, .inl f))] s.heap := hP
  have hl := lv_entry [.ref a0, .int x] (n := 3) (Nat.le_of_ble_eq_true rfl)
  rw [lg_entry_eq]
  generalize (lg_sl [.ref a0, .int x] ++ List.replicate (3 - (lg_sl [.ref a0, .int x]).length) Slot.unset).toArray = ls at hl ⊢
  have hl : lv_has ls 3 [(0, .ref a0), (1, .int x)] := hl
  have hw8 : ∀ w ∈ wsX80, w ∈ wsX8_take := fun w h => (List.mem_cons_of_mem _ (List.mem_append_right _ h))
  refine lv_bipush (v := 24) hx hb dX8_take_0 (by decide) ?_
  refine lv_istore_n (lv' := [(2, .int 24), (0, .ref a0), (1, .int x)]) hx hb dX8_take_2 rfl hl (by decide) rfl (fun ls hl => ?_)
  refine lv_iload_n hx hb dX8_take_3 rfl (lv_at hl 0 rfl) ?_
  refine lv_if_lt (tgt := 49) hx hb dX8_take_4 (by decide) (fun c_1 => absurd c_1 (by decide)) (fun c_1 => ?_)
  refine lv_aload_n hx hb dX8_take_7 rfl (lv_at hl 1 rfl) ?_
  refine va_get (ci := 8) (v := .int 12) (C := RX8) (T := TX8) (N := 6) hx hb hts hw8 hown hK hP 0 rfl rfl 1 (by decide) (hts (.fieldLink RX8 15 "SmokeTune$Tape" "length" "I") (List.mem_cons_of_mem _ (List.mem_append_left _ (List.mem_of_getElem? (i := 0) rfl)))) (fun _ h9 => h9) rfl dX8_take_8 ?_
  refine lv_sipush (v := 400) hx hb dX8_take_11 (by decide) ?_
  refine lv_icmp_ge (tgt := 49) hx hb dX8_take_14 (by decide) (fun c_2 => absurd c_2 (by decide)) (fun c_2 => ?_)
  refine lv_aload_n hx hb dX8_take_17 rfl (lv_at hl 1 rfl) ?_
  refine va_get (ci := 8) (v := .ref a1) (C := RX8) (T := TX8) (N := 6) hx hb hts hw8 hown hK hP 0 rfl rfl 0 (by decide) (hts (.fieldLink RX8 11 "SmokeTune$Tape" "bytes" "[I") (List.mem_cons_of_mem _ (List.mem_append_left _ (List.mem_of_getElem? (i := 1) rfl)))) (fun _ h9 => h9) rfl dX8_take_18 ?_
  refine lv_aload_n hx hb dX8_take_21 rfl (lv_at hl 1 rfl) ?_
  refine va_get (ci := 8) (v := .int 12) (C := RX8) (T := TX8) (N := 6) hx hb hts hw8 hown hK hP 0 rfl rfl 1 (by decide) (hts (.fieldLink RX8 15 "SmokeTune$Tape" "length" "I") (List.mem_cons_of_mem _ (List.mem_append_left _ (List.mem_of_getElem? (i := 0) rfl)))) (fun _ h9 => h9) rfl dX8_take_22 ?_
  refine lv_iload_n hx hb dX8_take_25 rfl (lv_at hl 2 rfl) ?_
  refine lv_iload_n hx hb dX8_take_26 rfl (lv_at hl 0 rfl) ?_
  refine lv_ishr hx hb dX8_take_27 ?_
  refine lv_topi (fun x_3 ex_3 => ?_)
  refine lv_sipush (v := 255) hx hb dX8_take_28 (by decide) ?_
  refine lv_iand hx hb dX8_take_31 ?_
  refine lv_topi (fun x_4 ex_4 => ?_)
  refine va_iast hx hb hK hP hD hS 1 0 rfl rfl (i_in (x := 12) rfl (by omega)) dX8_take_32 (fun H locs hP hD hS => ?_)
  generalize hf_5 : (upd f (12 : Int32).toNatClampNeg x_4) = f_5 at hP hD
  have hP : va_P D vwCl [(a0, .inr (8, [.ref a1, .int 12, g2, g3, g4, g5])), (a1, .inl (K 0, 400, .inl f_5))] H := hP
  have hD : va_D A [(a0, .inr (8, [.ref a1, .int 12, g2, g3, g4, g5])), (a1, .inl (K 0, 400, .inl f_5))] := hD
  refine lv_aload_n hx hb dX8_take_33 rfl (lv_at hl 1 rfl) ?_
  refine lv_dup hx hb dX8_take_34 rfl ?_
  refine va_get (ci := 8) (v := .int 12) (C := RX8) (T := TX8) (N := 6) hx hb hts hw8 hown hK hP 0 rfl rfl 1 (by decide) (hts (.fieldLink RX8 15 "SmokeTune$Tape" "length" "I") (List.mem_cons_of_mem _ (List.mem_append_left _ (List.mem_of_getElem? (i := 0) rfl)))) (fun _ h9 => h9) rfl dX8_take_35 ?_
  refine lv_iconst (v := 1) hx hb dX8_take_38 (by decide) ?_
  refine lv_iadd hx hb dX8_take_39 ?_
  refine lv_topi (fun x_6 ex_6 => ?_)
  obtain rfl : x_6 = 13 := ex_6.trans (by first | rfl | decide)
  refine va_put (ci := 8) (v := .int 13) (ty := .int) (C := RX8) (T := TX8) (N := 6) hx hb hts hw8 tyX8 tyX8_ok nmX8 hown hK hP hD hS 0 rfl rfl 1 (by decide) (hts (.fieldLink RX8 15 "SmokeTune$Tape" "length" "I") (List.mem_cons_of_mem _ (List.mem_append_left _ (List.mem_of_getElem? (i := 0) rfl)))) (fun _ h9 => h9) rfl (by decide +kernel) (by first | rfl | decide) (by first | rfl | decide) (Nat.le_of_ble_eq_true rfl) dX8_take_40 (fun H locs hP hD hS => ?_)
  have hP : va_P D vwCl [(a0, .inr (8, [.ref a1, .int 13, g2, g3, g4, g5])), (a1, .inl (K 0, 400, .inl f_5))] H := hP
  have hD : va_D A [(a0, .inr (8, [.ref a1, .int 13, g2, g3, g4, g5])), (a1, .inl (K 0, 400, .inl f_5))] := hD
  refine lv_iinc (v := 16) (lv' := [(2, .int 16), (0, .ref a0), (1, .int x)]) hx hb dX8_take_43 hl (k := 0) rfl (by decide) (by decide) rfl (fun ls hl => ?_)
  refine lv_goto (tgt := 3) hx hb dX8_take_46 (by decide) ?_
  refine lv_iload_n hx hb dX8_take_3 rfl (lv_at hl 0 rfl) ?_
  refine lv_if_lt (tgt := 49) hx hb dX8_take_4 (by decide) (fun c_7 => absurd c_7 (by decide)) (fun c_7 => ?_)
  refine lv_aload_n hx hb dX8_take_7 rfl (lv_at hl 1 rfl) ?_
  refine va_get (ci := 8) (v := .int 13) (C := RX8) (T := TX8) (N := 6) hx hb hts hw8 hown hK hP 0 rfl rfl 1 (by decide) (hts (.fieldLink RX8 15 "SmokeTune$Tape" "length" "I") (List.mem_cons_of_mem _ (List.mem_append_left _ (List.mem_of_getElem? (i := 0) rfl)))) (fun _ h9 => h9) rfl dX8_take_8 ?_
  refine lv_sipush (v := 400) hx hb dX8_take_11 (by decide) ?_
  refine lv_icmp_ge (tgt := 49) hx hb dX8_take_14 (by decide) (fun c_8 => absurd c_8 (by decide)) (fun c_8 => ?_)
  refine lv_aload_n hx hb dX8_take_17 rfl (lv_at hl 1 rfl) ?_
  refine va_get (ci := 8) (v := .ref a1) (C := RX8) (T := TX8) (N := 6) hx hb hts hw8 hown hK hP 0 rfl rfl 0 (by decide) (hts (.fieldLink RX8 11 "SmokeTune$Tape" "bytes" "[I") (List.mem_cons_of_mem _ (List.mem_append_left _ (List.mem_of_getElem? (i := 1) rfl)))) (fun _ h9 => h9) rfl dX8_take_18 ?_
  refine lv_aload_n hx hb dX8_take_21 rfl (lv_at hl 1 rfl) ?_
  refine va_get (ci := 8) (v := .int 13) (C := RX8) (T := TX8) (N := 6) hx hb hts hw8 hown hK hP 0 rfl rfl 1 (by decide) (hts (.fieldLink RX8 15 "SmokeTune$Tape" "length" "I") (List.mem_cons_of_mem _ (List.mem_append_left _ (List.mem_of_getElem? (i := 0) rfl)))) (fun _ h9 => h9) rfl dX8_take_22 ?_
  refine lv_iload_n hx hb dX8_take_25 rfl (lv_at hl 2 rfl) ?_
  refine lv_iload_n hx hb dX8_take_26 rfl (lv_at hl 0 rfl) ?_
  refine lv_ishr hx hb dX8_take_27 ?_
  refine lv_topi (fun x_9 ex_9 => ?_)
  refine lv_sipush (v := 255) hx hb dX8_take_28 (by decide) ?_
  refine lv_iand hx hb dX8_take_31 ?_
  refine lv_topi (fun x_10 ex_10 => ?_)
  refine va_iast hx hb hK hP hD hS 1 0 rfl rfl (i_in (x := 13) rfl (by omega)) dX8_take_32 (fun H locs hP hD hS => ?_)
  generalize hf_11 : (upd f_5 (13 : Int32).toNatClampNeg x_10) = f_11 at hP hD
  have hP : va_P D vwCl [(a0, .inr (8, [.ref a1, .int 13, g2, g3, g4, g5])), (a1, .inl (K 0, 400, .inl f_11))] H := hP
  have hD : va_D A [(a0, .inr (8, [.ref a1, .int 13, g2, g3, g4, g5])), (a1, .inl (K 0, 400, .inl f_11))] := hD
  refine lv_aload_n hx hb dX8_take_33 rfl (lv_at hl 1 rfl) ?_
  refine lv_dup hx hb dX8_take_34 rfl ?_
  refine va_get (ci := 8) (v := .int 13) (C := RX8) (T := TX8) (N := 6) hx hb hts hw8 hown hK hP 0 rfl rfl 1 (by decide) (hts (.fieldLink RX8 15 "SmokeTune$Tape" "length" "I") (List.mem_cons_of_mem _ (List.mem_append_left _ (List.mem_of_getElem? (i := 0) rfl)))) (fun _ h9 => h9) rfl dX8_take_35 ?_
  refine lv_iconst (v := 1) hx hb dX8_take_38 (by decide) ?_
  refine lv_iadd hx hb dX8_take_39 ?_
  refine lv_topi (fun x_12 ex_12 => ?_)
  obtain rfl : x_12 = 14 := ex_12.trans (by first | rfl | decide)
  refine va_put (ci := 8) (v := .int 14) (ty := .int) (C := RX8) (T := TX8) (N := 6) hx hb hts hw8 tyX8 tyX8_ok nmX8 hown hK hP hD hS 0 rfl rfl 1 (by decide) (hts (.fieldLink RX8 15 "SmokeTune$Tape" "length" "I") (List.mem_cons_of_mem _ (List.mem_append_left _ (List.mem_of_getElem? (i := 0) rfl)))) (fun _ h9 => h9) rfl (by decide +kernel) (by first | rfl | decide) (by first | rfl | decide) (Nat.le_of_ble_eq_true rfl) dX8_take_40 (fun H locs hP hD hS => ?_)
  have hP : va_P D vwCl [(a0, .inr (8, [.ref a1, .int 14, g2, g3, g4, g5])), (a1, .inl (K 0, 400, .inl f_11))] H := hP
  have hD : va_D A [(a0, .inr (8, [.ref a1, .int 14, g2, g3, g4, g5])), (a1, .inl (K 0, 400, .inl f_11))] := hD
  refine lv_iinc (v := 8) (lv' := [(2, .int 8), (0, .ref a0), (1, .int x)]) hx hb dX8_take_43 hl (k := 0) rfl (by decide) (by decide) rfl (fun ls hl => ?_)
  refine lv_goto (tgt := 3) hx hb dX8_take_46 (by decide) ?_
  refine lv_iload_n hx hb dX8_take_3 rfl (lv_at hl 0 rfl) ?_
  refine lv_if_lt (tgt := 49) hx hb dX8_take_4 (by decide) (fun c_13 => absurd c_13 (by decide)) (fun c_13 => ?_)
  refine lv_aload_n hx hb dX8_take_7 rfl (lv_at hl 1 rfl) ?_
  refine va_get (ci := 8) (v := .int 14) (C := RX8) (T := TX8) (N := 6) hx hb hts hw8 hown hK hP 0 rfl rfl 1 (by decide) (hts (.fieldLink RX8 15 "SmokeTune$Tape" "length" "I") (List.mem_cons_of_mem _ (List.mem_append_left _ (List.mem_of_getElem? (i := 0) rfl)))) (fun _ h9 => h9) rfl dX8_take_8 ?_
  refine lv_sipush (v := 400) hx hb dX8_take_11 (by decide) ?_
  refine lv_icmp_ge (tgt := 49) hx hb dX8_take_14 (by decide) (fun c_14 => absurd c_14 (by decide)) (fun c_14 => ?_)
  refine lv_aload_n hx hb dX8_take_17 rfl (lv_at hl 1 rfl) ?_
  refine va_get (ci := 8) (v := .ref a1) (C := RX8) (T := TX8) (N := 6) hx hb hts hw8 hown hK hP 0 rfl rfl 0 (by decide) (hts (.fieldLink RX8 11 "SmokeTune$Tape" "bytes" "[I") (List.mem_cons_of_mem _ (List.mem_append_left _ (List.mem_of_getElem? (i := 1) rfl)))) (fun _ h9 => h9) rfl dX8_take_18 ?_
  refine lv_aload_n hx hb dX8_take_21 rfl (lv_at hl 1 rfl) ?_
  refine va_get (ci := 8) (v := .int 14) (C := RX8) (T := TX8) (N := 6) hx hb hts hw8 hown hK hP 0 rfl rfl 1 (by decide) (hts (.fieldLink RX8 15 "SmokeTune$Tape" "length" "I") (List.mem_cons_of_mem _ (List.mem_append_left _ (List.mem_of_getElem? (i := 0) rfl)))) (fun _ h9 => h9) rfl dX8_take_22 ?_
  refine lv_iload_n hx hb dX8_take_25 rfl (lv_at hl 2 rfl) ?_
  refine lv_iload_n hx hb dX8_take_26 rfl (lv_at hl 0 rfl) ?_
  refine lv_ishr hx hb dX8_take_27 ?_
  refine lv_topi (fun x_15 ex_15 => ?_)
  refine lv_sipush (v := 255) hx hb dX8_take_28 (by decide) ?_
  refine lv_iand hx hb dX8_take_31 ?_
  refine lv_topi (fun x_16 ex_16 => ?_)
  refine va_iast hx hb hK hP hD hS 1 0 rfl rfl (i_in (x := 14) rfl (by omega)) dX8_take_32 (fun H locs hP hD hS => ?_)
  generalize hf_17 : (upd f_11 (14 : Int32).toNatClampNeg x_16) = f_17 at hP hD
  have hP : va_P D vwCl [(a0, .inr (8, [.ref a1, .int 14, g2, g3, g4, g5])), (a1, .inl (K 0, 400, .inl f_17))] H := hP
  have hD : va_D A [(a0, .inr (8, [.ref a1, .int 14, g2, g3, g4, g5])), (a1, .inl (K 0, 400, .inl f_17))] := hD
  refine lv_aload_n hx hb dX8_take_33 rfl (lv_at hl 1 rfl) ?_
  refine lv_dup hx hb dX8_take_34 rfl ?_
  refine va_get (ci := 8) (v := .int 14) (C := RX8) (T := TX8) (N := 6) hx hb hts hw8 hown hK hP 0 rfl rfl 1 (by decide) (hts (.fieldLink RX8 15 "SmokeTune$Tape" "length" "I") (List.mem_cons_of_mem _ (List.mem_append_left _ (List.mem_of_getElem? (i := 0) rfl)))) (fun _ h9 => h9) rfl dX8_take_35 ?_
  refine lv_iconst (v := 1) hx hb dX8_take_38 (by decide) ?_
  refine lv_iadd hx hb dX8_take_39 ?_
  refine lv_topi (fun x_18 ex_18 => ?_)
  obtain rfl : x_18 = 15 := ex_18.trans (by first | rfl | decide)
  refine va_put (ci := 8) (v := .int 15) (ty := .int) (C := RX8) (T := TX8) (N := 6) hx hb hts hw8 tyX8 tyX8_ok nmX8 hown hK hP hD hS 0 rfl rfl 1 (by decide) (hts (.fieldLink RX8 15 "SmokeTune$Tape" "length" "I") (List.mem_cons_of_mem _ (List.mem_append_left _ (List.mem_of_getElem? (i := 0) rfl)))) (fun _ h9 => h9) rfl (by decide +kernel) (by first | rfl | decide) (by first | rfl | decide) (Nat.le_of_ble_eq_true rfl) dX8_take_40 (fun H locs hP hD hS => ?_)
  have hP : va_P D vwCl [(a0, .inr (8, [.ref a1, .int 15, g2, g3, g4, g5])), (a1, .inl (K 0, 400, .inl f_17))] H := hP
  have hD : va_D A [(a0, .inr (8, [.ref a1, .int 15, g2, g3, g4, g5])), (a1, .inl (K 0, 400, .inl f_17))] := hD
  refine lv_iinc (v := 0) (lv' := [(2, .int 0), (0, .ref a0), (1, .int x)]) hx hb dX8_take_43 hl (k := 0) rfl (by decide) (by decide) rfl (fun ls hl => ?_)
  refine lv_goto (tgt := 3) hx hb dX8_take_46 (by decide) ?_
  refine lv_iload_n hx hb dX8_take_3 rfl (lv_at hl 0 rfl) ?_
  refine lv_if_lt (tgt := 49) hx hb dX8_take_4 (by decide) (fun c_19 => absurd c_19 (by decide)) (fun c_19 => ?_)
  refine lv_aload_n hx hb dX8_take_7 rfl (lv_at hl 1 rfl) ?_
  refine va_get (ci := 8) (v := .int 15) (C := RX8) (T := TX8) (N := 6) hx hb hts hw8 hown hK hP 0 rfl rfl 1 (by decide) (hts (.fieldLink RX8 15 "SmokeTune$Tape" "length" "I") (List.mem_cons_of_mem _ (List.mem_append_left _ (List.mem_of_getElem? (i := 0) rfl)))) (fun _ h9 => h9) rfl dX8_take_8 ?_
  refine lv_sipush (v := 400) hx hb dX8_take_11 (by decide) ?_
  refine lv_icmp_ge (tgt := 49) hx hb dX8_take_14 (by decide) (fun c_20 => absurd c_20 (by decide)) (fun c_20 => ?_)
  refine lv_aload_n hx hb dX8_take_17 rfl (lv_at hl 1 rfl) ?_
  refine va_get (ci := 8) (v := .ref a1) (C := RX8) (T := TX8) (N := 6) hx hb hts hw8 hown hK hP 0 rfl rfl 0 (by decide) (hts (.fieldLink RX8 11 "SmokeTune$Tape" "bytes" "[I") (List.mem_cons_of_mem _ (List.mem_append_left _ (List.mem_of_getElem? (i := 1) rfl)))) (fun _ h9 => h9) rfl dX8_take_18 ?_
  refine lv_aload_n hx hb dX8_take_21 rfl (lv_at hl 1 rfl) ?_
  refine va_get (ci := 8) (v := .int 15) (C := RX8) (T := TX8) (N := 6) hx hb hts hw8 hown hK hP 0 rfl rfl 1 (by decide) (hts (.fieldLink RX8 15 "SmokeTune$Tape" "length" "I") (List.mem_cons_of_mem _ (List.mem_append_left _ (List.mem_of_getElem? (i := 0) rfl)))) (fun _ h9 => h9) rfl dX8_take_22 ?_
  refine lv_iload_n hx hb dX8_take_25 rfl (lv_at hl 2 rfl) ?_
  refine lv_iload_n hx hb dX8_take_26 rfl (lv_at hl 0 rfl) ?_
  refine lv_ishr hx hb dX8_take_27 ?_
  refine lv_topi (fun x_21 ex_21 => ?_)
  refine lv_sipush (v := 255) hx hb dX8_take_28 (by decide) ?_
  refine lv_iand hx hb dX8_take_31 ?_
  refine lv_topi (fun x_22 ex_22 => ?_)
  refine va_iast hx hb hK hP hD hS 1 0 rfl rfl (i_in (x := 15) rfl (by omega)) dX8_take_32 (fun H locs hP hD hS => ?_)
  generalize hf_23 : (upd f_17 (15 : Int32).toNatClampNeg x_22) = f_23 at hP hD
  have hP : va_P D vwCl [(a0, .inr (8, [.ref a1, .int 15, g2, g3, g4, g5])), (a1, .inl (K 0, 400, .inl f_23))] H := hP
  have hD : va_D A [(a0, .inr (8, [.ref a1, .int 15, g2, g3, g4, g5])), (a1, .inl (K 0, 400, .inl f_23))] := hD
  refine lv_aload_n hx hb dX8_take_33 rfl (lv_at hl 1 rfl) ?_
  refine lv_dup hx hb dX8_take_34 rfl ?_
  refine va_get (ci := 8) (v := .int 15) (C := RX8) (T := TX8) (N := 6) hx hb hts hw8 hown hK hP 0 rfl rfl 1 (by decide) (hts (.fieldLink RX8 15 "SmokeTune$Tape" "length" "I") (List.mem_cons_of_mem _ (List.mem_append_left _ (List.mem_of_getElem? (i := 0) rfl)))) (fun _ h9 => h9) rfl dX8_take_35 ?_
  refine lv_iconst (v := 1) hx hb dX8_take_38 (by decide) ?_
  refine lv_iadd hx hb dX8_take_39 ?_
  refine lv_topi (fun x_24 ex_24 => ?_)
  obtain rfl : x_24 = 16 := ex_24.trans (by first | rfl | decide)
  refine va_put (ci := 8) (v := .int 16) (ty := .int) (C := RX8) (T := TX8) (N := 6) hx hb hts hw8 tyX8 tyX8_ok nmX8 hown hK hP hD hS 0 rfl rfl 1 (by decide) (hts (.fieldLink RX8 15 "SmokeTune$Tape" "length" "I") (List.mem_cons_of_mem _ (List.mem_append_left _ (List.mem_of_getElem? (i := 0) rfl)))) (fun _ h9 => h9) rfl (by decide +kernel) (by first | rfl | decide) (by first | rfl | decide) (Nat.le_of_ble_eq_true rfl) dX8_take_40 (fun H locs hP hD hS => ?_)
  have hP : va_P D vwCl [(a0, .inr (8, [.ref a1, .int 16, g2, g3, g4, g5])), (a1, .inl (K 0, 400, .inl f_23))] H := hP
  have hD : va_D A [(a0, .inr (8, [.ref a1, .int 16, g2, g3, g4, g5])), (a1, .inl (K 0, 400, .inl f_23))] := hD
  refine lv_iinc (v := (-8)) (lv' := [(2, .int (-8)), (0, .ref a0), (1, .int x)]) hx hb dX8_take_43 hl (k := 0) rfl (by decide) (by decide) rfl (fun ls hl => ?_)
  refine lv_goto (tgt := 3) hx hb dX8_take_46 (by decide) ?_
  refine lv_iload_n hx hb dX8_take_3 rfl (lv_at hl 0 rfl) ?_
  refine lv_if_lt (tgt := 49) hx hb dX8_take_4 (by decide) (fun c_25 => ?_) (fun c_25 => absurd (by decide) c_25)
  have hP9 := hP.sub (ws' := [(a0, .inr (8, [.ref a1, .int 16, g2, g3, g4, g5])), (a1, .inl (K 0, 400, .inl f_23))]) [0, 1] rfl
  have hD9 := hD.sub (ws' := [(a0, .inr (8, [.ref a1, .int 16, g2, g3, g4, g5])), (a1, .inl (K 0, 400, .inl f_23))]) [0, 1] (by decide) rfl
  exact W.vret hx hb hr (fun t ht hW => ⟨⟨(fun _ => 0, fun i => match i with | _ => f_23, fun _ => fun _ => 0, fun _ => 0), rfl, trivial, (⟨by rw [ht]; exact hP9, hD9⟩ : Wd D A _ t)⟩, hS.F ht⟩) hS.2.2 dX8_take_49
set_option maxHeartbeats 4000000 in
set_option maxRecDepth 100000 in
theorem c_take_16 (l : Launch) (D : va_G) (K : Nat → ClassId) (a0 : Nat) (x : Int32) (a1 : Nat) (g2 : Value) (g3 : Value) (g4 : Value) (g5 : Value) (f : Nat → Int32) (sz : Nat) : Met l yX8_take wsX8_take ({ frames := 0, cells := 0, slots := 0, locals := 0 }) (va_Pc [.ref a0, .int x] (Pre D K [(a0, .inr (8, [.ref a1, .int 16, g2, g3, g4, g5])), (a1, .inl (K 0, 400, .inl f))] sz)) (va_Qv (S := (Nat → Nat) × (Nat → Nat → Int32) × (Nat → Nat → Int64) × (Nat → Int32)) (fun _ => True) (fun u t => Wd D (va_A [(a0, .inr (8, [.ref a1, .int 16, g2, g3, g4, g5])), (a1, .inl (K 0, 400, .inl f))] sz) ((fun u => [(a0, .inr (8, [.ref a1, .int 20, g2, g3, g4, g5])), (a1, .inl (K 0, 400, .inl ((u.2.1 0))))]) u) t) (va_A [(a0, .inr (8, [.ref a1, .int 16, g2, g3, g4, g5])), (a1, .inl (K 0, 400, .inl f))] sz)) 0 0 (va_A [(a0, .inr (8, [.ref a1, .int 16, g2, g3, g4, g5])), (a1, .inl (K 0, 400, .inl f))] sz) := by
  refine Met.ofW (cc := cX8_take) (maxL := 3) (ret := none) (by decide) rfl ?_
  intro p e s m args below meth c s₁ B hml hv
  obtain ⟨rfl, hsz, hP, hK, hD0, hN⟩ := hv
  have hx := B.exec
  have hb := B.bytes
  have hr := B.returns
  have hts := atoms_spec (ws := wsX8_take) B.pre
  have hown : s.vm.findClass RX8 = some m.cls := findClass_of_methodNamed B.named
  have hlocks := B.notSynchronized
  subst hsz
  have hD := hD0.self (sz := s.heap.size)
  generalize hAe : va_A [(a0, .inr (8, [.ref a1, .int 16, g2, g3, g4, g5])), (a1, .inl (K 0, 400, .inl f))] s.heap.size = A at hD ⊢
  have hA : ∀ q : Nat, s.heap.size ≤ q → A q := fun q h => by rw [← hAe]; exact Or.inr h
  have hS : va_S A s.heap s.heap [] := va_S.rf
  have hP : va_P D vwCl [(a0, .inr (8, [.ref a1, .int 16, g2, g3, g4, g5])), (a1, .inl (K 0, 400, .inl f))] s.heap := hP
  have hl := lv_entry [.ref a0, .int x] (n := 3) (Nat.le_of_ble_eq_true rfl)
  rw [lg_entry_eq]
  generalize (lg_sl [.ref a0, .int x] ++ List.replicate (3 - (lg_sl [.ref a0, .int x]).length) Slot.unset).toArray = ls at hl ⊢
  have hl : lv_has ls 3 [(0, .ref a0), (1, .int x)] := hl
  have hw8 : ∀ w ∈ wsX80, w ∈ wsX8_take := fun w h => (List.mem_cons_of_mem _ (List.mem_append_right _ h))
  refine lv_bipush (v := 24) hx hb dX8_take_0 (by decide) ?_
  refine lv_istore_n (lv' := [(2, .int 24), (0, .ref a0), (1, .int x)]) hx hb dX8_take_2 rfl hl (by decide) rfl (fun ls hl => ?_)
  refine lv_iload_n hx hb dX8_take_3 rfl (lv_at hl 0 rfl) ?_
  refine lv_if_lt (tgt := 49) hx hb dX8_take_4 (by decide) (fun c_1 => absurd c_1 (by decide)) (fun c_1 => ?_)
  refine lv_aload_n hx hb dX8_take_7 rfl (lv_at hl 1 rfl) ?_
  refine va_get (ci := 8) (v := .int 16) (C := RX8) (T := TX8) (N := 6) hx hb hts hw8 hown hK hP 0 rfl rfl 1 (by decide) (hts (.fieldLink RX8 15 "SmokeTune$Tape" "length" "I") (List.mem_cons_of_mem _ (List.mem_append_left _ (List.mem_of_getElem? (i := 0) rfl)))) (fun _ h9 => h9) rfl dX8_take_8 ?_
  refine lv_sipush (v := 400) hx hb dX8_take_11 (by decide) ?_
  refine lv_icmp_ge (tgt := 49) hx hb dX8_take_14 (by decide) (fun c_2 => absurd c_2 (by decide)) (fun c_2 => ?_)
  refine lv_aload_n hx hb dX8_take_17 rfl (lv_at hl 1 rfl) ?_
  refine va_get (ci := 8) (v := .ref a1) (C := RX8) (T := TX8) (N := 6) hx hb hts hw8 hown hK hP 0 rfl rfl 0 (by decide) (hts (.fieldLink RX8 11 "SmokeTune$Tape" "bytes" "[I") (List.mem_cons_of_mem _ (List.mem_append_left _ (List.mem_of_getElem? (i := 1) rfl)))) (fun _ h9 => h9) rfl dX8_take_18 ?_
  refine lv_aload_n hx hb dX8_take_21 rfl (lv_at hl 1 rfl) ?_
  refine va_get (ci := 8) (v := .int 16) (C := RX8) (T := TX8) (N := 6) hx hb hts hw8 hown hK hP 0 rfl rfl 1 (by decide) (hts (.fieldLink RX8 15 "SmokeTune$Tape" "length" "I") (List.mem_cons_of_mem _ (List.mem_append_left _ (List.mem_of_getElem? (i := 0) rfl)))) (fun _ h9 => h9) rfl dX8_take_22 ?_
  refine lv_iload_n hx hb dX8_take_25 rfl (lv_at hl 2 rfl) ?_
  refine lv_iload_n hx hb dX8_take_26 rfl (lv_at hl 0 rfl) ?_
  refine lv_ishr hx hb dX8_take_27 ?_
  refine lv_topi (fun x_3 ex_3 => ?_)
  refine lv_sipush (v := 255) hx hb dX8_take_28 (by decide) ?_
  refine lv_iand hx hb dX8_take_31 ?_
  refine lv_topi (fun x_4 ex_4 => ?_)
  refine va_iast hx hb hK hP hD hS 1 0 rfl rfl (i_in (x := 16) rfl (by omega)) dX8_take_32 (fun H locs hP hD hS => ?_)
  generalize hf_5 : (upd f (16 : Int32).toNatClampNeg x_4) = f_5 at hP hD
  have hP : va_P D vwCl [(a0, .inr (8, [.ref a1, .int 16, g2, g3, g4, g5])), (a1, .inl (K 0, 400, .inl f_5))] H := hP
  have hD : va_D A [(a0, .inr (8, [.ref a1, .int 16, g2, g3, g4, g5])), (a1, .inl (K 0, 400, .inl f_5))] := hD
  refine lv_aload_n hx hb dX8_take_33 rfl (lv_at hl 1 rfl) ?_
  refine lv_dup hx hb dX8_take_34 rfl ?_
  refine va_get (ci := 8) (v := .int 16) (C := RX8) (T := TX8) (N := 6) hx hb hts hw8 hown hK hP 0 rfl rfl 1 (by decide) (hts (.fieldLink RX8 15 "SmokeTune$Tape" "length" "I") (List.mem_cons_of_mem _ (List.mem_append_left _ (List.mem_of_getElem? (i := 0) rfl)))) (fun _ h9 => h9) rfl dX8_take_35 ?_
  refine lv_iconst (v := 1) hx hb dX8_take_38 (by decide) ?_
  refine lv_iadd hx hb dX8_take_39 ?_
  refine lv_topi (fun x_6 ex_6 => ?_)
  obtain rfl : x_6 = 17 := ex_6.trans (by first | rfl | decide)
  refine va_put (ci := 8) (v := .int 17) (ty := .int) (C := RX8) (T := TX8) (N := 6) hx hb hts hw8 tyX8 tyX8_ok nmX8 hown hK hP hD hS 0 rfl rfl 1 (by decide) (hts (.fieldLink RX8 15 "SmokeTune$Tape" "length" "I") (List.mem_cons_of_mem _ (List.mem_append_left _ (List.mem_of_getElem? (i := 0) rfl)))) (fun _ h9 => h9) rfl (by decide +kernel) (by first | rfl | decide) (by first | rfl | decide) (Nat.le_of_ble_eq_true rfl) dX8_take_40 (fun H locs hP hD hS => ?_)
  have hP : va_P D vwCl [(a0, .inr (8, [.ref a1, .int 17, g2, g3, g4, g5])), (a1, .inl (K 0, 400, .inl f_5))] H := hP
  have hD : va_D A [(a0, .inr (8, [.ref a1, .int 17, g2, g3, g4, g5])), (a1, .inl (K 0, 400, .inl f_5))] := hD
  refine lv_iinc (v := 16) (lv' := [(2, .int 16), (0, .ref a0), (1, .int x)]) hx hb dX8_take_43 hl (k := 0) rfl (by decide) (by decide) rfl (fun ls hl => ?_)
  refine lv_goto (tgt := 3) hx hb dX8_take_46 (by decide) ?_
  refine lv_iload_n hx hb dX8_take_3 rfl (lv_at hl 0 rfl) ?_
  refine lv_if_lt (tgt := 49) hx hb dX8_take_4 (by decide) (fun c_7 => absurd c_7 (by decide)) (fun c_7 => ?_)
  refine lv_aload_n hx hb dX8_take_7 rfl (lv_at hl 1 rfl) ?_
  refine va_get (ci := 8) (v := .int 17) (C := RX8) (T := TX8) (N := 6) hx hb hts hw8 hown hK hP 0 rfl rfl 1 (by decide) (hts (.fieldLink RX8 15 "SmokeTune$Tape" "length" "I") (List.mem_cons_of_mem _ (List.mem_append_left _ (List.mem_of_getElem? (i := 0) rfl)))) (fun _ h9 => h9) rfl dX8_take_8 ?_
  refine lv_sipush (v := 400) hx hb dX8_take_11 (by decide) ?_
  refine lv_icmp_ge (tgt := 49) hx hb dX8_take_14 (by decide) (fun c_8 => absurd c_8 (by decide)) (fun c_8 => ?_)
  refine lv_aload_n hx hb dX8_take_17 rfl (lv_at hl 1 rfl) ?_
  refine va_get (ci := 8) (v := .ref a1) (C := RX8) (T := TX8) (N := 6) hx hb hts hw8 hown hK hP 0 rfl rfl 0 (by decide) (hts (.fieldLink RX8 11 "SmokeTune$Tape" "bytes" "[I") (List.mem_cons_of_mem _ (List.mem_append_left _ (List.mem_of_getElem? (i := 1) rfl)))) (fun _ h9 => h9) rfl dX8_take_18 ?_
  refine lv_aload_n hx hb dX8_take_21 rfl (lv_at hl 1 rfl) ?_
  refine va_get (ci := 8) (v := .int 17) (C := RX8) (T := TX8) (N := 6) hx hb hts hw8 hown hK hP 0 rfl rfl 1 (by decide) (hts (.fieldLink RX8 15 "SmokeTune$Tape" "length" "I") (List.mem_cons_of_mem _ (List.mem_append_left _ (List.mem_of_getElem? (i := 0) rfl)))) (fun _ h9 => h9) rfl dX8_take_22 ?_
  refine lv_iload_n hx hb dX8_take_25 rfl (lv_at hl 2 rfl) ?_
  refine lv_iload_n hx hb dX8_take_26 rfl (lv_at hl 0 rfl) ?_
  refine lv_ishr hx hb dX8_take_27 ?_
  refine lv_topi (fun x_9 ex_9 => ?_)
  refine lv_sipush (v := 255) hx hb dX8_take_28 (by decide) ?_
  refine lv_iand hx hb dX8_take_31 ?_
  refine lv_topi (fun x_10 ex_10 => ?_)
  refine va_iast hx hb hK hP hD hS 1 0 rfl rfl (i_in (x := 17) rfl (by omega)) dX8_take_32 (fun H locs hP hD hS => ?_)
  generalize hf_11 : (upd f_5 (17 : Int32).toNatClampNeg x_10) = f_11 at hP hD
  have hP : va_P D vwCl [(a0, .inr (8, [.ref a1, .int 17, g2, g3, g4, g5])), (a1, .inl (K 0, 400, .inl f_11))] H := hP
  have hD : va_D A [(a0, .inr (8, [.ref a1, .int 17, g2, g3, g4, g5])), (a1, .inl (K 0, 400, .inl f_11))] := hD
  refine lv_aload_n hx hb dX8_take_33 rfl (lv_at hl 1 rfl) ?_
  refine lv_dup hx hb dX8_take_34 rfl ?_
  refine va_get (ci := 8) (v := .int 17) (C := RX8) (T := TX8) (N := 6) hx hb hts hw8 hown hK hP 0 rfl rfl 1 (by decide) (hts (.fieldLink RX8 15 "SmokeTune$Tape" "length" "I") (List.mem_cons_of_mem _ (List.mem_append_left _ (List.mem_of_getElem? (i := 0) rfl)))) (fun _ h9 => h9) rfl dX8_take_35 ?_
  refine lv_iconst (v := 1) hx hb dX8_take_38 (by decide) ?_
  refine lv_iadd hx hb dX8_take_39 ?_
  refine lv_topi (fun x_12 ex_12 => ?_)
  obtain rfl : x_12 = 18 := ex_12.trans (by first | rfl | decide)
  refine va_put (ci := 8) (v := .int 18) (ty := .int) (C := RX8) (T := TX8) (N := 6) hx hb hts hw8 tyX8 tyX8_ok nmX8 hown hK hP hD hS 0 rfl rfl 1 (by decide) (hts (.fieldLink RX8 15 "SmokeTune$Tape" "length" "I") (List.mem_cons_of_mem _ (List.mem_append_left _ (List.mem_of_getElem? (i := 0) rfl)))) (fun _ h9 => h9) rfl (by decide +kernel) (by first | rfl | decide) (by first | rfl | decide) (Nat.le_of_ble_eq_true rfl) dX8_take_40 (fun H locs hP hD hS => ?_)
  have hP : va_P D vwCl [(a0, .inr (8, [.ref a1, .int 18, g2, g3, g4, g5])), (a1, .inl (K 0, 400, .inl f_11))] H := hP
  have hD : va_D A [(a0, .inr (8, [.ref a1, .int 18, g2, g3, g4, g5])), (a1, .inl (K 0, 400, .inl f_11))] := hD
  refine lv_iinc (v := 8) (lv' := [(2, .int 8), (0, .ref a0), (1, .int x)]) hx hb dX8_take_43 hl (k := 0) rfl (by decide) (by decide) rfl (fun ls hl => ?_)
  refine lv_goto (tgt := 3) hx hb dX8_take_46 (by decide) ?_
  refine lv_iload_n hx hb dX8_take_3 rfl (lv_at hl 0 rfl) ?_
  refine lv_if_lt (tgt := 49) hx hb dX8_take_4 (by decide) (fun c_13 => absurd c_13 (by decide)) (fun c_13 => ?_)
  refine lv_aload_n hx hb dX8_take_7 rfl (lv_at hl 1 rfl) ?_
  refine va_get (ci := 8) (v := .int 18) (C := RX8) (T := TX8) (N := 6) hx hb hts hw8 hown hK hP 0 rfl rfl 1 (by decide) (hts (.fieldLink RX8 15 "SmokeTune$Tape" "length" "I") (List.mem_cons_of_mem _ (List.mem_append_left _ (List.mem_of_getElem? (i := 0) rfl)))) (fun _ h9 => h9) rfl dX8_take_8 ?_
  refine lv_sipush (v := 400) hx hb dX8_take_11 (by decide) ?_
  refine lv_icmp_ge (tgt := 49) hx hb dX8_take_14 (by decide) (fun c_14 => absurd c_14 (by decide)) (fun c_14 => ?_)
  refine lv_aload_n hx hb dX8_take_17 rfl (lv_at hl 1 rfl) ?_
  refine va_get (ci := 8) (v := .ref a1) (C := RX8) (T := TX8) (N := 6) hx hb hts hw8 hown hK hP 0 rfl rfl 0 (by decide) (hts (.fieldLink RX8 11 "SmokeTune$Tape" "bytes" "[I") (List.mem_cons_of_mem _ (List.mem_append_left _ (List.mem_of_getElem? (i := 1) rfl)))) (fun _ h9 => h9) rfl dX8_take_18 ?_
  refine lv_aload_n hx hb dX8_take_21 rfl (lv_at hl 1 rfl) ?_
  refine va_get (ci := 8) (v := .int 18) (C := RX8) (T := TX8) (N := 6) hx hb hts hw8 hown hK hP 0 rfl rfl 1 (by decide) (hts (.fieldLink RX8 15 "SmokeTune$Tape" "length" "I") (List.mem_cons_of_mem _ (List.mem_append_left _ (List.mem_of_getElem? (i := 0) rfl)))) (fun _ h9 => h9) rfl dX8_take_22 ?_
  refine lv_iload_n hx hb dX8_take_25 rfl (lv_at hl 2 rfl) ?_
  refine lv_iload_n hx hb dX8_take_26 rfl (lv_at hl 0 rfl) ?_
  refine lv_ishr hx hb dX8_take_27 ?_
  refine lv_topi (fun x_15 ex_15 => ?_)
  refine lv_sipush (v := 255) hx hb dX8_take_28 (by decide) ?_
  refine lv_iand hx hb dX8_take_31 ?_
  refine lv_topi (fun x_16 ex_16 => ?_)
  refine va_iast hx hb hK hP hD hS 1 0 rfl rfl (i_in (x := 18) rfl (by omega)) dX8_take_32 (fun H locs hP hD hS => ?_)
  generalize hf_17 : (upd f_11 (18 : Int32).toNatClampNeg x_16) = f_17 at hP hD
  have hP : va_P D vwCl [(a0, .inr (8, [.ref a1, .int 18, g2, g3, g4, g5])), (a1, .inl (K 0, 400, .inl f_17))] H := hP
  have hD : va_D A [(a0, .inr (8, [.ref a1, .int 18, g2, g3, g4, g5])), (a1, .inl (K 0, 400, .inl f_17))] := hD
  refine lv_aload_n hx hb dX8_take_33 rfl (lv_at hl 1 rfl) ?_
  refine lv_dup hx hb dX8_take_34 rfl ?_
  refine va_get (ci := 8) (v := .int 18) (C := RX8) (T := TX8) (N := 6) hx hb hts hw8 hown hK hP 0 rfl rfl 1 (by decide) (hts (.fieldLink RX8 15 "SmokeTune$Tape" "length" "I") (List.mem_cons_of_mem _ (List.mem_append_left _ (List.mem_of_getElem? (i := 0) rfl)))) (fun _ h9 => h9) rfl dX8_take_35 ?_
  refine lv_iconst (v := 1) hx hb dX8_take_38 (by decide) ?_
  refine lv_iadd hx hb dX8_take_39 ?_
  refine lv_topi (fun x_18 ex_18 => ?_)
  obtain rfl : x_18 = 19 := ex_18.trans (by first | rfl | decide)
  refine va_put (ci := 8) (v := .int 19) (ty := .int) (C := RX8) (T := TX8) (N := 6) hx hb hts hw8 tyX8 tyX8_ok nmX8 hown hK hP hD hS 0 rfl rfl 1 (by decide) (hts (.fieldLink RX8 15 "SmokeTune$Tape" "length" "I") (List.mem_cons_of_mem _ (List.mem_append_left _ (List.mem_of_getElem? (i := 0) rfl)))) (fun _ h9 => h9) rfl (by decide +kernel) (by first | rfl | decide) (by first | rfl | decide) (Nat.le_of_ble_eq_true rfl) dX8_take_40 (fun H locs hP hD hS => ?_)
  have hP : va_P D vwCl [(a0, .inr (8, [.ref a1, .int 19, g2, g3, g4, g5])), (a1, .inl (K 0, 400, .inl f_17))] H := hP
  have hD : va_D A [(a0, .inr (8, [.ref a1, .int 19, g2, g3, g4, g5])), (a1, .inl (K 0, 400, .inl f_17))] := hD
  refine lv_iinc (v := 0) (lv' := [(2, .int 0), (0, .ref a0), (1, .int x)]) hx hb dX8_take_43 hl (k := 0) rfl (by decide) (by decide) rfl (fun ls hl => ?_)
  refine lv_goto (tgt := 3) hx hb dX8_take_46 (by decide) ?_
  refine lv_iload_n hx hb dX8_take_3 rfl (lv_at hl 0 rfl) ?_
  refine lv_if_lt (tgt := 49) hx hb dX8_take_4 (by decide) (fun c_19 => absurd c_19 (by decide)) (fun c_19 => ?_)
  refine lv_aload_n hx hb dX8_take_7 rfl (lv_at hl 1 rfl) ?_
  refine va_get (ci := 8) (v := .int 19) (C := RX8) (T := TX8) (N := 6) hx hb hts hw8 hown hK hP 0 rfl rfl 1 (by decide) (hts (.fieldLink RX8 15 "SmokeTune$Tape" "length" "I") (List.mem_cons_of_mem _ (List.mem_append_left _ (List.mem_of_getElem? (i := 0) rfl)))) (fun _ h9 => h9) rfl dX8_take_8 ?_
  refine lv_sipush (v := 400) hx hb dX8_take_11 (by decide) ?_
  refine lv_icmp_ge (tgt := 49) hx hb dX8_take_14 (by decide) (fun c_20 => absurd c_20 (by decide)) (fun c_20 => ?_)
  refine lv_aload_n hx hb dX8_take_17 rfl (lv_at hl 1 rfl) ?_
  refine va_get (ci := 8) (v := .ref a1) (C := RX8) (T := TX8) (N := 6) hx hb hts hw8 hown hK hP 0 rfl rfl 0 (by decide) (hts (.fieldLink RX8 11 "SmokeTune$Tape" "bytes" "[I") (List.mem_cons_of_mem _ (List.mem_append_left _ (List.mem_of_getElem? (i := 1) rfl)))) (fun _ h9 => h9) rfl dX8_take_18 ?_
  refine lv_aload_n hx hb dX8_take_21 rfl (lv_at hl 1 rfl) ?_
  refine va_get (ci := 8) (v := .int 19) (C := RX8) (T := TX8) (N := 6) hx hb hts hw8 hown hK hP 0 rfl rfl 1 (by decide) (hts (.fieldLink RX8 15 "SmokeTune$Tape" "length" "I") (List.mem_cons_of_mem _ (List.mem_append_left _ (List.mem_of_getElem? (i := 0) rfl)))) (fun _ h9 => h9) rfl dX8_take_22 ?_
  refine lv_iload_n hx hb dX8_take_25 rfl (lv_at hl 2 rfl) ?_
  refine lv_iload_n hx hb dX8_take_26 rfl (lv_at hl 0 rfl) ?_
  refine lv_ishr hx hb dX8_take_27 ?_
  refine lv_topi (fun x_21 ex_21 => ?_)
  refine lv_sipush (v := 255) hx hb dX8_take_28 (by decide) ?_
  refine lv_iand hx hb dX8_take_31 ?_
  refine lv_topi (fun x_22 ex_22 => ?_)
  refine va_iast hx hb hK hP hD hS 1 0 rfl rfl (i_in (x := 19) rfl (by omega)) dX8_take_32 (fun H locs hP hD hS => ?_)
  generalize hf_23 : (upd f_17 (19 : Int32).toNatClampNeg x_22) = f_23 at hP hD
  have hP : va_P D vwCl [(a0, .inr (8, [.ref a1, .int 19, g2, g3, g4, g5])), (a1, .inl (K 0, 400, .inl f_23))] H := hP
  have hD : va_D A [(a0, .inr (8, [.ref a1, .int 19, g2, g3, g4, g5])), (a1, .inl (K 0, 400, .inl f_23))] := hD
  refine lv_aload_n hx hb dX8_take_33 rfl (lv_at hl 1 rfl) ?_
  refine lv_dup hx hb dX8_take_34 rfl ?_
  refine va_get (ci := 8) (v := .int 19) (C := RX8) (T := TX8) (N := 6) hx hb hts hw8 hown hK hP 0 rfl rfl 1 (by decide) (hts (.fieldLink RX8 15 "SmokeTune$Tape" "length" "I") (List.mem_cons_of_mem _ (List.mem_append_left _ (List.mem_of_getElem? (i := 0) rfl)))) (fun _ h9 => h9) rfl dX8_take_35 ?_
  refine lv_iconst (v := 1) hx hb dX8_take_38 (by decide) ?_
  refine lv_iadd hx hb dX8_take_39 ?_
  refine lv_topi (fun x_24 ex_24 => ?_)
  obtain rfl : x_24 = 20 := ex_24.trans (by first | rfl | decide)
  refine va_put (ci := 8) (v := .int 20) (ty := .int) (C := RX8) (T := TX8) (N := 6) hx hb hts hw8 tyX8 tyX8_ok nmX8 hown hK hP hD hS 0 rfl rfl 1 (by decide) (hts (.fieldLink RX8 15 "SmokeTune$Tape" "length" "I") (List.mem_cons_of_mem _ (List.mem_append_left _ (List.mem_of_getElem? (i := 0) rfl)))) (fun _ h9 => h9) rfl (by decide +kernel) (by first | rfl | decide) (by first | rfl | decide) (Nat.le_of_ble_eq_true rfl) dX8_take_40 (fun H locs hP hD hS => ?_)
  have hP : va_P D vwCl [(a0, .inr (8, [.ref a1, .int 20, g2, g3, g4, g5])), (a1, .inl (K 0, 400, .inl f_23))] H := hP
  have hD : va_D A [(a0, .inr (8, [.ref a1, .int 20, g2, g3, g4, g5])), (a1, .inl (K 0, 400, .inl f_23))] := hD
  refine lv_iinc (v := (-8)) (lv' := [(2, .int (-8)), (0, .ref a0), (1, .int x)]) hx hb dX8_take_43 hl (k := 0) rfl (by decide) (by decide) rfl (fun ls hl => ?_)
  refine lv_goto (tgt := 3) hx hb dX8_take_46 (by decide) ?_
  refine lv_iload_n hx hb dX8_take_3 rfl (lv_at hl 0 rfl) ?_
  refine lv_if_lt (tgt := 49) hx hb dX8_take_4 (by decide) (fun c_25 => ?_) (fun c_25 => absurd (by decide) c_25)
  have hP9 := hP.sub (ws' := [(a0, .inr (8, [.ref a1, .int 20, g2, g3, g4, g5])), (a1, .inl (K 0, 400, .inl f_23))]) [0, 1] rfl
  have hD9 := hD.sub (ws' := [(a0, .inr (8, [.ref a1, .int 20, g2, g3, g4, g5])), (a1, .inl (K 0, 400, .inl f_23))]) [0, 1] (by decide) rfl
  exact W.vret hx hb hr (fun t ht hW => ⟨⟨(fun _ => 0, fun i => match i with | _ => f_23, fun _ => fun _ => 0, fun _ => 0), rfl, trivial, (⟨by rw [ht]; exact hP9, hD9⟩ : Wd D A _ t)⟩, hS.F ht⟩) hS.2.2 dX8_take_49
set_option maxHeartbeats 4000000 in
set_option maxRecDepth 100000 in
theorem t_feed (l : Launch) (D : va_G) (K : Nat → ClassId) (a0 : Nat) (x0 : Int32) (x1 : Int32) (x2 : Int32) (x3 : Int32) (x4 : Int32) (g0 : Value) (g1 : Value) (g2 : Value) (g3 : Value) (g4 : Value) (a2 : Nat) (g6 : Value) (g7 : Value) (g8 : Value) (g9 : Value) (g10 : Value) (g11 : Value) (g12 : Value) (g13 : Value) (g14 : Value) (g15 : Value) (g16 : Value) (a3 : Nat) (k2 : Value) (k3 : Value) (k4 : Value) (k5 : Value) (sz : Nat) : Met l yX11_feed wsX11_feed ({ frames := 1, cells := 0, slots := 0, locals := 22 }) (va_Pc [.ref a0, .int x0, .int x1, .int x2, .int x3, .int x4] (Pre D K [(a0, .inr (11, [g0, g1, g2, g3, g4, .ref a2, g6, g7, g8, g9, g10, g11, g12, g13, g14, g15, g16])), (a2, .inr (8, [.ref a3, .int 0, k2, k3, k4, k5])), (a3, .inl (K 0, 400, .inl (fun _ => 0)))] sz)) (va_Qi (S := Unit) (fun (r : Int32) (_ : Unit) => (r = 20)) (fun u t => Wd D (va_A [(a0, .inr (11, [g0, g1, g2, g3, g4, .ref a2, g6, g7, g8, g9, g10, g11, g12, g13, g14, g15, g16])), (a2, .inr (8, [.ref a3, .int 0, k2, k3, k4, k5])), (a3, .inl (K 0, 400, .inl (fun _ => 0)))] sz) ((fun _ => []) u) t) (va_A [(a0, .inr (11, [g0, g1, g2, g3, g4, .ref a2, g6, g7, g8, g9, g10, g11, g12, g13, g14, g15, g16])), (a2, .inr (8, [.ref a3, .int 0, k2, k3, k4, k5])), (a3, .inl (K 0, 400, .inl (fun _ => 0)))] sz)) 0 0 (va_A [(a0, .inr (11, [g0, g1, g2, g3, g4, .ref a2, g6, g7, g8, g9, g10, g11, g12, g13, g14, g15, g16])), (a2, .inr (8, [.ref a3, .int 0, k2, k3, k4, k5])), (a3, .inl (K 0, 400, .inl (fun _ => 0)))] sz) := by
  refine Met.ofW (cc := cX11_feed) (maxL := 6) (ret := (some .int)) (by decide) rfl ?_
  intro p e s m args below meth c s₁ B hml hv
  obtain ⟨rfl, hsz, hP, hK, hD0, hN⟩ := hv
  have hx := B.exec
  have hb := B.bytes
  have hr := B.returns
  have hts := atoms_spec (ws := wsX11_feed) B.pre
  have hown : s.vm.findClass RX11 = some m.cls := findClass_of_methodNamed B.named
  have hlocks := B.notSynchronized
  subst hsz
  have hD := hD0.self (sz := s.heap.size)
  generalize hAe : va_A [(a0, .inr (11, [g0, g1, g2, g3, g4, .ref a2, g6, g7, g8, g9, g10, g11, g12, g13, g14, g15, g16])), (a2, .inr (8, [.ref a3, .int 0, k2, k3, k4, k5])), (a3, .inl (K 0, 400, .inl (fun _ => 0)))] s.heap.size = A at hD ⊢
  have hA : ∀ q : Nat, s.heap.size ≤ q → A q := fun q h => by rw [← hAe]; exact Or.inr h
  have hS : va_S A s.heap s.heap [] := va_S.rf
  have hP : va_P D vwCl [(a0, .inr (11, [g0, g1, g2, g3, g4, .ref a2, g6, g7, g8, g9, g10, g11, g12, g13, g14, g15, g16])), (a2, .inr (8, [.ref a3, .int 0, k2, k3, k4, k5])), (a3, .inl (K 0, 400, .inl (fun _ => 0)))] s.heap := hP
  have hl := lv_entry [.ref a0, .int x0, .int x1, .int x2, .int x3, .int x4] (n := 6) (Nat.le_of_ble_eq_true rfl)
  rw [lg_entry_eq]
  generalize (lg_sl [.ref a0, .int x0, .int x1, .int x2, .int x3, .int x4] ++ List.replicate (6 - (lg_sl [.ref a0, .int x0, .int x1, .int x2, .int x3, .int x4]).length) Slot.unset).toArray = ls at hl ⊢
  have hl : lv_has ls 6 [(0, .ref a0), (1, .int x0), (2, .int x1), (3, .int x2), (4, .int x3), (5, .int x4)] := hl
  have hw8 : ∀ w ∈ wsX80, w ∈ wsX11_feed := fun w h => (List.mem_cons_of_mem _ (List.mem_append_right _ h))
  have hw11 : ∀ w ∈ wsX110, w ∈ wsX11_feed := fun w h => (List.mem_cons_of_mem _ (List.mem_append_left _ (List.mem_append_right _ h)))
  refine lv_aload_n hx hb dX11_feed_0 rfl (lv_at hl 0 rfl) ?_
  refine va_get (ci := 11) (v := .ref a2) (C := RX11) (T := TX11) (N := 17) hx hb hts hw11 hown hK hP 0 rfl rfl 5 (by decide) (hts (.fieldLink RX11 38 "SmokeTune" "tape" "LSmokeTune$Tape;") (List.mem_cons_of_mem _ (List.mem_append_left _ (List.mem_append_left _ (List.mem_of_getElem? (i := 0) rfl))))) (fun _ h9 => h9) rfl dX11_feed_1 ?_
  refine va_getN (ci := 8) (v := .int 0) (C := RX8) (T := TX8) (N := 6) hx hb hts hw8 hown hK hP 1 rfl rfl 1 (by decide) (nst_use hN 120 rfl) (fun _ h9 => h9) rfl dX11_feed_4 ?_
  refine lv_bipush (v := 20) hx hb dX11_feed_7 (by decide) ?_
  refine lv_iadd hx hb dX11_feed_9 ?_
  refine lv_topi (fun x_1 ex_1 => ?_)
  obtain rfl : x_1 = 20 := ex_1.trans (by first | rfl | decide)
  refine lv_sipush (v := 400) hx hb dX11_feed_10 (by decide) ?_
  refine lv_icmp_le (tgt := 18) hx hb dX11_feed_13 (by decide) (fun c_2 => ?_) (fun c_2 => absurd (by decide) c_2)
  refine lv_aload_n hx hb dX11_feed_18 rfl (lv_at hl 0 rfl) ?_
  refine va_get (ci := 11) (v := .ref a2) (C := RX11) (T := TX11) (N := 17) hx hb hts hw11 hown hK hP 0 rfl rfl 5 (by decide) (hts (.fieldLink RX11 38 "SmokeTune" "tape" "LSmokeTune$Tape;") (List.mem_cons_of_mem _ (List.mem_append_left _ (List.mem_append_left _ (List.mem_of_getElem? (i := 0) rfl))))) (fun _ h9 => h9) rfl dX11_feed_19 ?_
  refine lv_iload_n hx hb dX11_feed_22 rfl (lv_at hl 1 rfl) ?_
  refine kcv (wr := [(a0, .inr (11, [g0, g1, g2, g3, g4, .ref a2, g6, g7, g8, g9, g10, g11, g12, g13, g14, g15, g16]))]) (va_runVN (As := [.int x0]) (rest := []) ⟨hx, hb, hml, hown, hts⟩ (c_take_0 l D K a2 x0 a3 k2 k3 k4 k5 (fun _ => 0) s.heap.size) ⟨va_cnB 1 hts gX11_feed_X8_take_n166 rfl rfl rfl (nst_at hN 29 rfl) (hts (.initialized RX8) (List.mem_cons_of_mem _ (List.mem_append_left _ (List.mem_append_left _ (List.mem_of_getElem? (i := 2) rfl))))) (by decide +kernel) ⟨Nat.le_of_ble_eq_true rfl, Nat.le_of_ble_eq_true rfl⟩, (hts (.instanceMethod yX8_take) (List.mem_cons_of_mem _ (List.mem_append_left _ (List.mem_append_left _ (List.mem_of_getElem? (i := 1) rfl))))), (hts (.selects RX8 yX8_take yX8_take) (List.mem_cons_of_mem _ (List.mem_append_left _ (List.mem_append_left _ (List.mem_of_getElem? (i := 3) rfl)))))⟩ (mkV hK hN (hP.sub [1, 2] rfl) (hD.sub [1, 2] (by decide) rfl) (ci := 8) (q0 := 0) rfl rfl) rfl rfl hl.1 rfl (lv_room (Nat.le_of_ble_eq_true rfl)) dX11_feed_23 ⟨Nat.le_of_ble_eq_true rfl, Nat.le_of_ble_eq_true rfl⟩) hP hD hS hA [1, 2] [0] rfl rfl (by decide) (by decide) (fun u_4 H locs hw hP hD hS => ?_)
  have hP : va_P D vwCl [(a0, .inr (11, [g0, g1, g2, g3, g4, .ref a2, g6, g7, g8, g9, g10, g11, g12, g13, g14, g15, g16])), (a2, .inr (8, [.ref a3, .int 4, k2, k3, k4, k5])), (a3, .inl (K 0, 400, .inl ((u_4.2.1 0))))] H := hP
  have hD : va_D A [(a0, .inr (11, [g0, g1, g2, g3, g4, .ref a2, g6, g7, g8, g9, g10, g11, g12, g13, g14, g15, g16])), (a2, .inr (8, [.ref a3, .int 4, k2, k3, k4, k5])), (a3, .inl (K 0, 400, .inl ((u_4.2.1 0))))] := hD
  refine lv_aload_n hx hb dX11_feed_26 rfl (lv_at hl 0 rfl) ?_
  refine va_get (ci := 11) (v := .ref a2) (C := RX11) (T := TX11) (N := 17) hx hb hts hw11 hown hK hP 0 rfl rfl 5 (by decide) (hts (.fieldLink RX11 38 "SmokeTune" "tape" "LSmokeTune$Tape;") (List.mem_cons_of_mem _ (List.mem_append_left _ (List.mem_append_left _ (List.mem_of_getElem? (i := 0) rfl))))) (fun _ h9 => h9) rfl dX11_feed_27 ?_
  refine lv_iload_n hx hb dX11_feed_30 rfl (lv_at hl 2 rfl) ?_
  refine kcv (wr := [(a0, .inr (11, [g0, g1, g2, g3, g4, .ref a2, g6, g7, g8, g9, g10, g11, g12, g13, g14, g15, g16]))]) (va_runVN (As := [.int x1]) (rest := []) ⟨hx, hb, hml, hown, hts⟩ (c_take_4 l D K a2 x1 a3 k2 k3 k4 k5 (u_4.2.1 0) H.size) ⟨va_cnB 1 hts gX11_feed_X8_take_n166 rfl rfl rfl (nst_at hN 29 rfl) (hts (.initialized RX8) (List.mem_cons_of_mem _ (List.mem_append_left _ (List.mem_append_left _ (List.mem_of_getElem? (i := 2) rfl))))) (by decide +kernel) ⟨Nat.le_of_ble_eq_true rfl, Nat.le_of_ble_eq_true rfl⟩, (hts (.instanceMethod yX8_take) (List.mem_cons_of_mem _ (List.mem_append_left _ (List.mem_append_left _ (List.mem_of_getElem? (i := 1) rfl))))), (hts (.selects RX8 yX8_take yX8_take) (List.mem_cons_of_mem _ (List.mem_append_left _ (List.mem_append_left _ (List.mem_of_getElem? (i := 3) rfl)))))⟩ (mkV hK hN (hP.sub [1, 2] rfl) (hD.sub [1, 2] (by decide) rfl) (ci := 8) (q0 := 0) rfl rfl) rfl rfl hl.1 rfl (lv_room (Nat.le_of_ble_eq_true rfl)) dX11_feed_31 ⟨Nat.le_of_ble_eq_true rfl, Nat.le_of_ble_eq_true rfl⟩) hP hD hS hA [1, 2] [0] rfl rfl (by decide) (by decide) (fun u_6 H locs hw hP hD hS => ?_)
  have hP : va_P D vwCl [(a0, .inr (11, [g0, g1, g2, g3, g4, .ref a2, g6, g7, g8, g9, g10, g11, g12, g13, g14, g15, g16])), (a2, .inr (8, [.ref a3, .int 8, k2, k3, k4, k5])), (a3, .inl (K 0, 400, .inl ((u_6.2.1 0))))] H := hP
  have hD : va_D A [(a0, .inr (11, [g0, g1, g2, g3, g4, .ref a2, g6, g7, g8, g9, g10, g11, g12, g13, g14, g15, g16])), (a2, .inr (8, [.ref a3, .int 8, k2, k3, k4, k5])), (a3, .inl (K 0, 400, .inl ((u_6.2.1 0))))] := hD
  refine lv_aload_n hx hb dX11_feed_34 rfl (lv_at hl 0 rfl) ?_
  refine va_get (ci := 11) (v := .ref a2) (C := RX11) (T := TX11) (N := 17) hx hb hts hw11 hown hK hP 0 rfl rfl 5 (by decide) (hts (.fieldLink RX11 38 "SmokeTune" "tape" "LSmokeTune$Tape;") (List.mem_cons_of_mem _ (List.mem_append_left _ (List.mem_append_left _ (List.mem_of_getElem? (i := 0) rfl))))) (fun _ h9 => h9) rfl dX11_feed_35 ?_
  refine lv_iload_n hx hb dX11_feed_38 rfl (lv_at hl 3 rfl) ?_
  refine kcv (wr := [(a0, .inr (11, [g0, g1, g2, g3, g4, .ref a2, g6, g7, g8, g9, g10, g11, g12, g13, g14, g15, g16]))]) (va_runVN (As := [.int x2]) (rest := []) ⟨hx, hb, hml, hown, hts⟩ (c_take_8 l D K a2 x2 a3 k2 k3 k4 k5 (u_6.2.1 0) H.size) ⟨va_cnB 1 hts gX11_feed_X8_take_n166 rfl rfl rfl (nst_at hN 29 rfl) (hts (.initialized RX8) (List.mem_cons_of_mem _ (List.mem_append_left _ (List.mem_append_left _ (List.mem_of_getElem? (i := 2) rfl))))) (by decide +kernel) ⟨Nat.le_of_ble_eq_true rfl, Nat.le_of_ble_eq_true rfl⟩, (hts (.instanceMethod yX8_take) (List.mem_cons_of_mem _ (List.mem_append_left _ (List.mem_append_left _ (List.mem_of_getElem? (i := 1) rfl))))), (hts (.selects RX8 yX8_take yX8_take) (List.mem_cons_of_mem _ (List.mem_append_left _ (List.mem_append_left _ (List.mem_of_getElem? (i := 3) rfl)))))⟩ (mkV hK hN (hP.sub [1, 2] rfl) (hD.sub [1, 2] (by decide) rfl) (ci := 8) (q0 := 0) rfl rfl) rfl rfl hl.1 rfl (lv_room (Nat.le_of_ble_eq_true rfl)) dX11_feed_39 ⟨Nat.le_of_ble_eq_true rfl, Nat.le_of_ble_eq_true rfl⟩) hP hD hS hA [1, 2] [0] rfl rfl (by decide) (by decide) (fun u_8 H locs hw hP hD hS => ?_)
  have hP : va_P D vwCl [(a0, .inr (11, [g0, g1, g2, g3, g4, .ref a2, g6, g7, g8, g9, g10, g11, g12, g13, g14, g15, g16])), (a2, .inr (8, [.ref a3, .int 12, k2, k3, k4, k5])), (a3, .inl (K 0, 400, .inl ((u_8.2.1 0))))] H := hP
  have hD : va_D A [(a0, .inr (11, [g0, g1, g2, g3, g4, .ref a2, g6, g7, g8, g9, g10, g11, g12, g13, g14, g15, g16])), (a2, .inr (8, [.ref a3, .int 12, k2, k3, k4, k5])), (a3, .inl (K 0, 400, .inl ((u_8.2.1 0))))] := hD
  refine lv_aload_n hx hb dX11_feed_42 rfl (lv_at hl 0 rfl) ?_
  refine va_get (ci := 11) (v := .ref a2) (C := RX11) (T := TX11) (N := 17) hx hb hts hw11 hown hK hP 0 rfl rfl 5 (by decide) (hts (.fieldLink RX11 38 "SmokeTune" "tape" "LSmokeTune$Tape;") (List.mem_cons_of_mem _ (List.mem_append_left _ (List.mem_append_left _ (List.mem_of_getElem? (i := 0) rfl))))) (fun _ h9 => h9) rfl dX11_feed_43 ?_
  refine lv_iload hx hb dX11_feed_46 (lv_at hl 4 rfl) ?_
  refine kcv (wr := [(a0, .inr (11, [g0, g1, g2, g3, g4, .ref a2, g6, g7, g8, g9, g10, g11, g12, g13, g14, g15, g16]))]) (va_runVN (As := [.int x3]) (rest := []) ⟨hx, hb, hml, hown, hts⟩ (c_take_12 l D K a2 x3 a3 k2 k3 k4 k5 (u_8.2.1 0) H.size) ⟨va_cnB 1 hts gX11_feed_X8_take_n166 rfl rfl rfl (nst_at hN 29 rfl) (hts (.initialized RX8) (List.mem_cons_of_mem _ (List.mem_append_left _ (List.mem_append_left _ (List.mem_of_getElem? (i := 2) rfl))))) (by decide +kernel) ⟨Nat.le_of_ble_eq_true rfl, Nat.le_of_ble_eq_true rfl⟩, (hts (.instanceMethod yX8_take) (List.mem_cons_of_mem _ (List.mem_append_left _ (List.mem_append_left _ (List.mem_of_getElem? (i := 1) rfl))))), (hts (.selects RX8 yX8_take yX8_take) (List.mem_cons_of_mem _ (List.mem_append_left _ (List.mem_append_left _ (List.mem_of_getElem? (i := 3) rfl)))))⟩ (mkV hK hN (hP.sub [1, 2] rfl) (hD.sub [1, 2] (by decide) rfl) (ci := 8) (q0 := 0) rfl rfl) rfl rfl hl.1 rfl (lv_room (Nat.le_of_ble_eq_true rfl)) dX11_feed_48 ⟨Nat.le_of_ble_eq_true rfl, Nat.le_of_ble_eq_true rfl⟩) hP hD hS hA [1, 2] [0] rfl rfl (by decide) (by decide) (fun u_10 H locs hw hP hD hS => ?_)
  have hP : va_P D vwCl [(a0, .inr (11, [g0, g1, g2, g3, g4, .ref a2, g6, g7, g8, g9, g10, g11, g12, g13, g14, g15, g16])), (a2, .inr (8, [.ref a3, .int 16, k2, k3, k4, k5])), (a3, .inl (K 0, 400, .inl ((u_10.2.1 0))))] H := hP
  have hD : va_D A [(a0, .inr (11, [g0, g1, g2, g3, g4, .ref a2, g6, g7, g8, g9, g10, g11, g12, g13, g14, g15, g16])), (a2, .inr (8, [.ref a3, .int 16, k2, k3, k4, k5])), (a3, .inl (K 0, 400, .inl ((u_10.2.1 0))))] := hD
  refine lv_aload_n hx hb dX11_feed_51 rfl (lv_at hl 0 rfl) ?_
  refine va_get (ci := 11) (v := .ref a2) (C := RX11) (T := TX11) (N := 17) hx hb hts hw11 hown hK hP 0 rfl rfl 5 (by decide) (hts (.fieldLink RX11 38 "SmokeTune" "tape" "LSmokeTune$Tape;") (List.mem_cons_of_mem _ (List.mem_append_left _ (List.mem_append_left _ (List.mem_of_getElem? (i := 0) rfl))))) (fun _ h9 => h9) rfl dX11_feed_52 ?_
  refine lv_iload hx hb dX11_feed_55 (lv_at hl 5 rfl) ?_
  refine kcv (wr := [(a0, .inr (11, [g0, g1, g2, g3, g4, .ref a2, g6, g7, g8, g9, g10, g11, g12, g13, g14, g15, g16]))]) (va_runVN (As := [.int x4]) (rest := []) ⟨hx, hb, hml, hown, hts⟩ (c_take_16 l D K a2 x4 a3 k2 k3 k4 k5 (u_10.2.1 0) H.size) ⟨va_cnB 1 hts gX11_feed_X8_take_n166 rfl rfl rfl (nst_at hN 29 rfl) (hts (.initialized RX8) (List.mem_cons_of_mem _ (List.mem_append_left _ (List.mem_append_left _ (List.mem_of_getElem? (i := 2) rfl))))) (by decide +kernel) ⟨Nat.le_of_ble_eq_true rfl, Nat.le_of_ble_eq_true rfl⟩, (hts (.instanceMethod yX8_take) (List.mem_cons_of_mem _ (List.mem_append_left _ (List.mem_append_left _ (List.mem_of_getElem? (i := 1) rfl))))), (hts (.selects RX8 yX8_take yX8_take) (List.mem_cons_of_mem _ (List.mem_append_left _ (List.mem_append_left _ (List.mem_of_getElem? (i := 3) rfl)))))⟩ (mkV hK hN (hP.sub [1, 2] rfl) (hD.sub [1, 2] (by decide) rfl) (ci := 8) (q0 := 0) rfl rfl) rfl rfl hl.1 rfl (lv_room (Nat.le_of_ble_eq_true rfl)) dX11_feed_57 ⟨Nat.le_of_ble_eq_true rfl, Nat.le_of_ble_eq_true rfl⟩) hP hD hS hA [1, 2] [0] rfl rfl (by decide) (by decide) (fun u_12 H locs hw hP hD hS => ?_)
  have hP : va_P D vwCl [(a0, .inr (11, [g0, g1, g2, g3, g4, .ref a2, g6, g7, g8, g9, g10, g11, g12, g13, g14, g15, g16])), (a2, .inr (8, [.ref a3, .int 20, k2, k3, k4, k5])), (a3, .inl (K 0, 400, .inl ((u_12.2.1 0))))] H := hP
  have hD : va_D A [(a0, .inr (11, [g0, g1, g2, g3, g4, .ref a2, g6, g7, g8, g9, g10, g11, g12, g13, g14, g15, g16])), (a2, .inr (8, [.ref a3, .int 20, k2, k3, k4, k5])), (a3, .inl (K 0, 400, .inl ((u_12.2.1 0))))] := hD
  refine lv_aload_n hx hb dX11_feed_60 rfl (lv_at hl 0 rfl) ?_
  refine va_get (ci := 11) (v := .ref a2) (C := RX11) (T := TX11) (N := 17) hx hb hts hw11 hown hK hP 0 rfl rfl 5 (by decide) (hts (.fieldLink RX11 38 "SmokeTune" "tape" "LSmokeTune$Tape;") (List.mem_cons_of_mem _ (List.mem_append_left _ (List.mem_append_left _ (List.mem_of_getElem? (i := 0) rfl))))) (fun _ h9 => h9) rfl dX11_feed_61 ?_
  refine va_getN (ci := 8) (v := .int 20) (C := RX8) (T := TX8) (N := 6) hx hb hts hw8 hown hK hP 1 rfl rfl 1 (by decide) (nst_use hN 120 rfl) (fun _ h9 => h9) rfl dX11_feed_64 ?_
  exact W.iret (v := 20) hx hb hr (fun t ht hW => ⟨⟨20, (), rfl, (by first | exact rfl), Wd.nil⟩, hS.F ht⟩) hS.2.2 dX11_feed_67
set_option maxHeartbeats 4000000 in
set_option maxRecDepth 100000 in
theorem t_end (l : Launch) (D : va_G) (K : Nat → ClassId) (a0 : Nat) (x : Int32) (g0 : Value) (g1 : Value) (g2 : Value) (g3 : Value) (g4 : Value) (a2 : Nat) (g6 : Value) (g7 : Value) (g8 : Value) (g9 : Value) (g10 : Value) (g11 : Value) (g12 : Value) (g13 : Value) (g14 : Value) (g15 : Value) (g16 : Value) (k0 : Value) (k2 : Value) (k3 : Value) (k4 : Value) (k5 : Value) (sz : Nat) : Met l yX11_end wsX11_end ({ frames := 1, cells := 0, slots := 0, locals := 22 }) (va_Pc [.ref a0, .int x] (Pre D K [(a0, .inr (11, [g0, g1, g2, g3, g4, .ref a2, g6, g7, g8, g9, g10, g11, g12, g13, g14, g15, g16])), (a2, .inr (8, [k0, .int 0, k2, k3, k4, k5]))] sz)) (va_Qi (S := Unit) (fun (r : Int32) (_ : Unit) => (r = x ∧ x.toInt = 0) ∨ (r = (-1) ∧ x.toInt ≠ 0)) (fun u t => Wd D (va_A [(a0, .inr (11, [g0, g1, g2, g3, g4, .ref a2, g6, g7, g8, g9, g10, g11, g12, g13, g14, g15, g16])), (a2, .inr (8, [k0, .int 0, k2, k3, k4, k5]))] sz) ((fun _ => []) u) t) (va_A [(a0, .inr (11, [g0, g1, g2, g3, g4, .ref a2, g6, g7, g8, g9, g10, g11, g12, g13, g14, g15, g16])), (a2, .inr (8, [k0, .int 0, k2, k3, k4, k5]))] sz)) 0 0 (va_A [(a0, .inr (11, [g0, g1, g2, g3, g4, .ref a2, g6, g7, g8, g9, g10, g11, g12, g13, g14, g15, g16])), (a2, .inr (8, [k0, .int 0, k2, k3, k4, k5]))] sz) := by
  refine Met.ofW (cc := cX11_end) (maxL := 2) (ret := (some .int)) (by decide) rfl ?_
  intro p e s m args below meth c s₁ B hml hv
  obtain ⟨rfl, hsz, hP, hK, hD0, hN⟩ := hv
  have hx := B.exec
  have hb := B.bytes
  have hr := B.returns
  have hts := atoms_spec (ws := wsX11_end) B.pre
  have hown : s.vm.findClass RX11 = some m.cls := findClass_of_methodNamed B.named
  have hlocks := B.notSynchronized
  subst hsz
  have hD := hD0.self (sz := s.heap.size)
  generalize hAe : va_A [(a0, .inr (11, [g0, g1, g2, g3, g4, .ref a2, g6, g7, g8, g9, g10, g11, g12, g13, g14, g15, g16])), (a2, .inr (8, [k0, .int 0, k2, k3, k4, k5]))] s.heap.size = A at hD ⊢
  have hA : ∀ q : Nat, s.heap.size ≤ q → A q := fun q h => by rw [← hAe]; exact Or.inr h
  have hS : va_S A s.heap s.heap [] := va_S.rf
  have hP : va_P D vwCl [(a0, .inr (11, [g0, g1, g2, g3, g4, .ref a2, g6, g7, g8, g9, g10, g11, g12, g13, g14, g15, g16])), (a2, .inr (8, [k0, .int 0, k2, k3, k4, k5]))] s.heap := hP
  have hl := lv_entry [.ref a0, .int x] (n := 2) (Nat.le_of_ble_eq_true rfl)
  rw [lg_entry_eq]
  generalize (lg_sl [.ref a0, .int x] ++ List.replicate (2 - (lg_sl [.ref a0, .int x]).length) Slot.unset).toArray = ls at hl ⊢
  have hl : lv_has ls 2 [(0, .ref a0), (1, .int x)] := hl
  have hw8 : ∀ w ∈ wsX80, w ∈ wsX11_end := fun w h => (List.mem_cons_of_mem _ (List.mem_append_right _ h))
  have hw11 : ∀ w ∈ wsX110, w ∈ wsX11_end := fun w h => (List.mem_cons_of_mem _ (List.mem_append_left _ (List.mem_append_right _ h)))
  refine lv_iload_n hx hb dX11_end_0 rfl (lv_at hl 1 rfl) ?_
  refine lv_iconst (v := 0) hx hb dX11_end_1 (by decide) ?_
  refine lv_aload_n hx hb dX11_end_2 rfl (lv_at hl 0 rfl) ?_
  refine va_get (ci := 11) (v := .ref a2) (C := RX11) (T := TX11) (N := 17) hx hb hts hw11 hown hK hP 0 rfl rfl 5 (by decide) (hts (.fieldLink RX11 38 "SmokeTune" "tape" "LSmokeTune$Tape;") (List.mem_cons_of_mem _ (List.mem_append_left _ (List.mem_append_left _ (List.mem_of_getElem? (i := 0) rfl))))) (fun _ h9 => h9) rfl dX11_end_3 ?_
  refine va_getN (ci := 8) (v := .int 0) (C := RX8) (T := TX8) (N := 6) hx hb hts hw8 hown hK hP 1 rfl rfl 1 (by decide) (nst_use hN 120 rfl) (fun _ h9 => h9) rfl dX11_end_6 ?_
  refine pci (va_runS (As := [.int x, .int 0, .int 0]) (rest := []) ⟨hx, hb, hml, hown, hts⟩ (c_within l D K x 0 0 x.toInt 0 0 s.heap.size rfl rfl rfl) (va_cwS 3 hts gX11_end_X11_within rfl rfl rfl (by decide +kernel) ⟨Nat.le_of_ble_eq_true rfl, Nat.le_of_ble_eq_true rfl⟩) (mkS hK hN (hP.sub [] rfl) (hD.sub [] (by decide) rfl)) rfl rfl hl.1 rfl (lv_room (Nat.le_of_ble_eq_true rfl)) dX11_end_9 ⟨Nat.le_of_ble_eq_true rfl, Nat.le_of_ble_eq_true rfl⟩) (fun r_1 hw => ?_)
  rcases hw with ⟨rfl, h_2, h_3⟩ | ⟨rfl, h_4⟩
  · refine lv_if_ne (tgt := 17) hx hb dX11_end_12 (by decide) (fun c_5 => ?_) (fun c_5 => absurd (by decide) c_5)
    refine lv_aload_n hx hb dX11_end_17 rfl (lv_at hl 0 rfl) ?_
    refine va_get (ci := 11) (v := .ref a2) (C := RX11) (T := TX11) (N := 17) hx hb hts hw11 hown hK hP 0 rfl rfl 5 (by decide) (hts (.fieldLink RX11 38 "SmokeTune" "tape" "LSmokeTune$Tape;") (List.mem_cons_of_mem _ (List.mem_append_left _ (List.mem_append_left _ (List.mem_of_getElem? (i := 0) rfl))))) (fun _ h9 => h9) rfl dX11_end_18 ?_
    refine lv_iload_n hx hb dX11_end_21 rfl (lv_at hl 1 rfl) ?_
    refine va_putN (ci := 8) (v := .int x) (ty := .int) (C := RX8) (T := TX8) (N := 6) hx hb hts hw8 tyX8 tyX8_ok nmX8 hown hK hP hD hS 1 rfl rfl 1 (by decide) (nst_use hN 120 rfl) (fun _ h9 => h9) rfl (by decide +kernel) (by first | rfl | decide) (by first | rfl | decide) (Nat.le_of_ble_eq_true rfl) dX11_end_22 (fun H locs hP hD hS => ?_)
    have hP : va_P D vwCl [(a0, .inr (11, [g0, g1, g2, g3, g4, .ref a2, g6, g7, g8, g9, g10, g11, g12, g13, g14, g15, g16])), (a2, .inr (8, [k0, .int x, k2, k3, k4, k5]))] H := hP
    have hD : va_D A [(a0, .inr (11, [g0, g1, g2, g3, g4, .ref a2, g6, g7, g8, g9, g10, g11, g12, g13, g14, g15, g16])), (a2, .inr (8, [k0, .int x, k2, k3, k4, k5]))] := hD
    refine lv_iload_n hx hb dX11_end_25 rfl (lv_at hl 1 rfl) ?_
    exact W.iret (v := x) hx hb hr (fun t ht hW => ⟨⟨x, (), rfl, (by first | exact Or.inl (⟨rfl, by first | omega | decide | (subst_vars; assumption)⟩) | exact Or.inr (⟨rfl, by first | omega | decide | (subst_vars; assumption)⟩)), Wd.nil⟩, hS.F ht⟩) hS.2.2 dX11_end_26
  · refine lv_if_ne (tgt := 17) hx hb dX11_end_12 (by decide) (fun c_6 => absurd c_6 (by decide)) (fun c_6 => ?_)
    refine lv_iconst (v := (-1)) hx hb dX11_end_15 (by decide) ?_
    exact W.iret (v := (-1)) hx hb hr (fun t ht hW => ⟨⟨(-1), (), rfl, (by first | exact Or.inl (⟨rfl, by first | omega | decide | (subst_vars; assumption)⟩) | exact Or.inr (⟨rfl, by first | omega | decide | (subst_vars; assumption)⟩)), Wd.nil⟩, hS.F ht⟩) hS.2.2 dX11_end_16
set_option maxHeartbeats 4000000 in
set_option maxRecDepth 100000 in
theorem t_row (l : Launch) (D : va_G) (K : Nat → ClassId) (a0 : Nat) (g0 : Value) (g1 : Value) (g2 : Value) (g3 : Value) (g4 : Value) (a2 : Nat) (g6 : Value) (g7 : Value) (g8 : Value) (g9 : Value) (g10 : Value) (g11 : Value) (a1 : Nat) (g13 : Value) (g14 : Value) (g15 : Value) (g16 : Value) (f : Nat → Int32) (k0 : Value) (k2 : Value) (k3 : Value) (k4 : Value) (k5 : Value) (sz : Nat) : Met l yX11_row wsX11_row ({ frames := 2, cells := 0, slots := 0, locals := 44 }) (va_Pc [.ref a0] (Pre D K [(a0, .inr (11, [g0, g1, g2, g3, g4, .ref a2, g6, g7, g8, g9, g10, g11, .ref a1, g13, g14, g15, g16])), (a1, .inl (K 0, 5, .inl f)), (a2, .inr (8, [k0, .int 0, k2, k3, k4, k5]))] sz)) (va_Qi (S := Unit) (fun (r : Int32) (_ : Unit) => (r = (-6))) (fun u t => Wd D (va_A [(a0, .inr (11, [g0, g1, g2, g3, g4, .ref a2, g6, g7, g8, g9, g10, g11, .ref a1, g13, g14, g15, g16])), (a1, .inl (K 0, 5, .inl f)), (a2, .inr (8, [k0, .int 0, k2, k3, k4, k5]))] sz) ((fun _ => []) u) t) (va_A [(a0, .inr (11, [g0, g1, g2, g3, g4, .ref a2, g6, g7, g8, g9, g10, g11, .ref a1, g13, g14, g15, g16])), (a1, .inl (K 0, 5, .inl f)), (a2, .inr (8, [k0, .int 0, k2, k3, k4, k5]))] sz)) 0 0 (va_A [(a0, .inr (11, [g0, g1, g2, g3, g4, .ref a2, g6, g7, g8, g9, g10, g11, .ref a1, g13, g14, g15, g16])), (a1, .inl (K 0, 5, .inl f)), (a2, .inr (8, [k0, .int 0, k2, k3, k4, k5]))] sz) := by
  refine Met.ofW (cc := cX11_row) (maxL := 4) (ret := (some .int)) (by decide) rfl ?_
  intro p e s m args below meth c s₁ B hml hv
  obtain ⟨rfl, hsz, hP, hK, hD0, hN⟩ := hv
  have hx := B.exec
  have hb := B.bytes
  have hr := B.returns
  have hts := atoms_spec (ws := wsX11_row) B.pre
  have hown : s.vm.findClass RX11 = some m.cls := findClass_of_methodNamed B.named
  have hlocks := B.notSynchronized
  subst hsz
  have hD := hD0.self (sz := s.heap.size)
  generalize hAe : va_A [(a0, .inr (11, [g0, g1, g2, g3, g4, .ref a2, g6, g7, g8, g9, g10, g11, .ref a1, g13, g14, g15, g16])), (a1, .inl (K 0, 5, .inl f)), (a2, .inr (8, [k0, .int 0, k2, k3, k4, k5]))] s.heap.size = A at hD ⊢
  have hA : ∀ q : Nat, s.heap.size ≤ q → A q := fun q h => by rw [← hAe]; exact Or.inr h
  have hS : va_S A s.heap s.heap [] := va_S.rf
  have hP : va_P D vwCl [(a0, .inr (11, [g0, g1, g2, g3, g4, .ref a2, g6, g7, g8, g9, g10, g11, .ref a1, g13, g14, g15, g16])), (a1, .inl (K 0, 5, .inl f)), (a2, .inr (8, [k0, .int 0, k2, k3, k4, k5]))] s.heap := hP
  have hl := lv_entry [.ref a0] (n := 4) (Nat.le_of_ble_eq_true rfl)
  rw [lg_entry_eq]
  generalize (lg_sl [.ref a0] ++ List.replicate (4 - (lg_sl [.ref a0]).length) Slot.unset).toArray = ls at hl ⊢
  have hl : lv_has ls 4 [(0, .ref a0)] := hl
  have hw8 : ∀ w ∈ wsX80, w ∈ wsX11_row := fun w h => (List.mem_cons_of_mem _ (List.mem_append_left _ (List.mem_append_right _ h)))
  have hw9 : ∀ w ∈ wsX90, w ∈ wsX11_row := fun w h => (List.mem_cons_of_mem _ (List.mem_append_right _ h))
  have hw11 : ∀ w ∈ wsX110, w ∈ wsX11_row := fun w h => (List.mem_cons_of_mem _ (List.mem_append_left _ (List.mem_append_left _ (List.mem_append_right _ h))))
  refine lv_aload_n hx hb dX11_row_0 rfl (lv_at hl 0 rfl) ?_
  refine va_get (ci := 11) (v := .ref a2) (C := RX11) (T := TX11) (N := 17) hx hb hts hw11 hown hK hP 0 rfl rfl 5 (by decide) (hts (.fieldLink RX11 38 "SmokeTune" "tape" "LSmokeTune$Tape;") (List.mem_cons_of_mem _ (List.mem_append_left _ (List.mem_append_left _ (List.mem_append_left _ (List.mem_of_getElem? (i := 0) rfl)))))) (fun _ h9 => h9) rfl dX11_row_1 ?_
  refine va_getN (ci := 8) (v := .int 0) (C := RX8) (T := TX8) (N := 6) hx hb hts hw8 hown hK hP 2 rfl rfl 1 (by decide) (nst_use hN 120 rfl) (fun _ h9 => h9) rfl dX11_row_4 ?_
  refine lv_if_ne (tgt := 17) hx hb dX11_row_7 (by decide) (fun c_1 => absurd c_1 (by decide)) (fun c_1 => ?_)
  refine lv_aload_n hx hb dX11_row_10 rfl (lv_at hl 0 rfl) ?_
  refine lv_bipush (v := (-6)) hx hb dX11_row_11 (by decide) ?_
  refine kci (wr := [(a2, .inr (8, [k0, .int 0, k2, k3, k4, k5]))]) (va_runV (As := [.int (-6)]) (rest := []) ⟨hx, hb, hml, hown, hts⟩ (c_refuse_6 l D K a0 g0 g1 g2 g3 g4 (.ref a2) g6 g7 g8 g9 g10 g11 a1 g13 g14 g15 g16 f s.heap.size) (cwV 1 hts gX11_row_X11_refuse rfl rfl rfl (by decide +kernel) ⟨Nat.le_of_ble_eq_true rfl, Nat.le_of_ble_eq_true rfl⟩) (mkV hK hN (hP.sub [0, 1] rfl) (hD.sub [0, 1] (by decide) rfl) (ci := 11) (q0 := 0) rfl rfl) rfl rfl hl.1 rfl (lv_room (Nat.le_of_ble_eq_true rfl)) dX11_row_13 ⟨Nat.le_of_ble_eq_true rfl, Nat.le_of_ble_eq_true rfl⟩) hP hD hS hA [0, 1] [2] rfl rfl (by decide) (by decide) (fun r_2 u_3 H locs hw hP hD hS => ?_)
  have hP : va_P D vwCl [(a2, .inr (8, [k0, .int 0, k2, k3, k4, k5]))] H := hP
  have hD : va_D A [(a2, .inr (8, [k0, .int 0, k2, k3, k4, k5]))] := hD
  obtain rfl : r_2 = (-6) := hw
  exact W.iret (v := (-6)) hx hb hr (fun t ht hW => ⟨⟨(-6), (), rfl, (by first | exact rfl), Wd.nil⟩, hS.F ht⟩) hS.2.2 dX11_row_16
set_option maxHeartbeats 4000000 in
set_option maxRecDepth 100000 in
theorem t_force (l : Launch) (D : va_G) (K : Nat → ClassId) (a0 : Nat) (x : Int32) (a2 : Nat) (g1 : Value) (g2 : Value) (g3 : Value) (g4 : Value) (g5 : Value) (g6 : Value) (g7 : Value) (g8 : Value) (g9 : Value) (g10 : Value) (g11 : Value) (a1 : Nat) (g13 : Value) (g14 : Value) (g15 : Value) (g16 : Value) (f : Nat → Int32) (k0 : Value) (k1 : Value) (k2 : Value) (k3 : Value) (k4 : Value) (k7 : Value) (k8 : Value) (k9 : Value) (sz : Nat) : Met l yX11_force wsX11_force ({ frames := 2, cells := 0, slots := 0, locals := 44 }) (va_Pc [.ref a0, .int x] (Pre D K [(a0, .inr (11, [.ref a2, g1, g2, g3, g4, g5, g6, g7, g8, g9, g10, g11, .ref a1, g13, g14, g15, g16])), (a1, .inl (K 0, 5, .inl f)), (a2, .inr (9, [k0, k1, k2, k3, k4, .int 0, .int (-1), k7, k8, k9]))] sz)) (va_Qi (S := Unit) (fun (r : Int32) (_ : Unit) => (r = (-1) ∧ x.toInt = -1) ∨ (r = (-2) ∧ x.toInt ≠ -1)) (fun u t => Wd D (va_A [(a0, .inr (11, [.ref a2, g1, g2, g3, g4, g5, g6, g7, g8, g9, g10, g11, .ref a1, g13, g14, g15, g16])), (a1, .inl (K 0, 5, .inl f)), (a2, .inr (9, [k0, k1, k2, k3, k4, .int 0, .int (-1), k7, k8, k9]))] sz) ((fun _ => []) u) t) (va_A [(a0, .inr (11, [.ref a2, g1, g2, g3, g4, g5, g6, g7, g8, g9, g10, g11, .ref a1, g13, g14, g15, g16])), (a1, .inl (K 0, 5, .inl f)), (a2, .inr (9, [k0, k1, k2, k3, k4, .int 0, .int (-1), k7, k8, k9]))] sz)) 0 0 (va_A [(a0, .inr (11, [.ref a2, g1, g2, g3, g4, g5, g6, g7, g8, g9, g10, g11, .ref a1, g13, g14, g15, g16])), (a1, .inl (K 0, 5, .inl f)), (a2, .inr (9, [k0, k1, k2, k3, k4, .int 0, .int (-1), k7, k8, k9]))] sz) := by
  refine Met.ofW (cc := cX11_force) (maxL := 3) (ret := (some .int)) (by decide) rfl ?_
  intro p e s m args below meth c s₁ B hml hv
  obtain ⟨rfl, hsz, hP, hK, hD0, hN⟩ := hv
  have hx := B.exec
  have hb := B.bytes
  have hr := B.returns
  have hts := atoms_spec (ws := wsX11_force) B.pre
  have hown : s.vm.findClass RX11 = some m.cls := findClass_of_methodNamed B.named
  have hlocks := B.notSynchronized
  subst hsz
  have hD := hD0.self (sz := s.heap.size)
  generalize hAe : va_A [(a0, .inr (11, [.ref a2, g1, g2, g3, g4, g5, g6, g7, g8, g9, g10, g11, .ref a1, g13, g14, g15, g16])), (a1, .inl (K 0, 5, .inl f)), (a2, .inr (9, [k0, k1, k2, k3, k4, .int 0, .int (-1), k7, k8, k9]))] s.heap.size = A at hD ⊢
  have hA : ∀ q : Nat, s.heap.size ≤ q → A q := fun q h => by rw [← hAe]; exact Or.inr h
  have hS : va_S A s.heap s.heap [] := va_S.rf
  have hP : va_P D vwCl [(a0, .inr (11, [.ref a2, g1, g2, g3, g4, g5, g6, g7, g8, g9, g10, g11, .ref a1, g13, g14, g15, g16])), (a1, .inl (K 0, 5, .inl f)), (a2, .inr (9, [k0, k1, k2, k3, k4, .int 0, .int (-1), k7, k8, k9]))] s.heap := hP
  have hl := lv_entry [.ref a0, .int x] (n := 3) (Nat.le_of_ble_eq_true rfl)
  rw [lg_entry_eq]
  generalize (lg_sl [.ref a0, .int x] ++ List.replicate (3 - (lg_sl [.ref a0, .int x]).length) Slot.unset).toArray = ls at hl ⊢
  have hl : lv_has ls 3 [(0, .ref a0), (1, .int x)] := hl
  have hw9 : ∀ w ∈ wsX90, w ∈ wsX11_force := fun w h => (List.mem_cons_of_mem _ (List.mem_append_right _ h))
  have hw11 : ∀ w ∈ wsX110, w ∈ wsX11_force := fun w h => (List.mem_cons_of_mem _ (List.mem_append_left _ (List.mem_append_right _ h)))
  refine lv_iload_n hx hb dX11_force_0 rfl (lv_at hl 1 rfl) ?_
  refine lv_iconst (v := (-1)) hx hb dX11_force_1 (by decide) ?_
  refine lv_icmp_eq (tgt := 29) hx hb dX11_force_2 (by decide) (fun c_1 => ?_) (fun c_1 => ?_)
  · have c_1i := i_eq rfl rfl c_1
    refine lv_aload_n hx hb dX11_force_29 rfl (lv_at hl 0 rfl) ?_
    refine va_get (ci := 11) (v := .ref a2) (C := RX11) (T := TX11) (N := 17) hx hb hts hw11 hown hK hP 0 rfl rfl 0 (by decide) (hts (.fieldLink RX11 10 "SmokeTune" "town" "LSmokeTune$Town;") (List.mem_cons_of_mem _ (List.mem_append_left _ (List.mem_append_left _ (List.mem_of_getElem? (i := 0) rfl))))) (fun _ h9 => h9) rfl dX11_force_30 ?_
    refine va_getN (ci := 9) (v := .int (-1)) (C := RX9) (T := TX9) (N := 10) hx hb hts hw9 hown hK hP 2 rfl rfl 6 (by decide) (nst_use hN 111 rfl) (fun _ h9 => h9) rfl dX11_force_33 ?_
    refine lv_istore_n (lv' := [(2, .int (-1)), (0, .ref a0), (1, .int x)]) hx hb dX11_force_36 rfl hl (by decide) rfl (fun ls hl => ?_)
    refine lv_aload_n hx hb dX11_force_37 rfl (lv_at hl 1 rfl) ?_
    refine va_get (ci := 11) (v := .ref a2) (C := RX11) (T := TX11) (N := 17) hx hb hts hw11 hown hK hP 0 rfl rfl 0 (by decide) (hts (.fieldLink RX11 10 "SmokeTune" "town" "LSmokeTune$Town;") (List.mem_cons_of_mem _ (List.mem_append_left _ (List.mem_append_left _ (List.mem_of_getElem? (i := 0) rfl))))) (fun _ h9 => h9) rfl dX11_force_38 ?_
    refine lv_iload_n hx hb dX11_force_41 rfl (lv_at hl 2 rfl) ?_
    refine va_putN (ci := 9) (v := .int x) (ty := .int) (C := RX9) (T := TX9) (N := 10) hx hb hts hw9 tyX9 tyX9_ok nmX9 hown hK hP hD hS 2 rfl rfl 6 (by decide) (nst_use hN 111 rfl) (fun _ h9 => h9) rfl (by decide +kernel) (by first | rfl | decide) (by first | rfl | decide) (Nat.le_of_ble_eq_true rfl) dX11_force_42 (fun H locs hP hD hS => ?_)
    have hP : va_P D vwCl [(a0, .inr (11, [.ref a2, g1, g2, g3, g4, g5, g6, g7, g8, g9, g10, g11, .ref a1, g13, g14, g15, g16])), (a1, .inl (K 0, 5, .inl f)), (a2, .inr (9, [k0, k1, k2, k3, k4, .int 0, .int x, k7, k8, k9]))] H := hP
    have hD : va_D A [(a0, .inr (11, [.ref a2, g1, g2, g3, g4, g5, g6, g7, g8, g9, g10, g11, .ref a1, g13, g14, g15, g16])), (a1, .inl (K 0, 5, .inl f)), (a2, .inr (9, [k0, k1, k2, k3, k4, .int 0, .int x, k7, k8, k9]))] := hD
    refine lv_aload_n hx hb dX11_force_45 rfl (lv_at hl 1 rfl) ?_
    refine lv_iload_n hx hb dX11_force_46 rfl (lv_at hl 0 rfl) ?_
    refine kci (wr := [(a1, .inl (K 0, 5, .inl f)), (a2, .inr (9, [k0, k1, k2, k3, k4, .int 0, .int x, k7, k8, k9]))]) (va_runV (As := [.int (-1)]) (rest := []) ⟨hx, hb, hml, hown, hts⟩ (c_accept l D K a0 (-1) (.ref a2) g1 g2 g3 g4 g5 g6 g7 g8 g9 g10 g11 (.ref a1) g13 g14 g15 g16 H.size) (cwV 1 hts gX11_force_X11_accept rfl rfl rfl (by decide +kernel) ⟨Nat.le_of_ble_eq_true rfl, Nat.le_of_ble_eq_true rfl⟩) (mkV hK hN (hP.sub [0] rfl) (hD.sub [0] (by decide) rfl) (ci := 11) (q0 := 0) rfl rfl) rfl rfl hl.1 rfl (lv_room (Nat.le_of_ble_eq_true rfl)) dX11_force_47 ⟨Nat.le_of_ble_eq_true rfl, Nat.le_of_ble_eq_true rfl⟩) hP hD hS hA [0] [1, 2] rfl rfl (by decide) (by decide) (fun r_2 u_3 H locs hw hP hD hS => ?_)
    have hP : va_P D vwCl [(a1, .inl (K 0, 5, .inl f)), (a2, .inr (9, [k0, k1, k2, k3, k4, .int 0, .int x, k7, k8, k9]))] H := hP
    have hD : va_D A [(a1, .inl (K 0, 5, .inl f)), (a2, .inr (9, [k0, k1, k2, k3, k4, .int 0, .int x, k7, k8, k9]))] := hD
    obtain rfl : r_2 = (-1) := hw
    exact W.iret (v := (-1)) hx hb hr (fun t ht hW => ⟨⟨(-1), (), rfl, (by first | exact Or.inl (⟨rfl, by first | omega | decide | (subst_vars; assumption)⟩)), Wd.nil⟩, hS.F ht⟩) hS.2.2 dX11_force_50
  · have c_1i := i_ne rfl rfl c_1
    refine lv_iload_n hx hb dX11_force_5 rfl (lv_at hl 1 rfl) ?_
    refine lv_iconst (v := 0) hx hb dX11_force_6 (by decide) ?_
    refine lv_aload_n hx hb dX11_force_7 rfl (lv_at hl 0 rfl) ?_
    refine va_get (ci := 11) (v := .ref a2) (C := RX11) (T := TX11) (N := 17) hx hb hts hw11 hown hK hP 0 rfl rfl 0 (by decide) (hts (.fieldLink RX11 10 "SmokeTune" "town" "LSmokeTune$Town;") (List.mem_cons_of_mem _ (List.mem_append_left _ (List.mem_append_left _ (List.mem_of_getElem? (i := 0) rfl))))) (fun _ h9 => h9) rfl dX11_force_8 ?_
    refine va_getN (ci := 9) (v := .int 0) (C := RX9) (T := TX9) (N := 10) hx hb hts hw9 hown hK hP 2 rfl rfl 5 (by decide) (nst_use hN 110 rfl) (fun _ h9 => h9) rfl dX11_force_11 ?_
    refine lv_iconst (v := 1) hx hb dX11_force_14 (by decide) ?_
    refine lv_isub hx hb dX11_force_15 ?_
    refine lv_topi (fun x_4 ex_4 => ?_)
    obtain rfl : x_4 = (-1) := ex_4.trans (by first | rfl | decide)
    refine pci (va_runS (As := [.int x, .int 0, .int (-1)]) (rest := []) ⟨hx, hb, hml, hown, hts⟩ (c_within l D K x 0 (-1) x.toInt 0 (-1) s.heap.size rfl rfl rfl) (va_cwS 3 hts gX11_force_X11_within rfl rfl rfl (by decide +kernel) ⟨Nat.le_of_ble_eq_true rfl, Nat.le_of_ble_eq_true rfl⟩) (mkS hK hN (hP.sub [] rfl) (hD.sub [] (by decide) rfl)) rfl rfl hl.1 rfl (lv_room (Nat.le_of_ble_eq_true rfl)) dX11_force_16 ⟨Nat.le_of_ble_eq_true rfl, Nat.le_of_ble_eq_true rfl⟩) (fun r_5 hw => ?_)
    rcases hw with ⟨rfl, h_6, h_7⟩ | ⟨rfl, h_8⟩
    · exfalso; omega
    · refine lv_if_ne (tgt := 29) hx hb dX11_force_19 (by decide) (fun c_9 => absurd c_9 (by decide)) (fun c_9 => ?_)
      refine lv_aload_n hx hb dX11_force_22 rfl (lv_at hl 0 rfl) ?_
      refine lv_bipush (v := (-2)) hx hb dX11_force_23 (by decide) ?_
      refine kci (wr := [(a2, .inr (9, [k0, k1, k2, k3, k4, .int 0, .int (-1), k7, k8, k9]))]) (va_runV (As := [.int (-2)]) (rest := []) ⟨hx, hb, hml, hown, hts⟩ (c_refuse_2 l D K a0 (.ref a2) g1 g2 g3 g4 g5 g6 g7 g8 g9 g10 g11 a1 g13 g14 g15 g16 f s.heap.size) (cwV 1 hts gX11_force_X11_refuse rfl rfl rfl (by decide +kernel) ⟨Nat.le_of_ble_eq_true rfl, Nat.le_of_ble_eq_true rfl⟩) (mkV hK hN (hP.sub [0, 1] rfl) (hD.sub [0, 1] (by decide) rfl) (ci := 11) (q0 := 0) rfl rfl) rfl rfl hl.1 rfl (lv_room (Nat.le_of_ble_eq_true rfl)) dX11_force_25 ⟨Nat.le_of_ble_eq_true rfl, Nat.le_of_ble_eq_true rfl⟩) hP hD hS hA [0, 1] [2] rfl rfl (by decide) (by decide) (fun r_10 u_11 H locs hw hP hD hS => ?_)
      have hP : va_P D vwCl [(a2, .inr (9, [k0, k1, k2, k3, k4, .int 0, .int (-1), k7, k8, k9]))] H := hP
      have hD : va_D A [(a2, .inr (9, [k0, k1, k2, k3, k4, .int 0, .int (-1), k7, k8, k9]))] := hD
      obtain rfl : r_10 = (-2) := hw
      exact W.iret (v := (-2)) hx hb hr (fun t ht hW => ⟨⟨(-2), (), rfl, (by first | exact Or.inr (⟨rfl, by first | omega | decide | (subst_vars; assumption)⟩)), Wd.nil⟩, hS.F ht⟩) hS.2.2 dX11_force_28
set_option maxHeartbeats 4000000 in
set_option maxRecDepth 100000 in
theorem c_discords (l : Launch) (D : va_G) (K : Nat → ClassId) (a0 : Nat) (a1 : Nat) (g0 : Value) (k0 : Value) (k1 : Value) (k2 : Value) (k3 : Value) (k5 : Value) (k6 : Value) (k7 : Value) (k8 : Value) (k9 : Value) (sz : Nat) : Met l yX10_discords wsX10_discords ({ frames := 0, cells := 0, slots := 0, locals := 0 }) (va_Pc [.ref a0, .ref a1] (Pre D K [(a0, .inr (10, [g0])), (a1, .inr (9, [k0, k1, k2, k3, .int 0, k5, k6, k7, k8, k9]))] sz)) (vp_Si (fun r : Int32 => (r = 0))) 0 0 (fun _ => False) := by
  refine Met.ofW (cc := cX10_discords) (maxL := 5) (ret := (some .int)) (by decide) rfl ?_
  intro p e s m args below meth c s₁ B hml hv
  obtain ⟨rfl, hsz, hP, hK, hD0, hN⟩ := hv
  have hx := B.exec
  have hb := B.bytes
  have hr := B.returns
  have hts := atoms_spec (ws := wsX10_discords) B.pre
  have hown : s.vm.findClass RX10 = some m.cls := findClass_of_methodNamed B.named
  have hlocks := B.notSynchronized
  subst hsz
  have hD := hD0
  have hP : va_P D vwCl [(a0, .inr (10, [g0])), (a1, .inr (9, [k0, k1, k2, k3, .int 0, k5, k6, k7, k8, k9]))] s.heap := hP
  have hl := lv_entry [.ref a0, .ref a1] (n := 5) (Nat.le_of_ble_eq_true rfl)
  rw [lg_entry_eq]
  generalize (lg_sl [.ref a0, .ref a1] ++ List.replicate (5 - (lg_sl [.ref a0, .ref a1]).length) Slot.unset).toArray = ls at hl ⊢
  have hl : lv_has ls 5 [(0, .ref a0), (1, .ref a1)] := hl
  have hw0 : ∀ w ∈ wsX00, w ∈ wsX10_discords := fun w h => (List.mem_cons_of_mem _ (List.mem_append_left _ (List.mem_append_left _ (List.mem_append_right _ h))))
  have hw3 : ∀ w ∈ wsX30, w ∈ wsX10_discords := fun w h => (List.mem_cons_of_mem _ (List.mem_append_right _ h))
  have hw7 : ∀ w ∈ wsX70, w ∈ wsX10_discords := fun w h => (List.mem_cons_of_mem _ (List.mem_append_left _ (List.mem_append_right _ h)))
  have hw9 : ∀ w ∈ wsX90, w ∈ wsX10_discords := fun w h => (List.mem_cons_of_mem _ (List.mem_append_left _ (List.mem_append_left _ (List.mem_append_left _ (List.mem_append_left _ (List.mem_append_right _ h))))))
  have hw10 : ∀ w ∈ wsX100, w ∈ wsX10_discords := fun w h => (List.mem_cons_of_mem _ (List.mem_append_left _ (List.mem_append_left _ (List.mem_append_left _ (List.mem_append_right _ h)))))
  refine lv_iconst (v := 0) hx hb dX10_discords_0 (by decide) ?_
  refine lv_istore_n (lv' := [(2, .int 0), (0, .ref a0), (1, .ref a1)]) hx hb dX10_discords_1 rfl hl (by decide) rfl (fun ls hl => ?_)
  refine lv_iconst (v := 0) hx hb dX10_discords_2 (by decide) ?_
  refine lv_istore_n (lv' := [(3, .int 0), (2, .int 0), (0, .ref a0), (1, .ref a1)]) hx hb dX10_discords_3 rfl hl (by decide) rfl (fun ls hl => ?_)
  refine lv_iload_n hx hb dX10_discords_4 rfl (lv_at hl 0 rfl) ?_
  refine lv_aload_n hx hb dX10_discords_5 rfl (lv_at hl 3 rfl) ?_
  refine va_getN (ci := 9) (v := .int 0) (C := RX9) (T := TX9) (N := 10) hx hb hts hw9 hown hK hP 1 rfl rfl 4 (by decide) (nst_use hN 109 rfl) (fun _ h9 => h9) rfl dX10_discords_6 ?_
  refine lv_icmp_ge (tgt := 110) hx hb dX10_discords_9 (by decide) (fun c_1 => ?_) (fun c_1 => absurd (by decide) c_1)
  refine lv_iload_n hx hb dX10_discords_110 rfl (lv_at hl 1 rfl) ?_
  exact W.iret (v := 0) hx hb hr (fun t ht hW => ⟨_, rfl, (by first | exact rfl), ht⟩) (fun q hq => by cases hq) dX10_discords_111
set_option maxHeartbeats 4000000 in
set_option maxRecDepth 100000 in
theorem t_discord (l : Launch) (D : va_G) (K : Nat → ClassId) (a0 : Nat) (a2 : Nat) (g1 : Value) (g2 : Value) (g3 : Value) (g4 : Value) (g5 : Value) (g6 : Value) (a3 : Nat) (g8 : Value) (g9 : Value) (g10 : Value) (g11 : Value) (g12 : Value) (g13 : Value) (g14 : Value) (g15 : Value) (g16 : Value) (k0 : Value) (k1 : Value) (k2 : Value) (k3 : Value) (k5 : Value) (k6 : Value) (k7 : Value) (k8 : Value) (k9 : Value) (p0 : Value) (sz : Nat) : Met l yX11_discord wsX11_discord ({ frames := 1, cells := 0, slots := 0, locals := 24 }) (va_Pc [.ref a0] (Pre D K [(a0, .inr (11, [.ref a2, g1, g2, g3, g4, g5, g6, .ref a3, g8, g9, g10, g11, g12, g13, g14, g15, g16])), (a2, .inr (9, [k0, k1, k2, k3, .int 0, k5, k6, k7, k8, k9])), (a3, .inr (10, [p0]))] sz)) (vp_Si (fun r : Int32 => (r = 0))) 0 0 (fun _ => False) := by
  refine Met.ofW (cc := cX11_discord) (maxL := 1) (ret := (some .int)) (by decide) rfl ?_
  intro p e s m args below meth c s₁ B hml hv
  obtain ⟨rfl, hsz, hP, hK, hD0, hN⟩ := hv
  have hx := B.exec
  have hb := B.bytes
  have hr := B.returns
  have hts := atoms_spec (ws := wsX11_discord) B.pre
  have hown : s.vm.findClass RX11 = some m.cls := findClass_of_methodNamed B.named
  have hlocks := B.notSynchronized
  subst hsz
  have hD := hD0
  have hP : va_P D vwCl [(a0, .inr (11, [.ref a2, g1, g2, g3, g4, g5, g6, .ref a3, g8, g9, g10, g11, g12, g13, g14, g15, g16])), (a2, .inr (9, [k0, k1, k2, k3, .int 0, k5, k6, k7, k8, k9])), (a3, .inr (10, [p0]))] s.heap := hP
  have hl := lv_entry [.ref a0] (n := 1) (Nat.le_of_ble_eq_true rfl)
  rw [lg_entry_eq]
  generalize (lg_sl [.ref a0] ++ List.replicate (1 - (lg_sl [.ref a0]).length) Slot.unset).toArray = ls at hl ⊢
  have hl : lv_has ls 1 [(0, .ref a0)] := hl
  have hw0 : ∀ w ∈ wsX00, w ∈ wsX11_discord := fun w h => (List.mem_cons_of_mem _ (List.mem_append_left _ (List.mem_append_left _ (List.mem_append_right _ h))))
  have hw3 : ∀ w ∈ wsX30, w ∈ wsX11_discord := fun w h => (List.mem_cons_of_mem _ (List.mem_append_right _ h))
  have hw7 : ∀ w ∈ wsX70, w ∈ wsX11_discord := fun w h => (List.mem_cons_of_mem _ (List.mem_append_left _ (List.mem_append_right _ h)))
  have hw9 : ∀ w ∈ wsX90, w ∈ wsX11_discord := fun w h => (List.mem_cons_of_mem _ (List.mem_append_left _ (List.mem_append_left _ (List.mem_append_left _ (List.mem_append_left _ (List.mem_append_right _ h))))))
  have hw10 : ∀ w ∈ wsX100, w ∈ wsX11_discord := fun w h => (List.mem_cons_of_mem _ (List.mem_append_left _ (List.mem_append_left _ (List.mem_append_left _ (List.mem_append_right _ h)))))
  have hw11 : ∀ w ∈ wsX110, w ∈ wsX11_discord := fun w h => (List.mem_cons_of_mem _ (List.mem_append_left _ (List.mem_append_left _ (List.mem_append_left _ (List.mem_append_left _ (List.mem_append_left _ (List.mem_append_right _ h)))))))
  refine lv_aload_n hx hb dX11_discord_0 rfl (lv_at hl 0 rfl) ?_
  refine va_get (ci := 11) (v := .ref a3) (C := RX11) (T := TX11) (N := 17) hx hb hts hw11 hown hK hP 0 rfl rfl 7 (by decide) (hts (.fieldLink RX11 50 "SmokeTune" "works" "LSmokeTune$Works;") (List.mem_cons_of_mem _ (List.mem_append_left _ (List.mem_append_left _ (List.mem_append_left _ (List.mem_append_left _ (List.mem_append_left _ (List.mem_append_left _ (List.mem_append_left _ (List.mem_of_getElem? (i := 0) rfl)))))))))) (fun _ h9 => h9) rfl dX11_discord_1 ?_
  refine lv_aload_n hx hb dX11_discord_4 rfl (lv_at hl 0 rfl) ?_
  refine va_get (ci := 11) (v := .ref a2) (C := RX11) (T := TX11) (N := 17) hx hb hts hw11 hown hK hP 0 rfl rfl 0 (by decide) (hts (.fieldLink RX11 10 "SmokeTune" "town" "LSmokeTune$Town;") (List.mem_cons_of_mem _ (List.mem_append_left _ (List.mem_append_left _ (List.mem_append_left _ (List.mem_append_left _ (List.mem_append_left _ (List.mem_append_left _ (List.mem_append_left _ (List.mem_of_getElem? (i := 1) rfl)))))))))) (fun _ h9 => h9) rfl dX11_discord_5 ?_
  refine pci (va_runVN (As := [.ref a2]) (rest := []) ⟨hx, hb, hml, hown, hts⟩ (c_discords l D K a3 a2 p0 k0 k1 k2 k3 k5 k6 k7 k8 k9 s.heap.size) ⟨va_cnB 1 hts gX11_discord_X10_discords_n206 rfl rfl rfl (nst_at hN 65 rfl) (hts (.initialized RX10) (List.mem_cons_of_mem _ (List.mem_append_left _ (List.mem_append_left _ (List.mem_append_left _ (List.mem_append_left _ (List.mem_append_left _ (List.mem_append_left _ (List.mem_append_left _ (List.mem_of_getElem? (i := 3) rfl)))))))))) (by decide +kernel) ⟨Nat.le_of_ble_eq_true rfl, Nat.le_of_ble_eq_true rfl⟩, (hts (.instanceMethod yX10_discords) (List.mem_cons_of_mem _ (List.mem_append_left _ (List.mem_append_left _ (List.mem_append_left _ (List.mem_append_left _ (List.mem_append_left _ (List.mem_append_left _ (List.mem_append_left _ (List.mem_of_getElem? (i := 2) rfl)))))))))), (hts (.selects RX10 yX10_discords yX10_discords) (List.mem_cons_of_mem _ (List.mem_append_left _ (List.mem_append_left _ (List.mem_append_left _ (List.mem_append_left _ (List.mem_append_left _ (List.mem_append_left _ (List.mem_append_left _ (List.mem_of_getElem? (i := 4) rfl))))))))))⟩ (mkV hK hN (hP.sub [2, 1] rfl) (hD.sub [2, 1] (by decide) rfl) (ci := 10) (q0 := 0) rfl rfl) rfl rfl hl.1 rfl (lv_room (Nat.le_of_ble_eq_true rfl)) dX11_discord_8 ⟨Nat.le_of_ble_eq_true rfl, Nat.le_of_ble_eq_true rfl⟩) (fun r_1 hw => ?_)
  obtain rfl : r_1 = 0 := hw
  exact W.iret (v := 0) hx hb hr (fun t ht hW => ⟨_, rfl, (by first | exact rfl), ht⟩) (fun q hq => by cases hq) dX11_discord_11
set_option maxHeartbeats 4000000 in
set_option maxRecDepth 100000 in
theorem c_notesNow (l : Launch) (D : va_G) (K : Nat → ClassId) (a0 : Nat) (k0 : Value) (k1 : Value) (k2 : Value) (k3 : Value) (k5 : Value) (k6 : Value) (k7 : Value) (k8 : Value) (k9 : Value) (sz : Nat) : Met l yX9_notesNow wsX9_notesNow ({ frames := 0, cells := 0, slots := 0, locals := 0 }) (va_Pc [.ref a0] (Pre D K [(a0, .inr (9, [k0, k1, k2, k3, .int 0, k5, k6, k7, k8, k9]))] sz)) (vp_Si (fun r : Int32 => (r = 0))) 0 0 (fun _ => False) := by
  refine Met.ofW (cc := cX9_notesNow) (maxL := 3) (ret := (some .int)) (by decide) rfl ?_
  intro p e s m args below meth c s₁ B hml hv
  obtain ⟨rfl, hsz, hP, hK, hD0, hN⟩ := hv
  have hx := B.exec
  have hb := B.bytes
  have hr := B.returns
  have hts := atoms_spec (ws := wsX9_notesNow) B.pre
  have hown : s.vm.findClass RX9 = some m.cls := findClass_of_methodNamed B.named
  have hlocks := B.notSynchronized
  subst hsz
  have hD := hD0
  have hP : va_P D vwCl [(a0, .inr (9, [k0, k1, k2, k3, .int 0, k5, k6, k7, k8, k9]))] s.heap := hP
  have hl := lv_entry [.ref a0] (n := 3) (Nat.le_of_ble_eq_true rfl)
  rw [lg_entry_eq]
  generalize (lg_sl [.ref a0] ++ List.replicate (3 - (lg_sl [.ref a0]).length) Slot.unset).toArray = ls at hl ⊢
  have hl : lv_has ls 3 [(0, .ref a0)] := hl
  have hw9 : ∀ w ∈ wsX90, w ∈ wsX9_notesNow := fun w h => (List.mem_cons_of_mem _ (List.mem_append_right _ h))
  refine lv_iconst (v := 0) hx hb dX9_notesNow_0 (by decide) ?_
  refine lv_istore_n (lv' := [(1, .int 0), (0, .ref a0)]) hx hb dX9_notesNow_1 rfl hl (by decide) rfl (fun ls hl => ?_)
  refine lv_iconst (v := 0) hx hb dX9_notesNow_2 (by decide) ?_
  refine lv_istore_n (lv' := [(2, .int 0), (1, .int 0), (0, .ref a0)]) hx hb dX9_notesNow_3 rfl hl (by decide) rfl (fun ls hl => ?_)
  refine lv_iload_n hx hb dX9_notesNow_4 rfl (lv_at hl 0 rfl) ?_
  refine lv_aload_n hx hb dX9_notesNow_5 rfl (lv_at hl 2 rfl) ?_
  refine va_get (ci := 9) (v := .int 0) (C := RX9) (T := TX9) (N := 10) hx hb hts hw9 hown hK hP 0 rfl rfl 4 (by decide) (hts (.fieldLink RX9 27 "SmokeTune$Town" "houses" "I") (List.mem_cons_of_mem _ (List.mem_append_left _ (List.mem_of_getElem? (i := 0) rfl)))) (fun _ h9 => h9) rfl dX9_notesNow_6 ?_
  refine lv_icmp_ge (tgt := 41) hx hb dX9_notesNow_9 (by decide) (fun c_1 => ?_) (fun c_1 => absurd (by decide) c_1)
  refine lv_iload_n hx hb dX9_notesNow_41 rfl (lv_at hl 1 rfl) ?_
  exact W.iret (v := 0) hx hb hr (fun t ht hW => ⟨_, rfl, (by first | exact rfl), ht⟩) (fun q hq => by cases hq) dX9_notesNow_42
set_option maxHeartbeats 4000000 in
set_option maxRecDepth 100000 in
theorem c_thirdsNow (l : Launch) (D : va_G) (K : Nat → ClassId) (a0 : Nat) (k0 : Value) (k1 : Value) (k2 : Value) (k3 : Value) (k5 : Value) (k6 : Value) (k7 : Value) (k8 : Value) (k9 : Value) (sz : Nat) : Met l yX9_thirdsNow wsX9_thirdsNow ({ frames := 1, cells := 0, slots := 0, locals := 22 }) (va_Pc [.ref a0] (Pre D K [(a0, .inr (9, [k0, k1, k2, k3, .int 0, k5, k6, k7, k8, k9]))] sz)) (vp_Si (fun r : Int32 => (r = 0))) 0 0 (fun _ => False) := by
  refine Met.ofW (cc := cX9_thirdsNow) (maxL := 5) (ret := (some .int)) (by decide) rfl ?_
  intro p e s m args below meth c s₁ B hml hv
  obtain ⟨rfl, hsz, hP, hK, hD0, hN⟩ := hv
  have hx := B.exec
  have hb := B.bytes
  have hr := B.returns
  have hts := atoms_spec (ws := wsX9_thirdsNow) B.pre
  have hown : s.vm.findClass RX9 = some m.cls := findClass_of_methodNamed B.named
  have hlocks := B.notSynchronized
  subst hsz
  have hD := hD0
  have hP : va_P D vwCl [(a0, .inr (9, [k0, k1, k2, k3, .int 0, k5, k6, k7, k8, k9]))] s.heap := hP
  have hl := lv_entry [.ref a0] (n := 5) (Nat.le_of_ble_eq_true rfl)
  rw [lg_entry_eq]
  generalize (lg_sl [.ref a0] ++ List.replicate (5 - (lg_sl [.ref a0]).length) Slot.unset).toArray = ls at hl ⊢
  have hl : lv_has ls 5 [(0, .ref a0)] := hl
  have hw9 : ∀ w ∈ wsX90, w ∈ wsX9_thirdsNow := fun w h => (List.mem_cons_of_mem _ (List.mem_append_right _ h))
  refine lv_aload_n hx hb dX9_thirdsNow_0 rfl (lv_at hl 0 rfl) ?_
  refine pci (va_runV (As := []) (rest := []) ⟨hx, hb, hml, hown, hts⟩ (c_notesNow l D K a0 k0 k1 k2 k3 k5 k6 k7 k8 k9 s.heap.size) (cwV 0 hts gX9_thirdsNow_X9_notesNow rfl rfl rfl (by decide +kernel) ⟨Nat.le_of_ble_eq_true rfl, Nat.le_of_ble_eq_true rfl⟩) (mkV hK hN (hP.sub [0] rfl) (hD.sub [0] (by decide) rfl) (ci := 9) (q0 := 0) rfl rfl) rfl rfl hl.1 rfl (lv_room (Nat.le_of_ble_eq_true rfl)) dX9_thirdsNow_1 ⟨Nat.le_of_ble_eq_true rfl, Nat.le_of_ble_eq_true rfl⟩) (fun r_1 hw => ?_)
  obtain rfl : r_1 = 0 := hw
  refine lv_istore_n (lv' := [(1, .int 0), (0, .ref a0)]) hx hb dX9_thirdsNow_4 rfl hl (by decide) rfl (fun ls hl => ?_)
  refine lv_iconst (v := 0) hx hb dX9_thirdsNow_5 (by decide) ?_
  refine lv_istore_n (lv' := [(2, .int 0), (1, .int 0), (0, .ref a0)]) hx hb dX9_thirdsNow_6 rfl hl (by decide) rfl (fun ls hl => ?_)
  refine lv_iconst (v := 0) hx hb dX9_thirdsNow_7 (by decide) ?_
  refine lv_istore_n (lv' := [(3, .int 0), (2, .int 0), (1, .int 0), (0, .ref a0)]) hx hb dX9_thirdsNow_8 rfl hl (by decide) rfl (fun ls hl => ?_)
  refine lv_iload_n hx hb dX9_thirdsNow_9 rfl (lv_at hl 0 rfl) ?_
  refine lv_bipush (v := 7) hx hb dX9_thirdsNow_10 (by decide) ?_
  refine lv_icmp_ge (tgt := 61) hx hb dX9_thirdsNow_12 (by decide) (fun c_2 => absurd c_2 (by decide)) (fun c_2 => ?_)
  refine lv_iconst (v := 1) hx hb dX9_thirdsNow_15 (by decide) ?_
  refine lv_iload_n hx hb dX9_thirdsNow_16 rfl (lv_at hl 0 rfl) ?_
  refine lv_ishl hx hb dX9_thirdsNow_17 ?_
  refine lv_topi (fun x_3 ex_3 => ?_)
  obtain rfl : x_3 = 1 := ex_3.trans (by first | rfl | decide)
  refine lv_iconst (v := 1) hx hb dX9_thirdsNow_18 (by decide) ?_
  refine lv_iload_n hx hb dX9_thirdsNow_19 rfl (lv_at hl 0 rfl) ?_
  refine lv_iconst (v := 2) hx hb dX9_thirdsNow_20 (by decide) ?_
  refine lv_iadd hx hb dX9_thirdsNow_21 ?_
  refine lv_topi (fun x_4 ex_4 => ?_)
  obtain rfl : x_4 = 2 := ex_4.trans (by first | rfl | decide)
  refine lv_bipush (v := 7) hx hb dX9_thirdsNow_22 (by decide) ?_
  refine lv_irem hx hb dX9_thirdsNow_24 (by decide) ?_
  refine lv_topi (fun x_5 ex_5 => ?_)
  obtain rfl : x_5 = 2 := ex_5.trans (by first | rfl | decide)
  refine lv_ishl hx hb dX9_thirdsNow_25 ?_
  refine lv_topi (fun x_6 ex_6 => ?_)
  obtain rfl : x_6 = 4 := ex_6.trans (by first | rfl | decide)
  refine lv_ior hx hb dX9_thirdsNow_26 ?_
  refine lv_topi (fun x_7 ex_7 => ?_)
  obtain rfl : x_7 = 5 := ex_7.trans (by first | rfl | decide)
  refine lv_iconst (v := 1) hx hb dX9_thirdsNow_27 (by decide) ?_
  refine lv_iload_n hx hb dX9_thirdsNow_28 rfl (lv_at hl 0 rfl) ?_
  refine lv_iconst (v := 4) hx hb dX9_thirdsNow_29 (by decide) ?_
  refine lv_iadd hx hb dX9_thirdsNow_30 ?_
  refine lv_topi (fun x_8 ex_8 => ?_)
  obtain rfl : x_8 = 4 := ex_8.trans (by first | rfl | decide)
  refine lv_bipush (v := 7) hx hb dX9_thirdsNow_31 (by decide) ?_
  refine lv_irem hx hb dX9_thirdsNow_33 (by decide) ?_
  refine lv_topi (fun x_9 ex_9 => ?_)
  obtain rfl : x_9 = 4 := ex_9.trans (by first | rfl | decide)
  refine lv_ishl hx hb dX9_thirdsNow_34 ?_
  refine lv_topi (fun x_10 ex_10 => ?_)
  obtain rfl : x_10 = 16 := ex_10.trans (by first | rfl | decide)
  refine lv_ior hx hb dX9_thirdsNow_35 ?_
  refine lv_topi (fun x_11 ex_11 => ?_)
  obtain rfl : x_11 = 21 := ex_11.trans (by first | rfl | decide)
  refine lv_istore (lv' := [(4, .int 21), (3, .int 0), (2, .int 0), (1, .int 0), (0, .ref a0)]) hx hb dX9_thirdsNow_36 hl (by decide) rfl (fun ls hl => ?_)
  refine lv_iload_n hx hb dX9_thirdsNow_38 rfl (lv_at hl 2 rfl) ?_
  refine lv_iload_n hx hb dX9_thirdsNow_39 rfl (lv_at hl 3 rfl) ?_
  refine lv_iload hx hb dX9_thirdsNow_40 (lv_at hl 0 rfl) ?_
  refine lv_iand hx hb dX9_thirdsNow_42 ?_
  refine lv_topi (fun x_12 ex_12 => ?_)
  obtain rfl : x_12 = 0 := ex_12.trans (by first | rfl | decide)
  refine lv_iload hx hb dX9_thirdsNow_43 (lv_at hl 0 rfl) ?_
  refine lv_icmp_ne (tgt := 52) hx hb dX9_thirdsNow_45 (by decide) (fun c_13 => ?_) (fun c_13 => absurd (by decide) c_13)
  refine lv_iconst (v := 0) hx hb dX9_thirdsNow_52 (by decide) ?_
  refine lv_iadd hx hb dX9_thirdsNow_53 ?_
  refine lv_topi (fun x_14 ex_14 => ?_)
  obtain rfl : x_14 = 0 := ex_14.trans (by first | rfl | decide)
  refine lv_istore_n (lv' := [(2, .int 0), (4, .int 21), (3, .int 0), (1, .int 0), (0, .ref a0)]) hx hb dX9_thirdsNow_54 rfl hl (by decide) rfl (fun ls hl => ?_)
  refine lv_iinc (v := 1) (lv' := [(3, .int 1), (2, .int 0), (4, .int 21), (1, .int 0), (0, .ref a0)]) hx hb dX9_thirdsNow_55 hl (k := 2) rfl (by decide) (by decide) rfl (fun ls hl => ?_)
  refine lv_goto (tgt := 9) hx hb dX9_thirdsNow_58 (by decide) ?_
  refine lv_iload_n hx hb dX9_thirdsNow_9 rfl (lv_at hl 0 rfl) ?_
  refine lv_bipush (v := 7) hx hb dX9_thirdsNow_10 (by decide) ?_
  refine lv_icmp_ge (tgt := 61) hx hb dX9_thirdsNow_12 (by decide) (fun c_15 => absurd c_15 (by decide)) (fun c_15 => ?_)
  refine lv_iconst (v := 1) hx hb dX9_thirdsNow_15 (by decide) ?_
  refine lv_iload_n hx hb dX9_thirdsNow_16 rfl (lv_at hl 0 rfl) ?_
  refine lv_ishl hx hb dX9_thirdsNow_17 ?_
  refine lv_topi (fun x_16 ex_16 => ?_)
  obtain rfl : x_16 = 2 := ex_16.trans (by first | rfl | decide)
  refine lv_iconst (v := 1) hx hb dX9_thirdsNow_18 (by decide) ?_
  refine lv_iload_n hx hb dX9_thirdsNow_19 rfl (lv_at hl 0 rfl) ?_
  refine lv_iconst (v := 2) hx hb dX9_thirdsNow_20 (by decide) ?_
  refine lv_iadd hx hb dX9_thirdsNow_21 ?_
  refine lv_topi (fun x_17 ex_17 => ?_)
  obtain rfl : x_17 = 3 := ex_17.trans (by first | rfl | decide)
  refine lv_bipush (v := 7) hx hb dX9_thirdsNow_22 (by decide) ?_
  refine lv_irem hx hb dX9_thirdsNow_24 (by decide) ?_
  refine lv_topi (fun x_18 ex_18 => ?_)
  obtain rfl : x_18 = 3 := ex_18.trans (by first | rfl | decide)
  refine lv_ishl hx hb dX9_thirdsNow_25 ?_
  refine lv_topi (fun x_19 ex_19 => ?_)
  obtain rfl : x_19 = 8 := ex_19.trans (by first | rfl | decide)
  refine lv_ior hx hb dX9_thirdsNow_26 ?_
  refine lv_topi (fun x_20 ex_20 => ?_)
  obtain rfl : x_20 = 10 := ex_20.trans (by first | rfl | decide)
  refine lv_iconst (v := 1) hx hb dX9_thirdsNow_27 (by decide) ?_
  refine lv_iload_n hx hb dX9_thirdsNow_28 rfl (lv_at hl 0 rfl) ?_
  refine lv_iconst (v := 4) hx hb dX9_thirdsNow_29 (by decide) ?_
  refine lv_iadd hx hb dX9_thirdsNow_30 ?_
  refine lv_topi (fun x_21 ex_21 => ?_)
  obtain rfl : x_21 = 5 := ex_21.trans (by first | rfl | decide)
  refine lv_bipush (v := 7) hx hb dX9_thirdsNow_31 (by decide) ?_
  refine lv_irem hx hb dX9_thirdsNow_33 (by decide) ?_
  refine lv_topi (fun x_22 ex_22 => ?_)
  obtain rfl : x_22 = 5 := ex_22.trans (by first | rfl | decide)
  refine lv_ishl hx hb dX9_thirdsNow_34 ?_
  refine lv_topi (fun x_23 ex_23 => ?_)
  obtain rfl : x_23 = 32 := ex_23.trans (by first | rfl | decide)
  refine lv_ior hx hb dX9_thirdsNow_35 ?_
  refine lv_topi (fun x_24 ex_24 => ?_)
  obtain rfl : x_24 = 42 := ex_24.trans (by first | rfl | decide)
  refine lv_istore (lv' := [(4, .int 42), (3, .int 1), (2, .int 0), (1, .int 0), (0, .ref a0)]) hx hb dX9_thirdsNow_36 hl (by decide) rfl (fun ls hl => ?_)
  refine lv_iload_n hx hb dX9_thirdsNow_38 rfl (lv_at hl 2 rfl) ?_
  refine lv_iload_n hx hb dX9_thirdsNow_39 rfl (lv_at hl 3 rfl) ?_
  refine lv_iload hx hb dX9_thirdsNow_40 (lv_at hl 0 rfl) ?_
  refine lv_iand hx hb dX9_thirdsNow_42 ?_
  refine lv_topi (fun x_25 ex_25 => ?_)
  obtain rfl : x_25 = 0 := ex_25.trans (by first | rfl | decide)
  refine lv_iload hx hb dX9_thirdsNow_43 (lv_at hl 0 rfl) ?_
  refine lv_icmp_ne (tgt := 52) hx hb dX9_thirdsNow_45 (by decide) (fun c_26 => ?_) (fun c_26 => absurd (by decide) c_26)
  refine lv_iconst (v := 0) hx hb dX9_thirdsNow_52 (by decide) ?_
  refine lv_iadd hx hb dX9_thirdsNow_53 ?_
  refine lv_topi (fun x_27 ex_27 => ?_)
  obtain rfl : x_27 = 0 := ex_27.trans (by first | rfl | decide)
  refine lv_istore_n (lv' := [(2, .int 0), (4, .int 42), (3, .int 1), (1, .int 0), (0, .ref a0)]) hx hb dX9_thirdsNow_54 rfl hl (by decide) rfl (fun ls hl => ?_)
  refine lv_iinc (v := 2) (lv' := [(3, .int 2), (2, .int 0), (4, .int 42), (1, .int 0), (0, .ref a0)]) hx hb dX9_thirdsNow_55 hl (k := 2) rfl (by decide) (by decide) rfl (fun ls hl => ?_)
  refine lv_goto (tgt := 9) hx hb dX9_thirdsNow_58 (by decide) ?_
  refine lv_iload_n hx hb dX9_thirdsNow_9 rfl (lv_at hl 0 rfl) ?_
  refine lv_bipush (v := 7) hx hb dX9_thirdsNow_10 (by decide) ?_
  refine lv_icmp_ge (tgt := 61) hx hb dX9_thirdsNow_12 (by decide) (fun c_28 => absurd c_28 (by decide)) (fun c_28 => ?_)
  refine lv_iconst (v := 1) hx hb dX9_thirdsNow_15 (by decide) ?_
  refine lv_iload_n hx hb dX9_thirdsNow_16 rfl (lv_at hl 0 rfl) ?_
  refine lv_ishl hx hb dX9_thirdsNow_17 ?_
  refine lv_topi (fun x_29 ex_29 => ?_)
  obtain rfl : x_29 = 4 := ex_29.trans (by first | rfl | decide)
  refine lv_iconst (v := 1) hx hb dX9_thirdsNow_18 (by decide) ?_
  refine lv_iload_n hx hb dX9_thirdsNow_19 rfl (lv_at hl 0 rfl) ?_
  refine lv_iconst (v := 2) hx hb dX9_thirdsNow_20 (by decide) ?_
  refine lv_iadd hx hb dX9_thirdsNow_21 ?_
  refine lv_topi (fun x_30 ex_30 => ?_)
  obtain rfl : x_30 = 4 := ex_30.trans (by first | rfl | decide)
  refine lv_bipush (v := 7) hx hb dX9_thirdsNow_22 (by decide) ?_
  refine lv_irem hx hb dX9_thirdsNow_24 (by decide) ?_
  refine lv_topi (fun x_31 ex_31 => ?_)
  obtain rfl : x_31 = 4 := ex_31.trans (by first | rfl | decide)
  refine lv_ishl hx hb dX9_thirdsNow_25 ?_
  refine lv_topi (fun x_32 ex_32 => ?_)
  obtain rfl : x_32 = 16 := ex_32.trans (by first | rfl | decide)
  refine lv_ior hx hb dX9_thirdsNow_26 ?_
  refine lv_topi (fun x_33 ex_33 => ?_)
  obtain rfl : x_33 = 20 := ex_33.trans (by first | rfl | decide)
  refine lv_iconst (v := 1) hx hb dX9_thirdsNow_27 (by decide) ?_
  refine lv_iload_n hx hb dX9_thirdsNow_28 rfl (lv_at hl 0 rfl) ?_
  refine lv_iconst (v := 4) hx hb dX9_thirdsNow_29 (by decide) ?_
  refine lv_iadd hx hb dX9_thirdsNow_30 ?_
  refine lv_topi (fun x_34 ex_34 => ?_)
  obtain rfl : x_34 = 6 := ex_34.trans (by first | rfl | decide)
  refine lv_bipush (v := 7) hx hb dX9_thirdsNow_31 (by decide) ?_
  refine lv_irem hx hb dX9_thirdsNow_33 (by decide) ?_
  refine lv_topi (fun x_35 ex_35 => ?_)
  obtain rfl : x_35 = 6 := ex_35.trans (by first | rfl | decide)
  refine lv_ishl hx hb dX9_thirdsNow_34 ?_
  refine lv_topi (fun x_36 ex_36 => ?_)
  obtain rfl : x_36 = 64 := ex_36.trans (by first | rfl | decide)
  refine lv_ior hx hb dX9_thirdsNow_35 ?_
  refine lv_topi (fun x_37 ex_37 => ?_)
  obtain rfl : x_37 = 84 := ex_37.trans (by first | rfl | decide)
  refine lv_istore (lv' := [(4, .int 84), (3, .int 2), (2, .int 0), (1, .int 0), (0, .ref a0)]) hx hb dX9_thirdsNow_36 hl (by decide) rfl (fun ls hl => ?_)
  refine lv_iload_n hx hb dX9_thirdsNow_38 rfl (lv_at hl 2 rfl) ?_
  refine lv_iload_n hx hb dX9_thirdsNow_39 rfl (lv_at hl 3 rfl) ?_
  refine lv_iload hx hb dX9_thirdsNow_40 (lv_at hl 0 rfl) ?_
  refine lv_iand hx hb dX9_thirdsNow_42 ?_
  refine lv_topi (fun x_38 ex_38 => ?_)
  obtain rfl : x_38 = 0 := ex_38.trans (by first | rfl | decide)
  refine lv_iload hx hb dX9_thirdsNow_43 (lv_at hl 0 rfl) ?_
  refine lv_icmp_ne (tgt := 52) hx hb dX9_thirdsNow_45 (by decide) (fun c_39 => ?_) (fun c_39 => absurd (by decide) c_39)
  refine lv_iconst (v := 0) hx hb dX9_thirdsNow_52 (by decide) ?_
  refine lv_iadd hx hb dX9_thirdsNow_53 ?_
  refine lv_topi (fun x_40 ex_40 => ?_)
  obtain rfl : x_40 = 0 := ex_40.trans (by first | rfl | decide)
  refine lv_istore_n (lv' := [(2, .int 0), (4, .int 84), (3, .int 2), (1, .int 0), (0, .ref a0)]) hx hb dX9_thirdsNow_54 rfl hl (by decide) rfl (fun ls hl => ?_)
  refine lv_iinc (v := 3) (lv' := [(3, .int 3), (2, .int 0), (4, .int 84), (1, .int 0), (0, .ref a0)]) hx hb dX9_thirdsNow_55 hl (k := 2) rfl (by decide) (by decide) rfl (fun ls hl => ?_)
  refine lv_goto (tgt := 9) hx hb dX9_thirdsNow_58 (by decide) ?_
  refine lv_iload_n hx hb dX9_thirdsNow_9 rfl (lv_at hl 0 rfl) ?_
  refine lv_bipush (v := 7) hx hb dX9_thirdsNow_10 (by decide) ?_
  refine lv_icmp_ge (tgt := 61) hx hb dX9_thirdsNow_12 (by decide) (fun c_41 => absurd c_41 (by decide)) (fun c_41 => ?_)
  refine lv_iconst (v := 1) hx hb dX9_thirdsNow_15 (by decide) ?_
  refine lv_iload_n hx hb dX9_thirdsNow_16 rfl (lv_at hl 0 rfl) ?_
  refine lv_ishl hx hb dX9_thirdsNow_17 ?_
  refine lv_topi (fun x_42 ex_42 => ?_)
  obtain rfl : x_42 = 8 := ex_42.trans (by first | rfl | decide)
  refine lv_iconst (v := 1) hx hb dX9_thirdsNow_18 (by decide) ?_
  refine lv_iload_n hx hb dX9_thirdsNow_19 rfl (lv_at hl 0 rfl) ?_
  refine lv_iconst (v := 2) hx hb dX9_thirdsNow_20 (by decide) ?_
  refine lv_iadd hx hb dX9_thirdsNow_21 ?_
  refine lv_topi (fun x_43 ex_43 => ?_)
  obtain rfl : x_43 = 5 := ex_43.trans (by first | rfl | decide)
  refine lv_bipush (v := 7) hx hb dX9_thirdsNow_22 (by decide) ?_
  refine lv_irem hx hb dX9_thirdsNow_24 (by decide) ?_
  refine lv_topi (fun x_44 ex_44 => ?_)
  obtain rfl : x_44 = 5 := ex_44.trans (by first | rfl | decide)
  refine lv_ishl hx hb dX9_thirdsNow_25 ?_
  refine lv_topi (fun x_45 ex_45 => ?_)
  obtain rfl : x_45 = 32 := ex_45.trans (by first | rfl | decide)
  refine lv_ior hx hb dX9_thirdsNow_26 ?_
  refine lv_topi (fun x_46 ex_46 => ?_)
  obtain rfl : x_46 = 40 := ex_46.trans (by first | rfl | decide)
  refine lv_iconst (v := 1) hx hb dX9_thirdsNow_27 (by decide) ?_
  refine lv_iload_n hx hb dX9_thirdsNow_28 rfl (lv_at hl 0 rfl) ?_
  refine lv_iconst (v := 4) hx hb dX9_thirdsNow_29 (by decide) ?_
  refine lv_iadd hx hb dX9_thirdsNow_30 ?_
  refine lv_topi (fun x_47 ex_47 => ?_)
  obtain rfl : x_47 = 7 := ex_47.trans (by first | rfl | decide)
  refine lv_bipush (v := 7) hx hb dX9_thirdsNow_31 (by decide) ?_
  refine lv_irem hx hb dX9_thirdsNow_33 (by decide) ?_
  refine lv_topi (fun x_48 ex_48 => ?_)
  obtain rfl : x_48 = 0 := ex_48.trans (by first | rfl | decide)
  refine lv_ishl hx hb dX9_thirdsNow_34 ?_
  refine lv_topi (fun x_49 ex_49 => ?_)
  obtain rfl : x_49 = 1 := ex_49.trans (by first | rfl | decide)
  refine lv_ior hx hb dX9_thirdsNow_35 ?_
  refine lv_topi (fun x_50 ex_50 => ?_)
  obtain rfl : x_50 = 41 := ex_50.trans (by first | rfl | decide)
  refine lv_istore (lv' := [(4, .int 41), (3, .int 3), (2, .int 0), (1, .int 0), (0, .ref a0)]) hx hb dX9_thirdsNow_36 hl (by decide) rfl (fun ls hl => ?_)
  refine lv_iload_n hx hb dX9_thirdsNow_38 rfl (lv_at hl 2 rfl) ?_
  refine lv_iload_n hx hb dX9_thirdsNow_39 rfl (lv_at hl 3 rfl) ?_
  refine lv_iload hx hb dX9_thirdsNow_40 (lv_at hl 0 rfl) ?_
  refine lv_iand hx hb dX9_thirdsNow_42 ?_
  refine lv_topi (fun x_51 ex_51 => ?_)
  obtain rfl : x_51 = 0 := ex_51.trans (by first | rfl | decide)
  refine lv_iload hx hb dX9_thirdsNow_43 (lv_at hl 0 rfl) ?_
  refine lv_icmp_ne (tgt := 52) hx hb dX9_thirdsNow_45 (by decide) (fun c_52 => ?_) (fun c_52 => absurd (by decide) c_52)
  refine lv_iconst (v := 0) hx hb dX9_thirdsNow_52 (by decide) ?_
  refine lv_iadd hx hb dX9_thirdsNow_53 ?_
  refine lv_topi (fun x_53 ex_53 => ?_)
  obtain rfl : x_53 = 0 := ex_53.trans (by first | rfl | decide)
  refine lv_istore_n (lv' := [(2, .int 0), (4, .int 41), (3, .int 3), (1, .int 0), (0, .ref a0)]) hx hb dX9_thirdsNow_54 rfl hl (by decide) rfl (fun ls hl => ?_)
  refine lv_iinc (v := 4) (lv' := [(3, .int 4), (2, .int 0), (4, .int 41), (1, .int 0), (0, .ref a0)]) hx hb dX9_thirdsNow_55 hl (k := 2) rfl (by decide) (by decide) rfl (fun ls hl => ?_)
  refine lv_goto (tgt := 9) hx hb dX9_thirdsNow_58 (by decide) ?_
  refine lv_iload_n hx hb dX9_thirdsNow_9 rfl (lv_at hl 0 rfl) ?_
  refine lv_bipush (v := 7) hx hb dX9_thirdsNow_10 (by decide) ?_
  refine lv_icmp_ge (tgt := 61) hx hb dX9_thirdsNow_12 (by decide) (fun c_54 => absurd c_54 (by decide)) (fun c_54 => ?_)
  refine lv_iconst (v := 1) hx hb dX9_thirdsNow_15 (by decide) ?_
  refine lv_iload_n hx hb dX9_thirdsNow_16 rfl (lv_at hl 0 rfl) ?_
  refine lv_ishl hx hb dX9_thirdsNow_17 ?_
  refine lv_topi (fun x_55 ex_55 => ?_)
  obtain rfl : x_55 = 16 := ex_55.trans (by first | rfl | decide)
  refine lv_iconst (v := 1) hx hb dX9_thirdsNow_18 (by decide) ?_
  refine lv_iload_n hx hb dX9_thirdsNow_19 rfl (lv_at hl 0 rfl) ?_
  refine lv_iconst (v := 2) hx hb dX9_thirdsNow_20 (by decide) ?_
  refine lv_iadd hx hb dX9_thirdsNow_21 ?_
  refine lv_topi (fun x_56 ex_56 => ?_)
  obtain rfl : x_56 = 6 := ex_56.trans (by first | rfl | decide)
  refine lv_bipush (v := 7) hx hb dX9_thirdsNow_22 (by decide) ?_
  refine lv_irem hx hb dX9_thirdsNow_24 (by decide) ?_
  refine lv_topi (fun x_57 ex_57 => ?_)
  obtain rfl : x_57 = 6 := ex_57.trans (by first | rfl | decide)
  refine lv_ishl hx hb dX9_thirdsNow_25 ?_
  refine lv_topi (fun x_58 ex_58 => ?_)
  obtain rfl : x_58 = 64 := ex_58.trans (by first | rfl | decide)
  refine lv_ior hx hb dX9_thirdsNow_26 ?_
  refine lv_topi (fun x_59 ex_59 => ?_)
  obtain rfl : x_59 = 80 := ex_59.trans (by first | rfl | decide)
  refine lv_iconst (v := 1) hx hb dX9_thirdsNow_27 (by decide) ?_
  refine lv_iload_n hx hb dX9_thirdsNow_28 rfl (lv_at hl 0 rfl) ?_
  refine lv_iconst (v := 4) hx hb dX9_thirdsNow_29 (by decide) ?_
  refine lv_iadd hx hb dX9_thirdsNow_30 ?_
  refine lv_topi (fun x_60 ex_60 => ?_)
  obtain rfl : x_60 = 8 := ex_60.trans (by first | rfl | decide)
  refine lv_bipush (v := 7) hx hb dX9_thirdsNow_31 (by decide) ?_
  refine lv_irem hx hb dX9_thirdsNow_33 (by decide) ?_
  refine lv_topi (fun x_61 ex_61 => ?_)
  obtain rfl : x_61 = 1 := ex_61.trans (by first | rfl | decide)
  refine lv_ishl hx hb dX9_thirdsNow_34 ?_
  refine lv_topi (fun x_62 ex_62 => ?_)
  obtain rfl : x_62 = 2 := ex_62.trans (by first | rfl | decide)
  refine lv_ior hx hb dX9_thirdsNow_35 ?_
  refine lv_topi (fun x_63 ex_63 => ?_)
  obtain rfl : x_63 = 82 := ex_63.trans (by first | rfl | decide)
  refine lv_istore (lv' := [(4, .int 82), (3, .int 4), (2, .int 0), (1, .int 0), (0, .ref a0)]) hx hb dX9_thirdsNow_36 hl (by decide) rfl (fun ls hl => ?_)
  refine lv_iload_n hx hb dX9_thirdsNow_38 rfl (lv_at hl 2 rfl) ?_
  refine lv_iload_n hx hb dX9_thirdsNow_39 rfl (lv_at hl 3 rfl) ?_
  refine lv_iload hx hb dX9_thirdsNow_40 (lv_at hl 0 rfl) ?_
  refine lv_iand hx hb dX9_thirdsNow_42 ?_
  refine lv_topi (fun x_64 ex_64 => ?_)
  obtain rfl : x_64 = 0 := ex_64.trans (by first | rfl | decide)
  refine lv_iload hx hb dX9_thirdsNow_43 (lv_at hl 0 rfl) ?_
  refine lv_icmp_ne (tgt := 52) hx hb dX9_thirdsNow_45 (by decide) (fun c_65 => ?_) (fun c_65 => absurd (by decide) c_65)
  refine lv_iconst (v := 0) hx hb dX9_thirdsNow_52 (by decide) ?_
  refine lv_iadd hx hb dX9_thirdsNow_53 ?_
  refine lv_topi (fun x_66 ex_66 => ?_)
  obtain rfl : x_66 = 0 := ex_66.trans (by first | rfl | decide)
  refine lv_istore_n (lv' := [(2, .int 0), (4, .int 82), (3, .int 4), (1, .int 0), (0, .ref a0)]) hx hb dX9_thirdsNow_54 rfl hl (by decide) rfl (fun ls hl => ?_)
  refine lv_iinc (v := 5) (lv' := [(3, .int 5), (2, .int 0), (4, .int 82), (1, .int 0), (0, .ref a0)]) hx hb dX9_thirdsNow_55 hl (k := 2) rfl (by decide) (by decide) rfl (fun ls hl => ?_)
  refine lv_goto (tgt := 9) hx hb dX9_thirdsNow_58 (by decide) ?_
  refine lv_iload_n hx hb dX9_thirdsNow_9 rfl (lv_at hl 0 rfl) ?_
  refine lv_bipush (v := 7) hx hb dX9_thirdsNow_10 (by decide) ?_
  refine lv_icmp_ge (tgt := 61) hx hb dX9_thirdsNow_12 (by decide) (fun c_67 => absurd c_67 (by decide)) (fun c_67 => ?_)
  refine lv_iconst (v := 1) hx hb dX9_thirdsNow_15 (by decide) ?_
  refine lv_iload_n hx hb dX9_thirdsNow_16 rfl (lv_at hl 0 rfl) ?_
  refine lv_ishl hx hb dX9_thirdsNow_17 ?_
  refine lv_topi (fun x_68 ex_68 => ?_)
  obtain rfl : x_68 = 32 := ex_68.trans (by first | rfl | decide)
  refine lv_iconst (v := 1) hx hb dX9_thirdsNow_18 (by decide) ?_
  refine lv_iload_n hx hb dX9_thirdsNow_19 rfl (lv_at hl 0 rfl) ?_
  refine lv_iconst (v := 2) hx hb dX9_thirdsNow_20 (by decide) ?_
  refine lv_iadd hx hb dX9_thirdsNow_21 ?_
  refine lv_topi (fun x_69 ex_69 => ?_)
  obtain rfl : x_69 = 7 := ex_69.trans (by first | rfl | decide)
  refine lv_bipush (v := 7) hx hb dX9_thirdsNow_22 (by decide) ?_
  refine lv_irem hx hb dX9_thirdsNow_24 (by decide) ?_
  refine lv_topi (fun x_70 ex_70 => ?_)
  obtain rfl : x_70 = 0 := ex_70.trans (by first | rfl | decide)
  refine lv_ishl hx hb dX9_thirdsNow_25 ?_
  refine lv_topi (fun x_71 ex_71 => ?_)
  obtain rfl : x_71 = 1 := ex_71.trans (by first | rfl | decide)
  refine lv_ior hx hb dX9_thirdsNow_26 ?_
  refine lv_topi (fun x_72 ex_72 => ?_)
  obtain rfl : x_72 = 33 := ex_72.trans (by first | rfl | decide)
  refine lv_iconst (v := 1) hx hb dX9_thirdsNow_27 (by decide) ?_
  refine lv_iload_n hx hb dX9_thirdsNow_28 rfl (lv_at hl 0 rfl) ?_
  refine lv_iconst (v := 4) hx hb dX9_thirdsNow_29 (by decide) ?_
  refine lv_iadd hx hb dX9_thirdsNow_30 ?_
  refine lv_topi (fun x_73 ex_73 => ?_)
  obtain rfl : x_73 = 9 := ex_73.trans (by first | rfl | decide)
  refine lv_bipush (v := 7) hx hb dX9_thirdsNow_31 (by decide) ?_
  refine lv_irem hx hb dX9_thirdsNow_33 (by decide) ?_
  refine lv_topi (fun x_74 ex_74 => ?_)
  obtain rfl : x_74 = 2 := ex_74.trans (by first | rfl | decide)
  refine lv_ishl hx hb dX9_thirdsNow_34 ?_
  refine lv_topi (fun x_75 ex_75 => ?_)
  obtain rfl : x_75 = 4 := ex_75.trans (by first | rfl | decide)
  refine lv_ior hx hb dX9_thirdsNow_35 ?_
  refine lv_topi (fun x_76 ex_76 => ?_)
  obtain rfl : x_76 = 37 := ex_76.trans (by first | rfl | decide)
  refine lv_istore (lv' := [(4, .int 37), (3, .int 5), (2, .int 0), (1, .int 0), (0, .ref a0)]) hx hb dX9_thirdsNow_36 hl (by decide) rfl (fun ls hl => ?_)
  refine lv_iload_n hx hb dX9_thirdsNow_38 rfl (lv_at hl 2 rfl) ?_
  refine lv_iload_n hx hb dX9_thirdsNow_39 rfl (lv_at hl 3 rfl) ?_
  refine lv_iload hx hb dX9_thirdsNow_40 (lv_at hl 0 rfl) ?_
  refine lv_iand hx hb dX9_thirdsNow_42 ?_
  refine lv_topi (fun x_77 ex_77 => ?_)
  obtain rfl : x_77 = 0 := ex_77.trans (by first | rfl | decide)
  refine lv_iload hx hb dX9_thirdsNow_43 (lv_at hl 0 rfl) ?_
  refine lv_icmp_ne (tgt := 52) hx hb dX9_thirdsNow_45 (by decide) (fun c_78 => ?_) (fun c_78 => absurd (by decide) c_78)
  refine lv_iconst (v := 0) hx hb dX9_thirdsNow_52 (by decide) ?_
  refine lv_iadd hx hb dX9_thirdsNow_53 ?_
  refine lv_topi (fun x_79 ex_79 => ?_)
  obtain rfl : x_79 = 0 := ex_79.trans (by first | rfl | decide)
  refine lv_istore_n (lv' := [(2, .int 0), (4, .int 37), (3, .int 5), (1, .int 0), (0, .ref a0)]) hx hb dX9_thirdsNow_54 rfl hl (by decide) rfl (fun ls hl => ?_)
  refine lv_iinc (v := 6) (lv' := [(3, .int 6), (2, .int 0), (4, .int 37), (1, .int 0), (0, .ref a0)]) hx hb dX9_thirdsNow_55 hl (k := 2) rfl (by decide) (by decide) rfl (fun ls hl => ?_)
  refine lv_goto (tgt := 9) hx hb dX9_thirdsNow_58 (by decide) ?_
  refine lv_iload_n hx hb dX9_thirdsNow_9 rfl (lv_at hl 0 rfl) ?_
  refine lv_bipush (v := 7) hx hb dX9_thirdsNow_10 (by decide) ?_
  refine lv_icmp_ge (tgt := 61) hx hb dX9_thirdsNow_12 (by decide) (fun c_80 => absurd c_80 (by decide)) (fun c_80 => ?_)
  refine lv_iconst (v := 1) hx hb dX9_thirdsNow_15 (by decide) ?_
  refine lv_iload_n hx hb dX9_thirdsNow_16 rfl (lv_at hl 0 rfl) ?_
  refine lv_ishl hx hb dX9_thirdsNow_17 ?_
  refine lv_topi (fun x_81 ex_81 => ?_)
  obtain rfl : x_81 = 64 := ex_81.trans (by first | rfl | decide)
  refine lv_iconst (v := 1) hx hb dX9_thirdsNow_18 (by decide) ?_
  refine lv_iload_n hx hb dX9_thirdsNow_19 rfl (lv_at hl 0 rfl) ?_
  refine lv_iconst (v := 2) hx hb dX9_thirdsNow_20 (by decide) ?_
  refine lv_iadd hx hb dX9_thirdsNow_21 ?_
  refine lv_topi (fun x_82 ex_82 => ?_)
  obtain rfl : x_82 = 8 := ex_82.trans (by first | rfl | decide)
  refine lv_bipush (v := 7) hx hb dX9_thirdsNow_22 (by decide) ?_
  refine lv_irem hx hb dX9_thirdsNow_24 (by decide) ?_
  refine lv_topi (fun x_83 ex_83 => ?_)
  obtain rfl : x_83 = 1 := ex_83.trans (by first | rfl | decide)
  refine lv_ishl hx hb dX9_thirdsNow_25 ?_
  refine lv_topi (fun x_84 ex_84 => ?_)
  obtain rfl : x_84 = 2 := ex_84.trans (by first | rfl | decide)
  refine lv_ior hx hb dX9_thirdsNow_26 ?_
  refine lv_topi (fun x_85 ex_85 => ?_)
  obtain rfl : x_85 = 66 := ex_85.trans (by first | rfl | decide)
  refine lv_iconst (v := 1) hx hb dX9_thirdsNow_27 (by decide) ?_
  refine lv_iload_n hx hb dX9_thirdsNow_28 rfl (lv_at hl 0 rfl) ?_
  refine lv_iconst (v := 4) hx hb dX9_thirdsNow_29 (by decide) ?_
  refine lv_iadd hx hb dX9_thirdsNow_30 ?_
  refine lv_topi (fun x_86 ex_86 => ?_)
  obtain rfl : x_86 = 10 := ex_86.trans (by first | rfl | decide)
  refine lv_bipush (v := 7) hx hb dX9_thirdsNow_31 (by decide) ?_
  refine lv_irem hx hb dX9_thirdsNow_33 (by decide) ?_
  refine lv_topi (fun x_87 ex_87 => ?_)
  obtain rfl : x_87 = 3 := ex_87.trans (by first | rfl | decide)
  refine lv_ishl hx hb dX9_thirdsNow_34 ?_
  refine lv_topi (fun x_88 ex_88 => ?_)
  obtain rfl : x_88 = 8 := ex_88.trans (by first | rfl | decide)
  refine lv_ior hx hb dX9_thirdsNow_35 ?_
  refine lv_topi (fun x_89 ex_89 => ?_)
  obtain rfl : x_89 = 74 := ex_89.trans (by first | rfl | decide)
  refine lv_istore (lv' := [(4, .int 74), (3, .int 6), (2, .int 0), (1, .int 0), (0, .ref a0)]) hx hb dX9_thirdsNow_36 hl (by decide) rfl (fun ls hl => ?_)
  refine lv_iload_n hx hb dX9_thirdsNow_38 rfl (lv_at hl 2 rfl) ?_
  refine lv_iload_n hx hb dX9_thirdsNow_39 rfl (lv_at hl 3 rfl) ?_
  refine lv_iload hx hb dX9_thirdsNow_40 (lv_at hl 0 rfl) ?_
  refine lv_iand hx hb dX9_thirdsNow_42 ?_
  refine lv_topi (fun x_90 ex_90 => ?_)
  obtain rfl : x_90 = 0 := ex_90.trans (by first | rfl | decide)
  refine lv_iload hx hb dX9_thirdsNow_43 (lv_at hl 0 rfl) ?_
  refine lv_icmp_ne (tgt := 52) hx hb dX9_thirdsNow_45 (by decide) (fun c_91 => ?_) (fun c_91 => absurd (by decide) c_91)
  refine lv_iconst (v := 0) hx hb dX9_thirdsNow_52 (by decide) ?_
  refine lv_iadd hx hb dX9_thirdsNow_53 ?_
  refine lv_topi (fun x_92 ex_92 => ?_)
  obtain rfl : x_92 = 0 := ex_92.trans (by first | rfl | decide)
  refine lv_istore_n (lv' := [(2, .int 0), (4, .int 74), (3, .int 6), (1, .int 0), (0, .ref a0)]) hx hb dX9_thirdsNow_54 rfl hl (by decide) rfl (fun ls hl => ?_)
  refine lv_iinc (v := 7) (lv' := [(3, .int 7), (2, .int 0), (4, .int 74), (1, .int 0), (0, .ref a0)]) hx hb dX9_thirdsNow_55 hl (k := 2) rfl (by decide) (by decide) rfl (fun ls hl => ?_)
  refine lv_goto (tgt := 9) hx hb dX9_thirdsNow_58 (by decide) ?_
  refine lv_iload_n hx hb dX9_thirdsNow_9 rfl (lv_at hl 0 rfl) ?_
  refine lv_bipush (v := 7) hx hb dX9_thirdsNow_10 (by decide) ?_
  refine lv_icmp_ge (tgt := 61) hx hb dX9_thirdsNow_12 (by decide) (fun c_93 => ?_) (fun c_93 => absurd (by decide) c_93)
  refine lv_iload_n hx hb dX9_thirdsNow_61 rfl (lv_at hl 1 rfl) ?_
  exact W.iret (v := 0) hx hb hr (fun t ht hW => ⟨_, rfl, (by first | exact rfl), ht⟩) (fun q hq => by cases hq) dX9_thirdsNow_62
set_option maxHeartbeats 4000000 in
set_option maxRecDepth 100000 in
theorem c_meetsChord (l : Launch) (D : va_G) (K : Nat → ClassId) (a0 : Nat) (k0 : Value) (a2 : Nat) (a3 : Nat) (k3 : Value) (k5 : Value) (k6 : Value) (k7 : Value) (k8 : Value) (k9 : Value) (fc : Nat → Int32) (ft : Nat → Int32) (hh : Nat) (dd : Nat) (sz : Nat) (h0 : ft 0 = nI hh) (h1 : ft 1 = nI dd) (hh24 : hh < 24) (hd99 : dd < 999) (hc : ∀ j, j < 24 → fc j = 0) : Met l yX9_meetsChord wsX9_meetsChord ({ frames := 1, cells := 0, slots := 0, locals := 22 }) (va_Pc [.ref a0] (Pre D K [(a0, .inr (9, [k0, .ref a2, .ref a3, k3, .int 0, k5, k6, k7, k8, k9])), (a2, .inl (K 0, 24, .inl fc)), (a3, .inl (K 0, 6, .inl ft))] sz)) (vp_Si (fun r : Int32 => (r = 1))) 0 0 (fun _ => False) := by
  refine Met.ofW (cc := cX9_meetsChord) (maxL := 2) (ret := (some .boolean)) (by decide) rfl ?_
  intro p e s m args below meth c s₁ B hml hv
  obtain ⟨rfl, hsz, hP, hK, hD0, hN⟩ := hv
  have hx := B.exec
  have hb := B.bytes
  have hr := B.returns
  have hts := atoms_spec (ws := wsX9_meetsChord) B.pre
  have hown : s.vm.findClass RX9 = some m.cls := findClass_of_methodNamed B.named
  have hlocks := B.notSynchronized
  subst hsz
  have hD := hD0
  have hP : va_P D vwCl [(a0, .inr (9, [k0, .ref a2, .ref a3, k3, .int 0, k5, k6, k7, k8, k9])), (a2, .inl (K 0, 24, .inl fc)), (a3, .inl (K 0, 6, .inl ft))] s.heap := hP
  have hl := lv_entry [.ref a0] (n := 2) (Nat.le_of_ble_eq_true rfl)
  rw [lg_entry_eq]
  generalize (lg_sl [.ref a0] ++ List.replicate (2 - (lg_sl [.ref a0]).length) Slot.unset).toArray = ls at hl ⊢
  have hl : lv_has ls 2 [(0, .ref a0)] := hl
  have hw9 : ∀ w ∈ wsX90, w ∈ wsX9_meetsChord := fun w h => (List.mem_cons_of_mem _ (List.mem_append_right _ h))
  refine lv_aload_n hx hb dX9_meetsChord_0 rfl (lv_at hl 0 rfl) ?_
  refine lv_aload_n hx hb dX9_meetsChord_1 rfl (lv_at hl 0 rfl) ?_
  refine va_get (ci := 9) (v := .ref a3) (C := RX9) (T := TX9) (N := 10) hx hb hts hw9 hown hK hP 0 rfl rfl 2 (by decide) (hts (.fieldLink RX9 18 "SmokeTune$Town" "terms" "[I") (List.mem_cons_of_mem _ (List.mem_append_left _ (List.mem_append_left _ (List.mem_of_getElem? (i := 0) rfl))))) (fun _ h9 => h9) rfl dX9_meetsChord_2 ?_
  refine lv_iconst (v := 0) hx hb dX9_meetsChord_5 (by decide) ?_
  refine va_iald hx hb hK hP 2 0 rfl rfl (i_in (x := 0) rfl (by omega)) dX9_meetsChord_6 ?_
  refine lv_topi (fun x_1 ex_1 => ?_)
  obtain rfl : x_1 = (nI hh) := ex_1.trans h0
  refine pci (va_runV (As := [.int (nI hh)]) (rest := []) ⟨hx, hb, hml, hown, hts⟩ (c_chordAt l D K a0 (nI hh) k0 a2 (.ref a3) k3 (.int 0) k5 k6 k7 k8 k9 fc ((hh : Nat) : Int) s.heap.size (nI_toInt (by omega)) hc) (cwV 1 hts gX9_meetsChord_X9_chordAt rfl rfl rfl (by decide +kernel) ⟨Nat.le_of_ble_eq_true rfl, Nat.le_of_ble_eq_true rfl⟩) (mkV hK hN (hP.sub [0, 1] rfl) (hD.sub [0, 1] (by decide) rfl) (ci := 9) (q0 := 0) rfl rfl) rfl rfl hl.1 rfl (lv_room (Nat.le_of_ble_eq_true rfl)) dX9_meetsChord_7 ⟨Nat.le_of_ble_eq_true rfl, Nat.le_of_ble_eq_true rfl⟩) (fun r_2 hw => ?_)
  rcases hw with ⟨rfl, h_3, h_4⟩ | ⟨rfl, h_5⟩
  · refine lv_istore_n (lv' := [(1, .int 0), (0, .ref a0)]) hx hb dX9_meetsChord_10 rfl hl (by decide) rfl (fun ls hl => ?_)
    refine lv_aload_n hx hb dX9_meetsChord_11 rfl (lv_at hl 1 rfl) ?_
    refine pci (va_runV (As := []) (rest := []) ⟨hx, hb, hml, hown, hts⟩ (c_notesNow l D K a0 k0 (.ref a2) (.ref a3) k3 k5 k6 k7 k8 k9 s.heap.size) (cwV 0 hts gX9_meetsChord_X9_notesNow rfl rfl rfl (by decide +kernel) ⟨Nat.le_of_ble_eq_true rfl, Nat.le_of_ble_eq_true rfl⟩) (mkV hK hN (hP.sub [0] rfl) (hD.sub [0] (by decide) rfl) (ci := 9) (q0 := 0) rfl rfl) rfl rfl hl.1 rfl (lv_room (Nat.le_of_ble_eq_true rfl)) dX9_meetsChord_12 ⟨Nat.le_of_ble_eq_true rfl, Nat.le_of_ble_eq_true rfl⟩) (fun r_6 hw => ?_)
    obtain rfl : r_6 = 0 := hw
    refine lv_iload_n hx hb dX9_meetsChord_15 rfl (lv_at hl 0 rfl) ?_
    refine lv_iand hx hb dX9_meetsChord_16 ?_
    refine lv_topi (fun x_7 ex_7 => ?_)
    obtain rfl : x_7 = 0 := ex_7.trans (by first | rfl | decide)
    refine lv_iload_n hx hb dX9_meetsChord_17 rfl (lv_at hl 0 rfl) ?_
    refine lv_icmp_ne (tgt := 25) hx hb dX9_meetsChord_18 (by decide) (fun c_8 => absurd c_8 (by decide)) (fun c_8 => ?_)
    refine lv_iconst (v := 1) hx hb dX9_meetsChord_21 (by decide) ?_
    refine lv_goto (tgt := 26) hx hb dX9_meetsChord_22 (by decide) ?_
    exact W.zret (v := 1) hx hb hr (by first | rfl | decide) (fun t ht hW => ⟨_, rfl, (by first | exact rfl), ht⟩) (fun q hq => by cases hq) dX9_meetsChord_26
  · exfalso; omega
set_option maxHeartbeats 4000000 in
set_option maxRecDepth 100000 in
theorem c_burnDown (l : Launch) (D : va_G) (K : Nat → ClassId) (a0 : Nat) (a1 : Nat) (g0 : Value) (k0 : Value) (k1 : Value) (k2 : Value) (k3 : Value) (k5 : Value) (k6 : Value) (k7 : Value) (k8 : Value) (k9 : Value) (sz : Nat) : Met l yX10_burnDown wsX10_burnDown ({ frames := 0, cells := 0, slots := 0, locals := 0 }) (va_Pc [.ref a0, .ref a1] (Pre D K [(a0, .inr (10, [g0])), (a1, .inr (9, [k0, k1, k2, k3, .int 0, k5, k6, k7, k8, k9]))] sz)) (va_Sv (fun _ => True)) 0 0 (fun _ => False) := by
  refine Met.ofW (cc := cX10_burnDown) (maxL := 4) (ret := none) (by decide) rfl ?_
  intro p e s m args below meth c s₁ B hml hv
  obtain ⟨rfl, hsz, hP, hK, hD0, hN⟩ := hv
  have hx := B.exec
  have hb := B.bytes
  have hr := B.returns
  have hts := atoms_spec (ws := wsX10_burnDown) B.pre
  have hown : s.vm.findClass RX10 = some m.cls := findClass_of_methodNamed B.named
  have hlocks := B.notSynchronized
  subst hsz
  have hD := hD0
  have hP : va_P D vwCl [(a0, .inr (10, [g0])), (a1, .inr (9, [k0, k1, k2, k3, .int 0, k5, k6, k7, k8, k9]))] s.heap := hP
  have hl := lv_entry [.ref a0, .ref a1] (n := 4) (Nat.le_of_ble_eq_true rfl)
  rw [lg_entry_eq]
  generalize (lg_sl [.ref a0, .ref a1] ++ List.replicate (4 - (lg_sl [.ref a0, .ref a1]).length) Slot.unset).toArray = ls at hl ⊢
  have hl : lv_has ls 4 [(0, .ref a0), (1, .ref a1)] := hl
  have hw0 : ∀ w ∈ wsX00, w ∈ wsX10_burnDown := fun w h => (List.mem_cons_of_mem _ (List.mem_append_left _ (List.mem_append_left _ (List.mem_append_right _ h))))
  have hw3 : ∀ w ∈ wsX30, w ∈ wsX10_burnDown := fun w h => (List.mem_cons_of_mem _ (List.mem_append_right _ h))
  have hw7 : ∀ w ∈ wsX70, w ∈ wsX10_burnDown := fun w h => (List.mem_cons_of_mem _ (List.mem_append_left _ (List.mem_append_right _ h)))
  have hw9 : ∀ w ∈ wsX90, w ∈ wsX10_burnDown := fun w h => (List.mem_cons_of_mem _ (List.mem_append_left _ (List.mem_append_left _ (List.mem_append_left _ (List.mem_append_left _ (List.mem_append_right _ h))))))
  have hw10 : ∀ w ∈ wsX100, w ∈ wsX10_burnDown := fun w h => (List.mem_cons_of_mem _ (List.mem_append_left _ (List.mem_append_left _ (List.mem_append_left _ (List.mem_append_right _ h)))))
  refine lv_iconst (v := 0) hx hb dX10_burnDown_0 (by decide) ?_
  refine lv_istore_n (lv' := [(2, .int 0), (0, .ref a0), (1, .ref a1)]) hx hb dX10_burnDown_1 rfl hl (by decide) rfl (fun ls hl => ?_)
  refine lv_iload_n hx hb dX10_burnDown_2 rfl (lv_at hl 0 rfl) ?_
  refine lv_aload_n hx hb dX10_burnDown_3 rfl (lv_at hl 2 rfl) ?_
  refine va_getN (ci := 9) (v := .int 0) (C := RX9) (T := TX9) (N := 10) hx hb hts hw9 hown hK hP 1 rfl rfl 4 (by decide) (nst_use hN 109 rfl) (fun _ h9 => h9) rfl dX10_burnDown_4 ?_
  refine lv_icmp_ge (tgt := 80) hx hb dX10_burnDown_7 (by decide) (fun c_1 => ?_) (fun c_1 => absurd (by decide) c_1)
  exact W.vret hx hb hr (fun t ht hW => ⟨rfl, trivial, ht⟩) (fun q hq => by cases hq) dX10_burnDown_80
set_option maxHeartbeats 4000000 in
set_option maxRecDepth 100000 in
theorem c_nextHour (l : Launch) (D : va_G) (K : Nat → ClassId) (a0 : Nat) (a1 : Nat) (g0 : Value) (k0 : Value) (a2 : Nat) (a3 : Nat) (k3 : Value) (k5 : Value) (k6 : Value) (k8 : Value) (k9 : Value) (fc : Nat → Int32) (ft : Nat → Int32) (hh : Nat) (dd : Nat) (sz : Nat) (h0 : ft 0 = nI hh) (h1 : ft 1 = nI dd) (hh24 : hh < 24) (hd99 : dd < 999) (hc : ∀ j, j < 24 → fc j = 0) : Met l yX10_nextHour wsX10_nextHour ({ frames := 2, cells := 0, slots := 0, locals := 43 }) (va_Pc [.ref a0, .ref a1] (Pre D K [(a0, .inr (10, [g0])), (a1, .inr (9, [k0, .ref a2, .ref a3, k3, .int 0, k5, k6, .int 0, k8, k9])), (a2, .inl (K 0, 24, .inl fc)), (a3, .inl (K 0, 6, .inl ft))] sz)) (va_Qi (S := (Nat → Nat) × (Nat → Nat → Int32) × (Nat → Nat → Int64) × (Nat → Int32)) (fun (r : Int32) (u : (Nat → Nat) × (Nat → Nat → Int32) × (Nat → Nat → Int64) × (Nat → Int32)) => r = 1 ∧ u.2.1 0 0 = nI (if hh = 23 then 0 else hh + 1) ∧ u.2.1 0 1 = nI (if hh = 23 then dd + 1 else dd)) (fun u t => Wd D (va_A [(a0, .inr (10, [g0])), (a1, .inr (9, [k0, .ref a2, .ref a3, k3, .int 0, k5, k6, .int 0, k8, k9])), (a2, .inl (K 0, 24, .inl fc)), (a3, .inl (K 0, 6, .inl ft))] sz) ((fun u => [(a0, .inr (10, [g0])), (a1, .inr (9, [k0, .ref a2, .ref a3, k3, .int 0, k5, k6, .int 0, k8, k9])), (a2, .inl (K 0, 24, .inl fc)), (a3, .inl (K 0, 6, .inl ((u.2.1 0))))]) u) t) (va_A [(a0, .inr (10, [g0])), (a1, .inr (9, [k0, .ref a2, .ref a3, k3, .int 0, k5, k6, .int 0, k8, k9])), (a2, .inl (K 0, 24, .inl fc)), (a3, .inl (K 0, 6, .inl ft))] sz)) 0 0 (va_A [(a0, .inr (10, [g0])), (a1, .inr (9, [k0, .ref a2, .ref a3, k3, .int 0, k5, k6, .int 0, k8, k9])), (a2, .inl (K 0, 24, .inl fc)), (a3, .inl (K 0, 6, .inl ft))] sz) := by
  refine Met.ofW (cc := cX10_nextHour) (maxL := 4) (ret := (some .int)) (by decide) rfl ?_
  intro p e s m args below meth c s₁ B hml hv
  obtain ⟨rfl, hsz, hP, hK, hD0, hN⟩ := hv
  have hx := B.exec
  have hb := B.bytes
  have hr := B.returns
  have hts := atoms_spec (ws := wsX10_nextHour) B.pre
  have hown : s.vm.findClass RX10 = some m.cls := findClass_of_methodNamed B.named
  have hlocks := B.notSynchronized
  subst hsz
  have hD := hD0.self (sz := s.heap.size)
  generalize hAe : va_A [(a0, .inr (10, [g0])), (a1, .inr (9, [k0, .ref a2, .ref a3, k3, .int 0, k5, k6, .int 0, k8, k9])), (a2, .inl (K 0, 24, .inl fc)), (a3, .inl (K 0, 6, .inl ft))] s.heap.size = A at hD ⊢
  have hA : ∀ q : Nat, s.heap.size ≤ q → A q := fun q h => by rw [← hAe]; exact Or.inr h
  have hS : va_S A s.heap s.heap [] := va_S.rf
  have hP : va_P D vwCl [(a0, .inr (10, [g0])), (a1, .inr (9, [k0, .ref a2, .ref a3, k3, .int 0, k5, k6, .int 0, k8, k9])), (a2, .inl (K 0, 24, .inl fc)), (a3, .inl (K 0, 6, .inl ft))] s.heap := hP
  have hl := lv_entry [.ref a0, .ref a1] (n := 4) (Nat.le_of_ble_eq_true rfl)
  rw [lg_entry_eq]
  generalize (lg_sl [.ref a0, .ref a1] ++ List.replicate (4 - (lg_sl [.ref a0, .ref a1]).length) Slot.unset).toArray = ls at hl ⊢
  have hl : lv_has ls 4 [(0, .ref a0), (1, .ref a1)] := hl
  have hw0 : ∀ w ∈ wsX00, w ∈ wsX10_nextHour := fun w h => (List.mem_cons_of_mem _ (List.mem_append_left _ (List.mem_append_left _ (List.mem_append_right _ h))))
  have hw3 : ∀ w ∈ wsX30, w ∈ wsX10_nextHour := fun w h => (List.mem_cons_of_mem _ (List.mem_append_right _ h))
  have hw7 : ∀ w ∈ wsX70, w ∈ wsX10_nextHour := fun w h => (List.mem_cons_of_mem _ (List.mem_append_left _ (List.mem_append_right _ h)))
  have hw9 : ∀ w ∈ wsX90, w ∈ wsX10_nextHour := fun w h => (List.mem_cons_of_mem _ (List.mem_append_left _ (List.mem_append_left _ (List.mem_append_left _ (List.mem_append_left _ (List.mem_append_right _ h))))))
  have hw10 : ∀ w ∈ wsX100, w ∈ wsX10_nextHour := fun w h => (List.mem_cons_of_mem _ (List.mem_append_left _ (List.mem_append_left _ (List.mem_append_left _ (List.mem_append_right _ h)))))
  refine lv_aload_n hx hb dX10_nextHour_0 rfl (lv_at hl 1 rfl) ?_
  refine va_getN (ci := 9) (v := .ref a3) (C := RX9) (T := TX9) (N := 10) hx hb hts hw9 hown hK hP 1 rfl rfl 2 (by decide) (nst_use hN 101 rfl) (fun _ h9 => h9) rfl dX10_nextHour_1 ?_
  refine lv_iconst (v := 0) hx hb dX10_nextHour_4 (by decide) ?_
  refine va_iald hx hb hK hP 3 0 rfl rfl (i_in (x := 0) rfl (by omega)) dX10_nextHour_5 ?_
  refine lv_topi (fun x_1 ex_1 => ?_)
  obtain rfl : x_1 = (nI hh) := ex_1.trans h0
  refine lv_bipush (v := 23) hx hb dX10_nextHour_6 (by decide) ?_
  refine lv_icmp_ne (tgt := 15) hx hb dX10_nextHour_8 (by decide) (fun c_2 => ?_) (fun c_2 => ?_)
  · have c_2i := i_ne (nI_toInt (by omega)) rfl c_2
    refine lv_iconst (v := 0) hx hb dX10_nextHour_15 (by decide) ?_
    refine lv_istore_n (lv' := [(2, .int 0), (0, .ref a0), (1, .ref a1)]) hx hb dX10_nextHour_16 rfl hl (by decide) rfl (fun ls hl => ?_)
    refine lv_iload_n hx hb dX10_nextHour_17 rfl (lv_at hl 0 rfl) ?_
    refine lv_if_eq (tgt := 36) hx hb dX10_nextHour_18 (by decide) (fun c_3 => ?_) (fun c_3 => absurd (by decide) c_3)
    refine lv_aload_n hx hb dX10_nextHour_36 rfl (lv_at hl 2 rfl) ?_
    refine pci (va_runVN (As := []) (rest := []) ⟨hx, hb, hml, hown, hts⟩ (c_meetsChord l D K a1 k0 a2 a3 k3 k5 k6 (.int 0) k8 k9 fc ft 0 0 s.heap.size rfl rfl (by omega) (by omega) hc) ⟨va_cnB 0 hts gX10_nextHour_X9_meetsChord_n60 rfl rfl rfl (nst_at hN 60 rfl) (hts (.initialized RX9) (List.mem_cons_of_mem _ (List.mem_append_left _ (List.mem_append_left _ (List.mem_append_left _ (List.mem_append_left _ (List.mem_append_left _ (List.mem_append_left _ (List.mem_of_getElem? (i := 6) rfl))))))))) (by decide +kernel) ⟨Nat.le_of_ble_eq_true rfl, Nat.le_of_ble_eq_true rfl⟩, (hts (.instanceMethod yX9_meetsChord) (List.mem_cons_of_mem _ (List.mem_append_left _ (List.mem_append_left _ (List.mem_append_left _ (List.mem_append_left _ (List.mem_append_left _ (List.mem_append_left _ (List.mem_of_getElem? (i := 5) rfl))))))))), (hts (.selects RX9 yX9_meetsChord yX9_meetsChord) (List.mem_cons_of_mem _ (List.mem_append_left _ (List.mem_append_left _ (List.mem_append_left _ (List.mem_append_left _ (List.mem_append_left _ (List.mem_append_left _ (List.mem_of_getElem? (i := 7) rfl)))))))))⟩ (mkV hK hN (hP.sub [1, 2, 3] rfl) (hD.sub [1, 2, 3] (by decide) rfl) (ci := 9) (q0 := 0) rfl rfl) rfl rfl hl.1 rfl (lv_room (Nat.le_of_ble_eq_true rfl)) dX10_nextHour_37 ⟨Nat.le_of_ble_eq_true rfl, Nat.le_of_ble_eq_true rfl⟩) (fun r_4 hw => ?_)
    obtain rfl : r_4 = 1 := hw
    refine lv_if_eq (tgt := 47) hx hb dX10_nextHour_40 (by decide) (fun c_5 => absurd c_5 (by decide)) (fun c_5 => ?_)
    refine lv_iconst (v := 1) hx hb dX10_nextHour_43 (by decide) ?_
    refine lv_goto (tgt := 48) hx hb dX10_nextHour_44 (by decide) ?_
    refine lv_istore_n (lv' := [(3, .int 1), (2, .int 0), (0, .ref a0), (1, .ref a1)]) hx hb dX10_nextHour_48 rfl hl (by decide) rfl (fun ls hl => ?_)
    refine lv_aload_n hx hb dX10_nextHour_49 rfl (lv_at hl 3 rfl) ?_
    refine lv_ldc (v := 99999) hx hb hown (hts (.constant RX10 64 (99999)) (List.mem_cons_of_mem _ (List.mem_append_left _ (List.mem_append_left _ (List.mem_append_left _ (List.mem_append_left _ (List.mem_append_left _ (List.mem_append_left _ (List.mem_of_getElem? (i := 0) rfl))))))))) dX10_nextHour_50 ?_
    refine lv_aload_n hx hb dX10_nextHour_52 rfl (lv_at hl 3 rfl) ?_
    refine va_getN (ci := 9) (v := .int 0) (C := RX9) (T := TX9) (N := 10) hx hb hts hw9 hown hK hP 1 rfl rfl 7 (by decide) (nst_use hN 114 rfl) (fun _ h9 => h9) rfl dX10_nextHour_53 ?_
    refine lv_aload_n hx hb dX10_nextHour_56 rfl (lv_at hl 2 rfl) ?_
    refine lv_aload_n hx hb dX10_nextHour_57 rfl (lv_at hl 3 rfl) ?_
    refine pci (va_runV (As := [.ref a1]) (rest := [.int 0, .int 99999, .ref a1]) ⟨hx, hb, hml, hown, hts⟩ (c_discords l D K a0 a1 g0 k0 (.ref a2) (.ref a3) k3 k5 k6 (.int 0) k8 k9 s.heap.size) (cwV 1 hts gX10_nextHour_X10_discords rfl rfl rfl (by decide +kernel) ⟨Nat.le_of_ble_eq_true rfl, Nat.le_of_ble_eq_true rfl⟩) (mkV hK hN (hP.sub [0, 1] rfl) (hD.sub [0, 1] (by decide) rfl) (ci := 10) (q0 := 0) rfl rfl) rfl rfl hl.1 rfl (lv_room (Nat.le_of_ble_eq_true rfl)) dX10_nextHour_58 ⟨Nat.le_of_ble_eq_true rfl, Nat.le_of_ble_eq_true rfl⟩) (fun r_6 hw => ?_)
    obtain rfl : r_6 = 0 := hw
    refine lv_iadd hx hb dX10_nextHour_61 ?_
    refine lv_topi (fun x_7 ex_7 => ?_)
    obtain rfl : x_7 = 0 := ex_7.trans (by first | rfl | decide)
    refine va_mmin hx hb (hml.trans hl.1.symm) hown (hts (.methodLink RX10 40 Lib.Math.min.name) (List.mem_cons_of_mem _ (List.mem_append_left _ (List.mem_append_left _ (List.mem_append_left _ (List.mem_append_left _ (List.mem_append_left _ (List.mem_append_left _ (List.mem_of_getElem? (i := 1) rfl))))))))) (hts (.static Lib.Math.min.name) (List.mem_cons_of_mem _ (List.mem_append_left _ (List.mem_append_left _ (List.mem_append_left _ (List.mem_append_left _ (List.mem_append_left _ (List.mem_append_left _ (List.mem_of_getElem? (i := 2) rfl))))))))) (hts (.initialized "java/lang/Math") (List.mem_cons_of_mem _ (List.mem_append_left _ (List.mem_append_left _ (List.mem_append_left _ (List.mem_append_left _ (List.mem_append_left _ (List.mem_append_left _ (List.mem_of_getElem? (i := 3) rfl))))))))) (hts (.code Lib.Math.min.name Lib.Math.min.code 2 (some .int)) (List.mem_cons_of_mem _ (List.mem_append_left _ (List.mem_append_left _ (List.mem_append_left _ (List.mem_append_left _ (List.mem_append_left _ (List.mem_append_left _ (List.mem_of_getElem? (i := 4) rfl))))))))) (Nat.le_of_ble_eq_true rfl) (Nat.le_of_ble_eq_true rfl) (Nat.le_of_ble_eq_true rfl) (Nat.le_of_ble_eq_true rfl) dX10_nextHour_62 ?_
    refine lv_topi (fun x_8 ex_8 => ?_)
    obtain rfl : x_8 = 0 := ex_8.trans (by first | rfl | decide)
    refine va_putN (ci := 9) (v := .int 0) (ty := .int) (C := RX9) (T := TX9) (N := 10) hx hb hts hw9 tyX9 tyX9_ok nmX9 hown hK hP hD hS 1 rfl rfl 7 (by decide) (nst_use hN 114 rfl) (fun _ h9 => h9) rfl (by decide +kernel) (by first | rfl | decide) (by first | rfl | decide) (Nat.le_of_ble_eq_true rfl) dX10_nextHour_65 (fun H locs hP hD hS => ?_)
    have hP : va_P D vwCl [(a0, .inr (10, [g0])), (a1, .inr (9, [k0, .ref a2, .ref a3, k3, .int 0, k5, k6, .int 0, k8, k9])), (a2, .inl (K 0, 24, .inl fc)), (a3, .inl (K 0, 6, .inl ft))] H := hP
    have hD : va_D A [(a0, .inr (10, [g0])), (a1, .inr (9, [k0, .ref a2, .ref a3, k3, .int 0, k5, k6, .int 0, k8, k9])), (a2, .inl (K 0, 24, .inl fc)), (a3, .inl (K 0, 6, .inl ft))] := hD
    refine lv_aload_n hx hb dX10_nextHour_68 rfl (lv_at hl 2 rfl) ?_
    refine lv_aload_n hx hb dX10_nextHour_69 rfl (lv_at hl 3 rfl) ?_
    refine pcv (va_runV (As := [.ref a1]) (rest := []) ⟨hx, hb, hml, hown, hts⟩ (c_burnDown l D K a0 a1 g0 k0 (.ref a2) (.ref a3) k3 k5 k6 (.int 0) k8 k9 H.size) (cwV 1 hts gX10_nextHour_X10_burnDown rfl rfl rfl (by decide +kernel) ⟨Nat.le_of_ble_eq_true rfl, Nat.le_of_ble_eq_true rfl⟩) (mkV hK hN (hP.sub [0, 1] rfl) (hD.sub [0, 1] (by decide) rfl) (ci := 10) (q0 := 0) rfl rfl) rfl rfl hl.1 rfl (lv_room (Nat.le_of_ble_eq_true rfl)) dX10_nextHour_70 ⟨Nat.le_of_ble_eq_true rfl, Nat.le_of_ble_eq_true rfl⟩) (fun hw => ?_)
    refine lv_aload_n hx hb dX10_nextHour_73 rfl (lv_at hl 3 rfl) ?_
    refine va_getN (ci := 9) (v := .ref a3) (C := RX9) (T := TX9) (N := 10) hx hb hts hw9 hown hK hP 1 rfl rfl 2 (by decide) (nst_use hN 101 rfl) (fun _ h9 => h9) rfl dX10_nextHour_74 ?_
    refine lv_iconst (v := 0) hx hb dX10_nextHour_77 (by decide) ?_
    refine lv_iload_n hx hb dX10_nextHour_78 rfl (lv_at hl 1 rfl) ?_
    refine lv_if_eq (tgt := 86) hx hb dX10_nextHour_79 (by decide) (fun c_10 => ?_) (fun c_10 => absurd (by decide) c_10)
    refine lv_aload_n hx hb dX10_nextHour_86 rfl (lv_at hl 3 rfl) ?_
    refine va_getN (ci := 9) (v := .ref a3) (C := RX9) (T := TX9) (N := 10) hx hb hts hw9 hown hK hP 1 rfl rfl 2 (by decide) (nst_use hN 101 rfl) (fun _ h9 => h9) rfl dX10_nextHour_87 ?_
    refine lv_iconst (v := 0) hx hb dX10_nextHour_90 (by decide) ?_
    refine va_iald hx hb hK hP 3 0 rfl rfl (i_in (x := 0) rfl (by omega)) dX10_nextHour_91 ?_
    refine lv_topi (fun x_11 ex_11 => ?_)
    obtain rfl : x_11 = (nI hh) := ex_11.trans h0
    refine lv_iconst (v := 1) hx hb dX10_nextHour_92 (by decide) ?_
    refine lv_iadd hx hb dX10_nextHour_93 ?_
    refine lv_topi (fun x_12 ex_12 => ?_)
    obtain rfl : x_12 = (nI (hh + 1)) := ex_12.trans (nI_1 hh)
    refine va_iast hx hb hK hP hD hS 3 0 rfl rfl (i_in (x := 0) rfl (by omega)) dX10_nextHour_94 (fun H locs hP hD hS => ?_)
    have hP : va_P D vwCl [(a0, .inr (10, [g0])), (a1, .inr (9, [k0, .ref a2, .ref a3, k3, .int 0, k5, k6, .int 0, k8, k9])), (a2, .inl (K 0, 24, .inl fc)), (a3, .inl (K 0, 6, .inl (upd ft 0 (nI (hh + 1)))))] H := hP
    have hD : va_D A [(a0, .inr (10, [g0])), (a1, .inr (9, [k0, .ref a2, .ref a3, k3, .int 0, k5, k6, .int 0, k8, k9])), (a2, .inl (K 0, 24, .inl fc)), (a3, .inl (K 0, 6, .inl (upd ft 0 (nI (hh + 1)))))] := hD
    refine lv_aload_n hx hb dX10_nextHour_95 rfl (lv_at hl 3 rfl) ?_
    refine va_getN (ci := 9) (v := .ref a3) (C := RX9) (T := TX9) (N := 10) hx hb hts hw9 hown hK hP 1 rfl rfl 2 (by decide) (nst_use hN 101 rfl) (fun _ h9 => h9) rfl dX10_nextHour_96 ?_
    refine lv_iconst (v := 1) hx hb dX10_nextHour_99 (by decide) ?_
    refine lv_dup2_11 hx hb dX10_nextHour_100 rfl rfl ?_
    refine va_iald hx hb hK hP 3 0 rfl rfl (i_in (x := 1) rfl (by omega)) dX10_nextHour_101 ?_
    refine lv_topi (fun x_13 ex_13 => ?_)
    obtain rfl : x_13 = (nI dd) := ex_13.trans ((pk_un (by decide)).trans h1)
    refine lv_iload_n hx hb dX10_nextHour_102 rfl (lv_at hl 1 rfl) ?_
    refine lv_if_eq (tgt := 110) hx hb dX10_nextHour_103 (by decide) (fun c_14 => ?_) (fun c_14 => absurd (by decide) c_14)
    refine lv_iconst (v := 0) hx hb dX10_nextHour_110 (by decide) ?_
    refine lv_iadd hx hb dX10_nextHour_111 ?_
    refine lv_topi (fun x_15 ex_15 => ?_)
    obtain rfl : x_15 = (nI dd) := ex_15.trans (Int32.add_zero _)
    refine va_iast hx hb hK hP hD hS 3 0 rfl rfl (i_in (x := 1) rfl (by omega)) dX10_nextHour_112 (fun H locs hP hD hS => ?_)
    generalize hf_16 : (upd (upd ft 0 (nI (hh + 1))) (1 : Int32).toNatClampNeg (nI dd)) = f_16 at hP hD
    have hP : va_P D vwCl [(a0, .inr (10, [g0])), (a1, .inr (9, [k0, .ref a2, .ref a3, k3, .int 0, k5, k6, .int 0, k8, k9])), (a2, .inl (K 0, 24, .inl fc)), (a3, .inl (K 0, 6, .inl f_16))] H := hP
    have hD : va_D A [(a0, .inr (10, [g0])), (a1, .inr (9, [k0, .ref a2, .ref a3, k3, .int 0, k5, k6, .int 0, k8, k9])), (a2, .inl (K 0, 24, .inl fc)), (a3, .inl (K 0, 6, .inl f_16))] := hD
    refine lv_iload_n hx hb dX10_nextHour_113 rfl (lv_at hl 0 rfl) ?_
    have hP9 := hP.sub (ws' := [(a0, .inr (10, [g0])), (a1, .inr (9, [k0, .ref a2, .ref a3, k3, .int 0, k5, k6, .int 0, k8, k9])), (a2, .inl (K 0, 24, .inl fc)), (a3, .inl (K 0, 6, .inl f_16))]) [0, 1, 2, 3] rfl
    have hD9 := hD.sub (ws' := [(a0, .inr (10, [g0])), (a1, .inr (9, [k0, .ref a2, .ref a3, k3, .int 0, k5, k6, .int 0, k8, k9])), (a2, .inl (K 0, 24, .inl fc)), (a3, .inl (K 0, 6, .inl f_16))]) [0, 1, 2, 3] (by decide) rfl
    exact W.iret (v := 1) hx hb hr (fun t ht hW => ⟨⟨1, (fun _ => 0, fun i => match i with | _ => f_16, fun _ => fun _ => 0, fun _ => 0), rfl, ⟨rfl, by show f_16 0 = _; rw [← hf_16, if_neg (by omega)]; rfl, by show f_16 1 = _; rw [← hf_16, if_neg (by omega)]; rfl⟩, (⟨by rw [ht]; exact hP9, hD9⟩ : Wd D A _ t)⟩, hS.F ht⟩) hS.2.2 dX10_nextHour_114
  · have c_2i := i_eq (nI_toInt (by omega)) rfl (Decidable.not_not.mp c_2)
    refine lv_iconst (v := 1) hx hb dX10_nextHour_11 (by decide) ?_
    refine lv_goto (tgt := 16) hx hb dX10_nextHour_12 (by decide) ?_
    refine lv_istore_n (lv' := [(2, .int 1), (0, .ref a0), (1, .ref a1)]) hx hb dX10_nextHour_16 rfl hl (by decide) rfl (fun ls hl => ?_)
    refine lv_iload_n hx hb dX10_nextHour_17 rfl (lv_at hl 0 rfl) ?_
    refine lv_if_eq (tgt := 36) hx hb dX10_nextHour_18 (by decide) (fun c_17 => absurd c_17 (by decide)) (fun c_17 => ?_)
    refine lv_aload_n hx hb dX10_nextHour_21 rfl (lv_at hl 2 rfl) ?_
    refine va_getN (ci := 9) (v := .ref a3) (C := RX9) (T := TX9) (N := 10) hx hb hts hw9 hown hK hP 1 rfl rfl 2 (by decide) (nst_use hN 101 rfl) (fun _ h9 => h9) rfl dX10_nextHour_22 ?_
    refine lv_iconst (v := 1) hx hb dX10_nextHour_25 (by decide) ?_
    refine va_iald hx hb hK hP 3 0 rfl rfl (i_in (x := 1) rfl (by omega)) dX10_nextHour_26 ?_
    refine lv_topi (fun x_18 ex_18 => ?_)
    obtain rfl : x_18 = (nI dd) := ex_18.trans h1
    refine lv_sipush (v := 999) hx hb dX10_nextHour_27 (by decide) ?_
    refine lv_icmp_lt (tgt := 36) hx hb dX10_nextHour_30 (by decide) (fun c_19 => ?_) (fun c_19 => ?_)
    · have c_19i := i_lt (nI_toInt (by omega)) rfl c_19
      refine lv_aload_n hx hb dX10_nextHour_36 rfl (lv_at hl 2 rfl) ?_
      refine pci (va_runVN (As := []) (rest := []) ⟨hx, hb, hml, hown, hts⟩ (c_meetsChord l D K a1 k0 a2 a3 k3 k5 k6 (.int 0) k8 k9 fc ft 0 0 s.heap.size rfl rfl (by omega) (by omega) hc) ⟨va_cnB 0 hts gX10_nextHour_X9_meetsChord_n60 rfl rfl rfl (nst_at hN 60 rfl) (hts (.initialized RX9) (List.mem_cons_of_mem _ (List.mem_append_left _ (List.mem_append_left _ (List.mem_append_left _ (List.mem_append_left _ (List.mem_append_left _ (List.mem_append_left _ (List.mem_of_getElem? (i := 6) rfl))))))))) (by decide +kernel) ⟨Nat.le_of_ble_eq_true rfl, Nat.le_of_ble_eq_true rfl⟩, (hts (.instanceMethod yX9_meetsChord) (List.mem_cons_of_mem _ (List.mem_append_left _ (List.mem_append_left _ (List.mem_append_left _ (List.mem_append_left _ (List.mem_append_left _ (List.mem_append_left _ (List.mem_of_getElem? (i := 5) rfl))))))))), (hts (.selects RX9 yX9_meetsChord yX9_meetsChord) (List.mem_cons_of_mem _ (List.mem_append_left _ (List.mem_append_left _ (List.mem_append_left _ (List.mem_append_left _ (List.mem_append_left _ (List.mem_append_left _ (List.mem_of_getElem? (i := 7) rfl)))))))))⟩ (mkV hK hN (hP.sub [1, 2, 3] rfl) (hD.sub [1, 2, 3] (by decide) rfl) (ci := 9) (q0 := 0) rfl rfl) rfl rfl hl.1 rfl (lv_room (Nat.le_of_ble_eq_true rfl)) dX10_nextHour_37 ⟨Nat.le_of_ble_eq_true rfl, Nat.le_of_ble_eq_true rfl⟩) (fun r_20 hw => ?_)
      obtain rfl : r_20 = 1 := hw
      refine lv_if_eq (tgt := 47) hx hb dX10_nextHour_40 (by decide) (fun c_21 => absurd c_21 (by decide)) (fun c_21 => ?_)
      refine lv_iconst (v := 1) hx hb dX10_nextHour_43 (by decide) ?_
      refine lv_goto (tgt := 48) hx hb dX10_nextHour_44 (by decide) ?_
      refine lv_istore_n (lv' := [(3, .int 1), (2, .int 1), (0, .ref a0), (1, .ref a1)]) hx hb dX10_nextHour_48 rfl hl (by decide) rfl (fun ls hl => ?_)
      refine lv_aload_n hx hb dX10_nextHour_49 rfl (lv_at hl 3 rfl) ?_
      refine lv_ldc (v := 99999) hx hb hown (hts (.constant RX10 64 (99999)) (List.mem_cons_of_mem _ (List.mem_append_left _ (List.mem_append_left _ (List.mem_append_left _ (List.mem_append_left _ (List.mem_append_left _ (List.mem_append_left _ (List.mem_of_getElem? (i := 0) rfl))))))))) dX10_nextHour_50 ?_
      refine lv_aload_n hx hb dX10_nextHour_52 rfl (lv_at hl 3 rfl) ?_
      refine va_getN (ci := 9) (v := .int 0) (C := RX9) (T := TX9) (N := 10) hx hb hts hw9 hown hK hP 1 rfl rfl 7 (by decide) (nst_use hN 114 rfl) (fun _ h9 => h9) rfl dX10_nextHour_53 ?_
      refine lv_aload_n hx hb dX10_nextHour_56 rfl (lv_at hl 2 rfl) ?_
      refine lv_aload_n hx hb dX10_nextHour_57 rfl (lv_at hl 3 rfl) ?_
      refine pci (va_runV (As := [.ref a1]) (rest := [.int 0, .int 99999, .ref a1]) ⟨hx, hb, hml, hown, hts⟩ (c_discords l D K a0 a1 g0 k0 (.ref a2) (.ref a3) k3 k5 k6 (.int 0) k8 k9 s.heap.size) (cwV 1 hts gX10_nextHour_X10_discords rfl rfl rfl (by decide +kernel) ⟨Nat.le_of_ble_eq_true rfl, Nat.le_of_ble_eq_true rfl⟩) (mkV hK hN (hP.sub [0, 1] rfl) (hD.sub [0, 1] (by decide) rfl) (ci := 10) (q0 := 0) rfl rfl) rfl rfl hl.1 rfl (lv_room (Nat.le_of_ble_eq_true rfl)) dX10_nextHour_58 ⟨Nat.le_of_ble_eq_true rfl, Nat.le_of_ble_eq_true rfl⟩) (fun r_22 hw => ?_)
      obtain rfl : r_22 = 0 := hw
      refine lv_iadd hx hb dX10_nextHour_61 ?_
      refine lv_topi (fun x_23 ex_23 => ?_)
      obtain rfl : x_23 = 0 := ex_23.trans (by first | rfl | decide)
      refine va_mmin hx hb (hml.trans hl.1.symm) hown (hts (.methodLink RX10 40 Lib.Math.min.name) (List.mem_cons_of_mem _ (List.mem_append_left _ (List.mem_append_left _ (List.mem_append_left _ (List.mem_append_left _ (List.mem_append_left _ (List.mem_append_left _ (List.mem_of_getElem? (i := 1) rfl))))))))) (hts (.static Lib.Math.min.name) (List.mem_cons_of_mem _ (List.mem_append_left _ (List.mem_append_left _ (List.mem_append_left _ (List.mem_append_left _ (List.mem_append_left _ (List.mem_append_left _ (List.mem_of_getElem? (i := 2) rfl))))))))) (hts (.initialized "java/lang/Math") (List.mem_cons_of_mem _ (List.mem_append_left _ (List.mem_append_left _ (List.mem_append_left _ (List.mem_append_left _ (List.mem_append_left _ (List.mem_append_left _ (List.mem_of_getElem? (i := 3) rfl))))))))) (hts (.code Lib.Math.min.name Lib.Math.min.code 2 (some .int)) (List.mem_cons_of_mem _ (List.mem_append_left _ (List.mem_append_left _ (List.mem_append_left _ (List.mem_append_left _ (List.mem_append_left _ (List.mem_append_left _ (List.mem_of_getElem? (i := 4) rfl))))))))) (Nat.le_of_ble_eq_true rfl) (Nat.le_of_ble_eq_true rfl) (Nat.le_of_ble_eq_true rfl) (Nat.le_of_ble_eq_true rfl) dX10_nextHour_62 ?_
      refine lv_topi (fun x_24 ex_24 => ?_)
      obtain rfl : x_24 = 0 := ex_24.trans (by first | rfl | decide)
      refine va_putN (ci := 9) (v := .int 0) (ty := .int) (C := RX9) (T := TX9) (N := 10) hx hb hts hw9 tyX9 tyX9_ok nmX9 hown hK hP hD hS 1 rfl rfl 7 (by decide) (nst_use hN 114 rfl) (fun _ h9 => h9) rfl (by decide +kernel) (by first | rfl | decide) (by first | rfl | decide) (Nat.le_of_ble_eq_true rfl) dX10_nextHour_65 (fun H locs hP hD hS => ?_)
      have hP : va_P D vwCl [(a0, .inr (10, [g0])), (a1, .inr (9, [k0, .ref a2, .ref a3, k3, .int 0, k5, k6, .int 0, k8, k9])), (a2, .inl (K 0, 24, .inl fc)), (a3, .inl (K 0, 6, .inl ft))] H := hP
      have hD : va_D A [(a0, .inr (10, [g0])), (a1, .inr (9, [k0, .ref a2, .ref a3, k3, .int 0, k5, k6, .int 0, k8, k9])), (a2, .inl (K 0, 24, .inl fc)), (a3, .inl (K 0, 6, .inl ft))] := hD
      refine lv_aload_n hx hb dX10_nextHour_68 rfl (lv_at hl 2 rfl) ?_
      refine lv_aload_n hx hb dX10_nextHour_69 rfl (lv_at hl 3 rfl) ?_
      refine pcv (va_runV (As := [.ref a1]) (rest := []) ⟨hx, hb, hml, hown, hts⟩ (c_burnDown l D K a0 a1 g0 k0 (.ref a2) (.ref a3) k3 k5 k6 (.int 0) k8 k9 H.size) (cwV 1 hts gX10_nextHour_X10_burnDown rfl rfl rfl (by decide +kernel) ⟨Nat.le_of_ble_eq_true rfl, Nat.le_of_ble_eq_true rfl⟩) (mkV hK hN (hP.sub [0, 1] rfl) (hD.sub [0, 1] (by decide) rfl) (ci := 10) (q0 := 0) rfl rfl) rfl rfl hl.1 rfl (lv_room (Nat.le_of_ble_eq_true rfl)) dX10_nextHour_70 ⟨Nat.le_of_ble_eq_true rfl, Nat.le_of_ble_eq_true rfl⟩) (fun hw => ?_)
      refine lv_aload_n hx hb dX10_nextHour_73 rfl (lv_at hl 3 rfl) ?_
      refine va_getN (ci := 9) (v := .ref a3) (C := RX9) (T := TX9) (N := 10) hx hb hts hw9 hown hK hP 1 rfl rfl 2 (by decide) (nst_use hN 101 rfl) (fun _ h9 => h9) rfl dX10_nextHour_74 ?_
      refine lv_iconst (v := 0) hx hb dX10_nextHour_77 (by decide) ?_
      refine lv_iload_n hx hb dX10_nextHour_78 rfl (lv_at hl 1 rfl) ?_
      refine lv_if_eq (tgt := 86) hx hb dX10_nextHour_79 (by decide) (fun c_26 => absurd c_26 (by decide)) (fun c_26 => ?_)
      refine lv_iconst (v := 0) hx hb dX10_nextHour_82 (by decide) ?_
      refine lv_goto (tgt := 94) hx hb dX10_nextHour_83 (by decide) ?_
      refine va_iast hx hb hK hP hD hS 3 0 rfl rfl (i_in (x := 0) rfl (by omega)) dX10_nextHour_94 (fun H locs hP hD hS => ?_)
      have hP : va_P D vwCl [(a0, .inr (10, [g0])), (a1, .inr (9, [k0, .ref a2, .ref a3, k3, .int 0, k5, k6, .int 0, k8, k9])), (a2, .inl (K 0, 24, .inl fc)), (a3, .inl (K 0, 6, .inl (upd ft 0 0)))] H := hP
      have hD : va_D A [(a0, .inr (10, [g0])), (a1, .inr (9, [k0, .ref a2, .ref a3, k3, .int 0, k5, k6, .int 0, k8, k9])), (a2, .inl (K 0, 24, .inl fc)), (a3, .inl (K 0, 6, .inl (upd ft 0 0)))] := hD
      refine lv_aload_n hx hb dX10_nextHour_95 rfl (lv_at hl 3 rfl) ?_
      refine va_getN (ci := 9) (v := .ref a3) (C := RX9) (T := TX9) (N := 10) hx hb hts hw9 hown hK hP 1 rfl rfl 2 (by decide) (nst_use hN 101 rfl) (fun _ h9 => h9) rfl dX10_nextHour_96 ?_
      refine lv_iconst (v := 1) hx hb dX10_nextHour_99 (by decide) ?_
      refine lv_dup2_11 hx hb dX10_nextHour_100 rfl rfl ?_
      refine va_iald hx hb hK hP 3 0 rfl rfl (i_in (x := 1) rfl (by omega)) dX10_nextHour_101 ?_
      refine lv_topi (fun x_27 ex_27 => ?_)
      obtain rfl : x_27 = (nI dd) := ex_27.trans ((pk_un (by decide)).trans h1)
      refine lv_iload_n hx hb dX10_nextHour_102 rfl (lv_at hl 1 rfl) ?_
      refine lv_if_eq (tgt := 110) hx hb dX10_nextHour_103 (by decide) (fun c_28 => absurd c_28 (by decide)) (fun c_28 => ?_)
      refine lv_iconst (v := 1) hx hb dX10_nextHour_106 (by decide) ?_
      refine lv_goto (tgt := 111) hx hb dX10_nextHour_107 (by decide) ?_
      refine lv_iadd hx hb dX10_nextHour_111 ?_
      refine lv_topi (fun x_29 ex_29 => ?_)
      obtain rfl : x_29 = (nI (dd + 1)) := ex_29.trans (nI_1 dd)
      refine va_iast hx hb hK hP hD hS 3 0 rfl rfl (i_in (x := 1) rfl (by omega)) dX10_nextHour_112 (fun H locs hP hD hS => ?_)
      generalize hf_30 : (upd (upd ft 0 0) (1 : Int32).toNatClampNeg (nI (dd + 1))) = f_30 at hP hD
      have hP : va_P D vwCl [(a0, .inr (10, [g0])), (a1, .inr (9, [k0, .ref a2, .ref a3, k3, .int 0, k5, k6, .int 0, k8, k9])), (a2, .inl (K 0, 24, .inl fc)), (a3, .inl (K 0, 6, .inl f_30))] H := hP
      have hD : va_D A [(a0, .inr (10, [g0])), (a1, .inr (9, [k0, .ref a2, .ref a3, k3, .int 0, k5, k6, .int 0, k8, k9])), (a2, .inl (K 0, 24, .inl fc)), (a3, .inl (K 0, 6, .inl f_30))] := hD
      refine lv_iload_n hx hb dX10_nextHour_113 rfl (lv_at hl 0 rfl) ?_
      have hP9 := hP.sub (ws' := [(a0, .inr (10, [g0])), (a1, .inr (9, [k0, .ref a2, .ref a3, k3, .int 0, k5, k6, .int 0, k8, k9])), (a2, .inl (K 0, 24, .inl fc)), (a3, .inl (K 0, 6, .inl f_30))]) [0, 1, 2, 3] rfl
      have hD9 := hD.sub (ws' := [(a0, .inr (10, [g0])), (a1, .inr (9, [k0, .ref a2, .ref a3, k3, .int 0, k5, k6, .int 0, k8, k9])), (a2, .inl (K 0, 24, .inl fc)), (a3, .inl (K 0, 6, .inl f_30))]) [0, 1, 2, 3] (by decide) rfl
      exact W.iret (v := 1) hx hb hr (fun t ht hW => ⟨⟨1, (fun _ => 0, fun i => match i with | _ => f_30, fun _ => fun _ => 0, fun _ => 0), rfl, ⟨rfl, by show f_30 0 = _; rw [← hf_30, if_pos (by omega)]; rfl, by show f_30 1 = _; rw [← hf_30, if_pos (by omega)]; rfl⟩, (⟨by rw [ht]; exact hP9, hD9⟩ : Wd D A _ t)⟩, hS.F ht⟩) hS.2.2 dX10_nextHour_114
    · have c_19i := i_nlt (nI_toInt (by omega)) rfl c_19
      exfalso; omega
set_option maxHeartbeats 4000000 in
set_option maxRecDepth 100000 in
theorem c_changing_0 (l : Launch) (D : va_G) (K : Nat → ClassId) (sz : Nat) : Met l yX2_changing wsX2_changing ({ frames := 0, cells := 0, slots := 0, locals := 0 }) (va_Pc [.int 0] (Pre D K [] sz)) (vp_Si (fun r : Int32 => (r = 2))) 0 0 (fun _ => False) := by
  refine Met.ofW (cc := cX2_changing) (maxL := 1) (ret := (some .int)) (by decide) rfl ?_
  intro p e s m args below meth c s₁ B hml hv
  obtain ⟨rfl, hsz, hP, hK, hD0, hN⟩ := hv
  have hx := B.exec
  have hb := B.bytes
  have hr := B.returns
  have hts := atoms_spec (ws := wsX2_changing) B.pre
  have hown : s.vm.findClass RX2 = some m.cls := findClass_of_methodNamed B.named
  have hlocks := B.notSynchronized
  subst hsz
  have hD := hD0
  have hP : va_P D vwCl [] s.heap := hP
  have hl := lv_entry [.int 0] (n := 1) (Nat.le_of_ble_eq_true rfl)
  rw [lg_entry_eq]
  generalize (lg_sl [.int 0] ++ List.replicate (1 - (lg_sl [.int 0]).length) Slot.unset).toArray = ls at hl ⊢
  have hl : lv_has ls 1 [(0, .int 0)] := hl
  refine lv_iload_n hx hb dX2_changing_0 rfl (lv_at hl 0 rfl) ?_
  refine lv_if_ne (tgt := 8) hx hb dX2_changing_1 (by decide) (fun c_1 => absurd c_1 (by decide)) (fun c_1 => ?_)
  refine lv_iconst (v := 2) hx hb dX2_changing_4 (by decide) ?_
  refine lv_goto (tgt := 19) hx hb dX2_changing_5 (by decide) ?_
  exact W.iret (v := 2) hx hb hr (fun t ht hW => ⟨_, rfl, (by first | exact rfl), ht⟩) (fun q hq => by cases hq) dX2_changing_19
set_option maxHeartbeats 4000000 in
set_option maxRecDepth 100000 in
theorem c_changing_1 (l : Launch) (D : va_G) (K : Nat → ClassId) (sz : Nat) : Met l yX2_changing wsX2_changing ({ frames := 0, cells := 0, slots := 0, locals := 0 }) (va_Pc [.int 1] (Pre D K [] sz)) (vp_Si (fun r : Int32 => (r = 5))) 0 0 (fun _ => False) := by
  refine Met.ofW (cc := cX2_changing) (maxL := 1) (ret := (some .int)) (by decide) rfl ?_
  intro p e s m args below meth c s₁ B hml hv
  obtain ⟨rfl, hsz, hP, hK, hD0, hN⟩ := hv
  have hx := B.exec
  have hb := B.bytes
  have hr := B.returns
  have hts := atoms_spec (ws := wsX2_changing) B.pre
  have hown : s.vm.findClass RX2 = some m.cls := findClass_of_methodNamed B.named
  have hlocks := B.notSynchronized
  subst hsz
  have hD := hD0
  have hP : va_P D vwCl [] s.heap := hP
  have hl := lv_entry [.int 1] (n := 1) (Nat.le_of_ble_eq_true rfl)
  rw [lg_entry_eq]
  generalize (lg_sl [.int 1] ++ List.replicate (1 - (lg_sl [.int 1]).length) Slot.unset).toArray = ls at hl ⊢
  have hl : lv_has ls 1 [(0, .int 1)] := hl
  refine lv_iload_n hx hb dX2_changing_0 rfl (lv_at hl 0 rfl) ?_
  refine lv_if_ne (tgt := 8) hx hb dX2_changing_1 (by decide) (fun c_1 => ?_) (fun c_1 => absurd (by decide) c_1)
  refine lv_iload_n hx hb dX2_changing_8 rfl (lv_at hl 0 rfl) ?_
  refine lv_iconst (v := 1) hx hb dX2_changing_9 (by decide) ?_
  refine lv_icmp_ne (tgt := 17) hx hb dX2_changing_10 (by decide) (fun c_2 => absurd c_2 (by decide)) (fun c_2 => ?_)
  refine lv_iconst (v := 5) hx hb dX2_changing_13 (by decide) ?_
  refine lv_goto (tgt := 19) hx hb dX2_changing_14 (by decide) ?_
  exact W.iret (v := 5) hx hb hr (fun t ht hW => ⟨_, rfl, (by first | exact rfl), ht⟩) (fun q hq => by cases hq) dX2_changing_19
set_option maxHeartbeats 4000000 in
set_option maxRecDepth 100000 in
theorem c_changing_2 (l : Launch) (D : va_G) (K : Nat → ClassId) (sz : Nat) : Met l yX2_changing wsX2_changing ({ frames := 0, cells := 0, slots := 0, locals := 0 }) (va_Pc [.int 2] (Pre D K [] sz)) (vp_Si (fun r : Int32 => (r = 6))) 0 0 (fun _ => False) := by
  refine Met.ofW (cc := cX2_changing) (maxL := 1) (ret := (some .int)) (by decide) rfl ?_
  intro p e s m args below meth c s₁ B hml hv
  obtain ⟨rfl, hsz, hP, hK, hD0, hN⟩ := hv
  have hx := B.exec
  have hb := B.bytes
  have hr := B.returns
  have hts := atoms_spec (ws := wsX2_changing) B.pre
  have hown : s.vm.findClass RX2 = some m.cls := findClass_of_methodNamed B.named
  have hlocks := B.notSynchronized
  subst hsz
  have hD := hD0
  have hP : va_P D vwCl [] s.heap := hP
  have hl := lv_entry [.int 2] (n := 1) (Nat.le_of_ble_eq_true rfl)
  rw [lg_entry_eq]
  generalize (lg_sl [.int 2] ++ List.replicate (1 - (lg_sl [.int 2]).length) Slot.unset).toArray = ls at hl ⊢
  have hl : lv_has ls 1 [(0, .int 2)] := hl
  refine lv_iload_n hx hb dX2_changing_0 rfl (lv_at hl 0 rfl) ?_
  refine lv_if_ne (tgt := 8) hx hb dX2_changing_1 (by decide) (fun c_1 => ?_) (fun c_1 => absurd (by decide) c_1)
  refine lv_iload_n hx hb dX2_changing_8 rfl (lv_at hl 0 rfl) ?_
  refine lv_iconst (v := 1) hx hb dX2_changing_9 (by decide) ?_
  refine lv_icmp_ne (tgt := 17) hx hb dX2_changing_10 (by decide) (fun c_2 => ?_) (fun c_2 => absurd (by decide) c_2)
  refine lv_bipush (v := 6) hx hb dX2_changing_17 (by decide) ?_
  exact W.iret (v := 6) hx hb hr (fun t ht hW => ⟨_, rfl, (by first | exact rfl), ht⟩) (fun q hq => by cases hq) dX2_changing_19
set_option maxHeartbeats 4000000 in
set_option maxRecDepth 100000 in
theorem c_draft (l : Launch) (D : va_G) (K : Nat → ClassId) (a0 : Nat) (a1 : Nat) (a2 : Nat) (g2 : Value) (a3 : Nat) (k1 : Value) (a4 : Nat) (k3 : Value) (k4 : Value) (k5 : Value) (k6 : Value) (k8 : Value) (k9 : Value) (f : Nat → Int32) (f3 : Nat → Int32) (f4 : Nat → Int32) (sz : Nat) : Met l yX2_draft wsX2_draft ({ frames := 1, cells := 0, slots := 0, locals := 40 }) (va_Pc [.ref a0, .ref a1] (Pre D K [(a0, .inr (2, [.ref a2, .int 0, g2])), (a1, .inr (9, [.ref a3, k1, .ref a4, k3, k4, k5, k6, .int 0, k8, k9])), (a2, .inl (K 0, 476, .inl f)), (a3, .inl (K 0, 56, .inl f3)), (a4, .inl (K 0, 6, .inl f4))] sz)) (va_Qv (S := (Nat → Nat) × (Nat → Nat → Int32) × (Nat → Nat → Int64) × (Nat → Int32)) (fun _ => True) (fun u t => Wd D (va_A [(a0, .inr (2, [.ref a2, .int 0, g2])), (a1, .inr (9, [.ref a3, k1, .ref a4, k3, k4, k5, k6, .int 0, k8, k9])), (a2, .inl (K 0, 476, .inl f)), (a3, .inl (K 0, 56, .inl f3)), (a4, .inl (K 0, 6, .inl f4))] sz) ((fun u => [(a0, .inr (2, [.ref a2, .int 0, g2])), (a1, .inr (9, [.ref a3, k1, .ref a4, k3, k4, k5, k6, .int 0, k8, k9])), (a2, .inl (K 0, 476, .inl ((u.2.1 0)))), (a3, .inl (K 0, 56, .inl f3)), (a4, .inl (K 0, 6, .inl f4))]) u) t) (va_A [(a0, .inr (2, [.ref a2, .int 0, g2])), (a1, .inr (9, [.ref a3, k1, .ref a4, k3, k4, k5, k6, .int 0, k8, k9])), (a2, .inl (K 0, 476, .inl f)), (a3, .inl (K 0, 56, .inl f3)), (a4, .inl (K 0, 6, .inl f4))] sz)) 0 0 (va_A [(a0, .inr (2, [.ref a2, .int 0, g2])), (a1, .inr (9, [.ref a3, k1, .ref a4, k3, k4, k5, k6, .int 0, k8, k9])), (a2, .inl (K 0, 476, .inl f)), (a3, .inl (K 0, 56, .inl f3)), (a4, .inl (K 0, 6, .inl f4))] sz) := by
  refine Met.ofW (cc := cX2_draft) (maxL := 4) (ret := none) (by decide) rfl ?_
  intro p e s m args below meth c s₁ B hml hv
  obtain ⟨rfl, hsz, hP, hK, hD0, hN⟩ := hv
  have hx := B.exec
  have hb := B.bytes
  have hr := B.returns
  have hts := atoms_spec (ws := wsX2_draft) B.pre
  have hown : s.vm.findClass RX2 = some m.cls := findClass_of_methodNamed B.named
  have hlocks := B.notSynchronized
  subst hsz
  have hD := hD0.self (sz := s.heap.size)
  generalize hAe : va_A [(a0, .inr (2, [.ref a2, .int 0, g2])), (a1, .inr (9, [.ref a3, k1, .ref a4, k3, k4, k5, k6, .int 0, k8, k9])), (a2, .inl (K 0, 476, .inl f)), (a3, .inl (K 0, 56, .inl f3)), (a4, .inl (K 0, 6, .inl f4))] s.heap.size = A at hD ⊢
  have hA : ∀ q : Nat, s.heap.size ≤ q → A q := fun q h => by rw [← hAe]; exact Or.inr h
  have hS : va_S A s.heap s.heap [] := va_S.rf
  have hP : va_P D vwCl [(a0, .inr (2, [.ref a2, .int 0, g2])), (a1, .inr (9, [.ref a3, k1, .ref a4, k3, k4, k5, k6, .int 0, k8, k9])), (a2, .inl (K 0, 476, .inl f)), (a3, .inl (K 0, 56, .inl f3)), (a4, .inl (K 0, 6, .inl f4))] s.heap := hP
  have hl := lv_entry [.ref a0, .ref a1] (n := 4) (Nat.le_of_ble_eq_true rfl)
  rw [lg_entry_eq]
  generalize (lg_sl [.ref a0, .ref a1] ++ List.replicate (4 - (lg_sl [.ref a0, .ref a1]).length) Slot.unset).toArray = ls at hl ⊢
  have hl : lv_has ls 4 [(0, .ref a0), (1, .ref a1)] := hl
  have hw2 : ∀ w ∈ wsX20, w ∈ wsX2_draft := fun w h => (List.mem_cons_of_mem _ (List.mem_append_left _ (List.mem_append_right _ h)))
  have hw9 : ∀ w ∈ wsX90, w ∈ wsX2_draft := fun w h => (List.mem_cons_of_mem _ (List.mem_append_right _ h))
  refine lv_aload_n hx hb dX2_draft_0 rfl (lv_at hl 0 rfl) ?_
  refine va_get (ci := 2) (v := .int 0) (C := RX2) (T := TX2) (N := 3) hx hb hts hw2 hown hK hP 0 rfl rfl 1 (by decide) (hts (.fieldLink RX2 15 "SmokeTune$History" "drafted" "I") (List.mem_cons_of_mem _ (List.mem_append_left _ (List.mem_append_left _ (List.mem_of_getElem? (i := 0) rfl))))) (fun _ h9 => h9) rfl dX2_draft_1 ?_
  refine lv_bipush (v := 28) hx hb dX2_draft_4 (by decide) ?_
  refine lv_imul hx hb dX2_draft_6 ?_
  refine lv_topi (fun x_1 ex_1 => ?_)
  obtain rfl : x_1 = 0 := ex_1.trans (by first | rfl | decide)
  refine lv_istore_n (lv' := [(2, .int 0), (0, .ref a0), (1, .ref a1)]) hx hb dX2_draft_7 rfl hl (by decide) rfl (fun ls hl => ?_)
  refine lv_aload_n hx hb dX2_draft_8 rfl (lv_at hl 1 rfl) ?_
  refine va_get (ci := 2) (v := .ref a2) (C := RX2) (T := TX2) (N := 3) hx hb hts hw2 hown hK hP 0 rfl rfl 0 (by decide) (hts (.fieldLink RX2 11 "SmokeTune$History" "slots" "[I") (List.mem_cons_of_mem _ (List.mem_append_left _ (List.mem_append_left _ (List.mem_of_getElem? (i := 1) rfl))))) (fun _ h9 => h9) rfl dX2_draft_9 ?_
  refine lv_iload_n hx hb dX2_draft_12 rfl (lv_at hl 0 rfl) ?_
  refine lv_iconst (v := 1) hx hb dX2_draft_13 (by decide) ?_
  refine lv_iadd hx hb dX2_draft_14 ?_
  refine lv_topi (fun x_2 ex_2 => ?_)
  obtain rfl : x_2 = 1 := ex_2.trans (by first | rfl | decide)
  refine lv_aload_n hx hb dX2_draft_15 rfl (lv_at hl 2 rfl) ?_
  refine va_getN (ci := 9) (v := .int 0) (C := RX9) (T := TX9) (N := 10) hx hb hts hw9 hown hK hP 1 rfl rfl 7 (by decide) (nst_use hN 113 rfl) (fun _ h9 => h9) rfl dX2_draft_16 ?_
  refine va_iast hx hb hK hP hD hS 2 0 rfl rfl (i_in (x := 1) rfl (by omega)) dX2_draft_19 (fun H locs hP hD hS => ?_)
  generalize hf_3 : (upd f (1 : Int32).toNatClampNeg 0) = f_3 at hP hD
  have hP : va_P D vwCl [(a0, .inr (2, [.ref a2, .int 0, g2])), (a1, .inr (9, [.ref a3, k1, .ref a4, k3, k4, k5, k6, .int 0, k8, k9])), (a2, .inl (K 0, 476, .inl f_3)), (a3, .inl (K 0, 56, .inl f3)), (a4, .inl (K 0, 6, .inl f4))] H := hP
  have hD : va_D A [(a0, .inr (2, [.ref a2, .int 0, g2])), (a1, .inr (9, [.ref a3, k1, .ref a4, k3, k4, k5, k6, .int 0, k8, k9])), (a2, .inl (K 0, 476, .inl f_3)), (a3, .inl (K 0, 56, .inl f3)), (a4, .inl (K 0, 6, .inl f4))] := hD
  refine lv_aload_n hx hb dX2_draft_20 rfl (lv_at hl 1 rfl) ?_
  refine va_get (ci := 2) (v := .ref a2) (C := RX2) (T := TX2) (N := 3) hx hb hts hw2 hown hK hP 0 rfl rfl 0 (by decide) (hts (.fieldLink RX2 11 "SmokeTune$History" "slots" "[I") (List.mem_cons_of_mem _ (List.mem_append_left _ (List.mem_append_left _ (List.mem_of_getElem? (i := 1) rfl))))) (fun _ h9 => h9) rfl dX2_draft_21 ?_
  refine lv_iload_n hx hb dX2_draft_24 rfl (lv_at hl 0 rfl) ?_
  refine lv_iconst (v := 2) hx hb dX2_draft_25 (by decide) ?_
  refine lv_iadd hx hb dX2_draft_26 ?_
  refine lv_topi (fun x_4 ex_4 => ?_)
  obtain rfl : x_4 = 2 := ex_4.trans (by first | rfl | decide)
  refine lv_aload_n hx hb dX2_draft_27 rfl (lv_at hl 2 rfl) ?_
  refine va_getN (ci := 9) (v := .ref a4) (C := RX9) (T := TX9) (N := 10) hx hb hts hw9 hown hK hP 1 rfl rfl 2 (by decide) (nst_use hN 102 rfl) (fun _ h9 => h9) rfl dX2_draft_28 ?_
  refine lv_iconst (v := 0) hx hb dX2_draft_31 (by decide) ?_
  refine va_iald hx hb hK hP 4 0 rfl rfl (i_in (x := 0) rfl (by omega)) dX2_draft_32 ?_
  refine lv_topi (fun x_5 ex_5 => ?_)
  refine va_iast hx hb hK hP hD hS 2 0 rfl rfl (i_in (x := 2) rfl (by omega)) dX2_draft_33 (fun H locs hP hD hS => ?_)
  generalize hf_6 : (upd f_3 (2 : Int32).toNatClampNeg x_5) = f_6 at hP hD
  have hP : va_P D vwCl [(a0, .inr (2, [.ref a2, .int 0, g2])), (a1, .inr (9, [.ref a3, k1, .ref a4, k3, k4, k5, k6, .int 0, k8, k9])), (a2, .inl (K 0, 476, .inl f_6)), (a3, .inl (K 0, 56, .inl f3)), (a4, .inl (K 0, 6, .inl f4))] H := hP
  have hD : va_D A [(a0, .inr (2, [.ref a2, .int 0, g2])), (a1, .inr (9, [.ref a3, k1, .ref a4, k3, k4, k5, k6, .int 0, k8, k9])), (a2, .inl (K 0, 476, .inl f_6)), (a3, .inl (K 0, 56, .inl f3)), (a4, .inl (K 0, 6, .inl f4))] := hD
  refine lv_aload_n hx hb dX2_draft_34 rfl (lv_at hl 1 rfl) ?_
  refine va_get (ci := 2) (v := .ref a2) (C := RX2) (T := TX2) (N := 3) hx hb hts hw2 hown hK hP 0 rfl rfl 0 (by decide) (hts (.fieldLink RX2 11 "SmokeTune$History" "slots" "[I") (List.mem_cons_of_mem _ (List.mem_append_left _ (List.mem_append_left _ (List.mem_of_getElem? (i := 1) rfl))))) (fun _ h9 => h9) rfl dX2_draft_35 ?_
  refine lv_iload_n hx hb dX2_draft_38 rfl (lv_at hl 0 rfl) ?_
  refine lv_iconst (v := 3) hx hb dX2_draft_39 (by decide) ?_
  refine lv_iadd hx hb dX2_draft_40 ?_
  refine lv_topi (fun x_7 ex_7 => ?_)
  obtain rfl : x_7 = 3 := ex_7.trans (by first | rfl | decide)
  refine lv_aload_n hx hb dX2_draft_41 rfl (lv_at hl 2 rfl) ?_
  refine va_getN (ci := 9) (v := .ref a4) (C := RX9) (T := TX9) (N := 10) hx hb hts hw9 hown hK hP 1 rfl rfl 2 (by decide) (nst_use hN 102 rfl) (fun _ h9 => h9) rfl dX2_draft_42 ?_
  refine lv_iconst (v := 1) hx hb dX2_draft_45 (by decide) ?_
  refine va_iald hx hb hK hP 4 0 rfl rfl (i_in (x := 1) rfl (by omega)) dX2_draft_46 ?_
  refine lv_topi (fun x_8 ex_8 => ?_)
  refine va_iast hx hb hK hP hD hS 2 0 rfl rfl (i_in (x := 3) rfl (by omega)) dX2_draft_47 (fun H locs hP hD hS => ?_)
  generalize hf_9 : (upd f_6 (3 : Int32).toNatClampNeg x_8) = f_9 at hP hD
  have hP : va_P D vwCl [(a0, .inr (2, [.ref a2, .int 0, g2])), (a1, .inr (9, [.ref a3, k1, .ref a4, k3, k4, k5, k6, .int 0, k8, k9])), (a2, .inl (K 0, 476, .inl f_9)), (a3, .inl (K 0, 56, .inl f3)), (a4, .inl (K 0, 6, .inl f4))] H := hP
  have hD : va_D A [(a0, .inr (2, [.ref a2, .int 0, g2])), (a1, .inr (9, [.ref a3, k1, .ref a4, k3, k4, k5, k6, .int 0, k8, k9])), (a2, .inl (K 0, 476, .inl f_9)), (a3, .inl (K 0, 56, .inl f3)), (a4, .inl (K 0, 6, .inl f4))] := hD
  refine lv_iconst (v := 0) hx hb dX2_draft_48 (by decide) ?_
  refine lv_istore_n (lv' := [(3, .int 0), (2, .int 0), (0, .ref a0), (1, .ref a1)]) hx hb dX2_draft_49 rfl hl (by decide) rfl (fun ls hl => ?_)
  refine lv_iload_n hx hb dX2_draft_50 rfl (lv_at hl 0 rfl) ?_
  refine lv_iconst (v := 3) hx hb dX2_draft_51 (by decide) ?_
  refine lv_icmp_ge (tgt := 89) hx hb dX2_draft_52 (by decide) (fun c_10 => absurd c_10 (by decide)) (fun c_10 => ?_)
  refine lv_aload_n hx hb dX2_draft_55 rfl (lv_at hl 3 rfl) ?_
  refine va_getN (ci := 9) (v := .ref a3) (C := RX9) (T := TX9) (N := 10) hx hb hts hw9 hown hK hP 1 rfl rfl 0 (by decide) (nst_use hN 97 rfl) (fun _ h9 => h9) rfl dX2_draft_56 ?_
  refine lv_iload_n hx hb dX2_draft_59 rfl (lv_at hl 0 rfl) ?_
  refine pci (va_runS (As := [.int 0]) (rest := [.ref a3]) ⟨hx, hb, hml, hown, hts⟩ (c_changing_0 l D K H.size) (va_cwS 1 hts gX2_draft_X2_changing rfl rfl rfl (by decide +kernel) ⟨Nat.le_of_ble_eq_true rfl, Nat.le_of_ble_eq_true rfl⟩) (mkS hK hN (hP.sub [] rfl) (hD.sub [] (by decide) rfl)) rfl rfl hl.1 rfl (lv_room (Nat.le_of_ble_eq_true rfl)) dX2_draft_60 ⟨Nat.le_of_ble_eq_true rfl, Nat.le_of_ble_eq_true rfl⟩) (fun r_11 hw => ?_)
  obtain rfl : r_11 = 2 := hw
  refine lv_bipush (v := 8) hx hb dX2_draft_63 (by decide) ?_
  refine lv_imul hx hb dX2_draft_65 ?_
  refine lv_topi (fun x_12 ex_12 => ?_)
  obtain rfl : x_12 = 16 := ex_12.trans (by first | rfl | decide)
  refine lv_aload_n hx hb dX2_draft_66 rfl (lv_at hl 2 rfl) ?_
  refine va_get (ci := 2) (v := .ref a2) (C := RX2) (T := TX2) (N := 3) hx hb hts hw2 hown hK hP 0 rfl rfl 0 (by decide) (hts (.fieldLink RX2 11 "SmokeTune$History" "slots" "[I") (List.mem_cons_of_mem _ (List.mem_append_left _ (List.mem_append_left _ (List.mem_of_getElem? (i := 1) rfl))))) (fun _ h9 => h9) rfl dX2_draft_67 ?_
  refine lv_iload_n hx hb dX2_draft_70 rfl (lv_at hl 1 rfl) ?_
  refine lv_iconst (v := 4) hx hb dX2_draft_71 (by decide) ?_
  refine lv_iadd hx hb dX2_draft_72 ?_
  refine lv_topi (fun x_13 ex_13 => ?_)
  obtain rfl : x_13 = 4 := ex_13.trans (by first | rfl | decide)
  refine lv_iload_n hx hb dX2_draft_73 rfl (lv_at hl 0 rfl) ?_
  refine lv_bipush (v := 8) hx hb dX2_draft_74 (by decide) ?_
  refine lv_imul hx hb dX2_draft_76 ?_
  refine lv_topi (fun x_14 ex_14 => ?_)
  obtain rfl : x_14 = 0 := ex_14.trans (by first | rfl | decide)
  refine lv_iadd hx hb dX2_draft_77 ?_
  refine lv_topi (fun x_15 ex_15 => ?_)
  obtain rfl : x_15 = 4 := ex_15.trans (by first | rfl | decide)
  refine lv_bipush (v := 8) hx hb dX2_draft_78 (by decide) ?_
  refine va_copyi hx hb (hml.trans hl.1.symm) hown (hts (.methodLink RX2 22 arraycopyName) (List.mem_cons_of_mem _ (List.mem_append_left _ (List.mem_append_left _ (List.mem_of_getElem? (i := 2) rfl))))) (hts (.native arraycopyName) (List.mem_cons_of_mem _ (List.mem_append_left _ (List.mem_append_left _ (List.mem_of_getElem? (i := 3) rfl))))) (hts (.static arraycopyName) (List.mem_cons_of_mem _ (List.mem_append_left _ (List.mem_append_left _ (List.mem_of_getElem? (i := 4) rfl))))) (hts (.initialized "java/lang/System") (List.mem_cons_of_mem _ (List.mem_append_left _ (List.mem_append_left _ (List.mem_of_getElem? (i := 5) rfl))))) hK hP hD hS 3 2 0 0 rfl rfl rfl rfl rfl (by decide) (by decide) (by decide) (by decide) (by decide) (fun _ _ => rfl) (Nat.le_of_ble_eq_true rfl) (by decide +kernel) dX2_draft_80 (fun H locs hP hD hS => ?_)
  generalize hf_16 : (va_cpy f3 f_9 (16 : Int32).toNatClampNeg (4 : Int32).toNatClampNeg (8 : Int32).toNatClampNeg) = f_16 at hP hD
  have hP : va_P D vwCl [(a0, .inr (2, [.ref a2, .int 0, g2])), (a1, .inr (9, [.ref a3, k1, .ref a4, k3, k4, k5, k6, .int 0, k8, k9])), (a2, .inl (K 0, 476, .inl f_16)), (a3, .inl (K 0, 56, .inl f3)), (a4, .inl (K 0, 6, .inl f4))] H := hP
  have hD : va_D A [(a0, .inr (2, [.ref a2, .int 0, g2])), (a1, .inr (9, [.ref a3, k1, .ref a4, k3, k4, k5, k6, .int 0, k8, k9])), (a2, .inl (K 0, 476, .inl f_16)), (a3, .inl (K 0, 56, .inl f3)), (a4, .inl (K 0, 6, .inl f4))] := hD
  refine lv_iinc (v := 1) (lv' := [(3, .int 1), (2, .int 0), (0, .ref a0), (1, .ref a1)]) hx hb dX2_draft_83 hl (k := 0) rfl (by decide) (by decide) rfl (fun ls hl => ?_)
  refine lv_goto (tgt := 50) hx hb dX2_draft_86 (by decide) ?_
  refine lv_iload_n hx hb dX2_draft_50 rfl (lv_at hl 0 rfl) ?_
  refine lv_iconst (v := 3) hx hb dX2_draft_51 (by decide) ?_
  refine lv_icmp_ge (tgt := 89) hx hb dX2_draft_52 (by decide) (fun c_17 => absurd c_17 (by decide)) (fun c_17 => ?_)
  refine lv_aload_n hx hb dX2_draft_55 rfl (lv_at hl 3 rfl) ?_
  refine va_getN (ci := 9) (v := .ref a3) (C := RX9) (T := TX9) (N := 10) hx hb hts hw9 hown hK hP 1 rfl rfl 0 (by decide) (nst_use hN 97 rfl) (fun _ h9 => h9) rfl dX2_draft_56 ?_
  refine lv_iload_n hx hb dX2_draft_59 rfl (lv_at hl 0 rfl) ?_
  refine pci (va_runS (As := [.int 1]) (rest := [.ref a3]) ⟨hx, hb, hml, hown, hts⟩ (c_changing_1 l D K H.size) (va_cwS 1 hts gX2_draft_X2_changing rfl rfl rfl (by decide +kernel) ⟨Nat.le_of_ble_eq_true rfl, Nat.le_of_ble_eq_true rfl⟩) (mkS hK hN (hP.sub [] rfl) (hD.sub [] (by decide) rfl)) rfl rfl hl.1 rfl (lv_room (Nat.le_of_ble_eq_true rfl)) dX2_draft_60 ⟨Nat.le_of_ble_eq_true rfl, Nat.le_of_ble_eq_true rfl⟩) (fun r_18 hw => ?_)
  obtain rfl : r_18 = 5 := hw
  refine lv_bipush (v := 8) hx hb dX2_draft_63 (by decide) ?_
  refine lv_imul hx hb dX2_draft_65 ?_
  refine lv_topi (fun x_19 ex_19 => ?_)
  obtain rfl : x_19 = 40 := ex_19.trans (by first | rfl | decide)
  refine lv_aload_n hx hb dX2_draft_66 rfl (lv_at hl 2 rfl) ?_
  refine va_get (ci := 2) (v := .ref a2) (C := RX2) (T := TX2) (N := 3) hx hb hts hw2 hown hK hP 0 rfl rfl 0 (by decide) (hts (.fieldLink RX2 11 "SmokeTune$History" "slots" "[I") (List.mem_cons_of_mem _ (List.mem_append_left _ (List.mem_append_left _ (List.mem_of_getElem? (i := 1) rfl))))) (fun _ h9 => h9) rfl dX2_draft_67 ?_
  refine lv_iload_n hx hb dX2_draft_70 rfl (lv_at hl 1 rfl) ?_
  refine lv_iconst (v := 4) hx hb dX2_draft_71 (by decide) ?_
  refine lv_iadd hx hb dX2_draft_72 ?_
  refine lv_topi (fun x_20 ex_20 => ?_)
  obtain rfl : x_20 = 4 := ex_20.trans (by first | rfl | decide)
  refine lv_iload_n hx hb dX2_draft_73 rfl (lv_at hl 0 rfl) ?_
  refine lv_bipush (v := 8) hx hb dX2_draft_74 (by decide) ?_
  refine lv_imul hx hb dX2_draft_76 ?_
  refine lv_topi (fun x_21 ex_21 => ?_)
  obtain rfl : x_21 = 8 := ex_21.trans (by first | rfl | decide)
  refine lv_iadd hx hb dX2_draft_77 ?_
  refine lv_topi (fun x_22 ex_22 => ?_)
  obtain rfl : x_22 = 12 := ex_22.trans (by first | rfl | decide)
  refine lv_bipush (v := 8) hx hb dX2_draft_78 (by decide) ?_
  refine va_copyi hx hb (hml.trans hl.1.symm) hown (hts (.methodLink RX2 22 arraycopyName) (List.mem_cons_of_mem _ (List.mem_append_left _ (List.mem_append_left _ (List.mem_of_getElem? (i := 2) rfl))))) (hts (.native arraycopyName) (List.mem_cons_of_mem _ (List.mem_append_left _ (List.mem_append_left _ (List.mem_of_getElem? (i := 3) rfl))))) (hts (.static arraycopyName) (List.mem_cons_of_mem _ (List.mem_append_left _ (List.mem_append_left _ (List.mem_of_getElem? (i := 4) rfl))))) (hts (.initialized "java/lang/System") (List.mem_cons_of_mem _ (List.mem_append_left _ (List.mem_append_left _ (List.mem_of_getElem? (i := 5) rfl))))) hK hP hD hS 3 2 0 0 rfl rfl rfl rfl rfl (by decide) (by decide) (by decide) (by decide) (by decide) (fun _ _ => rfl) (Nat.le_of_ble_eq_true rfl) (by decide +kernel) dX2_draft_80 (fun H locs hP hD hS => ?_)
  generalize hf_23 : (va_cpy f3 f_16 (40 : Int32).toNatClampNeg (12 : Int32).toNatClampNeg (8 : Int32).toNatClampNeg) = f_23 at hP hD
  have hP : va_P D vwCl [(a0, .inr (2, [.ref a2, .int 0, g2])), (a1, .inr (9, [.ref a3, k1, .ref a4, k3, k4, k5, k6, .int 0, k8, k9])), (a2, .inl (K 0, 476, .inl f_23)), (a3, .inl (K 0, 56, .inl f3)), (a4, .inl (K 0, 6, .inl f4))] H := hP
  have hD : va_D A [(a0, .inr (2, [.ref a2, .int 0, g2])), (a1, .inr (9, [.ref a3, k1, .ref a4, k3, k4, k5, k6, .int 0, k8, k9])), (a2, .inl (K 0, 476, .inl f_23)), (a3, .inl (K 0, 56, .inl f3)), (a4, .inl (K 0, 6, .inl f4))] := hD
  refine lv_iinc (v := 2) (lv' := [(3, .int 2), (2, .int 0), (0, .ref a0), (1, .ref a1)]) hx hb dX2_draft_83 hl (k := 0) rfl (by decide) (by decide) rfl (fun ls hl => ?_)
  refine lv_goto (tgt := 50) hx hb dX2_draft_86 (by decide) ?_
  refine lv_iload_n hx hb dX2_draft_50 rfl (lv_at hl 0 rfl) ?_
  refine lv_iconst (v := 3) hx hb dX2_draft_51 (by decide) ?_
  refine lv_icmp_ge (tgt := 89) hx hb dX2_draft_52 (by decide) (fun c_24 => absurd c_24 (by decide)) (fun c_24 => ?_)
  refine lv_aload_n hx hb dX2_draft_55 rfl (lv_at hl 3 rfl) ?_
  refine va_getN (ci := 9) (v := .ref a3) (C := RX9) (T := TX9) (N := 10) hx hb hts hw9 hown hK hP 1 rfl rfl 0 (by decide) (nst_use hN 97 rfl) (fun _ h9 => h9) rfl dX2_draft_56 ?_
  refine lv_iload_n hx hb dX2_draft_59 rfl (lv_at hl 0 rfl) ?_
  refine pci (va_runS (As := [.int 2]) (rest := [.ref a3]) ⟨hx, hb, hml, hown, hts⟩ (c_changing_2 l D K H.size) (va_cwS 1 hts gX2_draft_X2_changing rfl rfl rfl (by decide +kernel) ⟨Nat.le_of_ble_eq_true rfl, Nat.le_of_ble_eq_true rfl⟩) (mkS hK hN (hP.sub [] rfl) (hD.sub [] (by decide) rfl)) rfl rfl hl.1 rfl (lv_room (Nat.le_of_ble_eq_true rfl)) dX2_draft_60 ⟨Nat.le_of_ble_eq_true rfl, Nat.le_of_ble_eq_true rfl⟩) (fun r_25 hw => ?_)
  obtain rfl : r_25 = 6 := hw
  refine lv_bipush (v := 8) hx hb dX2_draft_63 (by decide) ?_
  refine lv_imul hx hb dX2_draft_65 ?_
  refine lv_topi (fun x_26 ex_26 => ?_)
  obtain rfl : x_26 = 48 := ex_26.trans (by first | rfl | decide)
  refine lv_aload_n hx hb dX2_draft_66 rfl (lv_at hl 2 rfl) ?_
  refine va_get (ci := 2) (v := .ref a2) (C := RX2) (T := TX2) (N := 3) hx hb hts hw2 hown hK hP 0 rfl rfl 0 (by decide) (hts (.fieldLink RX2 11 "SmokeTune$History" "slots" "[I") (List.mem_cons_of_mem _ (List.mem_append_left _ (List.mem_append_left _ (List.mem_of_getElem? (i := 1) rfl))))) (fun _ h9 => h9) rfl dX2_draft_67 ?_
  refine lv_iload_n hx hb dX2_draft_70 rfl (lv_at hl 1 rfl) ?_
  refine lv_iconst (v := 4) hx hb dX2_draft_71 (by decide) ?_
  refine lv_iadd hx hb dX2_draft_72 ?_
  refine lv_topi (fun x_27 ex_27 => ?_)
  obtain rfl : x_27 = 4 := ex_27.trans (by first | rfl | decide)
  refine lv_iload_n hx hb dX2_draft_73 rfl (lv_at hl 0 rfl) ?_
  refine lv_bipush (v := 8) hx hb dX2_draft_74 (by decide) ?_
  refine lv_imul hx hb dX2_draft_76 ?_
  refine lv_topi (fun x_28 ex_28 => ?_)
  obtain rfl : x_28 = 16 := ex_28.trans (by first | rfl | decide)
  refine lv_iadd hx hb dX2_draft_77 ?_
  refine lv_topi (fun x_29 ex_29 => ?_)
  obtain rfl : x_29 = 20 := ex_29.trans (by first | rfl | decide)
  refine lv_bipush (v := 8) hx hb dX2_draft_78 (by decide) ?_
  refine va_copyi hx hb (hml.trans hl.1.symm) hown (hts (.methodLink RX2 22 arraycopyName) (List.mem_cons_of_mem _ (List.mem_append_left _ (List.mem_append_left _ (List.mem_of_getElem? (i := 2) rfl))))) (hts (.native arraycopyName) (List.mem_cons_of_mem _ (List.mem_append_left _ (List.mem_append_left _ (List.mem_of_getElem? (i := 3) rfl))))) (hts (.static arraycopyName) (List.mem_cons_of_mem _ (List.mem_append_left _ (List.mem_append_left _ (List.mem_of_getElem? (i := 4) rfl))))) (hts (.initialized "java/lang/System") (List.mem_cons_of_mem _ (List.mem_append_left _ (List.mem_append_left _ (List.mem_of_getElem? (i := 5) rfl))))) hK hP hD hS 3 2 0 0 rfl rfl rfl rfl rfl (by decide) (by decide) (by decide) (by decide) (by decide) (fun _ _ => rfl) (Nat.le_of_ble_eq_true rfl) (by decide +kernel) dX2_draft_80 (fun H locs hP hD hS => ?_)
  generalize hf_30 : (va_cpy f3 f_23 (48 : Int32).toNatClampNeg (20 : Int32).toNatClampNeg (8 : Int32).toNatClampNeg) = f_30 at hP hD
  have hP : va_P D vwCl [(a0, .inr (2, [.ref a2, .int 0, g2])), (a1, .inr (9, [.ref a3, k1, .ref a4, k3, k4, k5, k6, .int 0, k8, k9])), (a2, .inl (K 0, 476, .inl f_30)), (a3, .inl (K 0, 56, .inl f3)), (a4, .inl (K 0, 6, .inl f4))] H := hP
  have hD : va_D A [(a0, .inr (2, [.ref a2, .int 0, g2])), (a1, .inr (9, [.ref a3, k1, .ref a4, k3, k4, k5, k6, .int 0, k8, k9])), (a2, .inl (K 0, 476, .inl f_30)), (a3, .inl (K 0, 56, .inl f3)), (a4, .inl (K 0, 6, .inl f4))] := hD
  refine lv_iinc (v := 3) (lv' := [(3, .int 3), (2, .int 0), (0, .ref a0), (1, .ref a1)]) hx hb dX2_draft_83 hl (k := 0) rfl (by decide) (by decide) rfl (fun ls hl => ?_)
  refine lv_goto (tgt := 50) hx hb dX2_draft_86 (by decide) ?_
  refine lv_iload_n hx hb dX2_draft_50 rfl (lv_at hl 0 rfl) ?_
  refine lv_iconst (v := 3) hx hb dX2_draft_51 (by decide) ?_
  refine lv_icmp_ge (tgt := 89) hx hb dX2_draft_52 (by decide) (fun c_31 => ?_) (fun c_31 => absurd (by decide) c_31)
  have hP9 := hP.sub (ws' := [(a0, .inr (2, [.ref a2, .int 0, g2])), (a1, .inr (9, [.ref a3, k1, .ref a4, k3, k4, k5, k6, .int 0, k8, k9])), (a2, .inl (K 0, 476, .inl f_30)), (a3, .inl (K 0, 56, .inl f3)), (a4, .inl (K 0, 6, .inl f4))]) [0, 1, 2, 3, 4] rfl
  have hD9 := hD.sub (ws' := [(a0, .inr (2, [.ref a2, .int 0, g2])), (a1, .inr (9, [.ref a3, k1, .ref a4, k3, k4, k5, k6, .int 0, k8, k9])), (a2, .inl (K 0, 476, .inl f_30)), (a3, .inl (K 0, 56, .inl f3)), (a4, .inl (K 0, 6, .inl f4))]) [0, 1, 2, 3, 4] (by decide) rfl
  exact W.vret hx hb hr (fun t ht hW => ⟨⟨(fun _ => 0, fun i => match i with | _ => f_30, fun _ => fun _ => 0, fun _ => 0), rfl, trivial, (⟨by rw [ht]; exact hP9, hD9⟩ : Wd D A _ t)⟩, hS.F ht⟩) hS.2.2 dX2_draft_89
set_option maxHeartbeats 4000000 in
set_option maxRecDepth 100000 in
theorem c_kindle (l : Launch) (D : va_G) (K : Nat → ClassId) (a0 : Nat) (a1 : Nat) (x : Int32) (g0 : Value) (k0 : Value) (k1 : Value) (k2 : Value) (k3 : Value) (k5 : Value) (k6 : Value) (k7 : Value) (k8 : Value) (k9 : Value) (sz : Nat) : Met l yX10_kindle wsX10_kindle ({ frames := 1, cells := 0, slots := 0, locals := 21 }) (va_Pc [.ref a0, .ref a1, .int x] (Pre D K [(a0, .inr (10, [g0])), (a1, .inr (9, [k0, k1, k2, k3, .int 0, k5, k6, k7, k8, k9]))] sz)) (vp_Si (fun r : Int32 => (r = (-2)))) 0 0 (fun _ => False) := by
  refine Met.ofW (cc := cX10_kindle) (maxL := 6) (ret := (some .int)) (by decide) rfl ?_
  intro p e s m args below meth c s₁ B hml hv
  obtain ⟨rfl, hsz, hP, hK, hD0, hN⟩ := hv
  have hx := B.exec
  have hb := B.bytes
  have hr := B.returns
  have hts := atoms_spec (ws := wsX10_kindle) B.pre
  have hown : s.vm.findClass RX10 = some m.cls := findClass_of_methodNamed B.named
  have hlocks := B.notSynchronized
  subst hsz
  have hD := hD0
  have hP : va_P D vwCl [(a0, .inr (10, [g0])), (a1, .inr (9, [k0, k1, k2, k3, .int 0, k5, k6, k7, k8, k9]))] s.heap := hP
  have hl := lv_entry [.ref a0, .ref a1, .int x] (n := 6) (Nat.le_of_ble_eq_true rfl)
  rw [lg_entry_eq]
  generalize (lg_sl [.ref a0, .ref a1, .int x] ++ List.replicate (6 - (lg_sl [.ref a0, .ref a1, .int x]).length) Slot.unset).toArray = ls at hl ⊢
  have hl : lv_has ls 6 [(0, .ref a0), (1, .ref a1), (2, .int x)] := hl
  have hw0 : ∀ w ∈ wsX00, w ∈ wsX10_kindle := fun w h => (List.mem_cons_of_mem _ (List.mem_append_left _ (List.mem_append_left _ (List.mem_append_right _ h))))
  have hw3 : ∀ w ∈ wsX30, w ∈ wsX10_kindle := fun w h => (List.mem_cons_of_mem _ (List.mem_append_right _ h))
  have hw7 : ∀ w ∈ wsX70, w ∈ wsX10_kindle := fun w h => (List.mem_cons_of_mem _ (List.mem_append_left _ (List.mem_append_right _ h)))
  have hw9 : ∀ w ∈ wsX90, w ∈ wsX10_kindle := fun w h => (List.mem_cons_of_mem _ (List.mem_append_left _ (List.mem_append_left _ (List.mem_append_left _ (List.mem_append_right _ h)))))
  have hw10 : ∀ w ∈ wsX100, w ∈ wsX10_kindle := fun w h => (List.mem_cons_of_mem _ (List.mem_append_left _ (List.mem_append_left _ (List.mem_append_left _ (List.mem_append_left _ (List.mem_append_right _ h))))))
  refine lv_aload_n hx hb dX10_kindle_0 rfl (lv_at hl 1 rfl) ?_
  refine lv_iload_n hx hb dX10_kindle_1 rfl (lv_at hl 2 rfl) ?_
  refine pci (va_runVN (As := [.int x]) (rest := []) ⟨hx, hb, hml, hown, hts⟩ (c_has l D K a1 x k0 k1 k2 k3 k5 k6 k7 k8 k9 s.heap.size) ⟨va_cnB 1 hts gX10_kindle_X9_has_n18 rfl rfl rfl (nst_at hN 50 rfl) (hts (.initialized RX9) (List.mem_cons_of_mem _ (List.mem_append_left _ (List.mem_append_left _ (List.mem_append_left _ (List.mem_append_left _ (List.mem_append_left _ (List.mem_append_left _ (List.mem_of_getElem? (i := 6) rfl))))))))) (by decide +kernel) ⟨Nat.le_of_ble_eq_true rfl, Nat.le_of_ble_eq_true rfl⟩, (hts (.instanceMethod yX9_has) (List.mem_cons_of_mem _ (List.mem_append_left _ (List.mem_append_left _ (List.mem_append_left _ (List.mem_append_left _ (List.mem_append_left _ (List.mem_append_left _ (List.mem_of_getElem? (i := 5) rfl))))))))), (hts (.selects RX9 yX9_has yX9_has) (List.mem_cons_of_mem _ (List.mem_append_left _ (List.mem_append_left _ (List.mem_append_left _ (List.mem_append_left _ (List.mem_append_left _ (List.mem_append_left _ (List.mem_of_getElem? (i := 7) rfl)))))))))⟩ (mkV hK hN (hP.sub [1] rfl) (hD.sub [1] (by decide) rfl) (ci := 9) (q0 := 0) rfl rfl) rfl rfl hl.1 rfl (lv_room (Nat.le_of_ble_eq_true rfl)) dX10_kindle_2 ⟨Nat.le_of_ble_eq_true rfl, Nat.le_of_ble_eq_true rfl⟩) (fun r_1 hw => ?_)
  obtain rfl : r_1 = 0 := hw
  refine lv_if_ne (tgt := 11) hx hb dX10_kindle_5 (by decide) (fun c_2 => absurd c_2 (by decide)) (fun c_2 => ?_)
  refine lv_bipush (v := (-2)) hx hb dX10_kindle_8 (by decide) ?_
  exact W.iret (v := (-2)) hx hb hr (fun t ht hW => ⟨_, rfl, (by first | exact rfl), ht⟩) (fun q hq => by cases hq) dX10_kindle_10
set_option maxHeartbeats 4000000 in
set_option maxRecDepth 100000 in
theorem c_quench (l : Launch) (D : va_G) (K : Nat → ClassId) (a0 : Nat) (a1 : Nat) (x : Int32) (y : Int32) (g0 : Value) (k0 : Value) (k1 : Value) (k2 : Value) (k3 : Value) (k5 : Value) (k6 : Value) (k7 : Value) (k8 : Value) (k9 : Value) (Y : Int) (sz : Nat) (hy : y.toInt = Y) : Met l yX10_quench wsX10_quench ({ frames := 1, cells := 0, slots := 0, locals := 22 }) (va_Pc [.ref a0, .ref a1, .int x, .int y] (Pre D K [(a0, .inr (10, [g0])), (a1, .inr (9, [k0, k1, k2, k3, .int 0, k5, k6, k7, k8, k9]))] sz)) (vp_Si (fun r : Int32 => (r = (-2) ∧ 1 ≤ Y ∧ Y ≤ 20) ∨ (r = (-1) ∧ (Y < 1 ∨ 20 < Y)))) 0 0 (fun _ => False) := by
  refine Met.ofW (cc := cX10_quench) (maxL := 5) (ret := (some .int)) (by decide) rfl ?_
  intro p e s m args below meth c s₁ B hml hv
  obtain ⟨rfl, hsz, hP, hK, hD0, hN⟩ := hv
  have hx := B.exec
  have hb := B.bytes
  have hr := B.returns
  have hts := atoms_spec (ws := wsX10_quench) B.pre
  have hown : s.vm.findClass RX10 = some m.cls := findClass_of_methodNamed B.named
  have hlocks := B.notSynchronized
  subst hsz
  have hD := hD0
  have hP : va_P D vwCl [(a0, .inr (10, [g0])), (a1, .inr (9, [k0, k1, k2, k3, .int 0, k5, k6, k7, k8, k9]))] s.heap := hP
  have hl := lv_entry [.ref a0, .ref a1, .int x, .int y] (n := 5) (Nat.le_of_ble_eq_true rfl)
  rw [lg_entry_eq]
  generalize (lg_sl [.ref a0, .ref a1, .int x, .int y] ++ List.replicate (5 - (lg_sl [.ref a0, .ref a1, .int x, .int y]).length) Slot.unset).toArray = ls at hl ⊢
  have hl : lv_has ls 5 [(0, .ref a0), (1, .ref a1), (2, .int x), (3, .int y)] := hl
  have hw9 : ∀ w ∈ wsX90, w ∈ wsX10_quench := fun w h => (List.mem_cons_of_mem _ (List.mem_append_right _ h))
  refine lv_iload_n hx hb dX10_quench_0 rfl (lv_at hl 3 rfl) ?_
  refine lv_iconst (v := 1) hx hb dX10_quench_1 (by decide) ?_
  refine lv_bipush (v := 20) hx hb dX10_quench_2 (by decide) ?_
  refine pci (va_runSN (As := [.int y, .int 1, .int 20]) (rest := []) ⟨hx, hb, hml, hown, hts⟩ (c_within l D K y 1 20 Y 1 20 s.heap.size hy rfl rfl) ⟨va_cnB 3 hts gX10_quench_X11_within_n49 rfl rfl rfl (nst_at hN 57 rfl) (hts (.initialized RX11) (List.mem_cons_of_mem _ (List.mem_append_left _ (List.mem_of_getElem? (i := 5) rfl)))) (by decide +kernel) ⟨Nat.le_of_ble_eq_true rfl, Nat.le_of_ble_eq_true rfl⟩, (hts (.static yX11_within) (List.mem_cons_of_mem _ (List.mem_append_left _ (List.mem_of_getElem? (i := 4) rfl)))), trivial⟩ (mkS hK hN (hP.sub [] rfl) (hD.sub [] (by decide) rfl)) rfl rfl hl.1 rfl (lv_room (Nat.le_of_ble_eq_true rfl)) dX10_quench_4 ⟨Nat.le_of_ble_eq_true rfl, Nat.le_of_ble_eq_true rfl⟩) (fun r_1 hw => ?_)
  rcases hw with ⟨rfl, h_2, h_3⟩ | ⟨rfl, h_4⟩
  · refine lv_if_ne (tgt := 12) hx hb dX10_quench_7 (by decide) (fun c_5 => ?_) (fun c_5 => absurd (by decide) c_5)
    refine lv_aload_n hx hb dX10_quench_12 rfl (lv_at hl 1 rfl) ?_
    refine lv_iload_n hx hb dX10_quench_13 rfl (lv_at hl 2 rfl) ?_
    refine pci (va_runVN (As := [.int x]) (rest := []) ⟨hx, hb, hml, hown, hts⟩ (c_has l D K a1 x k0 k1 k2 k3 k5 k6 k7 k8 k9 s.heap.size) ⟨va_cnB 1 hts gX10_quench_X9_has_n18 rfl rfl rfl (nst_at hN 50 rfl) (hts (.initialized RX9) (List.mem_cons_of_mem _ (List.mem_append_left _ (List.mem_of_getElem? (i := 8) rfl)))) (by decide +kernel) ⟨Nat.le_of_ble_eq_true rfl, Nat.le_of_ble_eq_true rfl⟩, (hts (.instanceMethod yX9_has) (List.mem_cons_of_mem _ (List.mem_append_left _ (List.mem_of_getElem? (i := 7) rfl)))), (hts (.selects RX9 yX9_has yX9_has) (List.mem_cons_of_mem _ (List.mem_append_left _ (List.mem_of_getElem? (i := 9) rfl))))⟩ (mkV hK hN (hP.sub [1] rfl) (hD.sub [1] (by decide) rfl) (ci := 9) (q0 := 0) rfl rfl) rfl rfl hl.1 rfl (lv_room (Nat.le_of_ble_eq_true rfl)) dX10_quench_14 ⟨Nat.le_of_ble_eq_true rfl, Nat.le_of_ble_eq_true rfl⟩) (fun r_6 hw => ?_)
    obtain rfl : r_6 = 0 := hw
    refine lv_if_ne (tgt := 23) hx hb dX10_quench_17 (by decide) (fun c_7 => absurd c_7 (by decide)) (fun c_7 => ?_)
    refine lv_bipush (v := (-2)) hx hb dX10_quench_20 (by decide) ?_
    exact W.iret (v := (-2)) hx hb hr (fun t ht hW => ⟨_, rfl, (by first | exact Or.inl (⟨rfl, by first | omega | decide | (subst_vars; assumption), by first | omega | decide | (subst_vars; assumption)⟩)), ht⟩) (fun q hq => by cases hq) dX10_quench_22
  · refine lv_if_ne (tgt := 12) hx hb dX10_quench_7 (by decide) (fun c_8 => absurd c_8 (by decide)) (fun c_8 => ?_)
    refine lv_iconst (v := (-1)) hx hb dX10_quench_10 (by decide) ?_
    exact W.iret (v := (-1)) hx hb hr (fun t ht hW => ⟨_, rfl, (by first | exact Or.inr (⟨rfl, by first | omega | decide | (subst_vars; assumption)⟩)), ht⟩) (fun q hq => by cases hq) dX10_quench_11
set_option maxHeartbeats 4000000 in
set_option maxRecDepth 100000 in
theorem c_supply (l : Launch) (D : va_G) (K : Nat → ClassId) (a0 : Nat) (a1 : Nat) (x : Int32) (y : Int32) (g0 : Value) (k0 : Value) (k1 : Value) (k2 : Value) (k3 : Value) (k5 : Value) (k6 : Value) (k7 : Value) (k8 : Value) (k9 : Value) (Y : Int) (sz : Nat) (hy : y.toInt = Y) : Met l yX10_supply wsX10_supply ({ frames := 1, cells := 0, slots := 0, locals := 22 }) (va_Pc [.ref a0, .ref a1, .int x, .int y] (Pre D K [(a0, .inr (10, [g0])), (a1, .inr (9, [k0, k1, k2, k3, .int 0, k5, k6, k7, k8, k9]))] sz)) (vp_Si (fun r : Int32 => (r = (-2) ∧ 1 ≤ Y ∧ Y ≤ 999) ∨ (r = (-1) ∧ (Y < 1 ∨ 999 < Y)))) 0 0 (fun _ => False) := by
  refine Met.ofW (cc := cX10_supply) (maxL := 5) (ret := (some .int)) (by decide) rfl ?_
  intro p e s m args below meth c s₁ B hml hv
  obtain ⟨rfl, hsz, hP, hK, hD0, hN⟩ := hv
  have hx := B.exec
  have hb := B.bytes
  have hr := B.returns
  have hts := atoms_spec (ws := wsX10_supply) B.pre
  have hown : s.vm.findClass RX10 = some m.cls := findClass_of_methodNamed B.named
  have hlocks := B.notSynchronized
  subst hsz
  have hD := hD0
  have hP : va_P D vwCl [(a0, .inr (10, [g0])), (a1, .inr (9, [k0, k1, k2, k3, .int 0, k5, k6, k7, k8, k9]))] s.heap := hP
  have hl := lv_entry [.ref a0, .ref a1, .int x, .int y] (n := 5) (Nat.le_of_ble_eq_true rfl)
  rw [lg_entry_eq]
  generalize (lg_sl [.ref a0, .ref a1, .int x, .int y] ++ List.replicate (5 - (lg_sl [.ref a0, .ref a1, .int x, .int y]).length) Slot.unset).toArray = ls at hl ⊢
  have hl : lv_has ls 5 [(0, .ref a0), (1, .ref a1), (2, .int x), (3, .int y)] := hl
  have hw9 : ∀ w ∈ wsX90, w ∈ wsX10_supply := fun w h => (List.mem_cons_of_mem _ (List.mem_append_right _ h))
  refine lv_iload_n hx hb dX10_supply_0 rfl (lv_at hl 3 rfl) ?_
  refine lv_iconst (v := 1) hx hb dX10_supply_1 (by decide) ?_
  refine lv_sipush (v := 999) hx hb dX10_supply_2 (by decide) ?_
  refine pci (va_runSN (As := [.int y, .int 1, .int 999]) (rest := []) ⟨hx, hb, hml, hown, hts⟩ (c_within l D K y 1 999 Y 1 999 s.heap.size hy rfl rfl) ⟨va_cnB 3 hts gX10_supply_X11_within_n49 rfl rfl rfl (nst_at hN 57 rfl) (hts (.initialized RX11) (List.mem_cons_of_mem _ (List.mem_append_left _ (List.mem_of_getElem? (i := 5) rfl)))) (by decide +kernel) ⟨Nat.le_of_ble_eq_true rfl, Nat.le_of_ble_eq_true rfl⟩, (hts (.static yX11_within) (List.mem_cons_of_mem _ (List.mem_append_left _ (List.mem_of_getElem? (i := 4) rfl)))), trivial⟩ (mkS hK hN (hP.sub [] rfl) (hD.sub [] (by decide) rfl)) rfl rfl hl.1 rfl (lv_room (Nat.le_of_ble_eq_true rfl)) dX10_supply_5 ⟨Nat.le_of_ble_eq_true rfl, Nat.le_of_ble_eq_true rfl⟩) (fun r_1 hw => ?_)
  rcases hw with ⟨rfl, h_2, h_3⟩ | ⟨rfl, h_4⟩
  · refine lv_if_ne (tgt := 13) hx hb dX10_supply_8 (by decide) (fun c_5 => ?_) (fun c_5 => absurd (by decide) c_5)
    refine lv_aload_n hx hb dX10_supply_13 rfl (lv_at hl 1 rfl) ?_
    refine lv_iload_n hx hb dX10_supply_14 rfl (lv_at hl 2 rfl) ?_
    refine pci (va_runVN (As := [.int x]) (rest := []) ⟨hx, hb, hml, hown, hts⟩ (c_has l D K a1 x k0 k1 k2 k3 k5 k6 k7 k8 k9 s.heap.size) ⟨va_cnB 1 hts gX10_supply_X9_has_n18 rfl rfl rfl (nst_at hN 50 rfl) (hts (.initialized RX9) (List.mem_cons_of_mem _ (List.mem_append_left _ (List.mem_of_getElem? (i := 8) rfl)))) (by decide +kernel) ⟨Nat.le_of_ble_eq_true rfl, Nat.le_of_ble_eq_true rfl⟩, (hts (.instanceMethod yX9_has) (List.mem_cons_of_mem _ (List.mem_append_left _ (List.mem_of_getElem? (i := 7) rfl)))), (hts (.selects RX9 yX9_has yX9_has) (List.mem_cons_of_mem _ (List.mem_append_left _ (List.mem_of_getElem? (i := 9) rfl))))⟩ (mkV hK hN (hP.sub [1] rfl) (hD.sub [1] (by decide) rfl) (ci := 9) (q0 := 0) rfl rfl) rfl rfl hl.1 rfl (lv_room (Nat.le_of_ble_eq_true rfl)) dX10_supply_15 ⟨Nat.le_of_ble_eq_true rfl, Nat.le_of_ble_eq_true rfl⟩) (fun r_6 hw => ?_)
    obtain rfl : r_6 = 0 := hw
    refine lv_if_ne (tgt := 24) hx hb dX10_supply_18 (by decide) (fun c_7 => absurd c_7 (by decide)) (fun c_7 => ?_)
    refine lv_bipush (v := (-2)) hx hb dX10_supply_21 (by decide) ?_
    exact W.iret (v := (-2)) hx hb hr (fun t ht hW => ⟨_, rfl, (by first | exact Or.inl (⟨rfl, by first | omega | decide | (subst_vars; assumption), by first | omega | decide | (subst_vars; assumption)⟩)), ht⟩) (fun q hq => by cases hq) dX10_supply_23
  · refine lv_if_ne (tgt := 13) hx hb dX10_supply_8 (by decide) (fun c_8 => absurd c_8 (by decide)) (fun c_8 => ?_)
    refine lv_iconst (v := (-1)) hx hb dX10_supply_11 (by decide) ?_
    exact W.iret (v := (-1)) hx hb hr (fun t ht hW => ⟨_, rfl, (by first | exact Or.inr (⟨rfl, by first | omega | decide | (subst_vars; assumption)⟩)), ht⟩) (fun q hq => by cases hq) dX10_supply_12
set_option maxHeartbeats 4000000 in
set_option maxRecDepth 100000 in
theorem c_settle_1 (l : Launch) (D : va_G) (K : Nat → ClassId) (a0 : Nat) (kd : Int32) (g0 : Value) (g1 : Value) (g2 : Value) (g3 : Value) (g4 : Value) (g5 : Value) (g6 : Value) (g7 : Value) (g8 : Value) (g9 : Value) (g10 : Value) (g11 : Value) (a1 : Nat) (g13 : Value) (g14 : Value) (g15 : Value) (g16 : Value) (f : Nat → Int32) (sz : Nat) : Met l yX11_settle wsX11_settle ({ frames := 2, cells := 0, slots := 0, locals := 44 }) (va_Pc [.ref a0, .int kd, .int (-1)] (Pre D K [(a0, .inr (11, [g0, g1, g2, g3, g4, g5, g6, g7, g8, g9, g10, g11, .ref a1, g13, g14, g15, g16])), (a1, .inl (K 0, 5, .inl f))] sz)) (va_Qi (S := Unit) (fun (r : Int32) (_ : Unit) => (r = (-1))) (fun u t => Wd D (va_A [(a0, .inr (11, [g0, g1, g2, g3, g4, g5, g6, g7, g8, g9, g10, g11, .ref a1, g13, g14, g15, g16])), (a1, .inl (K 0, 5, .inl f))] sz) ((fun _ => []) u) t) (va_A [(a0, .inr (11, [g0, g1, g2, g3, g4, g5, g6, g7, g8, g9, g10, g11, .ref a1, g13, g14, g15, g16])), (a1, .inl (K 0, 5, .inl f))] sz)) 0 0 (va_A [(a0, .inr (11, [g0, g1, g2, g3, g4, g5, g6, g7, g8, g9, g10, g11, .ref a1, g13, g14, g15, g16])), (a1, .inl (K 0, 5, .inl f))] sz) := by
  refine Met.ofW (cc := cX11_settle) (maxL := 3) (ret := (some .int)) (by decide) rfl ?_
  intro p e s m args below meth c s₁ B hml hv
  obtain ⟨rfl, hsz, hP, hK, hD0, hN⟩ := hv
  have hx := B.exec
  have hb := B.bytes
  have hr := B.returns
  have hts := atoms_spec (ws := wsX11_settle) B.pre
  have hown : s.vm.findClass RX11 = some m.cls := findClass_of_methodNamed B.named
  have hlocks := B.notSynchronized
  subst hsz
  have hD := hD0.self (sz := s.heap.size)
  generalize hAe : va_A [(a0, .inr (11, [g0, g1, g2, g3, g4, g5, g6, g7, g8, g9, g10, g11, .ref a1, g13, g14, g15, g16])), (a1, .inl (K 0, 5, .inl f))] s.heap.size = A at hD ⊢
  have hA : ∀ q : Nat, s.heap.size ≤ q → A q := fun q h => by rw [← hAe]; exact Or.inr h
  have hS : va_S A s.heap s.heap [] := va_S.rf
  have hP : va_P D vwCl [(a0, .inr (11, [g0, g1, g2, g3, g4, g5, g6, g7, g8, g9, g10, g11, .ref a1, g13, g14, g15, g16])), (a1, .inl (K 0, 5, .inl f))] s.heap := hP
  have hl := lv_entry [.ref a0, .int kd, .int (-1)] (n := 3) (Nat.le_of_ble_eq_true rfl)
  rw [lg_entry_eq]
  generalize (lg_sl [.ref a0, .int kd, .int (-1)] ++ List.replicate (3 - (lg_sl [.ref a0, .int kd, .int (-1)]).length) Slot.unset).toArray = ls at hl ⊢
  have hl : lv_has ls 3 [(0, .ref a0), (1, .int kd), (2, .int (-1))] := hl
  have hw2 : ∀ w ∈ wsX20, w ∈ wsX11_settle := fun w h => (List.mem_cons_of_mem _ (List.mem_append_right _ h))
  have hw11 : ∀ w ∈ wsX110, w ∈ wsX11_settle := fun w h => (List.mem_cons_of_mem _ (List.mem_append_left _ (List.mem_append_right _ h)))
  refine lv_iload_n hx hb dX11_settle_0 rfl (lv_at hl 2 rfl) ?_
  refine lv_if_ge (tgt := 10) hx hb dX11_settle_1 (by decide) (fun c_1 => absurd c_1 (by decide)) (fun c_1 => ?_)
  refine lv_aload_n hx hb dX11_settle_4 rfl (lv_at hl 0 rfl) ?_
  refine lv_iload_n hx hb dX11_settle_5 rfl (lv_at hl 2 rfl) ?_
  refine kci (wr := []) (va_runV (As := [.int (-1)]) (rest := []) ⟨hx, hb, hml, hown, hts⟩ (c_refuse_1 l D K a0 g0 g1 g2 g3 g4 g5 g6 g7 g8 g9 g10 g11 a1 g13 g14 g15 g16 f s.heap.size) (cwV 1 hts gX11_settle_X11_refuse rfl rfl rfl (by decide +kernel) ⟨Nat.le_of_ble_eq_true rfl, Nat.le_of_ble_eq_true rfl⟩) (mkV hK hN (hP.sub [0, 1] rfl) (hD.sub [0, 1] (by decide) rfl) (ci := 11) (q0 := 0) rfl rfl) rfl rfl hl.1 rfl (lv_room (Nat.le_of_ble_eq_true rfl)) dX11_settle_6 ⟨Nat.le_of_ble_eq_true rfl, Nat.le_of_ble_eq_true rfl⟩) hP hD hS hA [0, 1] [] rfl rfl (by decide) (by decide) (fun r_2 u_3 H locs hw hP hD hS => ?_)
  have hP : va_P D vwCl [] H := hP
  have hD : va_D A [] := hD
  obtain rfl : r_2 = (-1) := hw
  exact W.iret (v := (-1)) hx hb hr (fun t ht hW => ⟨⟨(-1), (), rfl, (by first | exact rfl), Wd.nil⟩, hS.F ht⟩) hS.2.2 dX11_settle_9
set_option maxHeartbeats 4000000 in
set_option maxRecDepth 100000 in
theorem c_settle_2 (l : Launch) (D : va_G) (K : Nat → ClassId) (a0 : Nat) (kd : Int32) (g0 : Value) (g1 : Value) (g2 : Value) (g3 : Value) (g4 : Value) (g5 : Value) (g6 : Value) (g7 : Value) (g8 : Value) (g9 : Value) (g10 : Value) (g11 : Value) (a1 : Nat) (g13 : Value) (g14 : Value) (g15 : Value) (g16 : Value) (f : Nat → Int32) (sz : Nat) : Met l yX11_settle wsX11_settle ({ frames := 2, cells := 0, slots := 0, locals := 44 }) (va_Pc [.ref a0, .int kd, .int (-2)] (Pre D K [(a0, .inr (11, [g0, g1, g2, g3, g4, g5, g6, g7, g8, g9, g10, g11, .ref a1, g13, g14, g15, g16])), (a1, .inl (K 0, 5, .inl f))] sz)) (va_Qi (S := Unit) (fun (r : Int32) (_ : Unit) => (r = (-2))) (fun u t => Wd D (va_A [(a0, .inr (11, [g0, g1, g2, g3, g4, g5, g6, g7, g8, g9, g10, g11, .ref a1, g13, g14, g15, g16])), (a1, .inl (K 0, 5, .inl f))] sz) ((fun _ => []) u) t) (va_A [(a0, .inr (11, [g0, g1, g2, g3, g4, g5, g6, g7, g8, g9, g10, g11, .ref a1, g13, g14, g15, g16])), (a1, .inl (K 0, 5, .inl f))] sz)) 0 0 (va_A [(a0, .inr (11, [g0, g1, g2, g3, g4, g5, g6, g7, g8, g9, g10, g11, .ref a1, g13, g14, g15, g16])), (a1, .inl (K 0, 5, .inl f))] sz) := by
  refine Met.ofW (cc := cX11_settle) (maxL := 3) (ret := (some .int)) (by decide) rfl ?_
  intro p e s m args below meth c s₁ B hml hv
  obtain ⟨rfl, hsz, hP, hK, hD0, hN⟩ := hv
  have hx := B.exec
  have hb := B.bytes
  have hr := B.returns
  have hts := atoms_spec (ws := wsX11_settle) B.pre
  have hown : s.vm.findClass RX11 = some m.cls := findClass_of_methodNamed B.named
  have hlocks := B.notSynchronized
  subst hsz
  have hD := hD0.self (sz := s.heap.size)
  generalize hAe : va_A [(a0, .inr (11, [g0, g1, g2, g3, g4, g5, g6, g7, g8, g9, g10, g11, .ref a1, g13, g14, g15, g16])), (a1, .inl (K 0, 5, .inl f))] s.heap.size = A at hD ⊢
  have hA : ∀ q : Nat, s.heap.size ≤ q → A q := fun q h => by rw [← hAe]; exact Or.inr h
  have hS : va_S A s.heap s.heap [] := va_S.rf
  have hP : va_P D vwCl [(a0, .inr (11, [g0, g1, g2, g3, g4, g5, g6, g7, g8, g9, g10, g11, .ref a1, g13, g14, g15, g16])), (a1, .inl (K 0, 5, .inl f))] s.heap := hP
  have hl := lv_entry [.ref a0, .int kd, .int (-2)] (n := 3) (Nat.le_of_ble_eq_true rfl)
  rw [lg_entry_eq]
  generalize (lg_sl [.ref a0, .int kd, .int (-2)] ++ List.replicate (3 - (lg_sl [.ref a0, .int kd, .int (-2)]).length) Slot.unset).toArray = ls at hl ⊢
  have hl : lv_has ls 3 [(0, .ref a0), (1, .int kd), (2, .int (-2))] := hl
  have hw2 : ∀ w ∈ wsX20, w ∈ wsX11_settle := fun w h => (List.mem_cons_of_mem _ (List.mem_append_right _ h))
  have hw11 : ∀ w ∈ wsX110, w ∈ wsX11_settle := fun w h => (List.mem_cons_of_mem _ (List.mem_append_left _ (List.mem_append_right _ h)))
  refine lv_iload_n hx hb dX11_settle_0 rfl (lv_at hl 2 rfl) ?_
  refine lv_if_ge (tgt := 10) hx hb dX11_settle_1 (by decide) (fun c_1 => absurd c_1 (by decide)) (fun c_1 => ?_)
  refine lv_aload_n hx hb dX11_settle_4 rfl (lv_at hl 0 rfl) ?_
  refine lv_iload_n hx hb dX11_settle_5 rfl (lv_at hl 2 rfl) ?_
  refine kci (wr := []) (va_runV (As := [.int (-2)]) (rest := []) ⟨hx, hb, hml, hown, hts⟩ (c_refuse_2 l D K a0 g0 g1 g2 g3 g4 g5 g6 g7 g8 g9 g10 g11 a1 g13 g14 g15 g16 f s.heap.size) (cwV 1 hts gX11_settle_X11_refuse rfl rfl rfl (by decide +kernel) ⟨Nat.le_of_ble_eq_true rfl, Nat.le_of_ble_eq_true rfl⟩) (mkV hK hN (hP.sub [0, 1] rfl) (hD.sub [0, 1] (by decide) rfl) (ci := 11) (q0 := 0) rfl rfl) rfl rfl hl.1 rfl (lv_room (Nat.le_of_ble_eq_true rfl)) dX11_settle_6 ⟨Nat.le_of_ble_eq_true rfl, Nat.le_of_ble_eq_true rfl⟩) hP hD hS hA [0, 1] [] rfl rfl (by decide) (by decide) (fun r_2 u_3 H locs hw hP hD hS => ?_)
  have hP : va_P D vwCl [] H := hP
  have hD : va_D A [] := hD
  obtain rfl : r_2 = (-2) := hw
  exact W.iret (v := (-2)) hx hb hr (fun t ht hW => ⟨⟨(-2), (), rfl, (by first | exact rfl), Wd.nil⟩, hS.F ht⟩) hS.2.2 dX11_settle_9
set_option maxHeartbeats 4000000 in
set_option maxRecDepth 100000 in
theorem c_keep (l : Launch) (D : va_G) (K : Nat → ClassId) (a0 : Nat) (x : Int32) (a2 : Nat) (f : Nat → Int32) (sz : Nat) : Met l yX2_keep wsX2_keep ({ frames := 1, cells := 0, slots := 0, locals := 14 }) (va_Pc [.ref a0, .int x] (Pre D K [(a0, .inr (2, [.ref a2, .int 0, .int 0])), (a2, .inl (K 0, 476, .inl f))] sz)) (va_Qv (S := Unit) (fun _ => True) (fun u t => Wd D (va_A [(a0, .inr (2, [.ref a2, .int 0, .int 0])), (a2, .inl (K 0, 476, .inl f))] sz) ((fun _ => []) u) t) (va_A [(a0, .inr (2, [.ref a2, .int 0, .int 0])), (a2, .inl (K 0, 476, .inl f))] sz)) 0 0 (va_A [(a0, .inr (2, [.ref a2, .int 0, .int 0])), (a2, .inl (K 0, 476, .inl f))] sz) := by
  refine Met.ofW (cc := cX2_keep) (maxL := 2) (ret := none) (by decide) rfl ?_
  intro p e s m args below meth c s₁ B hml hv
  obtain ⟨rfl, hsz, hP, hK, hD0, hN⟩ := hv
  have hx := B.exec
  have hb := B.bytes
  have hr := B.returns
  have hts := atoms_spec (ws := wsX2_keep) B.pre
  have hown : s.vm.findClass RX2 = some m.cls := findClass_of_methodNamed B.named
  have hlocks := B.notSynchronized
  subst hsz
  have hD := hD0.self (sz := s.heap.size)
  generalize hAe : va_A [(a0, .inr (2, [.ref a2, .int 0, .int 0])), (a2, .inl (K 0, 476, .inl f))] s.heap.size = A at hD ⊢
  have hA : ∀ q : Nat, s.heap.size ≤ q → A q := fun q h => by rw [← hAe]; exact Or.inr h
  have hS : va_S A s.heap s.heap [] := va_S.rf
  have hP : va_P D vwCl [(a0, .inr (2, [.ref a2, .int 0, .int 0])), (a2, .inl (K 0, 476, .inl f))] s.heap := hP
  have hl := lv_entry [.ref a0, .int x] (n := 2) (Nat.le_of_ble_eq_true rfl)
  rw [lg_entry_eq]
  generalize (lg_sl [.ref a0, .int x] ++ List.replicate (2 - (lg_sl [.ref a0, .int x]).length) Slot.unset).toArray = ls at hl ⊢
  have hl : lv_has ls 2 [(0, .ref a0), (1, .int x)] := hl
  have hw2 : ∀ w ∈ wsX20, w ∈ wsX2_keep := fun w h => (List.mem_cons_of_mem _ (List.mem_append_right _ h))
  refine lv_aload_n hx hb dX2_keep_0 rfl (lv_at hl 0 rfl) ?_
  refine va_get (ci := 2) (v := .ref a2) (C := RX2) (T := TX2) (N := 3) hx hb hts hw2 hown hK hP 0 rfl rfl 0 (by decide) (hts (.fieldLink RX2 11 "SmokeTune$History" "slots" "[I") (List.mem_cons_of_mem _ (List.mem_append_left _ (List.mem_of_getElem? (i := 0) rfl)))) (fun _ h9 => h9) rfl dX2_keep_1 ?_
  refine lv_aload_n hx hb dX2_keep_4 rfl (lv_at hl 0 rfl) ?_
  refine va_get (ci := 2) (v := .int 0) (C := RX2) (T := TX2) (N := 3) hx hb hts hw2 hown hK hP 0 rfl rfl 1 (by decide) (hts (.fieldLink RX2 15 "SmokeTune$History" "drafted" "I") (List.mem_cons_of_mem _ (List.mem_append_left _ (List.mem_of_getElem? (i := 1) rfl)))) (fun _ h9 => h9) rfl dX2_keep_5 ?_
  refine lv_bipush (v := 28) hx hb dX2_keep_8 (by decide) ?_
  refine lv_imul hx hb dX2_keep_10 ?_
  refine lv_topi (fun x_1 ex_1 => ?_)
  obtain rfl : x_1 = 0 := ex_1.trans (by first | rfl | decide)
  refine lv_iload_n hx hb dX2_keep_11 rfl (lv_at hl 1 rfl) ?_
  refine va_iast hx hb hK hP hD hS 1 0 rfl rfl (i_in (x := 0) rfl (by omega)) dX2_keep_12 (fun H locs hP hD hS => ?_)
  generalize hf_2 : (upd f (0 : Int32).toNatClampNeg x) = f_2 at hP hD
  have hP : va_P D vwCl [(a0, .inr (2, [.ref a2, .int 0, .int 0])), (a2, .inl (K 0, 476, .inl f_2))] H := hP
  have hD : va_D A [(a0, .inr (2, [.ref a2, .int 0, .int 0])), (a2, .inl (K 0, 476, .inl f_2))] := hD
  refine lv_aload_n hx hb dX2_keep_13 rfl (lv_at hl 0 rfl) ?_
  refine lv_aload_n hx hb dX2_keep_14 rfl (lv_at hl 0 rfl) ?_
  refine va_get (ci := 2) (v := .int 0) (C := RX2) (T := TX2) (N := 3) hx hb hts hw2 hown hK hP 0 rfl rfl 1 (by decide) (hts (.fieldLink RX2 15 "SmokeTune$History" "drafted" "I") (List.mem_cons_of_mem _ (List.mem_append_left _ (List.mem_of_getElem? (i := 1) rfl)))) (fun _ h9 => h9) rfl dX2_keep_15 ?_
  refine lv_iconst (v := 1) hx hb dX2_keep_18 (by decide) ?_
  refine lv_iadd hx hb dX2_keep_19 ?_
  refine lv_topi (fun x_3 ex_3 => ?_)
  obtain rfl : x_3 = 1 := ex_3.trans (by first | rfl | decide)
  refine lv_bipush (v := 17) hx hb dX2_keep_20 (by decide) ?_
  refine lv_irem hx hb dX2_keep_22 (by decide) ?_
  refine lv_topi (fun x_4 ex_4 => ?_)
  obtain rfl : x_4 = 1 := ex_4.trans (by first | rfl | decide)
  refine va_put (ci := 2) (v := .int 1) (ty := .int) (C := RX2) (T := TX2) (N := 3) hx hb hts hw2 tyX2 tyX2_ok nmX2 hown hK hP hD hS 0 rfl rfl 1 (by decide) (hts (.fieldLink RX2 15 "SmokeTune$History" "drafted" "I") (List.mem_cons_of_mem _ (List.mem_append_left _ (List.mem_of_getElem? (i := 1) rfl)))) (fun _ h9 => h9) rfl (by decide +kernel) (by first | rfl | decide) (by first | rfl | decide) (Nat.le_of_ble_eq_true rfl) dX2_keep_23 (fun H locs hP hD hS => ?_)
  have hP : va_P D vwCl [(a0, .inr (2, [.ref a2, .int 1, .int 0])), (a2, .inl (K 0, 476, .inl f_2))] H := hP
  have hD : va_D A [(a0, .inr (2, [.ref a2, .int 1, .int 0])), (a2, .inl (K 0, 476, .inl f_2))] := hD
  refine lv_aload_n hx hb dX2_keep_26 rfl (lv_at hl 0 rfl) ?_
  refine lv_bipush (v := 16) hx hb dX2_keep_27 (by decide) ?_
  refine lv_aload_n hx hb dX2_keep_29 rfl (lv_at hl 0 rfl) ?_
  refine va_get (ci := 2) (v := .int 0) (C := RX2) (T := TX2) (N := 3) hx hb hts hw2 hown hK hP 0 rfl rfl 2 (by decide) (hts (.fieldLink RX2 19 "SmokeTune$History" "kept" "I") (List.mem_cons_of_mem _ (List.mem_append_left _ (List.mem_of_getElem? (i := 2) rfl)))) (fun _ h9 => h9) rfl dX2_keep_30 ?_
  refine lv_iconst (v := 1) hx hb dX2_keep_33 (by decide) ?_
  refine lv_iadd hx hb dX2_keep_34 ?_
  refine lv_topi (fun x_5 ex_5 => ?_)
  obtain rfl : x_5 = 1 := ex_5.trans (by first | rfl | decide)
  refine va_mmin hx hb (hml.trans hl.1.symm) hown (hts (.methodLink RX2 43 Lib.Math.min.name) (List.mem_cons_of_mem _ (List.mem_append_left _ (List.mem_of_getElem? (i := 3) rfl)))) (hts (.static Lib.Math.min.name) (List.mem_cons_of_mem _ (List.mem_append_left _ (List.mem_of_getElem? (i := 4) rfl)))) (hts (.initialized "java/lang/Math") (List.mem_cons_of_mem _ (List.mem_append_left _ (List.mem_of_getElem? (i := 5) rfl)))) (hts (.code Lib.Math.min.name Lib.Math.min.code 2 (some .int)) (List.mem_cons_of_mem _ (List.mem_append_left _ (List.mem_of_getElem? (i := 6) rfl)))) (Nat.le_of_ble_eq_true rfl) (Nat.le_of_ble_eq_true rfl) (Nat.le_of_ble_eq_true rfl) (Nat.le_of_ble_eq_true rfl) dX2_keep_35 ?_
  refine lv_topi (fun x_6 ex_6 => ?_)
  obtain rfl : x_6 = 1 := ex_6.trans (by first | rfl | decide)
  refine va_put (ci := 2) (v := .int 1) (ty := .int) (C := RX2) (T := TX2) (N := 3) hx hb hts hw2 tyX2 tyX2_ok nmX2 hown hK hP hD hS 0 rfl rfl 2 (by decide) (hts (.fieldLink RX2 19 "SmokeTune$History" "kept" "I") (List.mem_cons_of_mem _ (List.mem_append_left _ (List.mem_of_getElem? (i := 2) rfl)))) (fun _ h9 => h9) rfl (by decide +kernel) (by first | rfl | decide) (by first | rfl | decide) (Nat.le_of_ble_eq_true rfl) dX2_keep_38 (fun H locs hP hD hS => ?_)
  have hP : va_P D vwCl [(a0, .inr (2, [.ref a2, .int 1, .int 1])), (a2, .inl (K 0, 476, .inl f_2))] H := hP
  have hD : va_D A [(a0, .inr (2, [.ref a2, .int 1, .int 1])), (a2, .inl (K 0, 476, .inl f_2))] := hD
  exact W.vret hx hb hr (fun t ht hW => ⟨⟨(), rfl, trivial, Wd.nil⟩, hS.F ht⟩) hS.2.2 dX2_keep_41
set_option maxHeartbeats 4000000 in
set_option maxRecDepth 100000 in
theorem c_settle_pass (l : Launch) (D : va_G) (K : Nat → ClassId) (a0 : Nat) (g0 : Value) (g1 : Value) (g2 : Value) (g3 : Value) (g4 : Value) (g5 : Value) (g6 : Value) (g7 : Value) (g8 : Value) (a3 : Nat) (g10 : Value) (g11 : Value) (g12 : Value) (g13 : Value) (g14 : Value) (g15 : Value) (g16 : Value) (a4 : Nat) (f : Nat → Int32) (sz : Nat) : Met l yX11_settle wsX11_settle ({ frames := 2, cells := 0, slots := 0, locals := 35 }) (va_Pc [.ref a0, .int 3, .int 1] (Pre D K [(a0, .inr (11, [g0, g1, g2, g3, g4, g5, g6, g7, g8, .ref a3, g10, g11, g12, g13, g14, g15, g16])), (a3, .inr (2, [.ref a4, .int 0, .int 0])), (a4, .inl (K 0, 476, .inl f))] sz)) (va_Qi (S := Unit) (fun (r : Int32) (_ : Unit) => (r = 1)) (fun u t => Wd D (va_A [(a0, .inr (11, [g0, g1, g2, g3, g4, g5, g6, g7, g8, .ref a3, g10, g11, g12, g13, g14, g15, g16])), (a3, .inr (2, [.ref a4, .int 0, .int 0])), (a4, .inl (K 0, 476, .inl f))] sz) ((fun _ => []) u) t) (va_A [(a0, .inr (11, [g0, g1, g2, g3, g4, g5, g6, g7, g8, .ref a3, g10, g11, g12, g13, g14, g15, g16])), (a3, .inr (2, [.ref a4, .int 0, .int 0])), (a4, .inl (K 0, 476, .inl f))] sz)) 0 0 (va_A [(a0, .inr (11, [g0, g1, g2, g3, g4, g5, g6, g7, g8, .ref a3, g10, g11, g12, g13, g14, g15, g16])), (a3, .inr (2, [.ref a4, .int 0, .int 0])), (a4, .inl (K 0, 476, .inl f))] sz) := by
  refine Met.ofW (cc := cX11_settle) (maxL := 3) (ret := (some .int)) (by decide) rfl ?_
  intro p e s m args below meth c s₁ B hml hv
  obtain ⟨rfl, hsz, hP, hK, hD0, hN⟩ := hv
  have hx := B.exec
  have hb := B.bytes
  have hr := B.returns
  have hts := atoms_spec (ws := wsX11_settle) B.pre
  have hown : s.vm.findClass RX11 = some m.cls := findClass_of_methodNamed B.named
  have hlocks := B.notSynchronized
  subst hsz
  have hD := hD0.self (sz := s.heap.size)
  generalize hAe : va_A [(a0, .inr (11, [g0, g1, g2, g3, g4, g5, g6, g7, g8, .ref a3, g10, g11, g12, g13, g14, g15, g16])), (a3, .inr (2, [.ref a4, .int 0, .int 0])), (a4, .inl (K 0, 476, .inl f))] s.heap.size = A at hD ⊢
  have hA : ∀ q : Nat, s.heap.size ≤ q → A q := fun q h => by rw [← hAe]; exact Or.inr h
  have hS : va_S A s.heap s.heap [] := va_S.rf
  have hP : va_P D vwCl [(a0, .inr (11, [g0, g1, g2, g3, g4, g5, g6, g7, g8, .ref a3, g10, g11, g12, g13, g14, g15, g16])), (a3, .inr (2, [.ref a4, .int 0, .int 0])), (a4, .inl (K 0, 476, .inl f))] s.heap := hP
  have hl := lv_entry [.ref a0, .int 3, .int 1] (n := 3) (Nat.le_of_ble_eq_true rfl)
  rw [lg_entry_eq]
  generalize (lg_sl [.ref a0, .int 3, .int 1] ++ List.replicate (3 - (lg_sl [.ref a0, .int 3, .int 1]).length) Slot.unset).toArray = ls at hl ⊢
  have hl : lv_has ls 3 [(0, .ref a0), (1, .int 3), (2, .int 1)] := hl
  have hw2 : ∀ w ∈ wsX20, w ∈ wsX11_settle := fun w h => (List.mem_cons_of_mem _ (List.mem_append_right _ h))
  have hw11 : ∀ w ∈ wsX110, w ∈ wsX11_settle := fun w h => (List.mem_cons_of_mem _ (List.mem_append_left _ (List.mem_append_right _ h)))
  refine lv_iload_n hx hb dX11_settle_0 rfl (lv_at hl 2 rfl) ?_
  refine lv_if_ge (tgt := 10) hx hb dX11_settle_1 (by decide) (fun c_1 => ?_) (fun c_1 => absurd (by decide) c_1)
  refine lv_aload_n hx hb dX11_settle_10 rfl (lv_at hl 0 rfl) ?_
  refine va_get (ci := 11) (v := .ref a3) (C := RX11) (T := TX11) (N := 17) hx hb hts hw11 hown hK hP 0 rfl rfl 9 (by decide) (hts (.fieldLink RX11 61 "SmokeTune" "history" "LSmokeTune$History;") (List.mem_cons_of_mem _ (List.mem_append_left _ (List.mem_append_left _ (List.mem_append_left _ (List.mem_of_getElem? (i := 0) rfl)))))) (fun _ h9 => h9) rfl dX11_settle_11 ?_
  refine lv_iload_n hx hb dX11_settle_14 rfl (lv_at hl 1 rfl) ?_
  refine kcv (wr := [(a0, .inr (11, [g0, g1, g2, g3, g4, g5, g6, g7, g8, .ref a3, g10, g11, g12, g13, g14, g15, g16]))]) (va_runVN (As := [.int 3]) (rest := []) ⟨hx, hb, hml, hown, hts⟩ (c_keep l D K a3 3 a4 f s.heap.size) ⟨va_cnB 1 hts gX11_settle_X2_keep_n300 rfl rfl rfl (nst_at hN 71 rfl) (hts (.initialized RX2) (List.mem_cons_of_mem _ (List.mem_append_left _ (List.mem_append_left _ (List.mem_append_left _ (List.mem_of_getElem? (i := 12) rfl)))))) (by decide +kernel) ⟨Nat.le_of_ble_eq_true rfl, Nat.le_of_ble_eq_true rfl⟩, (hts (.instanceMethod yX2_keep) (List.mem_cons_of_mem _ (List.mem_append_left _ (List.mem_append_left _ (List.mem_append_left _ (List.mem_of_getElem? (i := 11) rfl)))))), (hts (.selects RX2 yX2_keep yX2_keep) (List.mem_cons_of_mem _ (List.mem_append_left _ (List.mem_append_left _ (List.mem_append_left _ (List.mem_of_getElem? (i := 13) rfl))))))⟩ (mkV hK hN (hP.sub [1, 2] rfl) (hD.sub [1, 2] (by decide) rfl) (ci := 2) (q0 := 0) rfl rfl) rfl rfl hl.1 rfl (lv_room (Nat.le_of_ble_eq_true rfl)) dX11_settle_15 ⟨Nat.le_of_ble_eq_true rfl, Nat.le_of_ble_eq_true rfl⟩) hP hD hS hA [1, 2] [0] rfl rfl (by decide) (by decide) (fun u_3 H locs hw hP hD hS => ?_)
  have hP : va_P D vwCl [(a0, .inr (11, [g0, g1, g2, g3, g4, g5, g6, g7, g8, .ref a3, g10, g11, g12, g13, g14, g15, g16]))] H := hP
  have hD : va_D A [(a0, .inr (11, [g0, g1, g2, g3, g4, g5, g6, g7, g8, .ref a3, g10, g11, g12, g13, g14, g15, g16]))] := hD
  refine lv_aload_n hx hb dX11_settle_18 rfl (lv_at hl 0 rfl) ?_
  refine lv_iload_n hx hb dX11_settle_19 rfl (lv_at hl 2 rfl) ?_
  refine kci (wr := []) (va_runV (As := [.int 1]) (rest := []) ⟨hx, hb, hml, hown, hts⟩ (c_accept l D K a0 1 g0 g1 g2 g3 g4 g5 g6 g7 g8 (.ref a3) g10 g11 g12 g13 g14 g15 g16 H.size) (cwV 1 hts gX11_settle_X11_accept rfl rfl rfl (by decide +kernel) ⟨Nat.le_of_ble_eq_true rfl, Nat.le_of_ble_eq_true rfl⟩) (mkV hK hN (hP.sub [0] rfl) (hD.sub [0] (by decide) rfl) (ci := 11) (q0 := 0) rfl rfl) rfl rfl hl.1 rfl (lv_room (Nat.le_of_ble_eq_true rfl)) dX11_settle_20 ⟨Nat.le_of_ble_eq_true rfl, Nat.le_of_ble_eq_true rfl⟩) hP hD hS hA [0] [] rfl rfl (by decide) (by decide) (fun r_4 u_5 H locs hw hP hD hS => ?_)
  have hP : va_P D vwCl [] H := hP
  have hD : va_D A [] := hD
  obtain rfl : r_4 = 1 := hw
  exact W.iret (v := 1) hx hb hr (fun t ht hW => ⟨⟨1, (), rfl, (by first | exact rfl), Wd.nil⟩, hS.F ht⟩) hS.2.2 dX11_settle_23
set_option maxHeartbeats 4000000 in
set_option maxRecDepth 100000 in
theorem t_stoke (l : Launch) (D : va_G) (K : Nat → ClassId) (a0 : Nat) (x : Int32) (a2 : Nat) (g1 : Value) (g2 : Value) (g3 : Value) (g4 : Value) (g5 : Value) (g6 : Value) (a8 : Nat) (g8 : Value) (a3 : Nat) (g10 : Value) (g11 : Value) (a1 : Nat) (g13 : Value) (g14 : Value) (g15 : Value) (g16 : Value) (f : Nat → Int32) (a5 : Nat) (a6 : Nat) (k1 : Value) (a7 : Nat) (k3 : Value) (k5 : Value) (k6 : Value) (k8 : Value) (k9 : Value) (r0 : Value) (sz : Nat) : Met l yX11_stoke wsX11_stoke ({ frames := 3, cells := 0, slots := 0, locals := 66 }) (va_Pc [.ref a0, .int x] (Pre D K [(a0, .inr (11, [.ref a2, g1, g2, g3, g4, g5, g6, .ref a8, g8, .ref a3, g10, g11, .ref a1, g13, g14, g15, g16])), (a1, .inl (K 0, 5, .inl f)), (a3, .inr (2, [.ref a5, .int 0, .int 0])), (a2, .inr (9, [.ref a6, k1, .ref a7, k3, .int 0, k5, k6, .int 0, k8, k9])), (a5, .inl (K 0, 476, .inl (fun _ => 0))), (a6, .inl (K 0, 56, .inl (fun _ => 0))), (a7, .inl (K 0, 6, .inl tm0)), (a8, .inr (10, [r0]))] sz)) (va_Qi (S := Unit) (fun (r : Int32) (_ : Unit) => (r = (-2))) (fun u t => Wd D (va_A [(a0, .inr (11, [.ref a2, g1, g2, g3, g4, g5, g6, .ref a8, g8, .ref a3, g10, g11, .ref a1, g13, g14, g15, g16])), (a1, .inl (K 0, 5, .inl f)), (a3, .inr (2, [.ref a5, .int 0, .int 0])), (a2, .inr (9, [.ref a6, k1, .ref a7, k3, .int 0, k5, k6, .int 0, k8, k9])), (a5, .inl (K 0, 476, .inl (fun _ => 0))), (a6, .inl (K 0, 56, .inl (fun _ => 0))), (a7, .inl (K 0, 6, .inl tm0)), (a8, .inr (10, [r0]))] sz) ((fun _ => []) u) t) (va_A [(a0, .inr (11, [.ref a2, g1, g2, g3, g4, g5, g6, .ref a8, g8, .ref a3, g10, g11, .ref a1, g13, g14, g15, g16])), (a1, .inl (K 0, 5, .inl f)), (a3, .inr (2, [.ref a5, .int 0, .int 0])), (a2, .inr (9, [.ref a6, k1, .ref a7, k3, .int 0, k5, k6, .int 0, k8, k9])), (a5, .inl (K 0, 476, .inl (fun _ => 0))), (a6, .inl (K 0, 56, .inl (fun _ => 0))), (a7, .inl (K 0, 6, .inl tm0)), (a8, .inr (10, [r0]))] sz)) 0 0 (va_A [(a0, .inr (11, [.ref a2, g1, g2, g3, g4, g5, g6, .ref a8, g8, .ref a3, g10, g11, .ref a1, g13, g14, g15, g16])), (a1, .inl (K 0, 5, .inl f)), (a3, .inr (2, [.ref a5, .int 0, .int 0])), (a2, .inr (9, [.ref a6, k1, .ref a7, k3, .int 0, k5, k6, .int 0, k8, k9])), (a5, .inl (K 0, 476, .inl (fun _ => 0))), (a6, .inl (K 0, 56, .inl (fun _ => 0))), (a7, .inl (K 0, 6, .inl tm0)), (a8, .inr (10, [r0]))] sz) := by
  refine Met.ofW (cc := cX11_stoke) (maxL := 2) (ret := (some .int)) (by decide) rfl ?_
  intro p e s m args below meth c s₁ B hml hv
  obtain ⟨rfl, hsz, hP, hK, hD0, hN⟩ := hv
  have hx := B.exec
  have hb := B.bytes
  have hr := B.returns
  have hts := atoms_spec (ws := wsX11_stoke) B.pre
  have hown : s.vm.findClass RX11 = some m.cls := findClass_of_methodNamed B.named
  have hlocks := B.notSynchronized
  subst hsz
  have hD := hD0.self (sz := s.heap.size)
  generalize hAe : va_A [(a0, .inr (11, [.ref a2, g1, g2, g3, g4, g5, g6, .ref a8, g8, .ref a3, g10, g11, .ref a1, g13, g14, g15, g16])), (a1, .inl (K 0, 5, .inl f)), (a3, .inr (2, [.ref a5, .int 0, .int 0])), (a2, .inr (9, [.ref a6, k1, .ref a7, k3, .int 0, k5, k6, .int 0, k8, k9])), (a5, .inl (K 0, 476, .inl (fun _ => 0))), (a6, .inl (K 0, 56, .inl (fun _ => 0))), (a7, .inl (K 0, 6, .inl tm0)), (a8, .inr (10, [r0]))] s.heap.size = A at hD ⊢
  have hA : ∀ q : Nat, s.heap.size ≤ q → A q := fun q h => by rw [← hAe]; exact Or.inr h
  have hS : va_S A s.heap s.heap [] := va_S.rf
  have hP : va_P D vwCl [(a0, .inr (11, [.ref a2, g1, g2, g3, g4, g5, g6, .ref a8, g8, .ref a3, g10, g11, .ref a1, g13, g14, g15, g16])), (a1, .inl (K 0, 5, .inl f)), (a3, .inr (2, [.ref a5, .int 0, .int 0])), (a2, .inr (9, [.ref a6, k1, .ref a7, k3, .int 0, k5, k6, .int 0, k8, k9])), (a5, .inl (K 0, 476, .inl (fun _ => 0))), (a6, .inl (K 0, 56, .inl (fun _ => 0))), (a7, .inl (K 0, 6, .inl tm0)), (a8, .inr (10, [r0]))] s.heap := hP
  have hl := lv_entry [.ref a0, .int x] (n := 2) (Nat.le_of_ble_eq_true rfl)
  rw [lg_entry_eq]
  generalize (lg_sl [.ref a0, .int x] ++ List.replicate (2 - (lg_sl [.ref a0, .int x]).length) Slot.unset).toArray = ls at hl ⊢
  have hl : lv_has ls 2 [(0, .ref a0), (1, .int x)] := hl
  have hw0 : ∀ w ∈ wsX00, w ∈ wsX11_stoke := fun w h => (List.mem_cons_of_mem _ (List.mem_append_left _ (List.mem_append_left _ (List.mem_append_right _ h))))
  have hw2 : ∀ w ∈ wsX20, w ∈ wsX11_stoke := fun w h => (List.mem_cons_of_mem _ (List.mem_append_left _ (List.mem_append_left _ (List.mem_append_left _ (List.mem_append_left _ (List.mem_append_left _ (List.mem_append_right _ h)))))))
  have hw3 : ∀ w ∈ wsX30, w ∈ wsX11_stoke := fun w h => (List.mem_cons_of_mem _ (List.mem_append_right _ h))
  have hw7 : ∀ w ∈ wsX70, w ∈ wsX11_stoke := fun w h => (List.mem_cons_of_mem _ (List.mem_append_left _ (List.mem_append_right _ h)))
  have hw9 : ∀ w ∈ wsX90, w ∈ wsX11_stoke := fun w h => (List.mem_cons_of_mem _ (List.mem_append_left _ (List.mem_append_left _ (List.mem_append_left _ (List.mem_append_left _ (List.mem_append_right _ h))))))
  have hw10 : ∀ w ∈ wsX100, w ∈ wsX11_stoke := fun w h => (List.mem_cons_of_mem _ (List.mem_append_left _ (List.mem_append_left _ (List.mem_append_left _ (List.mem_append_right _ h)))))
  have hw11 : ∀ w ∈ wsX110, w ∈ wsX11_stoke := fun w h => (List.mem_cons_of_mem _ (List.mem_append_left _ (List.mem_append_left _ (List.mem_append_left _ (List.mem_append_left _ (List.mem_append_left _ (List.mem_append_left _ (List.mem_append_right _ h))))))))
  refine lv_aload_n hx hb dX11_stoke_0 rfl (lv_at hl 0 rfl) ?_
  refine va_get (ci := 11) (v := .ref a3) (C := RX11) (T := TX11) (N := 17) hx hb hts hw11 hown hK hP 0 rfl rfl 9 (by decide) (hts (.fieldLink RX11 61 "SmokeTune" "history" "LSmokeTune$History;") (List.mem_cons_of_mem _ (List.mem_append_left _ (List.mem_append_left _ (List.mem_append_left _ (List.mem_append_left _ (List.mem_append_left _ (List.mem_append_left _ (List.mem_append_left _ (List.mem_append_left _ (List.mem_of_getElem? (i := 0) rfl))))))))))) (fun _ h9 => h9) rfl dX11_stoke_1 ?_
  refine lv_aload_n hx hb dX11_stoke_4 rfl (lv_at hl 0 rfl) ?_
  refine va_get (ci := 11) (v := .ref a2) (C := RX11) (T := TX11) (N := 17) hx hb hts hw11 hown hK hP 0 rfl rfl 0 (by decide) (hts (.fieldLink RX11 10 "SmokeTune" "town" "LSmokeTune$Town;") (List.mem_cons_of_mem _ (List.mem_append_left _ (List.mem_append_left _ (List.mem_append_left _ (List.mem_append_left _ (List.mem_append_left _ (List.mem_append_left _ (List.mem_append_left _ (List.mem_append_left _ (List.mem_of_getElem? (i := 1) rfl))))))))))) (fun _ h9 => h9) rfl dX11_stoke_5 ?_
  refine kcv (wr := [(a0, .inr (11, [.ref a2, g1, g2, g3, g4, g5, g6, .ref a8, g8, .ref a3, g10, g11, .ref a1, g13, g14, g15, g16])), (a1, .inl (K 0, 5, .inl f)), (a8, .inr (10, [r0]))]) (va_runVN (As := [.ref a2]) (rest := []) ⟨hx, hb, hml, hown, hts⟩ (c_draft l D K a3 a2 a5 (.int 0) a6 k1 a7 k3 (.int 0) k5 k6 k8 k9 (fun _ => 0) (fun _ => 0) tm0 s.heap.size) ⟨va_cnB 1 hts gX11_stoke_X2_draft_n221 rfl rfl rfl (nst_at hN 69 rfl) (hts (.initialized RX2) (List.mem_cons_of_mem _ (List.mem_append_left _ (List.mem_append_left _ (List.mem_append_left _ (List.mem_append_left _ (List.mem_append_left _ (List.mem_append_left _ (List.mem_append_left _ (List.mem_append_left _ (List.mem_of_getElem? (i := 4) rfl))))))))))) (by decide +kernel) ⟨Nat.le_of_ble_eq_true rfl, Nat.le_of_ble_eq_true rfl⟩, (hts (.instanceMethod yX2_draft) (List.mem_cons_of_mem _ (List.mem_append_left _ (List.mem_append_left _ (List.mem_append_left _ (List.mem_append_left _ (List.mem_append_left _ (List.mem_append_left _ (List.mem_append_left _ (List.mem_append_left _ (List.mem_of_getElem? (i := 3) rfl))))))))))), (hts (.selects RX2 yX2_draft yX2_draft) (List.mem_cons_of_mem _ (List.mem_append_left _ (List.mem_append_left _ (List.mem_append_left _ (List.mem_append_left _ (List.mem_append_left _ (List.mem_append_left _ (List.mem_append_left _ (List.mem_append_left _ (List.mem_of_getElem? (i := 5) rfl)))))))))))⟩ (mkV hK hN (hP.sub [2, 3, 4, 5, 6] rfl) (hD.sub [2, 3, 4, 5, 6] (by decide) rfl) (ci := 2) (q0 := 0) rfl rfl) rfl rfl hl.1 rfl (lv_room (Nat.le_of_ble_eq_true rfl)) dX11_stoke_8 ⟨Nat.le_of_ble_eq_true rfl, Nat.le_of_ble_eq_true rfl⟩) hP hD hS hA [2, 3, 4, 5, 6] [0, 1, 7] rfl rfl (by decide) (by decide) (fun u_2 H locs hw hP hD hS => ?_)
  have hP : va_P D vwCl [(a0, .inr (11, [.ref a2, g1, g2, g3, g4, g5, g6, .ref a8, g8, .ref a3, g10, g11, .ref a1, g13, g14, g15, g16])), (a1, .inl (K 0, 5, .inl f)), (a8, .inr (10, [r0])), (a3, .inr (2, [.ref a5, .int 0, .int 0])), (a2, .inr (9, [.ref a6, k1, .ref a7, k3, .int 0, k5, k6, .int 0, k8, k9])), (a5, .inl (K 0, 476, .inl ((u_2.2.1 0)))), (a6, .inl (K 0, 56, .inl (fun _ => 0))), (a7, .inl (K 0, 6, .inl tm0))] H := hP
  have hD : va_D A [(a0, .inr (11, [.ref a2, g1, g2, g3, g4, g5, g6, .ref a8, g8, .ref a3, g10, g11, .ref a1, g13, g14, g15, g16])), (a1, .inl (K 0, 5, .inl f)), (a8, .inr (10, [r0])), (a3, .inr (2, [.ref a5, .int 0, .int 0])), (a2, .inr (9, [.ref a6, k1, .ref a7, k3, .int 0, k5, k6, .int 0, k8, k9])), (a5, .inl (K 0, 476, .inl ((u_2.2.1 0)))), (a6, .inl (K 0, 56, .inl (fun _ => 0))), (a7, .inl (K 0, 6, .inl tm0))] := hD
  refine lv_aload_n hx hb dX11_stoke_11 rfl (lv_at hl 0 rfl) ?_
  refine lv_iconst (v := 0) hx hb dX11_stoke_12 (by decide) ?_
  refine lv_aload_n hx hb dX11_stoke_13 rfl (lv_at hl 0 rfl) ?_
  refine va_get (ci := 11) (v := .ref a8) (C := RX11) (T := TX11) (N := 17) hx hb hts hw11 hown hK hP 0 rfl rfl 7 (by decide) (hts (.fieldLink RX11 50 "SmokeTune" "works" "LSmokeTune$Works;") (List.mem_cons_of_mem _ (List.mem_append_left _ (List.mem_append_left _ (List.mem_append_left _ (List.mem_append_left _ (List.mem_append_left _ (List.mem_append_left _ (List.mem_append_left _ (List.mem_append_left _ (List.mem_of_getElem? (i := 2) rfl))))))))))) (fun _ h9 => h9) rfl dX11_stoke_14 ?_
  refine lv_aload_n hx hb dX11_stoke_17 rfl (lv_at hl 0 rfl) ?_
  refine va_get (ci := 11) (v := .ref a2) (C := RX11) (T := TX11) (N := 17) hx hb hts hw11 hown hK hP 0 rfl rfl 0 (by decide) (hts (.fieldLink RX11 10 "SmokeTune" "town" "LSmokeTune$Town;") (List.mem_cons_of_mem _ (List.mem_append_left _ (List.mem_append_left _ (List.mem_append_left _ (List.mem_append_left _ (List.mem_append_left _ (List.mem_append_left _ (List.mem_append_left _ (List.mem_append_left _ (List.mem_of_getElem? (i := 1) rfl))))))))))) (fun _ h9 => h9) rfl dX11_stoke_18 ?_
  refine lv_iload_n hx hb dX11_stoke_21 rfl (lv_at hl 1 rfl) ?_
  refine pci (va_runVN (As := [.ref a2, .int x]) (rest := [.int 0, .ref a0]) ⟨hx, hb, hml, hown, hts⟩ (c_kindle l D K a8 a2 x r0 (.ref a6) k1 (.ref a7) k3 k5 k6 (.int 0) k8 k9 H.size) ⟨va_cnB 2 hts gX11_stoke_X10_kindle_n225 rfl rfl rfl (nst_at hN 70 rfl) (hts (.initialized RX10) (List.mem_cons_of_mem _ (List.mem_append_left _ (List.mem_append_left _ (List.mem_append_left _ (List.mem_append_left _ (List.mem_append_left _ (List.mem_append_left _ (List.mem_append_left _ (List.mem_append_left _ (List.mem_of_getElem? (i := 17) rfl))))))))))) (by decide +kernel) ⟨Nat.le_of_ble_eq_true rfl, Nat.le_of_ble_eq_true rfl⟩, (hts (.instanceMethod yX10_kindle) (List.mem_cons_of_mem _ (List.mem_append_left _ (List.mem_append_left _ (List.mem_append_left _ (List.mem_append_left _ (List.mem_append_left _ (List.mem_append_left _ (List.mem_append_left _ (List.mem_append_left _ (List.mem_of_getElem? (i := 16) rfl))))))))))), (hts (.selects RX10 yX10_kindle yX10_kindle) (List.mem_cons_of_mem _ (List.mem_append_left _ (List.mem_append_left _ (List.mem_append_left _ (List.mem_append_left _ (List.mem_append_left _ (List.mem_append_left _ (List.mem_append_left _ (List.mem_append_left _ (List.mem_of_getElem? (i := 18) rfl)))))))))))⟩ (mkV hK hN (hP.sub [2, 4] rfl) (hD.sub [2, 4] (by decide) rfl) (ci := 10) (q0 := 0) rfl rfl) rfl rfl hl.1 rfl (lv_room (Nat.le_of_ble_eq_true rfl)) dX11_stoke_22 ⟨Nat.le_of_ble_eq_true rfl, Nat.le_of_ble_eq_true rfl⟩) (fun r_3 hw => ?_)
  obtain rfl : r_3 = (-2) := hw
  refine kci (wr := [(a8, .inr (10, [r0])), (a3, .inr (2, [.ref a5, .int 0, .int 0])), (a2, .inr (9, [.ref a6, k1, .ref a7, k3, .int 0, k5, k6, .int 0, k8, k9])), (a5, .inl (K 0, 476, .inl ((u_2.2.1 0)))), (a6, .inl (K 0, 56, .inl (fun _ => 0))), (a7, .inl (K 0, 6, .inl tm0))]) (va_runV (As := [.int 0, .int (-2)]) (rest := []) ⟨hx, hb, hml, hown, hts⟩ (c_settle_2 l D K a0 0 (.ref a2) g1 g2 g3 g4 g5 g6 (.ref a8) g8 (.ref a3) g10 g11 a1 g13 g14 g15 g16 f H.size) (cwV 2 hts gX11_stoke_X11_settle rfl rfl rfl (by decide +kernel) ⟨Nat.le_of_ble_eq_true rfl, Nat.le_of_ble_eq_true rfl⟩) (mkV hK hN (hP.sub [0, 1] rfl) (hD.sub [0, 1] (by decide) rfl) (ci := 11) (q0 := 0) rfl rfl) rfl rfl hl.1 rfl (lv_room (Nat.le_of_ble_eq_true rfl)) dX11_stoke_25 ⟨Nat.le_of_ble_eq_true rfl, Nat.le_of_ble_eq_true rfl⟩) hP hD hS hA [0, 1] [2, 3, 4, 5, 6, 7] rfl rfl (by decide) (by decide) (fun r_4 u_5 H locs hw hP hD hS => ?_)
  have hP : va_P D vwCl [(a8, .inr (10, [r0])), (a3, .inr (2, [.ref a5, .int 0, .int 0])), (a2, .inr (9, [.ref a6, k1, .ref a7, k3, .int 0, k5, k6, .int 0, k8, k9])), (a5, .inl (K 0, 476, .inl ((u_2.2.1 0)))), (a6, .inl (K 0, 56, .inl (fun _ => 0))), (a7, .inl (K 0, 6, .inl tm0))] H := hP
  have hD : va_D A [(a8, .inr (10, [r0])), (a3, .inr (2, [.ref a5, .int 0, .int 0])), (a2, .inr (9, [.ref a6, k1, .ref a7, k3, .int 0, k5, k6, .int 0, k8, k9])), (a5, .inl (K 0, 476, .inl ((u_2.2.1 0)))), (a6, .inl (K 0, 56, .inl (fun _ => 0))), (a7, .inl (K 0, 6, .inl tm0))] := hD
  obtain rfl : r_4 = (-2) := hw
  exact W.iret (v := (-2)) hx hb hr (fun t ht hW => ⟨⟨(-2), (), rfl, (by first | exact rfl), Wd.nil⟩, hS.F ht⟩) hS.2.2 dX11_stoke_28
set_option maxHeartbeats 4000000 in
set_option maxRecDepth 100000 in
theorem t_damp (l : Launch) (D : va_G) (K : Nat → ClassId) (a0 : Nat) (x : Int32) (y : Int32) (a2 : Nat) (g1 : Value) (g2 : Value) (g3 : Value) (g4 : Value) (g5 : Value) (g6 : Value) (a8 : Nat) (g8 : Value) (a3 : Nat) (g10 : Value) (g11 : Value) (a1 : Nat) (g13 : Value) (g14 : Value) (g15 : Value) (g16 : Value) (f : Nat → Int32) (a5 : Nat) (a6 : Nat) (k1 : Value) (a7 : Nat) (k3 : Value) (k5 : Value) (k6 : Value) (k8 : Value) (k9 : Value) (r0 : Value) (sz : Nat) : Met l yX11_damp wsX11_damp ({ frames := 3, cells := 0, slots := 0, locals := 66 }) (va_Pc [.ref a0, .int x, .int y] (Pre D K [(a0, .inr (11, [.ref a2, g1, g2, g3, g4, g5, g6, .ref a8, g8, .ref a3, g10, g11, .ref a1, g13, g14, g15, g16])), (a1, .inl (K 0, 5, .inl f)), (a3, .inr (2, [.ref a5, .int 0, .int 0])), (a2, .inr (9, [.ref a6, k1, .ref a7, k3, .int 0, k5, k6, .int 0, k8, k9])), (a5, .inl (K 0, 476, .inl (fun _ => 0))), (a6, .inl (K 0, 56, .inl (fun _ => 0))), (a7, .inl (K 0, 6, .inl tm0)), (a8, .inr (10, [r0]))] sz)) (va_Qi (S := Unit) (fun (r : Int32) (_ : Unit) => (r = (-2) ∧ 1 ≤ y.toInt ∧ y.toInt ≤ 20) ∨ (r = (-1) ∧ (y.toInt < 1 ∨ 20 < y.toInt))) (fun u t => Wd D (va_A [(a0, .inr (11, [.ref a2, g1, g2, g3, g4, g5, g6, .ref a8, g8, .ref a3, g10, g11, .ref a1, g13, g14, g15, g16])), (a1, .inl (K 0, 5, .inl f)), (a3, .inr (2, [.ref a5, .int 0, .int 0])), (a2, .inr (9, [.ref a6, k1, .ref a7, k3, .int 0, k5, k6, .int 0, k8, k9])), (a5, .inl (K 0, 476, .inl (fun _ => 0))), (a6, .inl (K 0, 56, .inl (fun _ => 0))), (a7, .inl (K 0, 6, .inl tm0)), (a8, .inr (10, [r0]))] sz) ((fun _ => []) u) t) (va_A [(a0, .inr (11, [.ref a2, g1, g2, g3, g4, g5, g6, .ref a8, g8, .ref a3, g10, g11, .ref a1, g13, g14, g15, g16])), (a1, .inl (K 0, 5, .inl f)), (a3, .inr (2, [.ref a5, .int 0, .int 0])), (a2, .inr (9, [.ref a6, k1, .ref a7, k3, .int 0, k5, k6, .int 0, k8, k9])), (a5, .inl (K 0, 476, .inl (fun _ => 0))), (a6, .inl (K 0, 56, .inl (fun _ => 0))), (a7, .inl (K 0, 6, .inl tm0)), (a8, .inr (10, [r0]))] sz)) 0 0 (va_A [(a0, .inr (11, [.ref a2, g1, g2, g3, g4, g5, g6, .ref a8, g8, .ref a3, g10, g11, .ref a1, g13, g14, g15, g16])), (a1, .inl (K 0, 5, .inl f)), (a3, .inr (2, [.ref a5, .int 0, .int 0])), (a2, .inr (9, [.ref a6, k1, .ref a7, k3, .int 0, k5, k6, .int 0, k8, k9])), (a5, .inl (K 0, 476, .inl (fun _ => 0))), (a6, .inl (K 0, 56, .inl (fun _ => 0))), (a7, .inl (K 0, 6, .inl tm0)), (a8, .inr (10, [r0]))] sz) := by
  refine Met.ofW (cc := cX11_damp) (maxL := 3) (ret := (some .int)) (by decide) rfl ?_
  intro p e s m args below meth c s₁ B hml hv
  obtain ⟨rfl, hsz, hP, hK, hD0, hN⟩ := hv
  have hx := B.exec
  have hb := B.bytes
  have hr := B.returns
  have hts := atoms_spec (ws := wsX11_damp) B.pre
  have hown : s.vm.findClass RX11 = some m.cls := findClass_of_methodNamed B.named
  have hlocks := B.notSynchronized
  subst hsz
  have hD := hD0.self (sz := s.heap.size)
  generalize hAe : va_A [(a0, .inr (11, [.ref a2, g1, g2, g3, g4, g5, g6, .ref a8, g8, .ref a3, g10, g11, .ref a1, g13, g14, g15, g16])), (a1, .inl (K 0, 5, .inl f)), (a3, .inr (2, [.ref a5, .int 0, .int 0])), (a2, .inr (9, [.ref a6, k1, .ref a7, k3, .int 0, k5, k6, .int 0, k8, k9])), (a5, .inl (K 0, 476, .inl (fun _ => 0))), (a6, .inl (K 0, 56, .inl (fun _ => 0))), (a7, .inl (K 0, 6, .inl tm0)), (a8, .inr (10, [r0]))] s.heap.size = A at hD ⊢
  have hA : ∀ q : Nat, s.heap.size ≤ q → A q := fun q h => by rw [← hAe]; exact Or.inr h
  have hS : va_S A s.heap s.heap [] := va_S.rf
  have hP : va_P D vwCl [(a0, .inr (11, [.ref a2, g1, g2, g3, g4, g5, g6, .ref a8, g8, .ref a3, g10, g11, .ref a1, g13, g14, g15, g16])), (a1, .inl (K 0, 5, .inl f)), (a3, .inr (2, [.ref a5, .int 0, .int 0])), (a2, .inr (9, [.ref a6, k1, .ref a7, k3, .int 0, k5, k6, .int 0, k8, k9])), (a5, .inl (K 0, 476, .inl (fun _ => 0))), (a6, .inl (K 0, 56, .inl (fun _ => 0))), (a7, .inl (K 0, 6, .inl tm0)), (a8, .inr (10, [r0]))] s.heap := hP
  have hl := lv_entry [.ref a0, .int x, .int y] (n := 3) (Nat.le_of_ble_eq_true rfl)
  rw [lg_entry_eq]
  generalize (lg_sl [.ref a0, .int x, .int y] ++ List.replicate (3 - (lg_sl [.ref a0, .int x, .int y]).length) Slot.unset).toArray = ls at hl ⊢
  have hl : lv_has ls 3 [(0, .ref a0), (1, .int x), (2, .int y)] := hl
  have hw2 : ∀ w ∈ wsX20, w ∈ wsX11_damp := fun w h => (List.mem_cons_of_mem _ (List.mem_append_left _ (List.mem_append_right _ h)))
  have hw9 : ∀ w ∈ wsX90, w ∈ wsX11_damp := fun w h => (List.mem_cons_of_mem _ (List.mem_append_right _ h))
  have hw11 : ∀ w ∈ wsX110, w ∈ wsX11_damp := fun w h => (List.mem_cons_of_mem _ (List.mem_append_left _ (List.mem_append_left _ (List.mem_append_right _ h))))
  refine lv_aload_n hx hb dX11_damp_0 rfl (lv_at hl 0 rfl) ?_
  refine va_get (ci := 11) (v := .ref a3) (C := RX11) (T := TX11) (N := 17) hx hb hts hw11 hown hK hP 0 rfl rfl 9 (by decide) (hts (.fieldLink RX11 61 "SmokeTune" "history" "LSmokeTune$History;") (List.mem_cons_of_mem _ (List.mem_append_left _ (List.mem_append_left _ (List.mem_append_left _ (List.mem_append_left _ (List.mem_of_getElem? (i := 0) rfl))))))) (fun _ h9 => h9) rfl dX11_damp_1 ?_
  refine lv_aload_n hx hb dX11_damp_4 rfl (lv_at hl 0 rfl) ?_
  refine va_get (ci := 11) (v := .ref a2) (C := RX11) (T := TX11) (N := 17) hx hb hts hw11 hown hK hP 0 rfl rfl 0 (by decide) (hts (.fieldLink RX11 10 "SmokeTune" "town" "LSmokeTune$Town;") (List.mem_cons_of_mem _ (List.mem_append_left _ (List.mem_append_left _ (List.mem_append_left _ (List.mem_append_left _ (List.mem_of_getElem? (i := 1) rfl))))))) (fun _ h9 => h9) rfl dX11_damp_5 ?_
  refine kcv (wr := [(a0, .inr (11, [.ref a2, g1, g2, g3, g4, g5, g6, .ref a8, g8, .ref a3, g10, g11, .ref a1, g13, g14, g15, g16])), (a1, .inl (K 0, 5, .inl f)), (a8, .inr (10, [r0]))]) (va_runVN (As := [.ref a2]) (rest := []) ⟨hx, hb, hml, hown, hts⟩ (c_draft l D K a3 a2 a5 (.int 0) a6 k1 a7 k3 (.int 0) k5 k6 k8 k9 (fun _ => 0) (fun _ => 0) tm0 s.heap.size) ⟨va_cnB 1 hts gX11_damp_X2_draft_n221 rfl rfl rfl (nst_at hN 69 rfl) (hts (.initialized RX2) (List.mem_cons_of_mem _ (List.mem_append_left _ (List.mem_append_left _ (List.mem_append_left _ (List.mem_append_left _ (List.mem_of_getElem? (i := 4) rfl))))))) (by decide +kernel) ⟨Nat.le_of_ble_eq_true rfl, Nat.le_of_ble_eq_true rfl⟩, (hts (.instanceMethod yX2_draft) (List.mem_cons_of_mem _ (List.mem_append_left _ (List.mem_append_left _ (List.mem_append_left _ (List.mem_append_left _ (List.mem_of_getElem? (i := 3) rfl))))))), (hts (.selects RX2 yX2_draft yX2_draft) (List.mem_cons_of_mem _ (List.mem_append_left _ (List.mem_append_left _ (List.mem_append_left _ (List.mem_append_left _ (List.mem_of_getElem? (i := 5) rfl)))))))⟩ (mkV hK hN (hP.sub [2, 3, 4, 5, 6] rfl) (hD.sub [2, 3, 4, 5, 6] (by decide) rfl) (ci := 2) (q0 := 0) rfl rfl) rfl rfl hl.1 rfl (lv_room (Nat.le_of_ble_eq_true rfl)) dX11_damp_8 ⟨Nat.le_of_ble_eq_true rfl, Nat.le_of_ble_eq_true rfl⟩) hP hD hS hA [2, 3, 4, 5, 6] [0, 1, 7] rfl rfl (by decide) (by decide) (fun u_2 H locs hw hP hD hS => ?_)
  have hP : va_P D vwCl [(a0, .inr (11, [.ref a2, g1, g2, g3, g4, g5, g6, .ref a8, g8, .ref a3, g10, g11, .ref a1, g13, g14, g15, g16])), (a1, .inl (K 0, 5, .inl f)), (a8, .inr (10, [r0])), (a3, .inr (2, [.ref a5, .int 0, .int 0])), (a2, .inr (9, [.ref a6, k1, .ref a7, k3, .int 0, k5, k6, .int 0, k8, k9])), (a5, .inl (K 0, 476, .inl ((u_2.2.1 0)))), (a6, .inl (K 0, 56, .inl (fun _ => 0))), (a7, .inl (K 0, 6, .inl tm0))] H := hP
  have hD : va_D A [(a0, .inr (11, [.ref a2, g1, g2, g3, g4, g5, g6, .ref a8, g8, .ref a3, g10, g11, .ref a1, g13, g14, g15, g16])), (a1, .inl (K 0, 5, .inl f)), (a8, .inr (10, [r0])), (a3, .inr (2, [.ref a5, .int 0, .int 0])), (a2, .inr (9, [.ref a6, k1, .ref a7, k3, .int 0, k5, k6, .int 0, k8, k9])), (a5, .inl (K 0, 476, .inl ((u_2.2.1 0)))), (a6, .inl (K 0, 56, .inl (fun _ => 0))), (a7, .inl (K 0, 6, .inl tm0))] := hD
  refine lv_aload_n hx hb dX11_damp_11 rfl (lv_at hl 0 rfl) ?_
  refine lv_iconst (v := 1) hx hb dX11_damp_12 (by decide) ?_
  refine lv_aload_n hx hb dX11_damp_13 rfl (lv_at hl 0 rfl) ?_
  refine va_get (ci := 11) (v := .ref a8) (C := RX11) (T := TX11) (N := 17) hx hb hts hw11 hown hK hP 0 rfl rfl 7 (by decide) (hts (.fieldLink RX11 50 "SmokeTune" "works" "LSmokeTune$Works;") (List.mem_cons_of_mem _ (List.mem_append_left _ (List.mem_append_left _ (List.mem_append_left _ (List.mem_append_left _ (List.mem_of_getElem? (i := 2) rfl))))))) (fun _ h9 => h9) rfl dX11_damp_14 ?_
  refine lv_aload_n hx hb dX11_damp_17 rfl (lv_at hl 0 rfl) ?_
  refine va_get (ci := 11) (v := .ref a2) (C := RX11) (T := TX11) (N := 17) hx hb hts hw11 hown hK hP 0 rfl rfl 0 (by decide) (hts (.fieldLink RX11 10 "SmokeTune" "town" "LSmokeTune$Town;") (List.mem_cons_of_mem _ (List.mem_append_left _ (List.mem_append_left _ (List.mem_append_left _ (List.mem_append_left _ (List.mem_of_getElem? (i := 1) rfl))))))) (fun _ h9 => h9) rfl dX11_damp_18 ?_
  refine lv_iload_n hx hb dX11_damp_21 rfl (lv_at hl 1 rfl) ?_
  refine lv_iload_n hx hb dX11_damp_22 rfl (lv_at hl 2 rfl) ?_
  refine pci (va_runVN (As := [.ref a2, .int x, .int y]) (rest := [.int 1, .ref a0]) ⟨hx, hb, hml, hown, hts⟩ (c_quench l D K a8 a2 x y r0 (.ref a6) k1 (.ref a7) k3 k5 k6 (.int 0) k8 k9 y.toInt H.size rfl) ⟨va_cnB 3 hts gX11_damp_X10_quench_n232 rfl rfl rfl (nst_at hN 72 rfl) (hts (.initialized RX10) (List.mem_cons_of_mem _ (List.mem_append_left _ (List.mem_append_left _ (List.mem_append_left _ (List.mem_append_left _ (List.mem_of_getElem? (i := 17) rfl))))))) (by decide +kernel) ⟨Nat.le_of_ble_eq_true rfl, Nat.le_of_ble_eq_true rfl⟩, (hts (.instanceMethod yX10_quench) (List.mem_cons_of_mem _ (List.mem_append_left _ (List.mem_append_left _ (List.mem_append_left _ (List.mem_append_left _ (List.mem_of_getElem? (i := 16) rfl))))))), (hts (.selects RX10 yX10_quench yX10_quench) (List.mem_cons_of_mem _ (List.mem_append_left _ (List.mem_append_left _ (List.mem_append_left _ (List.mem_append_left _ (List.mem_of_getElem? (i := 18) rfl)))))))⟩ (mkV hK hN (hP.sub [2, 4] rfl) (hD.sub [2, 4] (by decide) rfl) (ci := 10) (q0 := 0) rfl rfl) rfl rfl hl.1 rfl (lv_room (Nat.le_of_ble_eq_true rfl)) dX11_damp_23 ⟨Nat.le_of_ble_eq_true rfl, Nat.le_of_ble_eq_true rfl⟩) (fun r_3 hw => ?_)
  rcases hw with ⟨rfl, h_4, h_5⟩ | ⟨rfl, h_6⟩
  · refine kci (wr := [(a8, .inr (10, [r0])), (a3, .inr (2, [.ref a5, .int 0, .int 0])), (a2, .inr (9, [.ref a6, k1, .ref a7, k3, .int 0, k5, k6, .int 0, k8, k9])), (a5, .inl (K 0, 476, .inl ((u_2.2.1 0)))), (a6, .inl (K 0, 56, .inl (fun _ => 0))), (a7, .inl (K 0, 6, .inl tm0))]) (va_runV (As := [.int 1, .int (-2)]) (rest := []) ⟨hx, hb, hml, hown, hts⟩ (c_settle_2 l D K a0 1 (.ref a2) g1 g2 g3 g4 g5 g6 (.ref a8) g8 (.ref a3) g10 g11 a1 g13 g14 g15 g16 f H.size) (cwV 2 hts gX11_damp_X11_settle rfl rfl rfl (by decide +kernel) ⟨Nat.le_of_ble_eq_true rfl, Nat.le_of_ble_eq_true rfl⟩) (mkV hK hN (hP.sub [0, 1] rfl) (hD.sub [0, 1] (by decide) rfl) (ci := 11) (q0 := 0) rfl rfl) rfl rfl hl.1 rfl (lv_room (Nat.le_of_ble_eq_true rfl)) dX11_damp_26 ⟨Nat.le_of_ble_eq_true rfl, Nat.le_of_ble_eq_true rfl⟩) hP hD hS hA [0, 1] [2, 3, 4, 5, 6, 7] rfl rfl (by decide) (by decide) (fun r_7 u_8 H locs hw hP hD hS => ?_)
    have hP : va_P D vwCl [(a8, .inr (10, [r0])), (a3, .inr (2, [.ref a5, .int 0, .int 0])), (a2, .inr (9, [.ref a6, k1, .ref a7, k3, .int 0, k5, k6, .int 0, k8, k9])), (a5, .inl (K 0, 476, .inl ((u_2.2.1 0)))), (a6, .inl (K 0, 56, .inl (fun _ => 0))), (a7, .inl (K 0, 6, .inl tm0))] H := hP
    have hD : va_D A [(a8, .inr (10, [r0])), (a3, .inr (2, [.ref a5, .int 0, .int 0])), (a2, .inr (9, [.ref a6, k1, .ref a7, k3, .int 0, k5, k6, .int 0, k8, k9])), (a5, .inl (K 0, 476, .inl ((u_2.2.1 0)))), (a6, .inl (K 0, 56, .inl (fun _ => 0))), (a7, .inl (K 0, 6, .inl tm0))] := hD
    obtain rfl : r_7 = (-2) := hw
    exact W.iret (v := (-2)) hx hb hr (fun t ht hW => ⟨⟨(-2), (), rfl, (by first | exact Or.inl (⟨rfl, by first | omega | decide | (subst_vars; assumption), by first | omega | decide | (subst_vars; assumption)⟩)), Wd.nil⟩, hS.F ht⟩) hS.2.2 dX11_damp_29
  · refine kci (wr := [(a8, .inr (10, [r0])), (a3, .inr (2, [.ref a5, .int 0, .int 0])), (a2, .inr (9, [.ref a6, k1, .ref a7, k3, .int 0, k5, k6, .int 0, k8, k9])), (a5, .inl (K 0, 476, .inl ((u_2.2.1 0)))), (a6, .inl (K 0, 56, .inl (fun _ => 0))), (a7, .inl (K 0, 6, .inl tm0))]) (va_runV (As := [.int 1, .int (-1)]) (rest := []) ⟨hx, hb, hml, hown, hts⟩ (c_settle_1 l D K a0 1 (.ref a2) g1 g2 g3 g4 g5 g6 (.ref a8) g8 (.ref a3) g10 g11 a1 g13 g14 g15 g16 f H.size) (cwV 2 hts gX11_damp_X11_settle rfl rfl rfl (by decide +kernel) ⟨Nat.le_of_ble_eq_true rfl, Nat.le_of_ble_eq_true rfl⟩) (mkV hK hN (hP.sub [0, 1] rfl) (hD.sub [0, 1] (by decide) rfl) (ci := 11) (q0 := 0) rfl rfl) rfl rfl hl.1 rfl (lv_room (Nat.le_of_ble_eq_true rfl)) dX11_damp_26 ⟨Nat.le_of_ble_eq_true rfl, Nat.le_of_ble_eq_true rfl⟩) hP hD hS hA [0, 1] [2, 3, 4, 5, 6, 7] rfl rfl (by decide) (by decide) (fun r_9 u_10 H locs hw hP hD hS => ?_)
    have hP : va_P D vwCl [(a8, .inr (10, [r0])), (a3, .inr (2, [.ref a5, .int 0, .int 0])), (a2, .inr (9, [.ref a6, k1, .ref a7, k3, .int 0, k5, k6, .int 0, k8, k9])), (a5, .inl (K 0, 476, .inl ((u_2.2.1 0)))), (a6, .inl (K 0, 56, .inl (fun _ => 0))), (a7, .inl (K 0, 6, .inl tm0))] H := hP
    have hD : va_D A [(a8, .inr (10, [r0])), (a3, .inr (2, [.ref a5, .int 0, .int 0])), (a2, .inr (9, [.ref a6, k1, .ref a7, k3, .int 0, k5, k6, .int 0, k8, k9])), (a5, .inl (K 0, 476, .inl ((u_2.2.1 0)))), (a6, .inl (K 0, 56, .inl (fun _ => 0))), (a7, .inl (K 0, 6, .inl tm0))] := hD
    obtain rfl : r_9 = (-1) := hw
    exact W.iret (v := (-1)) hx hb hr (fun t ht hW => ⟨⟨(-1), (), rfl, (by first | exact Or.inr (⟨rfl, by first | omega | decide | (subst_vars; assumption)⟩)), Wd.nil⟩, hS.F ht⟩) hS.2.2 dX11_damp_29
set_option maxHeartbeats 4000000 in
set_option maxRecDepth 100000 in
theorem t_buy (l : Launch) (D : va_G) (K : Nat → ClassId) (a0 : Nat) (x : Int32) (y : Int32) (a2 : Nat) (g1 : Value) (g2 : Value) (g3 : Value) (g4 : Value) (g5 : Value) (g6 : Value) (a8 : Nat) (g8 : Value) (a3 : Nat) (g10 : Value) (g11 : Value) (a1 : Nat) (g13 : Value) (g14 : Value) (g15 : Value) (g16 : Value) (f : Nat → Int32) (a5 : Nat) (a6 : Nat) (k1 : Value) (a7 : Nat) (k3 : Value) (k5 : Value) (k6 : Value) (k8 : Value) (k9 : Value) (r0 : Value) (sz : Nat) : Met l yX11_buy wsX11_buy ({ frames := 3, cells := 0, slots := 0, locals := 66 }) (va_Pc [.ref a0, .int x, .int y] (Pre D K [(a0, .inr (11, [.ref a2, g1, g2, g3, g4, g5, g6, .ref a8, g8, .ref a3, g10, g11, .ref a1, g13, g14, g15, g16])), (a1, .inl (K 0, 5, .inl f)), (a3, .inr (2, [.ref a5, .int 0, .int 0])), (a2, .inr (9, [.ref a6, k1, .ref a7, k3, .int 0, k5, k6, .int 0, k8, k9])), (a5, .inl (K 0, 476, .inl (fun _ => 0))), (a6, .inl (K 0, 56, .inl (fun _ => 0))), (a7, .inl (K 0, 6, .inl tm0)), (a8, .inr (10, [r0]))] sz)) (va_Qi (S := Unit) (fun (r : Int32) (_ : Unit) => (r = (-2) ∧ 1 ≤ y.toInt ∧ y.toInt ≤ 999) ∨ (r = (-1) ∧ (y.toInt < 1 ∨ 999 < y.toInt))) (fun u t => Wd D (va_A [(a0, .inr (11, [.ref a2, g1, g2, g3, g4, g5, g6, .ref a8, g8, .ref a3, g10, g11, .ref a1, g13, g14, g15, g16])), (a1, .inl (K 0, 5, .inl f)), (a3, .inr (2, [.ref a5, .int 0, .int 0])), (a2, .inr (9, [.ref a6, k1, .ref a7, k3, .int 0, k5, k6, .int 0, k8, k9])), (a5, .inl (K 0, 476, .inl (fun _ => 0))), (a6, .inl (K 0, 56, .inl (fun _ => 0))), (a7, .inl (K 0, 6, .inl tm0)), (a8, .inr (10, [r0]))] sz) ((fun _ => []) u) t) (va_A [(a0, .inr (11, [.ref a2, g1, g2, g3, g4, g5, g6, .ref a8, g8, .ref a3, g10, g11, .ref a1, g13, g14, g15, g16])), (a1, .inl (K 0, 5, .inl f)), (a3, .inr (2, [.ref a5, .int 0, .int 0])), (a2, .inr (9, [.ref a6, k1, .ref a7, k3, .int 0, k5, k6, .int 0, k8, k9])), (a5, .inl (K 0, 476, .inl (fun _ => 0))), (a6, .inl (K 0, 56, .inl (fun _ => 0))), (a7, .inl (K 0, 6, .inl tm0)), (a8, .inr (10, [r0]))] sz)) 0 0 (va_A [(a0, .inr (11, [.ref a2, g1, g2, g3, g4, g5, g6, .ref a8, g8, .ref a3, g10, g11, .ref a1, g13, g14, g15, g16])), (a1, .inl (K 0, 5, .inl f)), (a3, .inr (2, [.ref a5, .int 0, .int 0])), (a2, .inr (9, [.ref a6, k1, .ref a7, k3, .int 0, k5, k6, .int 0, k8, k9])), (a5, .inl (K 0, 476, .inl (fun _ => 0))), (a6, .inl (K 0, 56, .inl (fun _ => 0))), (a7, .inl (K 0, 6, .inl tm0)), (a8, .inr (10, [r0]))] sz) := by
  refine Met.ofW (cc := cX11_buy) (maxL := 3) (ret := (some .int)) (by decide) rfl ?_
  intro p e s m args below meth c s₁ B hml hv
  obtain ⟨rfl, hsz, hP, hK, hD0, hN⟩ := hv
  have hx := B.exec
  have hb := B.bytes
  have hr := B.returns
  have hts := atoms_spec (ws := wsX11_buy) B.pre
  have hown : s.vm.findClass RX11 = some m.cls := findClass_of_methodNamed B.named
  have hlocks := B.notSynchronized
  subst hsz
  have hD := hD0.self (sz := s.heap.size)
  generalize hAe : va_A [(a0, .inr (11, [.ref a2, g1, g2, g3, g4, g5, g6, .ref a8, g8, .ref a3, g10, g11, .ref a1, g13, g14, g15, g16])), (a1, .inl (K 0, 5, .inl f)), (a3, .inr (2, [.ref a5, .int 0, .int 0])), (a2, .inr (9, [.ref a6, k1, .ref a7, k3, .int 0, k5, k6, .int 0, k8, k9])), (a5, .inl (K 0, 476, .inl (fun _ => 0))), (a6, .inl (K 0, 56, .inl (fun _ => 0))), (a7, .inl (K 0, 6, .inl tm0)), (a8, .inr (10, [r0]))] s.heap.size = A at hD ⊢
  have hA : ∀ q : Nat, s.heap.size ≤ q → A q := fun q h => by rw [← hAe]; exact Or.inr h
  have hS : va_S A s.heap s.heap [] := va_S.rf
  have hP : va_P D vwCl [(a0, .inr (11, [.ref a2, g1, g2, g3, g4, g5, g6, .ref a8, g8, .ref a3, g10, g11, .ref a1, g13, g14, g15, g16])), (a1, .inl (K 0, 5, .inl f)), (a3, .inr (2, [.ref a5, .int 0, .int 0])), (a2, .inr (9, [.ref a6, k1, .ref a7, k3, .int 0, k5, k6, .int 0, k8, k9])), (a5, .inl (K 0, 476, .inl (fun _ => 0))), (a6, .inl (K 0, 56, .inl (fun _ => 0))), (a7, .inl (K 0, 6, .inl tm0)), (a8, .inr (10, [r0]))] s.heap := hP
  have hl := lv_entry [.ref a0, .int x, .int y] (n := 3) (Nat.le_of_ble_eq_true rfl)
  rw [lg_entry_eq]
  generalize (lg_sl [.ref a0, .int x, .int y] ++ List.replicate (3 - (lg_sl [.ref a0, .int x, .int y]).length) Slot.unset).toArray = ls at hl ⊢
  have hl : lv_has ls 3 [(0, .ref a0), (1, .int x), (2, .int y)] := hl
  have hw2 : ∀ w ∈ wsX20, w ∈ wsX11_buy := fun w h => (List.mem_cons_of_mem _ (List.mem_append_left _ (List.mem_append_right _ h)))
  have hw9 : ∀ w ∈ wsX90, w ∈ wsX11_buy := fun w h => (List.mem_cons_of_mem _ (List.mem_append_right _ h))
  have hw11 : ∀ w ∈ wsX110, w ∈ wsX11_buy := fun w h => (List.mem_cons_of_mem _ (List.mem_append_left _ (List.mem_append_left _ (List.mem_append_right _ h))))
  refine lv_aload_n hx hb dX11_buy_0 rfl (lv_at hl 0 rfl) ?_
  refine va_get (ci := 11) (v := .ref a3) (C := RX11) (T := TX11) (N := 17) hx hb hts hw11 hown hK hP 0 rfl rfl 9 (by decide) (hts (.fieldLink RX11 61 "SmokeTune" "history" "LSmokeTune$History;") (List.mem_cons_of_mem _ (List.mem_append_left _ (List.mem_append_left _ (List.mem_append_left _ (List.mem_append_left _ (List.mem_of_getElem? (i := 0) rfl))))))) (fun _ h9 => h9) rfl dX11_buy_1 ?_
  refine lv_aload_n hx hb dX11_buy_4 rfl (lv_at hl 0 rfl) ?_
  refine va_get (ci := 11) (v := .ref a2) (C := RX11) (T := TX11) (N := 17) hx hb hts hw11 hown hK hP 0 rfl rfl 0 (by decide) (hts (.fieldLink RX11 10 "SmokeTune" "town" "LSmokeTune$Town;") (List.mem_cons_of_mem _ (List.mem_append_left _ (List.mem_append_left _ (List.mem_append_left _ (List.mem_append_left _ (List.mem_of_getElem? (i := 1) rfl))))))) (fun _ h9 => h9) rfl dX11_buy_5 ?_
  refine kcv (wr := [(a0, .inr (11, [.ref a2, g1, g2, g3, g4, g5, g6, .ref a8, g8, .ref a3, g10, g11, .ref a1, g13, g14, g15, g16])), (a1, .inl (K 0, 5, .inl f)), (a8, .inr (10, [r0]))]) (va_runVN (As := [.ref a2]) (rest := []) ⟨hx, hb, hml, hown, hts⟩ (c_draft l D K a3 a2 a5 (.int 0) a6 k1 a7 k3 (.int 0) k5 k6 k8 k9 (fun _ => 0) (fun _ => 0) tm0 s.heap.size) ⟨va_cnB 1 hts gX11_buy_X2_draft_n221 rfl rfl rfl (nst_at hN 69 rfl) (hts (.initialized RX2) (List.mem_cons_of_mem _ (List.mem_append_left _ (List.mem_append_left _ (List.mem_append_left _ (List.mem_append_left _ (List.mem_of_getElem? (i := 4) rfl))))))) (by decide +kernel) ⟨Nat.le_of_ble_eq_true rfl, Nat.le_of_ble_eq_true rfl⟩, (hts (.instanceMethod yX2_draft) (List.mem_cons_of_mem _ (List.mem_append_left _ (List.mem_append_left _ (List.mem_append_left _ (List.mem_append_left _ (List.mem_of_getElem? (i := 3) rfl))))))), (hts (.selects RX2 yX2_draft yX2_draft) (List.mem_cons_of_mem _ (List.mem_append_left _ (List.mem_append_left _ (List.mem_append_left _ (List.mem_append_left _ (List.mem_of_getElem? (i := 5) rfl)))))))⟩ (mkV hK hN (hP.sub [2, 3, 4, 5, 6] rfl) (hD.sub [2, 3, 4, 5, 6] (by decide) rfl) (ci := 2) (q0 := 0) rfl rfl) rfl rfl hl.1 rfl (lv_room (Nat.le_of_ble_eq_true rfl)) dX11_buy_8 ⟨Nat.le_of_ble_eq_true rfl, Nat.le_of_ble_eq_true rfl⟩) hP hD hS hA [2, 3, 4, 5, 6] [0, 1, 7] rfl rfl (by decide) (by decide) (fun u_2 H locs hw hP hD hS => ?_)
  have hP : va_P D vwCl [(a0, .inr (11, [.ref a2, g1, g2, g3, g4, g5, g6, .ref a8, g8, .ref a3, g10, g11, .ref a1, g13, g14, g15, g16])), (a1, .inl (K 0, 5, .inl f)), (a8, .inr (10, [r0])), (a3, .inr (2, [.ref a5, .int 0, .int 0])), (a2, .inr (9, [.ref a6, k1, .ref a7, k3, .int 0, k5, k6, .int 0, k8, k9])), (a5, .inl (K 0, 476, .inl ((u_2.2.1 0)))), (a6, .inl (K 0, 56, .inl (fun _ => 0))), (a7, .inl (K 0, 6, .inl tm0))] H := hP
  have hD : va_D A [(a0, .inr (11, [.ref a2, g1, g2, g3, g4, g5, g6, .ref a8, g8, .ref a3, g10, g11, .ref a1, g13, g14, g15, g16])), (a1, .inl (K 0, 5, .inl f)), (a8, .inr (10, [r0])), (a3, .inr (2, [.ref a5, .int 0, .int 0])), (a2, .inr (9, [.ref a6, k1, .ref a7, k3, .int 0, k5, k6, .int 0, k8, k9])), (a5, .inl (K 0, 476, .inl ((u_2.2.1 0)))), (a6, .inl (K 0, 56, .inl (fun _ => 0))), (a7, .inl (K 0, 6, .inl tm0))] := hD
  refine lv_aload_n hx hb dX11_buy_11 rfl (lv_at hl 0 rfl) ?_
  refine lv_iconst (v := 2) hx hb dX11_buy_12 (by decide) ?_
  refine lv_aload_n hx hb dX11_buy_13 rfl (lv_at hl 0 rfl) ?_
  refine va_get (ci := 11) (v := .ref a8) (C := RX11) (T := TX11) (N := 17) hx hb hts hw11 hown hK hP 0 rfl rfl 7 (by decide) (hts (.fieldLink RX11 50 "SmokeTune" "works" "LSmokeTune$Works;") (List.mem_cons_of_mem _ (List.mem_append_left _ (List.mem_append_left _ (List.mem_append_left _ (List.mem_append_left _ (List.mem_of_getElem? (i := 2) rfl))))))) (fun _ h9 => h9) rfl dX11_buy_14 ?_
  refine lv_aload_n hx hb dX11_buy_17 rfl (lv_at hl 0 rfl) ?_
  refine va_get (ci := 11) (v := .ref a2) (C := RX11) (T := TX11) (N := 17) hx hb hts hw11 hown hK hP 0 rfl rfl 0 (by decide) (hts (.fieldLink RX11 10 "SmokeTune" "town" "LSmokeTune$Town;") (List.mem_cons_of_mem _ (List.mem_append_left _ (List.mem_append_left _ (List.mem_append_left _ (List.mem_append_left _ (List.mem_of_getElem? (i := 1) rfl))))))) (fun _ h9 => h9) rfl dX11_buy_18 ?_
  refine lv_iload_n hx hb dX11_buy_21 rfl (lv_at hl 1 rfl) ?_
  refine lv_iload_n hx hb dX11_buy_22 rfl (lv_at hl 2 rfl) ?_
  refine pci (va_runVN (As := [.ref a2, .int x, .int y]) (rest := [.int 2, .ref a0]) ⟨hx, hb, hml, hown, hts⟩ (c_supply l D K a8 a2 x y r0 (.ref a6) k1 (.ref a7) k3 k5 k6 (.int 0) k8 k9 y.toInt H.size rfl) ⟨va_cnB 3 hts gX11_buy_X10_supply_n236 rfl rfl rfl (nst_at hN 73 rfl) (hts (.initialized RX10) (List.mem_cons_of_mem _ (List.mem_append_left _ (List.mem_append_left _ (List.mem_append_left _ (List.mem_append_left _ (List.mem_of_getElem? (i := 17) rfl))))))) (by decide +kernel) ⟨Nat.le_of_ble_eq_true rfl, Nat.le_of_ble_eq_true rfl⟩, (hts (.instanceMethod yX10_supply) (List.mem_cons_of_mem _ (List.mem_append_left _ (List.mem_append_left _ (List.mem_append_left _ (List.mem_append_left _ (List.mem_of_getElem? (i := 16) rfl))))))), (hts (.selects RX10 yX10_supply yX10_supply) (List.mem_cons_of_mem _ (List.mem_append_left _ (List.mem_append_left _ (List.mem_append_left _ (List.mem_append_left _ (List.mem_of_getElem? (i := 18) rfl)))))))⟩ (mkV hK hN (hP.sub [2, 4] rfl) (hD.sub [2, 4] (by decide) rfl) (ci := 10) (q0 := 0) rfl rfl) rfl rfl hl.1 rfl (lv_room (Nat.le_of_ble_eq_true rfl)) dX11_buy_23 ⟨Nat.le_of_ble_eq_true rfl, Nat.le_of_ble_eq_true rfl⟩) (fun r_3 hw => ?_)
  rcases hw with ⟨rfl, h_4, h_5⟩ | ⟨rfl, h_6⟩
  · refine kci (wr := [(a8, .inr (10, [r0])), (a3, .inr (2, [.ref a5, .int 0, .int 0])), (a2, .inr (9, [.ref a6, k1, .ref a7, k3, .int 0, k5, k6, .int 0, k8, k9])), (a5, .inl (K 0, 476, .inl ((u_2.2.1 0)))), (a6, .inl (K 0, 56, .inl (fun _ => 0))), (a7, .inl (K 0, 6, .inl tm0))]) (va_runV (As := [.int 2, .int (-2)]) (rest := []) ⟨hx, hb, hml, hown, hts⟩ (c_settle_2 l D K a0 2 (.ref a2) g1 g2 g3 g4 g5 g6 (.ref a8) g8 (.ref a3) g10 g11 a1 g13 g14 g15 g16 f H.size) (cwV 2 hts gX11_buy_X11_settle rfl rfl rfl (by decide +kernel) ⟨Nat.le_of_ble_eq_true rfl, Nat.le_of_ble_eq_true rfl⟩) (mkV hK hN (hP.sub [0, 1] rfl) (hD.sub [0, 1] (by decide) rfl) (ci := 11) (q0 := 0) rfl rfl) rfl rfl hl.1 rfl (lv_room (Nat.le_of_ble_eq_true rfl)) dX11_buy_26 ⟨Nat.le_of_ble_eq_true rfl, Nat.le_of_ble_eq_true rfl⟩) hP hD hS hA [0, 1] [2, 3, 4, 5, 6, 7] rfl rfl (by decide) (by decide) (fun r_7 u_8 H locs hw hP hD hS => ?_)
    have hP : va_P D vwCl [(a8, .inr (10, [r0])), (a3, .inr (2, [.ref a5, .int 0, .int 0])), (a2, .inr (9, [.ref a6, k1, .ref a7, k3, .int 0, k5, k6, .int 0, k8, k9])), (a5, .inl (K 0, 476, .inl ((u_2.2.1 0)))), (a6, .inl (K 0, 56, .inl (fun _ => 0))), (a7, .inl (K 0, 6, .inl tm0))] H := hP
    have hD : va_D A [(a8, .inr (10, [r0])), (a3, .inr (2, [.ref a5, .int 0, .int 0])), (a2, .inr (9, [.ref a6, k1, .ref a7, k3, .int 0, k5, k6, .int 0, k8, k9])), (a5, .inl (K 0, 476, .inl ((u_2.2.1 0)))), (a6, .inl (K 0, 56, .inl (fun _ => 0))), (a7, .inl (K 0, 6, .inl tm0))] := hD
    obtain rfl : r_7 = (-2) := hw
    exact W.iret (v := (-2)) hx hb hr (fun t ht hW => ⟨⟨(-2), (), rfl, (by first | exact Or.inl (⟨rfl, by first | omega | decide | (subst_vars; assumption), by first | omega | decide | (subst_vars; assumption)⟩)), Wd.nil⟩, hS.F ht⟩) hS.2.2 dX11_buy_29
  · refine kci (wr := [(a8, .inr (10, [r0])), (a3, .inr (2, [.ref a5, .int 0, .int 0])), (a2, .inr (9, [.ref a6, k1, .ref a7, k3, .int 0, k5, k6, .int 0, k8, k9])), (a5, .inl (K 0, 476, .inl ((u_2.2.1 0)))), (a6, .inl (K 0, 56, .inl (fun _ => 0))), (a7, .inl (K 0, 6, .inl tm0))]) (va_runV (As := [.int 2, .int (-1)]) (rest := []) ⟨hx, hb, hml, hown, hts⟩ (c_settle_1 l D K a0 2 (.ref a2) g1 g2 g3 g4 g5 g6 (.ref a8) g8 (.ref a3) g10 g11 a1 g13 g14 g15 g16 f H.size) (cwV 2 hts gX11_buy_X11_settle rfl rfl rfl (by decide +kernel) ⟨Nat.le_of_ble_eq_true rfl, Nat.le_of_ble_eq_true rfl⟩) (mkV hK hN (hP.sub [0, 1] rfl) (hD.sub [0, 1] (by decide) rfl) (ci := 11) (q0 := 0) rfl rfl) rfl rfl hl.1 rfl (lv_room (Nat.le_of_ble_eq_true rfl)) dX11_buy_26 ⟨Nat.le_of_ble_eq_true rfl, Nat.le_of_ble_eq_true rfl⟩) hP hD hS hA [0, 1] [2, 3, 4, 5, 6, 7] rfl rfl (by decide) (by decide) (fun r_9 u_10 H locs hw hP hD hS => ?_)
    have hP : va_P D vwCl [(a8, .inr (10, [r0])), (a3, .inr (2, [.ref a5, .int 0, .int 0])), (a2, .inr (9, [.ref a6, k1, .ref a7, k3, .int 0, k5, k6, .int 0, k8, k9])), (a5, .inl (K 0, 476, .inl ((u_2.2.1 0)))), (a6, .inl (K 0, 56, .inl (fun _ => 0))), (a7, .inl (K 0, 6, .inl tm0))] H := hP
    have hD : va_D A [(a8, .inr (10, [r0])), (a3, .inr (2, [.ref a5, .int 0, .int 0])), (a2, .inr (9, [.ref a6, k1, .ref a7, k3, .int 0, k5, k6, .int 0, k8, k9])), (a5, .inl (K 0, 476, .inl ((u_2.2.1 0)))), (a6, .inl (K 0, 56, .inl (fun _ => 0))), (a7, .inl (K 0, 6, .inl tm0))] := hD
    obtain rfl : r_9 = (-1) := hw
    exact W.iret (v := (-1)) hx hb hr (fun t ht hW => ⟨⟨(-1), (), rfl, (by first | exact Or.inr (⟨rfl, by first | omega | decide | (subst_vars; assumption)⟩)), Wd.nil⟩, hS.F ht⟩) hS.2.2 dX11_buy_29
set_option maxHeartbeats 4000000 in
set_option maxRecDepth 100000 in
theorem t_pass (l : Launch) (D : va_G) (K : Nat → ClassId) (a0 : Nat) (a2 : Nat) (g1 : Value) (g2 : Value) (g3 : Value) (g4 : Value) (g5 : Value) (g6 : Value) (a8 : Nat) (g8 : Value) (a3 : Nat) (g10 : Value) (g11 : Value) (g12 : Value) (g13 : Value) (g14 : Value) (g15 : Value) (g16 : Value) (a5 : Nat) (a6 : Nat) (a9 : Nat) (a7 : Nat) (k3 : Value) (k5 : Value) (k6 : Value) (k8 : Value) (k9 : Value) (r0 : Value) (sz : Nat) : Met l yX11_pass wsX11_pass ({ frames := 3, cells := 0, slots := 0, locals := 66 }) (va_Pc [.ref a0] (Pre D K [(a0, .inr (11, [.ref a2, g1, g2, g3, g4, g5, g6, .ref a8, g8, .ref a3, g10, g11, g12, g13, g14, g15, g16])), (a3, .inr (2, [.ref a5, .int 0, .int 0])), (a2, .inr (9, [.ref a6, .ref a9, .ref a7, k3, .int 0, k5, k6, .int 0, k8, k9])), (a5, .inl (K 0, 476, .inl (fun _ => 0))), (a6, .inl (K 0, 56, .inl (fun _ => 0))), (a7, .inl (K 0, 6, .inl tm0)), (a8, .inr (10, [r0])), (a9, .inl (K 0, 24, .inl (fun _ => 0)))] sz)) (va_Qi (S := Unit) (fun (r : Int32) (_ : Unit) => (r = 1)) (fun u t => Wd D (va_A [(a0, .inr (11, [.ref a2, g1, g2, g3, g4, g5, g6, .ref a8, g8, .ref a3, g10, g11, g12, g13, g14, g15, g16])), (a3, .inr (2, [.ref a5, .int 0, .int 0])), (a2, .inr (9, [.ref a6, .ref a9, .ref a7, k3, .int 0, k5, k6, .int 0, k8, k9])), (a5, .inl (K 0, 476, .inl (fun _ => 0))), (a6, .inl (K 0, 56, .inl (fun _ => 0))), (a7, .inl (K 0, 6, .inl tm0)), (a8, .inr (10, [r0])), (a9, .inl (K 0, 24, .inl (fun _ => 0)))] sz) ((fun _ => []) u) t) (va_A [(a0, .inr (11, [.ref a2, g1, g2, g3, g4, g5, g6, .ref a8, g8, .ref a3, g10, g11, g12, g13, g14, g15, g16])), (a3, .inr (2, [.ref a5, .int 0, .int 0])), (a2, .inr (9, [.ref a6, .ref a9, .ref a7, k3, .int 0, k5, k6, .int 0, k8, k9])), (a5, .inl (K 0, 476, .inl (fun _ => 0))), (a6, .inl (K 0, 56, .inl (fun _ => 0))), (a7, .inl (K 0, 6, .inl tm0)), (a8, .inr (10, [r0])), (a9, .inl (K 0, 24, .inl (fun _ => 0)))] sz)) 0 0 (va_A [(a0, .inr (11, [.ref a2, g1, g2, g3, g4, g5, g6, .ref a8, g8, .ref a3, g10, g11, g12, g13, g14, g15, g16])), (a3, .inr (2, [.ref a5, .int 0, .int 0])), (a2, .inr (9, [.ref a6, .ref a9, .ref a7, k3, .int 0, k5, k6, .int 0, k8, k9])), (a5, .inl (K 0, 476, .inl (fun _ => 0))), (a6, .inl (K 0, 56, .inl (fun _ => 0))), (a7, .inl (K 0, 6, .inl tm0)), (a8, .inr (10, [r0])), (a9, .inl (K 0, 24, .inl (fun _ => 0)))] sz) := by
  refine Met.ofW (cc := cX11_pass) (maxL := 1) (ret := (some .int)) (by decide) rfl ?_
  intro p e s m args below meth c s₁ B hml hv
  obtain ⟨rfl, hsz, hP, hK, hD0, hN⟩ := hv
  have hx := B.exec
  have hb := B.bytes
  have hr := B.returns
  have hts := atoms_spec (ws := wsX11_pass) B.pre
  have hown : s.vm.findClass RX11 = some m.cls := findClass_of_methodNamed B.named
  have hlocks := B.notSynchronized
  subst hsz
  have hD := hD0.self (sz := s.heap.size)
  generalize hAe : va_A [(a0, .inr (11, [.ref a2, g1, g2, g3, g4, g5, g6, .ref a8, g8, .ref a3, g10, g11, g12, g13, g14, g15, g16])), (a3, .inr (2, [.ref a5, .int 0, .int 0])), (a2, .inr (9, [.ref a6, .ref a9, .ref a7, k3, .int 0, k5, k6, .int 0, k8, k9])), (a5, .inl (K 0, 476, .inl (fun _ => 0))), (a6, .inl (K 0, 56, .inl (fun _ => 0))), (a7, .inl (K 0, 6, .inl tm0)), (a8, .inr (10, [r0])), (a9, .inl (K 0, 24, .inl (fun _ => 0)))] s.heap.size = A at hD ⊢
  have hA : ∀ q : Nat, s.heap.size ≤ q → A q := fun q h => by rw [← hAe]; exact Or.inr h
  have hS : va_S A s.heap s.heap [] := va_S.rf
  have hP : va_P D vwCl [(a0, .inr (11, [.ref a2, g1, g2, g3, g4, g5, g6, .ref a8, g8, .ref a3, g10, g11, g12, g13, g14, g15, g16])), (a3, .inr (2, [.ref a5, .int 0, .int 0])), (a2, .inr (9, [.ref a6, .ref a9, .ref a7, k3, .int 0, k5, k6, .int 0, k8, k9])), (a5, .inl (K 0, 476, .inl (fun _ => 0))), (a6, .inl (K 0, 56, .inl (fun _ => 0))), (a7, .inl (K 0, 6, .inl tm0)), (a8, .inr (10, [r0])), (a9, .inl (K 0, 24, .inl (fun _ => 0)))] s.heap := hP
  have hl := lv_entry [.ref a0] (n := 1) (Nat.le_of_ble_eq_true rfl)
  rw [lg_entry_eq]
  generalize (lg_sl [.ref a0] ++ List.replicate (1 - (lg_sl [.ref a0]).length) Slot.unset).toArray = ls at hl ⊢
  have hl : lv_has ls 1 [(0, .ref a0)] := hl
  have hw0 : ∀ w ∈ wsX00, w ∈ wsX11_pass := fun w h => (List.mem_cons_of_mem _ (List.mem_append_left _ (List.mem_append_left _ (List.mem_append_right _ h))))
  have hw2 : ∀ w ∈ wsX20, w ∈ wsX11_pass := fun w h => (List.mem_cons_of_mem _ (List.mem_append_left _ (List.mem_append_left _ (List.mem_append_left _ (List.mem_append_left _ (List.mem_append_left _ (List.mem_append_right _ h)))))))
  have hw3 : ∀ w ∈ wsX30, w ∈ wsX11_pass := fun w h => (List.mem_cons_of_mem _ (List.mem_append_right _ h))
  have hw7 : ∀ w ∈ wsX70, w ∈ wsX11_pass := fun w h => (List.mem_cons_of_mem _ (List.mem_append_left _ (List.mem_append_right _ h)))
  have hw9 : ∀ w ∈ wsX90, w ∈ wsX11_pass := fun w h => (List.mem_cons_of_mem _ (List.mem_append_left _ (List.mem_append_left _ (List.mem_append_left _ (List.mem_append_left _ (List.mem_append_right _ h))))))
  have hw10 : ∀ w ∈ wsX100, w ∈ wsX11_pass := fun w h => (List.mem_cons_of_mem _ (List.mem_append_left _ (List.mem_append_left _ (List.mem_append_left _ (List.mem_append_right _ h)))))
  have hw11 : ∀ w ∈ wsX110, w ∈ wsX11_pass := fun w h => (List.mem_cons_of_mem _ (List.mem_append_left _ (List.mem_append_left _ (List.mem_append_left _ (List.mem_append_left _ (List.mem_append_left _ (List.mem_append_left _ (List.mem_append_right _ h))))))))
  refine lv_aload_n hx hb dX11_pass_0 rfl (lv_at hl 0 rfl) ?_
  refine va_get (ci := 11) (v := .ref a3) (C := RX11) (T := TX11) (N := 17) hx hb hts hw11 hown hK hP 0 rfl rfl 9 (by decide) (hts (.fieldLink RX11 61 "SmokeTune" "history" "LSmokeTune$History;") (List.mem_cons_of_mem _ (List.mem_append_left _ (List.mem_append_left _ (List.mem_append_left _ (List.mem_append_left _ (List.mem_append_left _ (List.mem_append_left _ (List.mem_append_left _ (List.mem_append_left _ (List.mem_of_getElem? (i := 0) rfl))))))))))) (fun _ h9 => h9) rfl dX11_pass_1 ?_
  refine lv_aload_n hx hb dX11_pass_4 rfl (lv_at hl 0 rfl) ?_
  refine va_get (ci := 11) (v := .ref a2) (C := RX11) (T := TX11) (N := 17) hx hb hts hw11 hown hK hP 0 rfl rfl 0 (by decide) (hts (.fieldLink RX11 10 "SmokeTune" "town" "LSmokeTune$Town;") (List.mem_cons_of_mem _ (List.mem_append_left _ (List.mem_append_left _ (List.mem_append_left _ (List.mem_append_left _ (List.mem_append_left _ (List.mem_append_left _ (List.mem_append_left _ (List.mem_append_left _ (List.mem_of_getElem? (i := 1) rfl))))))))))) (fun _ h9 => h9) rfl dX11_pass_5 ?_
  refine kcv (wr := [(a0, .inr (11, [.ref a2, g1, g2, g3, g4, g5, g6, .ref a8, g8, .ref a3, g10, g11, g12, g13, g14, g15, g16])), (a8, .inr (10, [r0])), (a9, .inl (K 0, 24, .inl (fun _ => 0)))]) (va_runVN (As := [.ref a2]) (rest := []) ⟨hx, hb, hml, hown, hts⟩ (c_draft l D K a3 a2 a5 (.int 0) a6 (.ref a9) a7 k3 (.int 0) k5 k6 k8 k9 (fun _ => 0) (fun _ => 0) tm0 s.heap.size) ⟨va_cnB 1 hts gX11_pass_X2_draft_n221 rfl rfl rfl (nst_at hN 69 rfl) (hts (.initialized RX2) (List.mem_cons_of_mem _ (List.mem_append_left _ (List.mem_append_left _ (List.mem_append_left _ (List.mem_append_left _ (List.mem_append_left _ (List.mem_append_left _ (List.mem_append_left _ (List.mem_append_left _ (List.mem_of_getElem? (i := 4) rfl))))))))))) (by decide +kernel) ⟨Nat.le_of_ble_eq_true rfl, Nat.le_of_ble_eq_true rfl⟩, (hts (.instanceMethod yX2_draft) (List.mem_cons_of_mem _ (List.mem_append_left _ (List.mem_append_left _ (List.mem_append_left _ (List.mem_append_left _ (List.mem_append_left _ (List.mem_append_left _ (List.mem_append_left _ (List.mem_append_left _ (List.mem_of_getElem? (i := 3) rfl))))))))))), (hts (.selects RX2 yX2_draft yX2_draft) (List.mem_cons_of_mem _ (List.mem_append_left _ (List.mem_append_left _ (List.mem_append_left _ (List.mem_append_left _ (List.mem_append_left _ (List.mem_append_left _ (List.mem_append_left _ (List.mem_append_left _ (List.mem_of_getElem? (i := 5) rfl)))))))))))⟩ (mkV hK hN (hP.sub [1, 2, 3, 4, 5] rfl) (hD.sub [1, 2, 3, 4, 5] (by decide) rfl) (ci := 2) (q0 := 0) rfl rfl) rfl rfl hl.1 rfl (lv_room (Nat.le_of_ble_eq_true rfl)) dX11_pass_8 ⟨Nat.le_of_ble_eq_true rfl, Nat.le_of_ble_eq_true rfl⟩) hP hD hS hA [1, 2, 3, 4, 5] [0, 6, 7] rfl rfl (by decide) (by decide) (fun u_2 H locs hw hP hD hS => ?_)
  have hP : va_P D vwCl [(a0, .inr (11, [.ref a2, g1, g2, g3, g4, g5, g6, .ref a8, g8, .ref a3, g10, g11, g12, g13, g14, g15, g16])), (a8, .inr (10, [r0])), (a9, .inl (K 0, 24, .inl (fun _ => 0))), (a3, .inr (2, [.ref a5, .int 0, .int 0])), (a2, .inr (9, [.ref a6, .ref a9, .ref a7, k3, .int 0, k5, k6, .int 0, k8, k9])), (a5, .inl (K 0, 476, .inl ((u_2.2.1 0)))), (a6, .inl (K 0, 56, .inl (fun _ => 0))), (a7, .inl (K 0, 6, .inl tm0))] H := hP
  have hD : va_D A [(a0, .inr (11, [.ref a2, g1, g2, g3, g4, g5, g6, .ref a8, g8, .ref a3, g10, g11, g12, g13, g14, g15, g16])), (a8, .inr (10, [r0])), (a9, .inl (K 0, 24, .inl (fun _ => 0))), (a3, .inr (2, [.ref a5, .int 0, .int 0])), (a2, .inr (9, [.ref a6, .ref a9, .ref a7, k3, .int 0, k5, k6, .int 0, k8, k9])), (a5, .inl (K 0, 476, .inl ((u_2.2.1 0)))), (a6, .inl (K 0, 56, .inl (fun _ => 0))), (a7, .inl (K 0, 6, .inl tm0))] := hD
  refine lv_aload_n hx hb dX11_pass_11 rfl (lv_at hl 0 rfl) ?_
  refine lv_iconst (v := 3) hx hb dX11_pass_12 (by decide) ?_
  refine lv_aload_n hx hb dX11_pass_13 rfl (lv_at hl 0 rfl) ?_
  refine va_get (ci := 11) (v := .ref a8) (C := RX11) (T := TX11) (N := 17) hx hb hts hw11 hown hK hP 0 rfl rfl 7 (by decide) (hts (.fieldLink RX11 50 "SmokeTune" "works" "LSmokeTune$Works;") (List.mem_cons_of_mem _ (List.mem_append_left _ (List.mem_append_left _ (List.mem_append_left _ (List.mem_append_left _ (List.mem_append_left _ (List.mem_append_left _ (List.mem_append_left _ (List.mem_append_left _ (List.mem_of_getElem? (i := 2) rfl))))))))))) (fun _ h9 => h9) rfl dX11_pass_14 ?_
  refine lv_aload_n hx hb dX11_pass_17 rfl (lv_at hl 0 rfl) ?_
  refine va_get (ci := 11) (v := .ref a2) (C := RX11) (T := TX11) (N := 17) hx hb hts hw11 hown hK hP 0 rfl rfl 0 (by decide) (hts (.fieldLink RX11 10 "SmokeTune" "town" "LSmokeTune$Town;") (List.mem_cons_of_mem _ (List.mem_append_left _ (List.mem_append_left _ (List.mem_append_left _ (List.mem_append_left _ (List.mem_append_left _ (List.mem_append_left _ (List.mem_append_left _ (List.mem_append_left _ (List.mem_of_getElem? (i := 1) rfl))))))))))) (fun _ h9 => h9) rfl dX11_pass_18 ?_
  refine kci (wr := [(a0, .inr (11, [.ref a2, g1, g2, g3, g4, g5, g6, .ref a8, g8, .ref a3, g10, g11, g12, g13, g14, g15, g16])), (a3, .inr (2, [.ref a5, .int 0, .int 0])), (a5, .inl (K 0, 476, .inl ((u_2.2.1 0)))), (a6, .inl (K 0, 56, .inl (fun _ => 0)))]) (va_runVN (As := [.ref a2]) (rest := [.int 3, .ref a0]) ⟨hx, hb, hml, hown, hts⟩ (c_nextHour l D K a8 a2 r0 (.ref a6) a9 a7 k3 k5 k6 k8 k9 (fun _ => 0) tm0 0 0 H.size rfl rfl (by omega) (by omega) (fun _ _ => rfl)) ⟨va_cnB 1 hts gX11_pass_X10_nextHour_n239 rfl rfl rfl (nst_at hN 74 rfl) (hts (.initialized RX10) (List.mem_cons_of_mem _ (List.mem_append_left _ (List.mem_append_left _ (List.mem_append_left _ (List.mem_append_left _ (List.mem_append_left _ (List.mem_append_left _ (List.mem_append_left _ (List.mem_append_left _ (List.mem_of_getElem? (i := 17) rfl))))))))))) (by decide +kernel) ⟨Nat.le_of_ble_eq_true rfl, Nat.le_of_ble_eq_true rfl⟩, (hts (.instanceMethod yX10_nextHour) (List.mem_cons_of_mem _ (List.mem_append_left _ (List.mem_append_left _ (List.mem_append_left _ (List.mem_append_left _ (List.mem_append_left _ (List.mem_append_left _ (List.mem_append_left _ (List.mem_append_left _ (List.mem_of_getElem? (i := 16) rfl))))))))))), (hts (.selects RX10 yX10_nextHour yX10_nextHour) (List.mem_cons_of_mem _ (List.mem_append_left _ (List.mem_append_left _ (List.mem_append_left _ (List.mem_append_left _ (List.mem_append_left _ (List.mem_append_left _ (List.mem_append_left _ (List.mem_append_left _ (List.mem_of_getElem? (i := 18) rfl)))))))))))⟩ (mkV hK hN (hP.sub [1, 4, 2, 7] rfl) (hD.sub [1, 4, 2, 7] (by decide) rfl) (ci := 10) (q0 := 0) rfl rfl) rfl rfl hl.1 rfl (lv_room (Nat.le_of_ble_eq_true rfl)) dX11_pass_21 ⟨Nat.le_of_ble_eq_true rfl, Nat.le_of_ble_eq_true rfl⟩) hP hD hS hA [1, 4, 2, 7] [0, 3, 5, 6] rfl rfl (by decide) (by decide) (fun r_3 u_4 H locs hw hP hD hS => ?_)
  have hP : va_P D vwCl [(a0, .inr (11, [.ref a2, g1, g2, g3, g4, g5, g6, .ref a8, g8, .ref a3, g10, g11, g12, g13, g14, g15, g16])), (a3, .inr (2, [.ref a5, .int 0, .int 0])), (a5, .inl (K 0, 476, .inl ((u_2.2.1 0)))), (a6, .inl (K 0, 56, .inl (fun _ => 0))), (a8, .inr (10, [r0])), (a2, .inr (9, [.ref a6, .ref a9, .ref a7, k3, .int 0, k5, k6, .int 0, k8, k9])), (a9, .inl (K 0, 24, .inl (fun _ => 0))), (a7, .inl (K 0, 6, .inl ((u_4.2.1 0))))] H := hP
  have hD : va_D A [(a0, .inr (11, [.ref a2, g1, g2, g3, g4, g5, g6, .ref a8, g8, .ref a3, g10, g11, g12, g13, g14, g15, g16])), (a3, .inr (2, [.ref a5, .int 0, .int 0])), (a5, .inl (K 0, 476, .inl ((u_2.2.1 0)))), (a6, .inl (K 0, 56, .inl (fun _ => 0))), (a8, .inr (10, [r0])), (a2, .inr (9, [.ref a6, .ref a9, .ref a7, k3, .int 0, k5, k6, .int 0, k8, k9])), (a9, .inl (K 0, 24, .inl (fun _ => 0))), (a7, .inl (K 0, 6, .inl ((u_4.2.1 0))))] := hD
  obtain ⟨rfl, hu0, hu1⟩ := hw
  refine kci (wr := [(a6, .inl (K 0, 56, .inl (fun _ => 0))), (a8, .inr (10, [r0])), (a2, .inr (9, [.ref a6, .ref a9, .ref a7, k3, .int 0, k5, k6, .int 0, k8, k9])), (a9, .inl (K 0, 24, .inl (fun _ => 0))), (a7, .inl (K 0, 6, .inl ((u_4.2.1 0))))]) (va_runV (As := [.int 3, .int 1]) (rest := []) ⟨hx, hb, hml, hown, hts⟩ (c_settle_pass l D K a0 (.ref a2) g1 g2 g3 g4 g5 g6 (.ref a8) g8 a3 g10 g11 g12 g13 g14 g15 g16 a5 (u_2.2.1 0) H.size) (cwV 2 hts gX11_pass_X11_settle rfl rfl rfl (by decide +kernel) ⟨Nat.le_of_ble_eq_true rfl, Nat.le_of_ble_eq_true rfl⟩) (mkV hK hN (hP.sub [0, 1, 2] rfl) (hD.sub [0, 1, 2] (by decide) rfl) (ci := 11) (q0 := 0) rfl rfl) rfl rfl hl.1 rfl (lv_room (Nat.le_of_ble_eq_true rfl)) dX11_pass_24 ⟨Nat.le_of_ble_eq_true rfl, Nat.le_of_ble_eq_true rfl⟩) hP hD hS hA [0, 1, 2] [3, 4, 5, 6, 7] rfl rfl (by decide) (by decide) (fun r_5 u_6 H locs hw hP hD hS => ?_)
  have hP : va_P D vwCl [(a6, .inl (K 0, 56, .inl (fun _ => 0))), (a8, .inr (10, [r0])), (a2, .inr (9, [.ref a6, .ref a9, .ref a7, k3, .int 0, k5, k6, .int 0, k8, k9])), (a9, .inl (K 0, 24, .inl (fun _ => 0))), (a7, .inl (K 0, 6, .inl ((u_4.2.1 0))))] H := hP
  have hD : va_D A [(a6, .inl (K 0, 56, .inl (fun _ => 0))), (a8, .inr (10, [r0])), (a2, .inr (9, [.ref a6, .ref a9, .ref a7, k3, .int 0, k5, k6, .int 0, k8, k9])), (a9, .inl (K 0, 24, .inl (fun _ => 0))), (a7, .inl (K 0, 6, .inl ((u_4.2.1 0))))] := hD
  obtain rfl : r_5 = 1 := hw
  exact W.iret (v := 1) hx hb hr (fun t ht hW => ⟨⟨1, (), rfl, (by first | exact rfl), Wd.nil⟩, hS.F ht⟩) hS.2.2 dX11_pass_27
set_option maxHeartbeats 4000000 in
set_option maxRecDepth 100000 in
theorem c_takeBack (l : Launch) (D : va_G) (K : Nat → ClassId) (a0 : Nat) (a1 : Nat) (g0 : Value) (g1 : Value) (sz : Nat) : Met l yX2_takeBack wsX2_takeBack ({ frames := 0, cells := 0, slots := 0, locals := 0 }) (va_Pc [.ref a0, .ref a1] (Pre D K [(a0, .inr (2, [g0, g1, .int 0]))] sz)) (vp_Si (fun r : Int32 => (r = (-1)))) 0 0 (fun _ => False) := by
  refine Met.ofW (cc := cX2_takeBack) (maxL := 4) (ret := (some .int)) (by decide) rfl ?_
  intro p e s m args below meth c s₁ B hml hv
  obtain ⟨rfl, hsz, hP, hK, hD0, hN⟩ := hv
  have hx := B.exec
  have hb := B.bytes
  have hr := B.returns
  have hts := atoms_spec (ws := wsX2_takeBack) B.pre
  have hown : s.vm.findClass RX2 = some m.cls := findClass_of_methodNamed B.named
  have hlocks := B.notSynchronized
  subst hsz
  have hD := hD0
  have hP : va_P D vwCl [(a0, .inr (2, [g0, g1, .int 0]))] s.heap := hP
  have hl := lv_entry [.ref a0, .ref a1] (n := 4) (Nat.le_of_ble_eq_true rfl)
  rw [lg_entry_eq]
  generalize (lg_sl [.ref a0, .ref a1] ++ List.replicate (4 - (lg_sl [.ref a0, .ref a1]).length) Slot.unset).toArray = ls at hl ⊢
  have hl : lv_has ls 4 [(0, .ref a0), (1, .ref a1)] := hl
  have hw2 : ∀ w ∈ wsX20, w ∈ wsX2_takeBack := fun w h => (List.mem_cons_of_mem _ (List.mem_append_left _ (List.mem_append_right _ h)))
  have hw9 : ∀ w ∈ wsX90, w ∈ wsX2_takeBack := fun w h => (List.mem_cons_of_mem _ (List.mem_append_right _ h))
  refine lv_aload_n hx hb dX2_takeBack_0 rfl (lv_at hl 0 rfl) ?_
  refine va_get (ci := 2) (v := .int 0) (C := RX2) (T := TX2) (N := 3) hx hb hts hw2 hown hK hP 0 rfl rfl 2 (by decide) (hts (.fieldLink RX2 19 "SmokeTune$History" "kept" "I") (List.mem_cons_of_mem _ (List.mem_append_left _ (List.mem_append_left _ (List.mem_of_getElem? (i := 0) rfl))))) (fun _ h9 => h9) rfl dX2_takeBack_1 ?_
  refine lv_if_ne (tgt := 9) hx hb dX2_takeBack_4 (by decide) (fun c_1 => absurd c_1 (by decide)) (fun c_1 => ?_)
  refine lv_iconst (v := (-1)) hx hb dX2_takeBack_7 (by decide) ?_
  exact W.iret (v := (-1)) hx hb hr (fun t ht hW => ⟨_, rfl, (by first | exact rfl), ht⟩) (fun q hq => by cases hq) dX2_takeBack_8
set_option maxHeartbeats 4000000 in
set_option maxRecDepth 100000 in
theorem t_undo (l : Launch) (D : va_G) (K : Nat → ClassId) (a0 : Nat) (a2 : Nat) (g1 : Value) (g2 : Value) (g3 : Value) (g4 : Value) (g5 : Value) (g6 : Value) (g7 : Value) (g8 : Value) (a3 : Nat) (g10 : Value) (g11 : Value) (a1 : Nat) (g13 : Value) (g14 : Value) (g15 : Value) (g16 : Value) (f : Nat → Int32) (p0 : Value) (p1 : Value) (sz : Nat) : Met l yX11_undo wsX11_undo ({ frames := 2, cells := 0, slots := 0, locals := 44 }) (va_Pc [.ref a0] (Pre D K [(a0, .inr (11, [.ref a2, g1, g2, g3, g4, g5, g6, g7, g8, .ref a3, g10, g11, .ref a1, g13, g14, g15, g16])), (a1, .inl (K 0, 5, .inl f)), (a3, .inr (2, [p0, p1, .int 0]))] sz)) (va_Qi (S := Unit) (fun (r : Int32) (_ : Unit) => (r = (-3))) (fun u t => Wd D (va_A [(a0, .inr (11, [.ref a2, g1, g2, g3, g4, g5, g6, g7, g8, .ref a3, g10, g11, .ref a1, g13, g14, g15, g16])), (a1, .inl (K 0, 5, .inl f)), (a3, .inr (2, [p0, p1, .int 0]))] sz) ((fun _ => []) u) t) (va_A [(a0, .inr (11, [.ref a2, g1, g2, g3, g4, g5, g6, g7, g8, .ref a3, g10, g11, .ref a1, g13, g14, g15, g16])), (a1, .inl (K 0, 5, .inl f)), (a3, .inr (2, [p0, p1, .int 0]))] sz)) 0 0 (va_A [(a0, .inr (11, [.ref a2, g1, g2, g3, g4, g5, g6, g7, g8, .ref a3, g10, g11, .ref a1, g13, g14, g15, g16])), (a1, .inl (K 0, 5, .inl f)), (a3, .inr (2, [p0, p1, .int 0]))] sz) := by
  refine Met.ofW (cc := cX11_undo) (maxL := 2) (ret := (some .int)) (by decide) rfl ?_
  intro p e s m args below meth c s₁ B hml hv
  obtain ⟨rfl, hsz, hP, hK, hD0, hN⟩ := hv
  have hx := B.exec
  have hb := B.bytes
  have hr := B.returns
  have hts := atoms_spec (ws := wsX11_undo) B.pre
  have hown : s.vm.findClass RX11 = some m.cls := findClass_of_methodNamed B.named
  have hlocks := B.notSynchronized
  subst hsz
  have hD := hD0.self (sz := s.heap.size)
  generalize hAe : va_A [(a0, .inr (11, [.ref a2, g1, g2, g3, g4, g5, g6, g7, g8, .ref a3, g10, g11, .ref a1, g13, g14, g15, g16])), (a1, .inl (K 0, 5, .inl f)), (a3, .inr (2, [p0, p1, .int 0]))] s.heap.size = A at hD ⊢
  have hA : ∀ q : Nat, s.heap.size ≤ q → A q := fun q h => by rw [← hAe]; exact Or.inr h
  have hS : va_S A s.heap s.heap [] := va_S.rf
  have hP : va_P D vwCl [(a0, .inr (11, [.ref a2, g1, g2, g3, g4, g5, g6, g7, g8, .ref a3, g10, g11, .ref a1, g13, g14, g15, g16])), (a1, .inl (K 0, 5, .inl f)), (a3, .inr (2, [p0, p1, .int 0]))] s.heap := hP
  have hl := lv_entry [.ref a0] (n := 2) (Nat.le_of_ble_eq_true rfl)
  rw [lg_entry_eq]
  generalize (lg_sl [.ref a0] ++ List.replicate (2 - (lg_sl [.ref a0]).length) Slot.unset).toArray = ls at hl ⊢
  have hl : lv_has ls 2 [(0, .ref a0)] := hl
  have hw2 : ∀ w ∈ wsX20, w ∈ wsX11_undo := fun w h => (List.mem_cons_of_mem _ (List.mem_append_left _ (List.mem_append_right _ h)))
  have hw9 : ∀ w ∈ wsX90, w ∈ wsX11_undo := fun w h => (List.mem_cons_of_mem _ (List.mem_append_right _ h))
  have hw11 : ∀ w ∈ wsX110, w ∈ wsX11_undo := fun w h => (List.mem_cons_of_mem _ (List.mem_append_left _ (List.mem_append_left _ (List.mem_append_right _ h))))
  refine lv_aload_n hx hb dX11_undo_0 rfl (lv_at hl 0 rfl) ?_
  refine va_get (ci := 11) (v := .ref a3) (C := RX11) (T := TX11) (N := 17) hx hb hts hw11 hown hK hP 0 rfl rfl 9 (by decide) (hts (.fieldLink RX11 61 "SmokeTune" "history" "LSmokeTune$History;") (List.mem_cons_of_mem _ (List.mem_append_left _ (List.mem_append_left _ (List.mem_append_left _ (List.mem_append_left _ (List.mem_of_getElem? (i := 0) rfl))))))) (fun _ h9 => h9) rfl dX11_undo_1 ?_
  refine lv_aload_n hx hb dX11_undo_4 rfl (lv_at hl 0 rfl) ?_
  refine va_get (ci := 11) (v := .ref a2) (C := RX11) (T := TX11) (N := 17) hx hb hts hw11 hown hK hP 0 rfl rfl 0 (by decide) (hts (.fieldLink RX11 10 "SmokeTune" "town" "LSmokeTune$Town;") (List.mem_cons_of_mem _ (List.mem_append_left _ (List.mem_append_left _ (List.mem_append_left _ (List.mem_append_left _ (List.mem_of_getElem? (i := 1) rfl))))))) (fun _ h9 => h9) rfl dX11_undo_5 ?_
  refine pci (va_runVN (As := [.ref a2]) (rest := []) ⟨hx, hb, hml, hown, hts⟩ (c_takeBack l D K a3 a2 p0 p1 s.heap.size) ⟨va_cnB 1 hts gX11_undo_X2_takeBack_n242 rfl rfl rfl (nst_at hN 75 rfl) (hts (.initialized RX2) (List.mem_cons_of_mem _ (List.mem_append_left _ (List.mem_append_left _ (List.mem_append_left _ (List.mem_append_left _ (List.mem_of_getElem? (i := 3) rfl))))))) (by decide +kernel) ⟨Nat.le_of_ble_eq_true rfl, Nat.le_of_ble_eq_true rfl⟩, (hts (.instanceMethod yX2_takeBack) (List.mem_cons_of_mem _ (List.mem_append_left _ (List.mem_append_left _ (List.mem_append_left _ (List.mem_append_left _ (List.mem_of_getElem? (i := 2) rfl))))))), (hts (.selects RX2 yX2_takeBack yX2_takeBack) (List.mem_cons_of_mem _ (List.mem_append_left _ (List.mem_append_left _ (List.mem_append_left _ (List.mem_append_left _ (List.mem_of_getElem? (i := 4) rfl)))))))⟩ (mkV hK hN (hP.sub [2] rfl) (hD.sub [2] (by decide) rfl) (ci := 2) (q0 := 0) rfl rfl) rfl rfl hl.1 rfl (lv_room (Nat.le_of_ble_eq_true rfl)) dX11_undo_8 ⟨Nat.le_of_ble_eq_true rfl, Nat.le_of_ble_eq_true rfl⟩) (fun r_1 hw => ?_)
  obtain rfl : r_1 = (-1) := hw
  refine lv_istore_n (lv' := [(1, .int (-1)), (0, .ref a0)]) hx hb dX11_undo_11 rfl hl (by decide) rfl (fun ls hl => ?_)
  refine lv_iload_n hx hb dX11_undo_12 rfl (lv_at hl 0 rfl) ?_
  refine lv_iconst (v := (-1)) hx hb dX11_undo_13 (by decide) ?_
  refine lv_icmp_ne (tgt := 26) hx hb dX11_undo_14 (by decide) (fun c_2 => absurd c_2 (by decide)) (fun c_2 => ?_)
  refine lv_aload_n hx hb dX11_undo_17 rfl (lv_at hl 1 rfl) ?_
  refine lv_bipush (v := (-3)) hx hb dX11_undo_18 (by decide) ?_
  refine kci (wr := [(a3, .inr (2, [p0, p1, .int 0]))]) (va_runV (As := [.int (-3)]) (rest := []) ⟨hx, hb, hml, hown, hts⟩ (c_refuse_3 l D K a0 (.ref a2) g1 g2 g3 g4 g5 g6 g7 g8 (.ref a3) g10 g11 a1 g13 g14 g15 g16 f s.heap.size) (cwV 1 hts gX11_undo_X11_refuse rfl rfl rfl (by decide +kernel) ⟨Nat.le_of_ble_eq_true rfl, Nat.le_of_ble_eq_true rfl⟩) (mkV hK hN (hP.sub [0, 1] rfl) (hD.sub [0, 1] (by decide) rfl) (ci := 11) (q0 := 0) rfl rfl) rfl rfl hl.1 rfl (lv_room (Nat.le_of_ble_eq_true rfl)) dX11_undo_20 ⟨Nat.le_of_ble_eq_true rfl, Nat.le_of_ble_eq_true rfl⟩) hP hD hS hA [0, 1] [2] rfl rfl (by decide) (by decide) (fun r_3 u_4 H locs hw hP hD hS => ?_)
  have hP : va_P D vwCl [(a3, .inr (2, [p0, p1, .int 0]))] H := hP
  have hD : va_D A [(a3, .inr (2, [p0, p1, .int 0]))] := hD
  obtain rfl : r_3 = (-3) := hw
  refine lv_goto (tgt := 31) hx hb dX11_undo_23 (by decide) ?_
  exact W.iret (v := (-3)) hx hb hr (fun t ht hW => ⟨⟨(-3), (), rfl, (by first | exact rfl), Wd.nil⟩, hS.F ht⟩) hS.2.2 dX11_undo_31
set_option maxHeartbeats 4000000 in
set_option maxRecDepth 100000 in
theorem t_sounds (l : Launch) (D : va_G) (K : Nat → ClassId) (a0 : Nat) (x : Int32) (a2 : Nat) (g1 : Value) (g2 : Value) (g3 : Value) (g4 : Value) (g5 : Value) (g6 : Value) (g7 : Value) (g8 : Value) (g9 : Value) (g10 : Value) (g11 : Value) (g12 : Value) (g13 : Value) (g14 : Value) (g15 : Value) (g16 : Value) (k0 : Value) (a3 : Nat) (a4 : Nat) (k3 : Value) (k5 : Value) (k6 : Value) (k7 : Value) (k8 : Value) (k9 : Value) (sz : Nat) : Met l yX11_sounds wsX11_sounds ({ frames := 2, cells := 0, slots := 0, locals := 46 }) (va_Pc [.ref a0, .int x] (Pre D K [(a0, .inr (11, [.ref a2, g1, g2, g3, g4, g5, g6, g7, g8, g9, g10, g11, g12, g13, g14, g15, g16])), (a2, .inr (9, [k0, .ref a3, .ref a4, k3, .int 0, k5, k6, k7, k8, k9])), (a3, .inl (K 0, 24, .inl (fun _ => 0))), (a4, .inl (K 0, 6, .inl tm0))] sz)) (vp_Si (fun r : Int32 => (r = 0 ∧ x.toInt = 0) ∨ (r = 0 ∧ x.toInt = 1) ∨ (r = 1 ∧ x.toInt = 2) ∨ (r = (-1) ∧ (x.toInt < 0 ∨ 2 < x.toInt)))) 0 0 (fun _ => False) := by
  refine Met.ofW (cc := cX11_sounds) (maxL := 2) (ret := (some .int)) (by decide) rfl ?_
  intro p e s m args below meth c s₁ B hml hv
  obtain ⟨rfl, hsz, hP, hK, hD0, hN⟩ := hv
  have hx := B.exec
  have hb := B.bytes
  have hr := B.returns
  have hts := atoms_spec (ws := wsX11_sounds) B.pre
  have hown : s.vm.findClass RX11 = some m.cls := findClass_of_methodNamed B.named
  have hlocks := B.notSynchronized
  subst hsz
  have hD := hD0
  have hP : va_P D vwCl [(a0, .inr (11, [.ref a2, g1, g2, g3, g4, g5, g6, g7, g8, g9, g10, g11, g12, g13, g14, g15, g16])), (a2, .inr (9, [k0, .ref a3, .ref a4, k3, .int 0, k5, k6, k7, k8, k9])), (a3, .inl (K 0, 24, .inl (fun _ => 0))), (a4, .inl (K 0, 6, .inl tm0))] s.heap := hP
  have hl := lv_entry [.ref a0, .int x] (n := 2) (Nat.le_of_ble_eq_true rfl)
  rw [lg_entry_eq]
  generalize (lg_sl [.ref a0, .int x] ++ List.replicate (2 - (lg_sl [.ref a0, .int x]).length) Slot.unset).toArray = ls at hl ⊢
  have hl : lv_has ls 2 [(0, .ref a0), (1, .int x)] := hl
  have hw9 : ∀ w ∈ wsX90, w ∈ wsX11_sounds := fun w h => (List.mem_cons_of_mem _ (List.mem_append_right _ h))
  have hw11 : ∀ w ∈ wsX110, w ∈ wsX11_sounds := fun w h => (List.mem_cons_of_mem _ (List.mem_append_left _ (List.mem_append_right _ h)))
  have hsp : (x = 0 ∨ x = 1 ∨ x = 2) ∨ (x.toInt < 0 ∨ 2 < x.toInt) := by
    by_cases q1 : x.toInt < 0
    · exact Or.inr (Or.inl q1)
    · by_cases q2 : 2 < x.toInt
      · exact Or.inr (Or.inr q2)
      · refine Or.inl ?_
        have q3 : x.toInt = 0 ∨ x.toInt = 1 ∨ x.toInt = 2 := by omega
        rcases q3 with q3 | q3 | q3
        · exact Or.inl (i_lit q3 rfl)
        · exact Or.inr (Or.inl (i_lit q3 rfl))
        · exact Or.inr (Or.inr (i_lit q3 rfl))
  rcases hsp with (rfl | rfl | rfl) | hsp
  · refine lv_iload_n hx hb dX11_sounds_0 rfl (lv_at hl 1 rfl) ?_
    refine lv_tableIn (tgt := 28) hx hb dX11_sounds_1 (by decide) (by decide) rfl (by decide) ?_
    refine lv_aload_n hx hb dX11_sounds_28 rfl (lv_at hl 0 rfl) ?_
    refine va_get (ci := 11) (v := .ref a2) (C := RX11) (T := TX11) (N := 17) hx hb hts hw11 hown hK hP 0 rfl rfl 0 (by decide) (hts (.fieldLink RX11 10 "SmokeTune" "town" "LSmokeTune$Town;") (List.mem_cons_of_mem _ (List.mem_append_left _ (List.mem_append_left _ (List.mem_append_left _ (List.mem_of_getElem? (i := 0) rfl)))))) (fun _ h9 => h9) rfl dX11_sounds_29 ?_
    refine pci (va_runVN (As := []) (rest := []) ⟨hx, hb, hml, hown, hts⟩ (c_notesNow l D K a2 k0 (.ref a3) (.ref a4) k3 k5 k6 k7 k8 k9 s.heap.size) ⟨va_cnB 0 hts gX11_sounds_X9_notesNow_n210 rfl rfl rfl (nst_at hN 66 rfl) (hts (.initialized RX9) (List.mem_cons_of_mem _ (List.mem_append_left _ (List.mem_append_left _ (List.mem_append_left _ (List.mem_of_getElem? (i := 2) rfl)))))) (by decide +kernel) ⟨Nat.le_of_ble_eq_true rfl, Nat.le_of_ble_eq_true rfl⟩, (hts (.instanceMethod yX9_notesNow) (List.mem_cons_of_mem _ (List.mem_append_left _ (List.mem_append_left _ (List.mem_append_left _ (List.mem_of_getElem? (i := 1) rfl)))))), (hts (.selects RX9 yX9_notesNow yX9_notesNow) (List.mem_cons_of_mem _ (List.mem_append_left _ (List.mem_append_left _ (List.mem_append_left _ (List.mem_of_getElem? (i := 3) rfl))))))⟩ (mkV hK hN (hP.sub [1] rfl) (hD.sub [1] (by decide) rfl) (ci := 9) (q0 := 0) rfl rfl) rfl rfl hl.1 rfl (lv_room (Nat.le_of_ble_eq_true rfl)) dX11_sounds_32 ⟨Nat.le_of_ble_eq_true rfl, Nat.le_of_ble_eq_true rfl⟩) (fun r_1 hw => ?_)
    obtain rfl : r_1 = 0 := hw
    exact W.iret (v := 0) hx hb hr (fun t ht hW => ⟨_, rfl, (by first | exact Or.inl (⟨rfl, by first | omega | decide | (subst_vars; assumption)⟩) | exact Or.inr (Or.inl (⟨rfl, by first | omega | decide | (subst_vars; assumption)⟩))), ht⟩) (fun q hq => by cases hq) dX11_sounds_35
  · refine lv_iload_n hx hb dX11_sounds_0 rfl (lv_at hl 1 rfl) ?_
    refine lv_tableIn (tgt := 36) hx hb dX11_sounds_1 (by decide) (by decide) rfl (by decide) ?_
    refine lv_aload_n hx hb dX11_sounds_36 rfl (lv_at hl 0 rfl) ?_
    refine va_get (ci := 11) (v := .ref a2) (C := RX11) (T := TX11) (N := 17) hx hb hts hw11 hown hK hP 0 rfl rfl 0 (by decide) (hts (.fieldLink RX11 10 "SmokeTune" "town" "LSmokeTune$Town;") (List.mem_cons_of_mem _ (List.mem_append_left _ (List.mem_append_left _ (List.mem_append_left _ (List.mem_of_getElem? (i := 0) rfl)))))) (fun _ h9 => h9) rfl dX11_sounds_37 ?_
    refine pci (va_runVN (As := []) (rest := []) ⟨hx, hb, hml, hown, hts⟩ (c_thirdsNow l D K a2 k0 (.ref a3) (.ref a4) k3 k5 k6 k7 k8 k9 s.heap.size) ⟨va_cnB 0 hts gX11_sounds_X9_thirdsNow_n214 rfl rfl rfl (nst_at hN 67 rfl) (hts (.initialized RX9) (List.mem_cons_of_mem _ (List.mem_append_left _ (List.mem_append_left _ (List.mem_append_left _ (List.mem_of_getElem? (i := 2) rfl)))))) (by decide +kernel) ⟨Nat.le_of_ble_eq_true rfl, Nat.le_of_ble_eq_true rfl⟩, (hts (.instanceMethod yX9_thirdsNow) (List.mem_cons_of_mem _ (List.mem_append_left _ (List.mem_append_left _ (List.mem_append_left _ (List.mem_of_getElem? (i := 20) rfl)))))), (hts (.selects RX9 yX9_thirdsNow yX9_thirdsNow) (List.mem_cons_of_mem _ (List.mem_append_left _ (List.mem_append_left _ (List.mem_append_left _ (List.mem_of_getElem? (i := 21) rfl))))))⟩ (mkV hK hN (hP.sub [1] rfl) (hD.sub [1] (by decide) rfl) (ci := 9) (q0 := 0) rfl rfl) rfl rfl hl.1 rfl (lv_room (Nat.le_of_ble_eq_true rfl)) dX11_sounds_40 ⟨Nat.le_of_ble_eq_true rfl, Nat.le_of_ble_eq_true rfl⟩) (fun r_2 hw => ?_)
    obtain rfl : r_2 = 0 := hw
    exact W.iret (v := 0) hx hb hr (fun t ht hW => ⟨_, rfl, (by first | exact Or.inl (⟨rfl, by first | omega | decide | (subst_vars; assumption)⟩) | exact Or.inr (Or.inl (⟨rfl, by first | omega | decide | (subst_vars; assumption)⟩))), ht⟩) (fun q hq => by cases hq) dX11_sounds_43
  · refine lv_iload_n hx hb dX11_sounds_0 rfl (lv_at hl 1 rfl) ?_
    refine lv_tableIn (tgt := 44) hx hb dX11_sounds_1 (by decide) (by decide) rfl (by decide) ?_
    refine lv_aload_n hx hb dX11_sounds_44 rfl (lv_at hl 0 rfl) ?_
    refine va_get (ci := 11) (v := .ref a2) (C := RX11) (T := TX11) (N := 17) hx hb hts hw11 hown hK hP 0 rfl rfl 0 (by decide) (hts (.fieldLink RX11 10 "SmokeTune" "town" "LSmokeTune$Town;") (List.mem_cons_of_mem _ (List.mem_append_left _ (List.mem_append_left _ (List.mem_append_left _ (List.mem_of_getElem? (i := 0) rfl)))))) (fun _ h9 => h9) rfl dX11_sounds_45 ?_
    refine pci (va_runVN (As := []) (rest := []) ⟨hx, hb, hml, hown, hts⟩ (c_meetsChord l D K a2 k0 a3 a4 k3 k5 k6 k7 k8 k9 (fun _ => 0) tm0 0 0 s.heap.size rfl rfl (by omega) (by omega) (fun _ _ => rfl)) ⟨va_cnB 0 hts gX11_sounds_X9_meetsChord_n217 rfl rfl rfl (nst_at hN 68 rfl) (hts (.initialized RX9) (List.mem_cons_of_mem _ (List.mem_append_left _ (List.mem_append_left _ (List.mem_append_left _ (List.mem_of_getElem? (i := 2) rfl)))))) (by decide +kernel) ⟨Nat.le_of_ble_eq_true rfl, Nat.le_of_ble_eq_true rfl⟩, (hts (.instanceMethod yX9_meetsChord) (List.mem_cons_of_mem _ (List.mem_append_left _ (List.mem_append_left _ (List.mem_append_right _ (List.mem_of_getElem? (i := 0) rfl)))))), (hts (.selects RX9 yX9_meetsChord yX9_meetsChord) (List.mem_cons_of_mem _ (List.mem_append_left _ (List.mem_append_left _ (List.mem_append_right _ (List.mem_of_getElem? (i := 1) rfl))))))⟩ (mkV hK hN (hP.sub [1, 2, 3] rfl) (hD.sub [1, 2, 3] (by decide) rfl) (ci := 9) (q0 := 0) rfl rfl) rfl rfl hl.1 rfl (lv_room (Nat.le_of_ble_eq_true rfl)) dX11_sounds_48 ⟨Nat.le_of_ble_eq_true rfl, Nat.le_of_ble_eq_true rfl⟩) (fun r_3 hw => ?_)
    obtain rfl : r_3 = 1 := hw
    refine lv_if_eq (tgt := 58) hx hb dX11_sounds_51 (by decide) (fun c_4 => absurd c_4 (by decide)) (fun c_4 => ?_)
    refine lv_iconst (v := 1) hx hb dX11_sounds_54 (by decide) ?_
    refine lv_goto (tgt := 59) hx hb dX11_sounds_55 (by decide) ?_
    exact W.iret (v := 1) hx hb hr (fun t ht hW => ⟨_, rfl, (by first | exact Or.inr (Or.inr (Or.inl (⟨rfl, by first | omega | decide | (subst_vars; assumption)⟩)))), ht⟩) (fun q hq => by cases hq) dX11_sounds_59
  · refine lv_iload_n hx hb dX11_sounds_0 rfl (lv_at hl 1 rfl) ?_
    refine lv_tableOut (tgt := 60) hx hb dX11_sounds_1 (by omega) (by decide) ?_
    refine lv_iconst (v := (-1)) hx hb dX11_sounds_60 (by decide) ?_
    exact W.iret (v := (-1)) hx hb hr (fun t ht hW => ⟨_, rfl, (by first | exact Or.inr (Or.inr (Or.inr (⟨rfl, by first | omega | decide | (subst_vars; assumption)⟩)))), ht⟩) (fun q hq => by cases hq) dX11_sounds_61
set_option maxHeartbeats 4000000 in
set_option maxRecDepth 100000 in
theorem t_drawn (l : Launch) (D : va_G) (K : Nat → ClassId) (a0 : Nat) (x : Int32) (y : Int32) (g0 : Value) (g1 : Value) (g2 : Value) (g3 : Value) (g4 : Value) (g5 : Value) (g6 : Value) (g7 : Value) (g8 : Value) (g9 : Value) (g10 : Value) (g11 : Value) (g12 : Value) (g13 : Value) (g14 : Value) (g16 : Value) (sz : Nat) : Met l yX11_drawn wsX11_drawn ({ frames := 0, cells := 0, slots := 0, locals := 0 }) (va_Pc [.ref a0, .int x, .int y] (Pre D K [(a0, .inr (11, [g0, g1, g2, g3, g4, g5, g6, g7, g8, g9, g10, g11, g12, g13, g14, .int 0, g16]))] sz)) (vp_Si (fun r : Int32 => (r = (-1)))) 0 0 (fun _ => False) := by
  refine Met.ofW (cc := cX11_drawn) (maxL := 3) (ret := (some .int)) (by decide) rfl ?_
  intro p e s m args below meth c s₁ B hml hv
  obtain ⟨rfl, hsz, hP, hK, hD0, hN⟩ := hv
  have hx := B.exec
  have hb := B.bytes
  have hr := B.returns
  have hts := atoms_spec (ws := wsX11_drawn) B.pre
  have hown : s.vm.findClass RX11 = some m.cls := findClass_of_methodNamed B.named
  have hlocks := B.notSynchronized
  subst hsz
  have hD := hD0
  have hP : va_P D vwCl [(a0, .inr (11, [g0, g1, g2, g3, g4, g5, g6, g7, g8, g9, g10, g11, g12, g13, g14, .int 0, g16]))] s.heap := hP
  have hl := lv_entry [.ref a0, .int x, .int y] (n := 3) (Nat.le_of_ble_eq_true rfl)
  rw [lg_entry_eq]
  generalize (lg_sl [.ref a0, .int x, .int y] ++ List.replicate (3 - (lg_sl [.ref a0, .int x, .int y]).length) Slot.unset).toArray = ls at hl ⊢
  have hl : lv_has ls 3 [(0, .ref a0), (1, .int x), (2, .int y)] := hl
  have hw9 : ∀ w ∈ wsX90, w ∈ wsX11_drawn := fun w h => (List.mem_cons_of_mem _ (List.mem_append_right _ h))
  have hw11 : ∀ w ∈ wsX110, w ∈ wsX11_drawn := fun w h => (List.mem_cons_of_mem _ (List.mem_append_left _ (List.mem_append_right _ h)))
  refine lv_aload_n hx hb dX11_drawn_0 rfl (lv_at hl 0 rfl) ?_
  refine va_get (ci := 11) (v := .int 0) (C := RX11) (T := TX11) (N := 17) hx hb hts hw11 hown hK hP 0 rfl rfl 15 (by decide) (hts (.fieldLink RX11 90 "SmokeTune" "daysKept" "Z") (List.mem_cons_of_mem _ (List.mem_append_left _ (List.mem_append_left _ (List.mem_of_getElem? (i := 0) rfl))))) (fun _ h9 => h9) rfl dX11_drawn_1 ?_
  refine lv_if_ne (tgt := 9) hx hb dX11_drawn_4 (by decide) (fun c_1 => absurd c_1 (by decide)) (fun c_1 => ?_)
  refine lv_iconst (v := (-1)) hx hb dX11_drawn_7 (by decide) ?_
  exact W.iret (v := (-1)) hx hb hr (fun t ht hW => ⟨_, rfl, (by first | exact rfl), ht⟩) (fun q hq => by cases hq) dX11_drawn_8
set_option maxHeartbeats 4000000 in
set_option maxRecDepth 100000 in
theorem t_back (l : Launch) (D : va_G) (K : Nat → ClassId) (a0 : Nat) (x : Int32) (g0 : Value) (g1 : Value) (a2 : Nat) (g3 : Value) (g4 : Value) (g5 : Value) (g6 : Value) (g7 : Value) (g8 : Value) (g9 : Value) (g10 : Value) (g11 : Value) (a1 : Nat) (g13 : Value) (g14 : Value) (g15 : Value) (g16 : Value) (f : Nat → Int32) (sz : Nat) : Met l yX11_back wsX11_back ({ frames := 2, cells := 0, slots := 0, locals := 44 }) (va_Pc [.ref a0, .int x] (Pre D K [(a0, .inr (11, [g0, g1, .ref a2, g3, g4, g5, g6, g7, g8, g9, g10, g11, .ref a1, g13, g14, g15, g16])), (a1, .inl (K 0, 5, .inl f)), (a2, .inl (K 1, 2, .inl (fun _ => 0)))] sz)) (va_Qi (S := Unit) (fun (r : Int32) (_ : Unit) => (r = (-2) ∧ 0 ≤ x.toInt ∧ x.toInt ≤ 1) ∨ (r = (-1) ∧ (x.toInt < 0 ∨ 1 < x.toInt))) (fun u t => Wd D (va_A [(a0, .inr (11, [g0, g1, .ref a2, g3, g4, g5, g6, g7, g8, g9, g10, g11, .ref a1, g13, g14, g15, g16])), (a1, .inl (K 0, 5, .inl f)), (a2, .inl (K 1, 2, .inl (fun _ => 0)))] sz) ((fun _ => []) u) t) (va_A [(a0, .inr (11, [g0, g1, .ref a2, g3, g4, g5, g6, g7, g8, g9, g10, g11, .ref a1, g13, g14, g15, g16])), (a1, .inl (K 0, 5, .inl f)), (a2, .inl (K 1, 2, .inl (fun _ => 0)))] sz)) 0 0 (va_A [(a0, .inr (11, [g0, g1, .ref a2, g3, g4, g5, g6, g7, g8, g9, g10, g11, .ref a1, g13, g14, g15, g16])), (a1, .inl (K 0, 5, .inl f)), (a2, .inl (K 1, 2, .inl (fun _ => 0)))] sz) := by
  refine Met.ofW (cc := cX11_back) (maxL := 2) (ret := (some .int)) (by decide) rfl ?_
  intro p e s m args below meth c s₁ B hml hv
  obtain ⟨rfl, hsz, hP, hK, hD0, hN⟩ := hv
  have hx := B.exec
  have hb := B.bytes
  have hr := B.returns
  have hts := atoms_spec (ws := wsX11_back) B.pre
  have hown : s.vm.findClass RX11 = some m.cls := findClass_of_methodNamed B.named
  have hlocks := B.notSynchronized
  subst hsz
  have hD := hD0.self (sz := s.heap.size)
  generalize hAe : va_A [(a0, .inr (11, [g0, g1, .ref a2, g3, g4, g5, g6, g7, g8, g9, g10, g11, .ref a1, g13, g14, g15, g16])), (a1, .inl (K 0, 5, .inl f)), (a2, .inl (K 1, 2, .inl (fun _ => 0)))] s.heap.size = A at hD ⊢
  have hA : ∀ q : Nat, s.heap.size ≤ q → A q := fun q h => by rw [← hAe]; exact Or.inr h
  have hS : va_S A s.heap s.heap [] := va_S.rf
  have hP : va_P D vwCl [(a0, .inr (11, [g0, g1, .ref a2, g3, g4, g5, g6, g7, g8, g9, g10, g11, .ref a1, g13, g14, g15, g16])), (a1, .inl (K 0, 5, .inl f)), (a2, .inl (K 1, 2, .inl (fun _ => 0)))] s.heap := hP
  have hl := lv_entry [.ref a0, .int x] (n := 2) (Nat.le_of_ble_eq_true rfl)
  rw [lg_entry_eq]
  generalize (lg_sl [.ref a0, .int x] ++ List.replicate (2 - (lg_sl [.ref a0, .int x]).length) Slot.unset).toArray = ls at hl ⊢
  have hl : lv_has ls 2 [(0, .ref a0), (1, .int x)] := hl
  have hw2 : ∀ w ∈ wsX20, w ∈ wsX11_back := fun w h => (List.mem_cons_of_mem _ (List.mem_append_right _ h))
  have hw9 : ∀ w ∈ wsX90, w ∈ wsX11_back := fun w h => (List.mem_cons_of_mem _ (List.mem_append_left _ (List.mem_append_right _ h)))
  have hw11 : ∀ w ∈ wsX110, w ∈ wsX11_back := fun w h => (List.mem_cons_of_mem _ (List.mem_append_left _ (List.mem_append_left _ (List.mem_append_right _ h))))
  refine lv_iload_n hx hb dX11_back_0 rfl (lv_at hl 1 rfl) ?_
  refine lv_iconst (v := 0) hx hb dX11_back_1 (by decide) ?_
  refine lv_iconst (v := 1) hx hb dX11_back_2 (by decide) ?_
  refine pci (va_runS (As := [.int x, .int 0, .int 1]) (rest := []) ⟨hx, hb, hml, hown, hts⟩ (c_within l D K x 0 1 x.toInt 0 1 s.heap.size rfl rfl rfl) (va_cwS 3 hts gX11_back_X11_within rfl rfl rfl (by decide +kernel) ⟨Nat.le_of_ble_eq_true rfl, Nat.le_of_ble_eq_true rfl⟩) (mkS hK hN (hP.sub [] rfl) (hD.sub [] (by decide) rfl)) rfl rfl hl.1 rfl (lv_room (Nat.le_of_ble_eq_true rfl)) dX11_back_3 ⟨Nat.le_of_ble_eq_true rfl, Nat.le_of_ble_eq_true rfl⟩) (fun r_1 hw => ?_)
  rcases hw with ⟨rfl, h_2, h_3⟩ | ⟨rfl, h_4⟩
  · refine lv_if_ne (tgt := 15) hx hb dX11_back_6 (by decide) (fun c_5 => ?_) (fun c_5 => absurd (by decide) c_5)
    refine lv_aload_n hx hb dX11_back_15 rfl (lv_at hl 0 rfl) ?_
    refine va_get (ci := 11) (v := .ref a2) (C := RX11) (T := TX11) (N := 17) hx hb hts hw11 hown hK hP 0 rfl rfl 2 (by decide) (hts (.fieldLink RX11 20 "SmokeTune" "imageKept" "[Z") (List.mem_cons_of_mem _ (List.mem_append_left _ (List.mem_append_left _ (List.mem_append_left _ (List.mem_append_left _ (List.mem_of_getElem? (i := 0) rfl))))))) (fun _ h9 => h9) rfl dX11_back_16 ?_
    refine lv_iload_n hx hb dX11_back_19 rfl (lv_at hl 1 rfl) ?_
    refine va_zald hx hb hK hP 2 1 rfl rfl (i_in rfl (by omega)) dX11_back_20 ?_
    refine lv_topi (fun x_6 ex_6 => ?_)
    obtain rfl : x_6 = 0 := ex_6.trans (by first | rfl | decide | exact rfl)
    refine lv_if_ne (tgt := 31) hx hb dX11_back_21 (by decide) (fun c_7 => absurd c_7 (by decide)) (fun c_7 => ?_)
    refine lv_aload_n hx hb dX11_back_24 rfl (lv_at hl 0 rfl) ?_
    refine lv_bipush (v := (-2)) hx hb dX11_back_25 (by decide) ?_
    refine kci (wr := [(a2, .inl (K 1, 2, .inl (fun _ => 0)))]) (va_runV (As := [.int (-2)]) (rest := []) ⟨hx, hb, hml, hown, hts⟩ (c_refuse_2 l D K a0 g0 g1 (.ref a2) g3 g4 g5 g6 g7 g8 g9 g10 g11 a1 g13 g14 g15 g16 f s.heap.size) (cwV 1 hts gX11_back_X11_refuse rfl rfl rfl (by decide +kernel) ⟨Nat.le_of_ble_eq_true rfl, Nat.le_of_ble_eq_true rfl⟩) (mkV hK hN (hP.sub [0, 1] rfl) (hD.sub [0, 1] (by decide) rfl) (ci := 11) (q0 := 0) rfl rfl) rfl rfl hl.1 rfl (lv_room (Nat.le_of_ble_eq_true rfl)) dX11_back_27 ⟨Nat.le_of_ble_eq_true rfl, Nat.le_of_ble_eq_true rfl⟩) hP hD hS hA [0, 1] [2] rfl rfl (by decide) (by decide) (fun r_8 u_9 H locs hw hP hD hS => ?_)
    have hP : va_P D vwCl [(a2, .inl (K 1, 2, .inl (fun _ => 0)))] H := hP
    have hD : va_D A [(a2, .inl (K 1, 2, .inl (fun _ => 0)))] := hD
    obtain rfl : r_8 = (-2) := hw
    exact W.iret (v := (-2)) hx hb hr (fun t ht hW => ⟨⟨(-2), (), rfl, (by first | exact Or.inl (⟨rfl, by first | omega | decide | (subst_vars; assumption), by first | omega | decide | (subst_vars; assumption)⟩)), Wd.nil⟩, hS.F ht⟩) hS.2.2 dX11_back_30
  · refine lv_if_ne (tgt := 15) hx hb dX11_back_6 (by decide) (fun c_10 => absurd c_10 (by decide)) (fun c_10 => ?_)
    refine lv_aload_n hx hb dX11_back_9 rfl (lv_at hl 0 rfl) ?_
    refine lv_iconst (v := (-1)) hx hb dX11_back_10 (by decide) ?_
    refine kci (wr := [(a2, .inl (K 1, 2, .inl (fun _ => 0)))]) (va_runV (As := [.int (-1)]) (rest := []) ⟨hx, hb, hml, hown, hts⟩ (c_refuse_1 l D K a0 g0 g1 (.ref a2) g3 g4 g5 g6 g7 g8 g9 g10 g11 a1 g13 g14 g15 g16 f s.heap.size) (cwV 1 hts gX11_back_X11_refuse rfl rfl rfl (by decide +kernel) ⟨Nat.le_of_ble_eq_true rfl, Nat.le_of_ble_eq_true rfl⟩) (mkV hK hN (hP.sub [0, 1] rfl) (hD.sub [0, 1] (by decide) rfl) (ci := 11) (q0 := 0) rfl rfl) rfl rfl hl.1 rfl (lv_room (Nat.le_of_ble_eq_true rfl)) dX11_back_11 ⟨Nat.le_of_ble_eq_true rfl, Nat.le_of_ble_eq_true rfl⟩) hP hD hS hA [0, 1] [2] rfl rfl (by decide) (by decide) (fun r_11 u_12 H locs hw hP hD hS => ?_)
    have hP : va_P D vwCl [(a2, .inl (K 1, 2, .inl (fun _ => 0)))] H := hP
    have hD : va_D A [(a2, .inl (K 1, 2, .inl (fun _ => 0)))] := hD
    obtain rfl : r_11 = (-1) := hw
    exact W.iret (v := (-1)) hx hb hr (fun t ht hW => ⟨⟨(-1), (), rfl, (by first | exact Or.inr (⟨rfl, by first | omega | decide | (subst_vars; assumption)⟩)), Wd.nil⟩, hS.F ht⟩) hS.2.2 dX11_back_14
set_option maxHeartbeats 4000000 in
set_option maxRecDepth 100000 in
theorem c_singing (l : Launch) (D : va_G) (K : Nat → ClassId) (a0 : Nat) (k0 : Value) (k1 : Value) (k2 : Value) (k3 : Value) (k5 : Value) (k6 : Value) (k7 : Value) (k8 : Value) (k9 : Value) (sz : Nat) : Met l yX9_singing wsX9_singing ({ frames := 0, cells := 0, slots := 0, locals := 0 }) (va_Pc [.ref a0] (Pre D K [(a0, .inr (9, [k0, k1, k2, k3, .int 0, k5, k6, k7, k8, k9]))] sz)) (vp_Si (fun r : Int32 => (r = 0))) 0 0 (fun _ => False) := by
  refine Met.ofW (cc := cX9_singing) (maxL := 3) (ret := (some .int)) (by decide) rfl ?_
  intro p e s m args below meth c s₁ B hml hv
  obtain ⟨rfl, hsz, hP, hK, hD0, hN⟩ := hv
  have hx := B.exec
  have hb := B.bytes
  have hr := B.returns
  have hts := atoms_spec (ws := wsX9_singing) B.pre
  have hown : s.vm.findClass RX9 = some m.cls := findClass_of_methodNamed B.named
  have hlocks := B.notSynchronized
  subst hsz
  have hD := hD0
  have hP : va_P D vwCl [(a0, .inr (9, [k0, k1, k2, k3, .int 0, k5, k6, k7, k8, k9]))] s.heap := hP
  have hl := lv_entry [.ref a0] (n := 3) (Nat.le_of_ble_eq_true rfl)
  rw [lg_entry_eq]
  generalize (lg_sl [.ref a0] ++ List.replicate (3 - (lg_sl [.ref a0]).length) Slot.unset).toArray = ls at hl ⊢
  have hl : lv_has ls 3 [(0, .ref a0)] := hl
  have hw9 : ∀ w ∈ wsX90, w ∈ wsX9_singing := fun w h => (List.mem_cons_of_mem _ (List.mem_append_right _ h))
  refine lv_iconst (v := 0) hx hb dX9_singing_0 (by decide) ?_
  refine lv_istore_n (lv' := [(1, .int 0), (0, .ref a0)]) hx hb dX9_singing_1 rfl hl (by decide) rfl (fun ls hl => ?_)
  refine lv_iconst (v := 0) hx hb dX9_singing_2 (by decide) ?_
  refine lv_istore_n (lv' := [(2, .int 0), (1, .int 0), (0, .ref a0)]) hx hb dX9_singing_3 rfl hl (by decide) rfl (fun ls hl => ?_)
  refine lv_iload_n hx hb dX9_singing_4 rfl (lv_at hl 0 rfl) ?_
  refine lv_aload_n hx hb dX9_singing_5 rfl (lv_at hl 2 rfl) ?_
  refine va_get (ci := 9) (v := .int 0) (C := RX9) (T := TX9) (N := 10) hx hb hts hw9 hown hK hP 0 rfl rfl 4 (by decide) (hts (.fieldLink RX9 27 "SmokeTune$Town" "houses" "I") (List.mem_cons_of_mem _ (List.mem_append_left _ (List.mem_of_getElem? (i := 0) rfl)))) (fun _ h9 => h9) rfl dX9_singing_6 ?_
  refine lv_icmp_ge (tgt := 34) hx hb dX9_singing_9 (by decide) (fun c_1 => ?_) (fun c_1 => absurd (by decide) c_1)
  refine lv_iload_n hx hb dX9_singing_34 rfl (lv_at hl 1 rfl) ?_
  exact W.iret (v := 0) hx hb hr (fun t ht hW => ⟨_, rfl, (by first | exact rfl), ht⟩) (fun q hq => by cases hq) dX9_singing_35
set_option maxHeartbeats 4000000 in
set_option maxRecDepth 100000 in
theorem t_count (l : Launch) (D : va_G) (K : Nat → ClassId) (a0 : Nat) (x : Int32) (a2 : Nat) (g1 : Value) (g2 : Value) (g3 : Value) (g4 : Value) (a3 : Nat) (g6 : Value) (g7 : Value) (g8 : Value) (a4 : Nat) (g10 : Value) (g11 : Value) (a1 : Nat) (g13 : Value) (g14 : Value) (g15 : Value) (g16 : Value) (k0 : Value) (k1 : Value) (a5 : Nat) (k3 : Value) (k9 : Value) (p0 : Value) (p2 : Value) (p3 : Value) (p4 : Value) (p5 : Value) (q0 : Value) (q1 : Value) (sz : Nat) : Met l yX11_count wsX11_count ({ frames := 1, cells := 0, slots := 0, locals := 22 }) (va_Pc [.ref a0, .int x] (Pre D K [(a0, .inr (11, [.ref a2, g1, g2, g3, g4, .ref a3, g6, g7, g8, .ref a4, g10, g11, .ref a1, g13, g14, g15, g16])), (a1, .inl (K 0, 5, .inl (fun _ => 0))), (a2, .inr (9, [k0, k1, .ref a5, k3, .int 0, .int 0, .int (-1), .int 0, .int 0, k9])), (a3, .inr (8, [p0, .int 0, p2, p3, p4, p5])), (a4, .inr (2, [q0, q1, .int 0])), (a5, .inl (K 0, 6, .inl tm0))] sz)) (vp_Si (fun r : Int32 => (r = 0 ∧ (x.toInt = 0 ∨ x.toInt = 1 ∨ x.toInt = 2 ∨ x.toInt = 3 ∨ x.toInt = 4 ∨ x.toInt = 5 ∨ x.toInt = 6 ∨ x.toInt = 7 ∨ x.toInt = 8 ∨ x.toInt = 9 ∨ x.toInt = 10 ∨ x.toInt = 12 ∨ x.toInt = 13 ∨ x.toInt = 14 ∨ x.toInt = 18)) ∨ (r = 3 ∧ (x.toInt = 15 ∨ x.toInt = 17)) ∨ (r = 12 ∧ x.toInt = 16) ∨ (r = (-1) ∧ (x.toInt < 0 ∨ x.toInt = 11 ∨ 18 < x.toInt)))) 0 0 (fun _ => False) := by
  refine Met.ofW (cc := cX11_count) (maxL := 2) (ret := (some .int)) (by decide) rfl ?_
  intro p e s m args below meth c s₁ B hml hv
  obtain ⟨rfl, hsz, hP, hK, hD0, hN⟩ := hv
  have hx := B.exec
  have hb := B.bytes
  have hr := B.returns
  have hts := atoms_spec (ws := wsX11_count) B.pre
  have hown : s.vm.findClass RX11 = some m.cls := findClass_of_methodNamed B.named
  have hlocks := B.notSynchronized
  subst hsz
  have hD := hD0
  have hP : va_P D vwCl [(a0, .inr (11, [.ref a2, g1, g2, g3, g4, .ref a3, g6, g7, g8, .ref a4, g10, g11, .ref a1, g13, g14, g15, g16])), (a1, .inl (K 0, 5, .inl (fun _ => 0))), (a2, .inr (9, [k0, k1, .ref a5, k3, .int 0, .int 0, .int (-1), .int 0, .int 0, k9])), (a3, .inr (8, [p0, .int 0, p2, p3, p4, p5])), (a4, .inr (2, [q0, q1, .int 0])), (a5, .inl (K 0, 6, .inl tm0))] s.heap := hP
  have hl := lv_entry [.ref a0, .int x] (n := 2) (Nat.le_of_ble_eq_true rfl)
  rw [lg_entry_eq]
  generalize (lg_sl [.ref a0, .int x] ++ List.replicate (2 - (lg_sl [.ref a0, .int x]).length) Slot.unset).toArray = ls at hl ⊢
  have hl : lv_has ls 2 [(0, .ref a0), (1, .int x)] := hl
  have hw2 : ∀ w ∈ wsX20, w ∈ wsX11_count := fun w h => (List.mem_cons_of_mem _ (List.mem_append_left _ (List.mem_append_right _ h)))
  have hw8 : ∀ w ∈ wsX80, w ∈ wsX11_count := fun w h => (List.mem_cons_of_mem _ (List.mem_append_right _ h))
  have hw9 : ∀ w ∈ wsX90, w ∈ wsX11_count := fun w h => (List.mem_cons_of_mem _ (List.mem_append_left _ (List.mem_append_left _ (List.mem_append_right _ h))))
  have hw11 : ∀ w ∈ wsX110, w ∈ wsX11_count := fun w h => (List.mem_cons_of_mem _ (List.mem_append_left _ (List.mem_append_left _ (List.mem_append_left _ (List.mem_append_right _ h)))))
  have hsp : (x = 0 ∨ x = 1 ∨ x = 2 ∨ x = 3 ∨ x = 4 ∨ x = 5 ∨ x = 6 ∨ x = 7 ∨ x = 8 ∨ x = 9 ∨ x = 10 ∨ x = 11 ∨ x = 12 ∨ x = 13 ∨ x = 14 ∨ x = 15 ∨ x = 16 ∨ x = 17 ∨ x = 18) ∨ (x.toInt < 0 ∨ 18 < x.toInt) := by
    by_cases q1 : x.toInt < 0
    · exact Or.inr (Or.inl q1)
    · by_cases q2 : 18 < x.toInt
      · exact Or.inr (Or.inr q2)
      · refine Or.inl ?_
        have q3 : x.toInt = 0 ∨ x.toInt = 1 ∨ x.toInt = 2 ∨ x.toInt = 3 ∨ x.toInt = 4 ∨ x.toInt = 5 ∨ x.toInt = 6 ∨ x.toInt = 7 ∨ x.toInt = 8 ∨ x.toInt = 9 ∨ x.toInt = 10 ∨ x.toInt = 11 ∨ x.toInt = 12 ∨ x.toInt = 13 ∨ x.toInt = 14 ∨ x.toInt = 15 ∨ x.toInt = 16 ∨ x.toInt = 17 ∨ x.toInt = 18 := by omega
        rcases q3 with q3 | q3 | q3 | q3 | q3 | q3 | q3 | q3 | q3 | q3 | q3 | q3 | q3 | q3 | q3 | q3 | q3 | q3 | q3
        · exact Or.inl (i_lit q3 rfl)
        · exact Or.inr (Or.inl (i_lit q3 rfl))
        · exact Or.inr (Or.inr (Or.inl (i_lit q3 rfl)))
        · exact Or.inr (Or.inr (Or.inr (Or.inl (i_lit q3 rfl))))
        · exact Or.inr (Or.inr (Or.inr (Or.inr (Or.inl (i_lit q3 rfl)))))
        · exact Or.inr (Or.inr (Or.inr (Or.inr (Or.inr (Or.inl (i_lit q3 rfl))))))
        · exact Or.inr (Or.inr (Or.inr (Or.inr (Or.inr (Or.inr (Or.inl (i_lit q3 rfl)))))))
        · exact Or.inr (Or.inr (Or.inr (Or.inr (Or.inr (Or.inr (Or.inr (Or.inl (i_lit q3 rfl))))))))
        · exact Or.inr (Or.inr (Or.inr (Or.inr (Or.inr (Or.inr (Or.inr (Or.inr (Or.inl (i_lit q3 rfl)))))))))
        · exact Or.inr (Or.inr (Or.inr (Or.inr (Or.inr (Or.inr (Or.inr (Or.inr (Or.inr (Or.inl (i_lit q3 rfl))))))))))
        · exact Or.inr (Or.inr (Or.inr (Or.inr (Or.inr (Or.inr (Or.inr (Or.inr (Or.inr (Or.inr (Or.inl (i_lit q3 rfl)))))))))))
        · exact Or.inr (Or.inr (Or.inr (Or.inr (Or.inr (Or.inr (Or.inr (Or.inr (Or.inr (Or.inr (Or.inr (Or.inl (i_lit q3 rfl))))))))))))
        · exact Or.inr (Or.inr (Or.inr (Or.inr (Or.inr (Or.inr (Or.inr (Or.inr (Or.inr (Or.inr (Or.inr (Or.inr (Or.inl (i_lit q3 rfl)))))))))))))
        · exact Or.inr (Or.inr (Or.inr (Or.inr (Or.inr (Or.inr (Or.inr (Or.inr (Or.inr (Or.inr (Or.inr (Or.inr (Or.inr (Or.inl (i_lit q3 rfl))))))))))))))
        · exact Or.inr (Or.inr (Or.inr (Or.inr (Or.inr (Or.inr (Or.inr (Or.inr (Or.inr (Or.inr (Or.inr (Or.inr (Or.inr (Or.inr (Or.inl (i_lit q3 rfl)))))))))))))))
        · exact Or.inr (Or.inr (Or.inr (Or.inr (Or.inr (Or.inr (Or.inr (Or.inr (Or.inr (Or.inr (Or.inr (Or.inr (Or.inr (Or.inr (Or.inr (Or.inl (i_lit q3 rfl))))))))))))))))
        · exact Or.inr (Or.inr (Or.inr (Or.inr (Or.inr (Or.inr (Or.inr (Or.inr (Or.inr (Or.inr (Or.inr (Or.inr (Or.inr (Or.inr (Or.inr (Or.inr (Or.inl (i_lit q3 rfl)))))))))))))))))
        · exact Or.inr (Or.inr (Or.inr (Or.inr (Or.inr (Or.inr (Or.inr (Or.inr (Or.inr (Or.inr (Or.inr (Or.inr (Or.inr (Or.inr (Or.inr (Or.inr (Or.inr (Or.inl (i_lit q3 rfl))))))))))))))))))
        · exact Or.inr (Or.inr (Or.inr (Or.inr (Or.inr (Or.inr (Or.inr (Or.inr (Or.inr (Or.inr (Or.inr (Or.inr (Or.inr (Or.inr (Or.inr (Or.inr (Or.inr (Or.inr (i_lit q3 rfl))))))))))))))))))
  rcases hsp with (rfl | rfl | rfl | rfl | rfl | rfl | rfl | rfl | rfl | rfl | rfl | rfl | rfl | rfl | rfl | rfl | rfl | rfl | rfl) | hsp
  · refine lv_iload_n hx hb dX11_count_0 rfl (lv_at hl 1 rfl) ?_
    refine lv_bipush (v := 6) hx hb dX11_count_1 (by decide) ?_
    refine lv_bipush (v := 10) hx hb dX11_count_3 (by decide) ?_
    refine pci (va_runS (As := [.int 0, .int 6, .int 10]) (rest := []) ⟨hx, hb, hml, hown, hts⟩ (c_within l D K 0 6 10 0 6 10 s.heap.size rfl rfl rfl) (va_cwS 3 hts gX11_count_X11_within rfl rfl rfl (by decide +kernel) ⟨Nat.le_of_ble_eq_true rfl, Nat.le_of_ble_eq_true rfl⟩) (mkS hK hN (hP.sub [] rfl) (hD.sub [] (by decide) rfl)) rfl rfl hl.1 rfl (lv_room (Nat.le_of_ble_eq_true rfl)) dX11_count_5 ⟨Nat.le_of_ble_eq_true rfl, Nat.le_of_ble_eq_true rfl⟩) (fun r_1 hw => ?_)
    rcases hw with ⟨rfl, h_2, h_3⟩ | ⟨rfl, h_4⟩
    · exfalso; omega
    · refine lv_if_eq (tgt := 21) hx hb dX11_count_8 (by decide) (fun c_5 => ?_) (fun c_5 => absurd (by decide) c_5)
      refine lv_iload_n hx hb dX11_count_21 rfl (lv_at hl 1 rfl) ?_
      refine lv_bipush (v := 13) hx hb dX11_count_22 (by decide) ?_
      refine lv_bipush (v := 18) hx hb dX11_count_24 (by decide) ?_
      refine pci (va_runS (As := [.int 0, .int 13, .int 18]) (rest := []) ⟨hx, hb, hml, hown, hts⟩ (c_within l D K 0 13 18 0 13 18 s.heap.size rfl rfl rfl) (va_cwS 3 hts gX11_count_X11_within rfl rfl rfl (by decide +kernel) ⟨Nat.le_of_ble_eq_true rfl, Nat.le_of_ble_eq_true rfl⟩) (mkS hK hN (hP.sub [] rfl) (hD.sub [] (by decide) rfl)) rfl rfl hl.1 rfl (lv_room (Nat.le_of_ble_eq_true rfl)) dX11_count_26 ⟨Nat.le_of_ble_eq_true rfl, Nat.le_of_ble_eq_true rfl⟩) (fun r_6 hw => ?_)
      rcases hw with ⟨rfl, h_7, h_8⟩ | ⟨rfl, h_9⟩
      · exfalso; omega
      · refine lv_if_eq (tgt := 45) hx hb dX11_count_29 (by decide) (fun c_10 => ?_) (fun c_10 => absurd (by decide) c_10)
        refine lv_iload_n hx hb dX11_count_45 rfl (lv_at hl 1 rfl) ?_
        refine lv_tableIn (tgt := 112) hx hb dX11_count_46 (by decide) (by decide) rfl (by decide) ?_
        refine lv_aload_n hx hb dX11_count_112 rfl (lv_at hl 0 rfl) ?_
        refine va_get (ci := 11) (v := .ref a2) (C := RX11) (T := TX11) (N := 17) hx hb hts hw11 hown hK hP 0 rfl rfl 0 (by decide) (hts (.fieldLink RX11 10 "SmokeTune" "town" "LSmokeTune$Town;") (List.mem_cons_of_mem _ (List.mem_append_left _ (List.mem_append_left _ (List.mem_append_left _ (List.mem_append_left _ (List.mem_append_left _ (List.mem_of_getElem? (i := 1) rfl)))))))) (fun _ h9 => h9) rfl dX11_count_113 ?_
        refine va_getN (ci := 9) (v := .int 0) (C := RX9) (T := TX9) (N := 10) hx hb hts hw9 hown hK hP 2 rfl rfl 4 (by decide) (nst_use hN 107 rfl) (fun _ h9 => h9) rfl dX11_count_116 ?_
        exact W.iret (v := 0) hx hb hr (fun t ht hW => ⟨_, rfl, (by first | exact Or.inl (⟨rfl, by first | omega | decide | (subst_vars; assumption)⟩)), ht⟩) (fun q hq => by cases hq) dX11_count_119
  · refine lv_iload_n hx hb dX11_count_0 rfl (lv_at hl 1 rfl) ?_
    refine lv_bipush (v := 6) hx hb dX11_count_1 (by decide) ?_
    refine lv_bipush (v := 10) hx hb dX11_count_3 (by decide) ?_
    refine pci (va_runS (As := [.int 1, .int 6, .int 10]) (rest := []) ⟨hx, hb, hml, hown, hts⟩ (c_within l D K 1 6 10 1 6 10 s.heap.size rfl rfl rfl) (va_cwS 3 hts gX11_count_X11_within rfl rfl rfl (by decide +kernel) ⟨Nat.le_of_ble_eq_true rfl, Nat.le_of_ble_eq_true rfl⟩) (mkS hK hN (hP.sub [] rfl) (hD.sub [] (by decide) rfl)) rfl rfl hl.1 rfl (lv_room (Nat.le_of_ble_eq_true rfl)) dX11_count_5 ⟨Nat.le_of_ble_eq_true rfl, Nat.le_of_ble_eq_true rfl⟩) (fun r_11 hw => ?_)
    rcases hw with ⟨rfl, h_12, h_13⟩ | ⟨rfl, h_14⟩
    · exfalso; omega
    · refine lv_if_eq (tgt := 21) hx hb dX11_count_8 (by decide) (fun c_15 => ?_) (fun c_15 => absurd (by decide) c_15)
      refine lv_iload_n hx hb dX11_count_21 rfl (lv_at hl 1 rfl) ?_
      refine lv_bipush (v := 13) hx hb dX11_count_22 (by decide) ?_
      refine lv_bipush (v := 18) hx hb dX11_count_24 (by decide) ?_
      refine pci (va_runS (As := [.int 1, .int 13, .int 18]) (rest := []) ⟨hx, hb, hml, hown, hts⟩ (c_within l D K 1 13 18 1 13 18 s.heap.size rfl rfl rfl) (va_cwS 3 hts gX11_count_X11_within rfl rfl rfl (by decide +kernel) ⟨Nat.le_of_ble_eq_true rfl, Nat.le_of_ble_eq_true rfl⟩) (mkS hK hN (hP.sub [] rfl) (hD.sub [] (by decide) rfl)) rfl rfl hl.1 rfl (lv_room (Nat.le_of_ble_eq_true rfl)) dX11_count_26 ⟨Nat.le_of_ble_eq_true rfl, Nat.le_of_ble_eq_true rfl⟩) (fun r_16 hw => ?_)
      rcases hw with ⟨rfl, h_17, h_18⟩ | ⟨rfl, h_19⟩
      · exfalso; omega
      · refine lv_if_eq (tgt := 45) hx hb dX11_count_29 (by decide) (fun c_20 => ?_) (fun c_20 => absurd (by decide) c_20)
        refine lv_iload_n hx hb dX11_count_45 rfl (lv_at hl 1 rfl) ?_
        refine lv_tableIn (tgt := 120) hx hb dX11_count_46 (by decide) (by decide) rfl (by decide) ?_
        refine lv_aload_n hx hb dX11_count_120 rfl (lv_at hl 0 rfl) ?_
        refine va_get (ci := 11) (v := .ref a2) (C := RX11) (T := TX11) (N := 17) hx hb hts hw11 hown hK hP 0 rfl rfl 0 (by decide) (hts (.fieldLink RX11 10 "SmokeTune" "town" "LSmokeTune$Town;") (List.mem_cons_of_mem _ (List.mem_append_left _ (List.mem_append_left _ (List.mem_append_left _ (List.mem_append_left _ (List.mem_append_left _ (List.mem_of_getElem? (i := 1) rfl)))))))) (fun _ h9 => h9) rfl dX11_count_121 ?_
        refine pci (va_runVN (As := []) (rest := []) ⟨hx, hb, hml, hown, hts⟩ (c_singing l D K a2 k0 k1 (.ref a5) k3 (.int 0) (.int (-1)) (.int 0) (.int 0) k9 s.heap.size) ⟨va_cnB 0 hts gX11_count_X9_singing_n294 rfl rfl rfl (nst_at hN 96 rfl) (hts (.initialized RX9) (List.mem_cons_of_mem _ (List.mem_append_left _ (List.mem_append_left _ (List.mem_append_left _ (List.mem_append_left _ (List.mem_append_left _ (List.mem_of_getElem? (i := 9) rfl)))))))) (by decide +kernel) ⟨Nat.le_of_ble_eq_true rfl, Nat.le_of_ble_eq_true rfl⟩, (hts (.instanceMethod yX9_singing) (List.mem_cons_of_mem _ (List.mem_append_left _ (List.mem_append_left _ (List.mem_append_left _ (List.mem_append_left _ (List.mem_append_left _ (List.mem_of_getElem? (i := 8) rfl)))))))), (hts (.selects RX9 yX9_singing yX9_singing) (List.mem_cons_of_mem _ (List.mem_append_left _ (List.mem_append_left _ (List.mem_append_left _ (List.mem_append_left _ (List.mem_append_left _ (List.mem_of_getElem? (i := 10) rfl))))))))⟩ (mkV hK hN (hP.sub [2] rfl) (hD.sub [2] (by decide) rfl) (ci := 9) (q0 := 0) rfl rfl) rfl rfl hl.1 rfl (lv_room (Nat.le_of_ble_eq_true rfl)) dX11_count_124 ⟨Nat.le_of_ble_eq_true rfl, Nat.le_of_ble_eq_true rfl⟩) (fun r_21 hw => ?_)
        obtain rfl : r_21 = 0 := hw
        exact W.iret (v := 0) hx hb hr (fun t ht hW => ⟨_, rfl, (by first | exact Or.inl (⟨rfl, by first | omega | decide | (subst_vars; assumption)⟩)), ht⟩) (fun q hq => by cases hq) dX11_count_127
  · refine lv_iload_n hx hb dX11_count_0 rfl (lv_at hl 1 rfl) ?_
    refine lv_bipush (v := 6) hx hb dX11_count_1 (by decide) ?_
    refine lv_bipush (v := 10) hx hb dX11_count_3 (by decide) ?_
    refine pci (va_runS (As := [.int 2, .int 6, .int 10]) (rest := []) ⟨hx, hb, hml, hown, hts⟩ (c_within l D K 2 6 10 2 6 10 s.heap.size rfl rfl rfl) (va_cwS 3 hts gX11_count_X11_within rfl rfl rfl (by decide +kernel) ⟨Nat.le_of_ble_eq_true rfl, Nat.le_of_ble_eq_true rfl⟩) (mkS hK hN (hP.sub [] rfl) (hD.sub [] (by decide) rfl)) rfl rfl hl.1 rfl (lv_room (Nat.le_of_ble_eq_true rfl)) dX11_count_5 ⟨Nat.le_of_ble_eq_true rfl, Nat.le_of_ble_eq_true rfl⟩) (fun r_22 hw => ?_)
    rcases hw with ⟨rfl, h_23, h_24⟩ | ⟨rfl, h_25⟩
    · exfalso; omega
    · refine lv_if_eq (tgt := 21) hx hb dX11_count_8 (by decide) (fun c_26 => ?_) (fun c_26 => absurd (by decide) c_26)
      refine lv_iload_n hx hb dX11_count_21 rfl (lv_at hl 1 rfl) ?_
      refine lv_bipush (v := 13) hx hb dX11_count_22 (by decide) ?_
      refine lv_bipush (v := 18) hx hb dX11_count_24 (by decide) ?_
      refine pci (va_runS (As := [.int 2, .int 13, .int 18]) (rest := []) ⟨hx, hb, hml, hown, hts⟩ (c_within l D K 2 13 18 2 13 18 s.heap.size rfl rfl rfl) (va_cwS 3 hts gX11_count_X11_within rfl rfl rfl (by decide +kernel) ⟨Nat.le_of_ble_eq_true rfl, Nat.le_of_ble_eq_true rfl⟩) (mkS hK hN (hP.sub [] rfl) (hD.sub [] (by decide) rfl)) rfl rfl hl.1 rfl (lv_room (Nat.le_of_ble_eq_true rfl)) dX11_count_26 ⟨Nat.le_of_ble_eq_true rfl, Nat.le_of_ble_eq_true rfl⟩) (fun r_27 hw => ?_)
      rcases hw with ⟨rfl, h_28, h_29⟩ | ⟨rfl, h_30⟩
      · exfalso; omega
      · refine lv_if_eq (tgt := 45) hx hb dX11_count_29 (by decide) (fun c_31 => ?_) (fun c_31 => absurd (by decide) c_31)
        refine lv_iload_n hx hb dX11_count_45 rfl (lv_at hl 1 rfl) ?_
        refine lv_tableIn (tgt := 128) hx hb dX11_count_46 (by decide) (by decide) rfl (by decide) ?_
        refine lv_aload_n hx hb dX11_count_128 rfl (lv_at hl 0 rfl) ?_
        refine va_get (ci := 11) (v := .ref a2) (C := RX11) (T := TX11) (N := 17) hx hb hts hw11 hown hK hP 0 rfl rfl 0 (by decide) (hts (.fieldLink RX11 10 "SmokeTune" "town" "LSmokeTune$Town;") (List.mem_cons_of_mem _ (List.mem_append_left _ (List.mem_append_left _ (List.mem_append_left _ (List.mem_append_left _ (List.mem_append_left _ (List.mem_of_getElem? (i := 1) rfl)))))))) (fun _ h9 => h9) rfl dX11_count_129 ?_
        refine va_getN (ci := 9) (v := .int 0) (C := RX9) (T := TX9) (N := 10) hx hb hts hw9 hown hK hP 2 rfl rfl 8 (by decide) (nst_use hN 116 rfl) (fun _ h9 => h9) rfl dX11_count_132 ?_
        exact W.iret (v := 0) hx hb hr (fun t ht hW => ⟨_, rfl, (by first | exact Or.inl (⟨rfl, by first | omega | decide | (subst_vars; assumption)⟩)), ht⟩) (fun q hq => by cases hq) dX11_count_135
  · refine lv_iload_n hx hb dX11_count_0 rfl (lv_at hl 1 rfl) ?_
    refine lv_bipush (v := 6) hx hb dX11_count_1 (by decide) ?_
    refine lv_bipush (v := 10) hx hb dX11_count_3 (by decide) ?_
    refine pci (va_runS (As := [.int 3, .int 6, .int 10]) (rest := []) ⟨hx, hb, hml, hown, hts⟩ (c_within l D K 3 6 10 3 6 10 s.heap.size rfl rfl rfl) (va_cwS 3 hts gX11_count_X11_within rfl rfl rfl (by decide +kernel) ⟨Nat.le_of_ble_eq_true rfl, Nat.le_of_ble_eq_true rfl⟩) (mkS hK hN (hP.sub [] rfl) (hD.sub [] (by decide) rfl)) rfl rfl hl.1 rfl (lv_room (Nat.le_of_ble_eq_true rfl)) dX11_count_5 ⟨Nat.le_of_ble_eq_true rfl, Nat.le_of_ble_eq_true rfl⟩) (fun r_32 hw => ?_)
    rcases hw with ⟨rfl, h_33, h_34⟩ | ⟨rfl, h_35⟩
    · exfalso; omega
    · refine lv_if_eq (tgt := 21) hx hb dX11_count_8 (by decide) (fun c_36 => ?_) (fun c_36 => absurd (by decide) c_36)
      refine lv_iload_n hx hb dX11_count_21 rfl (lv_at hl 1 rfl) ?_
      refine lv_bipush (v := 13) hx hb dX11_count_22 (by decide) ?_
      refine lv_bipush (v := 18) hx hb dX11_count_24 (by decide) ?_
      refine pci (va_runS (As := [.int 3, .int 13, .int 18]) (rest := []) ⟨hx, hb, hml, hown, hts⟩ (c_within l D K 3 13 18 3 13 18 s.heap.size rfl rfl rfl) (va_cwS 3 hts gX11_count_X11_within rfl rfl rfl (by decide +kernel) ⟨Nat.le_of_ble_eq_true rfl, Nat.le_of_ble_eq_true rfl⟩) (mkS hK hN (hP.sub [] rfl) (hD.sub [] (by decide) rfl)) rfl rfl hl.1 rfl (lv_room (Nat.le_of_ble_eq_true rfl)) dX11_count_26 ⟨Nat.le_of_ble_eq_true rfl, Nat.le_of_ble_eq_true rfl⟩) (fun r_37 hw => ?_)
      rcases hw with ⟨rfl, h_38, h_39⟩ | ⟨rfl, h_40⟩
      · exfalso; omega
      · refine lv_if_eq (tgt := 45) hx hb dX11_count_29 (by decide) (fun c_41 => ?_) (fun c_41 => absurd (by decide) c_41)
        refine lv_iload_n hx hb dX11_count_45 rfl (lv_at hl 1 rfl) ?_
        refine lv_tableIn (tgt := 136) hx hb dX11_count_46 (by decide) (by decide) rfl (by decide) ?_
        refine lv_aload_n hx hb dX11_count_136 rfl (lv_at hl 0 rfl) ?_
        refine va_get (ci := 11) (v := .ref a2) (C := RX11) (T := TX11) (N := 17) hx hb hts hw11 hown hK hP 0 rfl rfl 0 (by decide) (hts (.fieldLink RX11 10 "SmokeTune" "town" "LSmokeTune$Town;") (List.mem_cons_of_mem _ (List.mem_append_left _ (List.mem_append_left _ (List.mem_append_left _ (List.mem_append_left _ (List.mem_append_left _ (List.mem_of_getElem? (i := 1) rfl)))))))) (fun _ h9 => h9) rfl dX11_count_137 ?_
        refine va_getN (ci := 9) (v := .int 0) (C := RX9) (T := TX9) (N := 10) hx hb hts hw9 hown hK hP 2 rfl rfl 5 (by decide) (nst_use hN 110 rfl) (fun _ h9 => h9) rfl dX11_count_140 ?_
        exact W.iret (v := 0) hx hb hr (fun t ht hW => ⟨_, rfl, (by first | exact Or.inl (⟨rfl, by first | omega | decide | (subst_vars; assumption)⟩)), ht⟩) (fun q hq => by cases hq) dX11_count_143
  · refine lv_iload_n hx hb dX11_count_0 rfl (lv_at hl 1 rfl) ?_
    refine lv_bipush (v := 6) hx hb dX11_count_1 (by decide) ?_
    refine lv_bipush (v := 10) hx hb dX11_count_3 (by decide) ?_
    refine pci (va_runS (As := [.int 4, .int 6, .int 10]) (rest := []) ⟨hx, hb, hml, hown, hts⟩ (c_within l D K 4 6 10 4 6 10 s.heap.size rfl rfl rfl) (va_cwS 3 hts gX11_count_X11_within rfl rfl rfl (by decide +kernel) ⟨Nat.le_of_ble_eq_true rfl, Nat.le_of_ble_eq_true rfl⟩) (mkS hK hN (hP.sub [] rfl) (hD.sub [] (by decide) rfl)) rfl rfl hl.1 rfl (lv_room (Nat.le_of_ble_eq_true rfl)) dX11_count_5 ⟨Nat.le_of_ble_eq_true rfl, Nat.le_of_ble_eq_true rfl⟩) (fun r_42 hw => ?_)
    rcases hw with ⟨rfl, h_43, h_44⟩ | ⟨rfl, h_45⟩
    · exfalso; omega
    · refine lv_if_eq (tgt := 21) hx hb dX11_count_8 (by decide) (fun c_46 => ?_) (fun c_46 => absurd (by decide) c_46)
      refine lv_iload_n hx hb dX11_count_21 rfl (lv_at hl 1 rfl) ?_
      refine lv_bipush (v := 13) hx hb dX11_count_22 (by decide) ?_
      refine lv_bipush (v := 18) hx hb dX11_count_24 (by decide) ?_
      refine pci (va_runS (As := [.int 4, .int 13, .int 18]) (rest := []) ⟨hx, hb, hml, hown, hts⟩ (c_within l D K 4 13 18 4 13 18 s.heap.size rfl rfl rfl) (va_cwS 3 hts gX11_count_X11_within rfl rfl rfl (by decide +kernel) ⟨Nat.le_of_ble_eq_true rfl, Nat.le_of_ble_eq_true rfl⟩) (mkS hK hN (hP.sub [] rfl) (hD.sub [] (by decide) rfl)) rfl rfl hl.1 rfl (lv_room (Nat.le_of_ble_eq_true rfl)) dX11_count_26 ⟨Nat.le_of_ble_eq_true rfl, Nat.le_of_ble_eq_true rfl⟩) (fun r_47 hw => ?_)
      rcases hw with ⟨rfl, h_48, h_49⟩ | ⟨rfl, h_50⟩
      · exfalso; omega
      · refine lv_if_eq (tgt := 45) hx hb dX11_count_29 (by decide) (fun c_51 => ?_) (fun c_51 => absurd (by decide) c_51)
        refine lv_iload_n hx hb dX11_count_45 rfl (lv_at hl 1 rfl) ?_
        refine lv_tableIn (tgt := 144) hx hb dX11_count_46 (by decide) (by decide) rfl (by decide) ?_
        refine lv_aload_n hx hb dX11_count_144 rfl (lv_at hl 0 rfl) ?_
        refine va_get (ci := 11) (v := .ref a4) (C := RX11) (T := TX11) (N := 17) hx hb hts hw11 hown hK hP 0 rfl rfl 9 (by decide) (hts (.fieldLink RX11 61 "SmokeTune" "history" "LSmokeTune$History;") (List.mem_cons_of_mem _ (List.mem_append_left _ (List.mem_append_left _ (List.mem_append_left _ (List.mem_append_left _ (List.mem_append_left _ (List.mem_of_getElem? (i := 2) rfl)))))))) (fun _ h9 => h9) rfl dX11_count_145 ?_
        refine va_getN (ci := 2) (v := .int 0) (C := RX2) (T := TX2) (N := 3) hx hb hts hw2 hown hK hP 4 rfl rfl 2 (by decide) (nst_use hN 137 rfl) (fun _ h9 => h9) rfl dX11_count_148 ?_
        exact W.iret (v := 0) hx hb hr (fun t ht hW => ⟨_, rfl, (by first | exact Or.inl (⟨rfl, by first | omega | decide | (subst_vars; assumption)⟩)), ht⟩) (fun q hq => by cases hq) dX11_count_151
  · refine lv_iload_n hx hb dX11_count_0 rfl (lv_at hl 1 rfl) ?_
    refine lv_bipush (v := 6) hx hb dX11_count_1 (by decide) ?_
    refine lv_bipush (v := 10) hx hb dX11_count_3 (by decide) ?_
    refine pci (va_runS (As := [.int 5, .int 6, .int 10]) (rest := []) ⟨hx, hb, hml, hown, hts⟩ (c_within l D K 5 6 10 5 6 10 s.heap.size rfl rfl rfl) (va_cwS 3 hts gX11_count_X11_within rfl rfl rfl (by decide +kernel) ⟨Nat.le_of_ble_eq_true rfl, Nat.le_of_ble_eq_true rfl⟩) (mkS hK hN (hP.sub [] rfl) (hD.sub [] (by decide) rfl)) rfl rfl hl.1 rfl (lv_room (Nat.le_of_ble_eq_true rfl)) dX11_count_5 ⟨Nat.le_of_ble_eq_true rfl, Nat.le_of_ble_eq_true rfl⟩) (fun r_52 hw => ?_)
    rcases hw with ⟨rfl, h_53, h_54⟩ | ⟨rfl, h_55⟩
    · exfalso; omega
    · refine lv_if_eq (tgt := 21) hx hb dX11_count_8 (by decide) (fun c_56 => ?_) (fun c_56 => absurd (by decide) c_56)
      refine lv_iload_n hx hb dX11_count_21 rfl (lv_at hl 1 rfl) ?_
      refine lv_bipush (v := 13) hx hb dX11_count_22 (by decide) ?_
      refine lv_bipush (v := 18) hx hb dX11_count_24 (by decide) ?_
      refine pci (va_runS (As := [.int 5, .int 13, .int 18]) (rest := []) ⟨hx, hb, hml, hown, hts⟩ (c_within l D K 5 13 18 5 13 18 s.heap.size rfl rfl rfl) (va_cwS 3 hts gX11_count_X11_within rfl rfl rfl (by decide +kernel) ⟨Nat.le_of_ble_eq_true rfl, Nat.le_of_ble_eq_true rfl⟩) (mkS hK hN (hP.sub [] rfl) (hD.sub [] (by decide) rfl)) rfl rfl hl.1 rfl (lv_room (Nat.le_of_ble_eq_true rfl)) dX11_count_26 ⟨Nat.le_of_ble_eq_true rfl, Nat.le_of_ble_eq_true rfl⟩) (fun r_57 hw => ?_)
      rcases hw with ⟨rfl, h_58, h_59⟩ | ⟨rfl, h_60⟩
      · exfalso; omega
      · refine lv_if_eq (tgt := 45) hx hb dX11_count_29 (by decide) (fun c_61 => ?_) (fun c_61 => absurd (by decide) c_61)
        refine lv_iload_n hx hb dX11_count_45 rfl (lv_at hl 1 rfl) ?_
        refine lv_tableIn (tgt := 152) hx hb dX11_count_46 (by decide) (by decide) rfl (by decide) ?_
        refine lv_aload_n hx hb dX11_count_152 rfl (lv_at hl 0 rfl) ?_
        refine va_get (ci := 11) (v := .ref a3) (C := RX11) (T := TX11) (N := 17) hx hb hts hw11 hown hK hP 0 rfl rfl 5 (by decide) (hts (.fieldLink RX11 38 "SmokeTune" "tape" "LSmokeTune$Tape;") (List.mem_cons_of_mem _ (List.mem_append_left _ (List.mem_append_left _ (List.mem_append_left _ (List.mem_append_left _ (List.mem_append_left _ (List.mem_of_getElem? (i := 3) rfl)))))))) (fun _ h9 => h9) rfl dX11_count_153 ?_
        refine va_getN (ci := 8) (v := .int 0) (C := RX8) (T := TX8) (N := 6) hx hb hts hw8 hown hK hP 3 rfl rfl 1 (by decide) (nst_use hN 120 rfl) (fun _ h9 => h9) rfl dX11_count_156 ?_
        exact W.iret (v := 0) hx hb hr (fun t ht hW => ⟨_, rfl, (by first | exact Or.inl (⟨rfl, by first | omega | decide | (subst_vars; assumption)⟩)), ht⟩) (fun q hq => by cases hq) dX11_count_159
  · refine lv_iload_n hx hb dX11_count_0 rfl (lv_at hl 1 rfl) ?_
    refine lv_bipush (v := 6) hx hb dX11_count_1 (by decide) ?_
    refine lv_bipush (v := 10) hx hb dX11_count_3 (by decide) ?_
    refine pci (va_runS (As := [.int 6, .int 6, .int 10]) (rest := []) ⟨hx, hb, hml, hown, hts⟩ (c_within l D K 6 6 10 6 6 10 s.heap.size rfl rfl rfl) (va_cwS 3 hts gX11_count_X11_within rfl rfl rfl (by decide +kernel) ⟨Nat.le_of_ble_eq_true rfl, Nat.le_of_ble_eq_true rfl⟩) (mkS hK hN (hP.sub [] rfl) (hD.sub [] (by decide) rfl)) rfl rfl hl.1 rfl (lv_room (Nat.le_of_ble_eq_true rfl)) dX11_count_5 ⟨Nat.le_of_ble_eq_true rfl, Nat.le_of_ble_eq_true rfl⟩) (fun r_62 hw => ?_)
    rcases hw with ⟨rfl, h_63, h_64⟩ | ⟨rfl, h_65⟩
    · refine lv_if_eq (tgt := 21) hx hb dX11_count_8 (by decide) (fun c_66 => absurd c_66 (by decide)) (fun c_66 => ?_)
      refine lv_aload_n hx hb dX11_count_11 rfl (lv_at hl 0 rfl) ?_
      refine va_get (ci := 11) (v := .ref a1) (C := RX11) (T := TX11) (N := 17) hx hb hts hw11 hown hK hP 0 rfl rfl 12 (by decide) (hts (.fieldLink RX11 79 "SmokeTune" "refusals" "[I") (List.mem_cons_of_mem _ (List.mem_append_left _ (List.mem_append_left _ (List.mem_append_left _ (List.mem_append_left _ (List.mem_append_left _ (List.mem_of_getElem? (i := 0) rfl)))))))) (fun _ h9 => h9) rfl dX11_count_12 ?_
      refine lv_iload_n hx hb dX11_count_15 rfl (lv_at hl 1 rfl) ?_
      refine lv_bipush (v := 6) hx hb dX11_count_16 (by decide) ?_
      refine lv_isub hx hb dX11_count_18 ?_
      refine lv_topi (fun x_67 ex_67 => ?_)
      obtain rfl : x_67 = 0 := ex_67.trans (by first | rfl | decide)
      refine va_iald hx hb hK hP 1 0 rfl rfl (i_in (x := 0) rfl (by omega)) dX11_count_19 ?_
      refine lv_topi (fun x_68 ex_68 => ?_)
      obtain rfl : x_68 = 0 := ex_68.trans (by first | rfl | decide | exact rfl)
      exact W.iret (v := 0) hx hb hr (fun t ht hW => ⟨_, rfl, (by first | exact Or.inl (⟨rfl, by first | omega | decide | (subst_vars; assumption)⟩)), ht⟩) (fun q hq => by cases hq) dX11_count_20
    · exfalso; omega
  · refine lv_iload_n hx hb dX11_count_0 rfl (lv_at hl 1 rfl) ?_
    refine lv_bipush (v := 6) hx hb dX11_count_1 (by decide) ?_
    refine lv_bipush (v := 10) hx hb dX11_count_3 (by decide) ?_
    refine pci (va_runS (As := [.int 7, .int 6, .int 10]) (rest := []) ⟨hx, hb, hml, hown, hts⟩ (c_within l D K 7 6 10 7 6 10 s.heap.size rfl rfl rfl) (va_cwS 3 hts gX11_count_X11_within rfl rfl rfl (by decide +kernel) ⟨Nat.le_of_ble_eq_true rfl, Nat.le_of_ble_eq_true rfl⟩) (mkS hK hN (hP.sub [] rfl) (hD.sub [] (by decide) rfl)) rfl rfl hl.1 rfl (lv_room (Nat.le_of_ble_eq_true rfl)) dX11_count_5 ⟨Nat.le_of_ble_eq_true rfl, Nat.le_of_ble_eq_true rfl⟩) (fun r_69 hw => ?_)
    rcases hw with ⟨rfl, h_70, h_71⟩ | ⟨rfl, h_72⟩
    · refine lv_if_eq (tgt := 21) hx hb dX11_count_8 (by decide) (fun c_73 => absurd c_73 (by decide)) (fun c_73 => ?_)
      refine lv_aload_n hx hb dX11_count_11 rfl (lv_at hl 0 rfl) ?_
      refine va_get (ci := 11) (v := .ref a1) (C := RX11) (T := TX11) (N := 17) hx hb hts hw11 hown hK hP 0 rfl rfl 12 (by decide) (hts (.fieldLink RX11 79 "SmokeTune" "refusals" "[I") (List.mem_cons_of_mem _ (List.mem_append_left _ (List.mem_append_left _ (List.mem_append_left _ (List.mem_append_left _ (List.mem_append_left _ (List.mem_of_getElem? (i := 0) rfl)))))))) (fun _ h9 => h9) rfl dX11_count_12 ?_
      refine lv_iload_n hx hb dX11_count_15 rfl (lv_at hl 1 rfl) ?_
      refine lv_bipush (v := 6) hx hb dX11_count_16 (by decide) ?_
      refine lv_isub hx hb dX11_count_18 ?_
      refine lv_topi (fun x_74 ex_74 => ?_)
      obtain rfl : x_74 = 1 := ex_74.trans (by first | rfl | decide)
      refine va_iald hx hb hK hP 1 0 rfl rfl (i_in (x := 1) rfl (by omega)) dX11_count_19 ?_
      refine lv_topi (fun x_75 ex_75 => ?_)
      obtain rfl : x_75 = 0 := ex_75.trans (by first | rfl | decide | exact rfl)
      exact W.iret (v := 0) hx hb hr (fun t ht hW => ⟨_, rfl, (by first | exact Or.inl (⟨rfl, by first | omega | decide | (subst_vars; assumption)⟩)), ht⟩) (fun q hq => by cases hq) dX11_count_20
    · exfalso; omega
  · refine lv_iload_n hx hb dX11_count_0 rfl (lv_at hl 1 rfl) ?_
    refine lv_bipush (v := 6) hx hb dX11_count_1 (by decide) ?_
    refine lv_bipush (v := 10) hx hb dX11_count_3 (by decide) ?_
    refine pci (va_runS (As := [.int 8, .int 6, .int 10]) (rest := []) ⟨hx, hb, hml, hown, hts⟩ (c_within l D K 8 6 10 8 6 10 s.heap.size rfl rfl rfl) (va_cwS 3 hts gX11_count_X11_within rfl rfl rfl (by decide +kernel) ⟨Nat.le_of_ble_eq_true rfl, Nat.le_of_ble_eq_true rfl⟩) (mkS hK hN (hP.sub [] rfl) (hD.sub [] (by decide) rfl)) rfl rfl hl.1 rfl (lv_room (Nat.le_of_ble_eq_true rfl)) dX11_count_5 ⟨Nat.le_of_ble_eq_true rfl, Nat.le_of_ble_eq_true rfl⟩) (fun r_76 hw => ?_)
    rcases hw with ⟨rfl, h_77, h_78⟩ | ⟨rfl, h_79⟩
    · refine lv_if_eq (tgt := 21) hx hb dX11_count_8 (by decide) (fun c_80 => absurd c_80 (by decide)) (fun c_80 => ?_)
      refine lv_aload_n hx hb dX11_count_11 rfl (lv_at hl 0 rfl) ?_
      refine va_get (ci := 11) (v := .ref a1) (C := RX11) (T := TX11) (N := 17) hx hb hts hw11 hown hK hP 0 rfl rfl 12 (by decide) (hts (.fieldLink RX11 79 "SmokeTune" "refusals" "[I") (List.mem_cons_of_mem _ (List.mem_append_left _ (List.mem_append_left _ (List.mem_append_left _ (List.mem_append_left _ (List.mem_append_left _ (List.mem_of_getElem? (i := 0) rfl)))))))) (fun _ h9 => h9) rfl dX11_count_12 ?_
      refine lv_iload_n hx hb dX11_count_15 rfl (lv_at hl 1 rfl) ?_
      refine lv_bipush (v := 6) hx hb dX11_count_16 (by decide) ?_
      refine lv_isub hx hb dX11_count_18 ?_
      refine lv_topi (fun x_81 ex_81 => ?_)
      obtain rfl : x_81 = 2 := ex_81.trans (by first | rfl | decide)
      refine va_iald hx hb hK hP 1 0 rfl rfl (i_in (x := 2) rfl (by omega)) dX11_count_19 ?_
      refine lv_topi (fun x_82 ex_82 => ?_)
      obtain rfl : x_82 = 0 := ex_82.trans (by first | rfl | decide | exact rfl)
      exact W.iret (v := 0) hx hb hr (fun t ht hW => ⟨_, rfl, (by first | exact Or.inl (⟨rfl, by first | omega | decide | (subst_vars; assumption)⟩)), ht⟩) (fun q hq => by cases hq) dX11_count_20
    · exfalso; omega
  · refine lv_iload_n hx hb dX11_count_0 rfl (lv_at hl 1 rfl) ?_
    refine lv_bipush (v := 6) hx hb dX11_count_1 (by decide) ?_
    refine lv_bipush (v := 10) hx hb dX11_count_3 (by decide) ?_
    refine pci (va_runS (As := [.int 9, .int 6, .int 10]) (rest := []) ⟨hx, hb, hml, hown, hts⟩ (c_within l D K 9 6 10 9 6 10 s.heap.size rfl rfl rfl) (va_cwS 3 hts gX11_count_X11_within rfl rfl rfl (by decide +kernel) ⟨Nat.le_of_ble_eq_true rfl, Nat.le_of_ble_eq_true rfl⟩) (mkS hK hN (hP.sub [] rfl) (hD.sub [] (by decide) rfl)) rfl rfl hl.1 rfl (lv_room (Nat.le_of_ble_eq_true rfl)) dX11_count_5 ⟨Nat.le_of_ble_eq_true rfl, Nat.le_of_ble_eq_true rfl⟩) (fun r_83 hw => ?_)
    rcases hw with ⟨rfl, h_84, h_85⟩ | ⟨rfl, h_86⟩
    · refine lv_if_eq (tgt := 21) hx hb dX11_count_8 (by decide) (fun c_87 => absurd c_87 (by decide)) (fun c_87 => ?_)
      refine lv_aload_n hx hb dX11_count_11 rfl (lv_at hl 0 rfl) ?_
      refine va_get (ci := 11) (v := .ref a1) (C := RX11) (T := TX11) (N := 17) hx hb hts hw11 hown hK hP 0 rfl rfl 12 (by decide) (hts (.fieldLink RX11 79 "SmokeTune" "refusals" "[I") (List.mem_cons_of_mem _ (List.mem_append_left _ (List.mem_append_left _ (List.mem_append_left _ (List.mem_append_left _ (List.mem_append_left _ (List.mem_of_getElem? (i := 0) rfl)))))))) (fun _ h9 => h9) rfl dX11_count_12 ?_
      refine lv_iload_n hx hb dX11_count_15 rfl (lv_at hl 1 rfl) ?_
      refine lv_bipush (v := 6) hx hb dX11_count_16 (by decide) ?_
      refine lv_isub hx hb dX11_count_18 ?_
      refine lv_topi (fun x_88 ex_88 => ?_)
      obtain rfl : x_88 = 3 := ex_88.trans (by first | rfl | decide)
      refine va_iald hx hb hK hP 1 0 rfl rfl (i_in (x := 3) rfl (by omega)) dX11_count_19 ?_
      refine lv_topi (fun x_89 ex_89 => ?_)
      obtain rfl : x_89 = 0 := ex_89.trans (by first | rfl | decide | exact rfl)
      exact W.iret (v := 0) hx hb hr (fun t ht hW => ⟨_, rfl, (by first | exact Or.inl (⟨rfl, by first | omega | decide | (subst_vars; assumption)⟩)), ht⟩) (fun q hq => by cases hq) dX11_count_20
    · exfalso; omega
  · refine lv_iload_n hx hb dX11_count_0 rfl (lv_at hl 1 rfl) ?_
    refine lv_bipush (v := 6) hx hb dX11_count_1 (by decide) ?_
    refine lv_bipush (v := 10) hx hb dX11_count_3 (by decide) ?_
    refine pci (va_runS (As := [.int 10, .int 6, .int 10]) (rest := []) ⟨hx, hb, hml, hown, hts⟩ (c_within l D K 10 6 10 10 6 10 s.heap.size rfl rfl rfl) (va_cwS 3 hts gX11_count_X11_within rfl rfl rfl (by decide +kernel) ⟨Nat.le_of_ble_eq_true rfl, Nat.le_of_ble_eq_true rfl⟩) (mkS hK hN (hP.sub [] rfl) (hD.sub [] (by decide) rfl)) rfl rfl hl.1 rfl (lv_room (Nat.le_of_ble_eq_true rfl)) dX11_count_5 ⟨Nat.le_of_ble_eq_true rfl, Nat.le_of_ble_eq_true rfl⟩) (fun r_90 hw => ?_)
    rcases hw with ⟨rfl, h_91, h_92⟩ | ⟨rfl, h_93⟩
    · refine lv_if_eq (tgt := 21) hx hb dX11_count_8 (by decide) (fun c_94 => absurd c_94 (by decide)) (fun c_94 => ?_)
      refine lv_aload_n hx hb dX11_count_11 rfl (lv_at hl 0 rfl) ?_
      refine va_get (ci := 11) (v := .ref a1) (C := RX11) (T := TX11) (N := 17) hx hb hts hw11 hown hK hP 0 rfl rfl 12 (by decide) (hts (.fieldLink RX11 79 "SmokeTune" "refusals" "[I") (List.mem_cons_of_mem _ (List.mem_append_left _ (List.mem_append_left _ (List.mem_append_left _ (List.mem_append_left _ (List.mem_append_left _ (List.mem_of_getElem? (i := 0) rfl)))))))) (fun _ h9 => h9) rfl dX11_count_12 ?_
      refine lv_iload_n hx hb dX11_count_15 rfl (lv_at hl 1 rfl) ?_
      refine lv_bipush (v := 6) hx hb dX11_count_16 (by decide) ?_
      refine lv_isub hx hb dX11_count_18 ?_
      refine lv_topi (fun x_95 ex_95 => ?_)
      obtain rfl : x_95 = 4 := ex_95.trans (by first | rfl | decide)
      refine va_iald hx hb hK hP 1 0 rfl rfl (i_in (x := 4) rfl (by omega)) dX11_count_19 ?_
      refine lv_topi (fun x_96 ex_96 => ?_)
      obtain rfl : x_96 = 0 := ex_96.trans (by first | rfl | decide | exact rfl)
      exact W.iret (v := 0) hx hb hr (fun t ht hW => ⟨_, rfl, (by first | exact Or.inl (⟨rfl, by first | omega | decide | (subst_vars; assumption)⟩)), ht⟩) (fun q hq => by cases hq) dX11_count_20
    · exfalso; omega
  · refine lv_iload_n hx hb dX11_count_0 rfl (lv_at hl 1 rfl) ?_
    refine lv_bipush (v := 6) hx hb dX11_count_1 (by decide) ?_
    refine lv_bipush (v := 10) hx hb dX11_count_3 (by decide) ?_
    refine pci (va_runS (As := [.int 11, .int 6, .int 10]) (rest := []) ⟨hx, hb, hml, hown, hts⟩ (c_within l D K 11 6 10 11 6 10 s.heap.size rfl rfl rfl) (va_cwS 3 hts gX11_count_X11_within rfl rfl rfl (by decide +kernel) ⟨Nat.le_of_ble_eq_true rfl, Nat.le_of_ble_eq_true rfl⟩) (mkS hK hN (hP.sub [] rfl) (hD.sub [] (by decide) rfl)) rfl rfl hl.1 rfl (lv_room (Nat.le_of_ble_eq_true rfl)) dX11_count_5 ⟨Nat.le_of_ble_eq_true rfl, Nat.le_of_ble_eq_true rfl⟩) (fun r_97 hw => ?_)
    rcases hw with ⟨rfl, h_98, h_99⟩ | ⟨rfl, h_100⟩
    · exfalso; omega
    · refine lv_if_eq (tgt := 21) hx hb dX11_count_8 (by decide) (fun c_101 => ?_) (fun c_101 => absurd (by decide) c_101)
      refine lv_iload_n hx hb dX11_count_21 rfl (lv_at hl 1 rfl) ?_
      refine lv_bipush (v := 13) hx hb dX11_count_22 (by decide) ?_
      refine lv_bipush (v := 18) hx hb dX11_count_24 (by decide) ?_
      refine pci (va_runS (As := [.int 11, .int 13, .int 18]) (rest := []) ⟨hx, hb, hml, hown, hts⟩ (c_within l D K 11 13 18 11 13 18 s.heap.size rfl rfl rfl) (va_cwS 3 hts gX11_count_X11_within rfl rfl rfl (by decide +kernel) ⟨Nat.le_of_ble_eq_true rfl, Nat.le_of_ble_eq_true rfl⟩) (mkS hK hN (hP.sub [] rfl) (hD.sub [] (by decide) rfl)) rfl rfl hl.1 rfl (lv_room (Nat.le_of_ble_eq_true rfl)) dX11_count_26 ⟨Nat.le_of_ble_eq_true rfl, Nat.le_of_ble_eq_true rfl⟩) (fun r_102 hw => ?_)
      rcases hw with ⟨rfl, h_103, h_104⟩ | ⟨rfl, h_105⟩
      · exfalso; omega
      · refine lv_if_eq (tgt := 45) hx hb dX11_count_29 (by decide) (fun c_106 => ?_) (fun c_106 => absurd (by decide) c_106)
        refine lv_iload_n hx hb dX11_count_45 rfl (lv_at hl 1 rfl) ?_
        refine lv_tableIn (tgt := 160) hx hb dX11_count_46 (by decide) (by decide) rfl (by decide) ?_
        refine lv_aload_n hx hb dX11_count_160 rfl (lv_at hl 0 rfl) ?_
        refine va_get (ci := 11) (v := .ref a2) (C := RX11) (T := TX11) (N := 17) hx hb hts hw11 hown hK hP 0 rfl rfl 0 (by decide) (hts (.fieldLink RX11 10 "SmokeTune" "town" "LSmokeTune$Town;") (List.mem_cons_of_mem _ (List.mem_append_left _ (List.mem_append_left _ (List.mem_append_left _ (List.mem_append_left _ (List.mem_append_left _ (List.mem_of_getElem? (i := 1) rfl)))))))) (fun _ h9 => h9) rfl dX11_count_161 ?_
        refine va_getN (ci := 9) (v := .int (-1)) (C := RX9) (T := TX9) (N := 10) hx hb hts hw9 hown hK hP 2 rfl rfl 6 (by decide) (nst_use hN 111 rfl) (fun _ h9 => h9) rfl dX11_count_164 ?_
        exact W.iret (v := (-1)) hx hb hr (fun t ht hW => ⟨_, rfl, (by first | exact Or.inr (Or.inr (Or.inr (⟨rfl, by first | omega | decide | (subst_vars; assumption)⟩)))), ht⟩) (fun q hq => by cases hq) dX11_count_167
  · refine lv_iload_n hx hb dX11_count_0 rfl (lv_at hl 1 rfl) ?_
    refine lv_bipush (v := 6) hx hb dX11_count_1 (by decide) ?_
    refine lv_bipush (v := 10) hx hb dX11_count_3 (by decide) ?_
    refine pci (va_runS (As := [.int 12, .int 6, .int 10]) (rest := []) ⟨hx, hb, hml, hown, hts⟩ (c_within l D K 12 6 10 12 6 10 s.heap.size rfl rfl rfl) (va_cwS 3 hts gX11_count_X11_within rfl rfl rfl (by decide +kernel) ⟨Nat.le_of_ble_eq_true rfl, Nat.le_of_ble_eq_true rfl⟩) (mkS hK hN (hP.sub [] rfl) (hD.sub [] (by decide) rfl)) rfl rfl hl.1 rfl (lv_room (Nat.le_of_ble_eq_true rfl)) dX11_count_5 ⟨Nat.le_of_ble_eq_true rfl, Nat.le_of_ble_eq_true rfl⟩) (fun r_107 hw => ?_)
    rcases hw with ⟨rfl, h_108, h_109⟩ | ⟨rfl, h_110⟩
    · exfalso; omega
    · refine lv_if_eq (tgt := 21) hx hb dX11_count_8 (by decide) (fun c_111 => ?_) (fun c_111 => absurd (by decide) c_111)
      refine lv_iload_n hx hb dX11_count_21 rfl (lv_at hl 1 rfl) ?_
      refine lv_bipush (v := 13) hx hb dX11_count_22 (by decide) ?_
      refine lv_bipush (v := 18) hx hb dX11_count_24 (by decide) ?_
      refine pci (va_runS (As := [.int 12, .int 13, .int 18]) (rest := []) ⟨hx, hb, hml, hown, hts⟩ (c_within l D K 12 13 18 12 13 18 s.heap.size rfl rfl rfl) (va_cwS 3 hts gX11_count_X11_within rfl rfl rfl (by decide +kernel) ⟨Nat.le_of_ble_eq_true rfl, Nat.le_of_ble_eq_true rfl⟩) (mkS hK hN (hP.sub [] rfl) (hD.sub [] (by decide) rfl)) rfl rfl hl.1 rfl (lv_room (Nat.le_of_ble_eq_true rfl)) dX11_count_26 ⟨Nat.le_of_ble_eq_true rfl, Nat.le_of_ble_eq_true rfl⟩) (fun r_112 hw => ?_)
      rcases hw with ⟨rfl, h_113, h_114⟩ | ⟨rfl, h_115⟩
      · exfalso; omega
      · refine lv_if_eq (tgt := 45) hx hb dX11_count_29 (by decide) (fun c_116 => ?_) (fun c_116 => absurd (by decide) c_116)
        refine lv_iload_n hx hb dX11_count_45 rfl (lv_at hl 1 rfl) ?_
        refine lv_tableIn (tgt := 168) hx hb dX11_count_46 (by decide) (by decide) rfl (by decide) ?_
        refine lv_aload_n hx hb dX11_count_168 rfl (lv_at hl 0 rfl) ?_
        refine va_get (ci := 11) (v := .ref a2) (C := RX11) (T := TX11) (N := 17) hx hb hts hw11 hown hK hP 0 rfl rfl 0 (by decide) (hts (.fieldLink RX11 10 "SmokeTune" "town" "LSmokeTune$Town;") (List.mem_cons_of_mem _ (List.mem_append_left _ (List.mem_append_left _ (List.mem_append_left _ (List.mem_append_left _ (List.mem_append_left _ (List.mem_of_getElem? (i := 1) rfl)))))))) (fun _ h9 => h9) rfl dX11_count_169 ?_
        refine va_getN (ci := 9) (v := .int 0) (C := RX9) (T := TX9) (N := 10) hx hb hts hw9 hown hK hP 2 rfl rfl 7 (by decide) (nst_use hN 115 rfl) (fun _ h9 => h9) rfl dX11_count_172 ?_
        exact W.iret (v := 0) hx hb hr (fun t ht hW => ⟨_, rfl, (by first | exact Or.inl (⟨rfl, by first | omega | decide | (subst_vars; assumption)⟩)), ht⟩) (fun q hq => by cases hq) dX11_count_175
  · refine lv_iload_n hx hb dX11_count_0 rfl (lv_at hl 1 rfl) ?_
    refine lv_bipush (v := 6) hx hb dX11_count_1 (by decide) ?_
    refine lv_bipush (v := 10) hx hb dX11_count_3 (by decide) ?_
    refine pci (va_runS (As := [.int 13, .int 6, .int 10]) (rest := []) ⟨hx, hb, hml, hown, hts⟩ (c_within l D K 13 6 10 13 6 10 s.heap.size rfl rfl rfl) (va_cwS 3 hts gX11_count_X11_within rfl rfl rfl (by decide +kernel) ⟨Nat.le_of_ble_eq_true rfl, Nat.le_of_ble_eq_true rfl⟩) (mkS hK hN (hP.sub [] rfl) (hD.sub [] (by decide) rfl)) rfl rfl hl.1 rfl (lv_room (Nat.le_of_ble_eq_true rfl)) dX11_count_5 ⟨Nat.le_of_ble_eq_true rfl, Nat.le_of_ble_eq_true rfl⟩) (fun r_117 hw => ?_)
    rcases hw with ⟨rfl, h_118, h_119⟩ | ⟨rfl, h_120⟩
    · exfalso; omega
    · refine lv_if_eq (tgt := 21) hx hb dX11_count_8 (by decide) (fun c_121 => ?_) (fun c_121 => absurd (by decide) c_121)
      refine lv_iload_n hx hb dX11_count_21 rfl (lv_at hl 1 rfl) ?_
      refine lv_bipush (v := 13) hx hb dX11_count_22 (by decide) ?_
      refine lv_bipush (v := 18) hx hb dX11_count_24 (by decide) ?_
      refine pci (va_runS (As := [.int 13, .int 13, .int 18]) (rest := []) ⟨hx, hb, hml, hown, hts⟩ (c_within l D K 13 13 18 13 13 18 s.heap.size rfl rfl rfl) (va_cwS 3 hts gX11_count_X11_within rfl rfl rfl (by decide +kernel) ⟨Nat.le_of_ble_eq_true rfl, Nat.le_of_ble_eq_true rfl⟩) (mkS hK hN (hP.sub [] rfl) (hD.sub [] (by decide) rfl)) rfl rfl hl.1 rfl (lv_room (Nat.le_of_ble_eq_true rfl)) dX11_count_26 ⟨Nat.le_of_ble_eq_true rfl, Nat.le_of_ble_eq_true rfl⟩) (fun r_122 hw => ?_)
      rcases hw with ⟨rfl, h_123, h_124⟩ | ⟨rfl, h_125⟩
      · refine lv_if_eq (tgt := 45) hx hb dX11_count_29 (by decide) (fun c_126 => absurd c_126 (by decide)) (fun c_126 => ?_)
        refine lv_aload_n hx hb dX11_count_32 rfl (lv_at hl 0 rfl) ?_
        refine va_get (ci := 11) (v := .ref a2) (C := RX11) (T := TX11) (N := 17) hx hb hts hw11 hown hK hP 0 rfl rfl 0 (by decide) (hts (.fieldLink RX11 10 "SmokeTune" "town" "LSmokeTune$Town;") (List.mem_cons_of_mem _ (List.mem_append_left _ (List.mem_append_left _ (List.mem_append_left _ (List.mem_append_left _ (List.mem_append_left _ (List.mem_of_getElem? (i := 1) rfl)))))))) (fun _ h9 => h9) rfl dX11_count_33 ?_
        refine va_getN (ci := 9) (v := .ref a5) (C := RX9) (T := TX9) (N := 10) hx hb hts hw9 hown hK hP 2 rfl rfl 2 (by decide) (nst_use hN 104 rfl) (fun _ h9 => h9) rfl dX11_count_36 ?_
        refine lv_iload_n hx hb dX11_count_39 rfl (lv_at hl 1 rfl) ?_
        refine lv_bipush (v := 13) hx hb dX11_count_40 (by decide) ?_
        refine lv_isub hx hb dX11_count_42 ?_
        refine lv_topi (fun x_127 ex_127 => ?_)
        obtain rfl : x_127 = 0 := ex_127.trans (by first | rfl | decide)
        refine va_iald hx hb hK hP 5 0 rfl rfl (i_in (x := 0) rfl (by omega)) dX11_count_43 ?_
        refine lv_topi (fun x_128 ex_128 => ?_)
        obtain rfl : x_128 = 0 := ex_128.trans (by first | rfl | decide | exact rfl)
        exact W.iret (v := 0) hx hb hr (fun t ht hW => ⟨_, rfl, (by first | exact Or.inl (⟨rfl, by first | omega | decide | (subst_vars; assumption)⟩)), ht⟩) (fun q hq => by cases hq) dX11_count_44
      · exfalso; omega
  · refine lv_iload_n hx hb dX11_count_0 rfl (lv_at hl 1 rfl) ?_
    refine lv_bipush (v := 6) hx hb dX11_count_1 (by decide) ?_
    refine lv_bipush (v := 10) hx hb dX11_count_3 (by decide) ?_
    refine pci (va_runS (As := [.int 14, .int 6, .int 10]) (rest := []) ⟨hx, hb, hml, hown, hts⟩ (c_within l D K 14 6 10 14 6 10 s.heap.size rfl rfl rfl) (va_cwS 3 hts gX11_count_X11_within rfl rfl rfl (by decide +kernel) ⟨Nat.le_of_ble_eq_true rfl, Nat.le_of_ble_eq_true rfl⟩) (mkS hK hN (hP.sub [] rfl) (hD.sub [] (by decide) rfl)) rfl rfl hl.1 rfl (lv_room (Nat.le_of_ble_eq_true rfl)) dX11_count_5 ⟨Nat.le_of_ble_eq_true rfl, Nat.le_of_ble_eq_true rfl⟩) (fun r_129 hw => ?_)
    rcases hw with ⟨rfl, h_130, h_131⟩ | ⟨rfl, h_132⟩
    · exfalso; omega
    · refine lv_if_eq (tgt := 21) hx hb dX11_count_8 (by decide) (fun c_133 => ?_) (fun c_133 => absurd (by decide) c_133)
      refine lv_iload_n hx hb dX11_count_21 rfl (lv_at hl 1 rfl) ?_
      refine lv_bipush (v := 13) hx hb dX11_count_22 (by decide) ?_
      refine lv_bipush (v := 18) hx hb dX11_count_24 (by decide) ?_
      refine pci (va_runS (As := [.int 14, .int 13, .int 18]) (rest := []) ⟨hx, hb, hml, hown, hts⟩ (c_within l D K 14 13 18 14 13 18 s.heap.size rfl rfl rfl) (va_cwS 3 hts gX11_count_X11_within rfl rfl rfl (by decide +kernel) ⟨Nat.le_of_ble_eq_true rfl, Nat.le_of_ble_eq_true rfl⟩) (mkS hK hN (hP.sub [] rfl) (hD.sub [] (by decide) rfl)) rfl rfl hl.1 rfl (lv_room (Nat.le_of_ble_eq_true rfl)) dX11_count_26 ⟨Nat.le_of_ble_eq_true rfl, Nat.le_of_ble_eq_true rfl⟩) (fun r_134 hw => ?_)
      rcases hw with ⟨rfl, h_135, h_136⟩ | ⟨rfl, h_137⟩
      · refine lv_if_eq (tgt := 45) hx hb dX11_count_29 (by decide) (fun c_138 => absurd c_138 (by decide)) (fun c_138 => ?_)
        refine lv_aload_n hx hb dX11_count_32 rfl (lv_at hl 0 rfl) ?_
        refine va_get (ci := 11) (v := .ref a2) (C := RX11) (T := TX11) (N := 17) hx hb hts hw11 hown hK hP 0 rfl rfl 0 (by decide) (hts (.fieldLink RX11 10 "SmokeTune" "town" "LSmokeTune$Town;") (List.mem_cons_of_mem _ (List.mem_append_left _ (List.mem_append_left _ (List.mem_append_left _ (List.mem_append_left _ (List.mem_append_left _ (List.mem_of_getElem? (i := 1) rfl)))))))) (fun _ h9 => h9) rfl dX11_count_33 ?_
        refine va_getN (ci := 9) (v := .ref a5) (C := RX9) (T := TX9) (N := 10) hx hb hts hw9 hown hK hP 2 rfl rfl 2 (by decide) (nst_use hN 104 rfl) (fun _ h9 => h9) rfl dX11_count_36 ?_
        refine lv_iload_n hx hb dX11_count_39 rfl (lv_at hl 1 rfl) ?_
        refine lv_bipush (v := 13) hx hb dX11_count_40 (by decide) ?_
        refine lv_isub hx hb dX11_count_42 ?_
        refine lv_topi (fun x_139 ex_139 => ?_)
        obtain rfl : x_139 = 1 := ex_139.trans (by first | rfl | decide)
        refine va_iald hx hb hK hP 5 0 rfl rfl (i_in (x := 1) rfl (by omega)) dX11_count_43 ?_
        refine lv_topi (fun x_140 ex_140 => ?_)
        obtain rfl : x_140 = 0 := ex_140.trans (by first | rfl | decide | exact rfl)
        exact W.iret (v := 0) hx hb hr (fun t ht hW => ⟨_, rfl, (by first | exact Or.inl (⟨rfl, by first | omega | decide | (subst_vars; assumption)⟩)), ht⟩) (fun q hq => by cases hq) dX11_count_44
      · exfalso; omega
  · refine lv_iload_n hx hb dX11_count_0 rfl (lv_at hl 1 rfl) ?_
    refine lv_bipush (v := 6) hx hb dX11_count_1 (by decide) ?_
    refine lv_bipush (v := 10) hx hb dX11_count_3 (by decide) ?_
    refine pci (va_runS (As := [.int 15, .int 6, .int 10]) (rest := []) ⟨hx, hb, hml, hown, hts⟩ (c_within l D K 15 6 10 15 6 10 s.heap.size rfl rfl rfl) (va_cwS 3 hts gX11_count_X11_within rfl rfl rfl (by decide +kernel) ⟨Nat.le_of_ble_eq_true rfl, Nat.le_of_ble_eq_true rfl⟩) (mkS hK hN (hP.sub [] rfl) (hD.sub [] (by decide) rfl)) rfl rfl hl.1 rfl (lv_room (Nat.le_of_ble_eq_true rfl)) dX11_count_5 ⟨Nat.le_of_ble_eq_true rfl, Nat.le_of_ble_eq_true rfl⟩) (fun r_141 hw => ?_)
    rcases hw with ⟨rfl, h_142, h_143⟩ | ⟨rfl, h_144⟩
    · exfalso; omega
    · refine lv_if_eq (tgt := 21) hx hb dX11_count_8 (by decide) (fun c_145 => ?_) (fun c_145 => absurd (by decide) c_145)
      refine lv_iload_n hx hb dX11_count_21 rfl (lv_at hl 1 rfl) ?_
      refine lv_bipush (v := 13) hx hb dX11_count_22 (by decide) ?_
      refine lv_bipush (v := 18) hx hb dX11_count_24 (by decide) ?_
      refine pci (va_runS (As := [.int 15, .int 13, .int 18]) (rest := []) ⟨hx, hb, hml, hown, hts⟩ (c_within l D K 15 13 18 15 13 18 s.heap.size rfl rfl rfl) (va_cwS 3 hts gX11_count_X11_within rfl rfl rfl (by decide +kernel) ⟨Nat.le_of_ble_eq_true rfl, Nat.le_of_ble_eq_true rfl⟩) (mkS hK hN (hP.sub [] rfl) (hD.sub [] (by decide) rfl)) rfl rfl hl.1 rfl (lv_room (Nat.le_of_ble_eq_true rfl)) dX11_count_26 ⟨Nat.le_of_ble_eq_true rfl, Nat.le_of_ble_eq_true rfl⟩) (fun r_146 hw => ?_)
      rcases hw with ⟨rfl, h_147, h_148⟩ | ⟨rfl, h_149⟩
      · refine lv_if_eq (tgt := 45) hx hb dX11_count_29 (by decide) (fun c_150 => absurd c_150 (by decide)) (fun c_150 => ?_)
        refine lv_aload_n hx hb dX11_count_32 rfl (lv_at hl 0 rfl) ?_
        refine va_get (ci := 11) (v := .ref a2) (C := RX11) (T := TX11) (N := 17) hx hb hts hw11 hown hK hP 0 rfl rfl 0 (by decide) (hts (.fieldLink RX11 10 "SmokeTune" "town" "LSmokeTune$Town;") (List.mem_cons_of_mem _ (List.mem_append_left _ (List.mem_append_left _ (List.mem_append_left _ (List.mem_append_left _ (List.mem_append_left _ (List.mem_of_getElem? (i := 1) rfl)))))))) (fun _ h9 => h9) rfl dX11_count_33 ?_
        refine va_getN (ci := 9) (v := .ref a5) (C := RX9) (T := TX9) (N := 10) hx hb hts hw9 hown hK hP 2 rfl rfl 2 (by decide) (nst_use hN 104 rfl) (fun _ h9 => h9) rfl dX11_count_36 ?_
        refine lv_iload_n hx hb dX11_count_39 rfl (lv_at hl 1 rfl) ?_
        refine lv_bipush (v := 13) hx hb dX11_count_40 (by decide) ?_
        refine lv_isub hx hb dX11_count_42 ?_
        refine lv_topi (fun x_151 ex_151 => ?_)
        obtain rfl : x_151 = 2 := ex_151.trans (by first | rfl | decide)
        refine va_iald hx hb hK hP 5 0 rfl rfl (i_in (x := 2) rfl (by omega)) dX11_count_43 ?_
        refine lv_topi (fun x_152 ex_152 => ?_)
        obtain rfl : x_152 = 3 := ex_152.trans (by first | rfl | decide | exact rfl)
        exact W.iret (v := 3) hx hb hr (fun t ht hW => ⟨_, rfl, (by first | exact Or.inr (Or.inl (⟨rfl, by first | omega | decide | (subst_vars; assumption)⟩))), ht⟩) (fun q hq => by cases hq) dX11_count_44
      · exfalso; omega
  · refine lv_iload_n hx hb dX11_count_0 rfl (lv_at hl 1 rfl) ?_
    refine lv_bipush (v := 6) hx hb dX11_count_1 (by decide) ?_
    refine lv_bipush (v := 10) hx hb dX11_count_3 (by decide) ?_
    refine pci (va_runS (As := [.int 16, .int 6, .int 10]) (rest := []) ⟨hx, hb, hml, hown, hts⟩ (c_within l D K 16 6 10 16 6 10 s.heap.size rfl rfl rfl) (va_cwS 3 hts gX11_count_X11_within rfl rfl rfl (by decide +kernel) ⟨Nat.le_of_ble_eq_true rfl, Nat.le_of_ble_eq_true rfl⟩) (mkS hK hN (hP.sub [] rfl) (hD.sub [] (by decide) rfl)) rfl rfl hl.1 rfl (lv_room (Nat.le_of_ble_eq_true rfl)) dX11_count_5 ⟨Nat.le_of_ble_eq_true rfl, Nat.le_of_ble_eq_true rfl⟩) (fun r_153 hw => ?_)
    rcases hw with ⟨rfl, h_154, h_155⟩ | ⟨rfl, h_156⟩
    · exfalso; omega
    · refine lv_if_eq (tgt := 21) hx hb dX11_count_8 (by decide) (fun c_157 => ?_) (fun c_157 => absurd (by decide) c_157)
      refine lv_iload_n hx hb dX11_count_21 rfl (lv_at hl 1 rfl) ?_
      refine lv_bipush (v := 13) hx hb dX11_count_22 (by decide) ?_
      refine lv_bipush (v := 18) hx hb dX11_count_24 (by decide) ?_
      refine pci (va_runS (As := [.int 16, .int 13, .int 18]) (rest := []) ⟨hx, hb, hml, hown, hts⟩ (c_within l D K 16 13 18 16 13 18 s.heap.size rfl rfl rfl) (va_cwS 3 hts gX11_count_X11_within rfl rfl rfl (by decide +kernel) ⟨Nat.le_of_ble_eq_true rfl, Nat.le_of_ble_eq_true rfl⟩) (mkS hK hN (hP.sub [] rfl) (hD.sub [] (by decide) rfl)) rfl rfl hl.1 rfl (lv_room (Nat.le_of_ble_eq_true rfl)) dX11_count_26 ⟨Nat.le_of_ble_eq_true rfl, Nat.le_of_ble_eq_true rfl⟩) (fun r_158 hw => ?_)
      rcases hw with ⟨rfl, h_159, h_160⟩ | ⟨rfl, h_161⟩
      · refine lv_if_eq (tgt := 45) hx hb dX11_count_29 (by decide) (fun c_162 => absurd c_162 (by decide)) (fun c_162 => ?_)
        refine lv_aload_n hx hb dX11_count_32 rfl (lv_at hl 0 rfl) ?_
        refine va_get (ci := 11) (v := .ref a2) (C := RX11) (T := TX11) (N := 17) hx hb hts hw11 hown hK hP 0 rfl rfl 0 (by decide) (hts (.fieldLink RX11 10 "SmokeTune" "town" "LSmokeTune$Town;") (List.mem_cons_of_mem _ (List.mem_append_left _ (List.mem_append_left _ (List.mem_append_left _ (List.mem_append_left _ (List.mem_append_left _ (List.mem_of_getElem? (i := 1) rfl)))))))) (fun _ h9 => h9) rfl dX11_count_33 ?_
        refine va_getN (ci := 9) (v := .ref a5) (C := RX9) (T := TX9) (N := 10) hx hb hts hw9 hown hK hP 2 rfl rfl 2 (by decide) (nst_use hN 104 rfl) (fun _ h9 => h9) rfl dX11_count_36 ?_
        refine lv_iload_n hx hb dX11_count_39 rfl (lv_at hl 1 rfl) ?_
        refine lv_bipush (v := 13) hx hb dX11_count_40 (by decide) ?_
        refine lv_isub hx hb dX11_count_42 ?_
        refine lv_topi (fun x_163 ex_163 => ?_)
        obtain rfl : x_163 = 3 := ex_163.trans (by first | rfl | decide)
        refine va_iald hx hb hK hP 5 0 rfl rfl (i_in (x := 3) rfl (by omega)) dX11_count_43 ?_
        refine lv_topi (fun x_164 ex_164 => ?_)
        obtain rfl : x_164 = 12 := ex_164.trans (by first | rfl | decide | exact rfl)
        exact W.iret (v := 12) hx hb hr (fun t ht hW => ⟨_, rfl, (by first | exact Or.inr (Or.inr (Or.inl (⟨rfl, by first | omega | decide | (subst_vars; assumption)⟩)))), ht⟩) (fun q hq => by cases hq) dX11_count_44
      · exfalso; omega
  · refine lv_iload_n hx hb dX11_count_0 rfl (lv_at hl 1 rfl) ?_
    refine lv_bipush (v := 6) hx hb dX11_count_1 (by decide) ?_
    refine lv_bipush (v := 10) hx hb dX11_count_3 (by decide) ?_
    refine pci (va_runS (As := [.int 17, .int 6, .int 10]) (rest := []) ⟨hx, hb, hml, hown, hts⟩ (c_within l D K 17 6 10 17 6 10 s.heap.size rfl rfl rfl) (va_cwS 3 hts gX11_count_X11_within rfl rfl rfl (by decide +kernel) ⟨Nat.le_of_ble_eq_true rfl, Nat.le_of_ble_eq_true rfl⟩) (mkS hK hN (hP.sub [] rfl) (hD.sub [] (by decide) rfl)) rfl rfl hl.1 rfl (lv_room (Nat.le_of_ble_eq_true rfl)) dX11_count_5 ⟨Nat.le_of_ble_eq_true rfl, Nat.le_of_ble_eq_true rfl⟩) (fun r_165 hw => ?_)
    rcases hw with ⟨rfl, h_166, h_167⟩ | ⟨rfl, h_168⟩
    · exfalso; omega
    · refine lv_if_eq (tgt := 21) hx hb dX11_count_8 (by decide) (fun c_169 => ?_) (fun c_169 => absurd (by decide) c_169)
      refine lv_iload_n hx hb dX11_count_21 rfl (lv_at hl 1 rfl) ?_
      refine lv_bipush (v := 13) hx hb dX11_count_22 (by decide) ?_
      refine lv_bipush (v := 18) hx hb dX11_count_24 (by decide) ?_
      refine pci (va_runS (As := [.int 17, .int 13, .int 18]) (rest := []) ⟨hx, hb, hml, hown, hts⟩ (c_within l D K 17 13 18 17 13 18 s.heap.size rfl rfl rfl) (va_cwS 3 hts gX11_count_X11_within rfl rfl rfl (by decide +kernel) ⟨Nat.le_of_ble_eq_true rfl, Nat.le_of_ble_eq_true rfl⟩) (mkS hK hN (hP.sub [] rfl) (hD.sub [] (by decide) rfl)) rfl rfl hl.1 rfl (lv_room (Nat.le_of_ble_eq_true rfl)) dX11_count_26 ⟨Nat.le_of_ble_eq_true rfl, Nat.le_of_ble_eq_true rfl⟩) (fun r_170 hw => ?_)
      rcases hw with ⟨rfl, h_171, h_172⟩ | ⟨rfl, h_173⟩
      · refine lv_if_eq (tgt := 45) hx hb dX11_count_29 (by decide) (fun c_174 => absurd c_174 (by decide)) (fun c_174 => ?_)
        refine lv_aload_n hx hb dX11_count_32 rfl (lv_at hl 0 rfl) ?_
        refine va_get (ci := 11) (v := .ref a2) (C := RX11) (T := TX11) (N := 17) hx hb hts hw11 hown hK hP 0 rfl rfl 0 (by decide) (hts (.fieldLink RX11 10 "SmokeTune" "town" "LSmokeTune$Town;") (List.mem_cons_of_mem _ (List.mem_append_left _ (List.mem_append_left _ (List.mem_append_left _ (List.mem_append_left _ (List.mem_append_left _ (List.mem_of_getElem? (i := 1) rfl)))))))) (fun _ h9 => h9) rfl dX11_count_33 ?_
        refine va_getN (ci := 9) (v := .ref a5) (C := RX9) (T := TX9) (N := 10) hx hb hts hw9 hown hK hP 2 rfl rfl 2 (by decide) (nst_use hN 104 rfl) (fun _ h9 => h9) rfl dX11_count_36 ?_
        refine lv_iload_n hx hb dX11_count_39 rfl (lv_at hl 1 rfl) ?_
        refine lv_bipush (v := 13) hx hb dX11_count_40 (by decide) ?_
        refine lv_isub hx hb dX11_count_42 ?_
        refine lv_topi (fun x_175 ex_175 => ?_)
        obtain rfl : x_175 = 4 := ex_175.trans (by first | rfl | decide)
        refine va_iald hx hb hK hP 5 0 rfl rfl (i_in (x := 4) rfl (by omega)) dX11_count_43 ?_
        refine lv_topi (fun x_176 ex_176 => ?_)
        obtain rfl : x_176 = 3 := ex_176.trans (by first | rfl | decide | exact rfl)
        exact W.iret (v := 3) hx hb hr (fun t ht hW => ⟨_, rfl, (by first | exact Or.inr (Or.inl (⟨rfl, by first | omega | decide | (subst_vars; assumption)⟩))), ht⟩) (fun q hq => by cases hq) dX11_count_44
      · exfalso; omega
  · refine lv_iload_n hx hb dX11_count_0 rfl (lv_at hl 1 rfl) ?_
    refine lv_bipush (v := 6) hx hb dX11_count_1 (by decide) ?_
    refine lv_bipush (v := 10) hx hb dX11_count_3 (by decide) ?_
    refine pci (va_runS (As := [.int 18, .int 6, .int 10]) (rest := []) ⟨hx, hb, hml, hown, hts⟩ (c_within l D K 18 6 10 18 6 10 s.heap.size rfl rfl rfl) (va_cwS 3 hts gX11_count_X11_within rfl rfl rfl (by decide +kernel) ⟨Nat.le_of_ble_eq_true rfl, Nat.le_of_ble_eq_true rfl⟩) (mkS hK hN (hP.sub [] rfl) (hD.sub [] (by decide) rfl)) rfl rfl hl.1 rfl (lv_room (Nat.le_of_ble_eq_true rfl)) dX11_count_5 ⟨Nat.le_of_ble_eq_true rfl, Nat.le_of_ble_eq_true rfl⟩) (fun r_177 hw => ?_)
    rcases hw with ⟨rfl, h_178, h_179⟩ | ⟨rfl, h_180⟩
    · exfalso; omega
    · refine lv_if_eq (tgt := 21) hx hb dX11_count_8 (by decide) (fun c_181 => ?_) (fun c_181 => absurd (by decide) c_181)
      refine lv_iload_n hx hb dX11_count_21 rfl (lv_at hl 1 rfl) ?_
      refine lv_bipush (v := 13) hx hb dX11_count_22 (by decide) ?_
      refine lv_bipush (v := 18) hx hb dX11_count_24 (by decide) ?_
      refine pci (va_runS (As := [.int 18, .int 13, .int 18]) (rest := []) ⟨hx, hb, hml, hown, hts⟩ (c_within l D K 18 13 18 18 13 18 s.heap.size rfl rfl rfl) (va_cwS 3 hts gX11_count_X11_within rfl rfl rfl (by decide +kernel) ⟨Nat.le_of_ble_eq_true rfl, Nat.le_of_ble_eq_true rfl⟩) (mkS hK hN (hP.sub [] rfl) (hD.sub [] (by decide) rfl)) rfl rfl hl.1 rfl (lv_room (Nat.le_of_ble_eq_true rfl)) dX11_count_26 ⟨Nat.le_of_ble_eq_true rfl, Nat.le_of_ble_eq_true rfl⟩) (fun r_182 hw => ?_)
      rcases hw with ⟨rfl, h_183, h_184⟩ | ⟨rfl, h_185⟩
      · refine lv_if_eq (tgt := 45) hx hb dX11_count_29 (by decide) (fun c_186 => absurd c_186 (by decide)) (fun c_186 => ?_)
        refine lv_aload_n hx hb dX11_count_32 rfl (lv_at hl 0 rfl) ?_
        refine va_get (ci := 11) (v := .ref a2) (C := RX11) (T := TX11) (N := 17) hx hb hts hw11 hown hK hP 0 rfl rfl 0 (by decide) (hts (.fieldLink RX11 10 "SmokeTune" "town" "LSmokeTune$Town;") (List.mem_cons_of_mem _ (List.mem_append_left _ (List.mem_append_left _ (List.mem_append_left _ (List.mem_append_left _ (List.mem_append_left _ (List.mem_of_getElem? (i := 1) rfl)))))))) (fun _ h9 => h9) rfl dX11_count_33 ?_
        refine va_getN (ci := 9) (v := .ref a5) (C := RX9) (T := TX9) (N := 10) hx hb hts hw9 hown hK hP 2 rfl rfl 2 (by decide) (nst_use hN 104 rfl) (fun _ h9 => h9) rfl dX11_count_36 ?_
        refine lv_iload_n hx hb dX11_count_39 rfl (lv_at hl 1 rfl) ?_
        refine lv_bipush (v := 13) hx hb dX11_count_40 (by decide) ?_
        refine lv_isub hx hb dX11_count_42 ?_
        refine lv_topi (fun x_187 ex_187 => ?_)
        obtain rfl : x_187 = 5 := ex_187.trans (by first | rfl | decide)
        refine va_iald hx hb hK hP 5 0 rfl rfl (i_in (x := 5) rfl (by omega)) dX11_count_43 ?_
        refine lv_topi (fun x_188 ex_188 => ?_)
        obtain rfl : x_188 = 0 := ex_188.trans (by first | rfl | decide | exact rfl)
        exact W.iret (v := 0) hx hb hr (fun t ht hW => ⟨_, rfl, (by first | exact Or.inl (⟨rfl, by first | omega | decide | (subst_vars; assumption)⟩)), ht⟩) (fun q hq => by cases hq) dX11_count_44
      · exfalso; omega
  · refine lv_iload_n hx hb dX11_count_0 rfl (lv_at hl 1 rfl) ?_
    refine lv_bipush (v := 6) hx hb dX11_count_1 (by decide) ?_
    refine lv_bipush (v := 10) hx hb dX11_count_3 (by decide) ?_
    refine pci (va_runS (As := [.int x, .int 6, .int 10]) (rest := []) ⟨hx, hb, hml, hown, hts⟩ (c_within l D K x 6 10 x.toInt 6 10 s.heap.size rfl rfl rfl) (va_cwS 3 hts gX11_count_X11_within rfl rfl rfl (by decide +kernel) ⟨Nat.le_of_ble_eq_true rfl, Nat.le_of_ble_eq_true rfl⟩) (mkS hK hN (hP.sub [] rfl) (hD.sub [] (by decide) rfl)) rfl rfl hl.1 rfl (lv_room (Nat.le_of_ble_eq_true rfl)) dX11_count_5 ⟨Nat.le_of_ble_eq_true rfl, Nat.le_of_ble_eq_true rfl⟩) (fun r_189 hw => ?_)
    rcases hw with ⟨rfl, h_190, h_191⟩ | ⟨rfl, h_192⟩
    · exfalso; omega
    · refine lv_if_eq (tgt := 21) hx hb dX11_count_8 (by decide) (fun c_193 => ?_) (fun c_193 => absurd (by decide) c_193)
      refine lv_iload_n hx hb dX11_count_21 rfl (lv_at hl 1 rfl) ?_
      refine lv_bipush (v := 13) hx hb dX11_count_22 (by decide) ?_
      refine lv_bipush (v := 18) hx hb dX11_count_24 (by decide) ?_
      refine pci (va_runS (As := [.int x, .int 13, .int 18]) (rest := []) ⟨hx, hb, hml, hown, hts⟩ (c_within l D K x 13 18 x.toInt 13 18 s.heap.size rfl rfl rfl) (va_cwS 3 hts gX11_count_X11_within rfl rfl rfl (by decide +kernel) ⟨Nat.le_of_ble_eq_true rfl, Nat.le_of_ble_eq_true rfl⟩) (mkS hK hN (hP.sub [] rfl) (hD.sub [] (by decide) rfl)) rfl rfl hl.1 rfl (lv_room (Nat.le_of_ble_eq_true rfl)) dX11_count_26 ⟨Nat.le_of_ble_eq_true rfl, Nat.le_of_ble_eq_true rfl⟩) (fun r_194 hw => ?_)
      rcases hw with ⟨rfl, h_195, h_196⟩ | ⟨rfl, h_197⟩
      · exfalso; omega
      · refine lv_if_eq (tgt := 45) hx hb dX11_count_29 (by decide) (fun c_198 => ?_) (fun c_198 => absurd (by decide) c_198)
        refine lv_iload_n hx hb dX11_count_45 rfl (lv_at hl 1 rfl) ?_
        refine lv_tableOut (tgt := 176) hx hb dX11_count_46 (by omega) (by decide) ?_
        refine lv_iconst (v := (-1)) hx hb dX11_count_176 (by decide) ?_
        exact W.iret (v := (-1)) hx hb hr (fun t ht hW => ⟨_, rfl, (by first | exact Or.inr (Or.inr (Or.inr (⟨rfl, by first | omega | decide | (subst_vars; assumption)⟩)))), ht⟩) (fun q hq => by cases hq) dX11_count_177
set_option maxHeartbeats 4000000 in
set_option maxRecDepth 100000 in
theorem c_mapSets (l : Launch) (D : va_G) (K : Nat → ClassId) (a0 : Nat) (a1 : Nat) (g0 : Value) (g1 : Value) (g2 : Value) (g3 : Value) (g4 : Value) (k0 : Value) (k1 : Value) (k2 : Value) (k3 : Value) (k5 : Value) (k6 : Value) (k7 : Value) (k8 : Value) (k9 : Value) (sz : Nat) : Met l yX4_mapSets wsX4_mapSets ({ frames := 0, cells := 0, slots := 0, locals := 0 }) (va_Pc [.ref a0, .ref a1] (Pre D K [(a0, .inr (4, [g0, g1, g2, g3, g4])), (a1, .inr (9, [k0, k1, k2, k3, .int 0, k5, k6, k7, k8, k9]))] sz)) (vp_Si (fun r : Int32 => (r = 1))) 0 0 (fun _ => False) := by
  refine Met.ofW (cc := cX4_mapSets) (maxL := 5) (ret := (some .int)) (by decide) rfl ?_
  intro p e s m args below meth c s₁ B hml hv
  obtain ⟨rfl, hsz, hP, hK, hD0, hN⟩ := hv
  have hx := B.exec
  have hb := B.bytes
  have hr := B.returns
  have hts := atoms_spec (ws := wsX4_mapSets) B.pre
  have hown : s.vm.findClass RX4 = some m.cls := findClass_of_methodNamed B.named
  have hlocks := B.notSynchronized
  subst hsz
  have hD := hD0
  have hP : va_P D vwCl [(a0, .inr (4, [g0, g1, g2, g3, g4])), (a1, .inr (9, [k0, k1, k2, k3, .int 0, k5, k6, k7, k8, k9]))] s.heap := hP
  have hl := lv_entry [.ref a0, .ref a1] (n := 5) (Nat.le_of_ble_eq_true rfl)
  rw [lg_entry_eq]
  generalize (lg_sl [.ref a0, .ref a1] ++ List.replicate (5 - (lg_sl [.ref a0, .ref a1]).length) Slot.unset).toArray = ls at hl ⊢
  have hl : lv_has ls 5 [(0, .ref a0), (1, .ref a1)] := hl
  have hw4 : ∀ w ∈ wsX40, w ∈ wsX4_mapSets := fun w h => (List.mem_cons_of_mem _ (List.mem_append_right _ h))
  have hw9 : ∀ w ∈ wsX90, w ∈ wsX4_mapSets := fun w h => (List.mem_cons_of_mem _ (List.mem_append_left _ (List.mem_append_right _ h)))
  refine lv_iconst (v := 1) hx hb dX4_mapSets_0 (by decide) ?_
  refine lv_istore_n (lv' := [(2, .int 1), (0, .ref a0), (1, .ref a1)]) hx hb dX4_mapSets_1 rfl hl (by decide) rfl (fun ls hl => ?_)
  refine lv_iconst (v := 0) hx hb dX4_mapSets_2 (by decide) ?_
  refine lv_istore_n (lv' := [(3, .int 0), (2, .int 1), (0, .ref a0), (1, .ref a1)]) hx hb dX4_mapSets_3 rfl hl (by decide) rfl (fun ls hl => ?_)
  refine lv_iload_n hx hb dX4_mapSets_4 rfl (lv_at hl 0 rfl) ?_
  refine lv_aload_n hx hb dX4_mapSets_5 rfl (lv_at hl 3 rfl) ?_
  refine va_getN (ci := 9) (v := .int 0) (C := RX9) (T := TX9) (N := 10) hx hb hts hw9 hown hK hP 1 rfl rfl 4 (by decide) (nst_use hN 106 rfl) (fun _ h9 => h9) rfl dX4_mapSets_6 ?_
  refine lv_icmp_ge (tgt := 68) hx hb dX4_mapSets_9 (by decide) (fun c_1 => ?_) (fun c_1 => absurd (by decide) c_1)
  refine lv_iload_n hx hb dX4_mapSets_68 rfl (lv_at hl 1 rfl) ?_
  exact W.iret (v := 1) hx hb hr (fun t ht hW => ⟨_, rfl, (by first | exact rfl), ht⟩) (fun q hq => by cases hq) dX4_mapSets_69
set_option maxHeartbeats 4000000 in
set_option maxRecDepth 100000 in
theorem c_hillSet (l : Launch) (D : va_G) (K : Nat → ClassId) (a0 : Nat) (a1 : Nat) (x : Int32) (g0 : Value) (g1 : Value) (g2 : Value) (g3 : Value) (a2 : Nat) (k0 : Value) (k1 : Value) (k2 : Value) (k3 : Value) (k5 : Value) (k6 : Value) (k7 : Value) (k8 : Value) (X : Int) (sz : Nat) (hx : x.toInt = X) : Met l yX4_hillSet wsX4_hillSet ({ frames := 1, cells := 0, slots := 0, locals := 24 }) (va_Pc [.ref a0, .ref a1, .int x] (Pre D K [(a0, .inr (4, [g0, g1, g2, g3, .ref a2])), (a1, .inr (9, [k0, k1, k2, k3, .int 0, k5, k6, k7, k8, .int 0])), (a2, .inl (K 0, 256, .inl (fun _ => 0)))] sz)) (vp_Si (fun r : Int32 => (r = 1 ∧ X = -1) ∨ (r = 0 ∧ X = 0) ∨ (r = (-1) ∧ X ≠ 0 ∧ X ≠ -1))) 0 0 (fun _ => False) := by
  refine Met.ofW (cc := cX4_hillSet) (maxL := 6) (ret := (some .int)) (by decide) rfl ?_
  intro p e s m args below meth c s₁ B hml hv
  obtain ⟨rfl, hsz, hP, hK, hD0, hN⟩ := hv
  have hx := B.exec
  have hb := B.bytes
  have hr := B.returns
  have hts := atoms_spec (ws := wsX4_hillSet) B.pre
  have hown : s.vm.findClass RX4 = some m.cls := findClass_of_methodNamed B.named
  have hlocks := B.notSynchronized
  subst hsz
  have hD := hD0
  have hP : va_P D vwCl [(a0, .inr (4, [g0, g1, g2, g3, .ref a2])), (a1, .inr (9, [k0, k1, k2, k3, .int 0, k5, k6, k7, k8, .int 0])), (a2, .inl (K 0, 256, .inl (fun _ => 0)))] s.heap := hP
  have hl := lv_entry [.ref a0, .ref a1, .int x] (n := 6) (Nat.le_of_ble_eq_true rfl)
  rw [lg_entry_eq]
  generalize (lg_sl [.ref a0, .ref a1, .int x] ++ List.replicate (6 - (lg_sl [.ref a0, .ref a1, .int x]).length) Slot.unset).toArray = ls at hl ⊢
  have hl : lv_has ls 6 [(0, .ref a0), (1, .ref a1), (2, .int x)] := hl
  have hw4 : ∀ w ∈ wsX40, w ∈ wsX4_hillSet := fun w h => (List.mem_cons_of_mem _ (List.mem_append_left _ (List.mem_append_right _ h)))
  have hw9 : ∀ w ∈ wsX90, w ∈ wsX4_hillSet := fun w h => (List.mem_cons_of_mem _ (List.mem_append_right _ h))
  refine lv_aload_n hx hb dX4_hillSet_0 rfl (lv_at hl 0 rfl) ?_
  refine lv_aload_n hx hb dX4_hillSet_1 rfl (lv_at hl 1 rfl) ?_
  refine pci (va_runV (As := [.ref a1]) (rest := []) ⟨hx, hb, hml, hown, hts⟩ (c_mapSets l D K a0 a1 g0 g1 g2 g3 (.ref a2) k0 k1 k2 k3 k5 k6 k7 k8 (.int 0) s.heap.size) (cwV 1 hts gX4_hillSet_X4_mapSets rfl rfl rfl (by decide +kernel) ⟨Nat.le_of_ble_eq_true rfl, Nat.le_of_ble_eq_true rfl⟩) (mkV hK hN (hP.sub [0, 1] rfl) (hD.sub [0, 1] (by decide) rfl) (ci := 4) (q0 := 0) rfl rfl) rfl rfl hl.1 rfl (lv_room (Nat.le_of_ble_eq_true rfl)) dX4_hillSet_2 ⟨Nat.le_of_ble_eq_true rfl, Nat.le_of_ble_eq_true rfl⟩) (fun r_1 hw => ?_)
  obtain rfl : r_1 = 1 := hw
  refine lv_istore_n (lv' := [(3, .int 1), (0, .ref a0), (1, .ref a1), (2, .int x)]) hx hb dX4_hillSet_5 rfl hl (by decide) rfl (fun ls hl => ?_)
  refine lv_iconst (v := 0) hx hb dX4_hillSet_6 (by decide) ?_
  refine lv_istore (lv' := [(4, .int 0), (3, .int 1), (0, .ref a0), (1, .ref a1), (2, .int x)]) hx hb dX4_hillSet_7 hl (by decide) rfl (fun ls hl => ?_)
  refine lv_iconst (v := 0) hx hb dX4_hillSet_9 (by decide) ?_
  refine lv_istore (lv' := [(5, .int 0), (4, .int 0), (3, .int 1), (0, .ref a0), (1, .ref a1), (2, .int x)]) hx hb dX4_hillSet_10 hl (by decide) rfl (fun ls hl => ?_)
  refine lv_iload hx hb dX4_hillSet_12 (lv_at hl 0 rfl) ?_
  refine lv_iload_n hx hb dX4_hillSet_14 rfl (lv_at hl 2 rfl) ?_
  refine lv_icmp_ge (tgt := 50) hx hb dX4_hillSet_15 (by decide) (fun c_2 => absurd c_2 (by decide)) (fun c_2 => ?_)
  refine lv_aload_n hx hb dX4_hillSet_18 rfl (lv_at hl 3 rfl) ?_
  refine va_get (ci := 4) (v := .ref a2) (C := RX4) (T := TX4) (N := 5) hx hb hts hw4 hown hK hP 0 rfl rfl 4 (by decide) (hts (.fieldLink RX4 24 "SmokeTune$Paper" "setNotes" "[I") (List.mem_cons_of_mem _ (List.mem_append_left _ (List.mem_append_left _ (List.mem_of_getElem? (i := 0) rfl))))) (fun _ h9 => h9) rfl dX4_hillSet_19 ?_
  refine lv_iload hx hb dX4_hillSet_22 (lv_at hl 0 rfl) ?_
  refine va_iald hx hb hK hP 2 0 rfl rfl (i_in (x := 0) rfl (by omega)) dX4_hillSet_24 ?_
  refine lv_topi (fun x_3 ex_3 => ?_)
  obtain rfl : x_3 = 0 := ex_3.trans (by first | rfl | decide | exact rfl)
  refine lv_aload_n hx hb dX4_hillSet_25 rfl (lv_at hl 4 rfl) ?_
  refine va_getN (ci := 9) (v := .int 0) (C := RX9) (T := TX9) (N := 10) hx hb hts hw9 hown hK hP 1 rfl rfl 9 (by decide) (nst_use hN 117 rfl) (fun _ h9 => h9) rfl dX4_hillSet_26 ?_
  refine lv_icmp_ne (tgt := 44) hx hb dX4_hillSet_29 (by decide) (fun c_4 => absurd c_4 (by decide)) (fun c_4 => ?_)
  refine lv_iload hx hb dX4_hillSet_32 (lv_at hl 1 rfl) ?_
  refine lv_iload_n hx hb dX4_hillSet_34 rfl (lv_at hl 5 rfl) ?_
  refine lv_icmp_ne (tgt := 41) hx hb dX4_hillSet_35 (by decide) (fun c_5 => ?_) (fun c_5 => ?_)
  · have c_5i := i_ne rfl hx c_5
    refine lv_iinc (v := 1) (lv' := [(4, .int 1), (5, .int 0), (3, .int 1), (0, .ref a0), (1, .ref a1), (2, .int x)]) hx hb dX4_hillSet_41 hl (k := 1) rfl (by decide) (by decide) rfl (fun ls hl => ?_)
    refine lv_iinc (v := 1) (lv' := [(5, .int 1), (4, .int 1), (3, .int 1), (0, .ref a0), (1, .ref a1), (2, .int x)]) hx hb dX4_hillSet_44 hl (k := 1) rfl (by decide) (by decide) rfl (fun ls hl => ?_)
    refine lv_goto (tgt := 12) hx hb dX4_hillSet_47 (by decide) ?_
    refine lv_iload hx hb dX4_hillSet_12 (lv_at hl 0 rfl) ?_
    refine lv_iload_n hx hb dX4_hillSet_14 rfl (lv_at hl 2 rfl) ?_
    refine lv_icmp_ge (tgt := 50) hx hb dX4_hillSet_15 (by decide) (fun c_6 => ?_) (fun c_6 => absurd (by decide) c_6)
    refine lv_iload_n hx hb dX4_hillSet_50 rfl (lv_at hl 5 rfl) ?_
    refine lv_iconst (v := (-1)) hx hb dX4_hillSet_51 (by decide) ?_
    refine lv_icmp_ne (tgt := 60) hx hb dX4_hillSet_52 (by decide) (fun c_7 => ?_) (fun c_7 => ?_)
    · have c_7i := i_ne hx rfl c_7
      refine lv_iconst (v := (-1)) hx hb dX4_hillSet_60 (by decide) ?_
      exact W.iret (v := (-1)) hx hb hr (fun t ht hW => ⟨_, rfl, (by first | exact Or.inr (Or.inr (⟨rfl, by first | omega | decide | (subst_vars; assumption), by first | omega | decide | (subst_vars; assumption)⟩))), ht⟩) (fun q hq => by cases hq) dX4_hillSet_61
    · have c_7i := i_eq hx rfl (Decidable.not_not.mp c_7)
      refine lv_iload hx hb dX4_hillSet_55 (lv_at hl 1 rfl) ?_
      refine lv_goto (tgt := 61) hx hb dX4_hillSet_57 (by decide) ?_
      exact W.iret (v := 1) hx hb hr (fun t ht hW => ⟨_, rfl, (by first | exact Or.inl (⟨rfl, by first | omega | decide | (subst_vars; assumption)⟩)), ht⟩) (fun q hq => by cases hq) dX4_hillSet_61
  · have c_5i := i_eq rfl hx (Decidable.not_not.mp c_5)
    refine lv_iload hx hb dX4_hillSet_38 (lv_at hl 0 rfl) ?_
    exact W.iret (v := 0) hx hb hr (fun t ht hW => ⟨_, rfl, (by first | exact Or.inr (Or.inl (⟨rfl, by first | omega | decide | (subst_vars; assumption)⟩))), ht⟩) (fun q hq => by cases hq) dX4_hillSet_40
set_option maxHeartbeats 4000000 in
set_option maxRecDepth 100000 in
theorem t_hill (l : Launch) (D : va_G) (K : Nat → ClassId) (a0 : Nat) (x : Int32) (a1 : Nat) (g1 : Value) (g2 : Value) (g3 : Value) (g4 : Value) (g5 : Value) (g6 : Value) (g7 : Value) (g8 : Value) (g9 : Value) (g10 : Value) (a3 : Nat) (g12 : Value) (g13 : Value) (g14 : Value) (g15 : Value) (g16 : Value) (p0 : Value) (p1 : Value) (p2 : Value) (p3 : Value) (a2 : Nat) (k0 : Value) (k1 : Value) (k2 : Value) (k3 : Value) (k5 : Value) (k6 : Value) (k7 : Value) (k8 : Value) (sz : Nat) : Met l yX11_hill wsX11_hill ({ frames := 2, cells := 0, slots := 0, locals := 49 }) (va_Pc [.ref a0, .int x] (Pre D K [(a0, .inr (11, [.ref a1, g1, g2, g3, g4, g5, g6, g7, g8, g9, g10, .ref a3, g12, g13, g14, g15, g16])), (a3, .inr (4, [p0, p1, p2, p3, .ref a2])), (a1, .inr (9, [k0, k1, k2, k3, .int 0, k5, k6, k7, k8, .int 0])), (a2, .inl (K 0, 256, .inl (fun _ => 0)))] sz)) (vp_Si (fun r : Int32 => (r = 1 ∧ x.toInt = -1) ∨ (r = 0 ∧ x.toInt = 0) ∨ (r = (-1) ∧ x.toInt ≠ 0 ∧ x.toInt ≠ -1))) 0 0 (fun _ => False) := by
  refine Met.ofW (cc := cX11_hill) (maxL := 2) (ret := (some .int)) (by decide) rfl ?_
  intro p e s m args below meth c s₁ B hml hv
  obtain ⟨rfl, hsz, hP, hK, hD0, hN⟩ := hv
  have hx := B.exec
  have hb := B.bytes
  have hr := B.returns
  have hts := atoms_spec (ws := wsX11_hill) B.pre
  have hown : s.vm.findClass RX11 = some m.cls := findClass_of_methodNamed B.named
  have hlocks := B.notSynchronized
  subst hsz
  have hD := hD0
  have hP : va_P D vwCl [(a0, .inr (11, [.ref a1, g1, g2, g3, g4, g5, g6, g7, g8, g9, g10, .ref a3, g12, g13, g14, g15, g16])), (a3, .inr (4, [p0, p1, p2, p3, .ref a2])), (a1, .inr (9, [k0, k1, k2, k3, .int 0, k5, k6, k7, k8, .int 0])), (a2, .inl (K 0, 256, .inl (fun _ => 0)))] s.heap := hP
  have hl := lv_entry [.ref a0, .int x] (n := 2) (Nat.le_of_ble_eq_true rfl)
  rw [lg_entry_eq]
  generalize (lg_sl [.ref a0, .int x] ++ List.replicate (2 - (lg_sl [.ref a0, .int x]).length) Slot.unset).toArray = ls at hl ⊢
  have hl : lv_has ls 2 [(0, .ref a0), (1, .int x)] := hl
  have hw4 : ∀ w ∈ wsX40, w ∈ wsX11_hill := fun w h => (List.mem_cons_of_mem _ (List.mem_append_left _ (List.mem_append_right _ h)))
  have hw9 : ∀ w ∈ wsX90, w ∈ wsX11_hill := fun w h => (List.mem_cons_of_mem _ (List.mem_append_right _ h))
  have hw11 : ∀ w ∈ wsX110, w ∈ wsX11_hill := fun w h => (List.mem_cons_of_mem _ (List.mem_append_left _ (List.mem_append_left _ (List.mem_append_right _ h))))
  refine lv_aload_n hx hb dX11_hill_0 rfl (lv_at hl 0 rfl) ?_
  refine va_get (ci := 11) (v := .ref a3) (C := RX11) (T := TX11) (N := 17) hx hb hts hw11 hown hK hP 0 rfl rfl 11 (by decide) (hts (.fieldLink RX11 75 "SmokeTune" "paper" "LSmokeTune$Paper;") (List.mem_cons_of_mem _ (List.mem_append_left _ (List.mem_append_left _ (List.mem_append_left _ (List.mem_of_getElem? (i := 0) rfl)))))) (fun _ h9 => h9) rfl dX11_hill_1 ?_
  refine lv_aload_n hx hb dX11_hill_4 rfl (lv_at hl 0 rfl) ?_
  refine va_get (ci := 11) (v := .ref a1) (C := RX11) (T := TX11) (N := 17) hx hb hts hw11 hown hK hP 0 rfl rfl 0 (by decide) (hts (.fieldLink RX11 10 "SmokeTune" "town" "LSmokeTune$Town;") (List.mem_cons_of_mem _ (List.mem_append_left _ (List.mem_append_left _ (List.mem_append_left _ (List.mem_of_getElem? (i := 1) rfl)))))) (fun _ h9 => h9) rfl dX11_hill_5 ?_
  refine lv_iload_n hx hb dX11_hill_8 rfl (lv_at hl 1 rfl) ?_
  refine pci (va_runVN (As := [.ref a1, .int x]) (rest := []) ⟨hx, hb, hml, hown, hts⟩ (c_hillSet l D K a3 a1 x p0 p1 p2 p3 a2 k0 k1 k2 k3 k5 k6 k7 k8 x.toInt s.heap.size rfl) ⟨va_cnB 2 hts gX11_hill_X4_hillSet_n264 rfl rfl rfl (nst_at hN 88 rfl) (hts (.initialized RX4) (List.mem_cons_of_mem _ (List.mem_append_left _ (List.mem_append_left _ (List.mem_append_left _ (List.mem_of_getElem? (i := 3) rfl)))))) (by decide +kernel) ⟨Nat.le_of_ble_eq_true rfl, Nat.le_of_ble_eq_true rfl⟩, (hts (.instanceMethod yX4_hillSet) (List.mem_cons_of_mem _ (List.mem_append_left _ (List.mem_append_left _ (List.mem_append_left _ (List.mem_of_getElem? (i := 2) rfl)))))), (hts (.selects RX4 yX4_hillSet yX4_hillSet) (List.mem_cons_of_mem _ (List.mem_append_left _ (List.mem_append_left _ (List.mem_append_left _ (List.mem_of_getElem? (i := 4) rfl))))))⟩ (mkV hK hN (hP.sub [1, 2, 3] rfl) (hD.sub [1, 2, 3] (by decide) rfl) (ci := 4) (q0 := 0) rfl rfl) rfl rfl hl.1 rfl (lv_room (Nat.le_of_ble_eq_true rfl)) dX11_hill_9 ⟨Nat.le_of_ble_eq_true rfl, Nat.le_of_ble_eq_true rfl⟩) (fun r_1 hw => ?_)
  rcases hw with ⟨rfl, h_2⟩ | ⟨rfl, h_3⟩ | ⟨rfl, h_4, h_5⟩
  · exact W.iret (v := 1) hx hb hr (fun t ht hW => ⟨_, rfl, (by first | exact Or.inl (⟨rfl, by first | omega | decide | (subst_vars; assumption)⟩)), ht⟩) (fun q hq => by cases hq) dX11_hill_12
  · exact W.iret (v := 0) hx hb hr (fun t ht hW => ⟨_, rfl, (by first | exact Or.inr (Or.inl (⟨rfl, by first | omega | decide | (subst_vars; assumption)⟩))), ht⟩) (fun q hq => by cases hq) dX11_hill_12
  · exact W.iret (v := (-1)) hx hb hr (fun t ht hW => ⟨_, rfl, (by first | exact Or.inr (Or.inr (⟨rfl, by first | omega | decide | (subst_vars; assumption), by first | omega | decide | (subst_vars; assumption)⟩))), ht⟩) (fun q hq => by cases hq) dX11_hill_12
set_option maxHeartbeats 4000000 in
set_option maxRecDepth 100000 in
theorem c_question (l : Launch) (D : va_G) (K : Nat → ClassId) (a0 : Nat) (a1 : Nat) (x : Int32) (g0 : Value) (g1 : Value) (g2 : Value) (g3 : Value) (a2 : Nat) (k0 : Value) (k1 : Value) (k2 : Value) (k3 : Value) (k5 : Value) (k6 : Value) (k7 : Value) (k8 : Value) (sz : Nat) : Met l yX4_question wsX4_question ({ frames := 2, cells := 0, slots := 0, locals := 49 }) (va_Pc [.ref a0, .ref a1, .int x] (Pre D K [(a0, .inr (4, [g0, g1, g2, g3, .ref a2])), (a1, .inr (9, [k0, k1, k2, k3, .int 0, k5, k6, k7, k8, .int 0])), (a2, .inl (K 0, 256, .inl (fun _ => 0)))] sz)) (vp_Si (fun r : Int32 => (r = (-1)))) 0 0 (fun _ => False) := by
  refine Met.ofW (cc := cX4_question) (maxL := 9) (ret := (some .int)) (by decide) rfl ?_
  intro p e s m args below meth c s₁ B hml hv
  obtain ⟨rfl, hsz, hP, hK, hD0, hN⟩ := hv
  have hx := B.exec
  have hb := B.bytes
  have hr := B.returns
  have hts := atoms_spec (ws := wsX4_question) B.pre
  have hown : s.vm.findClass RX4 = some m.cls := findClass_of_methodNamed B.named
  have hlocks := B.notSynchronized
  subst hsz
  have hD := hD0
  have hP : va_P D vwCl [(a0, .inr (4, [g0, g1, g2, g3, .ref a2])), (a1, .inr (9, [k0, k1, k2, k3, .int 0, k5, k6, k7, k8, .int 0])), (a2, .inl (K 0, 256, .inl (fun _ => 0)))] s.heap := hP
  have hl := lv_entry [.ref a0, .ref a1, .int x] (n := 9) (Nat.le_of_ble_eq_true rfl)
  rw [lg_entry_eq]
  generalize (lg_sl [.ref a0, .ref a1, .int x] ++ List.replicate (9 - (lg_sl [.ref a0, .ref a1, .int x]).length) Slot.unset).toArray = ls at hl ⊢
  have hl : lv_has ls 9 [(0, .ref a0), (1, .ref a1), (2, .int x)] := hl
  have hw4 : ∀ w ∈ wsX40, w ∈ wsX4_question := fun w h => (List.mem_cons_of_mem _ (List.mem_append_right _ h))
  have hw9 : ∀ w ∈ wsX90, w ∈ wsX4_question := fun w h => (List.mem_cons_of_mem _ (List.mem_append_left _ (List.mem_append_right _ h)))
  refine lv_aload_n hx hb dX4_question_0 rfl (lv_at hl 0 rfl) ?_
  refine lv_aload_n hx hb dX4_question_1 rfl (lv_at hl 1 rfl) ?_
  refine lv_iconst (v := (-1)) hx hb dX4_question_2 (by decide) ?_
  refine pci (va_runV (As := [.ref a1, .int (-1)]) (rest := []) ⟨hx, hb, hml, hown, hts⟩ (c_hillSet l D K a0 a1 (-1) g0 g1 g2 g3 a2 k0 k1 k2 k3 k5 k6 k7 k8 (-1) s.heap.size rfl) (cwV 2 hts gX4_question_X4_hillSet rfl rfl rfl (by decide +kernel) ⟨Nat.le_of_ble_eq_true rfl, Nat.le_of_ble_eq_true rfl⟩) (mkV hK hN (hP.sub [0, 1, 2] rfl) (hD.sub [0, 1, 2] (by decide) rfl) (ci := 4) (q0 := 0) rfl rfl) rfl rfl hl.1 rfl (lv_room (Nat.le_of_ble_eq_true rfl)) dX4_question_3 ⟨Nat.le_of_ble_eq_true rfl, Nat.le_of_ble_eq_true rfl⟩) (fun r_1 hw => ?_)
  rcases hw with ⟨rfl, h_2⟩ | ⟨rfl, h_3⟩ | ⟨rfl, h_4, h_5⟩
  · refine lv_istore_n (lv' := [(3, .int 1), (0, .ref a0), (1, .ref a1), (2, .int x)]) hx hb dX4_question_6 rfl hl (by decide) rfl (fun ls hl => ?_)
    refine lv_iconst (v := (-1)) hx hb dX4_question_7 (by decide) ?_
    refine lv_istore (lv' := [(4, .int (-1)), (3, .int 1), (0, .ref a0), (1, .ref a1), (2, .int x)]) hx hb dX4_question_8 hl (by decide) rfl (fun ls hl => ?_)
    refine lv_iload_n hx hb dX4_question_10 rfl (lv_at hl 1 rfl) ?_
    refine lv_iconst (v := 1) hx hb dX4_question_11 (by decide) ?_
    refine lv_iadd hx hb dX4_question_12 ?_
    refine lv_topi (fun x_6 ex_6 => ?_)
    obtain rfl : x_6 = 2 := ex_6.trans (by first | rfl | decide)
    refine lv_istore (lv' := [(5, .int 2), (4, .int (-1)), (3, .int 1), (0, .ref a0), (1, .ref a1), (2, .int x)]) hx hb dX4_question_13 hl (by decide) rfl (fun ls hl => ?_)
    refine lv_iconst (v := 0) hx hb dX4_question_15 (by decide) ?_
    refine lv_istore (lv' := [(6, .int 0), (5, .int 2), (4, .int (-1)), (3, .int 1), (0, .ref a0), (1, .ref a1), (2, .int x)]) hx hb dX4_question_16 hl (by decide) rfl (fun ls hl => ?_)
    refine lv_iload hx hb dX4_question_18 (lv_at hl 0 rfl) ?_
    refine lv_aload_n hx hb dX4_question_20 rfl (lv_at hl 5 rfl) ?_
    refine va_getN (ci := 9) (v := .int 0) (C := RX9) (T := TX9) (N := 10) hx hb hts hw9 hown hK hP 1 rfl rfl 4 (by decide) (nst_use hN 106 rfl) (fun _ h9 => h9) rfl dX4_question_21 ?_
    refine lv_icmp_ge (tgt := 72) hx hb dX4_question_24 (by decide) (fun c_7 => ?_) (fun c_7 => absurd (by decide) c_7)
    refine lv_iload hx hb dX4_question_72 (lv_at hl 2 rfl) ?_
    refine lv_iconst (v := (-1)) hx hb dX4_question_74 (by decide) ?_
    refine lv_icmp_eq (tgt := 82) hx hb dX4_question_75 (by decide) (fun c_8 => ?_) (fun c_8 => absurd (by decide) c_8)
    refine lv_iload hx hb dX4_question_82 (lv_at hl 2 rfl) ?_
    refine lv_goto (tgt := 89) hx hb dX4_question_84 (by decide) ?_
    exact W.iret (v := (-1)) hx hb hr (fun t ht hW => ⟨_, rfl, (by first | exact rfl), ht⟩) (fun q hq => by cases hq) dX4_question_89
  · exfalso; omega
  · refine lv_istore_n (lv' := [(3, .int (-1)), (0, .ref a0), (1, .ref a1), (2, .int x)]) hx hb dX4_question_6 rfl hl (by decide) rfl (fun ls hl => ?_)
    refine lv_iconst (v := (-1)) hx hb dX4_question_7 (by decide) ?_
    refine lv_istore (lv' := [(4, .int (-1)), (3, .int (-1)), (0, .ref a0), (1, .ref a1), (2, .int x)]) hx hb dX4_question_8 hl (by decide) rfl (fun ls hl => ?_)
    refine lv_iload_n hx hb dX4_question_10 rfl (lv_at hl 1 rfl) ?_
    refine lv_iconst (v := 1) hx hb dX4_question_11 (by decide) ?_
    refine lv_iadd hx hb dX4_question_12 ?_
    refine lv_topi (fun x_9 ex_9 => ?_)
    obtain rfl : x_9 = 0 := ex_9.trans (by first | rfl | decide)
    refine lv_istore (lv' := [(5, .int 0), (4, .int (-1)), (3, .int (-1)), (0, .ref a0), (1, .ref a1), (2, .int x)]) hx hb dX4_question_13 hl (by decide) rfl (fun ls hl => ?_)
    refine lv_iconst (v := 0) hx hb dX4_question_15 (by decide) ?_
    refine lv_istore (lv' := [(6, .int 0), (5, .int 0), (4, .int (-1)), (3, .int (-1)), (0, .ref a0), (1, .ref a1), (2, .int x)]) hx hb dX4_question_16 hl (by decide) rfl (fun ls hl => ?_)
    refine lv_iload hx hb dX4_question_18 (lv_at hl 0 rfl) ?_
    refine lv_aload_n hx hb dX4_question_20 rfl (lv_at hl 5 rfl) ?_
    refine va_getN (ci := 9) (v := .int 0) (C := RX9) (T := TX9) (N := 10) hx hb hts hw9 hown hK hP 1 rfl rfl 4 (by decide) (nst_use hN 106 rfl) (fun _ h9 => h9) rfl dX4_question_21 ?_
    refine lv_icmp_ge (tgt := 72) hx hb dX4_question_24 (by decide) (fun c_10 => ?_) (fun c_10 => absurd (by decide) c_10)
    refine lv_iload hx hb dX4_question_72 (lv_at hl 2 rfl) ?_
    refine lv_iconst (v := (-1)) hx hb dX4_question_74 (by decide) ?_
    refine lv_icmp_eq (tgt := 82) hx hb dX4_question_75 (by decide) (fun c_11 => ?_) (fun c_11 => absurd (by decide) c_11)
    refine lv_iload hx hb dX4_question_82 (lv_at hl 2 rfl) ?_
    refine lv_goto (tgt := 89) hx hb dX4_question_84 (by decide) ?_
    exact W.iret (v := (-1)) hx hb hr (fun t ht hW => ⟨_, rfl, (by first | exact rfl), ht⟩) (fun q hq => by cases hq) dX4_question_89
set_option maxHeartbeats 4000000 in
set_option maxRecDepth 100000 in
theorem t_ask (l : Launch) (D : va_G) (K : Nat → ClassId) (a0 : Nat) (x : Int32) (a1 : Nat) (g1 : Value) (g2 : Value) (g3 : Value) (g4 : Value) (g5 : Value) (g6 : Value) (g7 : Value) (g8 : Value) (g9 : Value) (g10 : Value) (a3 : Nat) (g12 : Value) (g13 : Value) (g14 : Value) (g15 : Value) (g16 : Value) (p0 : Value) (p1 : Value) (p2 : Value) (p3 : Value) (a2 : Nat) (k0 : Value) (k1 : Value) (k2 : Value) (k3 : Value) (k5 : Value) (k6 : Value) (k7 : Value) (k8 : Value) (sz : Nat) : Met l yX11_ask wsX11_ask ({ frames := 3, cells := 0, slots := 0, locals := 77 }) (va_Pc [.ref a0, .int x] (Pre D K [(a0, .inr (11, [.ref a1, g1, g2, g3, g4, g5, g6, g7, g8, g9, g10, .ref a3, g12, g13, g14, g15, g16])), (a3, .inr (4, [p0, p1, p2, p3, .ref a2])), (a1, .inr (9, [k0, k1, k2, k3, .int 0, k5, k6, k7, k8, .int 0])), (a2, .inl (K 0, 256, .inl (fun _ => 0)))] sz)) (vp_Si (fun r : Int32 => (r = (-1)))) 0 0 (fun _ => False) := by
  refine Met.ofW (cc := cX11_ask) (maxL := 2) (ret := (some .int)) (by decide) rfl ?_
  intro p e s m args below meth c s₁ B hml hv
  obtain ⟨rfl, hsz, hP, hK, hD0, hN⟩ := hv
  have hx := B.exec
  have hb := B.bytes
  have hr := B.returns
  have hts := atoms_spec (ws := wsX11_ask) B.pre
  have hown : s.vm.findClass RX11 = some m.cls := findClass_of_methodNamed B.named
  have hlocks := B.notSynchronized
  subst hsz
  have hD := hD0
  have hP : va_P D vwCl [(a0, .inr (11, [.ref a1, g1, g2, g3, g4, g5, g6, g7, g8, g9, g10, .ref a3, g12, g13, g14, g15, g16])), (a3, .inr (4, [p0, p1, p2, p3, .ref a2])), (a1, .inr (9, [k0, k1, k2, k3, .int 0, k5, k6, k7, k8, .int 0])), (a2, .inl (K 0, 256, .inl (fun _ => 0)))] s.heap := hP
  have hl := lv_entry [.ref a0, .int x] (n := 2) (Nat.le_of_ble_eq_true rfl)
  rw [lg_entry_eq]
  generalize (lg_sl [.ref a0, .int x] ++ List.replicate (2 - (lg_sl [.ref a0, .int x]).length) Slot.unset).toArray = ls at hl ⊢
  have hl : lv_has ls 2 [(0, .ref a0), (1, .int x)] := hl
  have hw4 : ∀ w ∈ wsX40, w ∈ wsX11_ask := fun w h => (List.mem_cons_of_mem _ (List.mem_append_right _ h))
  have hw9 : ∀ w ∈ wsX90, w ∈ wsX11_ask := fun w h => (List.mem_cons_of_mem _ (List.mem_append_left _ (List.mem_append_right _ h)))
  have hw11 : ∀ w ∈ wsX110, w ∈ wsX11_ask := fun w h => (List.mem_cons_of_mem _ (List.mem_append_left _ (List.mem_append_left _ (List.mem_append_right _ h))))
  refine lv_iload_n hx hb dX11_ask_0 rfl (lv_at hl 1 rfl) ?_
  refine lv_iconst (v := 0) hx hb dX11_ask_1 (by decide) ?_
  refine lv_iconst (v := 1) hx hb dX11_ask_2 (by decide) ?_
  refine pci (va_runS (As := [.int x, .int 0, .int 1]) (rest := []) ⟨hx, hb, hml, hown, hts⟩ (c_within l D K x 0 1 x.toInt 0 1 s.heap.size rfl rfl rfl) (va_cwS 3 hts gX11_ask_X11_within rfl rfl rfl (by decide +kernel) ⟨Nat.le_of_ble_eq_true rfl, Nat.le_of_ble_eq_true rfl⟩) (mkS hK hN (hP.sub [] rfl) (hD.sub [] (by decide) rfl)) rfl rfl hl.1 rfl (lv_room (Nat.le_of_ble_eq_true rfl)) dX11_ask_3 ⟨Nat.le_of_ble_eq_true rfl, Nat.le_of_ble_eq_true rfl⟩) (fun r_1 hw => ?_)
  rcases hw with ⟨rfl, h_2, h_3⟩ | ⟨rfl, h_4⟩
  · refine lv_if_eq (tgt := 24) hx hb dX11_ask_6 (by decide) (fun c_5 => absurd c_5 (by decide)) (fun c_5 => ?_)
    refine lv_aload_n hx hb dX11_ask_9 rfl (lv_at hl 0 rfl) ?_
    refine va_get (ci := 11) (v := .ref a3) (C := RX11) (T := TX11) (N := 17) hx hb hts hw11 hown hK hP 0 rfl rfl 11 (by decide) (hts (.fieldLink RX11 75 "SmokeTune" "paper" "LSmokeTune$Paper;") (List.mem_cons_of_mem _ (List.mem_append_left _ (List.mem_append_left _ (List.mem_append_left _ (List.mem_append_left _ (List.mem_of_getElem? (i := 0) rfl))))))) (fun _ h9 => h9) rfl dX11_ask_10 ?_
    refine lv_aload_n hx hb dX11_ask_13 rfl (lv_at hl 0 rfl) ?_
    refine va_get (ci := 11) (v := .ref a1) (C := RX11) (T := TX11) (N := 17) hx hb hts hw11 hown hK hP 0 rfl rfl 0 (by decide) (hts (.fieldLink RX11 10 "SmokeTune" "town" "LSmokeTune$Town;") (List.mem_cons_of_mem _ (List.mem_append_left _ (List.mem_append_left _ (List.mem_append_left _ (List.mem_append_left _ (List.mem_of_getElem? (i := 1) rfl))))))) (fun _ h9 => h9) rfl dX11_ask_14 ?_
    refine lv_iload_n hx hb dX11_ask_17 rfl (lv_at hl 1 rfl) ?_
    refine pci (va_runVN (As := [.ref a1, .int x]) (rest := []) ⟨hx, hb, hml, hown, hts⟩ (c_question l D K a3 a1 x p0 p1 p2 p3 a2 k0 k1 k2 k3 k5 k6 k7 k8 s.heap.size) ⟨va_cnB 2 hts gX11_ask_X4_question_n267 rfl rfl rfl (nst_at hN 89 rfl) (hts (.initialized RX4) (List.mem_cons_of_mem _ (List.mem_append_left _ (List.mem_append_left _ (List.mem_append_left _ (List.mem_append_left _ (List.mem_of_getElem? (i := 7) rfl))))))) (by decide +kernel) ⟨Nat.le_of_ble_eq_true rfl, Nat.le_of_ble_eq_true rfl⟩, (hts (.instanceMethod yX4_question) (List.mem_cons_of_mem _ (List.mem_append_left _ (List.mem_append_left _ (List.mem_append_left _ (List.mem_append_left _ (List.mem_of_getElem? (i := 6) rfl))))))), (hts (.selects RX4 yX4_question yX4_question) (List.mem_cons_of_mem _ (List.mem_append_left _ (List.mem_append_left _ (List.mem_append_left _ (List.mem_append_left _ (List.mem_of_getElem? (i := 8) rfl)))))))⟩ (mkV hK hN (hP.sub [1, 2, 3] rfl) (hD.sub [1, 2, 3] (by decide) rfl) (ci := 4) (q0 := 0) rfl rfl) rfl rfl hl.1 rfl (lv_room (Nat.le_of_ble_eq_true rfl)) dX11_ask_18 ⟨Nat.le_of_ble_eq_true rfl, Nat.le_of_ble_eq_true rfl⟩) (fun r_6 hw => ?_)
    obtain rfl : r_6 = (-1) := hw
    refine lv_goto (tgt := 25) hx hb dX11_ask_21 (by decide) ?_
    exact W.iret (v := (-1)) hx hb hr (fun t ht hW => ⟨_, rfl, (by first | exact rfl), ht⟩) (fun q hq => by cases hq) dX11_ask_25
  · refine lv_if_eq (tgt := 24) hx hb dX11_ask_6 (by decide) (fun c_7 => ?_) (fun c_7 => absurd (by decide) c_7)
    refine lv_iconst (v := (-1)) hx hb dX11_ask_24 (by decide) ?_
    exact W.iret (v := (-1)) hx hb hr (fun t ht hW => ⟨_, rfl, (by first | exact rfl), ht⟩) (fun q hq => by cases hq) dX11_ask_25
set_option maxHeartbeats 4000000 in
set_option maxRecDepth 100000 in
theorem c_lawAt (l : Launch) (D : va_G) (K : Nat → ClassId) (a0 : Nat) (x : Int32) (k0 : Value) (k1 : Value) (k2 : Value) (k3 : Value) (k4 : Value) (k6 : Value) (k7 : Value) (k8 : Value) (k9 : Value) (sz : Nat) : Met l yX9_lawAt wsX9_lawAt ({ frames := 1, cells := 0, slots := 0, locals := 22 }) (va_Pc [.ref a0, .int x] (Pre D K [(a0, .inr (9, [k0, k1, k2, k3, k4, .int 0, k6, k7, k8, k9]))] sz)) (va_Sq (fun r => r = none)) 0 0 (fun _ => False) := by
  refine Met.ofW (cc := cX9_lawAt) (maxL := 2) (ret := (some (.object "SmokeTune$Script"))) (by decide) rfl ?_
  intro p e s m args below meth c s₁ B hml hv
  obtain ⟨rfl, hsz, hP, hK, hD0, hN⟩ := hv
  have hx := B.exec
  have hb := B.bytes
  have hr := B.returns
  have hts := atoms_spec (ws := wsX9_lawAt) B.pre
  have hown : s.vm.findClass RX9 = some m.cls := findClass_of_methodNamed B.named
  have hlocks := B.notSynchronized
  subst hsz
  have hD := hD0
  have hP : va_P D vwCl [(a0, .inr (9, [k0, k1, k2, k3, k4, .int 0, k6, k7, k8, k9]))] s.heap := hP
  have hl := lv_entry [.ref a0, .int x] (n := 2) (Nat.le_of_ble_eq_true rfl)
  rw [lg_entry_eq]
  generalize (lg_sl [.ref a0, .int x] ++ List.replicate (2 - (lg_sl [.ref a0, .int x]).length) Slot.unset).toArray = ls at hl ⊢
  have hl : lv_has ls 2 [(0, .ref a0), (1, .int x)] := hl
  have hw9 : ∀ w ∈ wsX90, w ∈ wsX9_lawAt := fun w h => (List.mem_cons_of_mem _ (List.mem_append_right _ h))
  refine lv_iload_n hx hb dX9_lawAt_0 rfl (lv_at hl 1 rfl) ?_
  refine lv_iconst (v := 0) hx hb dX9_lawAt_1 (by decide) ?_
  refine lv_aload_n hx hb dX9_lawAt_2 rfl (lv_at hl 0 rfl) ?_
  refine va_get (ci := 9) (v := .int 0) (C := RX9) (T := TX9) (N := 10) hx hb hts hw9 hown hK hP 0 rfl rfl 5 (by decide) (hts (.fieldLink RX9 31 "SmokeTune$Town" "lawTotal" "I") (List.mem_cons_of_mem _ (List.mem_append_left _ (List.mem_of_getElem? (i := 0) rfl)))) (fun _ h9 => h9) rfl dX9_lawAt_3 ?_
  refine lv_iconst (v := 1) hx hb dX9_lawAt_6 (by decide) ?_
  refine lv_isub hx hb dX9_lawAt_7 ?_
  refine lv_topi (fun x_1 ex_1 => ?_)
  obtain rfl : x_1 = (-1) := ex_1.trans (by first | rfl | decide)
  refine pci (va_runSN (As := [.int x, .int 0, .int (-1)]) (rest := []) ⟨hx, hb, hml, hown, hts⟩ (c_within l D K x 0 (-1) x.toInt 0 (-1) s.heap.size rfl rfl rfl) ⟨va_cnB 3 hts gX9_lawAt_X11_within_n52 rfl rfl rfl (nst_at hN 18 rfl) (hts (.initialized RX11) (List.mem_cons_of_mem _ (List.mem_append_left _ (List.mem_of_getElem? (i := 3) rfl)))) (by decide +kernel) ⟨Nat.le_of_ble_eq_true rfl, Nat.le_of_ble_eq_true rfl⟩, (hts (.static yX11_within) (List.mem_cons_of_mem _ (List.mem_append_left _ (List.mem_of_getElem? (i := 2) rfl)))), trivial⟩ (mkS hK hN (hP.sub [] rfl) (hD.sub [] (by decide) rfl)) rfl rfl hl.1 rfl (lv_room (Nat.le_of_ble_eq_true rfl)) dX9_lawAt_8 ⟨Nat.le_of_ble_eq_true rfl, Nat.le_of_ble_eq_true rfl⟩) (fun r_2 hw => ?_)
  rcases hw with ⟨rfl, h_3, h_4⟩ | ⟨rfl, h_5⟩
  · exfalso; omega
  · refine lv_if_eq (tgt := 23) hx hb dX9_lawAt_11 (by decide) (fun c_6 => ?_) (fun c_6 => absurd (by decide) c_6)
    refine lv_null hx hb dX9_lawAt_23 ?_
    exact W.aret (v := .null) hx hb hr (Or.inl ⟨_, rfl⟩) (Or.inl rfl) (fun t ht hW => ⟨none, rfl, rfl, ht⟩) (fun q hq => by cases hq) dX9_lawAt_24
set_option maxHeartbeats 4000000 in
set_option maxRecDepth 100000 in
theorem c_coalBy (l : Launch) (D : va_G) (K : Nat → ClassId) (a0 : Nat) (a1 : Nat) (x : Int32) (g0 : Value) (g1 : Value) (g2 : Value) (g3 : Value) (g4 : Value) (g5 : Value) (k0 : Value) (k1 : Value) (k2 : Value) (k3 : Value) (k5 : Value) (k6 : Value) (k7 : Value) (k8 : Value) (k9 : Value) (sz : Nat) : Met l yX5_coalBy wsX5_coalBy ({ frames := 0, cells := 0, slots := 0, locals := 0 }) (va_Pc [.ref a0, .ref a1, .null, .int x] (Pre D K [(a0, .inr (5, [g0, g1, g2, g3, g4, g5])), (a1, .inr (9, [k0, k1, k2, k3, .int 0, k5, k6, k7, k8, k9]))] sz)) (vp_Si (fun r : Int32 => (r = 0))) 0 0 (fun _ => False) := by
  refine Met.ofW (cc := cX5_coalBy) (maxL := 8) (ret := (some .int)) (by decide) rfl ?_
  intro p e s m args below meth c s₁ B hml hv
  obtain ⟨rfl, hsz, hP, hK, hD0, hN⟩ := hv
  have hx := B.exec
  have hb := B.bytes
  have hr := B.returns
  have hts := atoms_spec (ws := wsX5_coalBy) B.pre
  have hown : s.vm.findClass RX5 = some m.cls := findClass_of_methodNamed B.named
  have hlocks := B.notSynchronized
  subst hsz
  have hD := hD0
  have hP : va_P D vwCl [(a0, .inr (5, [g0, g1, g2, g3, g4, g5])), (a1, .inr (9, [k0, k1, k2, k3, .int 0, k5, k6, k7, k8, k9]))] s.heap := hP
  have hl := lv_entry [.ref a0, .ref a1, .null, .int x] (n := 8) (Nat.le_of_ble_eq_true rfl)
  rw [lg_entry_eq]
  generalize (lg_sl [.ref a0, .ref a1, .null, .int x] ++ List.replicate (8 - (lg_sl [.ref a0, .ref a1, .null, .int x]).length) Slot.unset).toArray = ls at hl ⊢
  have hl : lv_has ls 8 [(0, .ref a0), (1, .ref a1), (2, .null), (3, .int x)] := hl
  have hw0 : ∀ w ∈ wsX00, w ∈ wsX5_coalBy := fun w h => (List.mem_cons_of_mem _ (List.mem_append_left _ (List.mem_append_left _ (List.mem_append_right _ h))))
  have hw3 : ∀ w ∈ wsX30, w ∈ wsX5_coalBy := fun w h => (List.mem_cons_of_mem _ (List.mem_append_right _ h))
  have hw5 : ∀ w ∈ wsX50, w ∈ wsX5_coalBy := fun w h => (List.mem_cons_of_mem _ (List.mem_append_left _ (List.mem_append_left _ (List.mem_append_left _ (List.mem_append_right _ h)))))
  have hw7 : ∀ w ∈ wsX70, w ∈ wsX5_coalBy := fun w h => (List.mem_cons_of_mem _ (List.mem_append_left _ (List.mem_append_right _ h)))
  have hw9 : ∀ w ∈ wsX90, w ∈ wsX5_coalBy := fun w h => (List.mem_cons_of_mem _ (List.mem_append_left _ (List.mem_append_left _ (List.mem_append_left _ (List.mem_append_left _ (List.mem_append_right _ h))))))
  refine lv_iconst (v := 0) hx hb dX5_coalBy_0 (by decide) ?_
  refine lv_istore (lv' := [(4, .int 0), (0, .ref a0), (1, .ref a1), (2, .null), (3, .int x)]) hx hb dX5_coalBy_1 hl (by decide) rfl (fun ls hl => ?_)
  refine lv_iconst (v := 0) hx hb dX5_coalBy_3 (by decide) ?_
  refine lv_istore (lv' := [(5, .int 0), (4, .int 0), (0, .ref a0), (1, .ref a1), (2, .null), (3, .int x)]) hx hb dX5_coalBy_4 hl (by decide) rfl (fun ls hl => ?_)
  refine lv_iload hx hb dX5_coalBy_6 (lv_at hl 0 rfl) ?_
  refine lv_aload_n hx hb dX5_coalBy_8 rfl (lv_at hl 3 rfl) ?_
  refine va_getN (ci := 9) (v := .int 0) (C := RX9) (T := TX9) (N := 10) hx hb hts hw9 hown hK hP 1 rfl rfl 4 (by decide) (nst_use hN 108 rfl) (fun _ h9 => h9) rfl dX5_coalBy_9 ?_
  refine lv_icmp_ge (tgt := 124) hx hb dX5_coalBy_12 (by decide) (fun c_1 => ?_) (fun c_1 => absurd (by decide) c_1)
  refine lv_iload hx hb dX5_coalBy_124 (lv_at hl 1 rfl) ?_
  exact W.iret (v := 0) hx hb hr (fun t ht hW => ⟨_, rfl, (by first | exact rfl), ht⟩) (fun q hq => by cases hq) dX5_coalBy_126
set_option maxHeartbeats 4000000 in
set_option maxRecDepth 100000 in
theorem t_compare (l : Launch) (D : va_G) (K : Nat → ClassId) (a0 : Nat) (x : Int32) (y : Int32) (a1 : Nat) (g1 : Value) (g2 : Value) (g3 : Value) (g4 : Value) (g5 : Value) (g6 : Value) (g7 : Value) (g8 : Value) (g9 : Value) (a3 : Nat) (g11 : Value) (g12 : Value) (g13 : Value) (g14 : Value) (g15 : Value) (g16 : Value) (k0 : Value) (k1 : Value) (k2 : Value) (k3 : Value) (k6 : Value) (k7 : Value) (k8 : Value) (k9 : Value) (p0 : Value) (p1 : Value) (p2 : Value) (p3 : Value) (p4 : Value) (p5 : Value) (sz : Nat) : Met l yX11_compare wsX11_compare ({ frames := 2, cells := 0, slots := 0, locals := 43 }) (va_Pc [.ref a0, .int x, .int y] (Pre D K [(a0, .inr (11, [.ref a1, g1, g2, g3, g4, g5, g6, g7, g8, g9, .ref a3, g11, g12, g13, g14, g15, g16])), (a1, .inr (9, [k0, k1, k2, k3, .int 0, .int 0, k6, k7, k8, k9])), (a3, .inr (5, [p0, p1, p2, p3, p4, p5]))] sz)) (vp_Si (fun r : Int32 => (r = 0 ∧ x.toInt = -1 ∧ 1 ≤ y.toInt ∧ y.toInt ≤ 60) ∨ (r = (-1) ∧ (x.toInt ≠ -1 ∨ y.toInt < 1 ∨ 60 < y.toInt)))) 0 0 (fun _ => False) := by
  refine Met.ofW (cc := cX11_compare) (maxL := 3) (ret := (some .int)) (by decide) rfl ?_
  intro p e s m args below meth c s₁ B hml hv
  obtain ⟨rfl, hsz, hP, hK, hD0, hN⟩ := hv
  have hx := B.exec
  have hb := B.bytes
  have hr := B.returns
  have hts := atoms_spec (ws := wsX11_compare) B.pre
  have hown : s.vm.findClass RX11 = some m.cls := findClass_of_methodNamed B.named
  have hlocks := B.notSynchronized
  subst hsz
  have hD := hD0
  have hP : va_P D vwCl [(a0, .inr (11, [.ref a1, g1, g2, g3, g4, g5, g6, g7, g8, g9, .ref a3, g11, g12, g13, g14, g15, g16])), (a1, .inr (9, [k0, k1, k2, k3, .int 0, .int 0, k6, k7, k8, k9])), (a3, .inr (5, [p0, p1, p2, p3, p4, p5]))] s.heap := hP
  have hl := lv_entry [.ref a0, .int x, .int y] (n := 3) (Nat.le_of_ble_eq_true rfl)
  rw [lg_entry_eq]
  generalize (lg_sl [.ref a0, .int x, .int y] ++ List.replicate (3 - (lg_sl [.ref a0, .int x, .int y]).length) Slot.unset).toArray = ls at hl ⊢
  have hl : lv_has ls 3 [(0, .ref a0), (1, .int x), (2, .int y)] := hl
  have hw0 : ∀ w ∈ wsX00, w ∈ wsX11_compare := fun w h => (List.mem_cons_of_mem _ (List.mem_append_left _ (List.mem_append_left _ (List.mem_append_right _ h))))
  have hw3 : ∀ w ∈ wsX30, w ∈ wsX11_compare := fun w h => (List.mem_cons_of_mem _ (List.mem_append_right _ h))
  have hw5 : ∀ w ∈ wsX50, w ∈ wsX11_compare := fun w h => (List.mem_cons_of_mem _ (List.mem_append_left _ (List.mem_append_left _ (List.mem_append_left _ (List.mem_append_right _ h)))))
  have hw7 : ∀ w ∈ wsX70, w ∈ wsX11_compare := fun w h => (List.mem_cons_of_mem _ (List.mem_append_left _ (List.mem_append_right _ h)))
  have hw9 : ∀ w ∈ wsX90, w ∈ wsX11_compare := fun w h => (List.mem_cons_of_mem _ (List.mem_append_left _ (List.mem_append_left _ (List.mem_append_left _ (List.mem_append_left _ (List.mem_append_right _ h))))))
  have hw11 : ∀ w ∈ wsX110, w ∈ wsX11_compare := fun w h => (List.mem_cons_of_mem _ (List.mem_append_left _ (List.mem_append_left _ (List.mem_append_left _ (List.mem_append_left _ (List.mem_append_left _ (List.mem_append_right _ h)))))))
  refine lv_iload_n hx hb dX11_compare_0 rfl (lv_at hl 1 rfl) ?_
  refine lv_iconst (v := (-1)) hx hb dX11_compare_1 (by decide) ?_
  refine lv_aload_n hx hb dX11_compare_2 rfl (lv_at hl 0 rfl) ?_
  refine va_get (ci := 11) (v := .ref a1) (C := RX11) (T := TX11) (N := 17) hx hb hts hw11 hown hK hP 0 rfl rfl 0 (by decide) (hts (.fieldLink RX11 10 "SmokeTune" "town" "LSmokeTune$Town;") (List.mem_cons_of_mem _ (List.mem_append_left _ (List.mem_append_left _ (List.mem_append_left _ (List.mem_append_left _ (List.mem_append_left _ (List.mem_append_left _ (List.mem_append_left _ (List.mem_of_getElem? (i := 0) rfl)))))))))) (fun _ h9 => h9) rfl dX11_compare_3 ?_
  refine va_getN (ci := 9) (v := .int 0) (C := RX9) (T := TX9) (N := 10) hx hb hts hw9 hown hK hP 1 rfl rfl 5 (by decide) (nst_use hN 110 rfl) (fun _ h9 => h9) rfl dX11_compare_6 ?_
  refine lv_iconst (v := 1) hx hb dX11_compare_9 (by decide) ?_
  refine lv_isub hx hb dX11_compare_10 ?_
  refine lv_topi (fun x_1 ex_1 => ?_)
  obtain rfl : x_1 = (-1) := ex_1.trans (by first | rfl | decide)
  refine pci (va_runS (As := [.int x, .int (-1), .int (-1)]) (rest := []) ⟨hx, hb, hml, hown, hts⟩ (c_within l D K x (-1) (-1) x.toInt (-1) (-1) s.heap.size rfl rfl rfl) (va_cwS 3 hts gX11_compare_X11_within rfl rfl rfl (by decide +kernel) ⟨Nat.le_of_ble_eq_true rfl, Nat.le_of_ble_eq_true rfl⟩) (mkS hK hN (hP.sub [] rfl) (hD.sub [] (by decide) rfl)) rfl rfl hl.1 rfl (lv_room (Nat.le_of_ble_eq_true rfl)) dX11_compare_11 ⟨Nat.le_of_ble_eq_true rfl, Nat.le_of_ble_eq_true rfl⟩) (fun r_2 hw => ?_)
  rcases hw with ⟨rfl, h_3, h_4⟩ | ⟨rfl, h_5⟩
  · refine lv_if_eq (tgt := 27) hx hb dX11_compare_14 (by decide) (fun c_6 => absurd c_6 (by decide)) (fun c_6 => ?_)
    refine lv_iload_n hx hb dX11_compare_17 rfl (lv_at hl 2 rfl) ?_
    refine lv_iconst (v := 1) hx hb dX11_compare_18 (by decide) ?_
    refine lv_bipush (v := 60) hx hb dX11_compare_19 (by decide) ?_
    refine pci (va_runS (As := [.int y, .int 1, .int 60]) (rest := []) ⟨hx, hb, hml, hown, hts⟩ (c_within l D K y 1 60 y.toInt 1 60 s.heap.size rfl rfl rfl) (va_cwS 3 hts gX11_compare_X11_within rfl rfl rfl (by decide +kernel) ⟨Nat.le_of_ble_eq_true rfl, Nat.le_of_ble_eq_true rfl⟩) (mkS hK hN (hP.sub [] rfl) (hD.sub [] (by decide) rfl)) rfl rfl hl.1 rfl (lv_room (Nat.le_of_ble_eq_true rfl)) dX11_compare_21 ⟨Nat.le_of_ble_eq_true rfl, Nat.le_of_ble_eq_true rfl⟩) (fun r_7 hw => ?_)
    rcases hw with ⟨rfl, h_8, h_9⟩ | ⟨rfl, h_10⟩
    · refine lv_if_ne (tgt := 29) hx hb dX11_compare_24 (by decide) (fun c_11 => ?_) (fun c_11 => absurd (by decide) c_11)
      refine lv_aload_n hx hb dX11_compare_29 rfl (lv_at hl 0 rfl) ?_
      refine va_get (ci := 11) (v := .ref a3) (C := RX11) (T := TX11) (N := 17) hx hb hts hw11 hown hK hP 0 rfl rfl 10 (by decide) (hts (.fieldLink RX11 68 "SmokeTune" "plan" "LSmokeTune$Plan;") (List.mem_cons_of_mem _ (List.mem_append_left _ (List.mem_append_left _ (List.mem_append_left _ (List.mem_append_left _ (List.mem_append_left _ (List.mem_append_left _ (List.mem_append_left _ (List.mem_of_getElem? (i := 1) rfl)))))))))) (fun _ h9 => h9) rfl dX11_compare_30 ?_
      refine lv_aload_n hx hb dX11_compare_33 rfl (lv_at hl 0 rfl) ?_
      refine va_get (ci := 11) (v := .ref a1) (C := RX11) (T := TX11) (N := 17) hx hb hts hw11 hown hK hP 0 rfl rfl 0 (by decide) (hts (.fieldLink RX11 10 "SmokeTune" "town" "LSmokeTune$Town;") (List.mem_cons_of_mem _ (List.mem_append_left _ (List.mem_append_left _ (List.mem_append_left _ (List.mem_append_left _ (List.mem_append_left _ (List.mem_append_left _ (List.mem_append_left _ (List.mem_of_getElem? (i := 0) rfl)))))))))) (fun _ h9 => h9) rfl dX11_compare_34 ?_
      refine lv_aload_n hx hb dX11_compare_37 rfl (lv_at hl 0 rfl) ?_
      refine va_get (ci := 11) (v := .ref a1) (C := RX11) (T := TX11) (N := 17) hx hb hts hw11 hown hK hP 0 rfl rfl 0 (by decide) (hts (.fieldLink RX11 10 "SmokeTune" "town" "LSmokeTune$Town;") (List.mem_cons_of_mem _ (List.mem_append_left _ (List.mem_append_left _ (List.mem_append_left _ (List.mem_append_left _ (List.mem_append_left _ (List.mem_append_left _ (List.mem_append_left _ (List.mem_of_getElem? (i := 0) rfl)))))))))) (fun _ h9 => h9) rfl dX11_compare_38 ?_
      refine lv_iload_n hx hb dX11_compare_41 rfl (lv_at hl 1 rfl) ?_
      refine pcq (va_runVN (As := [.int x]) (rest := [.ref a1, .ref a3]) ⟨hx, hb, hml, hown, hts⟩ (c_lawAt l D K a1 x k0 k1 k2 k3 (.int 0) k6 k7 k8 k9 s.heap.size) ⟨va_cnB 1 hts gX11_compare_X9_lawAt_n276 rfl rfl rfl (nst_at hN 92 rfl) (hts (.initialized RX9) (List.mem_cons_of_mem _ (List.mem_append_left _ (List.mem_append_left _ (List.mem_append_left _ (List.mem_append_left _ (List.mem_append_left _ (List.mem_append_left _ (List.mem_append_left _ (List.mem_of_getElem? (i := 7) rfl)))))))))) (by decide +kernel) ⟨Nat.le_of_ble_eq_true rfl, Nat.le_of_ble_eq_true rfl⟩, (hts (.instanceMethod yX9_lawAt) (List.mem_cons_of_mem _ (List.mem_append_left _ (List.mem_append_left _ (List.mem_append_left _ (List.mem_append_left _ (List.mem_append_left _ (List.mem_append_left _ (List.mem_append_left _ (List.mem_of_getElem? (i := 6) rfl)))))))))), (hts (.selects RX9 yX9_lawAt yX9_lawAt) (List.mem_cons_of_mem _ (List.mem_append_left _ (List.mem_append_left _ (List.mem_append_left _ (List.mem_append_left _ (List.mem_append_left _ (List.mem_append_left _ (List.mem_append_left _ (List.mem_of_getElem? (i := 8) rfl))))))))))⟩ (mkV hK hN (hP.sub [1] rfl) (hD.sub [1] (by decide) rfl) (ci := 9) (q0 := 0) rfl rfl) rfl rfl hl.1 rfl (lv_room (Nat.le_of_ble_eq_true rfl)) dX11_compare_42 ⟨Nat.le_of_ble_eq_true rfl, Nat.le_of_ble_eq_true rfl⟩) (fun r_12 hw => ?_)
      obtain rfl := hw
      refine W.eq (g2 := F0 m 45 ls [.null, .ref a1, .ref a3]) rfl ?_
      refine lv_iload_n hx hb dX11_compare_45 rfl (lv_at hl 2 rfl) ?_
      refine pci (va_runVN (As := [.ref a1, .null, .int y]) (rest := []) ⟨hx, hb, hml, hown, hts⟩ (c_coalBy l D K a3 a1 y p0 p1 p2 p3 p4 p5 k0 k1 k2 k3 (.int 0) k6 k7 k8 k9 s.heap.size) ⟨va_cnB 3 hts gX11_compare_X5_coalBy_n280 rfl rfl rfl (nst_at hN 93 rfl) (hts (.initialized RX5) (List.mem_cons_of_mem _ (List.mem_append_left _ (List.mem_append_left _ (List.mem_append_left _ (List.mem_append_left _ (List.mem_append_left _ (List.mem_append_left _ (List.mem_append_left _ (List.mem_of_getElem? (i := 13) rfl)))))))))) (by decide +kernel) ⟨Nat.le_of_ble_eq_true rfl, Nat.le_of_ble_eq_true rfl⟩, (hts (.instanceMethod yX5_coalBy) (List.mem_cons_of_mem _ (List.mem_append_left _ (List.mem_append_left _ (List.mem_append_left _ (List.mem_append_left _ (List.mem_append_left _ (List.mem_append_left _ (List.mem_append_left _ (List.mem_of_getElem? (i := 12) rfl)))))))))), (hts (.selects RX5 yX5_coalBy yX5_coalBy) (List.mem_cons_of_mem _ (List.mem_append_left _ (List.mem_append_left _ (List.mem_append_left _ (List.mem_append_left _ (List.mem_append_left _ (List.mem_append_left _ (List.mem_append_left _ (List.mem_of_getElem? (i := 14) rfl))))))))))⟩ (mkV hK hN (hP.sub [2, 1] rfl) (hD.sub [2, 1] (by decide) rfl) (ci := 5) (q0 := 0) rfl rfl) rfl rfl hl.1 rfl (lv_room (Nat.le_of_ble_eq_true rfl)) dX11_compare_46 ⟨Nat.le_of_ble_eq_true rfl, Nat.le_of_ble_eq_true rfl⟩) (fun r_13 hw => ?_)
      obtain rfl : r_13 = 0 := hw
      exact W.iret (v := 0) hx hb hr (fun t ht hW => ⟨_, rfl, (by first | exact Or.inl (⟨rfl, by first | omega | decide | (subst_vars; assumption), by first | omega | decide | (subst_vars; assumption), by first | omega | decide | (subst_vars; assumption)⟩)), ht⟩) (fun q hq => by cases hq) dX11_compare_49
    · refine lv_if_ne (tgt := 29) hx hb dX11_compare_24 (by decide) (fun c_14 => absurd c_14 (by decide)) (fun c_14 => ?_)
      refine lv_iconst (v := (-1)) hx hb dX11_compare_27 (by decide) ?_
      exact W.iret (v := (-1)) hx hb hr (fun t ht hW => ⟨_, rfl, (by first | exact Or.inr (⟨rfl, by first | omega | decide | (subst_vars; assumption)⟩)), ht⟩) (fun q hq => by cases hq) dX11_compare_28
  · refine lv_if_eq (tgt := 27) hx hb dX11_compare_14 (by decide) (fun c_15 => ?_) (fun c_15 => absurd (by decide) c_15)
    refine lv_iconst (v := (-1)) hx hb dX11_compare_27 (by decide) ?_
    exact W.iret (v := (-1)) hx hb hr (fun t ht hW => ⟨_, rfl, (by first | exact Or.inr (⟨rfl, by first | omega | decide | (subst_vars; assumption)⟩)), ht⟩) (fun q hq => by cases hq) dX11_compare_28
