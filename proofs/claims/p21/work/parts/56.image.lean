theorem BX12_image_0 : bsegs (ByteArray.data cX12_image |>.toList.drop 0) 0 [(0, [42]), (1, [3]), (2, [181, 0, 158]), (5, [27]), (6, [133]), (7, [9]), (8, [10]), (9, [184, 0, 178]), (12, [154, 0, 9]), (15, [42]), (16, [2]), (17, [182, 0, 171]), (20, [172]), (21, [3]), (22, [61]), (23, [28]), (24, [17, 21, 124]), (27, [162, 0, 27]), (30, [42]), (31, [180, 0, 16]), (34, [17, 21, 124]), (37, [27]), (38, [104]), (39, [28])] = true := by decide +kernel
theorem dX12_image_0 : decode cX12_image 0 = .ok (.aload_n 0, 1) := dk_42 (bs_at BX12_image_0 0 rfl)
theorem dX12_image_1 : decode cX12_image 1 = .ok (.iconst 0, 1) := dk_3 (bs_at BX12_image_0 1 rfl)
theorem dX12_image_2 : decode cX12_image 2 = .ok (.putfield 158, 3) := dk_181 0 158 (bs_at BX12_image_0 2 rfl) rfl
theorem dX12_image_5 : decode cX12_image 5 = .ok (.iload_n 1, 1) := dk_27 (bs_at BX12_image_0 3 rfl)
theorem dX12_image_6 : decode cX12_image 6 = .ok (.i2l, 1) := dk_133 (bs_at BX12_image_0 4 rfl)
theorem dX12_image_7 : decode cX12_image 7 = .ok (.lconst 0, 1) := dk_9 (bs_at BX12_image_0 5 rfl)
theorem dX12_image_8 : decode cX12_image 8 = .ok (.lconst 1, 1) := dk_10 (bs_at BX12_image_0 6 rfl)
theorem dX12_image_9 : decode cX12_image 9 = .ok (.invokestatic 178, 3) := dk_184 0 178 (bs_at BX12_image_0 7 rfl) rfl
theorem dX12_image_12 : decode cX12_image 12 = .ok (.ifCond .ne 9, 3) := dk_154 0 9 (bs_at BX12_image_0 8 rfl) rfl
theorem dX12_image_15 : decode cX12_image 15 = .ok (.aload_n 0, 1) := dk_42 (bs_at BX12_image_0 9 rfl)
theorem dX12_image_16 : decode cX12_image 16 = .ok (.iconst (-1), 1) := dk_2 (bs_at BX12_image_0 10 rfl)
theorem dX12_image_17 : decode cX12_image 17 = .ok (.invokevirtual 171, 3) := dk_182 0 171 (bs_at BX12_image_0 11 rfl) rfl
theorem dX12_image_20 : decode cX12_image 20 = .ok (.ireturn, 1) := dk_172 (bs_at BX12_image_0 12 rfl)
theorem dX12_image_21 : decode cX12_image 21 = .ok (.iconst 0, 1) := dk_3 (bs_at BX12_image_0 13 rfl)
theorem dX12_image_22 : decode cX12_image 22 = .ok (.istore_n 2, 1) := dk_61 (bs_at BX12_image_0 14 rfl)
theorem dX12_image_23 : decode cX12_image 23 = .ok (.iload_n 2, 1) := dk_28 (bs_at BX12_image_0 15 rfl)
theorem dX12_image_24 : decode cX12_image 24 = .ok (.sipush 5500, 3) := dk_17 21 124 (bs_at BX12_image_0 16 rfl) rfl
theorem dX12_image_27 : decode cX12_image 27 = .ok (.if_icmp .ge 27, 3) := dk_162 0 27 (bs_at BX12_image_0 17 rfl) rfl
theorem dX12_image_30 : decode cX12_image 30 = .ok (.aload_n 0, 1) := dk_42 (bs_at BX12_image_0 18 rfl)
theorem dX12_image_31 : decode cX12_image 31 = .ok (.getfield 16, 3) := dk_180 0 16 (bs_at BX12_image_0 19 rfl) rfl
theorem dX12_image_34 : decode cX12_image 34 = .ok (.sipush 5500, 3) := dk_17 21 124 (bs_at BX12_image_0 20 rfl) rfl
theorem dX12_image_37 : decode cX12_image 37 = .ok (.iload_n 1, 1) := dk_27 (bs_at BX12_image_0 21 rfl)
theorem dX12_image_38 : decode cX12_image 38 = .ok (.imul, 1) := dk_104 (bs_at BX12_image_0 22 rfl)
theorem dX12_image_39 : decode cX12_image 39 = .ok (.iload_n 2, 1) := dk_28 (bs_at BX12_image_0 23 rfl)
theorem BX12_image_40 : bsegs (ByteArray.data cX12_image |>.toList.drop 40) 40 [(40, [96]), (41, [42]), (42, [180, 0, 13]), (45, [28]), (46, [46]), (47, [79]), (48, [132, 2, 1]), (51, [167, 255, 228]), (54, [42]), (55, [180, 0, 19]), (58, [27]), (59, [4]), (60, [84]), (61, [42]), (62, [3]), (63, [182, 0, 171]), (66, [172])] = true := by decide +kernel
theorem dX12_image_40 : decode cX12_image 40 = .ok (.iadd, 1) := dk_96 (bs_at BX12_image_40 0 rfl)
theorem dX12_image_41 : decode cX12_image 41 = .ok (.aload_n 0, 1) := dk_42 (bs_at BX12_image_40 1 rfl)
theorem dX12_image_42 : decode cX12_image 42 = .ok (.getfield 13, 3) := dk_180 0 13 (bs_at BX12_image_40 2 rfl) rfl
theorem dX12_image_45 : decode cX12_image 45 = .ok (.iload_n 2, 1) := dk_28 (bs_at BX12_image_40 3 rfl)
theorem dX12_image_46 : decode cX12_image 46 = .ok (.iaload, 1) := dk_46 (bs_at BX12_image_40 4 rfl)
theorem dX12_image_47 : decode cX12_image 47 = .ok (.iastore, 1) := dk_79 (bs_at BX12_image_40 5 rfl)
theorem dX12_image_48 : decode cX12_image 48 = .ok (.iinc 2 1, 3) := dk_132 2 1 (bs_at BX12_image_40 6 rfl) rfl
theorem dX12_image_51 : decode cX12_image 51 = .ok (.goto (-28), 3) := dk_167 255 228 (bs_at BX12_image_40 7 rfl) rfl
theorem dX12_image_54 : decode cX12_image 54 = .ok (.aload_n 0, 1) := dk_42 (bs_at BX12_image_40 8 rfl)
theorem dX12_image_55 : decode cX12_image 55 = .ok (.getfield 19, 3) := dk_180 0 19 (bs_at BX12_image_40 9 rfl) rfl
theorem dX12_image_58 : decode cX12_image 58 = .ok (.iload_n 1, 1) := dk_27 (bs_at BX12_image_40 10 rfl)
theorem dX12_image_59 : decode cX12_image 59 = .ok (.iconst 1, 1) := dk_4 (bs_at BX12_image_40 11 rfl)
theorem dX12_image_60 : decode cX12_image 60 = .ok (.bastore, 1) := dk_84 (bs_at BX12_image_40 12 rfl)
theorem dX12_image_61 : decode cX12_image 61 = .ok (.aload_n 0, 1) := dk_42 (bs_at BX12_image_40 13 rfl)
theorem dX12_image_62 : decode cX12_image 62 = .ok (.iconst 0, 1) := dk_3 (bs_at BX12_image_40 14 rfl)
theorem dX12_image_63 : decode cX12_image 63 = .ok (.invokevirtual 171, 3) := dk_182 0 171 (bs_at BX12_image_40 15 rfl) rfl
theorem dX12_image_66 : decode cX12_image 66 = .ok (.ireturn, 1) := dk_172 (bs_at BX12_image_40 16 rfl)
theorem BX12_back_0 : bsegs (ByteArray.data cX12_back |>.toList.drop 0) 0 [(0, [42]), (1, [3]), (2, [181, 0, 158]), (5, [27]), (6, [133]), (7, [9]), (8, [10]), (9, [184, 0, 178]), (12, [154, 0, 9]), (15, [42]), (16, [2]), (17, [182, 0, 171]), (20, [172]), (21, [42]), (22, [180, 0, 19]), (25, [27]), (26, [51]), (27, [154, 0, 10]), (30, [42]), (31, [16, 254]), (33, [182, 0, 171]), (36, [172]), (37, [3]), (38, [61])] = true := by decide +kernel
theorem dX12_back_0 : decode cX12_back 0 = .ok (.aload_n 0, 1) := dk_42 (bs_at BX12_back_0 0 rfl)
theorem dX12_back_1 : decode cX12_back 1 = .ok (.iconst 0, 1) := dk_3 (bs_at BX12_back_0 1 rfl)
theorem dX12_back_2 : decode cX12_back 2 = .ok (.putfield 158, 3) := dk_181 0 158 (bs_at BX12_back_0 2 rfl) rfl
theorem dX12_back_5 : decode cX12_back 5 = .ok (.iload_n 1, 1) := dk_27 (bs_at BX12_back_0 3 rfl)
theorem dX12_back_6 : decode cX12_back 6 = .ok (.i2l, 1) := dk_133 (bs_at BX12_back_0 4 rfl)
theorem dX12_back_7 : decode cX12_back 7 = .ok (.lconst 0, 1) := dk_9 (bs_at BX12_back_0 5 rfl)
theorem dX12_back_8 : decode cX12_back 8 = .ok (.lconst 1, 1) := dk_10 (bs_at BX12_back_0 6 rfl)
theorem dX12_back_9 : decode cX12_back 9 = .ok (.invokestatic 178, 3) := dk_184 0 178 (bs_at BX12_back_0 7 rfl) rfl
theorem dX12_back_12 : decode cX12_back 12 = .ok (.ifCond .ne 9, 3) := dk_154 0 9 (bs_at BX12_back_0 8 rfl) rfl
theorem dX12_back_15 : decode cX12_back 15 = .ok (.aload_n 0, 1) := dk_42 (bs_at BX12_back_0 9 rfl)
theorem dX12_back_16 : decode cX12_back 16 = .ok (.iconst (-1), 1) := dk_2 (bs_at BX12_back_0 10 rfl)
theorem dX12_back_17 : decode cX12_back 17 = .ok (.invokevirtual 171, 3) := dk_182 0 171 (bs_at BX12_back_0 11 rfl) rfl
theorem dX12_back_20 : decode cX12_back 20 = .ok (.ireturn, 1) := dk_172 (bs_at BX12_back_0 12 rfl)
theorem dX12_back_21 : decode cX12_back 21 = .ok (.aload_n 0, 1) := dk_42 (bs_at BX12_back_0 13 rfl)
theorem dX12_back_22 : decode cX12_back 22 = .ok (.getfield 19, 3) := dk_180 0 19 (bs_at BX12_back_0 14 rfl) rfl
theorem dX12_back_25 : decode cX12_back 25 = .ok (.iload_n 1, 1) := dk_27 (bs_at BX12_back_0 15 rfl)
theorem dX12_back_26 : decode cX12_back 26 = .ok (.baload, 1) := dk_51 (bs_at BX12_back_0 16 rfl)
theorem dX12_back_27 : decode cX12_back 27 = .ok (.ifCond .ne 10, 3) := dk_154 0 10 (bs_at BX12_back_0 17 rfl) rfl
theorem dX12_back_30 : decode cX12_back 30 = .ok (.aload_n 0, 1) := dk_42 (bs_at BX12_back_0 18 rfl)
theorem dX12_back_31 : decode cX12_back 31 = .ok (.bipush (-2), 2) := dk_16 254 (bs_at BX12_back_0 19 rfl) rfl
theorem dX12_back_33 : decode cX12_back 33 = .ok (.invokevirtual 171, 3) := dk_182 0 171 (bs_at BX12_back_0 20 rfl) rfl
theorem dX12_back_36 : decode cX12_back 36 = .ok (.ireturn, 1) := dk_172 (bs_at BX12_back_0 21 rfl)
theorem dX12_back_37 : decode cX12_back 37 = .ok (.iconst 0, 1) := dk_3 (bs_at BX12_back_0 22 rfl)
theorem dX12_back_38 : decode cX12_back 38 = .ok (.istore_n 2, 1) := dk_61 (bs_at BX12_back_0 23 rfl)
theorem BX12_back_39 : bsegs (ByteArray.data cX12_back |>.toList.drop 39) 39 [(39, [28]), (40, [17, 21, 124]), (43, [162, 0, 27]), (46, [42]), (47, [180, 0, 13]), (50, [28]), (51, [42]), (52, [180, 0, 16]), (55, [17, 21, 124]), (58, [27]), (59, [104]), (60, [28]), (61, [96]), (62, [46]), (63, [79]), (64, [132, 2, 1]), (67, [167, 255, 228]), (70, [42]), (71, [3]), (72, [181, 0, 164]), (75, [42]), (76, [3]), (77, [182, 0, 171]), (80, [172])] = true := by decide +kernel
theorem dX12_back_39 : decode cX12_back 39 = .ok (.iload_n 2, 1) := dk_28 (bs_at BX12_back_39 0 rfl)
theorem dX12_back_40 : decode cX12_back 40 = .ok (.sipush 5500, 3) := dk_17 21 124 (bs_at BX12_back_39 1 rfl) rfl
theorem dX12_back_43 : decode cX12_back 43 = .ok (.if_icmp .ge 27, 3) := dk_162 0 27 (bs_at BX12_back_39 2 rfl) rfl
theorem dX12_back_46 : decode cX12_back 46 = .ok (.aload_n 0, 1) := dk_42 (bs_at BX12_back_39 3 rfl)
theorem dX12_back_47 : decode cX12_back 47 = .ok (.getfield 13, 3) := dk_180 0 13 (bs_at BX12_back_39 4 rfl) rfl
theorem dX12_back_50 : decode cX12_back 50 = .ok (.iload_n 2, 1) := dk_28 (bs_at BX12_back_39 5 rfl)
theorem dX12_back_51 : decode cX12_back 51 = .ok (.aload_n 0, 1) := dk_42 (bs_at BX12_back_39 6 rfl)
theorem dX12_back_52 : decode cX12_back 52 = .ok (.getfield 16, 3) := dk_180 0 16 (bs_at BX12_back_39 7 rfl) rfl
theorem dX12_back_55 : decode cX12_back 55 = .ok (.sipush 5500, 3) := dk_17 21 124 (bs_at BX12_back_39 8 rfl) rfl
theorem dX12_back_58 : decode cX12_back 58 = .ok (.iload_n 1, 1) := dk_27 (bs_at BX12_back_39 9 rfl)
theorem dX12_back_59 : decode cX12_back 59 = .ok (.imul, 1) := dk_104 (bs_at BX12_back_39 10 rfl)
theorem dX12_back_60 : decode cX12_back 60 = .ok (.iload_n 2, 1) := dk_28 (bs_at BX12_back_39 11 rfl)
theorem dX12_back_61 : decode cX12_back 61 = .ok (.iadd, 1) := dk_96 (bs_at BX12_back_39 12 rfl)
theorem dX12_back_62 : decode cX12_back 62 = .ok (.iaload, 1) := dk_46 (bs_at BX12_back_39 13 rfl)
theorem dX12_back_63 : decode cX12_back 63 = .ok (.iastore, 1) := dk_79 (bs_at BX12_back_39 14 rfl)
theorem dX12_back_64 : decode cX12_back 64 = .ok (.iinc 2 1, 3) := dk_132 2 1 (bs_at BX12_back_39 15 rfl) rfl
theorem dX12_back_67 : decode cX12_back 67 = .ok (.goto (-28), 3) := dk_167 255 228 (bs_at BX12_back_39 16 rfl) rfl
theorem dX12_back_70 : decode cX12_back 70 = .ok (.aload_n 0, 1) := dk_42 (bs_at BX12_back_39 17 rfl)
theorem dX12_back_71 : decode cX12_back 71 = .ok (.iconst 0, 1) := dk_3 (bs_at BX12_back_39 18 rfl)
theorem dX12_back_72 : decode cX12_back 72 = .ok (.putfield 164, 3) := dk_181 0 164 (bs_at BX12_back_39 19 rfl) rfl
theorem dX12_back_75 : decode cX12_back 75 = .ok (.aload_n 0, 1) := dk_42 (bs_at BX12_back_39 20 rfl)
theorem dX12_back_76 : decode cX12_back 76 = .ok (.iconst 0, 1) := dk_3 (bs_at BX12_back_39 21 rfl)
theorem dX12_back_77 : decode cX12_back 77 = .ok (.invokevirtual 171, 3) := dk_182 0 171 (bs_at BX12_back_39 22 rfl) rfl
theorem dX12_back_80 : decode cX12_back 80 = .ok (.ireturn, 1) := dk_172 (bs_at BX12_back_39 23 rfl)
theorem ggX12_image_X12_in : GoodIn wsX12_image wsX12_in := gi_ch ch_X12_image ch_X12_in (by decide +kernel)
theorem gX12_image_X12_in : GoodIn wsX12_image (va_wsS RX12 178 yX12_in wsX12_in) := gi_ch ch_X12_image (ch_s [965, 966, 156] rfl ch_X12_in) (by decide +kernel)
theorem ggX12_image_X12_tell : GoodIn wsX12_image wsX12_tell := gi_ch ch_X12_image ch_X12_tell (by decide +kernel)
theorem gX12_image_X12_tell : GoodIn wsX12_image (wsV RX12 171 RX12 yX12_tell wsX12_tell) := gi_ch ch_X12_image (ch_v [955, 956, 74, 156] rfl ch_X12_tell) (by decide +kernel)
theorem ggX12_back_X12_in : GoodIn wsX12_back wsX12_in := gi_ch ch_X12_back ch_X12_in (by decide +kernel)
theorem gX12_back_X12_in : GoodIn wsX12_back (va_wsS RX12 178 yX12_in wsX12_in) := gi_ch ch_X12_back (ch_s [965, 966, 156] rfl ch_X12_in) (by decide +kernel)
theorem ggX12_back_X12_tell : GoodIn wsX12_back wsX12_tell := gi_ch ch_X12_back ch_X12_tell (by decide +kernel)
theorem gX12_back_X12_tell : GoodIn wsX12_back (wsV RX12 171 RX12 yX12_tell wsX12_tell) := gi_ch ch_X12_back (ch_v [955, 956, 74, 156] rfl ch_X12_tell) (by decide +kernel)
noncomputable def ImOK (g : Nat → Int32) : Prop := RwOK g ∧ RwOK (fun j => g (5500 + j))
theorem ImOK.zero : ImOK (fun _ => 0) := ⟨RwOK.zero, RwOK.zero⟩
noncomputable def CpU (f g0 g : Nat → Int32) (dp i : Nat) : Prop := (∀ j, j < i → g (dp + j) = f j) ∧ ∀ j, j < dp ∨ dp + 5500 ≤ j → g j = g0 j
theorem CpU.base {f g0 : Nat → Int32} {dp : Nat} : CpU f g0 g0 dp 0 := ⟨fun j hj => absurd hj (Nat.not_lt_zero _), fun _ _ => rfl⟩
theorem CpU.step {f g0 g : Nat → Int32} {dp i : Nat} (h : CpU f g0 g dp i) (hi : i < 5500) : CpU f g0 (upd g (dp + i) (f i)) dp (i + 1) := by
  refine ⟨fun j hj => ?_, fun j hj => ?_⟩
  · by_cases e : j = i
    · subst e; exact pk_us
    · rw [pk_un (show ¬ dp + j = dp + i by omega)]; exact h.1 j (by omega)
  · rw [pk_un (show ¬ j = dp + i by omega)]; exact h.2 j hj
theorem CpU.fin0 {f g0 g : Nat → Int32} (h : CpU f g0 g 0 5500) (hf : RwOK f) (h0 : ImOK g0) : ImOK g :=
  ⟨hf.same (fun j hj => by have := h.1 j hj; rwa [Nat.zero_add] at this), h0.2.same (fun j hj => h.2 (5500 + j) (by omega))⟩
theorem CpU.fin1 {f g0 g : Nat → Int32} (h : CpU f g0 g 5500 5500) (hf : RwOK f) (h0 : ImOK g0) : ImOK g :=
  ⟨h0.1.same (fun j hj => h.2 j (by omega)), hf.same (fun j hj => h.1 j hj)⟩
noncomputable def CpV (f g : Nat → Int32) (sp i : Nat) : Prop := ∀ j, j < i → g j = f (sp + j)
theorem CpV.base {f g : Nat → Int32} {sp : Nat} : CpV f g sp 0 := fun j hj => absurd hj (Nat.not_lt_zero _)
theorem CpV.step {f g : Nat → Int32} {sp i : Nat} (h : CpV f g sp i) : CpV f (upd g i (f (sp + i))) sp (i + 1) := fun j hj => by
  by_cases e : j = i
  · subst e; exact pk_us
  · rw [pk_un e]; exact h j (by omega)
theorem CpV.fin0 {f g : Nat → Int32} (h : CpV f g 0 5500) (h0 : ImOK f) : RwOK g := h0.1.same (fun j hj => by have := h j hj; rwa [Nat.zero_add] at this)
theorem CpV.fin1 {f g : Nat → Int32} (h : CpV f g 5500 5500) (h0 : ImOK f) : RwOK g := h0.2.same (fun j hj => h j hj)
set_option maxRecDepth 100000 in
noncomputable def E_v_image_l23 (sta : Int32) (fw : Nat → Int32) (fk : Nat → Int32) (frf : Nat → Int32) (rec_436 : Int32 → (Nat → Int32) → (Int32 × Int32 × (Nat → Int32) × (Nat → Int32) × (Nat → Int32))) (v_420 : Int32) (f_421 : Nat → Int32) : Int32 × Int32 × (Nat → Int32) × (Nat → Int32) × (Nat → Int32) :=
  if 5500 ≤ v_420 then (Lt (upd fk (0 : Int32).toNatClampNeg (vp_nar .boolean 1) : Nat → Int32) (fun f_439 => Lt2 (E_v_tell 0 sta frf) (fun r_440 q0_r_440 => Lt2 q0_r_440 (fun u_441_2_2_2_1_0 u_441_2_1_0 => ((r_440, u_441_2_2_2_1_0, f_421, f_439, u_441_2_1_0) : Int32 × Int32 × (Nat → Int32) × (Nat → Int32) × (Nat → Int32)))))) else (Lt (0 + v_420 : Int32) (fun x_446 => Lt (fw (v_420 : Int32).toNatClampNeg : Int32) (fun x_447 => Lt (upd f_421 (x_446 : Int32).toNatClampNeg x_447 : Nat → Int32) (fun f_448 => Lt (v_420 + Int32.ofInt 1 : Int32) (fun x_449 => rec_436 x_449 f_448)))))
set_option maxRecDepth 100000 in
noncomputable def E_v_image_l23a (sta : Int32) (fw : Nat → Int32) (fk : Nat → Int32) (frf : Nat → Int32) (rec_502 : Int32 → (Nat → Int32) → (Int32 × Int32 × (Nat → Int32) × (Nat → Int32) × (Nat → Int32))) (v_486 : Int32) (f_487 : Nat → Int32) : Int32 × Int32 × (Nat → Int32) × (Nat → Int32) × (Nat → Int32) :=
  if 5500 ≤ v_486 then (Lt (upd fk (1 : Int32).toNatClampNeg (vp_nar .boolean 1) : Nat → Int32) (fun f_505 => Lt2 (E_v_tell 0 sta frf) (fun r_506 q0_r_506 => Lt2 q0_r_506 (fun u_507_2_2_2_1_0 u_507_2_1_0 => ((r_506, u_507_2_2_2_1_0, f_487, f_505, u_507_2_1_0) : Int32 × Int32 × (Nat → Int32) × (Nat → Int32) × (Nat → Int32)))))) else (Lt (5500 + v_486 : Int32) (fun x_512 => Lt (fw (v_486 : Int32).toNatClampNeg : Int32) (fun x_513 => Lt (upd f_487 (x_512 : Int32).toNatClampNeg x_513 : Nat → Int32) (fun f_514 => Lt (v_486 + Int32.ofInt 1 : Int32) (fun x_515 => rec_502 x_515 f_514)))))
set_option maxRecDepth 100000 in
noncomputable def E_v_image (x : Int32) (thr : Int32) (sta : Int32) (fw : Nat → Int32) (fi : Nat → Int32) (fk : Nat → Int32) (frf : Nat → Int32) : Int32 × Int32 × (Nat → Int32) × (Nat → Int32) × (Nat → Int32) :=
  if x.toInt < 0 then (Lt ((x : Int32).toInt64 : Int64) (fun x_373 => Lt (E_v_in x_373 0 1) (fun r_374 => if r_374 = 1 then (((0, 0, fun _ => 0, fun _ => 0, fun _ => 0) : Int32 × Int32 × (Nat → Int32) × (Nat → Int32) × (Nat → Int32))) else (Lt2 (E_v_tell (-1) sta frf) (fun r_380 q0_r_380 => Lt2 q0_r_380 (fun u_381_2_2_2_1_0 u_381_2_1_0 => ((r_380, u_381_2_2_2_1_0, fi, fk, u_381_2_1_0) : Int32 × Int32 × (Nat → Int32) × (Nat → Int32) × (Nat → Int32)))))))) else (if x.toInt = 0 then (Lt (E_v_in 0 0 1) (fun r_385 => if r_385 = 1 then (Lp (α := Int32 → (Nat → Int32) → (Int32 × Int32 × (Nat → Int32) × (Nat → Int32) × (Nat → Int32))) (E_v_image_l23 sta fw fk frf) (fun _ _ => ((0, 0, fun _ => 0, fun _ => 0, fun _ => 0) : Int32 × Int32 × (Nat → Int32) × (Nat → Int32) × (Nat → Int32))) ((5501 - (0 : Int32).toInt : Int).toNat + 1) 0 fi) else (((0, 0, fun _ => 0, fun _ => 0, fun _ => 0) : Int32 × Int32 × (Nat → Int32) × (Nat → Int32) × (Nat → Int32))))) else (if x.toInt = 1 then (Lt (E_v_in 1 0 1) (fun r_451 => if r_451 = 1 then (Lp (α := Int32 → (Nat → Int32) → (Int32 × Int32 × (Nat → Int32) × (Nat → Int32) × (Nat → Int32))) (E_v_image_l23a sta fw fk frf) (fun _ _ => ((0, 0, fun _ => 0, fun _ => 0, fun _ => 0) : Int32 × Int32 × (Nat → Int32) × (Nat → Int32) × (Nat → Int32))) ((5501 - (0 : Int32).toInt : Int).toNat + 1) 0 fi) else (((0, 0, fun _ => 0, fun _ => 0, fun _ => 0) : Int32 × Int32 × (Nat → Int32) × (Nat → Int32) × (Nat → Int32))))) else (Lt ((x : Int32).toInt64 : Int64) (fun x_517 => Lt (E_v_in x_517 0 1) (fun r_518 => if r_518 = 1 then (((0, 0, fun _ => 0, fun _ => 0, fun _ => 0) : Int32 × Int32 × (Nat → Int32) × (Nat → Int32) × (Nat → Int32))) else (Lt2 (E_v_tell (-1) sta frf) (fun r_524 q0_r_524 => Lt2 q0_r_524 (fun u_525_2_2_2_1_0 u_525_2_1_0 => ((r_524, u_525_2_2_2_1_0, fi, fk, u_525_2_1_0) : Int32 × Int32 × (Nat → Int32) × (Nat → Int32) × (Nat → Int32))))))))))
set_option maxHeartbeats 4000000 in
set_option maxRecDepth 100000 in
theorem v_image (l : Launch) (D : va_G) (K : Nat → ClassId) (m0 : Nat) (x : Int32) (thr : Int32) (sta : Int32) (r0 : Nat) (w0 : Nat) (i0 : Nat) (k0 : Nat) (m_6 : Value) (m_7 : Value) (m_8 : Value) (m_9 : Value) (m_10 : Value) (m_11 : Value) (m_12 : Value) (m_13 : Value) (m_14 : Value) (m_15 : Value) (m_16 : Value) (m_17 : Value) (m_18 : Value) (m_19 : Value) (m_20 : Value) (m_21 : Value) (m_22 : Value) (m_23 : Value) (m_24 : Value) (m_25 : Value) (m_26 : Value) (m_27 : Value) (m_28 : Value) (m_29 : Value) (m_30 : Value) (m_31 : Value) (m_32 : Value) (m_33 : Value) (m_34 : Value) (m_35 : Value) (m_36 : Value) (m_37 : Value) (m_38 : Value) (m_39 : Value) (m_40 : Value) (m_41 : Value) (m_42 : Value) (m_43 : Value) (m_44 : Value) (m_45 : Value) (m_46 : Value) (m_47 : Value) (m_48 : Value) (m_49 : Value) (m_50 : Value) (m_51 : Value) (m_52 : Value) (m_53 : Value) (m_54 : Value) (m_55 : Value) (m_56 : Value) (m_57 : Value) (m_58 : Value) (m_59 : Value) (fw : Nat → Int32) (gr : Nat → Int32) (fi : Nat → Int32) (fk : Nat → Int32) (frf : Nat → Int32) (sz : Nat) (zfw : RwOK fw) (zgr : FzM gr fw) (zfi : ImOK fi) : Met l yX12_image wsX12_image ({ frames := 1, cells := 0, slots := 0, locals := 25 }) (va_Pc [.ref m0, .int x] (Pre D K [(cc_O m0 12 [.int thr, .int sta, .ref r0, .ref w0, .ref i0, .ref k0, m_6, m_7, m_8, m_9, m_10, m_11, m_12, m_13, m_14, m_15, m_16, m_17, m_18, m_19, m_20, m_21, m_22, m_23, m_24, m_25, m_26, m_27, m_28, m_29, m_30, m_31, m_32, m_33, m_34, m_35, m_36, m_37, m_38, m_39, m_40, m_41, m_42, m_43, m_44, m_45, m_46, m_47, m_48, m_49, m_50, m_51, m_52, m_53, m_54, m_55, m_56, m_57, m_58, m_59]), (cc_l w0 (K 0) 5500 fw), (cc_l i0 (K 0) 11000 fi), (cc_l k0 (K 1) 2 fk), (cc_l r0 (K 0) 7 frf)] sz)) (va_Qi (S := Su) (fun (r : Int32) (u : Su) => ((-6) ≤ r.toInt) ∧ ((-6) ≤ (u.2.2.2.1 0).toInt ∧ (u.2.2.2.1 0).toInt ≤ 0) ∧ (ImOK (u.2.1 0)) ∧ ((r, (u.2.2.2.1 0), (u.2.1 0), (u.2.1 1), (u.2.1 2)) = E_v_image x thr sta fw fi fk frf) ∧ True) (fun u t => Wd D (va_A [(cc_O m0 12 [.int thr, .int sta, .ref r0, .ref w0, .ref i0, .ref k0, m_6, m_7, m_8, m_9, m_10, m_11, m_12, m_13, m_14, m_15, m_16, m_17, m_18, m_19, m_20, m_21, m_22, m_23, m_24, m_25, m_26, m_27, m_28, m_29, m_30, m_31, m_32, m_33, m_34, m_35, m_36, m_37, m_38, m_39, m_40, m_41, m_42, m_43, m_44, m_45, m_46, m_47, m_48, m_49, m_50, m_51, m_52, m_53, m_54, m_55, m_56, m_57, m_58, m_59]), (cc_l w0 (K 0) 5500 fw), (cc_l i0 (K 0) 11000 fi), (cc_l k0 (K 1) 2 fk), (cc_l r0 (K 0) 7 frf)] sz) ((fun u => [(cc_O m0 12 [.int 0, .int (u.2.2.2.1 0), .ref r0, .ref w0, .ref i0, .ref k0, m_6, m_7, m_8, m_9, m_10, m_11, m_12, m_13, m_14, m_15, m_16, m_17, m_18, m_19, m_20, m_21, m_22, m_23, m_24, m_25, m_26, m_27, m_28, m_29, m_30, m_31, m_32, m_33, m_34, m_35, m_36, m_37, m_38, m_39, m_40, m_41, m_42, m_43, m_44, m_45, m_46, m_47, m_48, m_49, m_50, m_51, m_52, m_53, m_54, m_55, m_56, m_57, m_58, m_59]), (cc_l w0 (K 0) 5500 fw), (cc_l i0 (K 0) 11000 (u.2.1 0)), (cc_l k0 (K 1) 2 (u.2.1 1)), (cc_l r0 (K 0) 7 (u.2.1 2))]) u) t) (va_A [(cc_O m0 12 [.int thr, .int sta, .ref r0, .ref w0, .ref i0, .ref k0, m_6, m_7, m_8, m_9, m_10, m_11, m_12, m_13, m_14, m_15, m_16, m_17, m_18, m_19, m_20, m_21, m_22, m_23, m_24, m_25, m_26, m_27, m_28, m_29, m_30, m_31, m_32, m_33, m_34, m_35, m_36, m_37, m_38, m_39, m_40, m_41, m_42, m_43, m_44, m_45, m_46, m_47, m_48, m_49, m_50, m_51, m_52, m_53, m_54, m_55, m_56, m_57, m_58, m_59]), (cc_l w0 (K 0) 5500 fw), (cc_l i0 (K 0) 11000 fi), (cc_l k0 (K 1) 2 fk), (cc_l r0 (K 0) 7 frf)] sz)) 0 0 (va_A [(cc_O m0 12 [.int thr, .int sta, .ref r0, .ref w0, .ref i0, .ref k0, m_6, m_7, m_8, m_9, m_10, m_11, m_12, m_13, m_14, m_15, m_16, m_17, m_18, m_19, m_20, m_21, m_22, m_23, m_24, m_25, m_26, m_27, m_28, m_29, m_30, m_31, m_32, m_33, m_34, m_35, m_36, m_37, m_38, m_39, m_40, m_41, m_42, m_43, m_44, m_45, m_46, m_47, m_48, m_49, m_50, m_51, m_52, m_53, m_54, m_55, m_56, m_57, m_58, m_59]), (cc_l w0 (K 0) 5500 fw), (cc_l i0 (K 0) 11000 fi), (cc_l k0 (K 1) 2 fk), (cc_l r0 (K 0) 7 frf)] sz) := by
  refine Met.ofW (cc := cX12_image) (maxL := 3) (ret := (some .int)) (by decide +kernel) rfl ?_
  intro p e s m args below meth c s₁ B hml hv
  obtain ⟨rfl, hsz, hP, hK, hD0, hN⟩ := hv
  have hx := B.exec
  have hb := B.bytes
  have hr := B.returns
  have hts := atoms_spec (ws := wsX12_image) B.pre
  have hown : s.vm.findClass RX12 = some m.cls := findClass_of_methodNamed B.named
  have hlocks := B.notSynchronized
  subst hsz
  have hD := hD0.self (sz := s.heap.size)
  generalize hAe : va_A [(cc_O m0 12 [.int thr, .int sta, .ref r0, .ref w0, .ref i0, .ref k0, m_6, m_7, m_8, m_9, m_10, m_11, m_12, m_13, m_14, m_15, m_16, m_17, m_18, m_19, m_20, m_21, m_22, m_23, m_24, m_25, m_26, m_27, m_28, m_29, m_30, m_31, m_32, m_33, m_34, m_35, m_36, m_37, m_38, m_39, m_40, m_41, m_42, m_43, m_44, m_45, m_46, m_47, m_48, m_49, m_50, m_51, m_52, m_53, m_54, m_55, m_56, m_57, m_58, m_59]), (cc_l w0 (K 0) 5500 fw), (cc_l i0 (K 0) 11000 fi), (cc_l k0 (K 1) 2 fk), (cc_l r0 (K 0) 7 frf)] s.heap.size = A at hD ⊢
  have hA : ∀ q : Nat, s.heap.size ≤ q → A q := fun q h => by rw [← hAe]; exact Or.inr h
  clear hAe
  have hS : va_S A s.heap s.heap [] := va_S.rf
  replace hP : va_P D vwCl [(cc_O m0 12 [.int thr, .int sta, .ref r0, .ref w0, .ref i0, .ref k0, m_6, m_7, m_8, m_9, m_10, m_11, m_12, m_13, m_14, m_15, m_16, m_17, m_18, m_19, m_20, m_21, m_22, m_23, m_24, m_25, m_26, m_27, m_28, m_29, m_30, m_31, m_32, m_33, m_34, m_35, m_36, m_37, m_38, m_39, m_40, m_41, m_42, m_43, m_44, m_45, m_46, m_47, m_48, m_49, m_50, m_51, m_52, m_53, m_54, m_55, m_56, m_57, m_58, m_59]), (cc_l w0 (K 0) 5500 fw), (cc_l i0 (K 0) 11000 fi), (cc_l k0 (K 1) 2 fk), (cc_l r0 (K 0) 7 frf)] s.heap := hP
  have hl := lv_entry [.ref m0, .int x] (n := 3) (Nat.le_of_ble_eq_true rfl)
  rw [lg_entry_eq]
  generalize (lg_sl [.ref m0, .int x] ++ List.replicate (3 - (lg_sl [.ref m0, .int x]).length) Slot.unset).toArray = ls at hl ⊢
  have hl : lv_has ls 3 [(0, .ref m0), (1, .int x)] := hl
  have hw12 : ∀ w ∈ wsX120, w ∈ wsX12_image := fun w h => (List.mem_cons_of_mem _ (List.mem_append_right _ h))
  generalize hQ : MQ below _ _ s _ _ _ = Q
  have hE := E_v_image.eq_def x thr sta fw fi fk frf
  rcases (show x.toInt < 0 ∨ x.toInt = 0 ∨ x.toInt = 1 ∨ 1 < x.toInt by omega) with hx0 | hx0 | hx0 | hx0
  · replace hE := (hE).trans (if_pos hx0)
    skip
    refine lv_aload_n hx hb dX12_image_0 rfl (lv_at hl 0 rfl) (lv_iconst (v := 0) hx hb dX12_image_1 (by decide +kernel) (va_put (ci := 12) (v := .int 0) (ty := .int) (C := RX12) (T := TX12) (N := 60) hx hb hts hw12 tyX12 tyX12_ok nmX12 hown hK hP hD hS 0 rfl rfl 0 (by decide +kernel) (hts _ mm_X12_image_830) (fun _ h9 => h9) rfl (by decide +kernel) (by first | rfl | decide) (by first | rfl | decide) (Nat.le_of_ble_eq_true rfl) dX12_image_2 (fun H locs hP0 hD0 hS0 => ?_)))
    replace hP : va_P D vwCl [(cc_O m0 12 [.int 0, .int sta, .ref r0, .ref w0, .ref i0, .ref k0, m_6, m_7, m_8, m_9, m_10, m_11, m_12, m_13, m_14, m_15, m_16, m_17, m_18, m_19, m_20, m_21, m_22, m_23, m_24, m_25, m_26, m_27, m_28, m_29, m_30, m_31, m_32, m_33, m_34, m_35, m_36, m_37, m_38, m_39, m_40, m_41, m_42, m_43, m_44, m_45, m_46, m_47, m_48, m_49, m_50, m_51, m_52, m_53, m_54, m_55, m_56, m_57, m_58, m_59]), (cc_l w0 (K 0) 5500 fw), (cc_l i0 (K 0) 11000 fi), (cc_l k0 (K 1) 2 fk), (cc_l r0 (K 0) 7 frf)] H := hP0
    replace hD := as_D hP hD0 rfl
    replace hS := hS0
    clear hP0 hD0 hS0
    refine lv_iload_n hx hb dX12_image_5 rfl (lv_at hl 1 rfl) (lv_i2l hx hb dX12_image_6 rfl (lv_topl (fun x_373 ex_373 => ?_)))
    replace hE := hE.trans (Lt_in ex_373)
    have hx_373 : x_373.toInt = x.toInt := by rw [ex_373]; exact i_wide rfl
    refine lv_lconst (v := 0) hx hb dX12_image_7 (by decide +kernel) (lv_lconst (v := 1) hx hb dX12_image_8 (by decide +kernel) (pci (va_runS (As := [.long x_373, .long 0, .long 1]) (rest := []) ⟨hx, hb, hml, hown, hts⟩ (v_in l D K x.toInt 0 1 x_373 0 1 H.size hx_373 (show (0 : Int64).toInt = 0 from rfl) (show (1 : Int64).toInt = 1 from rfl)) (va_cwS 3 hts gX12_image_X12_in rfl rfl rfl (by decide +kernel) ⟨Nat.le_of_ble_eq_true rfl, Nat.le_of_ble_eq_true rfl⟩) (mkS hK hN (va_P.nil) (va_D.nil (A := fun _ => True))) rfl rfl hl.1 rfl (lv_room (Nat.le_of_ble_eq_true rfl)) dX12_image_9 ⟨Nat.le_of_ble_eq_true rfl, Nat.le_of_ble_eq_true rfl⟩) (fun r_374 hw => ?_)))
    obtain ⟨hw, k_375, -⟩ := hw
    replace hE := hE.trans (Lt_in k_375)
    rcases hw with ⟨rfl, h_376, h_377⟩ | ⟨rfl, h_378⟩
    · replace hE := (hE).trans (if_pos rfl)
      exfalso; omega
    · replace hE := (hE).trans (if_neg (by first | decide | (intro h9; have h8 := congrArg Int32.toInt h9; omega)))
      refine lv_if_ne (tgt := 21) hx hb dX12_image_12 (by decide +kernel) (fun c_379 => absurd (by decide +kernel) c_379) (fun c_379 => ?_)
      refine lv_aload_n hx hb dX12_image_15 rfl (lv_at hl 0 rfl) (lv_iconst (v := (-1)) hx hb dX12_image_16 (by decide +kernel) (kci (S := Su) (wr := [(cc_l w0 (K 0) 5500 fw), (cc_l i0 (K 0) 11000 fi), (cc_l k0 (K 1) 2 fk)]) (va_runV (As := [.int (-1)]) (rest := []) ⟨hx, hb, hml, hown, hts⟩ (v_tell l D K m0 (-1) (.int 0) sta r0 (.ref w0) (.ref i0) (.ref k0) m_6 m_7 m_8 m_9 m_10 m_11 m_12 m_13 m_14 m_15 m_16 m_17 m_18 m_19 m_20 m_21 m_22 m_23 m_24 m_25 m_26 m_27 m_28 m_29 m_30 m_31 m_32 m_33 m_34 m_35 m_36 m_37 m_38 m_39 m_40 m_41 m_42 m_43 m_44 m_45 m_46 m_47 m_48 m_49 m_50 m_51 m_52 m_53 m_54 m_55 m_56 m_57 m_58 m_59 frf H.size (by first | omega | decide)) (cwV 1 hts gX12_image_X12_tell rfl rfl rfl (by decide +kernel) ⟨Nat.le_of_ble_eq_true rfl, Nat.le_of_ble_eq_true rfl⟩) (mkV hK hN (hP.sub [0, 4] rfl) (hD.sub [0, 4] (by decide +kernel) rfl) (ci := 12) (q0 := 0) rfl rfl) rfl rfl hl.1 rfl (lv_room (Nat.le_of_ble_eq_true rfl)) dX12_image_17 ⟨Nat.le_of_ble_eq_true rfl, Nat.le_of_ble_eq_true rfl⟩) hP hD hS hA [0, 4] [1, 2, 3] rfl rfl (by decide +kernel) (by decide +kernel) (fun r_380 u_381 H locs hw hP0 hD0 hS0 => ?_)))
      replace hP : va_P D vwCl [(cc_l w0 (K 0) 5500 fw), (cc_l i0 (K 0) 11000 fi), (cc_l k0 (K 1) 2 fk), (cc_O m0 12 [.int 0, .int (u_381.2.2.2.1 0), .ref r0, .ref w0, .ref i0, .ref k0, m_6, m_7, m_8, m_9, m_10, m_11, m_12, m_13, m_14, m_15, m_16, m_17, m_18, m_19, m_20, m_21, m_22, m_23, m_24, m_25, m_26, m_27, m_28, m_29, m_30, m_31, m_32, m_33, m_34, m_35, m_36, m_37, m_38, m_39, m_40, m_41, m_42, m_43, m_44, m_45, m_46, m_47, m_48, m_49, m_50, m_51, m_52, m_53, m_54, m_55, m_56, m_57, m_58, m_59]), (cc_l r0 (K 0) 7 (u_381.2.1 0))] H := hP0
      replace hD := as_D hP hD0 rfl
      replace hS := hS0
      clear hP0 hD0 hS0
      obtain ⟨h_384, k_382, k_383, -⟩ := hw
      replace hE := (hE.trans (Lt2_in k_383)).trans (Lt2_in rfl)
      rw [← hQ]
      have hP9 := hP.sub (ws' := [(cc_O m0 12 [.int 0, .int (u_381.2.2.2.1 0), .ref r0, .ref w0, .ref i0, .ref k0, m_6, m_7, m_8, m_9, m_10, m_11, m_12, m_13, m_14, m_15, m_16, m_17, m_18, m_19, m_20, m_21, m_22, m_23, m_24, m_25, m_26, m_27, m_28, m_29, m_30, m_31, m_32, m_33, m_34, m_35, m_36, m_37, m_38, m_39, m_40, m_41, m_42, m_43, m_44, m_45, m_46, m_47, m_48, m_49, m_50, m_51, m_52, m_53, m_54, m_55, m_56, m_57, m_58, m_59]), (cc_l w0 (K 0) 5500 fw), (cc_l i0 (K 0) 11000 fi), (cc_l k0 (K 1) 2 fk), (cc_l r0 (K 0) 7 (u_381.2.1 0))]) [3, 0, 1, 2, 4] rfl
      have hD9 := sub_D hP9 hD [3, 0, 1, 2, 4] (by decide +kernel) rfl
      exact W.iret (v := r_380) hx hb hr (fun t ht hW => ⟨⟨r_380, ((fun _ => 0, fun i => match i with | 0 => fi | 1 => fk | _ => (u_381.2.1 0), fun _ => fun _ => 0, fun i => match i with | _ => (u_381.2.2.2.1 0), fun _ => 0, fun _ => fun _ => none) : Su), rfl, ⟨(show (-6) ≤ r_380.toInt by omega), (show (-6) ≤ ((u_381.2.2.2.1 0) : Int32).toInt ∧ ((u_381.2.2.2.1 0) : Int32).toInt ≤ 0 by omega), zfi, hE.symm, trivial⟩, (⟨by rw [ht]; exact hP9, hD9⟩ : Wd D A _ t)⟩, hS.F ht⟩) hS.2.2 dX12_image_20
  · replace hE := ((hE).trans (if_neg (by omega))).trans (if_pos hx0)
    obtain rfl : x = 0 := i_lit (b := 0) hx0 rfl
    have hl : lv_has ls 3 [(0, .ref m0), (1, .int 0)] := hl
    refine lv_aload_n hx hb dX12_image_0 rfl (lv_at hl 0 rfl) (lv_iconst (v := 0) hx hb dX12_image_1 (by decide +kernel) (va_put (ci := 12) (v := .int 0) (ty := .int) (C := RX12) (T := TX12) (N := 60) hx hb hts hw12 tyX12 tyX12_ok nmX12 hown hK hP hD hS 0 rfl rfl 0 (by decide +kernel) (hts _ mm_X12_image_830) (fun _ h9 => h9) rfl (by decide +kernel) (by first | rfl | decide) (by first | rfl | decide) (Nat.le_of_ble_eq_true rfl) dX12_image_2 (fun H locs hP0 hD0 hS0 => ?_)))
    replace hP : va_P D vwCl [(cc_O m0 12 [.int 0, .int sta, .ref r0, .ref w0, .ref i0, .ref k0, m_6, m_7, m_8, m_9, m_10, m_11, m_12, m_13, m_14, m_15, m_16, m_17, m_18, m_19, m_20, m_21, m_22, m_23, m_24, m_25, m_26, m_27, m_28, m_29, m_30, m_31, m_32, m_33, m_34, m_35, m_36, m_37, m_38, m_39, m_40, m_41, m_42, m_43, m_44, m_45, m_46, m_47, m_48, m_49, m_50, m_51, m_52, m_53, m_54, m_55, m_56, m_57, m_58, m_59]), (cc_l w0 (K 0) 5500 fw), (cc_l i0 (K 0) 11000 fi), (cc_l k0 (K 1) 2 fk), (cc_l r0 (K 0) 7 frf)] H := hP0
    replace hD := as_D hP hD0 rfl
    replace hS := hS0
    clear hP0 hD0 hS0
    refine lv_iload_n hx hb dX12_image_5 rfl (lv_at hl 1 rfl) (lv_i2l (v := 0) hx hb dX12_image_6 (by decide +kernel) (lv_lconst (v := 0) hx hb dX12_image_7 (by decide +kernel) (lv_lconst (v := 1) hx hb dX12_image_8 (by decide +kernel) (pci (va_runS (As := [.long 0, .long 0, .long 1]) (rest := []) ⟨hx, hb, hml, hown, hts⟩ (v_in l D K 0 0 1 0 0 1 H.size (show (0 : Int64).toInt = 0 from rfl) (show (0 : Int64).toInt = 0 from rfl) (show (1 : Int64).toInt = 1 from rfl)) (va_cwS 3 hts gX12_image_X12_in rfl rfl rfl (by decide +kernel) ⟨Nat.le_of_ble_eq_true rfl, Nat.le_of_ble_eq_true rfl⟩) (mkS hK hN (va_P.nil) (va_D.nil (A := fun _ => True))) rfl rfl hl.1 rfl (lv_room (Nat.le_of_ble_eq_true rfl)) dX12_image_9 ⟨Nat.le_of_ble_eq_true rfl, Nat.le_of_ble_eq_true rfl⟩) (fun r_385 hw => ?_)))))
    obtain ⟨hw, k_386, -⟩ := hw
    replace hE := hE.trans (Lt_in k_386)
    rcases hw with ⟨rfl, h_387, h_388⟩ | ⟨rfl, h_389⟩
    · replace hE := (hE).trans (if_pos rfl)
      refine lv_if_ne (tgt := 21) hx hb dX12_image_12 (by decide +kernel) (fun c_390 => ?_) (fun c_390 => absurd c_390 (by decide +kernel))
      refine lv_iconst (v := 0) hx hb dX12_image_21 (by decide +kernel) (lv_istore_n (lv' := [(2, .int 0), (0, .ref m0), (1, .int 0)]) hx hb dX12_image_22 rfl hl (by decide +kernel) rfl (fun ls hl => ?_))
      have lp_436 : ∀ (nn_ : Nat) (v_420 : Int32) (f_421 : Nat → Int32) (hv_420 : 0 ≤ v_420.toInt ∧ v_420.toInt ≤ 5500) (hr0_lp_436 : CpU fw fi f_421 0 (v_420.toInt).toNat) (hn : (5501 - v_420.toInt : Int).toNat < nn_) (hE : E_v_image 0 thr sta fw fi fk frf = Lp (α := Int32 → (Nat → Int32) → (Int32 × Int32 × (Nat → Int32) × (Nat → Int32) × (Nat → Int32))) (E_v_image_l23 sta fw fk frf) (fun _ _ => ((0, 0, fun _ => 0, fun _ => 0, fun _ => 0) : Int32 × Int32 × (Nat → Int32) × (Nat → Int32) × (Nat → Int32))) nn_ v_420 f_421) (H : Heap) (locs : List Loc) (hP : va_P D vwCl [(cc_O m0 12 [.int 0, .int sta, .ref r0, .ref w0, .ref i0, .ref k0, m_6, m_7, m_8, m_9, m_10, m_11, m_12, m_13, m_14, m_15, m_16, m_17, m_18, m_19, m_20, m_21, m_22, m_23, m_24, m_25, m_26, m_27, m_28, m_29, m_30, m_31, m_32, m_33, m_34, m_35, m_36, m_37, m_38, m_39, m_40, m_41, m_42, m_43, m_44, m_45, m_46, m_47, m_48, m_49, m_50, m_51, m_52, m_53, m_54, m_55, m_56, m_57, m_58, m_59]), (cc_l w0 (K 0) 5500 fw), (cc_l i0 (K 0) 11000 f_421), (cc_l k0 (K 1) 2 fk), (cc_l r0 (K 0) 7 frf)] H) (hD : va_D A [(cc_O m0 12 [.int 0, .int sta, .ref r0, .ref w0, .ref i0, .ref k0, m_6, m_7, m_8, m_9, m_10, m_11, m_12, m_13, m_14, m_15, m_16, m_17, m_18, m_19, m_20, m_21, m_22, m_23, m_24, m_25, m_26, m_27, m_28, m_29, m_30, m_31, m_32, m_33, m_34, m_35, m_36, m_37, m_38, m_39, m_40, m_41, m_42, m_43, m_44, m_45, m_46, m_47, m_48, m_49, m_50, m_51, m_52, m_53, m_54, m_55, m_56, m_57, m_58, m_59]), (cc_l w0 (K 0) 5500 fw), (cc_l i0 (K 0) 11000 f_421), (cc_l k0 (K 1) 2 fk), (cc_l r0 (K 0) 7 frf)]) (hS : va_S A s.heap H locs) (ls : Array Slot) (hl : lv_has ls 3 [(2, .int v_420), (0, .ref m0), (1, .int 0)]), W p l e ({ frames := 1, cells := 0, slots := 0, locals := 25 }) s m (([.ref m0, .int 0] : List Value).toArray) below meth c H locs 0 0 Q (F0 m 23 ls []) := by
        clear hE hP hD hS hl
        intro nn_
        induction nn_ with
        | zero =>
          intro v_420 f_421 hv_420 hr0_lp_436 hn hE H locs hP hD hS ls hl
          exact absurd hn (Nat.not_lt_zero _)
        | succ nn_ ih_437 =>
          intro v_420 f_421 hv_420 hr0_lp_436 hn hE H locs hP hD hS ls hl
          replace hE : E_v_image 0 thr sta fw fi fk frf = E_v_image_l23 sta fw fk frf (Lp (α := Int32 → (Nat → Int32) → (Int32 × Int32 × (Nat → Int32) × (Nat → Int32) × (Nat → Int32))) (E_v_image_l23 sta fw fk frf) (fun _ _ => ((0, 0, fun _ => 0, fun _ => 0, fun _ => 0) : Int32 × Int32 × (Nat → Int32) × (Nat → Int32) × (Nat → Int32))) nn_) v_420 f_421 := hE
          obtain ⟨rec_436, hrec_436⟩ : ∃ z9, z9 = Lp (α := Int32 → (Nat → Int32) → (Int32 × Int32 × (Nat → Int32) × (Nat → Int32) × (Nat → Int32))) (E_v_image_l23 sta fw fk frf) (fun _ _ => ((0, 0, fun _ => 0, fun _ => 0, fun _ => 0) : Int32 × Int32 × (Nat → Int32) × (Nat → Int32) × (Nat → Int32))) nn_ := ⟨_, rfl⟩
          rw [← hrec_436] at hE
          replace hE := hE.trans (E_v_image_l23.eq_def _ _ _ _ _ _ _)
          refine lv_iload_n hx hb dX12_image_23 rfl (lv_at hl 0 rfl) (lv_sipush (v := 5500) hx hb dX12_image_24 (by decide +kernel) (lv_icmp_ge (tgt := 54) hx hb dX12_image_27 (by decide +kernel) (fun c_438 => ?_) (fun c_438 => ?_)))
          · have c_438i := i_le (x := 5500) (y := v_420.toInt) rfl rfl c_438
            replace hE := hE.trans (if_pos c_438)
            have him : ImOK f_421 := CpU.fin0 (by have q := hr0_lp_436; rwa [show (v_420.toInt).toNat = 5500 by omega] at q) zfw zfi
            refine lv_aload_n hx hb dX12_image_54 rfl (lv_at hl 1 rfl) (va_get (ci := 12) (v := .ref k0) (C := RX12) (T := TX12) (N := 60) hx hb hts hw12 hown hK hP 0 rfl rfl 5 (by decide +kernel) (hts _ mm_X12_image_835) (fun _ h9 => h9) rfl dX12_image_55 (lv_iload_n hx hb dX12_image_58 rfl (lv_at hl 2 rfl) (lv_iconst (v := 1) hx hb dX12_image_59 (by decide +kernel) (va_zast hx hb hK hP hD hS 3 1 rfl rfl (i_in (x := 0) rfl (by omega)) dX12_image_60 (fun H locs hP0 hD0 hS0 => ?_)))))
            replace hP := hP0
            replace hD := hD0
            replace hS := hS0
            clear hP0 hD0 hS0
            generalize hf_439 : (upd fk (0 : Int32).toNatClampNeg (vp_nar .boolean 1)) = f_439 at hP hD
            replace hE := hE.trans (Lt_in hf_439.symm)
            replace hP : va_P D vwCl [(cc_O m0 12 [.int 0, .int sta, .ref r0, .ref w0, .ref i0, .ref k0, m_6, m_7, m_8, m_9, m_10, m_11, m_12, m_13, m_14, m_15, m_16, m_17, m_18, m_19, m_20, m_21, m_22, m_23, m_24, m_25, m_26, m_27, m_28, m_29, m_30, m_31, m_32, m_33, m_34, m_35, m_36, m_37, m_38, m_39, m_40, m_41, m_42, m_43, m_44, m_45, m_46, m_47, m_48, m_49, m_50, m_51, m_52, m_53, m_54, m_55, m_56, m_57, m_58, m_59]), (cc_l w0 (K 0) 5500 fw), (cc_l i0 (K 0) 11000 f_421), (cc_l k0 (K 1) 2 f_439), (cc_l r0 (K 0) 7 frf)] H := hP
            replace hD := as_D hP hD rfl
            refine lv_aload_n hx hb dX12_image_61 rfl (lv_at hl 1 rfl) (lv_iconst (v := 0) hx hb dX12_image_62 (by decide +kernel) (kci (S := Su) (wr := [(cc_l w0 (K 0) 5500 fw), (cc_l i0 (K 0) 11000 f_421), (cc_l k0 (K 1) 2 f_439)]) (va_runV (As := [.int 0]) (rest := []) ⟨hx, hb, hml, hown, hts⟩ (v_tell l D K m0 0 (.int 0) sta r0 (.ref w0) (.ref i0) (.ref k0) m_6 m_7 m_8 m_9 m_10 m_11 m_12 m_13 m_14 m_15 m_16 m_17 m_18 m_19 m_20 m_21 m_22 m_23 m_24 m_25 m_26 m_27 m_28 m_29 m_30 m_31 m_32 m_33 m_34 m_35 m_36 m_37 m_38 m_39 m_40 m_41 m_42 m_43 m_44 m_45 m_46 m_47 m_48 m_49 m_50 m_51 m_52 m_53 m_54 m_55 m_56 m_57 m_58 m_59 frf H.size (by first | omega | decide)) (cwV 1 hts gX12_image_X12_tell rfl rfl rfl (by decide +kernel) ⟨Nat.le_of_ble_eq_true rfl, Nat.le_of_ble_eq_true rfl⟩) (mkV hK hN (hP.sub [0, 4] rfl) (hD.sub [0, 4] (by decide +kernel) rfl) (ci := 12) (q0 := 0) rfl rfl) rfl rfl hl.1 rfl (lv_room (Nat.le_of_ble_eq_true rfl)) dX12_image_63 ⟨Nat.le_of_ble_eq_true rfl, Nat.le_of_ble_eq_true rfl⟩) hP hD hS hA [0, 4] [1, 2, 3] rfl rfl (by decide +kernel) (by decide +kernel) (fun r_440 u_441 H locs hw hP0 hD0 hS0 => ?_)))
            replace hP : va_P D vwCl [(cc_l w0 (K 0) 5500 fw), (cc_l i0 (K 0) 11000 f_421), (cc_l k0 (K 1) 2 f_439), (cc_O m0 12 [.int 0, .int (u_441.2.2.2.1 0), .ref r0, .ref w0, .ref i0, .ref k0, m_6, m_7, m_8, m_9, m_10, m_11, m_12, m_13, m_14, m_15, m_16, m_17, m_18, m_19, m_20, m_21, m_22, m_23, m_24, m_25, m_26, m_27, m_28, m_29, m_30, m_31, m_32, m_33, m_34, m_35, m_36, m_37, m_38, m_39, m_40, m_41, m_42, m_43, m_44, m_45, m_46, m_47, m_48, m_49, m_50, m_51, m_52, m_53, m_54, m_55, m_56, m_57, m_58, m_59]), (cc_l r0 (K 0) 7 (u_441.2.1 0))] H := hP0
            replace hD := as_D hP hD0 rfl
            replace hS := hS0
            clear hP0 hD0 hS0
            obtain ⟨h_444, k_442, k_443, -⟩ := hw
            replace hE := (hE.trans (Lt2_in k_443)).trans (Lt2_in rfl)
            rw [← hQ]
            have hP9 := hP.sub (ws' := [(cc_O m0 12 [.int 0, .int (u_441.2.2.2.1 0), .ref r0, .ref w0, .ref i0, .ref k0, m_6, m_7, m_8, m_9, m_10, m_11, m_12, m_13, m_14, m_15, m_16, m_17, m_18, m_19, m_20, m_21, m_22, m_23, m_24, m_25, m_26, m_27, m_28, m_29, m_30, m_31, m_32, m_33, m_34, m_35, m_36, m_37, m_38, m_39, m_40, m_41, m_42, m_43, m_44, m_45, m_46, m_47, m_48, m_49, m_50, m_51, m_52, m_53, m_54, m_55, m_56, m_57, m_58, m_59]), (cc_l w0 (K 0) 5500 fw), (cc_l i0 (K 0) 11000 f_421), (cc_l k0 (K 1) 2 f_439), (cc_l r0 (K 0) 7 (u_441.2.1 0))]) [3, 0, 1, 2, 4] rfl
            have hD9 := sub_D hP9 hD [3, 0, 1, 2, 4] (by decide +kernel) rfl
            exact W.iret (v := r_440) hx hb hr (fun t ht hW => ⟨⟨r_440, ((fun _ => 0, fun i => match i with | 0 => f_421 | 1 => f_439 | _ => (u_441.2.1 0), fun _ => fun _ => 0, fun i => match i with | _ => (u_441.2.2.2.1 0), fun _ => 0, fun _ => fun _ => none) : Su), rfl, ⟨(show (-6) ≤ r_440.toInt by omega), (show (-6) ≤ ((u_441.2.2.2.1 0) : Int32).toInt ∧ ((u_441.2.2.2.1 0) : Int32).toInt ≤ 0 by omega), him, hE.symm, trivial⟩, (⟨by rw [ht]; exact hP9, hD9⟩ : Wd D A _ t)⟩, hS.F ht⟩) hS.2.2 dX12_image_66
          · have c_438i := i_nle (x := 5500) (y := v_420.toInt) rfl rfl c_438
            replace hE := hE.trans (if_neg c_438)
            refine lv_aload_n hx hb dX12_image_30 rfl (lv_at hl 1 rfl) (va_get (ci := 12) (v := .ref i0) (C := RX12) (T := TX12) (N := 60) hx hb hts hw12 hown hK hP 0 rfl rfl 4 (by decide +kernel) (hts _ mm_X12_image_834) (fun _ h9 => h9) rfl dX12_image_31 (lv_sipush (v := 5500) hx hb dX12_image_34 (by decide +kernel) (lv_iload_n hx hb dX12_image_37 rfl (lv_at hl 2 rfl) (lv_imul hx hb dX12_image_38 (lv_topi (fun x_445 ex_445 => ?_))))))
            obtain rfl : x_445 = 0 := ex_445.trans (by first | rfl | decide)
            refine lv_iload_n hx hb dX12_image_39 rfl (lv_at hl 0 rfl) (lv_iadd hx hb dX12_image_40 (lv_topi (fun x_446 ex_446 => ?_)))
            replace hE := hE.trans (Lt_in ex_446)
            have hx_446 : x_446.toInt = (0 + v_420.toInt) := by rw [ex_446]; exact i_add (show (0 : Int32).toInt = 0 from rfl) rfl (by omega)
            refine lv_aload_n hx hb dX12_image_41 rfl (lv_at hl 1 rfl) (va_get (ci := 12) (v := .ref w0) (C := RX12) (T := TX12) (N := 60) hx hb hts hw12 hown hK hP 0 rfl rfl 3 (by decide +kernel) (hts _ mm_X12_image_833) (fun _ h9 => h9) rfl dX12_image_42 (lv_iload_n hx hb dX12_image_45 rfl (lv_at hl 0 rfl) (va_iald hx hb hK hP 1 0 rfl rfl (i_in rfl (by omega)) dX12_image_46 (lv_topi (fun x_447 ex_447 => ?_)))))
            replace hE := hE.trans (Lt_in ex_447)
            refine va_iast hx hb hK hP hD hS 2 0 rfl rfl (i_in hx_446 (by omega)) dX12_image_47 (fun H locs hP0 hD0 hS0 => ?_)
            replace hP := hP0
            replace hD := hD0
            replace hS := hS0
            clear hP0 hD0 hS0
            generalize hf_448 : (upd f_421 (x_446 : Int32).toNatClampNeg x_447) = f_448 at hP hD
            replace hE := hE.trans (Lt_in hf_448.symm)
            replace hP : va_P D vwCl [(cc_O m0 12 [.int 0, .int sta, .ref r0, .ref w0, .ref i0, .ref k0, m_6, m_7, m_8, m_9, m_10, m_11, m_12, m_13, m_14, m_15, m_16, m_17, m_18, m_19, m_20, m_21, m_22, m_23, m_24, m_25, m_26, m_27, m_28, m_29, m_30, m_31, m_32, m_33, m_34, m_35, m_36, m_37, m_38, m_39, m_40, m_41, m_42, m_43, m_44, m_45, m_46, m_47, m_48, m_49, m_50, m_51, m_52, m_53, m_54, m_55, m_56, m_57, m_58, m_59]), (cc_l w0 (K 0) 5500 fw), (cc_l i0 (K 0) 11000 f_448), (cc_l k0 (K 1) 2 fk), (cc_l r0 (K 0) 7 frf)] H := hP
            replace hD := as_D hP hD rfl
            obtain ⟨x_449, ex_449⟩ : ∃ y : Int32, y = v_420 + Int32.ofInt 1 := ⟨_, rfl⟩
            replace hE := hE.trans (Lt_in ex_449)
            have hx_449 : x_449.toInt = (v_420.toInt + 1) := by rw [ex_449]; exact i_add rfl (show (Int32.ofInt 1).toInt = 1 from rfl) (by omega)
            refine lv_iinc (v := x_449) (lv' := [(2, .int x_449), (0, .ref m0), (1, .int 0)]) hx hb dX12_image_48 hl (k := 0) rfl (by rw [ex_449]) (by decide +kernel) rfl (fun ls hl => ?_)
            refine lv_goto (tgt := 23) hx hb dX12_image_51 (by decide +kernel) ?_
            exact ih_437 x_449 f_448 (by rw [hx_449]; omega) (show CpU fw fi f_448 0 ((x_449 : Int32).toInt).toNat by rw [← hf_448, i_clamp (x := x_446) (z := (0 + v_420.toInt)) hx_446, ex_447, i_clamp (x := v_420) (z := v_420.toInt) rfl, show ((0 + v_420.toInt)).toNat = 0 + (v_420.toInt).toNat by omega, show (x_449 : Int32).toInt.toNat = (v_420.toInt).toNat + 1 by omega]; exact CpU.step hr0_lp_436 (by omega)) (by omega) (hE.trans (by rw [hrec_436])) _ _ hP hD hS ls (lv_sub hl [0, 1, 2] rfl)
      have hz_450 : (0 : Int32).toInt = 0 := rfl
      exact lp_436 ((5501 - (0 : Int32).toInt : Int).toNat + 1) 0 fi (by decide +kernel) (show CpU fw fi fi 0 ((0 : Int32).toInt).toNat by exact CpU.base) (Nat.lt_succ_self _) hE _ _ hP hD hS ls (lv_sub hl [0, 1, 2] rfl)
    · replace hE := (hE).trans (if_neg (by first | decide | (intro h9; have h8 := congrArg Int32.toInt h9; omega)))
      exfalso; omega
  · replace hE := (((hE).trans (if_neg (by omega))).trans (if_neg (by omega))).trans (if_pos hx0)
    obtain rfl : x = 1 := i_lit (b := 1) hx0 rfl
    have hl : lv_has ls 3 [(0, .ref m0), (1, .int 1)] := hl
    refine lv_aload_n hx hb dX12_image_0 rfl (lv_at hl 0 rfl) (lv_iconst (v := 0) hx hb dX12_image_1 (by decide +kernel) (va_put (ci := 12) (v := .int 0) (ty := .int) (C := RX12) (T := TX12) (N := 60) hx hb hts hw12 tyX12 tyX12_ok nmX12 hown hK hP hD hS 0 rfl rfl 0 (by decide +kernel) (hts _ mm_X12_image_830) (fun _ h9 => h9) rfl (by decide +kernel) (by first | rfl | decide) (by first | rfl | decide) (Nat.le_of_ble_eq_true rfl) dX12_image_2 (fun H locs hP0 hD0 hS0 => ?_)))
    replace hP : va_P D vwCl [(cc_O m0 12 [.int 0, .int sta, .ref r0, .ref w0, .ref i0, .ref k0, m_6, m_7, m_8, m_9, m_10, m_11, m_12, m_13, m_14, m_15, m_16, m_17, m_18, m_19, m_20, m_21, m_22, m_23, m_24, m_25, m_26, m_27, m_28, m_29, m_30, m_31, m_32, m_33, m_34, m_35, m_36, m_37, m_38, m_39, m_40, m_41, m_42, m_43, m_44, m_45, m_46, m_47, m_48, m_49, m_50, m_51, m_52, m_53, m_54, m_55, m_56, m_57, m_58, m_59]), (cc_l w0 (K 0) 5500 fw), (cc_l i0 (K 0) 11000 fi), (cc_l k0 (K 1) 2 fk), (cc_l r0 (K 0) 7 frf)] H := hP0
    replace hD := as_D hP hD0 rfl
    replace hS := hS0
    clear hP0 hD0 hS0
    refine lv_iload_n hx hb dX12_image_5 rfl (lv_at hl 1 rfl) (lv_i2l (v := 1) hx hb dX12_image_6 (by decide +kernel) (lv_lconst (v := 0) hx hb dX12_image_7 (by decide +kernel) (lv_lconst (v := 1) hx hb dX12_image_8 (by decide +kernel) (pci (va_runS (As := [.long 1, .long 0, .long 1]) (rest := []) ⟨hx, hb, hml, hown, hts⟩ (v_in l D K 1 0 1 1 0 1 H.size (show (1 : Int64).toInt = 1 from rfl) (show (0 : Int64).toInt = 0 from rfl) (show (1 : Int64).toInt = 1 from rfl)) (va_cwS 3 hts gX12_image_X12_in rfl rfl rfl (by decide +kernel) ⟨Nat.le_of_ble_eq_true rfl, Nat.le_of_ble_eq_true rfl⟩) (mkS hK hN (va_P.nil) (va_D.nil (A := fun _ => True))) rfl rfl hl.1 rfl (lv_room (Nat.le_of_ble_eq_true rfl)) dX12_image_9 ⟨Nat.le_of_ble_eq_true rfl, Nat.le_of_ble_eq_true rfl⟩) (fun r_451 hw => ?_)))))
    obtain ⟨hw, k_452, -⟩ := hw
    replace hE := hE.trans (Lt_in k_452)
    rcases hw with ⟨rfl, h_453, h_454⟩ | ⟨rfl, h_455⟩
    · replace hE := (hE).trans (if_pos rfl)
      refine lv_if_ne (tgt := 21) hx hb dX12_image_12 (by decide +kernel) (fun c_456 => ?_) (fun c_456 => absurd c_456 (by decide +kernel))
      refine lv_iconst (v := 0) hx hb dX12_image_21 (by decide +kernel) (lv_istore_n (lv' := [(2, .int 0), (0, .ref m0), (1, .int 1)]) hx hb dX12_image_22 rfl hl (by decide +kernel) rfl (fun ls hl => ?_))
      have lp_502 : ∀ (nn_ : Nat) (v_486 : Int32) (f_487 : Nat → Int32) (hv_486 : 0 ≤ v_486.toInt ∧ v_486.toInt ≤ 5500) (hr0_lp_502 : CpU fw fi f_487 5500 (v_486.toInt).toNat) (hn : (5501 - v_486.toInt : Int).toNat < nn_) (hE : E_v_image 1 thr sta fw fi fk frf = Lp (α := Int32 → (Nat → Int32) → (Int32 × Int32 × (Nat → Int32) × (Nat → Int32) × (Nat → Int32))) (E_v_image_l23a sta fw fk frf) (fun _ _ => ((0, 0, fun _ => 0, fun _ => 0, fun _ => 0) : Int32 × Int32 × (Nat → Int32) × (Nat → Int32) × (Nat → Int32))) nn_ v_486 f_487) (H : Heap) (locs : List Loc) (hP : va_P D vwCl [(cc_O m0 12 [.int 0, .int sta, .ref r0, .ref w0, .ref i0, .ref k0, m_6, m_7, m_8, m_9, m_10, m_11, m_12, m_13, m_14, m_15, m_16, m_17, m_18, m_19, m_20, m_21, m_22, m_23, m_24, m_25, m_26, m_27, m_28, m_29, m_30, m_31, m_32, m_33, m_34, m_35, m_36, m_37, m_38, m_39, m_40, m_41, m_42, m_43, m_44, m_45, m_46, m_47, m_48, m_49, m_50, m_51, m_52, m_53, m_54, m_55, m_56, m_57, m_58, m_59]), (cc_l w0 (K 0) 5500 fw), (cc_l i0 (K 0) 11000 f_487), (cc_l k0 (K 1) 2 fk), (cc_l r0 (K 0) 7 frf)] H) (hD : va_D A [(cc_O m0 12 [.int 0, .int sta, .ref r0, .ref w0, .ref i0, .ref k0, m_6, m_7, m_8, m_9, m_10, m_11, m_12, m_13, m_14, m_15, m_16, m_17, m_18, m_19, m_20, m_21, m_22, m_23, m_24, m_25, m_26, m_27, m_28, m_29, m_30, m_31, m_32, m_33, m_34, m_35, m_36, m_37, m_38, m_39, m_40, m_41, m_42, m_43, m_44, m_45, m_46, m_47, m_48, m_49, m_50, m_51, m_52, m_53, m_54, m_55, m_56, m_57, m_58, m_59]), (cc_l w0 (K 0) 5500 fw), (cc_l i0 (K 0) 11000 f_487), (cc_l k0 (K 1) 2 fk), (cc_l r0 (K 0) 7 frf)]) (hS : va_S A s.heap H locs) (ls : Array Slot) (hl : lv_has ls 3 [(2, .int v_486), (0, .ref m0), (1, .int 1)]), W p l e ({ frames := 1, cells := 0, slots := 0, locals := 25 }) s m (([.ref m0, .int 1] : List Value).toArray) below meth c H locs 0 0 Q (F0 m 23 ls []) := by
        clear hE hP hD hS hl
        intro nn_
        induction nn_ with
        | zero =>
          intro v_486 f_487 hv_486 hr0_lp_502 hn hE H locs hP hD hS ls hl
          exact absurd hn (Nat.not_lt_zero _)
        | succ nn_ ih_503 =>
          intro v_486 f_487 hv_486 hr0_lp_502 hn hE H locs hP hD hS ls hl
          replace hE : E_v_image 1 thr sta fw fi fk frf = E_v_image_l23a sta fw fk frf (Lp (α := Int32 → (Nat → Int32) → (Int32 × Int32 × (Nat → Int32) × (Nat → Int32) × (Nat → Int32))) (E_v_image_l23a sta fw fk frf) (fun _ _ => ((0, 0, fun _ => 0, fun _ => 0, fun _ => 0) : Int32 × Int32 × (Nat → Int32) × (Nat → Int32) × (Nat → Int32))) nn_) v_486 f_487 := hE
          obtain ⟨rec_502, hrec_502⟩ : ∃ z9, z9 = Lp (α := Int32 → (Nat → Int32) → (Int32 × Int32 × (Nat → Int32) × (Nat → Int32) × (Nat → Int32))) (E_v_image_l23a sta fw fk frf) (fun _ _ => ((0, 0, fun _ => 0, fun _ => 0, fun _ => 0) : Int32 × Int32 × (Nat → Int32) × (Nat → Int32) × (Nat → Int32))) nn_ := ⟨_, rfl⟩
          rw [← hrec_502] at hE
          replace hE := hE.trans (E_v_image_l23a.eq_def _ _ _ _ _ _ _)
          refine lv_iload_n hx hb dX12_image_23 rfl (lv_at hl 0 rfl) (lv_sipush (v := 5500) hx hb dX12_image_24 (by decide +kernel) (lv_icmp_ge (tgt := 54) hx hb dX12_image_27 (by decide +kernel) (fun c_504 => ?_) (fun c_504 => ?_)))
          · have c_504i := i_le (x := 5500) (y := v_486.toInt) rfl rfl c_504
            replace hE := hE.trans (if_pos c_504)
            have him : ImOK f_487 := CpU.fin1 (by have q := hr0_lp_502; rwa [show (v_486.toInt).toNat = 5500 by omega] at q) zfw zfi
            refine lv_aload_n hx hb dX12_image_54 rfl (lv_at hl 1 rfl) (va_get (ci := 12) (v := .ref k0) (C := RX12) (T := TX12) (N := 60) hx hb hts hw12 hown hK hP 0 rfl rfl 5 (by decide +kernel) (hts _ mm_X12_image_835) (fun _ h9 => h9) rfl dX12_image_55 (lv_iload_n hx hb dX12_image_58 rfl (lv_at hl 2 rfl) (lv_iconst (v := 1) hx hb dX12_image_59 (by decide +kernel) (va_zast hx hb hK hP hD hS 3 1 rfl rfl (i_in (x := 1) rfl (by omega)) dX12_image_60 (fun H locs hP0 hD0 hS0 => ?_)))))
            replace hP := hP0
            replace hD := hD0
            replace hS := hS0
            clear hP0 hD0 hS0
            generalize hf_505 : (upd fk (1 : Int32).toNatClampNeg (vp_nar .boolean 1)) = f_505 at hP hD
            replace hE := hE.trans (Lt_in hf_505.symm)
            replace hP : va_P D vwCl [(cc_O m0 12 [.int 0, .int sta, .ref r0, .ref w0, .ref i0, .ref k0, m_6, m_7, m_8, m_9, m_10, m_11, m_12, m_13, m_14, m_15, m_16, m_17, m_18, m_19, m_20, m_21, m_22, m_23, m_24, m_25, m_26, m_27, m_28, m_29, m_30, m_31, m_32, m_33, m_34, m_35, m_36, m_37, m_38, m_39, m_40, m_41, m_42, m_43, m_44, m_45, m_46, m_47, m_48, m_49, m_50, m_51, m_52, m_53, m_54, m_55, m_56, m_57, m_58, m_59]), (cc_l w0 (K 0) 5500 fw), (cc_l i0 (K 0) 11000 f_487), (cc_l k0 (K 1) 2 f_505), (cc_l r0 (K 0) 7 frf)] H := hP
            replace hD := as_D hP hD rfl
            refine lv_aload_n hx hb dX12_image_61 rfl (lv_at hl 1 rfl) (lv_iconst (v := 0) hx hb dX12_image_62 (by decide +kernel) (kci (S := Su) (wr := [(cc_l w0 (K 0) 5500 fw), (cc_l i0 (K 0) 11000 f_487), (cc_l k0 (K 1) 2 f_505)]) (va_runV (As := [.int 0]) (rest := []) ⟨hx, hb, hml, hown, hts⟩ (v_tell l D K m0 0 (.int 0) sta r0 (.ref w0) (.ref i0) (.ref k0) m_6 m_7 m_8 m_9 m_10 m_11 m_12 m_13 m_14 m_15 m_16 m_17 m_18 m_19 m_20 m_21 m_22 m_23 m_24 m_25 m_26 m_27 m_28 m_29 m_30 m_31 m_32 m_33 m_34 m_35 m_36 m_37 m_38 m_39 m_40 m_41 m_42 m_43 m_44 m_45 m_46 m_47 m_48 m_49 m_50 m_51 m_52 m_53 m_54 m_55 m_56 m_57 m_58 m_59 frf H.size (by first | omega | decide)) (cwV 1 hts gX12_image_X12_tell rfl rfl rfl (by decide +kernel) ⟨Nat.le_of_ble_eq_true rfl, Nat.le_of_ble_eq_true rfl⟩) (mkV hK hN (hP.sub [0, 4] rfl) (hD.sub [0, 4] (by decide +kernel) rfl) (ci := 12) (q0 := 0) rfl rfl) rfl rfl hl.1 rfl (lv_room (Nat.le_of_ble_eq_true rfl)) dX12_image_63 ⟨Nat.le_of_ble_eq_true rfl, Nat.le_of_ble_eq_true rfl⟩) hP hD hS hA [0, 4] [1, 2, 3] rfl rfl (by decide +kernel) (by decide +kernel) (fun r_506 u_507 H locs hw hP0 hD0 hS0 => ?_)))
            replace hP : va_P D vwCl [(cc_l w0 (K 0) 5500 fw), (cc_l i0 (K 0) 11000 f_487), (cc_l k0 (K 1) 2 f_505), (cc_O m0 12 [.int 0, .int (u_507.2.2.2.1 0), .ref r0, .ref w0, .ref i0, .ref k0, m_6, m_7, m_8, m_9, m_10, m_11, m_12, m_13, m_14, m_15, m_16, m_17, m_18, m_19, m_20, m_21, m_22, m_23, m_24, m_25, m_26, m_27, m_28, m_29, m_30, m_31, m_32, m_33, m_34, m_35, m_36, m_37, m_38, m_39, m_40, m_41, m_42, m_43, m_44, m_45, m_46, m_47, m_48, m_49, m_50, m_51, m_52, m_53, m_54, m_55, m_56, m_57, m_58, m_59]), (cc_l r0 (K 0) 7 (u_507.2.1 0))] H := hP0
            replace hD := as_D hP hD0 rfl
            replace hS := hS0
            clear hP0 hD0 hS0
            obtain ⟨h_510, k_508, k_509, -⟩ := hw
            replace hE := (hE.trans (Lt2_in k_509)).trans (Lt2_in rfl)
            rw [← hQ]
            have hP9 := hP.sub (ws' := [(cc_O m0 12 [.int 0, .int (u_507.2.2.2.1 0), .ref r0, .ref w0, .ref i0, .ref k0, m_6, m_7, m_8, m_9, m_10, m_11, m_12, m_13, m_14, m_15, m_16, m_17, m_18, m_19, m_20, m_21, m_22, m_23, m_24, m_25, m_26, m_27, m_28, m_29, m_30, m_31, m_32, m_33, m_34, m_35, m_36, m_37, m_38, m_39, m_40, m_41, m_42, m_43, m_44, m_45, m_46, m_47, m_48, m_49, m_50, m_51, m_52, m_53, m_54, m_55, m_56, m_57, m_58, m_59]), (cc_l w0 (K 0) 5500 fw), (cc_l i0 (K 0) 11000 f_487), (cc_l k0 (K 1) 2 f_505), (cc_l r0 (K 0) 7 (u_507.2.1 0))]) [3, 0, 1, 2, 4] rfl
            have hD9 := sub_D hP9 hD [3, 0, 1, 2, 4] (by decide +kernel) rfl
            exact W.iret (v := r_506) hx hb hr (fun t ht hW => ⟨⟨r_506, ((fun _ => 0, fun i => match i with | 0 => f_487 | 1 => f_505 | _ => (u_507.2.1 0), fun _ => fun _ => 0, fun i => match i with | _ => (u_507.2.2.2.1 0), fun _ => 0, fun _ => fun _ => none) : Su), rfl, ⟨(show (-6) ≤ r_506.toInt by omega), (show (-6) ≤ ((u_507.2.2.2.1 0) : Int32).toInt ∧ ((u_507.2.2.2.1 0) : Int32).toInt ≤ 0 by omega), him, hE.symm, trivial⟩, (⟨by rw [ht]; exact hP9, hD9⟩ : Wd D A _ t)⟩, hS.F ht⟩) hS.2.2 dX12_image_66
          · have c_504i := i_nle (x := 5500) (y := v_486.toInt) rfl rfl c_504
            replace hE := hE.trans (if_neg c_504)
            refine lv_aload_n hx hb dX12_image_30 rfl (lv_at hl 1 rfl) (va_get (ci := 12) (v := .ref i0) (C := RX12) (T := TX12) (N := 60) hx hb hts hw12 hown hK hP 0 rfl rfl 4 (by decide +kernel) (hts _ mm_X12_image_834) (fun _ h9 => h9) rfl dX12_image_31 (lv_sipush (v := 5500) hx hb dX12_image_34 (by decide +kernel) (lv_iload_n hx hb dX12_image_37 rfl (lv_at hl 2 rfl) (lv_imul hx hb dX12_image_38 (lv_topi (fun x_511 ex_511 => ?_))))))
            obtain rfl : x_511 = 5500 := ex_511.trans (by first | rfl | decide)
            refine lv_iload_n hx hb dX12_image_39 rfl (lv_at hl 0 rfl) (lv_iadd hx hb dX12_image_40 (lv_topi (fun x_512 ex_512 => ?_)))
            replace hE := hE.trans (Lt_in ex_512)
            have hx_512 : x_512.toInt = (5500 + v_486.toInt) := by rw [ex_512]; exact i_add (show (5500 : Int32).toInt = 5500 from rfl) rfl (by omega)
            refine lv_aload_n hx hb dX12_image_41 rfl (lv_at hl 1 rfl) (va_get (ci := 12) (v := .ref w0) (C := RX12) (T := TX12) (N := 60) hx hb hts hw12 hown hK hP 0 rfl rfl 3 (by decide +kernel) (hts _ mm_X12_image_833) (fun _ h9 => h9) rfl dX12_image_42 (lv_iload_n hx hb dX12_image_45 rfl (lv_at hl 0 rfl) (va_iald hx hb hK hP 1 0 rfl rfl (i_in rfl (by omega)) dX12_image_46 (lv_topi (fun x_513 ex_513 => ?_)))))
            replace hE := hE.trans (Lt_in ex_513)
            refine va_iast hx hb hK hP hD hS 2 0 rfl rfl (i_in hx_512 (by omega)) dX12_image_47 (fun H locs hP0 hD0 hS0 => ?_)
            replace hP := hP0
            replace hD := hD0
            replace hS := hS0
            clear hP0 hD0 hS0
            generalize hf_514 : (upd f_487 (x_512 : Int32).toNatClampNeg x_513) = f_514 at hP hD
            replace hE := hE.trans (Lt_in hf_514.symm)
            replace hP : va_P D vwCl [(cc_O m0 12 [.int 0, .int sta, .ref r0, .ref w0, .ref i0, .ref k0, m_6, m_7, m_8, m_9, m_10, m_11, m_12, m_13, m_14, m_15, m_16, m_17, m_18, m_19, m_20, m_21, m_22, m_23, m_24, m_25, m_26, m_27, m_28, m_29, m_30, m_31, m_32, m_33, m_34, m_35, m_36, m_37, m_38, m_39, m_40, m_41, m_42, m_43, m_44, m_45, m_46, m_47, m_48, m_49, m_50, m_51, m_52, m_53, m_54, m_55, m_56, m_57, m_58, m_59]), (cc_l w0 (K 0) 5500 fw), (cc_l i0 (K 0) 11000 f_514), (cc_l k0 (K 1) 2 fk), (cc_l r0 (K 0) 7 frf)] H := hP
            replace hD := as_D hP hD rfl
            obtain ⟨x_515, ex_515⟩ : ∃ y : Int32, y = v_486 + Int32.ofInt 1 := ⟨_, rfl⟩
            replace hE := hE.trans (Lt_in ex_515)
            have hx_515 : x_515.toInt = (v_486.toInt + 1) := by rw [ex_515]; exact i_add rfl (show (Int32.ofInt 1).toInt = 1 from rfl) (by omega)
            refine lv_iinc (v := x_515) (lv' := [(2, .int x_515), (0, .ref m0), (1, .int 1)]) hx hb dX12_image_48 hl (k := 0) rfl (by rw [ex_515]) (by decide +kernel) rfl (fun ls hl => ?_)
            refine lv_goto (tgt := 23) hx hb dX12_image_51 (by decide +kernel) ?_
            exact ih_503 x_515 f_514 (by rw [hx_515]; omega) (show CpU fw fi f_514 5500 ((x_515 : Int32).toInt).toNat by rw [← hf_514, i_clamp (x := x_512) (z := (5500 + v_486.toInt)) hx_512, ex_513, i_clamp (x := v_486) (z := v_486.toInt) rfl, show ((5500 + v_486.toInt)).toNat = 5500 + (v_486.toInt).toNat by omega, show (x_515 : Int32).toInt.toNat = (v_486.toInt).toNat + 1 by omega]; exact CpU.step hr0_lp_502 (by omega)) (by omega) (hE.trans (by rw [hrec_502])) _ _ hP hD hS ls (lv_sub hl [0, 1, 2] rfl)
      have hz_516 : (0 : Int32).toInt = 0 := rfl
      exact lp_502 ((5501 - (0 : Int32).toInt : Int).toNat + 1) 0 fi (by decide +kernel) (show CpU fw fi fi 5500 ((0 : Int32).toInt).toNat by exact CpU.base) (Nat.lt_succ_self _) hE _ _ hP hD hS ls (lv_sub hl [0, 1, 2] rfl)
    · replace hE := (hE).trans (if_neg (by first | decide | (intro h9; have h8 := congrArg Int32.toInt h9; omega)))
      exfalso; omega
  · replace hE := (((hE).trans (if_neg (by omega))).trans (if_neg (by omega))).trans (if_neg (by omega))
    skip
    refine lv_aload_n hx hb dX12_image_0 rfl (lv_at hl 0 rfl) (lv_iconst (v := 0) hx hb dX12_image_1 (by decide +kernel) (va_put (ci := 12) (v := .int 0) (ty := .int) (C := RX12) (T := TX12) (N := 60) hx hb hts hw12 tyX12 tyX12_ok nmX12 hown hK hP hD hS 0 rfl rfl 0 (by decide +kernel) (hts _ mm_X12_image_830) (fun _ h9 => h9) rfl (by decide +kernel) (by first | rfl | decide) (by first | rfl | decide) (Nat.le_of_ble_eq_true rfl) dX12_image_2 (fun H locs hP0 hD0 hS0 => ?_)))
    replace hP : va_P D vwCl [(cc_O m0 12 [.int 0, .int sta, .ref r0, .ref w0, .ref i0, .ref k0, m_6, m_7, m_8, m_9, m_10, m_11, m_12, m_13, m_14, m_15, m_16, m_17, m_18, m_19, m_20, m_21, m_22, m_23, m_24, m_25, m_26, m_27, m_28, m_29, m_30, m_31, m_32, m_33, m_34, m_35, m_36, m_37, m_38, m_39, m_40, m_41, m_42, m_43, m_44, m_45, m_46, m_47, m_48, m_49, m_50, m_51, m_52, m_53, m_54, m_55, m_56, m_57, m_58, m_59]), (cc_l w0 (K 0) 5500 fw), (cc_l i0 (K 0) 11000 fi), (cc_l k0 (K 1) 2 fk), (cc_l r0 (K 0) 7 frf)] H := hP0
    replace hD := as_D hP hD0 rfl
    replace hS := hS0
    clear hP0 hD0 hS0
    refine lv_iload_n hx hb dX12_image_5 rfl (lv_at hl 1 rfl) (lv_i2l hx hb dX12_image_6 rfl (lv_topl (fun x_517 ex_517 => ?_)))
    replace hE := hE.trans (Lt_in ex_517)
    have hx_517 : x_517.toInt = x.toInt := by rw [ex_517]; exact i_wide rfl
    refine lv_lconst (v := 0) hx hb dX12_image_7 (by decide +kernel) (lv_lconst (v := 1) hx hb dX12_image_8 (by decide +kernel) (pci (va_runS (As := [.long x_517, .long 0, .long 1]) (rest := []) ⟨hx, hb, hml, hown, hts⟩ (v_in l D K x.toInt 0 1 x_517 0 1 H.size hx_517 (show (0 : Int64).toInt = 0 from rfl) (show (1 : Int64).toInt = 1 from rfl)) (va_cwS 3 hts gX12_image_X12_in rfl rfl rfl (by decide +kernel) ⟨Nat.le_of_ble_eq_true rfl, Nat.le_of_ble_eq_true rfl⟩) (mkS hK hN (va_P.nil) (va_D.nil (A := fun _ => True))) rfl rfl hl.1 rfl (lv_room (Nat.le_of_ble_eq_true rfl)) dX12_image_9 ⟨Nat.le_of_ble_eq_true rfl, Nat.le_of_ble_eq_true rfl⟩) (fun r_518 hw => ?_)))
    obtain ⟨hw, k_519, -⟩ := hw
    replace hE := hE.trans (Lt_in k_519)
    rcases hw with ⟨rfl, h_520, h_521⟩ | ⟨rfl, h_522⟩
    · replace hE := (hE).trans (if_pos rfl)
      exfalso; omega
    · replace hE := (hE).trans (if_neg (by first | decide | (intro h9; have h8 := congrArg Int32.toInt h9; omega)))
      refine lv_if_ne (tgt := 21) hx hb dX12_image_12 (by decide +kernel) (fun c_523 => absurd (by decide +kernel) c_523) (fun c_523 => ?_)
      refine lv_aload_n hx hb dX12_image_15 rfl (lv_at hl 0 rfl) (lv_iconst (v := (-1)) hx hb dX12_image_16 (by decide +kernel) (kci (S := Su) (wr := [(cc_l w0 (K 0) 5500 fw), (cc_l i0 (K 0) 11000 fi), (cc_l k0 (K 1) 2 fk)]) (va_runV (As := [.int (-1)]) (rest := []) ⟨hx, hb, hml, hown, hts⟩ (v_tell l D K m0 (-1) (.int 0) sta r0 (.ref w0) (.ref i0) (.ref k0) m_6 m_7 m_8 m_9 m_10 m_11 m_12 m_13 m_14 m_15 m_16 m_17 m_18 m_19 m_20 m_21 m_22 m_23 m_24 m_25 m_26 m_27 m_28 m_29 m_30 m_31 m_32 m_33 m_34 m_35 m_36 m_37 m_38 m_39 m_40 m_41 m_42 m_43 m_44 m_45 m_46 m_47 m_48 m_49 m_50 m_51 m_52 m_53 m_54 m_55 m_56 m_57 m_58 m_59 frf H.size (by first | omega | decide)) (cwV 1 hts gX12_image_X12_tell rfl rfl rfl (by decide +kernel) ⟨Nat.le_of_ble_eq_true rfl, Nat.le_of_ble_eq_true rfl⟩) (mkV hK hN (hP.sub [0, 4] rfl) (hD.sub [0, 4] (by decide +kernel) rfl) (ci := 12) (q0 := 0) rfl rfl) rfl rfl hl.1 rfl (lv_room (Nat.le_of_ble_eq_true rfl)) dX12_image_17 ⟨Nat.le_of_ble_eq_true rfl, Nat.le_of_ble_eq_true rfl⟩) hP hD hS hA [0, 4] [1, 2, 3] rfl rfl (by decide +kernel) (by decide +kernel) (fun r_524 u_525 H locs hw hP0 hD0 hS0 => ?_)))
      replace hP : va_P D vwCl [(cc_l w0 (K 0) 5500 fw), (cc_l i0 (K 0) 11000 fi), (cc_l k0 (K 1) 2 fk), (cc_O m0 12 [.int 0, .int (u_525.2.2.2.1 0), .ref r0, .ref w0, .ref i0, .ref k0, m_6, m_7, m_8, m_9, m_10, m_11, m_12, m_13, m_14, m_15, m_16, m_17, m_18, m_19, m_20, m_21, m_22, m_23, m_24, m_25, m_26, m_27, m_28, m_29, m_30, m_31, m_32, m_33, m_34, m_35, m_36, m_37, m_38, m_39, m_40, m_41, m_42, m_43, m_44, m_45, m_46, m_47, m_48, m_49, m_50, m_51, m_52, m_53, m_54, m_55, m_56, m_57, m_58, m_59]), (cc_l r0 (K 0) 7 (u_525.2.1 0))] H := hP0
      replace hD := as_D hP hD0 rfl
      replace hS := hS0
      clear hP0 hD0 hS0
      obtain ⟨h_528, k_526, k_527, -⟩ := hw
      replace hE := (hE.trans (Lt2_in k_527)).trans (Lt2_in rfl)
      rw [← hQ]
      have hP9 := hP.sub (ws' := [(cc_O m0 12 [.int 0, .int (u_525.2.2.2.1 0), .ref r0, .ref w0, .ref i0, .ref k0, m_6, m_7, m_8, m_9, m_10, m_11, m_12, m_13, m_14, m_15, m_16, m_17, m_18, m_19, m_20, m_21, m_22, m_23, m_24, m_25, m_26, m_27, m_28, m_29, m_30, m_31, m_32, m_33, m_34, m_35, m_36, m_37, m_38, m_39, m_40, m_41, m_42, m_43, m_44, m_45, m_46, m_47, m_48, m_49, m_50, m_51, m_52, m_53, m_54, m_55, m_56, m_57, m_58, m_59]), (cc_l w0 (K 0) 5500 fw), (cc_l i0 (K 0) 11000 fi), (cc_l k0 (K 1) 2 fk), (cc_l r0 (K 0) 7 (u_525.2.1 0))]) [3, 0, 1, 2, 4] rfl
      have hD9 := sub_D hP9 hD [3, 0, 1, 2, 4] (by decide +kernel) rfl
      exact W.iret (v := r_524) hx hb hr (fun t ht hW => ⟨⟨r_524, ((fun _ => 0, fun i => match i with | 0 => fi | 1 => fk | _ => (u_525.2.1 0), fun _ => fun _ => 0, fun i => match i with | _ => (u_525.2.2.2.1 0), fun _ => 0, fun _ => fun _ => none) : Su), rfl, ⟨(show (-6) ≤ r_524.toInt by omega), (show (-6) ≤ ((u_525.2.2.2.1 0) : Int32).toInt ∧ ((u_525.2.2.2.1 0) : Int32).toInt ≤ 0 by omega), zfi, hE.symm, trivial⟩, (⟨by rw [ht]; exact hP9, hD9⟩ : Wd D A _ t)⟩, hS.F ht⟩) hS.2.2 dX12_image_20
set_option maxRecDepth 100000 in
noncomputable def E_v_back_l39 (sta : Int32) (fi : Nat → Int32) (frf : Nat → Int32) (rec_462 : Int32 → (Nat → Int32) → (Int32 × Int32 × Int32 × (Nat → Int32) × (Nat → Int32))) (v_446 : Int32) (f_447 : Nat → Int32) : Int32 × Int32 × Int32 × (Nat → Int32) × (Nat → Int32) :=
  if 5500 ≤ v_446 then (Lt2 (E_v_tell 0 sta frf) (fun r_465 q0_r_465 => Lt2 q0_r_465 (fun u_466_2_2_2_1_0 u_466_2_1_0 => ((r_465, u_466_2_2_2_1_0, 0, f_447, u_466_2_1_0) : Int32 × Int32 × Int32 × (Nat → Int32) × (Nat → Int32))))) else (Lt (0 + v_446 : Int32) (fun x_471 => Lt (fi (x_471 : Int32).toNatClampNeg : Int32) (fun x_472 => Lt (upd f_447 (v_446 : Int32).toNatClampNeg x_472 : Nat → Int32) (fun f_473 => Lt (v_446 + Int32.ofInt 1 : Int32) (fun x_474 => rec_462 x_474 f_473)))))
set_option maxRecDepth 100000 in
noncomputable def E_v_back_l39a (sta : Int32) (fi : Nat → Int32) (frf : Nat → Int32) (rec_534 : Int32 → (Nat → Int32) → (Int32 × Int32 × Int32 × (Nat → Int32) × (Nat → Int32))) (v_518 : Int32) (f_519 : Nat → Int32) : Int32 × Int32 × Int32 × (Nat → Int32) × (Nat → Int32) :=
  if 5500 ≤ v_518 then (Lt2 (E_v_tell 0 sta frf) (fun r_537 q0_r_537 => Lt2 q0_r_537 (fun u_538_2_2_2_1_0 u_538_2_1_0 => ((r_537, u_538_2_2_2_1_0, 0, f_519, u_538_2_1_0) : Int32 × Int32 × Int32 × (Nat → Int32) × (Nat → Int32))))) else (Lt (5500 + v_518 : Int32) (fun x_543 => Lt (fi (x_543 : Int32).toNatClampNeg : Int32) (fun x_544 => Lt (upd f_519 (v_518 : Int32).toNatClampNeg x_544 : Nat → Int32) (fun f_545 => Lt (v_518 + Int32.ofInt 1 : Int32) (fun x_546 => rec_534 x_546 f_545)))))
set_option maxRecDepth 100000 in
noncomputable def E_v_back (x : Int32) (thr : Int32) (sta : Int32) (nu : Int32) (fw : Nat → Int32) (fi : Nat → Int32) (fk : Nat → Int32) (frf : Nat → Int32) : Int32 × Int32 × Int32 × (Nat → Int32) × (Nat → Int32) :=
  if x.toInt < 0 then (Lt ((x : Int32).toInt64 : Int64) (fun x_397 => Lt (E_v_in x_397 0 1) (fun r_398 => if r_398 = 1 then (((0, 0, 0, fun _ => 0, fun _ => 0) : Int32 × Int32 × Int32 × (Nat → Int32) × (Nat → Int32))) else (Lt2 (E_v_tell (-1) sta frf) (fun r_404 q0_r_404 => Lt2 q0_r_404 (fun u_405_2_2_2_1_0 u_405_2_1_0 => ((r_404, u_405_2_2_2_1_0, nu, fw, u_405_2_1_0) : Int32 × Int32 × Int32 × (Nat → Int32) × (Nat → Int32)))))))) else (if x.toInt = 0 then (Lt (E_v_in 0 0 1) (fun r_409 => if r_409 = 1 then (Lt (fk (0 : Int32).toNatClampNeg : Int32) (fun x_415 => if x_415 = 0 then (Lt2 (E_v_tell (-2) sta frf) (fun r_476 q0_r_476 => Lt2 q0_r_476 (fun u_477_2_2_2_1_0 u_477_2_1_0 => ((r_476, u_477_2_2_2_1_0, nu, fw, u_477_2_1_0) : Int32 × Int32 × Int32 × (Nat → Int32) × (Nat → Int32))))) else (Lp (α := Int32 → (Nat → Int32) → (Int32 × Int32 × Int32 × (Nat → Int32) × (Nat → Int32))) (E_v_back_l39 sta fi frf) (fun _ _ => ((0, 0, 0, fun _ => 0, fun _ => 0) : Int32 × Int32 × Int32 × (Nat → Int32) × (Nat → Int32))) ((5501 - (0 : Int32).toInt : Int).toNat + 1) 0 fw))) else (((0, 0, 0, fun _ => 0, fun _ => 0) : Int32 × Int32 × Int32 × (Nat → Int32) × (Nat → Int32))))) else (if x.toInt = 1 then (Lt (E_v_in 1 0 1) (fun r_481 => if r_481 = 1 then (Lt (fk (1 : Int32).toNatClampNeg : Int32) (fun x_487 => if x_487 = 0 then (Lt2 (E_v_tell (-2) sta frf) (fun r_548 q0_r_548 => Lt2 q0_r_548 (fun u_549_2_2_2_1_0 u_549_2_1_0 => ((r_548, u_549_2_2_2_1_0, nu, fw, u_549_2_1_0) : Int32 × Int32 × Int32 × (Nat → Int32) × (Nat → Int32))))) else (Lp (α := Int32 → (Nat → Int32) → (Int32 × Int32 × Int32 × (Nat → Int32) × (Nat → Int32))) (E_v_back_l39a sta fi frf) (fun _ _ => ((0, 0, 0, fun _ => 0, fun _ => 0) : Int32 × Int32 × Int32 × (Nat → Int32) × (Nat → Int32))) ((5501 - (0 : Int32).toInt : Int).toNat + 1) 0 fw))) else (((0, 0, 0, fun _ => 0, fun _ => 0) : Int32 × Int32 × Int32 × (Nat → Int32) × (Nat → Int32))))) else (Lt ((x : Int32).toInt64 : Int64) (fun x_553 => Lt (E_v_in x_553 0 1) (fun r_554 => if r_554 = 1 then (((0, 0, 0, fun _ => 0, fun _ => 0) : Int32 × Int32 × Int32 × (Nat → Int32) × (Nat → Int32))) else (Lt2 (E_v_tell (-1) sta frf) (fun r_560 q0_r_560 => Lt2 q0_r_560 (fun u_561_2_2_2_1_0 u_561_2_1_0 => ((r_560, u_561_2_2_2_1_0, nu, fw, u_561_2_1_0) : Int32 × Int32 × Int32 × (Nat → Int32) × (Nat → Int32))))))))))
set_option maxHeartbeats 4000000 in
set_option maxRecDepth 100000 in
theorem v_back (l : Launch) (D : va_G) (K : Nat → ClassId) (m0 : Nat) (x : Int32) (thr : Int32) (sta : Int32) (r0 : Nat) (w0 : Nat) (i0 : Nat) (k0 : Nat) (m_6 : Value) (m_7 : Value) (nu : Int32) (m_9 : Value) (m_10 : Value) (m_11 : Value) (m_12 : Value) (m_13 : Value) (m_14 : Value) (m_15 : Value) (m_16 : Value) (m_17 : Value) (m_18 : Value) (m_19 : Value) (m_20 : Value) (m_21 : Value) (m_22 : Value) (m_23 : Value) (m_24 : Value) (m_25 : Value) (m_26 : Value) (m_27 : Value) (m_28 : Value) (m_29 : Value) (m_30 : Value) (m_31 : Value) (m_32 : Value) (m_33 : Value) (m_34 : Value) (m_35 : Value) (m_36 : Value) (m_37 : Value) (m_38 : Value) (m_39 : Value) (m_40 : Value) (m_41 : Value) (m_42 : Value) (m_43 : Value) (m_44 : Value) (m_45 : Value) (m_46 : Value) (m_47 : Value) (m_48 : Value) (m_49 : Value) (m_50 : Value) (m_51 : Value) (m_52 : Value) (m_53 : Value) (m_54 : Value) (m_55 : Value) (m_56 : Value) (m_57 : Value) (m_58 : Value) (m_59 : Value) (fw : Nat → Int32) (fi : Nat → Int32) (fk : Nat → Int32) (frf : Nat → Int32) (sz : Nat) (zfw : RwOK fw) (zfi : ImOK fi) : Met l yX12_back wsX12_back ({ frames := 1, cells := 0, slots := 0, locals := 25 }) (va_Pc [.ref m0, .int x] (Pre D K [(cc_O m0 12 [.int thr, .int sta, .ref r0, .ref w0, .ref i0, .ref k0, m_6, m_7, .int nu, m_9, m_10, m_11, m_12, m_13, m_14, m_15, m_16, m_17, m_18, m_19, m_20, m_21, m_22, m_23, m_24, m_25, m_26, m_27, m_28, m_29, m_30, m_31, m_32, m_33, m_34, m_35, m_36, m_37, m_38, m_39, m_40, m_41, m_42, m_43, m_44, m_45, m_46, m_47, m_48, m_49, m_50, m_51, m_52, m_53, m_54, m_55, m_56, m_57, m_58, m_59]), (cc_l w0 (K 0) 5500 fw), (cc_l i0 (K 0) 11000 fi), (cc_l k0 (K 1) 2 fk), (cc_l r0 (K 0) 7 frf)] sz)) (va_Qi (S := Su) (fun (r : Int32) (u : Su) => ((-6) ≤ r.toInt) ∧ ((-6) ≤ (u.2.2.2.1 0).toInt ∧ (u.2.2.2.1 0).toInt ≤ 0) ∧ (RwOK (u.2.1 0)) ∧ ((r, (u.2.2.2.1 0), (u.2.2.2.1 1), (u.2.1 0), (u.2.1 1)) = E_v_back x thr sta nu fw fi fk frf) ∧ True) (fun u t => Wd D (va_A [(cc_O m0 12 [.int thr, .int sta, .ref r0, .ref w0, .ref i0, .ref k0, m_6, m_7, .int nu, m_9, m_10, m_11, m_12, m_13, m_14, m_15, m_16, m_17, m_18, m_19, m_20, m_21, m_22, m_23, m_24, m_25, m_26, m_27, m_28, m_29, m_30, m_31, m_32, m_33, m_34, m_35, m_36, m_37, m_38, m_39, m_40, m_41, m_42, m_43, m_44, m_45, m_46, m_47, m_48, m_49, m_50, m_51, m_52, m_53, m_54, m_55, m_56, m_57, m_58, m_59]), (cc_l w0 (K 0) 5500 fw), (cc_l i0 (K 0) 11000 fi), (cc_l k0 (K 1) 2 fk), (cc_l r0 (K 0) 7 frf)] sz) ((fun u => [(cc_O m0 12 [.int 0, .int (u.2.2.2.1 0), .ref r0, .ref w0, .ref i0, .ref k0, m_6, m_7, .int (u.2.2.2.1 1), m_9, m_10, m_11, m_12, m_13, m_14, m_15, m_16, m_17, m_18, m_19, m_20, m_21, m_22, m_23, m_24, m_25, m_26, m_27, m_28, m_29, m_30, m_31, m_32, m_33, m_34, m_35, m_36, m_37, m_38, m_39, m_40, m_41, m_42, m_43, m_44, m_45, m_46, m_47, m_48, m_49, m_50, m_51, m_52, m_53, m_54, m_55, m_56, m_57, m_58, m_59]), (cc_l w0 (K 0) 5500 (u.2.1 0)), (cc_l i0 (K 0) 11000 fi), (cc_l k0 (K 1) 2 fk), (cc_l r0 (K 0) 7 (u.2.1 1))]) u) t) (va_A [(cc_O m0 12 [.int thr, .int sta, .ref r0, .ref w0, .ref i0, .ref k0, m_6, m_7, .int nu, m_9, m_10, m_11, m_12, m_13, m_14, m_15, m_16, m_17, m_18, m_19, m_20, m_21, m_22, m_23, m_24, m_25, m_26, m_27, m_28, m_29, m_30, m_31, m_32, m_33, m_34, m_35, m_36, m_37, m_38, m_39, m_40, m_41, m_42, m_43, m_44, m_45, m_46, m_47, m_48, m_49, m_50, m_51, m_52, m_53, m_54, m_55, m_56, m_57, m_58, m_59]), (cc_l w0 (K 0) 5500 fw), (cc_l i0 (K 0) 11000 fi), (cc_l k0 (K 1) 2 fk), (cc_l r0 (K 0) 7 frf)] sz)) 0 0 (va_A [(cc_O m0 12 [.int thr, .int sta, .ref r0, .ref w0, .ref i0, .ref k0, m_6, m_7, .int nu, m_9, m_10, m_11, m_12, m_13, m_14, m_15, m_16, m_17, m_18, m_19, m_20, m_21, m_22, m_23, m_24, m_25, m_26, m_27, m_28, m_29, m_30, m_31, m_32, m_33, m_34, m_35, m_36, m_37, m_38, m_39, m_40, m_41, m_42, m_43, m_44, m_45, m_46, m_47, m_48, m_49, m_50, m_51, m_52, m_53, m_54, m_55, m_56, m_57, m_58, m_59]), (cc_l w0 (K 0) 5500 fw), (cc_l i0 (K 0) 11000 fi), (cc_l k0 (K 1) 2 fk), (cc_l r0 (K 0) 7 frf)] sz) := by
  refine Met.ofW (cc := cX12_back) (maxL := 3) (ret := (some .int)) (by decide +kernel) rfl ?_
  intro p e s m args below meth c s₁ B hml hv
  obtain ⟨rfl, hsz, hP, hK, hD0, hN⟩ := hv
  have hx := B.exec
  have hb := B.bytes
  have hr := B.returns
  have hts := atoms_spec (ws := wsX12_back) B.pre
  have hown : s.vm.findClass RX12 = some m.cls := findClass_of_methodNamed B.named
  have hlocks := B.notSynchronized
  subst hsz
  have hD := hD0.self (sz := s.heap.size)
  generalize hAe : va_A [(cc_O m0 12 [.int thr, .int sta, .ref r0, .ref w0, .ref i0, .ref k0, m_6, m_7, .int nu, m_9, m_10, m_11, m_12, m_13, m_14, m_15, m_16, m_17, m_18, m_19, m_20, m_21, m_22, m_23, m_24, m_25, m_26, m_27, m_28, m_29, m_30, m_31, m_32, m_33, m_34, m_35, m_36, m_37, m_38, m_39, m_40, m_41, m_42, m_43, m_44, m_45, m_46, m_47, m_48, m_49, m_50, m_51, m_52, m_53, m_54, m_55, m_56, m_57, m_58, m_59]), (cc_l w0 (K 0) 5500 fw), (cc_l i0 (K 0) 11000 fi), (cc_l k0 (K 1) 2 fk), (cc_l r0 (K 0) 7 frf)] s.heap.size = A at hD ⊢
  have hA : ∀ q : Nat, s.heap.size ≤ q → A q := fun q h => by rw [← hAe]; exact Or.inr h
  clear hAe
  have hS : va_S A s.heap s.heap [] := va_S.rf
  replace hP : va_P D vwCl [(cc_O m0 12 [.int thr, .int sta, .ref r0, .ref w0, .ref i0, .ref k0, m_6, m_7, .int nu, m_9, m_10, m_11, m_12, m_13, m_14, m_15, m_16, m_17, m_18, m_19, m_20, m_21, m_22, m_23, m_24, m_25, m_26, m_27, m_28, m_29, m_30, m_31, m_32, m_33, m_34, m_35, m_36, m_37, m_38, m_39, m_40, m_41, m_42, m_43, m_44, m_45, m_46, m_47, m_48, m_49, m_50, m_51, m_52, m_53, m_54, m_55, m_56, m_57, m_58, m_59]), (cc_l w0 (K 0) 5500 fw), (cc_l i0 (K 0) 11000 fi), (cc_l k0 (K 1) 2 fk), (cc_l r0 (K 0) 7 frf)] s.heap := hP
  have hl := lv_entry [.ref m0, .int x] (n := 3) (Nat.le_of_ble_eq_true rfl)
  rw [lg_entry_eq]
  generalize (lg_sl [.ref m0, .int x] ++ List.replicate (3 - (lg_sl [.ref m0, .int x]).length) Slot.unset).toArray = ls at hl ⊢
  have hl : lv_has ls 3 [(0, .ref m0), (1, .int x)] := hl
  have hw12 : ∀ w ∈ wsX120, w ∈ wsX12_back := fun w h => (List.mem_cons_of_mem _ (List.mem_append_right _ h))
  generalize hQ : MQ below _ _ s _ _ _ = Q
  have hE := E_v_back.eq_def x thr sta nu fw fi fk frf
  rcases (show x.toInt < 0 ∨ x.toInt = 0 ∨ x.toInt = 1 ∨ 1 < x.toInt by omega) with hx0 | hx0 | hx0 | hx0
  · replace hE := (hE).trans (if_pos hx0)
    skip
    refine lv_aload_n hx hb dX12_back_0 rfl (lv_at hl 0 rfl) (lv_iconst (v := 0) hx hb dX12_back_1 (by decide +kernel) (va_put (ci := 12) (v := .int 0) (ty := .int) (C := RX12) (T := TX12) (N := 60) hx hb hts hw12 tyX12 tyX12_ok nmX12 hown hK hP hD hS 0 rfl rfl 0 (by decide +kernel) (hts _ mm_X12_back_830) (fun _ h9 => h9) rfl (by decide +kernel) (by first | rfl | decide) (by first | rfl | decide) (Nat.le_of_ble_eq_true rfl) dX12_back_2 (fun H locs hP0 hD0 hS0 => ?_)))
    replace hP : va_P D vwCl [(cc_O m0 12 [.int 0, .int sta, .ref r0, .ref w0, .ref i0, .ref k0, m_6, m_7, .int nu, m_9, m_10, m_11, m_12, m_13, m_14, m_15, m_16, m_17, m_18, m_19, m_20, m_21, m_22, m_23, m_24, m_25, m_26, m_27, m_28, m_29, m_30, m_31, m_32, m_33, m_34, m_35, m_36, m_37, m_38, m_39, m_40, m_41, m_42, m_43, m_44, m_45, m_46, m_47, m_48, m_49, m_50, m_51, m_52, m_53, m_54, m_55, m_56, m_57, m_58, m_59]), (cc_l w0 (K 0) 5500 fw), (cc_l i0 (K 0) 11000 fi), (cc_l k0 (K 1) 2 fk), (cc_l r0 (K 0) 7 frf)] H := hP0
    replace hD := as_D hP hD0 rfl
    replace hS := hS0
    clear hP0 hD0 hS0
    refine lv_iload_n hx hb dX12_back_5 rfl (lv_at hl 1 rfl) (lv_i2l hx hb dX12_back_6 rfl (lv_topl (fun x_397 ex_397 => ?_)))
    replace hE := hE.trans (Lt_in ex_397)
    have hx_397 : x_397.toInt = x.toInt := by rw [ex_397]; exact i_wide rfl
    refine lv_lconst (v := 0) hx hb dX12_back_7 (by decide +kernel) (lv_lconst (v := 1) hx hb dX12_back_8 (by decide +kernel) (pci (va_runS (As := [.long x_397, .long 0, .long 1]) (rest := []) ⟨hx, hb, hml, hown, hts⟩ (v_in l D K x.toInt 0 1 x_397 0 1 H.size hx_397 (show (0 : Int64).toInt = 0 from rfl) (show (1 : Int64).toInt = 1 from rfl)) (va_cwS 3 hts gX12_back_X12_in rfl rfl rfl (by decide +kernel) ⟨Nat.le_of_ble_eq_true rfl, Nat.le_of_ble_eq_true rfl⟩) (mkS hK hN (va_P.nil) (va_D.nil (A := fun _ => True))) rfl rfl hl.1 rfl (lv_room (Nat.le_of_ble_eq_true rfl)) dX12_back_9 ⟨Nat.le_of_ble_eq_true rfl, Nat.le_of_ble_eq_true rfl⟩) (fun r_398 hw => ?_)))
    obtain ⟨hw, k_399, -⟩ := hw
    replace hE := hE.trans (Lt_in k_399)
    rcases hw with ⟨rfl, h_400, h_401⟩ | ⟨rfl, h_402⟩
    · replace hE := (hE).trans (if_pos rfl)
      exfalso; omega
    · replace hE := (hE).trans (if_neg (by first | decide | (intro h9; have h8 := congrArg Int32.toInt h9; omega)))
      refine lv_if_ne (tgt := 21) hx hb dX12_back_12 (by decide +kernel) (fun c_403 => absurd (by decide +kernel) c_403) (fun c_403 => ?_)
      refine lv_aload_n hx hb dX12_back_15 rfl (lv_at hl 0 rfl) (lv_iconst (v := (-1)) hx hb dX12_back_16 (by decide +kernel) (kci (S := Su) (wr := [(cc_l w0 (K 0) 5500 fw), (cc_l i0 (K 0) 11000 fi), (cc_l k0 (K 1) 2 fk)]) (va_runV (As := [.int (-1)]) (rest := []) ⟨hx, hb, hml, hown, hts⟩ (v_tell l D K m0 (-1) (.int 0) sta r0 (.ref w0) (.ref i0) (.ref k0) m_6 m_7 (.int nu) m_9 m_10 m_11 m_12 m_13 m_14 m_15 m_16 m_17 m_18 m_19 m_20 m_21 m_22 m_23 m_24 m_25 m_26 m_27 m_28 m_29 m_30 m_31 m_32 m_33 m_34 m_35 m_36 m_37 m_38 m_39 m_40 m_41 m_42 m_43 m_44 m_45 m_46 m_47 m_48 m_49 m_50 m_51 m_52 m_53 m_54 m_55 m_56 m_57 m_58 m_59 frf H.size (by first | omega | decide)) (cwV 1 hts gX12_back_X12_tell rfl rfl rfl (by decide +kernel) ⟨Nat.le_of_ble_eq_true rfl, Nat.le_of_ble_eq_true rfl⟩) (mkV hK hN (hP.sub [0, 4] rfl) (hD.sub [0, 4] (by decide +kernel) rfl) (ci := 12) (q0 := 0) rfl rfl) rfl rfl hl.1 rfl (lv_room (Nat.le_of_ble_eq_true rfl)) dX12_back_17 ⟨Nat.le_of_ble_eq_true rfl, Nat.le_of_ble_eq_true rfl⟩) hP hD hS hA [0, 4] [1, 2, 3] rfl rfl (by decide +kernel) (by decide +kernel) (fun r_404 u_405 H locs hw hP0 hD0 hS0 => ?_)))
      replace hP : va_P D vwCl [(cc_l w0 (K 0) 5500 fw), (cc_l i0 (K 0) 11000 fi), (cc_l k0 (K 1) 2 fk), (cc_O m0 12 [.int 0, .int (u_405.2.2.2.1 0), .ref r0, .ref w0, .ref i0, .ref k0, m_6, m_7, .int nu, m_9, m_10, m_11, m_12, m_13, m_14, m_15, m_16, m_17, m_18, m_19, m_20, m_21, m_22, m_23, m_24, m_25, m_26, m_27, m_28, m_29, m_30, m_31, m_32, m_33, m_34, m_35, m_36, m_37, m_38, m_39, m_40, m_41, m_42, m_43, m_44, m_45, m_46, m_47, m_48, m_49, m_50, m_51, m_52, m_53, m_54, m_55, m_56, m_57, m_58, m_59]), (cc_l r0 (K 0) 7 (u_405.2.1 0))] H := hP0
      replace hD := as_D hP hD0 rfl
      replace hS := hS0
      clear hP0 hD0 hS0
      obtain ⟨h_408, k_406, k_407, -⟩ := hw
      replace hE := (hE.trans (Lt2_in k_407)).trans (Lt2_in rfl)
      rw [← hQ]
      have hP9 := hP.sub (ws' := [(cc_O m0 12 [.int 0, .int (u_405.2.2.2.1 0), .ref r0, .ref w0, .ref i0, .ref k0, m_6, m_7, .int nu, m_9, m_10, m_11, m_12, m_13, m_14, m_15, m_16, m_17, m_18, m_19, m_20, m_21, m_22, m_23, m_24, m_25, m_26, m_27, m_28, m_29, m_30, m_31, m_32, m_33, m_34, m_35, m_36, m_37, m_38, m_39, m_40, m_41, m_42, m_43, m_44, m_45, m_46, m_47, m_48, m_49, m_50, m_51, m_52, m_53, m_54, m_55, m_56, m_57, m_58, m_59]), (cc_l w0 (K 0) 5500 fw), (cc_l i0 (K 0) 11000 fi), (cc_l k0 (K 1) 2 fk), (cc_l r0 (K 0) 7 (u_405.2.1 0))]) [3, 0, 1, 2, 4] rfl
      have hD9 := sub_D hP9 hD [3, 0, 1, 2, 4] (by decide +kernel) rfl
      exact W.iret (v := r_404) hx hb hr (fun t ht hW => ⟨⟨r_404, ((fun _ => 0, fun i => match i with | 0 => fw | _ => (u_405.2.1 0), fun _ => fun _ => 0, fun i => match i with | 0 => (u_405.2.2.2.1 0) | _ => nu, fun _ => 0, fun _ => fun _ => none) : Su), rfl, ⟨(show (-6) ≤ r_404.toInt by omega), (show (-6) ≤ ((u_405.2.2.2.1 0) : Int32).toInt ∧ ((u_405.2.2.2.1 0) : Int32).toInt ≤ 0 by omega), zfw, hE.symm, trivial⟩, (⟨by rw [ht]; exact hP9, hD9⟩ : Wd D A _ t)⟩, hS.F ht⟩) hS.2.2 dX12_back_20
  · replace hE := ((hE).trans (if_neg (by omega))).trans (if_pos hx0)
    obtain rfl : x = 0 := i_lit (b := 0) hx0 rfl
    have hl : lv_has ls 3 [(0, .ref m0), (1, .int 0)] := hl
    refine lv_aload_n hx hb dX12_back_0 rfl (lv_at hl 0 rfl) (lv_iconst (v := 0) hx hb dX12_back_1 (by decide +kernel) (va_put (ci := 12) (v := .int 0) (ty := .int) (C := RX12) (T := TX12) (N := 60) hx hb hts hw12 tyX12 tyX12_ok nmX12 hown hK hP hD hS 0 rfl rfl 0 (by decide +kernel) (hts _ mm_X12_back_830) (fun _ h9 => h9) rfl (by decide +kernel) (by first | rfl | decide) (by first | rfl | decide) (Nat.le_of_ble_eq_true rfl) dX12_back_2 (fun H locs hP0 hD0 hS0 => ?_)))
    replace hP : va_P D vwCl [(cc_O m0 12 [.int 0, .int sta, .ref r0, .ref w0, .ref i0, .ref k0, m_6, m_7, .int nu, m_9, m_10, m_11, m_12, m_13, m_14, m_15, m_16, m_17, m_18, m_19, m_20, m_21, m_22, m_23, m_24, m_25, m_26, m_27, m_28, m_29, m_30, m_31, m_32, m_33, m_34, m_35, m_36, m_37, m_38, m_39, m_40, m_41, m_42, m_43, m_44, m_45, m_46, m_47, m_48, m_49, m_50, m_51, m_52, m_53, m_54, m_55, m_56, m_57, m_58, m_59]), (cc_l w0 (K 0) 5500 fw), (cc_l i0 (K 0) 11000 fi), (cc_l k0 (K 1) 2 fk), (cc_l r0 (K 0) 7 frf)] H := hP0
    replace hD := as_D hP hD0 rfl
    replace hS := hS0
    clear hP0 hD0 hS0
    refine lv_iload_n hx hb dX12_back_5 rfl (lv_at hl 1 rfl) (lv_i2l (v := 0) hx hb dX12_back_6 (by decide +kernel) (lv_lconst (v := 0) hx hb dX12_back_7 (by decide +kernel) (lv_lconst (v := 1) hx hb dX12_back_8 (by decide +kernel) (pci (va_runS (As := [.long 0, .long 0, .long 1]) (rest := []) ⟨hx, hb, hml, hown, hts⟩ (v_in l D K 0 0 1 0 0 1 H.size (show (0 : Int64).toInt = 0 from rfl) (show (0 : Int64).toInt = 0 from rfl) (show (1 : Int64).toInt = 1 from rfl)) (va_cwS 3 hts gX12_back_X12_in rfl rfl rfl (by decide +kernel) ⟨Nat.le_of_ble_eq_true rfl, Nat.le_of_ble_eq_true rfl⟩) (mkS hK hN (va_P.nil) (va_D.nil (A := fun _ => True))) rfl rfl hl.1 rfl (lv_room (Nat.le_of_ble_eq_true rfl)) dX12_back_9 ⟨Nat.le_of_ble_eq_true rfl, Nat.le_of_ble_eq_true rfl⟩) (fun r_409 hw => ?_)))))
    obtain ⟨hw, k_410, -⟩ := hw
    replace hE := hE.trans (Lt_in k_410)
    rcases hw with ⟨rfl, h_411, h_412⟩ | ⟨rfl, h_413⟩
    · replace hE := (hE).trans (if_pos rfl)
      refine lv_if_ne (tgt := 21) hx hb dX12_back_12 (by decide +kernel) (fun c_414 => ?_) (fun c_414 => absurd c_414 (by decide +kernel))
      refine lv_aload_n hx hb dX12_back_21 rfl (lv_at hl 0 rfl) (va_get (ci := 12) (v := .ref k0) (C := RX12) (T := TX12) (N := 60) hx hb hts hw12 hown hK hP 0 rfl rfl 5 (by decide +kernel) (hts _ mm_X12_back_835) (fun _ h9 => h9) rfl dX12_back_22 (lv_iload_n hx hb dX12_back_25 rfl (lv_at hl 1 rfl) (va_zald hx hb hK hP 3 1 rfl rfl (i_in (x := 0) rfl (by omega)) dX12_back_26 (lv_topi (fun x_415 ex_415 => ?_)))))
      replace hE := hE.trans (Lt_in ex_415)
      refine lv_if_ne (tgt := 37) hx hb dX12_back_27 (by decide +kernel) (fun c_416 => ?_) (fun c_416 => ?_)
      · have c_416i := i_ne (x := x_415.toInt) (y := 0) rfl rfl c_416
        replace hE := hE.trans (if_neg c_416)
        refine lv_iconst (v := 0) hx hb dX12_back_37 (by decide +kernel) (lv_istore_n (lv' := [(2, .int 0), (0, .ref m0), (1, .int 0)]) hx hb dX12_back_38 rfl hl (by decide +kernel) rfl (fun ls hl => ?_))
        have lp_462 : ∀ (nn_ : Nat) (v_446 : Int32) (f_447 : Nat → Int32) (hv_446 : 0 ≤ v_446.toInt ∧ v_446.toInt ≤ 5500) (hr0_lp_462 : CpV fi f_447 0 (v_446.toInt).toNat) (hn : (5501 - v_446.toInt : Int).toNat < nn_) (hE : E_v_back 0 thr sta nu fw fi fk frf = Lp (α := Int32 → (Nat → Int32) → (Int32 × Int32 × Int32 × (Nat → Int32) × (Nat → Int32))) (E_v_back_l39 sta fi frf) (fun _ _ => ((0, 0, 0, fun _ => 0, fun _ => 0) : Int32 × Int32 × Int32 × (Nat → Int32) × (Nat → Int32))) nn_ v_446 f_447) (H : Heap) (locs : List Loc) (hP : va_P D vwCl [(cc_O m0 12 [.int 0, .int sta, .ref r0, .ref w0, .ref i0, .ref k0, m_6, m_7, .int nu, m_9, m_10, m_11, m_12, m_13, m_14, m_15, m_16, m_17, m_18, m_19, m_20, m_21, m_22, m_23, m_24, m_25, m_26, m_27, m_28, m_29, m_30, m_31, m_32, m_33, m_34, m_35, m_36, m_37, m_38, m_39, m_40, m_41, m_42, m_43, m_44, m_45, m_46, m_47, m_48, m_49, m_50, m_51, m_52, m_53, m_54, m_55, m_56, m_57, m_58, m_59]), (cc_l w0 (K 0) 5500 f_447), (cc_l i0 (K 0) 11000 fi), (cc_l k0 (K 1) 2 fk), (cc_l r0 (K 0) 7 frf)] H) (hD : va_D A [(cc_O m0 12 [.int 0, .int sta, .ref r0, .ref w0, .ref i0, .ref k0, m_6, m_7, .int nu, m_9, m_10, m_11, m_12, m_13, m_14, m_15, m_16, m_17, m_18, m_19, m_20, m_21, m_22, m_23, m_24, m_25, m_26, m_27, m_28, m_29, m_30, m_31, m_32, m_33, m_34, m_35, m_36, m_37, m_38, m_39, m_40, m_41, m_42, m_43, m_44, m_45, m_46, m_47, m_48, m_49, m_50, m_51, m_52, m_53, m_54, m_55, m_56, m_57, m_58, m_59]), (cc_l w0 (K 0) 5500 f_447), (cc_l i0 (K 0) 11000 fi), (cc_l k0 (K 1) 2 fk), (cc_l r0 (K 0) 7 frf)]) (hS : va_S A s.heap H locs) (ls : Array Slot) (hl : lv_has ls 3 [(2, .int v_446), (0, .ref m0), (1, .int 0)]), W p l e ({ frames := 1, cells := 0, slots := 0, locals := 25 }) s m (([.ref m0, .int 0] : List Value).toArray) below meth c H locs 0 0 Q (F0 m 39 ls []) := by
          clear hE hP hD hS hl
          intro nn_
          induction nn_ with
          | zero =>
            intro v_446 f_447 hv_446 hr0_lp_462 hn hE H locs hP hD hS ls hl
            exact absurd hn (Nat.not_lt_zero _)
          | succ nn_ ih_463 =>
            intro v_446 f_447 hv_446 hr0_lp_462 hn hE H locs hP hD hS ls hl
            replace hE : E_v_back 0 thr sta nu fw fi fk frf = E_v_back_l39 sta fi frf (Lp (α := Int32 → (Nat → Int32) → (Int32 × Int32 × Int32 × (Nat → Int32) × (Nat → Int32))) (E_v_back_l39 sta fi frf) (fun _ _ => ((0, 0, 0, fun _ => 0, fun _ => 0) : Int32 × Int32 × Int32 × (Nat → Int32) × (Nat → Int32))) nn_) v_446 f_447 := hE
            obtain ⟨rec_462, hrec_462⟩ : ∃ z9, z9 = Lp (α := Int32 → (Nat → Int32) → (Int32 × Int32 × Int32 × (Nat → Int32) × (Nat → Int32))) (E_v_back_l39 sta fi frf) (fun _ _ => ((0, 0, 0, fun _ => 0, fun _ => 0) : Int32 × Int32 × Int32 × (Nat → Int32) × (Nat → Int32))) nn_ := ⟨_, rfl⟩
            rw [← hrec_462] at hE
            replace hE := hE.trans (E_v_back_l39.eq_def _ _ _ _ _ _)
            refine lv_iload_n hx hb dX12_back_39 rfl (lv_at hl 0 rfl) (lv_sipush (v := 5500) hx hb dX12_back_40 (by decide +kernel) (lv_icmp_ge (tgt := 70) hx hb dX12_back_43 (by decide +kernel) (fun c_464 => ?_) (fun c_464 => ?_)))
            · have c_464i := i_le (x := 5500) (y := v_446.toInt) rfl rfl c_464
              replace hE := hE.trans (if_pos c_464)
              have hro : RwOK f_447 := CpV.fin0 (by have q := hr0_lp_462; rwa [show (v_446.toInt).toNat = 5500 by omega] at q) zfi
              refine lv_aload_n hx hb dX12_back_70 rfl (lv_at hl 1 rfl) (lv_iconst (v := 0) hx hb dX12_back_71 (by decide +kernel) (va_put (ci := 12) (v := .int 0) (ty := .int) (C := RX12) (T := TX12) (N := 60) hx hb hts hw12 tyX12 tyX12_ok nmX12 hown hK hP hD hS 0 rfl rfl 8 (by decide +kernel) (hts _ mm_X12_back_838) (fun _ h9 => h9) rfl (by decide +kernel) (by first | rfl | decide) (by first | rfl | decide) (Nat.le_of_ble_eq_true rfl) dX12_back_72 (fun H locs hP0 hD0 hS0 => ?_)))
              replace hP : va_P D vwCl [(cc_O m0 12 [.int 0, .int sta, .ref r0, .ref w0, .ref i0, .ref k0, m_6, m_7, .int 0, m_9, m_10, m_11, m_12, m_13, m_14, m_15, m_16, m_17, m_18, m_19, m_20, m_21, m_22, m_23, m_24, m_25, m_26, m_27, m_28, m_29, m_30, m_31, m_32, m_33, m_34, m_35, m_36, m_37, m_38, m_39, m_40, m_41, m_42, m_43, m_44, m_45, m_46, m_47, m_48, m_49, m_50, m_51, m_52, m_53, m_54, m_55, m_56, m_57, m_58, m_59]), (cc_l w0 (K 0) 5500 f_447), (cc_l i0 (K 0) 11000 fi), (cc_l k0 (K 1) 2 fk), (cc_l r0 (K 0) 7 frf)] H := hP0
              replace hD := as_D hP hD0 rfl
              replace hS := hS0
              clear hP0 hD0 hS0
              refine lv_aload_n hx hb dX12_back_75 rfl (lv_at hl 1 rfl) (lv_iconst (v := 0) hx hb dX12_back_76 (by decide +kernel) (kci (S := Su) (wr := [(cc_l w0 (K 0) 5500 f_447), (cc_l i0 (K 0) 11000 fi), (cc_l k0 (K 1) 2 fk)]) (va_runV (As := [.int 0]) (rest := []) ⟨hx, hb, hml, hown, hts⟩ (v_tell l D K m0 0 (.int 0) sta r0 (.ref w0) (.ref i0) (.ref k0) m_6 m_7 (.int 0) m_9 m_10 m_11 m_12 m_13 m_14 m_15 m_16 m_17 m_18 m_19 m_20 m_21 m_22 m_23 m_24 m_25 m_26 m_27 m_28 m_29 m_30 m_31 m_32 m_33 m_34 m_35 m_36 m_37 m_38 m_39 m_40 m_41 m_42 m_43 m_44 m_45 m_46 m_47 m_48 m_49 m_50 m_51 m_52 m_53 m_54 m_55 m_56 m_57 m_58 m_59 frf H.size (by first | omega | decide)) (cwV 1 hts gX12_back_X12_tell rfl rfl rfl (by decide +kernel) ⟨Nat.le_of_ble_eq_true rfl, Nat.le_of_ble_eq_true rfl⟩) (mkV hK hN (hP.sub [0, 4] rfl) (hD.sub [0, 4] (by decide +kernel) rfl) (ci := 12) (q0 := 0) rfl rfl) rfl rfl hl.1 rfl (lv_room (Nat.le_of_ble_eq_true rfl)) dX12_back_77 ⟨Nat.le_of_ble_eq_true rfl, Nat.le_of_ble_eq_true rfl⟩) hP hD hS hA [0, 4] [1, 2, 3] rfl rfl (by decide +kernel) (by decide +kernel) (fun r_465 u_466 H locs hw hP0 hD0 hS0 => ?_)))
              replace hP : va_P D vwCl [(cc_l w0 (K 0) 5500 f_447), (cc_l i0 (K 0) 11000 fi), (cc_l k0 (K 1) 2 fk), (cc_O m0 12 [.int 0, .int (u_466.2.2.2.1 0), .ref r0, .ref w0, .ref i0, .ref k0, m_6, m_7, .int 0, m_9, m_10, m_11, m_12, m_13, m_14, m_15, m_16, m_17, m_18, m_19, m_20, m_21, m_22, m_23, m_24, m_25, m_26, m_27, m_28, m_29, m_30, m_31, m_32, m_33, m_34, m_35, m_36, m_37, m_38, m_39, m_40, m_41, m_42, m_43, m_44, m_45, m_46, m_47, m_48, m_49, m_50, m_51, m_52, m_53, m_54, m_55, m_56, m_57, m_58, m_59]), (cc_l r0 (K 0) 7 (u_466.2.1 0))] H := hP0
              replace hD := as_D hP hD0 rfl
              replace hS := hS0
              clear hP0 hD0 hS0
              obtain ⟨h_469, k_467, k_468, -⟩ := hw
              replace hE := (hE.trans (Lt2_in k_468)).trans (Lt2_in rfl)
              rw [← hQ]
              have hP9 := hP.sub (ws' := [(cc_O m0 12 [.int 0, .int (u_466.2.2.2.1 0), .ref r0, .ref w0, .ref i0, .ref k0, m_6, m_7, .int 0, m_9, m_10, m_11, m_12, m_13, m_14, m_15, m_16, m_17, m_18, m_19, m_20, m_21, m_22, m_23, m_24, m_25, m_26, m_27, m_28, m_29, m_30, m_31, m_32, m_33, m_34, m_35, m_36, m_37, m_38, m_39, m_40, m_41, m_42, m_43, m_44, m_45, m_46, m_47, m_48, m_49, m_50, m_51, m_52, m_53, m_54, m_55, m_56, m_57, m_58, m_59]), (cc_l w0 (K 0) 5500 f_447), (cc_l i0 (K 0) 11000 fi), (cc_l k0 (K 1) 2 fk), (cc_l r0 (K 0) 7 (u_466.2.1 0))]) [3, 0, 1, 2, 4] rfl
              have hD9 := sub_D hP9 hD [3, 0, 1, 2, 4] (by decide +kernel) rfl
              exact W.iret (v := r_465) hx hb hr (fun t ht hW => ⟨⟨r_465, ((fun _ => 0, fun i => match i with | 0 => f_447 | _ => (u_466.2.1 0), fun _ => fun _ => 0, fun i => match i with | 0 => (u_466.2.2.2.1 0) | _ => 0, fun _ => 0, fun _ => fun _ => none) : Su), rfl, ⟨(show (-6) ≤ r_465.toInt by omega), (show (-6) ≤ ((u_466.2.2.2.1 0) : Int32).toInt ∧ ((u_466.2.2.2.1 0) : Int32).toInt ≤ 0 by omega), hro, hE.symm, trivial⟩, (⟨by rw [ht]; exact hP9, hD9⟩ : Wd D A _ t)⟩, hS.F ht⟩) hS.2.2 dX12_back_80
            · have c_464i := i_nle (x := 5500) (y := v_446.toInt) rfl rfl c_464
              replace hE := hE.trans (if_neg c_464)
              refine lv_aload_n hx hb dX12_back_46 rfl (lv_at hl 1 rfl) (va_get (ci := 12) (v := .ref w0) (C := RX12) (T := TX12) (N := 60) hx hb hts hw12 hown hK hP 0 rfl rfl 3 (by decide +kernel) (hts _ mm_X12_back_833) (fun _ h9 => h9) rfl dX12_back_47 (lv_iload_n hx hb dX12_back_50 rfl (lv_at hl 0 rfl) (lv_aload_n hx hb dX12_back_51 rfl (lv_at hl 1 rfl) (va_get (ci := 12) (v := .ref i0) (C := RX12) (T := TX12) (N := 60) hx hb hts hw12 hown hK hP 0 rfl rfl 4 (by decide +kernel) (hts _ mm_X12_back_834) (fun _ h9 => h9) rfl dX12_back_52 (lv_sipush (v := 5500) hx hb dX12_back_55 (by decide +kernel) (lv_iload_n hx hb dX12_back_58 rfl (lv_at hl 2 rfl) (lv_imul hx hb dX12_back_59 (lv_topi (fun x_470 ex_470 => ?_)))))))))
              obtain rfl : x_470 = 0 := ex_470.trans (by first | rfl | decide)
              refine lv_iload_n hx hb dX12_back_60 rfl (lv_at hl 0 rfl) (lv_iadd hx hb dX12_back_61 (lv_topi (fun x_471 ex_471 => ?_)))
              replace hE := hE.trans (Lt_in ex_471)
              have hx_471 : x_471.toInt = (0 + v_446.toInt) := by rw [ex_471]; exact i_add (show (0 : Int32).toInt = 0 from rfl) rfl (by omega)
              refine va_iald hx hb hK hP 2 0 rfl rfl (i_in hx_471 (by omega)) dX12_back_62 (lv_topi (fun x_472 ex_472 => ?_))
              replace hE := hE.trans (Lt_in ex_472)
              refine va_iast hx hb hK hP hD hS 1 0 rfl rfl (i_in rfl (by omega)) dX12_back_63 (fun H locs hP0 hD0 hS0 => ?_)
              replace hP := hP0
              replace hD := hD0
              replace hS := hS0
              clear hP0 hD0 hS0
              generalize hf_473 : (upd f_447 (v_446 : Int32).toNatClampNeg x_472) = f_473 at hP hD
              replace hE := hE.trans (Lt_in hf_473.symm)
              replace hP : va_P D vwCl [(cc_O m0 12 [.int 0, .int sta, .ref r0, .ref w0, .ref i0, .ref k0, m_6, m_7, .int nu, m_9, m_10, m_11, m_12, m_13, m_14, m_15, m_16, m_17, m_18, m_19, m_20, m_21, m_22, m_23, m_24, m_25, m_26, m_27, m_28, m_29, m_30, m_31, m_32, m_33, m_34, m_35, m_36, m_37, m_38, m_39, m_40, m_41, m_42, m_43, m_44, m_45, m_46, m_47, m_48, m_49, m_50, m_51, m_52, m_53, m_54, m_55, m_56, m_57, m_58, m_59]), (cc_l w0 (K 0) 5500 f_473), (cc_l i0 (K 0) 11000 fi), (cc_l k0 (K 1) 2 fk), (cc_l r0 (K 0) 7 frf)] H := hP
              replace hD := as_D hP hD rfl
              obtain ⟨x_474, ex_474⟩ : ∃ y : Int32, y = v_446 + Int32.ofInt 1 := ⟨_, rfl⟩
              replace hE := hE.trans (Lt_in ex_474)
              have hx_474 : x_474.toInt = (v_446.toInt + 1) := by rw [ex_474]; exact i_add rfl (show (Int32.ofInt 1).toInt = 1 from rfl) (by omega)
              refine lv_iinc (v := x_474) (lv' := [(2, .int x_474), (0, .ref m0), (1, .int 0)]) hx hb dX12_back_64 hl (k := 0) rfl (by rw [ex_474]) (by decide +kernel) rfl (fun ls hl => ?_)
              refine lv_goto (tgt := 39) hx hb dX12_back_67 (by decide +kernel) ?_
              exact ih_463 x_474 f_473 (by rw [hx_474]; omega) (show CpV fi f_473 0 ((x_474 : Int32).toInt).toNat by rw [← hf_473, i_clamp (x := v_446) (z := v_446.toInt) rfl, ex_472, i_clamp (x := x_471) (z := (0 + v_446.toInt)) hx_471, show ((0 + v_446.toInt)).toNat = 0 + (v_446.toInt).toNat by omega, show (x_474 : Int32).toInt.toNat = (v_446.toInt).toNat + 1 by omega]; exact CpV.step hr0_lp_462) (by omega) (hE.trans (by rw [hrec_462])) _ _ hP hD hS ls (lv_sub hl [0, 1, 2] rfl)
        have hz_475 : (0 : Int32).toInt = 0 := rfl
        exact lp_462 ((5501 - (0 : Int32).toInt : Int).toNat + 1) 0 fw (by decide +kernel) (show CpV fi fw 0 ((0 : Int32).toInt).toNat by exact CpV.base) (Nat.lt_succ_self _) hE _ _ hP hD hS ls (lv_sub hl [0, 1, 2] rfl)
      · have c_416i := i_eq (x := x_415.toInt) (y := 0) rfl rfl c_416
        replace hE := hE.trans (if_pos c_416)
        refine lv_aload_n hx hb dX12_back_30 rfl (lv_at hl 0 rfl) (lv_bipush (v := (-2)) hx hb dX12_back_31 (by decide +kernel) (kci (S := Su) (wr := [(cc_l w0 (K 0) 5500 fw), (cc_l i0 (K 0) 11000 fi), (cc_l k0 (K 1) 2 fk)]) (va_runV (As := [.int (-2)]) (rest := []) ⟨hx, hb, hml, hown, hts⟩ (v_tell l D K m0 (-2) (.int 0) sta r0 (.ref w0) (.ref i0) (.ref k0) m_6 m_7 (.int nu) m_9 m_10 m_11 m_12 m_13 m_14 m_15 m_16 m_17 m_18 m_19 m_20 m_21 m_22 m_23 m_24 m_25 m_26 m_27 m_28 m_29 m_30 m_31 m_32 m_33 m_34 m_35 m_36 m_37 m_38 m_39 m_40 m_41 m_42 m_43 m_44 m_45 m_46 m_47 m_48 m_49 m_50 m_51 m_52 m_53 m_54 m_55 m_56 m_57 m_58 m_59 frf H.size (by first | omega | decide)) (cwV 1 hts gX12_back_X12_tell rfl rfl rfl (by decide +kernel) ⟨Nat.le_of_ble_eq_true rfl, Nat.le_of_ble_eq_true rfl⟩) (mkV hK hN (hP.sub [0, 4] rfl) (hD.sub [0, 4] (by decide +kernel) rfl) (ci := 12) (q0 := 0) rfl rfl) rfl rfl hl.1 rfl (lv_room (Nat.le_of_ble_eq_true rfl)) dX12_back_33 ⟨Nat.le_of_ble_eq_true rfl, Nat.le_of_ble_eq_true rfl⟩) hP hD hS hA [0, 4] [1, 2, 3] rfl rfl (by decide +kernel) (by decide +kernel) (fun r_476 u_477 H locs hw hP0 hD0 hS0 => ?_)))
        replace hP : va_P D vwCl [(cc_l w0 (K 0) 5500 fw), (cc_l i0 (K 0) 11000 fi), (cc_l k0 (K 1) 2 fk), (cc_O m0 12 [.int 0, .int (u_477.2.2.2.1 0), .ref r0, .ref w0, .ref i0, .ref k0, m_6, m_7, .int nu, m_9, m_10, m_11, m_12, m_13, m_14, m_15, m_16, m_17, m_18, m_19, m_20, m_21, m_22, m_23, m_24, m_25, m_26, m_27, m_28, m_29, m_30, m_31, m_32, m_33, m_34, m_35, m_36, m_37, m_38, m_39, m_40, m_41, m_42, m_43, m_44, m_45, m_46, m_47, m_48, m_49, m_50, m_51, m_52, m_53, m_54, m_55, m_56, m_57, m_58, m_59]), (cc_l r0 (K 0) 7 (u_477.2.1 0))] H := hP0
        replace hD := as_D hP hD0 rfl
        replace hS := hS0
        clear hP0 hD0 hS0
        obtain ⟨h_480, k_478, k_479, -⟩ := hw
        replace hE := (hE.trans (Lt2_in k_479)).trans (Lt2_in rfl)
        rw [← hQ]
        have hP9 := hP.sub (ws' := [(cc_O m0 12 [.int 0, .int (u_477.2.2.2.1 0), .ref r0, .ref w0, .ref i0, .ref k0, m_6, m_7, .int nu, m_9, m_10, m_11, m_12, m_13, m_14, m_15, m_16, m_17, m_18, m_19, m_20, m_21, m_22, m_23, m_24, m_25, m_26, m_27, m_28, m_29, m_30, m_31, m_32, m_33, m_34, m_35, m_36, m_37, m_38, m_39, m_40, m_41, m_42, m_43, m_44, m_45, m_46, m_47, m_48, m_49, m_50, m_51, m_52, m_53, m_54, m_55, m_56, m_57, m_58, m_59]), (cc_l w0 (K 0) 5500 fw), (cc_l i0 (K 0) 11000 fi), (cc_l k0 (K 1) 2 fk), (cc_l r0 (K 0) 7 (u_477.2.1 0))]) [3, 0, 1, 2, 4] rfl
        have hD9 := sub_D hP9 hD [3, 0, 1, 2, 4] (by decide +kernel) rfl
        exact W.iret (v := r_476) hx hb hr (fun t ht hW => ⟨⟨r_476, ((fun _ => 0, fun i => match i with | 0 => fw | _ => (u_477.2.1 0), fun _ => fun _ => 0, fun i => match i with | 0 => (u_477.2.2.2.1 0) | _ => nu, fun _ => 0, fun _ => fun _ => none) : Su), rfl, ⟨(show (-6) ≤ r_476.toInt by omega), (show (-6) ≤ ((u_477.2.2.2.1 0) : Int32).toInt ∧ ((u_477.2.2.2.1 0) : Int32).toInt ≤ 0 by omega), zfw, hE.symm, trivial⟩, (⟨by rw [ht]; exact hP9, hD9⟩ : Wd D A _ t)⟩, hS.F ht⟩) hS.2.2 dX12_back_36
    · replace hE := (hE).trans (if_neg (by first | decide | (intro h9; have h8 := congrArg Int32.toInt h9; omega)))
      exfalso; omega
  · replace hE := (((hE).trans (if_neg (by omega))).trans (if_neg (by omega))).trans (if_pos hx0)
    obtain rfl : x = 1 := i_lit (b := 1) hx0 rfl
    have hl : lv_has ls 3 [(0, .ref m0), (1, .int 1)] := hl
    refine lv_aload_n hx hb dX12_back_0 rfl (lv_at hl 0 rfl) (lv_iconst (v := 0) hx hb dX12_back_1 (by decide +kernel) (va_put (ci := 12) (v := .int 0) (ty := .int) (C := RX12) (T := TX12) (N := 60) hx hb hts hw12 tyX12 tyX12_ok nmX12 hown hK hP hD hS 0 rfl rfl 0 (by decide +kernel) (hts _ mm_X12_back_830) (fun _ h9 => h9) rfl (by decide +kernel) (by first | rfl | decide) (by first | rfl | decide) (Nat.le_of_ble_eq_true rfl) dX12_back_2 (fun H locs hP0 hD0 hS0 => ?_)))
    replace hP : va_P D vwCl [(cc_O m0 12 [.int 0, .int sta, .ref r0, .ref w0, .ref i0, .ref k0, m_6, m_7, .int nu, m_9, m_10, m_11, m_12, m_13, m_14, m_15, m_16, m_17, m_18, m_19, m_20, m_21, m_22, m_23, m_24, m_25, m_26, m_27, m_28, m_29, m_30, m_31, m_32, m_33, m_34, m_35, m_36, m_37, m_38, m_39, m_40, m_41, m_42, m_43, m_44, m_45, m_46, m_47, m_48, m_49, m_50, m_51, m_52, m_53, m_54, m_55, m_56, m_57, m_58, m_59]), (cc_l w0 (K 0) 5500 fw), (cc_l i0 (K 0) 11000 fi), (cc_l k0 (K 1) 2 fk), (cc_l r0 (K 0) 7 frf)] H := hP0
    replace hD := as_D hP hD0 rfl
    replace hS := hS0
    clear hP0 hD0 hS0
    refine lv_iload_n hx hb dX12_back_5 rfl (lv_at hl 1 rfl) (lv_i2l (v := 1) hx hb dX12_back_6 (by decide +kernel) (lv_lconst (v := 0) hx hb dX12_back_7 (by decide +kernel) (lv_lconst (v := 1) hx hb dX12_back_8 (by decide +kernel) (pci (va_runS (As := [.long 1, .long 0, .long 1]) (rest := []) ⟨hx, hb, hml, hown, hts⟩ (v_in l D K 1 0 1 1 0 1 H.size (show (1 : Int64).toInt = 1 from rfl) (show (0 : Int64).toInt = 0 from rfl) (show (1 : Int64).toInt = 1 from rfl)) (va_cwS 3 hts gX12_back_X12_in rfl rfl rfl (by decide +kernel) ⟨Nat.le_of_ble_eq_true rfl, Nat.le_of_ble_eq_true rfl⟩) (mkS hK hN (va_P.nil) (va_D.nil (A := fun _ => True))) rfl rfl hl.1 rfl (lv_room (Nat.le_of_ble_eq_true rfl)) dX12_back_9 ⟨Nat.le_of_ble_eq_true rfl, Nat.le_of_ble_eq_true rfl⟩) (fun r_481 hw => ?_)))))
    obtain ⟨hw, k_482, -⟩ := hw
    replace hE := hE.trans (Lt_in k_482)
    rcases hw with ⟨rfl, h_483, h_484⟩ | ⟨rfl, h_485⟩
    · replace hE := (hE).trans (if_pos rfl)
      refine lv_if_ne (tgt := 21) hx hb dX12_back_12 (by decide +kernel) (fun c_486 => ?_) (fun c_486 => absurd c_486 (by decide +kernel))
      refine lv_aload_n hx hb dX12_back_21 rfl (lv_at hl 0 rfl) (va_get (ci := 12) (v := .ref k0) (C := RX12) (T := TX12) (N := 60) hx hb hts hw12 hown hK hP 0 rfl rfl 5 (by decide +kernel) (hts _ mm_X12_back_835) (fun _ h9 => h9) rfl dX12_back_22 (lv_iload_n hx hb dX12_back_25 rfl (lv_at hl 1 rfl) (va_zald hx hb hK hP 3 1 rfl rfl (i_in (x := 1) rfl (by omega)) dX12_back_26 (lv_topi (fun x_487 ex_487 => ?_)))))
      replace hE := hE.trans (Lt_in ex_487)
      refine lv_if_ne (tgt := 37) hx hb dX12_back_27 (by decide +kernel) (fun c_488 => ?_) (fun c_488 => ?_)
      · have c_488i := i_ne (x := x_487.toInt) (y := 0) rfl rfl c_488
        replace hE := hE.trans (if_neg c_488)
        refine lv_iconst (v := 0) hx hb dX12_back_37 (by decide +kernel) (lv_istore_n (lv' := [(2, .int 0), (0, .ref m0), (1, .int 1)]) hx hb dX12_back_38 rfl hl (by decide +kernel) rfl (fun ls hl => ?_))
        have lp_534 : ∀ (nn_ : Nat) (v_518 : Int32) (f_519 : Nat → Int32) (hv_518 : 0 ≤ v_518.toInt ∧ v_518.toInt ≤ 5500) (hr0_lp_534 : CpV fi f_519 5500 (v_518.toInt).toNat) (hn : (5501 - v_518.toInt : Int).toNat < nn_) (hE : E_v_back 1 thr sta nu fw fi fk frf = Lp (α := Int32 → (Nat → Int32) → (Int32 × Int32 × Int32 × (Nat → Int32) × (Nat → Int32))) (E_v_back_l39a sta fi frf) (fun _ _ => ((0, 0, 0, fun _ => 0, fun _ => 0) : Int32 × Int32 × Int32 × (Nat → Int32) × (Nat → Int32))) nn_ v_518 f_519) (H : Heap) (locs : List Loc) (hP : va_P D vwCl [(cc_O m0 12 [.int 0, .int sta, .ref r0, .ref w0, .ref i0, .ref k0, m_6, m_7, .int nu, m_9, m_10, m_11, m_12, m_13, m_14, m_15, m_16, m_17, m_18, m_19, m_20, m_21, m_22, m_23, m_24, m_25, m_26, m_27, m_28, m_29, m_30, m_31, m_32, m_33, m_34, m_35, m_36, m_37, m_38, m_39, m_40, m_41, m_42, m_43, m_44, m_45, m_46, m_47, m_48, m_49, m_50, m_51, m_52, m_53, m_54, m_55, m_56, m_57, m_58, m_59]), (cc_l w0 (K 0) 5500 f_519), (cc_l i0 (K 0) 11000 fi), (cc_l k0 (K 1) 2 fk), (cc_l r0 (K 0) 7 frf)] H) (hD : va_D A [(cc_O m0 12 [.int 0, .int sta, .ref r0, .ref w0, .ref i0, .ref k0, m_6, m_7, .int nu, m_9, m_10, m_11, m_12, m_13, m_14, m_15, m_16, m_17, m_18, m_19, m_20, m_21, m_22, m_23, m_24, m_25, m_26, m_27, m_28, m_29, m_30, m_31, m_32, m_33, m_34, m_35, m_36, m_37, m_38, m_39, m_40, m_41, m_42, m_43, m_44, m_45, m_46, m_47, m_48, m_49, m_50, m_51, m_52, m_53, m_54, m_55, m_56, m_57, m_58, m_59]), (cc_l w0 (K 0) 5500 f_519), (cc_l i0 (K 0) 11000 fi), (cc_l k0 (K 1) 2 fk), (cc_l r0 (K 0) 7 frf)]) (hS : va_S A s.heap H locs) (ls : Array Slot) (hl : lv_has ls 3 [(2, .int v_518), (0, .ref m0), (1, .int 1)]), W p l e ({ frames := 1, cells := 0, slots := 0, locals := 25 }) s m (([.ref m0, .int 1] : List Value).toArray) below meth c H locs 0 0 Q (F0 m 39 ls []) := by
          clear hE hP hD hS hl
          intro nn_
          induction nn_ with
          | zero =>
            intro v_518 f_519 hv_518 hr0_lp_534 hn hE H locs hP hD hS ls hl
            exact absurd hn (Nat.not_lt_zero _)
          | succ nn_ ih_535 =>
            intro v_518 f_519 hv_518 hr0_lp_534 hn hE H locs hP hD hS ls hl
            replace hE : E_v_back 1 thr sta nu fw fi fk frf = E_v_back_l39a sta fi frf (Lp (α := Int32 → (Nat → Int32) → (Int32 × Int32 × Int32 × (Nat → Int32) × (Nat → Int32))) (E_v_back_l39a sta fi frf) (fun _ _ => ((0, 0, 0, fun _ => 0, fun _ => 0) : Int32 × Int32 × Int32 × (Nat → Int32) × (Nat → Int32))) nn_) v_518 f_519 := hE
            obtain ⟨rec_534, hrec_534⟩ : ∃ z9, z9 = Lp (α := Int32 → (Nat → Int32) → (Int32 × Int32 × Int32 × (Nat → Int32) × (Nat → Int32))) (E_v_back_l39a sta fi frf) (fun _ _ => ((0, 0, 0, fun _ => 0, fun _ => 0) : Int32 × Int32 × Int32 × (Nat → Int32) × (Nat → Int32))) nn_ := ⟨_, rfl⟩
            rw [← hrec_534] at hE
            replace hE := hE.trans (E_v_back_l39a.eq_def _ _ _ _ _ _)
            refine lv_iload_n hx hb dX12_back_39 rfl (lv_at hl 0 rfl) (lv_sipush (v := 5500) hx hb dX12_back_40 (by decide +kernel) (lv_icmp_ge (tgt := 70) hx hb dX12_back_43 (by decide +kernel) (fun c_536 => ?_) (fun c_536 => ?_)))
            · have c_536i := i_le (x := 5500) (y := v_518.toInt) rfl rfl c_536
              replace hE := hE.trans (if_pos c_536)
              have hro : RwOK f_519 := CpV.fin1 (by have q := hr0_lp_534; rwa [show (v_518.toInt).toNat = 5500 by omega] at q) zfi
              refine lv_aload_n hx hb dX12_back_70 rfl (lv_at hl 1 rfl) (lv_iconst (v := 0) hx hb dX12_back_71 (by decide +kernel) (va_put (ci := 12) (v := .int 0) (ty := .int) (C := RX12) (T := TX12) (N := 60) hx hb hts hw12 tyX12 tyX12_ok nmX12 hown hK hP hD hS 0 rfl rfl 8 (by decide +kernel) (hts _ mm_X12_back_838) (fun _ h9 => h9) rfl (by decide +kernel) (by first | rfl | decide) (by first | rfl | decide) (Nat.le_of_ble_eq_true rfl) dX12_back_72 (fun H locs hP0 hD0 hS0 => ?_)))
              replace hP : va_P D vwCl [(cc_O m0 12 [.int 0, .int sta, .ref r0, .ref w0, .ref i0, .ref k0, m_6, m_7, .int 0, m_9, m_10, m_11, m_12, m_13, m_14, m_15, m_16, m_17, m_18, m_19, m_20, m_21, m_22, m_23, m_24, m_25, m_26, m_27, m_28, m_29, m_30, m_31, m_32, m_33, m_34, m_35, m_36, m_37, m_38, m_39, m_40, m_41, m_42, m_43, m_44, m_45, m_46, m_47, m_48, m_49, m_50, m_51, m_52, m_53, m_54, m_55, m_56, m_57, m_58, m_59]), (cc_l w0 (K 0) 5500 f_519), (cc_l i0 (K 0) 11000 fi), (cc_l k0 (K 1) 2 fk), (cc_l r0 (K 0) 7 frf)] H := hP0
              replace hD := as_D hP hD0 rfl
              replace hS := hS0
              clear hP0 hD0 hS0
              refine lv_aload_n hx hb dX12_back_75 rfl (lv_at hl 1 rfl) (lv_iconst (v := 0) hx hb dX12_back_76 (by decide +kernel) (kci (S := Su) (wr := [(cc_l w0 (K 0) 5500 f_519), (cc_l i0 (K 0) 11000 fi), (cc_l k0 (K 1) 2 fk)]) (va_runV (As := [.int 0]) (rest := []) ⟨hx, hb, hml, hown, hts⟩ (v_tell l D K m0 0 (.int 0) sta r0 (.ref w0) (.ref i0) (.ref k0) m_6 m_7 (.int 0) m_9 m_10 m_11 m_12 m_13 m_14 m_15 m_16 m_17 m_18 m_19 m_20 m_21 m_22 m_23 m_24 m_25 m_26 m_27 m_28 m_29 m_30 m_31 m_32 m_33 m_34 m_35 m_36 m_37 m_38 m_39 m_40 m_41 m_42 m_43 m_44 m_45 m_46 m_47 m_48 m_49 m_50 m_51 m_52 m_53 m_54 m_55 m_56 m_57 m_58 m_59 frf H.size (by first | omega | decide)) (cwV 1 hts gX12_back_X12_tell rfl rfl rfl (by decide +kernel) ⟨Nat.le_of_ble_eq_true rfl, Nat.le_of_ble_eq_true rfl⟩) (mkV hK hN (hP.sub [0, 4] rfl) (hD.sub [0, 4] (by decide +kernel) rfl) (ci := 12) (q0 := 0) rfl rfl) rfl rfl hl.1 rfl (lv_room (Nat.le_of_ble_eq_true rfl)) dX12_back_77 ⟨Nat.le_of_ble_eq_true rfl, Nat.le_of_ble_eq_true rfl⟩) hP hD hS hA [0, 4] [1, 2, 3] rfl rfl (by decide +kernel) (by decide +kernel) (fun r_537 u_538 H locs hw hP0 hD0 hS0 => ?_)))
              replace hP : va_P D vwCl [(cc_l w0 (K 0) 5500 f_519), (cc_l i0 (K 0) 11000 fi), (cc_l k0 (K 1) 2 fk), (cc_O m0 12 [.int 0, .int (u_538.2.2.2.1 0), .ref r0, .ref w0, .ref i0, .ref k0, m_6, m_7, .int 0, m_9, m_10, m_11, m_12, m_13, m_14, m_15, m_16, m_17, m_18, m_19, m_20, m_21, m_22, m_23, m_24, m_25, m_26, m_27, m_28, m_29, m_30, m_31, m_32, m_33, m_34, m_35, m_36, m_37, m_38, m_39, m_40, m_41, m_42, m_43, m_44, m_45, m_46, m_47, m_48, m_49, m_50, m_51, m_52, m_53, m_54, m_55, m_56, m_57, m_58, m_59]), (cc_l r0 (K 0) 7 (u_538.2.1 0))] H := hP0
              replace hD := as_D hP hD0 rfl
              replace hS := hS0
              clear hP0 hD0 hS0
              obtain ⟨h_541, k_539, k_540, -⟩ := hw
              replace hE := (hE.trans (Lt2_in k_540)).trans (Lt2_in rfl)
              rw [← hQ]
              have hP9 := hP.sub (ws' := [(cc_O m0 12 [.int 0, .int (u_538.2.2.2.1 0), .ref r0, .ref w0, .ref i0, .ref k0, m_6, m_7, .int 0, m_9, m_10, m_11, m_12, m_13, m_14, m_15, m_16, m_17, m_18, m_19, m_20, m_21, m_22, m_23, m_24, m_25, m_26, m_27, m_28, m_29, m_30, m_31, m_32, m_33, m_34, m_35, m_36, m_37, m_38, m_39, m_40, m_41, m_42, m_43, m_44, m_45, m_46, m_47, m_48, m_49, m_50, m_51, m_52, m_53, m_54, m_55, m_56, m_57, m_58, m_59]), (cc_l w0 (K 0) 5500 f_519), (cc_l i0 (K 0) 11000 fi), (cc_l k0 (K 1) 2 fk), (cc_l r0 (K 0) 7 (u_538.2.1 0))]) [3, 0, 1, 2, 4] rfl
              have hD9 := sub_D hP9 hD [3, 0, 1, 2, 4] (by decide +kernel) rfl
              exact W.iret (v := r_537) hx hb hr (fun t ht hW => ⟨⟨r_537, ((fun _ => 0, fun i => match i with | 0 => f_519 | _ => (u_538.2.1 0), fun _ => fun _ => 0, fun i => match i with | 0 => (u_538.2.2.2.1 0) | _ => 0, fun _ => 0, fun _ => fun _ => none) : Su), rfl, ⟨(show (-6) ≤ r_537.toInt by omega), (show (-6) ≤ ((u_538.2.2.2.1 0) : Int32).toInt ∧ ((u_538.2.2.2.1 0) : Int32).toInt ≤ 0 by omega), hro, hE.symm, trivial⟩, (⟨by rw [ht]; exact hP9, hD9⟩ : Wd D A _ t)⟩, hS.F ht⟩) hS.2.2 dX12_back_80
            · have c_536i := i_nle (x := 5500) (y := v_518.toInt) rfl rfl c_536
              replace hE := hE.trans (if_neg c_536)
              refine lv_aload_n hx hb dX12_back_46 rfl (lv_at hl 1 rfl) (va_get (ci := 12) (v := .ref w0) (C := RX12) (T := TX12) (N := 60) hx hb hts hw12 hown hK hP 0 rfl rfl 3 (by decide +kernel) (hts _ mm_X12_back_833) (fun _ h9 => h9) rfl dX12_back_47 (lv_iload_n hx hb dX12_back_50 rfl (lv_at hl 0 rfl) (lv_aload_n hx hb dX12_back_51 rfl (lv_at hl 1 rfl) (va_get (ci := 12) (v := .ref i0) (C := RX12) (T := TX12) (N := 60) hx hb hts hw12 hown hK hP 0 rfl rfl 4 (by decide +kernel) (hts _ mm_X12_back_834) (fun _ h9 => h9) rfl dX12_back_52 (lv_sipush (v := 5500) hx hb dX12_back_55 (by decide +kernel) (lv_iload_n hx hb dX12_back_58 rfl (lv_at hl 2 rfl) (lv_imul hx hb dX12_back_59 (lv_topi (fun x_542 ex_542 => ?_)))))))))
              obtain rfl : x_542 = 5500 := ex_542.trans (by first | rfl | decide)
              refine lv_iload_n hx hb dX12_back_60 rfl (lv_at hl 0 rfl) (lv_iadd hx hb dX12_back_61 (lv_topi (fun x_543 ex_543 => ?_)))
              replace hE := hE.trans (Lt_in ex_543)
              have hx_543 : x_543.toInt = (5500 + v_518.toInt) := by rw [ex_543]; exact i_add (show (5500 : Int32).toInt = 5500 from rfl) rfl (by omega)
              refine va_iald hx hb hK hP 2 0 rfl rfl (i_in hx_543 (by omega)) dX12_back_62 (lv_topi (fun x_544 ex_544 => ?_))
              replace hE := hE.trans (Lt_in ex_544)
              refine va_iast hx hb hK hP hD hS 1 0 rfl rfl (i_in rfl (by omega)) dX12_back_63 (fun H locs hP0 hD0 hS0 => ?_)
              replace hP := hP0
              replace hD := hD0
              replace hS := hS0
              clear hP0 hD0 hS0
              generalize hf_545 : (upd f_519 (v_518 : Int32).toNatClampNeg x_544) = f_545 at hP hD
              replace hE := hE.trans (Lt_in hf_545.symm)
              replace hP : va_P D vwCl [(cc_O m0 12 [.int 0, .int sta, .ref r0, .ref w0, .ref i0, .ref k0, m_6, m_7, .int nu, m_9, m_10, m_11, m_12, m_13, m_14, m_15, m_16, m_17, m_18, m_19, m_20, m_21, m_22, m_23, m_24, m_25, m_26, m_27, m_28, m_29, m_30, m_31, m_32, m_33, m_34, m_35, m_36, m_37, m_38, m_39, m_40, m_41, m_42, m_43, m_44, m_45, m_46, m_47, m_48, m_49, m_50, m_51, m_52, m_53, m_54, m_55, m_56, m_57, m_58, m_59]), (cc_l w0 (K 0) 5500 f_545), (cc_l i0 (K 0) 11000 fi), (cc_l k0 (K 1) 2 fk), (cc_l r0 (K 0) 7 frf)] H := hP
              replace hD := as_D hP hD rfl
              obtain ⟨x_546, ex_546⟩ : ∃ y : Int32, y = v_518 + Int32.ofInt 1 := ⟨_, rfl⟩
              replace hE := hE.trans (Lt_in ex_546)
              have hx_546 : x_546.toInt = (v_518.toInt + 1) := by rw [ex_546]; exact i_add rfl (show (Int32.ofInt 1).toInt = 1 from rfl) (by omega)
              refine lv_iinc (v := x_546) (lv' := [(2, .int x_546), (0, .ref m0), (1, .int 1)]) hx hb dX12_back_64 hl (k := 0) rfl (by rw [ex_546]) (by decide +kernel) rfl (fun ls hl => ?_)
              refine lv_goto (tgt := 39) hx hb dX12_back_67 (by decide +kernel) ?_
              exact ih_535 x_546 f_545 (by rw [hx_546]; omega) (show CpV fi f_545 5500 ((x_546 : Int32).toInt).toNat by rw [← hf_545, i_clamp (x := v_518) (z := v_518.toInt) rfl, ex_544, i_clamp (x := x_543) (z := (5500 + v_518.toInt)) hx_543, show ((5500 + v_518.toInt)).toNat = 5500 + (v_518.toInt).toNat by omega, show (x_546 : Int32).toInt.toNat = (v_518.toInt).toNat + 1 by omega]; exact CpV.step hr0_lp_534) (by omega) (hE.trans (by rw [hrec_534])) _ _ hP hD hS ls (lv_sub hl [0, 1, 2] rfl)
        have hz_547 : (0 : Int32).toInt = 0 := rfl
        exact lp_534 ((5501 - (0 : Int32).toInt : Int).toNat + 1) 0 fw (by decide +kernel) (show CpV fi fw 5500 ((0 : Int32).toInt).toNat by exact CpV.base) (Nat.lt_succ_self _) hE _ _ hP hD hS ls (lv_sub hl [0, 1, 2] rfl)
      · have c_488i := i_eq (x := x_487.toInt) (y := 0) rfl rfl c_488
        replace hE := hE.trans (if_pos c_488)
        refine lv_aload_n hx hb dX12_back_30 rfl (lv_at hl 0 rfl) (lv_bipush (v := (-2)) hx hb dX12_back_31 (by decide +kernel) (kci (S := Su) (wr := [(cc_l w0 (K 0) 5500 fw), (cc_l i0 (K 0) 11000 fi), (cc_l k0 (K 1) 2 fk)]) (va_runV (As := [.int (-2)]) (rest := []) ⟨hx, hb, hml, hown, hts⟩ (v_tell l D K m0 (-2) (.int 0) sta r0 (.ref w0) (.ref i0) (.ref k0) m_6 m_7 (.int nu) m_9 m_10 m_11 m_12 m_13 m_14 m_15 m_16 m_17 m_18 m_19 m_20 m_21 m_22 m_23 m_24 m_25 m_26 m_27 m_28 m_29 m_30 m_31 m_32 m_33 m_34 m_35 m_36 m_37 m_38 m_39 m_40 m_41 m_42 m_43 m_44 m_45 m_46 m_47 m_48 m_49 m_50 m_51 m_52 m_53 m_54 m_55 m_56 m_57 m_58 m_59 frf H.size (by first | omega | decide)) (cwV 1 hts gX12_back_X12_tell rfl rfl rfl (by decide +kernel) ⟨Nat.le_of_ble_eq_true rfl, Nat.le_of_ble_eq_true rfl⟩) (mkV hK hN (hP.sub [0, 4] rfl) (hD.sub [0, 4] (by decide +kernel) rfl) (ci := 12) (q0 := 0) rfl rfl) rfl rfl hl.1 rfl (lv_room (Nat.le_of_ble_eq_true rfl)) dX12_back_33 ⟨Nat.le_of_ble_eq_true rfl, Nat.le_of_ble_eq_true rfl⟩) hP hD hS hA [0, 4] [1, 2, 3] rfl rfl (by decide +kernel) (by decide +kernel) (fun r_548 u_549 H locs hw hP0 hD0 hS0 => ?_)))
        replace hP : va_P D vwCl [(cc_l w0 (K 0) 5500 fw), (cc_l i0 (K 0) 11000 fi), (cc_l k0 (K 1) 2 fk), (cc_O m0 12 [.int 0, .int (u_549.2.2.2.1 0), .ref r0, .ref w0, .ref i0, .ref k0, m_6, m_7, .int nu, m_9, m_10, m_11, m_12, m_13, m_14, m_15, m_16, m_17, m_18, m_19, m_20, m_21, m_22, m_23, m_24, m_25, m_26, m_27, m_28, m_29, m_30, m_31, m_32, m_33, m_34, m_35, m_36, m_37, m_38, m_39, m_40, m_41, m_42, m_43, m_44, m_45, m_46, m_47, m_48, m_49, m_50, m_51, m_52, m_53, m_54, m_55, m_56, m_57, m_58, m_59]), (cc_l r0 (K 0) 7 (u_549.2.1 0))] H := hP0
        replace hD := as_D hP hD0 rfl
        replace hS := hS0
        clear hP0 hD0 hS0
        obtain ⟨h_552, k_550, k_551, -⟩ := hw
        replace hE := (hE.trans (Lt2_in k_551)).trans (Lt2_in rfl)
        rw [← hQ]
        have hP9 := hP.sub (ws' := [(cc_O m0 12 [.int 0, .int (u_549.2.2.2.1 0), .ref r0, .ref w0, .ref i0, .ref k0, m_6, m_7, .int nu, m_9, m_10, m_11, m_12, m_13, m_14, m_15, m_16, m_17, m_18, m_19, m_20, m_21, m_22, m_23, m_24, m_25, m_26, m_27, m_28, m_29, m_30, m_31, m_32, m_33, m_34, m_35, m_36, m_37, m_38, m_39, m_40, m_41, m_42, m_43, m_44, m_45, m_46, m_47, m_48, m_49, m_50, m_51, m_52, m_53, m_54, m_55, m_56, m_57, m_58, m_59]), (cc_l w0 (K 0) 5500 fw), (cc_l i0 (K 0) 11000 fi), (cc_l k0 (K 1) 2 fk), (cc_l r0 (K 0) 7 (u_549.2.1 0))]) [3, 0, 1, 2, 4] rfl
        have hD9 := sub_D hP9 hD [3, 0, 1, 2, 4] (by decide +kernel) rfl
        exact W.iret (v := r_548) hx hb hr (fun t ht hW => ⟨⟨r_548, ((fun _ => 0, fun i => match i with | 0 => fw | _ => (u_549.2.1 0), fun _ => fun _ => 0, fun i => match i with | 0 => (u_549.2.2.2.1 0) | _ => nu, fun _ => 0, fun _ => fun _ => none) : Su), rfl, ⟨(show (-6) ≤ r_548.toInt by omega), (show (-6) ≤ ((u_549.2.2.2.1 0) : Int32).toInt ∧ ((u_549.2.2.2.1 0) : Int32).toInt ≤ 0 by omega), zfw, hE.symm, trivial⟩, (⟨by rw [ht]; exact hP9, hD9⟩ : Wd D A _ t)⟩, hS.F ht⟩) hS.2.2 dX12_back_36
    · replace hE := (hE).trans (if_neg (by first | decide | (intro h9; have h8 := congrArg Int32.toInt h9; omega)))
      exfalso; omega
  · replace hE := (((hE).trans (if_neg (by omega))).trans (if_neg (by omega))).trans (if_neg (by omega))
    skip
    refine lv_aload_n hx hb dX12_back_0 rfl (lv_at hl 0 rfl) (lv_iconst (v := 0) hx hb dX12_back_1 (by decide +kernel) (va_put (ci := 12) (v := .int 0) (ty := .int) (C := RX12) (T := TX12) (N := 60) hx hb hts hw12 tyX12 tyX12_ok nmX12 hown hK hP hD hS 0 rfl rfl 0 (by decide +kernel) (hts _ mm_X12_back_830) (fun _ h9 => h9) rfl (by decide +kernel) (by first | rfl | decide) (by first | rfl | decide) (Nat.le_of_ble_eq_true rfl) dX12_back_2 (fun H locs hP0 hD0 hS0 => ?_)))
    replace hP : va_P D vwCl [(cc_O m0 12 [.int 0, .int sta, .ref r0, .ref w0, .ref i0, .ref k0, m_6, m_7, .int nu, m_9, m_10, m_11, m_12, m_13, m_14, m_15, m_16, m_17, m_18, m_19, m_20, m_21, m_22, m_23, m_24, m_25, m_26, m_27, m_28, m_29, m_30, m_31, m_32, m_33, m_34, m_35, m_36, m_37, m_38, m_39, m_40, m_41, m_42, m_43, m_44, m_45, m_46, m_47, m_48, m_49, m_50, m_51, m_52, m_53, m_54, m_55, m_56, m_57, m_58, m_59]), (cc_l w0 (K 0) 5500 fw), (cc_l i0 (K 0) 11000 fi), (cc_l k0 (K 1) 2 fk), (cc_l r0 (K 0) 7 frf)] H := hP0
    replace hD := as_D hP hD0 rfl
    replace hS := hS0
    clear hP0 hD0 hS0
    refine lv_iload_n hx hb dX12_back_5 rfl (lv_at hl 1 rfl) (lv_i2l hx hb dX12_back_6 rfl (lv_topl (fun x_553 ex_553 => ?_)))
    replace hE := hE.trans (Lt_in ex_553)
    have hx_553 : x_553.toInt = x.toInt := by rw [ex_553]; exact i_wide rfl
    refine lv_lconst (v := 0) hx hb dX12_back_7 (by decide +kernel) (lv_lconst (v := 1) hx hb dX12_back_8 (by decide +kernel) (pci (va_runS (As := [.long x_553, .long 0, .long 1]) (rest := []) ⟨hx, hb, hml, hown, hts⟩ (v_in l D K x.toInt 0 1 x_553 0 1 H.size hx_553 (show (0 : Int64).toInt = 0 from rfl) (show (1 : Int64).toInt = 1 from rfl)) (va_cwS 3 hts gX12_back_X12_in rfl rfl rfl (by decide +kernel) ⟨Nat.le_of_ble_eq_true rfl, Nat.le_of_ble_eq_true rfl⟩) (mkS hK hN (va_P.nil) (va_D.nil (A := fun _ => True))) rfl rfl hl.1 rfl (lv_room (Nat.le_of_ble_eq_true rfl)) dX12_back_9 ⟨Nat.le_of_ble_eq_true rfl, Nat.le_of_ble_eq_true rfl⟩) (fun r_554 hw => ?_)))
    obtain ⟨hw, k_555, -⟩ := hw
    replace hE := hE.trans (Lt_in k_555)
    rcases hw with ⟨rfl, h_556, h_557⟩ | ⟨rfl, h_558⟩
    · replace hE := (hE).trans (if_pos rfl)
      exfalso; omega
    · replace hE := (hE).trans (if_neg (by first | decide | (intro h9; have h8 := congrArg Int32.toInt h9; omega)))
      refine lv_if_ne (tgt := 21) hx hb dX12_back_12 (by decide +kernel) (fun c_559 => absurd (by decide +kernel) c_559) (fun c_559 => ?_)
      refine lv_aload_n hx hb dX12_back_15 rfl (lv_at hl 0 rfl) (lv_iconst (v := (-1)) hx hb dX12_back_16 (by decide +kernel) (kci (S := Su) (wr := [(cc_l w0 (K 0) 5500 fw), (cc_l i0 (K 0) 11000 fi), (cc_l k0 (K 1) 2 fk)]) (va_runV (As := [.int (-1)]) (rest := []) ⟨hx, hb, hml, hown, hts⟩ (v_tell l D K m0 (-1) (.int 0) sta r0 (.ref w0) (.ref i0) (.ref k0) m_6 m_7 (.int nu) m_9 m_10 m_11 m_12 m_13 m_14 m_15 m_16 m_17 m_18 m_19 m_20 m_21 m_22 m_23 m_24 m_25 m_26 m_27 m_28 m_29 m_30 m_31 m_32 m_33 m_34 m_35 m_36 m_37 m_38 m_39 m_40 m_41 m_42 m_43 m_44 m_45 m_46 m_47 m_48 m_49 m_50 m_51 m_52 m_53 m_54 m_55 m_56 m_57 m_58 m_59 frf H.size (by first | omega | decide)) (cwV 1 hts gX12_back_X12_tell rfl rfl rfl (by decide +kernel) ⟨Nat.le_of_ble_eq_true rfl, Nat.le_of_ble_eq_true rfl⟩) (mkV hK hN (hP.sub [0, 4] rfl) (hD.sub [0, 4] (by decide +kernel) rfl) (ci := 12) (q0 := 0) rfl rfl) rfl rfl hl.1 rfl (lv_room (Nat.le_of_ble_eq_true rfl)) dX12_back_17 ⟨Nat.le_of_ble_eq_true rfl, Nat.le_of_ble_eq_true rfl⟩) hP hD hS hA [0, 4] [1, 2, 3] rfl rfl (by decide +kernel) (by decide +kernel) (fun r_560 u_561 H locs hw hP0 hD0 hS0 => ?_)))
      replace hP : va_P D vwCl [(cc_l w0 (K 0) 5500 fw), (cc_l i0 (K 0) 11000 fi), (cc_l k0 (K 1) 2 fk), (cc_O m0 12 [.int 0, .int (u_561.2.2.2.1 0), .ref r0, .ref w0, .ref i0, .ref k0, m_6, m_7, .int nu, m_9, m_10, m_11, m_12, m_13, m_14, m_15, m_16, m_17, m_18, m_19, m_20, m_21, m_22, m_23, m_24, m_25, m_26, m_27, m_28, m_29, m_30, m_31, m_32, m_33, m_34, m_35, m_36, m_37, m_38, m_39, m_40, m_41, m_42, m_43, m_44, m_45, m_46, m_47, m_48, m_49, m_50, m_51, m_52, m_53, m_54, m_55, m_56, m_57, m_58, m_59]), (cc_l r0 (K 0) 7 (u_561.2.1 0))] H := hP0
      replace hD := as_D hP hD0 rfl
      replace hS := hS0
      clear hP0 hD0 hS0
      obtain ⟨h_564, k_562, k_563, -⟩ := hw
      replace hE := (hE.trans (Lt2_in k_563)).trans (Lt2_in rfl)
      rw [← hQ]
      have hP9 := hP.sub (ws' := [(cc_O m0 12 [.int 0, .int (u_561.2.2.2.1 0), .ref r0, .ref w0, .ref i0, .ref k0, m_6, m_7, .int nu, m_9, m_10, m_11, m_12, m_13, m_14, m_15, m_16, m_17, m_18, m_19, m_20, m_21, m_22, m_23, m_24, m_25, m_26, m_27, m_28, m_29, m_30, m_31, m_32, m_33, m_34, m_35, m_36, m_37, m_38, m_39, m_40, m_41, m_42, m_43, m_44, m_45, m_46, m_47, m_48, m_49, m_50, m_51, m_52, m_53, m_54, m_55, m_56, m_57, m_58, m_59]), (cc_l w0 (K 0) 5500 fw), (cc_l i0 (K 0) 11000 fi), (cc_l k0 (K 1) 2 fk), (cc_l r0 (K 0) 7 (u_561.2.1 0))]) [3, 0, 1, 2, 4] rfl
      have hD9 := sub_D hP9 hD [3, 0, 1, 2, 4] (by decide +kernel) rfl
      exact W.iret (v := r_560) hx hb hr (fun t ht hW => ⟨⟨r_560, ((fun _ => 0, fun i => match i with | 0 => fw | _ => (u_561.2.1 0), fun _ => fun _ => 0, fun i => match i with | 0 => (u_561.2.2.2.1 0) | _ => nu, fun _ => 0, fun _ => fun _ => none) : Su), rfl, ⟨(show (-6) ≤ r_560.toInt by omega), (show (-6) ≤ ((u_561.2.2.2.1 0) : Int32).toInt ∧ ((u_561.2.2.2.1 0) : Int32).toInt ≤ 0 by omega), zfw, hE.symm, trivial⟩, (⟨by rw [ht]; exact hP9, hD9⟩ : Wd D A _ t)⟩, hS.F ht⟩) hS.2.2 dX12_back_20
