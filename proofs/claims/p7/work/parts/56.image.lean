theorem dX12_image_0 : decode cX12_image 0 = .ok (.aload_n 0, 1) := by decide +kernel
theorem dX12_image_1 : decode cX12_image 1 = .ok (.iconst 0, 1) := by decide +kernel
theorem dX12_image_2 : decode cX12_image 2 = .ok (.putfield 158, 3) := by decide +kernel
theorem dX12_image_5 : decode cX12_image 5 = .ok (.iload_n 1, 1) := by decide +kernel
theorem dX12_image_6 : decode cX12_image 6 = .ok (.i2l, 1) := by decide +kernel
theorem dX12_image_7 : decode cX12_image 7 = .ok (.lconst 0, 1) := by decide +kernel
theorem dX12_image_8 : decode cX12_image 8 = .ok (.lconst 1, 1) := by decide +kernel
theorem dX12_image_9 : decode cX12_image 9 = .ok (.invokestatic 178, 3) := by decide +kernel
theorem dX12_image_12 : decode cX12_image 12 = .ok (.ifCond .ne 9, 3) := by decide +kernel
theorem dX12_image_15 : decode cX12_image 15 = .ok (.aload_n 0, 1) := by decide +kernel
theorem dX12_image_16 : decode cX12_image 16 = .ok (.iconst (-1), 1) := by decide +kernel
theorem dX12_image_17 : decode cX12_image 17 = .ok (.invokevirtual 171, 3) := by decide +kernel
theorem dX12_image_20 : decode cX12_image 20 = .ok (.ireturn, 1) := by decide +kernel
theorem dX12_image_21 : decode cX12_image 21 = .ok (.iconst 0, 1) := by decide +kernel
theorem dX12_image_22 : decode cX12_image 22 = .ok (.istore_n 2, 1) := by decide +kernel
theorem dX12_image_23 : decode cX12_image 23 = .ok (.iload_n 2, 1) := by decide +kernel
theorem dX12_image_24 : decode cX12_image 24 = .ok (.sipush 5500, 3) := by decide +kernel
theorem dX12_image_27 : decode cX12_image 27 = .ok (.if_icmp .ge 27, 3) := by decide +kernel
theorem dX12_image_30 : decode cX12_image 30 = .ok (.aload_n 0, 1) := by decide +kernel
theorem dX12_image_31 : decode cX12_image 31 = .ok (.getfield 16, 3) := by decide +kernel
theorem dX12_image_34 : decode cX12_image 34 = .ok (.sipush 5500, 3) := by decide +kernel
theorem dX12_image_37 : decode cX12_image 37 = .ok (.iload_n 1, 1) := by decide +kernel
theorem dX12_image_38 : decode cX12_image 38 = .ok (.imul, 1) := by decide +kernel
theorem dX12_image_39 : decode cX12_image 39 = .ok (.iload_n 2, 1) := by decide +kernel
theorem dX12_image_40 : decode cX12_image 40 = .ok (.iadd, 1) := by decide +kernel
theorem dX12_image_41 : decode cX12_image 41 = .ok (.aload_n 0, 1) := by decide +kernel
theorem dX12_image_42 : decode cX12_image 42 = .ok (.getfield 13, 3) := by decide +kernel
theorem dX12_image_45 : decode cX12_image 45 = .ok (.iload_n 2, 1) := by decide +kernel
theorem dX12_image_46 : decode cX12_image 46 = .ok (.iaload, 1) := by decide +kernel
theorem dX12_image_47 : decode cX12_image 47 = .ok (.iastore, 1) := by decide +kernel
theorem dX12_image_48 : decode cX12_image 48 = .ok (.iinc 2 1, 3) := by decide +kernel
theorem dX12_image_51 : decode cX12_image 51 = .ok (.goto (-28), 3) := by decide +kernel
theorem dX12_image_54 : decode cX12_image 54 = .ok (.aload_n 0, 1) := by decide +kernel
theorem dX12_image_55 : decode cX12_image 55 = .ok (.getfield 19, 3) := by decide +kernel
theorem dX12_image_58 : decode cX12_image 58 = .ok (.iload_n 1, 1) := by decide +kernel
theorem dX12_image_59 : decode cX12_image 59 = .ok (.iconst 1, 1) := by decide +kernel
theorem dX12_image_60 : decode cX12_image 60 = .ok (.bastore, 1) := by decide +kernel
theorem dX12_image_61 : decode cX12_image 61 = .ok (.aload_n 0, 1) := by decide +kernel
theorem dX12_image_62 : decode cX12_image 62 = .ok (.iconst 0, 1) := by decide +kernel
theorem dX12_image_63 : decode cX12_image 63 = .ok (.invokevirtual 171, 3) := by decide +kernel
theorem dX12_image_66 : decode cX12_image 66 = .ok (.ireturn, 1) := by decide +kernel
theorem dX12_back_0 : decode cX12_back 0 = .ok (.aload_n 0, 1) := by decide +kernel
theorem dX12_back_1 : decode cX12_back 1 = .ok (.iconst 0, 1) := by decide +kernel
theorem dX12_back_2 : decode cX12_back 2 = .ok (.putfield 158, 3) := by decide +kernel
theorem dX12_back_5 : decode cX12_back 5 = .ok (.iload_n 1, 1) := by decide +kernel
theorem dX12_back_6 : decode cX12_back 6 = .ok (.i2l, 1) := by decide +kernel
theorem dX12_back_7 : decode cX12_back 7 = .ok (.lconst 0, 1) := by decide +kernel
theorem dX12_back_8 : decode cX12_back 8 = .ok (.lconst 1, 1) := by decide +kernel
theorem dX12_back_9 : decode cX12_back 9 = .ok (.invokestatic 178, 3) := by decide +kernel
theorem dX12_back_12 : decode cX12_back 12 = .ok (.ifCond .ne 9, 3) := by decide +kernel
theorem dX12_back_15 : decode cX12_back 15 = .ok (.aload_n 0, 1) := by decide +kernel
theorem dX12_back_16 : decode cX12_back 16 = .ok (.iconst (-1), 1) := by decide +kernel
theorem dX12_back_17 : decode cX12_back 17 = .ok (.invokevirtual 171, 3) := by decide +kernel
theorem dX12_back_20 : decode cX12_back 20 = .ok (.ireturn, 1) := by decide +kernel
theorem dX12_back_21 : decode cX12_back 21 = .ok (.aload_n 0, 1) := by decide +kernel
theorem dX12_back_22 : decode cX12_back 22 = .ok (.getfield 19, 3) := by decide +kernel
theorem dX12_back_25 : decode cX12_back 25 = .ok (.iload_n 1, 1) := by decide +kernel
theorem dX12_back_26 : decode cX12_back 26 = .ok (.baload, 1) := by decide +kernel
theorem dX12_back_27 : decode cX12_back 27 = .ok (.ifCond .ne 10, 3) := by decide +kernel
theorem dX12_back_37 : decode cX12_back 37 = .ok (.iconst 0, 1) := by decide +kernel
theorem dX12_back_38 : decode cX12_back 38 = .ok (.istore_n 2, 1) := by decide +kernel
theorem dX12_back_39 : decode cX12_back 39 = .ok (.iload_n 2, 1) := by decide +kernel
theorem dX12_back_40 : decode cX12_back 40 = .ok (.sipush 5500, 3) := by decide +kernel
theorem dX12_back_43 : decode cX12_back 43 = .ok (.if_icmp .ge 27, 3) := by decide +kernel
theorem dX12_back_46 : decode cX12_back 46 = .ok (.aload_n 0, 1) := by decide +kernel
theorem dX12_back_47 : decode cX12_back 47 = .ok (.getfield 13, 3) := by decide +kernel
theorem dX12_back_50 : decode cX12_back 50 = .ok (.iload_n 2, 1) := by decide +kernel
theorem dX12_back_51 : decode cX12_back 51 = .ok (.aload_n 0, 1) := by decide +kernel
theorem dX12_back_52 : decode cX12_back 52 = .ok (.getfield 16, 3) := by decide +kernel
theorem dX12_back_55 : decode cX12_back 55 = .ok (.sipush 5500, 3) := by decide +kernel
theorem dX12_back_58 : decode cX12_back 58 = .ok (.iload_n 1, 1) := by decide +kernel
theorem dX12_back_59 : decode cX12_back 59 = .ok (.imul, 1) := by decide +kernel
theorem dX12_back_60 : decode cX12_back 60 = .ok (.iload_n 2, 1) := by decide +kernel
theorem dX12_back_61 : decode cX12_back 61 = .ok (.iadd, 1) := by decide +kernel
theorem dX12_back_62 : decode cX12_back 62 = .ok (.iaload, 1) := by decide +kernel
theorem dX12_back_63 : decode cX12_back 63 = .ok (.iastore, 1) := by decide +kernel
theorem dX12_back_64 : decode cX12_back 64 = .ok (.iinc 2 1, 3) := by decide +kernel
theorem dX12_back_67 : decode cX12_back 67 = .ok (.goto (-28), 3) := by decide +kernel
theorem dX12_back_70 : decode cX12_back 70 = .ok (.aload_n 0, 1) := by decide +kernel
theorem dX12_back_71 : decode cX12_back 71 = .ok (.iconst 0, 1) := by decide +kernel
theorem dX12_back_72 : decode cX12_back 72 = .ok (.putfield 164, 3) := by decide +kernel
theorem dX12_back_75 : decode cX12_back 75 = .ok (.aload_n 0, 1) := by decide +kernel
theorem dX12_back_76 : decode cX12_back 76 = .ok (.iconst 0, 1) := by decide +kernel
theorem dX12_back_77 : decode cX12_back 77 = .ok (.invokevirtual 171, 3) := by decide +kernel
theorem dX12_back_80 : decode cX12_back 80 = .ok (.ireturn, 1) := by decide +kernel
theorem dX12_back_30 : decode cX12_back 30 = .ok (.aload_n 0, 1) := by decide +kernel
theorem dX12_back_31 : decode cX12_back 31 = .ok (.bipush (-2), 2) := by decide +kernel
theorem dX12_back_33 : decode cX12_back 33 = .ok (.invokevirtual 171, 3) := by decide +kernel
theorem dX12_back_36 : decode cX12_back 36 = .ok (.ireturn, 1) := by decide +kernel
set_option maxRecDepth 20000 in
theorem ggX12_image_X12_in : GoodIn wsX12_image wsX12_in := goodIn_r _ [8] (by decide +kernel) (by decide +kernel)
set_option maxRecDepth 20000 in
theorem gX12_image_X12_in : GoodIn wsX12_image (va_wsS RX12 178 yX12_in wsX12_in) := goodIn_app (goodIn_of _ (by decide +kernel)) ggX12_image_X12_in
set_option maxRecDepth 100000 in
set_option maxHeartbeats 4000000 in
theorem ggX12_image_X12_tell : GoodIn wsX12_image wsX12_tell := goodIn_q _ [12] [13, 14, 15, 16, 17, 18, 19, 20, 21, 22, 23, 24, 25, 26, 27, 28, 29, 30, 31, 32, 33, 34, 35, 36, 37, 38, 39, 40, 41, 42, 43, 44, 45, 46, 47, 48, 49, 50, 51, 52, 53, 54, 55, 56, 57, 58, 59, 60, 61, 62, 63, 64, 65, 66, 67, 68, 69, 70, 71, 72, 73, 74] rfl (by decide +kernel) (by decide +kernel)
set_option maxRecDepth 20000 in
theorem gX12_image_X12_tell : GoodIn wsX12_image (wsV RX12 171 RX12 yX12_tell wsX12_tell) := goodIn_app (goodIn_of _ (by decide +kernel)) ggX12_image_X12_tell
set_option maxRecDepth 20000 in
theorem ggX12_back_X12_in : GoodIn wsX12_back wsX12_in := goodIn_r _ [9] (by decide +kernel) (by decide +kernel)
set_option maxRecDepth 20000 in
theorem gX12_back_X12_in : GoodIn wsX12_back (va_wsS RX12 178 yX12_in wsX12_in) := goodIn_app (goodIn_of _ (by decide +kernel)) ggX12_back_X12_in
set_option maxRecDepth 100000 in
set_option maxHeartbeats 4000000 in
theorem ggX12_back_X12_tell : GoodIn wsX12_back wsX12_tell := goodIn_q _ [13] [14, 15, 16, 17, 18, 19, 20, 21, 22, 23, 24, 25, 26, 27, 28, 29, 30, 31, 32, 33, 34, 35, 36, 37, 38, 39, 40, 41, 42, 43, 44, 45, 46, 47, 48, 49, 50, 51, 52, 53, 54, 55, 56, 57, 58, 59, 60, 61, 62, 63, 64, 65, 66, 67, 68, 69, 70, 71, 72, 73, 74, 75] rfl (by decide +kernel) (by decide +kernel)
set_option maxRecDepth 20000 in
theorem gX12_back_X12_tell : GoodIn wsX12_back (wsV RX12 171 RX12 yX12_tell wsX12_tell) := goodIn_app (goodIn_of _ (by decide +kernel)) ggX12_back_X12_tell
def ImOK (g : Nat → Int32) : Prop := RwOK g ∧ RwOK (fun j => g (5500 + j))
theorem ImOK.zero : ImOK (fun _ => 0) := ⟨RwOK.zero, RwOK.zero⟩
def CpU (f g0 g : Nat → Int32) (dp i : Nat) : Prop := (∀ j, j < i → g (dp + j) = f j) ∧ ∀ j, j < dp ∨ dp + 5500 ≤ j → g j = g0 j
theorem CpU.base {f g0 : Nat → Int32} {dp : Nat} : CpU f g0 g0 dp 0 := ⟨fun j hj => absurd hj (Nat.not_lt_zero _), fun _ _ => rfl⟩
theorem CpU.step {f g0 g : Nat → Int32} {dp i : Nat} (h : CpU f g0 g dp i) (hi : i < 5500) : CpU f g0 (upd g (dp + i) (f i)) dp (i + 1) := by
  refine ⟨fun j hj => ?_, fun j hj => ?_⟩
  · by_cases e : j = i
    · subst e; exact pk_us
    · rw [pk_un (show ¬ dp + j = dp + i by omega)]; exact h.1 j (by omega)
  · rw [pk_un (show ¬ j = dp + i by omega)]; exact h.2 j hj
theorem CpU.fin0 {f g0 g : Nat → Int32} (h : CpU f g0 g 0 5500) (hf : RwOK f) (h0 : ImOK g0) : ImOK g :=
  ⟨hf.same (fun j hj => by have := h.1 j hj; rwa [Nat.zero_add] at this), h0.2.same (fun j hj => h.2 (5500 + j) (by omega))⟩
theorem CpU.fin1 {f g0 g : Nat → Int32} (h : CpU f g0 g 5500 5500) (hf : RwOK f) (h0 : ImOK g0) : ImOK g :=
  ⟨h0.1.same (fun j hj => h.2 j (by omega)), hf.same (fun j hj => h.1 j hj)⟩
def CpV (f g : Nat → Int32) (sp i : Nat) : Prop := ∀ j, j < i → g j = f (sp + j)
theorem CpV.base {f g : Nat → Int32} {sp : Nat} : CpV f g sp 0 := fun j hj => absurd hj (Nat.not_lt_zero _)
theorem CpV.step {f g : Nat → Int32} {sp i : Nat} (h : CpV f g sp i) : CpV f (upd g i (f (sp + i))) sp (i + 1) := fun j hj => by
  by_cases e : j = i
  · subst e; exact pk_us
  · rw [pk_un e]; exact h j (by omega)
theorem CpV.fin0 {f g : Nat → Int32} (h : CpV f g 0 5500) (h0 : ImOK f) : RwOK g := h0.1.same (fun j hj => by have := h j hj; rwa [Nat.zero_add] at this)
theorem CpV.fin1 {f g : Nat → Int32} (h : CpV f g 5500 5500) (h0 : ImOK f) : RwOK g := h0.2.same (fun j hj => h j hj)
set_option maxHeartbeats 4000000 in
set_option maxRecDepth 100000 in
theorem v_image (l : Launch) (D : va_G) (K : Nat → ClassId) (m0 : Nat) (x : Int32) (thr : Int32) (sta : Int32) (r0 : Nat) (w0 : Nat) (i0 : Nat) (k0 : Nat) (m_6 : Value) (m_7 : Value) (m_8 : Value) (m_9 : Value) (m_10 : Value) (m_11 : Value) (m_12 : Value) (m_13 : Value) (m_14 : Value) (m_15 : Value) (m_16 : Value) (m_17 : Value) (m_18 : Value) (m_19 : Value) (m_20 : Value) (m_21 : Value) (m_22 : Value) (m_23 : Value) (m_24 : Value) (m_25 : Value) (m_26 : Value) (m_27 : Value) (m_28 : Value) (m_29 : Value) (m_30 : Value) (m_31 : Value) (m_32 : Value) (m_33 : Value) (m_34 : Value) (m_35 : Value) (m_36 : Value) (m_37 : Value) (m_38 : Value) (m_39 : Value) (m_40 : Value) (m_41 : Value) (m_42 : Value) (m_43 : Value) (m_44 : Value) (m_45 : Value) (m_46 : Value) (m_47 : Value) (m_48 : Value) (m_49 : Value) (m_50 : Value) (m_51 : Value) (m_52 : Value) (m_53 : Value) (m_54 : Value) (m_55 : Value) (m_56 : Value) (m_57 : Value) (m_58 : Value) (m_59 : Value) (fw : Nat → Int32) (fi : Nat → Int32) (fk : Nat → Int32) (frf : Nat → Int32) (sz : Nat) (zfw : RwOK fw) (zfi : ImOK fi) : Met l yX12_image wsX12_image ({ frames := 1, cells := 0, slots := 0, locals := 25 }) (va_Pc [.ref m0, .int x] (Pre D K [(m0, .inr (12, [.int thr, .int sta, .ref r0, .ref w0, .ref i0, .ref k0, m_6, m_7, m_8, m_9, m_10, m_11, m_12, m_13, m_14, m_15, m_16, m_17, m_18, m_19, m_20, m_21, m_22, m_23, m_24, m_25, m_26, m_27, m_28, m_29, m_30, m_31, m_32, m_33, m_34, m_35, m_36, m_37, m_38, m_39, m_40, m_41, m_42, m_43, m_44, m_45, m_46, m_47, m_48, m_49, m_50, m_51, m_52, m_53, m_54, m_55, m_56, m_57, m_58, m_59])), (w0, .inl (K 0, 5500, .inl fw)), (i0, .inl (K 0, 11000, .inl fi)), (k0, .inl (K 1, 2, .inl fk)), (r0, .inl (K 0, 7, .inl frf))] sz)) (va_Qi (S := Su) (fun (r : Int32) (u : Su) => ((-6) ≤ r.toInt) ∧ ((-6) ≤ (u.2.2.2.1 0).toInt ∧ (u.2.2.2.1 0).toInt ≤ 0) ∧ (ImOK (u.2.1 0)) ∧ True) (fun u t => Wd D (va_A [(m0, .inr (12, [.int thr, .int sta, .ref r0, .ref w0, .ref i0, .ref k0, m_6, m_7, m_8, m_9, m_10, m_11, m_12, m_13, m_14, m_15, m_16, m_17, m_18, m_19, m_20, m_21, m_22, m_23, m_24, m_25, m_26, m_27, m_28, m_29, m_30, m_31, m_32, m_33, m_34, m_35, m_36, m_37, m_38, m_39, m_40, m_41, m_42, m_43, m_44, m_45, m_46, m_47, m_48, m_49, m_50, m_51, m_52, m_53, m_54, m_55, m_56, m_57, m_58, m_59])), (w0, .inl (K 0, 5500, .inl fw)), (i0, .inl (K 0, 11000, .inl fi)), (k0, .inl (K 1, 2, .inl fk)), (r0, .inl (K 0, 7, .inl frf))] sz) ((fun u => [(m0, .inr (12, [.int 0, .int (u.2.2.2.1 0), .ref r0, .ref w0, .ref i0, .ref k0, m_6, m_7, m_8, m_9, m_10, m_11, m_12, m_13, m_14, m_15, m_16, m_17, m_18, m_19, m_20, m_21, m_22, m_23, m_24, m_25, m_26, m_27, m_28, m_29, m_30, m_31, m_32, m_33, m_34, m_35, m_36, m_37, m_38, m_39, m_40, m_41, m_42, m_43, m_44, m_45, m_46, m_47, m_48, m_49, m_50, m_51, m_52, m_53, m_54, m_55, m_56, m_57, m_58, m_59])), (w0, .inl (K 0, 5500, .inl fw)), (i0, .inl (K 0, 11000, .inl (u.2.1 0))), (k0, .inl (K 1, 2, .inl (u.2.1 1))), (r0, .inl (K 0, 7, .inl (u.2.1 2)))]) u) t) (va_A [(m0, .inr (12, [.int thr, .int sta, .ref r0, .ref w0, .ref i0, .ref k0, m_6, m_7, m_8, m_9, m_10, m_11, m_12, m_13, m_14, m_15, m_16, m_17, m_18, m_19, m_20, m_21, m_22, m_23, m_24, m_25, m_26, m_27, m_28, m_29, m_30, m_31, m_32, m_33, m_34, m_35, m_36, m_37, m_38, m_39, m_40, m_41, m_42, m_43, m_44, m_45, m_46, m_47, m_48, m_49, m_50, m_51, m_52, m_53, m_54, m_55, m_56, m_57, m_58, m_59])), (w0, .inl (K 0, 5500, .inl fw)), (i0, .inl (K 0, 11000, .inl fi)), (k0, .inl (K 1, 2, .inl fk)), (r0, .inl (K 0, 7, .inl frf))] sz)) 0 0 (va_A [(m0, .inr (12, [.int thr, .int sta, .ref r0, .ref w0, .ref i0, .ref k0, m_6, m_7, m_8, m_9, m_10, m_11, m_12, m_13, m_14, m_15, m_16, m_17, m_18, m_19, m_20, m_21, m_22, m_23, m_24, m_25, m_26, m_27, m_28, m_29, m_30, m_31, m_32, m_33, m_34, m_35, m_36, m_37, m_38, m_39, m_40, m_41, m_42, m_43, m_44, m_45, m_46, m_47, m_48, m_49, m_50, m_51, m_52, m_53, m_54, m_55, m_56, m_57, m_58, m_59])), (w0, .inl (K 0, 5500, .inl fw)), (i0, .inl (K 0, 11000, .inl fi)), (k0, .inl (K 1, 2, .inl fk)), (r0, .inl (K 0, 7, .inl frf))] sz) := by
  refine Met.ofW (cc := cX12_image) (maxL := 3) (ret := (some .int)) (by decide) rfl ?_
  intro p e s m args below meth c s₁ B hml hv
  obtain ⟨rfl, hsz, hP, hK, hD0, hN⟩ := hv
  have hx := B.exec
  have hb := B.bytes
  have hr := B.returns
  have hts := atoms_spec (ws := wsX12_image) B.pre
  have hown : s.vm.findClass RX12 = some m.cls := findClass_of_methodNamed B.named
  have hlocks := B.notSynchronized
  subst hsz
  have hD := hD0.self (sz := s.heap.size)
  generalize hAe : va_A [(m0, .inr (12, [.int thr, .int sta, .ref r0, .ref w0, .ref i0, .ref k0, m_6, m_7, m_8, m_9, m_10, m_11, m_12, m_13, m_14, m_15, m_16, m_17, m_18, m_19, m_20, m_21, m_22, m_23, m_24, m_25, m_26, m_27, m_28, m_29, m_30, m_31, m_32, m_33, m_34, m_35, m_36, m_37, m_38, m_39, m_40, m_41, m_42, m_43, m_44, m_45, m_46, m_47, m_48, m_49, m_50, m_51, m_52, m_53, m_54, m_55, m_56, m_57, m_58, m_59])), (w0, .inl (K 0, 5500, .inl fw)), (i0, .inl (K 0, 11000, .inl fi)), (k0, .inl (K 1, 2, .inl fk)), (r0, .inl (K 0, 7, .inl frf))] s.heap.size = A at hD ⊢
  have hA : ∀ q : Nat, s.heap.size ≤ q → A q := fun q h => by rw [← hAe]; exact Or.inr h
  have hS : va_S A s.heap s.heap [] := va_S.rf
  have hP : va_P D vwCl [(m0, .inr (12, [.int thr, .int sta, .ref r0, .ref w0, .ref i0, .ref k0, m_6, m_7, m_8, m_9, m_10, m_11, m_12, m_13, m_14, m_15, m_16, m_17, m_18, m_19, m_20, m_21, m_22, m_23, m_24, m_25, m_26, m_27, m_28, m_29, m_30, m_31, m_32, m_33, m_34, m_35, m_36, m_37, m_38, m_39, m_40, m_41, m_42, m_43, m_44, m_45, m_46, m_47, m_48, m_49, m_50, m_51, m_52, m_53, m_54, m_55, m_56, m_57, m_58, m_59])), (w0, .inl (K 0, 5500, .inl fw)), (i0, .inl (K 0, 11000, .inl fi)), (k0, .inl (K 1, 2, .inl fk)), (r0, .inl (K 0, 7, .inl frf))] s.heap := hP
  have hl := lv_entry [.ref m0, .int x] (n := 3) (Nat.le_of_ble_eq_true rfl)
  rw [lg_entry_eq]
  generalize (lg_sl [.ref m0, .int x] ++ List.replicate (3 - (lg_sl [.ref m0, .int x]).length) Slot.unset).toArray = ls at hl ⊢
  have hl : lv_has ls 3 [(0, .ref m0), (1, .int x)] := hl
  have hw12 : ∀ w ∈ wsX120, w ∈ wsX12_image := fun w h => (List.mem_cons_of_mem _ (List.mem_append_right _ h))
  generalize hQ : MQ below _ _ s _ _ _ = Q
  rcases (show x.toInt < 0 ∨ x.toInt = 0 ∨ x.toInt = 1 ∨ 1 < x.toInt by omega) with hx0 | hx0 | hx0 | hx0
  · skip
    refine lv_aload_n hx hb dX12_image_0 rfl (lv_at hl 0 rfl) ?_
    refine lv_iconst (v := 0) hx hb dX12_image_1 (by decide) ?_
    refine va_put (ci := 12) (v := .int 0) (ty := .int) (C := RX12) (T := TX12) (N := 60) hx hb hts hw12 tyX12 tyX12_ok nmX12 hown hK hP hD hS 0 rfl rfl 0 (by decide) (hts (.fieldLink RX12 158 "SmokeTuneModel" "thrown" "I") (List.mem_cons_of_mem _ (List.mem_append_left _ (List.mem_of_getElem? (i := 0) rfl)))) (fun _ h9 => h9) rfl (by decide +kernel) (by first | rfl | decide) (by first | rfl | decide) (Nat.le_of_ble_eq_true rfl) dX12_image_2 (fun H locs hP hD hS => ?_)
    have hP : va_P D vwCl [(m0, .inr (12, [.int 0, .int sta, .ref r0, .ref w0, .ref i0, .ref k0, m_6, m_7, m_8, m_9, m_10, m_11, m_12, m_13, m_14, m_15, m_16, m_17, m_18, m_19, m_20, m_21, m_22, m_23, m_24, m_25, m_26, m_27, m_28, m_29, m_30, m_31, m_32, m_33, m_34, m_35, m_36, m_37, m_38, m_39, m_40, m_41, m_42, m_43, m_44, m_45, m_46, m_47, m_48, m_49, m_50, m_51, m_52, m_53, m_54, m_55, m_56, m_57, m_58, m_59])), (w0, .inl (K 0, 5500, .inl fw)), (i0, .inl (K 0, 11000, .inl fi)), (k0, .inl (K 1, 2, .inl fk)), (r0, .inl (K 0, 7, .inl frf))] H := hP
    have hD : va_D A [(m0, .inr (12, [.int 0, .int sta, .ref r0, .ref w0, .ref i0, .ref k0, m_6, m_7, m_8, m_9, m_10, m_11, m_12, m_13, m_14, m_15, m_16, m_17, m_18, m_19, m_20, m_21, m_22, m_23, m_24, m_25, m_26, m_27, m_28, m_29, m_30, m_31, m_32, m_33, m_34, m_35, m_36, m_37, m_38, m_39, m_40, m_41, m_42, m_43, m_44, m_45, m_46, m_47, m_48, m_49, m_50, m_51, m_52, m_53, m_54, m_55, m_56, m_57, m_58, m_59])), (w0, .inl (K 0, 5500, .inl fw)), (i0, .inl (K 0, 11000, .inl fi)), (k0, .inl (K 1, 2, .inl fk)), (r0, .inl (K 0, 7, .inl frf))] := hD
    refine lv_iload_n hx hb dX12_image_5 rfl (lv_at hl 1 rfl) ?_
    refine lv_i2l hx hb dX12_image_6 rfl ?_
    refine lv_topl (fun x_357 ex_357 => ?_)
    have hx_357 : x_357.toInt = x.toInt := by rw [ex_357]; exact i_wide rfl
    refine lv_lconst (v := 0) hx hb dX12_image_7 (by decide) ?_
    refine lv_lconst (v := 1) hx hb dX12_image_8 (by decide) ?_
    refine pci (va_runS (As := [.long x_357, .long 0, .long 1]) (rest := []) ⟨hx, hb, hml, hown, hts⟩ (v_in l D K x.toInt 0 1 x_357 0 1 H.size hx_357 (show (0 : Int64).toInt = 0 from rfl) (show (1 : Int64).toInt = 1 from rfl)) (va_cwS 3 hts gX12_image_X12_in rfl rfl rfl (by decide +kernel) ⟨Nat.le_of_ble_eq_true rfl, Nat.le_of_ble_eq_true rfl⟩) (mkS hK hN (va_P.nil) (va_D.nil (A := fun _ => True))) rfl rfl hl.1 rfl (lv_room (Nat.le_of_ble_eq_true rfl)) dX12_image_9 ⟨Nat.le_of_ble_eq_true rfl, Nat.le_of_ble_eq_true rfl⟩) (fun r_358 hw => ?_)
    obtain ⟨hw, -⟩ := hw
    rcases hw with ⟨rfl, h_359, h_360⟩ | ⟨rfl, h_361⟩
    · exfalso; omega
    · refine lv_if_ne (tgt := 21) hx hb dX12_image_12 (by decide) (fun c_362 => absurd (by decide) c_362) (fun c_362 => ?_)
      refine lv_aload_n hx hb dX12_image_15 rfl (lv_at hl 0 rfl) ?_
      refine lv_iconst (v := (-1)) hx hb dX12_image_16 (by decide) ?_
      refine kci (S := Su) (wr := [(w0, .inl (K 0, 5500, .inl fw)), (i0, .inl (K 0, 11000, .inl fi)), (k0, .inl (K 1, 2, .inl fk))]) (va_runV (As := [.int (-1)]) (rest := []) ⟨hx, hb, hml, hown, hts⟩ (v_tell l D K m0 (-1) (.int 0) sta r0 (.ref w0) (.ref i0) (.ref k0) m_6 m_7 m_8 m_9 m_10 m_11 m_12 m_13 m_14 m_15 m_16 m_17 m_18 m_19 m_20 m_21 m_22 m_23 m_24 m_25 m_26 m_27 m_28 m_29 m_30 m_31 m_32 m_33 m_34 m_35 m_36 m_37 m_38 m_39 m_40 m_41 m_42 m_43 m_44 m_45 m_46 m_47 m_48 m_49 m_50 m_51 m_52 m_53 m_54 m_55 m_56 m_57 m_58 m_59 frf H.size (by first | omega | decide)) (cwV 1 hts gX12_image_X12_tell rfl rfl rfl (by decide +kernel) ⟨Nat.le_of_ble_eq_true rfl, Nat.le_of_ble_eq_true rfl⟩) (mkV hK hN (hP.sub [0, 4] rfl) (hD.sub [0, 4] (by decide) rfl) (ci := 12) (q0 := 0) rfl rfl) rfl rfl hl.1 rfl (lv_room (Nat.le_of_ble_eq_true rfl)) dX12_image_17 ⟨Nat.le_of_ble_eq_true rfl, Nat.le_of_ble_eq_true rfl⟩) hP hD hS hA [0, 4] [1, 2, 3] rfl rfl (by decide) (by decide) (fun r_363 u_364 H locs hw hP hD hS => ?_)
      have hP : va_P D vwCl [(w0, .inl (K 0, 5500, .inl fw)), (i0, .inl (K 0, 11000, .inl fi)), (k0, .inl (K 1, 2, .inl fk)), (m0, .inr (12, [.int 0, .int (u_364.2.2.2.1 0), .ref r0, .ref w0, .ref i0, .ref k0, m_6, m_7, m_8, m_9, m_10, m_11, m_12, m_13, m_14, m_15, m_16, m_17, m_18, m_19, m_20, m_21, m_22, m_23, m_24, m_25, m_26, m_27, m_28, m_29, m_30, m_31, m_32, m_33, m_34, m_35, m_36, m_37, m_38, m_39, m_40, m_41, m_42, m_43, m_44, m_45, m_46, m_47, m_48, m_49, m_50, m_51, m_52, m_53, m_54, m_55, m_56, m_57, m_58, m_59])), (r0, .inl (K 0, 7, .inl (u_364.2.1 0)))] H := hP
      have hD : va_D A [(w0, .inl (K 0, 5500, .inl fw)), (i0, .inl (K 0, 11000, .inl fi)), (k0, .inl (K 1, 2, .inl fk)), (m0, .inr (12, [.int 0, .int (u_364.2.2.2.1 0), .ref r0, .ref w0, .ref i0, .ref k0, m_6, m_7, m_8, m_9, m_10, m_11, m_12, m_13, m_14, m_15, m_16, m_17, m_18, m_19, m_20, m_21, m_22, m_23, m_24, m_25, m_26, m_27, m_28, m_29, m_30, m_31, m_32, m_33, m_34, m_35, m_36, m_37, m_38, m_39, m_40, m_41, m_42, m_43, m_44, m_45, m_46, m_47, m_48, m_49, m_50, m_51, m_52, m_53, m_54, m_55, m_56, m_57, m_58, m_59])), (r0, .inl (K 0, 7, .inl (u_364.2.1 0)))] := hD
      obtain ⟨h_366, k_365, -⟩ := hw
      rw [← hQ]
      have hP9 := hP.sub (ws' := [(m0, .inr (12, [.int 0, .int (u_364.2.2.2.1 0), .ref r0, .ref w0, .ref i0, .ref k0, m_6, m_7, m_8, m_9, m_10, m_11, m_12, m_13, m_14, m_15, m_16, m_17, m_18, m_19, m_20, m_21, m_22, m_23, m_24, m_25, m_26, m_27, m_28, m_29, m_30, m_31, m_32, m_33, m_34, m_35, m_36, m_37, m_38, m_39, m_40, m_41, m_42, m_43, m_44, m_45, m_46, m_47, m_48, m_49, m_50, m_51, m_52, m_53, m_54, m_55, m_56, m_57, m_58, m_59])), (w0, .inl (K 0, 5500, .inl fw)), (i0, .inl (K 0, 11000, .inl fi)), (k0, .inl (K 1, 2, .inl fk)), (r0, .inl (K 0, 7, .inl (u_364.2.1 0)))]) [3, 0, 1, 2, 4] rfl
      have hD9 := hD.sub (ws' := [(m0, .inr (12, [.int 0, .int (u_364.2.2.2.1 0), .ref r0, .ref w0, .ref i0, .ref k0, m_6, m_7, m_8, m_9, m_10, m_11, m_12, m_13, m_14, m_15, m_16, m_17, m_18, m_19, m_20, m_21, m_22, m_23, m_24, m_25, m_26, m_27, m_28, m_29, m_30, m_31, m_32, m_33, m_34, m_35, m_36, m_37, m_38, m_39, m_40, m_41, m_42, m_43, m_44, m_45, m_46, m_47, m_48, m_49, m_50, m_51, m_52, m_53, m_54, m_55, m_56, m_57, m_58, m_59])), (w0, .inl (K 0, 5500, .inl fw)), (i0, .inl (K 0, 11000, .inl fi)), (k0, .inl (K 1, 2, .inl fk)), (r0, .inl (K 0, 7, .inl (u_364.2.1 0)))]) [3, 0, 1, 2, 4] (by decide) rfl
      exact W.iret (v := r_363) hx hb hr (fun t ht hW => ⟨⟨r_363, ((fun _ => 0, fun i => match i with | 0 => fi | 1 => fk | _ => (u_364.2.1 0), fun _ => fun _ => 0, fun i => match i with | _ => (u_364.2.2.2.1 0), fun _ => 0, fun _ => fun _ => none) : Su), rfl, ⟨(show (-6) ≤ r_363.toInt by omega), (show (-6) ≤ ((u_364.2.2.2.1 0) : Int32).toInt ∧ ((u_364.2.2.2.1 0) : Int32).toInt ≤ 0 by omega), zfi, trivial⟩, (⟨by rw [ht]; exact hP9, hD9⟩ : Wd D A _ t)⟩, hS.F ht⟩) hS.2.2 dX12_image_20
  · obtain rfl : x = 0 := i_lit (b := 0) hx0 rfl
    have hl : lv_has ls 3 [(0, .ref m0), (1, .int 0)] := hl
    refine lv_aload_n hx hb dX12_image_0 rfl (lv_at hl 0 rfl) ?_
    refine lv_iconst (v := 0) hx hb dX12_image_1 (by decide) ?_
    refine va_put (ci := 12) (v := .int 0) (ty := .int) (C := RX12) (T := TX12) (N := 60) hx hb hts hw12 tyX12 tyX12_ok nmX12 hown hK hP hD hS 0 rfl rfl 0 (by decide) (hts (.fieldLink RX12 158 "SmokeTuneModel" "thrown" "I") (List.mem_cons_of_mem _ (List.mem_append_left _ (List.mem_of_getElem? (i := 0) rfl)))) (fun _ h9 => h9) rfl (by decide +kernel) (by first | rfl | decide) (by first | rfl | decide) (Nat.le_of_ble_eq_true rfl) dX12_image_2 (fun H locs hP hD hS => ?_)
    have hP : va_P D vwCl [(m0, .inr (12, [.int 0, .int sta, .ref r0, .ref w0, .ref i0, .ref k0, m_6, m_7, m_8, m_9, m_10, m_11, m_12, m_13, m_14, m_15, m_16, m_17, m_18, m_19, m_20, m_21, m_22, m_23, m_24, m_25, m_26, m_27, m_28, m_29, m_30, m_31, m_32, m_33, m_34, m_35, m_36, m_37, m_38, m_39, m_40, m_41, m_42, m_43, m_44, m_45, m_46, m_47, m_48, m_49, m_50, m_51, m_52, m_53, m_54, m_55, m_56, m_57, m_58, m_59])), (w0, .inl (K 0, 5500, .inl fw)), (i0, .inl (K 0, 11000, .inl fi)), (k0, .inl (K 1, 2, .inl fk)), (r0, .inl (K 0, 7, .inl frf))] H := hP
    have hD : va_D A [(m0, .inr (12, [.int 0, .int sta, .ref r0, .ref w0, .ref i0, .ref k0, m_6, m_7, m_8, m_9, m_10, m_11, m_12, m_13, m_14, m_15, m_16, m_17, m_18, m_19, m_20, m_21, m_22, m_23, m_24, m_25, m_26, m_27, m_28, m_29, m_30, m_31, m_32, m_33, m_34, m_35, m_36, m_37, m_38, m_39, m_40, m_41, m_42, m_43, m_44, m_45, m_46, m_47, m_48, m_49, m_50, m_51, m_52, m_53, m_54, m_55, m_56, m_57, m_58, m_59])), (w0, .inl (K 0, 5500, .inl fw)), (i0, .inl (K 0, 11000, .inl fi)), (k0, .inl (K 1, 2, .inl fk)), (r0, .inl (K 0, 7, .inl frf))] := hD
    refine lv_iload_n hx hb dX12_image_5 rfl (lv_at hl 1 rfl) ?_
    refine lv_i2l (v := 0) hx hb dX12_image_6 (by decide) ?_
    refine lv_lconst (v := 0) hx hb dX12_image_7 (by decide) ?_
    refine lv_lconst (v := 1) hx hb dX12_image_8 (by decide) ?_
    refine pci (va_runS (As := [.long 0, .long 0, .long 1]) (rest := []) ⟨hx, hb, hml, hown, hts⟩ (v_in l D K 0 0 1 0 0 1 H.size (show (0 : Int64).toInt = 0 from rfl) (show (0 : Int64).toInt = 0 from rfl) (show (1 : Int64).toInt = 1 from rfl)) (va_cwS 3 hts gX12_image_X12_in rfl rfl rfl (by decide +kernel) ⟨Nat.le_of_ble_eq_true rfl, Nat.le_of_ble_eq_true rfl⟩) (mkS hK hN (va_P.nil) (va_D.nil (A := fun _ => True))) rfl rfl hl.1 rfl (lv_room (Nat.le_of_ble_eq_true rfl)) dX12_image_9 ⟨Nat.le_of_ble_eq_true rfl, Nat.le_of_ble_eq_true rfl⟩) (fun r_367 hw => ?_)
    obtain ⟨hw, -⟩ := hw
    rcases hw with ⟨rfl, h_368, h_369⟩ | ⟨rfl, h_370⟩
    · refine lv_if_ne (tgt := 21) hx hb dX12_image_12 (by decide) (fun c_371 => ?_) (fun c_371 => absurd c_371 (by decide))
      refine lv_iconst (v := 0) hx hb dX12_image_21 (by decide) ?_
      refine lv_istore_n (lv' := [(2, .int 0), (0, .ref m0), (1, .int 0)]) hx hb dX12_image_22 rfl hl (by decide) rfl (fun ls hl => ?_)
      have lp_417 : ∀ (nn_ : Nat) (v_401 : Int32) (f_402 : Nat → Int32) (hv_401 : 0 ≤ v_401.toInt ∧ v_401.toInt ≤ 5500) (hr0_lp_417 : CpU fw fi f_402 0 (v_401.toInt).toNat) (hn : (5501 - v_401.toInt : Int).toNat < nn_) (H : Heap) (locs : List Loc) (hP : va_P D vwCl [(m0, .inr (12, [.int 0, .int sta, .ref r0, .ref w0, .ref i0, .ref k0, m_6, m_7, m_8, m_9, m_10, m_11, m_12, m_13, m_14, m_15, m_16, m_17, m_18, m_19, m_20, m_21, m_22, m_23, m_24, m_25, m_26, m_27, m_28, m_29, m_30, m_31, m_32, m_33, m_34, m_35, m_36, m_37, m_38, m_39, m_40, m_41, m_42, m_43, m_44, m_45, m_46, m_47, m_48, m_49, m_50, m_51, m_52, m_53, m_54, m_55, m_56, m_57, m_58, m_59])), (w0, .inl (K 0, 5500, .inl fw)), (i0, .inl (K 0, 11000, .inl f_402)), (k0, .inl (K 1, 2, .inl fk)), (r0, .inl (K 0, 7, .inl frf))] H) (hD : va_D A [(m0, .inr (12, [.int 0, .int sta, .ref r0, .ref w0, .ref i0, .ref k0, m_6, m_7, m_8, m_9, m_10, m_11, m_12, m_13, m_14, m_15, m_16, m_17, m_18, m_19, m_20, m_21, m_22, m_23, m_24, m_25, m_26, m_27, m_28, m_29, m_30, m_31, m_32, m_33, m_34, m_35, m_36, m_37, m_38, m_39, m_40, m_41, m_42, m_43, m_44, m_45, m_46, m_47, m_48, m_49, m_50, m_51, m_52, m_53, m_54, m_55, m_56, m_57, m_58, m_59])), (w0, .inl (K 0, 5500, .inl fw)), (i0, .inl (K 0, 11000, .inl f_402)), (k0, .inl (K 1, 2, .inl fk)), (r0, .inl (K 0, 7, .inl frf))]) (hS : va_S A s.heap H locs) (ls : Array Slot) (hl : lv_has ls 3 [(2, .int v_401), (0, .ref m0), (1, .int 0)]), W p l e ({ frames := 1, cells := 0, slots := 0, locals := 25 }) s m (([.ref m0, .int 0] : List Value).toArray) below meth c H locs 0 0 Q (F0 m 23 ls []) := by
        intro nn_
        induction nn_ with
        | zero =>
          intro v_401 f_402 hv_401 hr0_lp_417 hn H locs hP hD hS ls hl
          exact absurd hn (Nat.not_lt_zero _)
        | succ nn_ ih_418 =>
          intro v_401 f_402 hv_401 hr0_lp_417 hn H locs hP hD hS ls hl
          refine lv_iload_n hx hb dX12_image_23 rfl (lv_at hl 0 rfl) ?_
          refine lv_sipush (v := 5500) hx hb dX12_image_24 (by decide) ?_
          refine lv_icmp_ge (tgt := 54) hx hb dX12_image_27 (by decide) (fun c_419 => ?_) (fun c_419 => ?_)
          · have c_419i := i_le (x := 5500) (y := v_401.toInt) rfl rfl c_419
            have him : ImOK f_402 := CpU.fin0 (by have q := hr0_lp_417; rwa [show (v_401.toInt).toNat = 5500 by omega] at q) zfw zfi
            refine lv_aload_n hx hb dX12_image_54 rfl (lv_at hl 1 rfl) ?_
            refine va_get (ci := 12) (v := .ref k0) (C := RX12) (T := TX12) (N := 60) hx hb hts hw12 hown hK hP 0 rfl rfl 5 (by decide) (hts (.fieldLink RX12 19 "SmokeTuneModel" "isKept" "[Z") (List.mem_cons_of_mem _ (List.mem_append_left _ (List.mem_of_getElem? (i := 3) rfl)))) (fun _ h9 => h9) rfl dX12_image_55 ?_
            refine lv_iload_n hx hb dX12_image_58 rfl (lv_at hl 2 rfl) ?_
            refine lv_iconst (v := 1) hx hb dX12_image_59 (by decide) ?_
            refine va_zast hx hb hK hP hD hS 3 1 rfl rfl (i_in (x := 0) rfl (by omega)) dX12_image_60 (fun H locs hP hD hS => ?_)
            generalize hf_420 : (upd fk (0 : Int32).toNatClampNeg (vp_nar .boolean 1)) = f_420 at hP hD
            have hP : va_P D vwCl [(m0, .inr (12, [.int 0, .int sta, .ref r0, .ref w0, .ref i0, .ref k0, m_6, m_7, m_8, m_9, m_10, m_11, m_12, m_13, m_14, m_15, m_16, m_17, m_18, m_19, m_20, m_21, m_22, m_23, m_24, m_25, m_26, m_27, m_28, m_29, m_30, m_31, m_32, m_33, m_34, m_35, m_36, m_37, m_38, m_39, m_40, m_41, m_42, m_43, m_44, m_45, m_46, m_47, m_48, m_49, m_50, m_51, m_52, m_53, m_54, m_55, m_56, m_57, m_58, m_59])), (w0, .inl (K 0, 5500, .inl fw)), (i0, .inl (K 0, 11000, .inl f_402)), (k0, .inl (K 1, 2, .inl f_420)), (r0, .inl (K 0, 7, .inl frf))] H := hP
            have hD : va_D A [(m0, .inr (12, [.int 0, .int sta, .ref r0, .ref w0, .ref i0, .ref k0, m_6, m_7, m_8, m_9, m_10, m_11, m_12, m_13, m_14, m_15, m_16, m_17, m_18, m_19, m_20, m_21, m_22, m_23, m_24, m_25, m_26, m_27, m_28, m_29, m_30, m_31, m_32, m_33, m_34, m_35, m_36, m_37, m_38, m_39, m_40, m_41, m_42, m_43, m_44, m_45, m_46, m_47, m_48, m_49, m_50, m_51, m_52, m_53, m_54, m_55, m_56, m_57, m_58, m_59])), (w0, .inl (K 0, 5500, .inl fw)), (i0, .inl (K 0, 11000, .inl f_402)), (k0, .inl (K 1, 2, .inl f_420)), (r0, .inl (K 0, 7, .inl frf))] := hD
            refine lv_aload_n hx hb dX12_image_61 rfl (lv_at hl 1 rfl) ?_
            refine lv_iconst (v := 0) hx hb dX12_image_62 (by decide) ?_
            refine kci (S := Su) (wr := [(w0, .inl (K 0, 5500, .inl fw)), (i0, .inl (K 0, 11000, .inl f_402)), (k0, .inl (K 1, 2, .inl f_420))]) (va_runV (As := [.int 0]) (rest := []) ⟨hx, hb, hml, hown, hts⟩ (v_tell l D K m0 0 (.int 0) sta r0 (.ref w0) (.ref i0) (.ref k0) m_6 m_7 m_8 m_9 m_10 m_11 m_12 m_13 m_14 m_15 m_16 m_17 m_18 m_19 m_20 m_21 m_22 m_23 m_24 m_25 m_26 m_27 m_28 m_29 m_30 m_31 m_32 m_33 m_34 m_35 m_36 m_37 m_38 m_39 m_40 m_41 m_42 m_43 m_44 m_45 m_46 m_47 m_48 m_49 m_50 m_51 m_52 m_53 m_54 m_55 m_56 m_57 m_58 m_59 frf H.size (by first | omega | decide)) (cwV 1 hts gX12_image_X12_tell rfl rfl rfl (by decide +kernel) ⟨Nat.le_of_ble_eq_true rfl, Nat.le_of_ble_eq_true rfl⟩) (mkV hK hN (hP.sub [0, 4] rfl) (hD.sub [0, 4] (by decide) rfl) (ci := 12) (q0 := 0) rfl rfl) rfl rfl hl.1 rfl (lv_room (Nat.le_of_ble_eq_true rfl)) dX12_image_63 ⟨Nat.le_of_ble_eq_true rfl, Nat.le_of_ble_eq_true rfl⟩) hP hD hS hA [0, 4] [1, 2, 3] rfl rfl (by decide) (by decide) (fun r_421 u_422 H locs hw hP hD hS => ?_)
            have hP : va_P D vwCl [(w0, .inl (K 0, 5500, .inl fw)), (i0, .inl (K 0, 11000, .inl f_402)), (k0, .inl (K 1, 2, .inl f_420)), (m0, .inr (12, [.int 0, .int (u_422.2.2.2.1 0), .ref r0, .ref w0, .ref i0, .ref k0, m_6, m_7, m_8, m_9, m_10, m_11, m_12, m_13, m_14, m_15, m_16, m_17, m_18, m_19, m_20, m_21, m_22, m_23, m_24, m_25, m_26, m_27, m_28, m_29, m_30, m_31, m_32, m_33, m_34, m_35, m_36, m_37, m_38, m_39, m_40, m_41, m_42, m_43, m_44, m_45, m_46, m_47, m_48, m_49, m_50, m_51, m_52, m_53, m_54, m_55, m_56, m_57, m_58, m_59])), (r0, .inl (K 0, 7, .inl (u_422.2.1 0)))] H := hP
            have hD : va_D A [(w0, .inl (K 0, 5500, .inl fw)), (i0, .inl (K 0, 11000, .inl f_402)), (k0, .inl (K 1, 2, .inl f_420)), (m0, .inr (12, [.int 0, .int (u_422.2.2.2.1 0), .ref r0, .ref w0, .ref i0, .ref k0, m_6, m_7, m_8, m_9, m_10, m_11, m_12, m_13, m_14, m_15, m_16, m_17, m_18, m_19, m_20, m_21, m_22, m_23, m_24, m_25, m_26, m_27, m_28, m_29, m_30, m_31, m_32, m_33, m_34, m_35, m_36, m_37, m_38, m_39, m_40, m_41, m_42, m_43, m_44, m_45, m_46, m_47, m_48, m_49, m_50, m_51, m_52, m_53, m_54, m_55, m_56, m_57, m_58, m_59])), (r0, .inl (K 0, 7, .inl (u_422.2.1 0)))] := hD
            obtain ⟨h_424, k_423, -⟩ := hw
            rw [← hQ]
            have hP9 := hP.sub (ws' := [(m0, .inr (12, [.int 0, .int (u_422.2.2.2.1 0), .ref r0, .ref w0, .ref i0, .ref k0, m_6, m_7, m_8, m_9, m_10, m_11, m_12, m_13, m_14, m_15, m_16, m_17, m_18, m_19, m_20, m_21, m_22, m_23, m_24, m_25, m_26, m_27, m_28, m_29, m_30, m_31, m_32, m_33, m_34, m_35, m_36, m_37, m_38, m_39, m_40, m_41, m_42, m_43, m_44, m_45, m_46, m_47, m_48, m_49, m_50, m_51, m_52, m_53, m_54, m_55, m_56, m_57, m_58, m_59])), (w0, .inl (K 0, 5500, .inl fw)), (i0, .inl (K 0, 11000, .inl f_402)), (k0, .inl (K 1, 2, .inl f_420)), (r0, .inl (K 0, 7, .inl (u_422.2.1 0)))]) [3, 0, 1, 2, 4] rfl
            have hD9 := hD.sub (ws' := [(m0, .inr (12, [.int 0, .int (u_422.2.2.2.1 0), .ref r0, .ref w0, .ref i0, .ref k0, m_6, m_7, m_8, m_9, m_10, m_11, m_12, m_13, m_14, m_15, m_16, m_17, m_18, m_19, m_20, m_21, m_22, m_23, m_24, m_25, m_26, m_27, m_28, m_29, m_30, m_31, m_32, m_33, m_34, m_35, m_36, m_37, m_38, m_39, m_40, m_41, m_42, m_43, m_44, m_45, m_46, m_47, m_48, m_49, m_50, m_51, m_52, m_53, m_54, m_55, m_56, m_57, m_58, m_59])), (w0, .inl (K 0, 5500, .inl fw)), (i0, .inl (K 0, 11000, .inl f_402)), (k0, .inl (K 1, 2, .inl f_420)), (r0, .inl (K 0, 7, .inl (u_422.2.1 0)))]) [3, 0, 1, 2, 4] (by decide) rfl
            exact W.iret (v := r_421) hx hb hr (fun t ht hW => ⟨⟨r_421, ((fun _ => 0, fun i => match i with | 0 => f_402 | 1 => f_420 | _ => (u_422.2.1 0), fun _ => fun _ => 0, fun i => match i with | _ => (u_422.2.2.2.1 0), fun _ => 0, fun _ => fun _ => none) : Su), rfl, ⟨(show (-6) ≤ r_421.toInt by omega), (show (-6) ≤ ((u_422.2.2.2.1 0) : Int32).toInt ∧ ((u_422.2.2.2.1 0) : Int32).toInt ≤ 0 by omega), him, trivial⟩, (⟨by rw [ht]; exact hP9, hD9⟩ : Wd D A _ t)⟩, hS.F ht⟩) hS.2.2 dX12_image_66
          · have c_419i := i_nle (x := 5500) (y := v_401.toInt) rfl rfl c_419
            refine lv_aload_n hx hb dX12_image_30 rfl (lv_at hl 1 rfl) ?_
            refine va_get (ci := 12) (v := .ref i0) (C := RX12) (T := TX12) (N := 60) hx hb hts hw12 hown hK hP 0 rfl rfl 4 (by decide) (hts (.fieldLink RX12 16 "SmokeTuneModel" "images" "[I") (List.mem_cons_of_mem _ (List.mem_append_left _ (List.mem_of_getElem? (i := 1) rfl)))) (fun _ h9 => h9) rfl dX12_image_31 ?_
            refine lv_sipush (v := 5500) hx hb dX12_image_34 (by decide) ?_
            refine lv_iload_n hx hb dX12_image_37 rfl (lv_at hl 2 rfl) ?_
            refine lv_imul hx hb dX12_image_38 ?_
            refine lv_topi (fun x_425 ex_425 => ?_)
            obtain rfl : x_425 = 0 := ex_425.trans (by first | rfl | decide)
            refine lv_iload_n hx hb dX12_image_39 rfl (lv_at hl 0 rfl) ?_
            refine lv_iadd hx hb dX12_image_40 ?_
            refine lv_topi (fun x_426 ex_426 => ?_)
            have hx_426 : x_426.toInt = (0 + v_401.toInt) := by rw [ex_426]; exact i_add (show (0 : Int32).toInt = 0 from rfl) rfl (by omega)
            refine lv_aload_n hx hb dX12_image_41 rfl (lv_at hl 1 rfl) ?_
            refine va_get (ci := 12) (v := .ref w0) (C := RX12) (T := TX12) (N := 60) hx hb hts hw12 hown hK hP 0 rfl rfl 3 (by decide) (hts (.fieldLink RX12 13 "SmokeTuneModel" "row" "[I") (List.mem_cons_of_mem _ (List.mem_append_left _ (List.mem_of_getElem? (i := 2) rfl)))) (fun _ h9 => h9) rfl dX12_image_42 ?_
            refine lv_iload_n hx hb dX12_image_45 rfl (lv_at hl 0 rfl) ?_
            refine va_iald hx hb hK hP 1 0 rfl rfl (i_in rfl (by omega)) dX12_image_46 ?_
            refine lv_topi (fun x_427 ex_427 => ?_)
            refine va_iast hx hb hK hP hD hS 2 0 rfl rfl (i_in hx_426 (by omega)) dX12_image_47 (fun H locs hP hD hS => ?_)
            generalize hf_428 : (upd f_402 (x_426 : Int32).toNatClampNeg x_427) = f_428 at hP hD
            have hP : va_P D vwCl [(m0, .inr (12, [.int 0, .int sta, .ref r0, .ref w0, .ref i0, .ref k0, m_6, m_7, m_8, m_9, m_10, m_11, m_12, m_13, m_14, m_15, m_16, m_17, m_18, m_19, m_20, m_21, m_22, m_23, m_24, m_25, m_26, m_27, m_28, m_29, m_30, m_31, m_32, m_33, m_34, m_35, m_36, m_37, m_38, m_39, m_40, m_41, m_42, m_43, m_44, m_45, m_46, m_47, m_48, m_49, m_50, m_51, m_52, m_53, m_54, m_55, m_56, m_57, m_58, m_59])), (w0, .inl (K 0, 5500, .inl fw)), (i0, .inl (K 0, 11000, .inl f_428)), (k0, .inl (K 1, 2, .inl fk)), (r0, .inl (K 0, 7, .inl frf))] H := hP
            have hD : va_D A [(m0, .inr (12, [.int 0, .int sta, .ref r0, .ref w0, .ref i0, .ref k0, m_6, m_7, m_8, m_9, m_10, m_11, m_12, m_13, m_14, m_15, m_16, m_17, m_18, m_19, m_20, m_21, m_22, m_23, m_24, m_25, m_26, m_27, m_28, m_29, m_30, m_31, m_32, m_33, m_34, m_35, m_36, m_37, m_38, m_39, m_40, m_41, m_42, m_43, m_44, m_45, m_46, m_47, m_48, m_49, m_50, m_51, m_52, m_53, m_54, m_55, m_56, m_57, m_58, m_59])), (w0, .inl (K 0, 5500, .inl fw)), (i0, .inl (K 0, 11000, .inl f_428)), (k0, .inl (K 1, 2, .inl fk)), (r0, .inl (K 0, 7, .inl frf))] := hD
            obtain ⟨x_429, ex_429⟩ : ∃ y : Int32, y = v_401 + Int32.ofInt 1 := ⟨_, rfl⟩
            have hx_429 : x_429.toInt = (v_401.toInt + 1) := by rw [ex_429]; exact i_add rfl (show (Int32.ofInt 1).toInt = 1 from rfl) (by omega)
            refine lv_iinc (v := x_429) (lv' := [(2, .int x_429), (0, .ref m0), (1, .int 0)]) hx hb dX12_image_48 hl (k := 0) rfl (by rw [ex_429]) (by decide) rfl (fun ls hl => ?_)
            refine lv_goto (tgt := 23) hx hb dX12_image_51 (by decide) ?_
            exact ih_418 x_429 f_428 (by rw [hx_429]; omega) (show CpU fw fi f_428 0 ((x_429 : Int32).toInt).toNat by rw [← hf_428, i_clamp (x := x_426) (z := (0 + v_401.toInt)) hx_426, ex_427, i_clamp (x := v_401) (z := v_401.toInt) rfl, show ((0 + v_401.toInt)).toNat = 0 + (v_401.toInt).toNat by omega, show (x_429 : Int32).toInt.toNat = (v_401.toInt).toNat + 1 by omega]; exact CpU.step hr0_lp_417 (by omega)) (by omega) _ _ hP hD hS ls (lv_sub hl [0, 1, 2] rfl)
      have hz_430 : (0 : Int32).toInt = 0 := rfl
      exact lp_417 ((5501 - (0 : Int32).toInt : Int).toNat + 1) 0 fi (by decide) (show CpU fw fi fi 0 ((0 : Int32).toInt).toNat by exact CpU.base) (Nat.lt_succ_self _) _ _ hP hD hS ls (lv_sub hl [0, 1, 2] rfl)
    · exfalso; omega
  · obtain rfl : x = 1 := i_lit (b := 1) hx0 rfl
    have hl : lv_has ls 3 [(0, .ref m0), (1, .int 1)] := hl
    refine lv_aload_n hx hb dX12_image_0 rfl (lv_at hl 0 rfl) ?_
    refine lv_iconst (v := 0) hx hb dX12_image_1 (by decide) ?_
    refine va_put (ci := 12) (v := .int 0) (ty := .int) (C := RX12) (T := TX12) (N := 60) hx hb hts hw12 tyX12 tyX12_ok nmX12 hown hK hP hD hS 0 rfl rfl 0 (by decide) (hts (.fieldLink RX12 158 "SmokeTuneModel" "thrown" "I") (List.mem_cons_of_mem _ (List.mem_append_left _ (List.mem_of_getElem? (i := 0) rfl)))) (fun _ h9 => h9) rfl (by decide +kernel) (by first | rfl | decide) (by first | rfl | decide) (Nat.le_of_ble_eq_true rfl) dX12_image_2 (fun H locs hP hD hS => ?_)
    have hP : va_P D vwCl [(m0, .inr (12, [.int 0, .int sta, .ref r0, .ref w0, .ref i0, .ref k0, m_6, m_7, m_8, m_9, m_10, m_11, m_12, m_13, m_14, m_15, m_16, m_17, m_18, m_19, m_20, m_21, m_22, m_23, m_24, m_25, m_26, m_27, m_28, m_29, m_30, m_31, m_32, m_33, m_34, m_35, m_36, m_37, m_38, m_39, m_40, m_41, m_42, m_43, m_44, m_45, m_46, m_47, m_48, m_49, m_50, m_51, m_52, m_53, m_54, m_55, m_56, m_57, m_58, m_59])), (w0, .inl (K 0, 5500, .inl fw)), (i0, .inl (K 0, 11000, .inl fi)), (k0, .inl (K 1, 2, .inl fk)), (r0, .inl (K 0, 7, .inl frf))] H := hP
    have hD : va_D A [(m0, .inr (12, [.int 0, .int sta, .ref r0, .ref w0, .ref i0, .ref k0, m_6, m_7, m_8, m_9, m_10, m_11, m_12, m_13, m_14, m_15, m_16, m_17, m_18, m_19, m_20, m_21, m_22, m_23, m_24, m_25, m_26, m_27, m_28, m_29, m_30, m_31, m_32, m_33, m_34, m_35, m_36, m_37, m_38, m_39, m_40, m_41, m_42, m_43, m_44, m_45, m_46, m_47, m_48, m_49, m_50, m_51, m_52, m_53, m_54, m_55, m_56, m_57, m_58, m_59])), (w0, .inl (K 0, 5500, .inl fw)), (i0, .inl (K 0, 11000, .inl fi)), (k0, .inl (K 1, 2, .inl fk)), (r0, .inl (K 0, 7, .inl frf))] := hD
    refine lv_iload_n hx hb dX12_image_5 rfl (lv_at hl 1 rfl) ?_
    refine lv_i2l (v := 1) hx hb dX12_image_6 (by decide) ?_
    refine lv_lconst (v := 0) hx hb dX12_image_7 (by decide) ?_
    refine lv_lconst (v := 1) hx hb dX12_image_8 (by decide) ?_
    refine pci (va_runS (As := [.long 1, .long 0, .long 1]) (rest := []) ⟨hx, hb, hml, hown, hts⟩ (v_in l D K 1 0 1 1 0 1 H.size (show (1 : Int64).toInt = 1 from rfl) (show (0 : Int64).toInt = 0 from rfl) (show (1 : Int64).toInt = 1 from rfl)) (va_cwS 3 hts gX12_image_X12_in rfl rfl rfl (by decide +kernel) ⟨Nat.le_of_ble_eq_true rfl, Nat.le_of_ble_eq_true rfl⟩) (mkS hK hN (va_P.nil) (va_D.nil (A := fun _ => True))) rfl rfl hl.1 rfl (lv_room (Nat.le_of_ble_eq_true rfl)) dX12_image_9 ⟨Nat.le_of_ble_eq_true rfl, Nat.le_of_ble_eq_true rfl⟩) (fun r_431 hw => ?_)
    obtain ⟨hw, -⟩ := hw
    rcases hw with ⟨rfl, h_432, h_433⟩ | ⟨rfl, h_434⟩
    · refine lv_if_ne (tgt := 21) hx hb dX12_image_12 (by decide) (fun c_435 => ?_) (fun c_435 => absurd c_435 (by decide))
      refine lv_iconst (v := 0) hx hb dX12_image_21 (by decide) ?_
      refine lv_istore_n (lv' := [(2, .int 0), (0, .ref m0), (1, .int 1)]) hx hb dX12_image_22 rfl hl (by decide) rfl (fun ls hl => ?_)
      have lp_481 : ∀ (nn_ : Nat) (v_465 : Int32) (f_466 : Nat → Int32) (hv_465 : 0 ≤ v_465.toInt ∧ v_465.toInt ≤ 5500) (hr0_lp_481 : CpU fw fi f_466 5500 (v_465.toInt).toNat) (hn : (5501 - v_465.toInt : Int).toNat < nn_) (H : Heap) (locs : List Loc) (hP : va_P D vwCl [(m0, .inr (12, [.int 0, .int sta, .ref r0, .ref w0, .ref i0, .ref k0, m_6, m_7, m_8, m_9, m_10, m_11, m_12, m_13, m_14, m_15, m_16, m_17, m_18, m_19, m_20, m_21, m_22, m_23, m_24, m_25, m_26, m_27, m_28, m_29, m_30, m_31, m_32, m_33, m_34, m_35, m_36, m_37, m_38, m_39, m_40, m_41, m_42, m_43, m_44, m_45, m_46, m_47, m_48, m_49, m_50, m_51, m_52, m_53, m_54, m_55, m_56, m_57, m_58, m_59])), (w0, .inl (K 0, 5500, .inl fw)), (i0, .inl (K 0, 11000, .inl f_466)), (k0, .inl (K 1, 2, .inl fk)), (r0, .inl (K 0, 7, .inl frf))] H) (hD : va_D A [(m0, .inr (12, [.int 0, .int sta, .ref r0, .ref w0, .ref i0, .ref k0, m_6, m_7, m_8, m_9, m_10, m_11, m_12, m_13, m_14, m_15, m_16, m_17, m_18, m_19, m_20, m_21, m_22, m_23, m_24, m_25, m_26, m_27, m_28, m_29, m_30, m_31, m_32, m_33, m_34, m_35, m_36, m_37, m_38, m_39, m_40, m_41, m_42, m_43, m_44, m_45, m_46, m_47, m_48, m_49, m_50, m_51, m_52, m_53, m_54, m_55, m_56, m_57, m_58, m_59])), (w0, .inl (K 0, 5500, .inl fw)), (i0, .inl (K 0, 11000, .inl f_466)), (k0, .inl (K 1, 2, .inl fk)), (r0, .inl (K 0, 7, .inl frf))]) (hS : va_S A s.heap H locs) (ls : Array Slot) (hl : lv_has ls 3 [(2, .int v_465), (0, .ref m0), (1, .int 1)]), W p l e ({ frames := 1, cells := 0, slots := 0, locals := 25 }) s m (([.ref m0, .int 1] : List Value).toArray) below meth c H locs 0 0 Q (F0 m 23 ls []) := by
        intro nn_
        induction nn_ with
        | zero =>
          intro v_465 f_466 hv_465 hr0_lp_481 hn H locs hP hD hS ls hl
          exact absurd hn (Nat.not_lt_zero _)
        | succ nn_ ih_482 =>
          intro v_465 f_466 hv_465 hr0_lp_481 hn H locs hP hD hS ls hl
          refine lv_iload_n hx hb dX12_image_23 rfl (lv_at hl 0 rfl) ?_
          refine lv_sipush (v := 5500) hx hb dX12_image_24 (by decide) ?_
          refine lv_icmp_ge (tgt := 54) hx hb dX12_image_27 (by decide) (fun c_483 => ?_) (fun c_483 => ?_)
          · have c_483i := i_le (x := 5500) (y := v_465.toInt) rfl rfl c_483
            have him : ImOK f_466 := CpU.fin1 (by have q := hr0_lp_481; rwa [show (v_465.toInt).toNat = 5500 by omega] at q) zfw zfi
            refine lv_aload_n hx hb dX12_image_54 rfl (lv_at hl 1 rfl) ?_
            refine va_get (ci := 12) (v := .ref k0) (C := RX12) (T := TX12) (N := 60) hx hb hts hw12 hown hK hP 0 rfl rfl 5 (by decide) (hts (.fieldLink RX12 19 "SmokeTuneModel" "isKept" "[Z") (List.mem_cons_of_mem _ (List.mem_append_left _ (List.mem_of_getElem? (i := 3) rfl)))) (fun _ h9 => h9) rfl dX12_image_55 ?_
            refine lv_iload_n hx hb dX12_image_58 rfl (lv_at hl 2 rfl) ?_
            refine lv_iconst (v := 1) hx hb dX12_image_59 (by decide) ?_
            refine va_zast hx hb hK hP hD hS 3 1 rfl rfl (i_in (x := 1) rfl (by omega)) dX12_image_60 (fun H locs hP hD hS => ?_)
            generalize hf_484 : (upd fk (1 : Int32).toNatClampNeg (vp_nar .boolean 1)) = f_484 at hP hD
            have hP : va_P D vwCl [(m0, .inr (12, [.int 0, .int sta, .ref r0, .ref w0, .ref i0, .ref k0, m_6, m_7, m_8, m_9, m_10, m_11, m_12, m_13, m_14, m_15, m_16, m_17, m_18, m_19, m_20, m_21, m_22, m_23, m_24, m_25, m_26, m_27, m_28, m_29, m_30, m_31, m_32, m_33, m_34, m_35, m_36, m_37, m_38, m_39, m_40, m_41, m_42, m_43, m_44, m_45, m_46, m_47, m_48, m_49, m_50, m_51, m_52, m_53, m_54, m_55, m_56, m_57, m_58, m_59])), (w0, .inl (K 0, 5500, .inl fw)), (i0, .inl (K 0, 11000, .inl f_466)), (k0, .inl (K 1, 2, .inl f_484)), (r0, .inl (K 0, 7, .inl frf))] H := hP
            have hD : va_D A [(m0, .inr (12, [.int 0, .int sta, .ref r0, .ref w0, .ref i0, .ref k0, m_6, m_7, m_8, m_9, m_10, m_11, m_12, m_13, m_14, m_15, m_16, m_17, m_18, m_19, m_20, m_21, m_22, m_23, m_24, m_25, m_26, m_27, m_28, m_29, m_30, m_31, m_32, m_33, m_34, m_35, m_36, m_37, m_38, m_39, m_40, m_41, m_42, m_43, m_44, m_45, m_46, m_47, m_48, m_49, m_50, m_51, m_52, m_53, m_54, m_55, m_56, m_57, m_58, m_59])), (w0, .inl (K 0, 5500, .inl fw)), (i0, .inl (K 0, 11000, .inl f_466)), (k0, .inl (K 1, 2, .inl f_484)), (r0, .inl (K 0, 7, .inl frf))] := hD
            refine lv_aload_n hx hb dX12_image_61 rfl (lv_at hl 1 rfl) ?_
            refine lv_iconst (v := 0) hx hb dX12_image_62 (by decide) ?_
            refine kci (S := Su) (wr := [(w0, .inl (K 0, 5500, .inl fw)), (i0, .inl (K 0, 11000, .inl f_466)), (k0, .inl (K 1, 2, .inl f_484))]) (va_runV (As := [.int 0]) (rest := []) ⟨hx, hb, hml, hown, hts⟩ (v_tell l D K m0 0 (.int 0) sta r0 (.ref w0) (.ref i0) (.ref k0) m_6 m_7 m_8 m_9 m_10 m_11 m_12 m_13 m_14 m_15 m_16 m_17 m_18 m_19 m_20 m_21 m_22 m_23 m_24 m_25 m_26 m_27 m_28 m_29 m_30 m_31 m_32 m_33 m_34 m_35 m_36 m_37 m_38 m_39 m_40 m_41 m_42 m_43 m_44 m_45 m_46 m_47 m_48 m_49 m_50 m_51 m_52 m_53 m_54 m_55 m_56 m_57 m_58 m_59 frf H.size (by first | omega | decide)) (cwV 1 hts gX12_image_X12_tell rfl rfl rfl (by decide +kernel) ⟨Nat.le_of_ble_eq_true rfl, Nat.le_of_ble_eq_true rfl⟩) (mkV hK hN (hP.sub [0, 4] rfl) (hD.sub [0, 4] (by decide) rfl) (ci := 12) (q0 := 0) rfl rfl) rfl rfl hl.1 rfl (lv_room (Nat.le_of_ble_eq_true rfl)) dX12_image_63 ⟨Nat.le_of_ble_eq_true rfl, Nat.le_of_ble_eq_true rfl⟩) hP hD hS hA [0, 4] [1, 2, 3] rfl rfl (by decide) (by decide) (fun r_485 u_486 H locs hw hP hD hS => ?_)
            have hP : va_P D vwCl [(w0, .inl (K 0, 5500, .inl fw)), (i0, .inl (K 0, 11000, .inl f_466)), (k0, .inl (K 1, 2, .inl f_484)), (m0, .inr (12, [.int 0, .int (u_486.2.2.2.1 0), .ref r0, .ref w0, .ref i0, .ref k0, m_6, m_7, m_8, m_9, m_10, m_11, m_12, m_13, m_14, m_15, m_16, m_17, m_18, m_19, m_20, m_21, m_22, m_23, m_24, m_25, m_26, m_27, m_28, m_29, m_30, m_31, m_32, m_33, m_34, m_35, m_36, m_37, m_38, m_39, m_40, m_41, m_42, m_43, m_44, m_45, m_46, m_47, m_48, m_49, m_50, m_51, m_52, m_53, m_54, m_55, m_56, m_57, m_58, m_59])), (r0, .inl (K 0, 7, .inl (u_486.2.1 0)))] H := hP
            have hD : va_D A [(w0, .inl (K 0, 5500, .inl fw)), (i0, .inl (K 0, 11000, .inl f_466)), (k0, .inl (K 1, 2, .inl f_484)), (m0, .inr (12, [.int 0, .int (u_486.2.2.2.1 0), .ref r0, .ref w0, .ref i0, .ref k0, m_6, m_7, m_8, m_9, m_10, m_11, m_12, m_13, m_14, m_15, m_16, m_17, m_18, m_19, m_20, m_21, m_22, m_23, m_24, m_25, m_26, m_27, m_28, m_29, m_30, m_31, m_32, m_33, m_34, m_35, m_36, m_37, m_38, m_39, m_40, m_41, m_42, m_43, m_44, m_45, m_46, m_47, m_48, m_49, m_50, m_51, m_52, m_53, m_54, m_55, m_56, m_57, m_58, m_59])), (r0, .inl (K 0, 7, .inl (u_486.2.1 0)))] := hD
            obtain ⟨h_488, k_487, -⟩ := hw
            rw [← hQ]
            have hP9 := hP.sub (ws' := [(m0, .inr (12, [.int 0, .int (u_486.2.2.2.1 0), .ref r0, .ref w0, .ref i0, .ref k0, m_6, m_7, m_8, m_9, m_10, m_11, m_12, m_13, m_14, m_15, m_16, m_17, m_18, m_19, m_20, m_21, m_22, m_23, m_24, m_25, m_26, m_27, m_28, m_29, m_30, m_31, m_32, m_33, m_34, m_35, m_36, m_37, m_38, m_39, m_40, m_41, m_42, m_43, m_44, m_45, m_46, m_47, m_48, m_49, m_50, m_51, m_52, m_53, m_54, m_55, m_56, m_57, m_58, m_59])), (w0, .inl (K 0, 5500, .inl fw)), (i0, .inl (K 0, 11000, .inl f_466)), (k0, .inl (K 1, 2, .inl f_484)), (r0, .inl (K 0, 7, .inl (u_486.2.1 0)))]) [3, 0, 1, 2, 4] rfl
            have hD9 := hD.sub (ws' := [(m0, .inr (12, [.int 0, .int (u_486.2.2.2.1 0), .ref r0, .ref w0, .ref i0, .ref k0, m_6, m_7, m_8, m_9, m_10, m_11, m_12, m_13, m_14, m_15, m_16, m_17, m_18, m_19, m_20, m_21, m_22, m_23, m_24, m_25, m_26, m_27, m_28, m_29, m_30, m_31, m_32, m_33, m_34, m_35, m_36, m_37, m_38, m_39, m_40, m_41, m_42, m_43, m_44, m_45, m_46, m_47, m_48, m_49, m_50, m_51, m_52, m_53, m_54, m_55, m_56, m_57, m_58, m_59])), (w0, .inl (K 0, 5500, .inl fw)), (i0, .inl (K 0, 11000, .inl f_466)), (k0, .inl (K 1, 2, .inl f_484)), (r0, .inl (K 0, 7, .inl (u_486.2.1 0)))]) [3, 0, 1, 2, 4] (by decide) rfl
            exact W.iret (v := r_485) hx hb hr (fun t ht hW => ⟨⟨r_485, ((fun _ => 0, fun i => match i with | 0 => f_466 | 1 => f_484 | _ => (u_486.2.1 0), fun _ => fun _ => 0, fun i => match i with | _ => (u_486.2.2.2.1 0), fun _ => 0, fun _ => fun _ => none) : Su), rfl, ⟨(show (-6) ≤ r_485.toInt by omega), (show (-6) ≤ ((u_486.2.2.2.1 0) : Int32).toInt ∧ ((u_486.2.2.2.1 0) : Int32).toInt ≤ 0 by omega), him, trivial⟩, (⟨by rw [ht]; exact hP9, hD9⟩ : Wd D A _ t)⟩, hS.F ht⟩) hS.2.2 dX12_image_66
          · have c_483i := i_nle (x := 5500) (y := v_465.toInt) rfl rfl c_483
            refine lv_aload_n hx hb dX12_image_30 rfl (lv_at hl 1 rfl) ?_
            refine va_get (ci := 12) (v := .ref i0) (C := RX12) (T := TX12) (N := 60) hx hb hts hw12 hown hK hP 0 rfl rfl 4 (by decide) (hts (.fieldLink RX12 16 "SmokeTuneModel" "images" "[I") (List.mem_cons_of_mem _ (List.mem_append_left _ (List.mem_of_getElem? (i := 1) rfl)))) (fun _ h9 => h9) rfl dX12_image_31 ?_
            refine lv_sipush (v := 5500) hx hb dX12_image_34 (by decide) ?_
            refine lv_iload_n hx hb dX12_image_37 rfl (lv_at hl 2 rfl) ?_
            refine lv_imul hx hb dX12_image_38 ?_
            refine lv_topi (fun x_489 ex_489 => ?_)
            obtain rfl : x_489 = 5500 := ex_489.trans (by first | rfl | decide)
            refine lv_iload_n hx hb dX12_image_39 rfl (lv_at hl 0 rfl) ?_
            refine lv_iadd hx hb dX12_image_40 ?_
            refine lv_topi (fun x_490 ex_490 => ?_)
            have hx_490 : x_490.toInt = (5500 + v_465.toInt) := by rw [ex_490]; exact i_add (show (5500 : Int32).toInt = 5500 from rfl) rfl (by omega)
            refine lv_aload_n hx hb dX12_image_41 rfl (lv_at hl 1 rfl) ?_
            refine va_get (ci := 12) (v := .ref w0) (C := RX12) (T := TX12) (N := 60) hx hb hts hw12 hown hK hP 0 rfl rfl 3 (by decide) (hts (.fieldLink RX12 13 "SmokeTuneModel" "row" "[I") (List.mem_cons_of_mem _ (List.mem_append_left _ (List.mem_of_getElem? (i := 2) rfl)))) (fun _ h9 => h9) rfl dX12_image_42 ?_
            refine lv_iload_n hx hb dX12_image_45 rfl (lv_at hl 0 rfl) ?_
            refine va_iald hx hb hK hP 1 0 rfl rfl (i_in rfl (by omega)) dX12_image_46 ?_
            refine lv_topi (fun x_491 ex_491 => ?_)
            refine va_iast hx hb hK hP hD hS 2 0 rfl rfl (i_in hx_490 (by omega)) dX12_image_47 (fun H locs hP hD hS => ?_)
            generalize hf_492 : (upd f_466 (x_490 : Int32).toNatClampNeg x_491) = f_492 at hP hD
            have hP : va_P D vwCl [(m0, .inr (12, [.int 0, .int sta, .ref r0, .ref w0, .ref i0, .ref k0, m_6, m_7, m_8, m_9, m_10, m_11, m_12, m_13, m_14, m_15, m_16, m_17, m_18, m_19, m_20, m_21, m_22, m_23, m_24, m_25, m_26, m_27, m_28, m_29, m_30, m_31, m_32, m_33, m_34, m_35, m_36, m_37, m_38, m_39, m_40, m_41, m_42, m_43, m_44, m_45, m_46, m_47, m_48, m_49, m_50, m_51, m_52, m_53, m_54, m_55, m_56, m_57, m_58, m_59])), (w0, .inl (K 0, 5500, .inl fw)), (i0, .inl (K 0, 11000, .inl f_492)), (k0, .inl (K 1, 2, .inl fk)), (r0, .inl (K 0, 7, .inl frf))] H := hP
            have hD : va_D A [(m0, .inr (12, [.int 0, .int sta, .ref r0, .ref w0, .ref i0, .ref k0, m_6, m_7, m_8, m_9, m_10, m_11, m_12, m_13, m_14, m_15, m_16, m_17, m_18, m_19, m_20, m_21, m_22, m_23, m_24, m_25, m_26, m_27, m_28, m_29, m_30, m_31, m_32, m_33, m_34, m_35, m_36, m_37, m_38, m_39, m_40, m_41, m_42, m_43, m_44, m_45, m_46, m_47, m_48, m_49, m_50, m_51, m_52, m_53, m_54, m_55, m_56, m_57, m_58, m_59])), (w0, .inl (K 0, 5500, .inl fw)), (i0, .inl (K 0, 11000, .inl f_492)), (k0, .inl (K 1, 2, .inl fk)), (r0, .inl (K 0, 7, .inl frf))] := hD
            obtain ⟨x_493, ex_493⟩ : ∃ y : Int32, y = v_465 + Int32.ofInt 1 := ⟨_, rfl⟩
            have hx_493 : x_493.toInt = (v_465.toInt + 1) := by rw [ex_493]; exact i_add rfl (show (Int32.ofInt 1).toInt = 1 from rfl) (by omega)
            refine lv_iinc (v := x_493) (lv' := [(2, .int x_493), (0, .ref m0), (1, .int 1)]) hx hb dX12_image_48 hl (k := 0) rfl (by rw [ex_493]) (by decide) rfl (fun ls hl => ?_)
            refine lv_goto (tgt := 23) hx hb dX12_image_51 (by decide) ?_
            exact ih_482 x_493 f_492 (by rw [hx_493]; omega) (show CpU fw fi f_492 5500 ((x_493 : Int32).toInt).toNat by rw [← hf_492, i_clamp (x := x_490) (z := (5500 + v_465.toInt)) hx_490, ex_491, i_clamp (x := v_465) (z := v_465.toInt) rfl, show ((5500 + v_465.toInt)).toNat = 5500 + (v_465.toInt).toNat by omega, show (x_493 : Int32).toInt.toNat = (v_465.toInt).toNat + 1 by omega]; exact CpU.step hr0_lp_481 (by omega)) (by omega) _ _ hP hD hS ls (lv_sub hl [0, 1, 2] rfl)
      have hz_494 : (0 : Int32).toInt = 0 := rfl
      exact lp_481 ((5501 - (0 : Int32).toInt : Int).toNat + 1) 0 fi (by decide) (show CpU fw fi fi 5500 ((0 : Int32).toInt).toNat by exact CpU.base) (Nat.lt_succ_self _) _ _ hP hD hS ls (lv_sub hl [0, 1, 2] rfl)
    · exfalso; omega
  · skip
    refine lv_aload_n hx hb dX12_image_0 rfl (lv_at hl 0 rfl) ?_
    refine lv_iconst (v := 0) hx hb dX12_image_1 (by decide) ?_
    refine va_put (ci := 12) (v := .int 0) (ty := .int) (C := RX12) (T := TX12) (N := 60) hx hb hts hw12 tyX12 tyX12_ok nmX12 hown hK hP hD hS 0 rfl rfl 0 (by decide) (hts (.fieldLink RX12 158 "SmokeTuneModel" "thrown" "I") (List.mem_cons_of_mem _ (List.mem_append_left _ (List.mem_of_getElem? (i := 0) rfl)))) (fun _ h9 => h9) rfl (by decide +kernel) (by first | rfl | decide) (by first | rfl | decide) (Nat.le_of_ble_eq_true rfl) dX12_image_2 (fun H locs hP hD hS => ?_)
    have hP : va_P D vwCl [(m0, .inr (12, [.int 0, .int sta, .ref r0, .ref w0, .ref i0, .ref k0, m_6, m_7, m_8, m_9, m_10, m_11, m_12, m_13, m_14, m_15, m_16, m_17, m_18, m_19, m_20, m_21, m_22, m_23, m_24, m_25, m_26, m_27, m_28, m_29, m_30, m_31, m_32, m_33, m_34, m_35, m_36, m_37, m_38, m_39, m_40, m_41, m_42, m_43, m_44, m_45, m_46, m_47, m_48, m_49, m_50, m_51, m_52, m_53, m_54, m_55, m_56, m_57, m_58, m_59])), (w0, .inl (K 0, 5500, .inl fw)), (i0, .inl (K 0, 11000, .inl fi)), (k0, .inl (K 1, 2, .inl fk)), (r0, .inl (K 0, 7, .inl frf))] H := hP
    have hD : va_D A [(m0, .inr (12, [.int 0, .int sta, .ref r0, .ref w0, .ref i0, .ref k0, m_6, m_7, m_8, m_9, m_10, m_11, m_12, m_13, m_14, m_15, m_16, m_17, m_18, m_19, m_20, m_21, m_22, m_23, m_24, m_25, m_26, m_27, m_28, m_29, m_30, m_31, m_32, m_33, m_34, m_35, m_36, m_37, m_38, m_39, m_40, m_41, m_42, m_43, m_44, m_45, m_46, m_47, m_48, m_49, m_50, m_51, m_52, m_53, m_54, m_55, m_56, m_57, m_58, m_59])), (w0, .inl (K 0, 5500, .inl fw)), (i0, .inl (K 0, 11000, .inl fi)), (k0, .inl (K 1, 2, .inl fk)), (r0, .inl (K 0, 7, .inl frf))] := hD
    refine lv_iload_n hx hb dX12_image_5 rfl (lv_at hl 1 rfl) ?_
    refine lv_i2l hx hb dX12_image_6 rfl ?_
    refine lv_topl (fun x_495 ex_495 => ?_)
    have hx_495 : x_495.toInt = x.toInt := by rw [ex_495]; exact i_wide rfl
    refine lv_lconst (v := 0) hx hb dX12_image_7 (by decide) ?_
    refine lv_lconst (v := 1) hx hb dX12_image_8 (by decide) ?_
    refine pci (va_runS (As := [.long x_495, .long 0, .long 1]) (rest := []) ⟨hx, hb, hml, hown, hts⟩ (v_in l D K x.toInt 0 1 x_495 0 1 H.size hx_495 (show (0 : Int64).toInt = 0 from rfl) (show (1 : Int64).toInt = 1 from rfl)) (va_cwS 3 hts gX12_image_X12_in rfl rfl rfl (by decide +kernel) ⟨Nat.le_of_ble_eq_true rfl, Nat.le_of_ble_eq_true rfl⟩) (mkS hK hN (va_P.nil) (va_D.nil (A := fun _ => True))) rfl rfl hl.1 rfl (lv_room (Nat.le_of_ble_eq_true rfl)) dX12_image_9 ⟨Nat.le_of_ble_eq_true rfl, Nat.le_of_ble_eq_true rfl⟩) (fun r_496 hw => ?_)
    obtain ⟨hw, -⟩ := hw
    rcases hw with ⟨rfl, h_497, h_498⟩ | ⟨rfl, h_499⟩
    · exfalso; omega
    · refine lv_if_ne (tgt := 21) hx hb dX12_image_12 (by decide) (fun c_500 => absurd (by decide) c_500) (fun c_500 => ?_)
      refine lv_aload_n hx hb dX12_image_15 rfl (lv_at hl 0 rfl) ?_
      refine lv_iconst (v := (-1)) hx hb dX12_image_16 (by decide) ?_
      refine kci (S := Su) (wr := [(w0, .inl (K 0, 5500, .inl fw)), (i0, .inl (K 0, 11000, .inl fi)), (k0, .inl (K 1, 2, .inl fk))]) (va_runV (As := [.int (-1)]) (rest := []) ⟨hx, hb, hml, hown, hts⟩ (v_tell l D K m0 (-1) (.int 0) sta r0 (.ref w0) (.ref i0) (.ref k0) m_6 m_7 m_8 m_9 m_10 m_11 m_12 m_13 m_14 m_15 m_16 m_17 m_18 m_19 m_20 m_21 m_22 m_23 m_24 m_25 m_26 m_27 m_28 m_29 m_30 m_31 m_32 m_33 m_34 m_35 m_36 m_37 m_38 m_39 m_40 m_41 m_42 m_43 m_44 m_45 m_46 m_47 m_48 m_49 m_50 m_51 m_52 m_53 m_54 m_55 m_56 m_57 m_58 m_59 frf H.size (by first | omega | decide)) (cwV 1 hts gX12_image_X12_tell rfl rfl rfl (by decide +kernel) ⟨Nat.le_of_ble_eq_true rfl, Nat.le_of_ble_eq_true rfl⟩) (mkV hK hN (hP.sub [0, 4] rfl) (hD.sub [0, 4] (by decide) rfl) (ci := 12) (q0 := 0) rfl rfl) rfl rfl hl.1 rfl (lv_room (Nat.le_of_ble_eq_true rfl)) dX12_image_17 ⟨Nat.le_of_ble_eq_true rfl, Nat.le_of_ble_eq_true rfl⟩) hP hD hS hA [0, 4] [1, 2, 3] rfl rfl (by decide) (by decide) (fun r_501 u_502 H locs hw hP hD hS => ?_)
      have hP : va_P D vwCl [(w0, .inl (K 0, 5500, .inl fw)), (i0, .inl (K 0, 11000, .inl fi)), (k0, .inl (K 1, 2, .inl fk)), (m0, .inr (12, [.int 0, .int (u_502.2.2.2.1 0), .ref r0, .ref w0, .ref i0, .ref k0, m_6, m_7, m_8, m_9, m_10, m_11, m_12, m_13, m_14, m_15, m_16, m_17, m_18, m_19, m_20, m_21, m_22, m_23, m_24, m_25, m_26, m_27, m_28, m_29, m_30, m_31, m_32, m_33, m_34, m_35, m_36, m_37, m_38, m_39, m_40, m_41, m_42, m_43, m_44, m_45, m_46, m_47, m_48, m_49, m_50, m_51, m_52, m_53, m_54, m_55, m_56, m_57, m_58, m_59])), (r0, .inl (K 0, 7, .inl (u_502.2.1 0)))] H := hP
      have hD : va_D A [(w0, .inl (K 0, 5500, .inl fw)), (i0, .inl (K 0, 11000, .inl fi)), (k0, .inl (K 1, 2, .inl fk)), (m0, .inr (12, [.int 0, .int (u_502.2.2.2.1 0), .ref r0, .ref w0, .ref i0, .ref k0, m_6, m_7, m_8, m_9, m_10, m_11, m_12, m_13, m_14, m_15, m_16, m_17, m_18, m_19, m_20, m_21, m_22, m_23, m_24, m_25, m_26, m_27, m_28, m_29, m_30, m_31, m_32, m_33, m_34, m_35, m_36, m_37, m_38, m_39, m_40, m_41, m_42, m_43, m_44, m_45, m_46, m_47, m_48, m_49, m_50, m_51, m_52, m_53, m_54, m_55, m_56, m_57, m_58, m_59])), (r0, .inl (K 0, 7, .inl (u_502.2.1 0)))] := hD
      obtain ⟨h_504, k_503, -⟩ := hw
      rw [← hQ]
      have hP9 := hP.sub (ws' := [(m0, .inr (12, [.int 0, .int (u_502.2.2.2.1 0), .ref r0, .ref w0, .ref i0, .ref k0, m_6, m_7, m_8, m_9, m_10, m_11, m_12, m_13, m_14, m_15, m_16, m_17, m_18, m_19, m_20, m_21, m_22, m_23, m_24, m_25, m_26, m_27, m_28, m_29, m_30, m_31, m_32, m_33, m_34, m_35, m_36, m_37, m_38, m_39, m_40, m_41, m_42, m_43, m_44, m_45, m_46, m_47, m_48, m_49, m_50, m_51, m_52, m_53, m_54, m_55, m_56, m_57, m_58, m_59])), (w0, .inl (K 0, 5500, .inl fw)), (i0, .inl (K 0, 11000, .inl fi)), (k0, .inl (K 1, 2, .inl fk)), (r0, .inl (K 0, 7, .inl (u_502.2.1 0)))]) [3, 0, 1, 2, 4] rfl
      have hD9 := hD.sub (ws' := [(m0, .inr (12, [.int 0, .int (u_502.2.2.2.1 0), .ref r0, .ref w0, .ref i0, .ref k0, m_6, m_7, m_8, m_9, m_10, m_11, m_12, m_13, m_14, m_15, m_16, m_17, m_18, m_19, m_20, m_21, m_22, m_23, m_24, m_25, m_26, m_27, m_28, m_29, m_30, m_31, m_32, m_33, m_34, m_35, m_36, m_37, m_38, m_39, m_40, m_41, m_42, m_43, m_44, m_45, m_46, m_47, m_48, m_49, m_50, m_51, m_52, m_53, m_54, m_55, m_56, m_57, m_58, m_59])), (w0, .inl (K 0, 5500, .inl fw)), (i0, .inl (K 0, 11000, .inl fi)), (k0, .inl (K 1, 2, .inl fk)), (r0, .inl (K 0, 7, .inl (u_502.2.1 0)))]) [3, 0, 1, 2, 4] (by decide) rfl
      exact W.iret (v := r_501) hx hb hr (fun t ht hW => ⟨⟨r_501, ((fun _ => 0, fun i => match i with | 0 => fi | 1 => fk | _ => (u_502.2.1 0), fun _ => fun _ => 0, fun i => match i with | _ => (u_502.2.2.2.1 0), fun _ => 0, fun _ => fun _ => none) : Su), rfl, ⟨(show (-6) ≤ r_501.toInt by omega), (show (-6) ≤ ((u_502.2.2.2.1 0) : Int32).toInt ∧ ((u_502.2.2.2.1 0) : Int32).toInt ≤ 0 by omega), zfi, trivial⟩, (⟨by rw [ht]; exact hP9, hD9⟩ : Wd D A _ t)⟩, hS.F ht⟩) hS.2.2 dX12_image_20
set_option maxHeartbeats 4000000 in
set_option maxRecDepth 100000 in
theorem v_back (l : Launch) (D : va_G) (K : Nat → ClassId) (m0 : Nat) (x : Int32) (thr : Int32) (sta : Int32) (r0 : Nat) (w0 : Nat) (i0 : Nat) (k0 : Nat) (m_6 : Value) (m_7 : Value) (nu : Int32) (m_9 : Value) (m_10 : Value) (m_11 : Value) (m_12 : Value) (m_13 : Value) (m_14 : Value) (m_15 : Value) (m_16 : Value) (m_17 : Value) (m_18 : Value) (m_19 : Value) (m_20 : Value) (m_21 : Value) (m_22 : Value) (m_23 : Value) (m_24 : Value) (m_25 : Value) (m_26 : Value) (m_27 : Value) (m_28 : Value) (m_29 : Value) (m_30 : Value) (m_31 : Value) (m_32 : Value) (m_33 : Value) (m_34 : Value) (m_35 : Value) (m_36 : Value) (m_37 : Value) (m_38 : Value) (m_39 : Value) (m_40 : Value) (m_41 : Value) (m_42 : Value) (m_43 : Value) (m_44 : Value) (m_45 : Value) (m_46 : Value) (m_47 : Value) (m_48 : Value) (m_49 : Value) (m_50 : Value) (m_51 : Value) (m_52 : Value) (m_53 : Value) (m_54 : Value) (m_55 : Value) (m_56 : Value) (m_57 : Value) (m_58 : Value) (m_59 : Value) (fw : Nat → Int32) (fi : Nat → Int32) (fk : Nat → Int32) (frf : Nat → Int32) (sz : Nat) (zfw : RwOK fw) (zfi : ImOK fi) : Met l yX12_back wsX12_back ({ frames := 1, cells := 0, slots := 0, locals := 25 }) (va_Pc [.ref m0, .int x] (Pre D K [(m0, .inr (12, [.int thr, .int sta, .ref r0, .ref w0, .ref i0, .ref k0, m_6, m_7, .int nu, m_9, m_10, m_11, m_12, m_13, m_14, m_15, m_16, m_17, m_18, m_19, m_20, m_21, m_22, m_23, m_24, m_25, m_26, m_27, m_28, m_29, m_30, m_31, m_32, m_33, m_34, m_35, m_36, m_37, m_38, m_39, m_40, m_41, m_42, m_43, m_44, m_45, m_46, m_47, m_48, m_49, m_50, m_51, m_52, m_53, m_54, m_55, m_56, m_57, m_58, m_59])), (w0, .inl (K 0, 5500, .inl fw)), (i0, .inl (K 0, 11000, .inl fi)), (k0, .inl (K 1, 2, .inl fk)), (r0, .inl (K 0, 7, .inl frf))] sz)) (va_Qi (S := Su) (fun (r : Int32) (u : Su) => ((-6) ≤ r.toInt) ∧ ((-6) ≤ (u.2.2.2.1 0).toInt ∧ (u.2.2.2.1 0).toInt ≤ 0) ∧ (RwOK (u.2.1 0)) ∧ True) (fun u t => Wd D (va_A [(m0, .inr (12, [.int thr, .int sta, .ref r0, .ref w0, .ref i0, .ref k0, m_6, m_7, .int nu, m_9, m_10, m_11, m_12, m_13, m_14, m_15, m_16, m_17, m_18, m_19, m_20, m_21, m_22, m_23, m_24, m_25, m_26, m_27, m_28, m_29, m_30, m_31, m_32, m_33, m_34, m_35, m_36, m_37, m_38, m_39, m_40, m_41, m_42, m_43, m_44, m_45, m_46, m_47, m_48, m_49, m_50, m_51, m_52, m_53, m_54, m_55, m_56, m_57, m_58, m_59])), (w0, .inl (K 0, 5500, .inl fw)), (i0, .inl (K 0, 11000, .inl fi)), (k0, .inl (K 1, 2, .inl fk)), (r0, .inl (K 0, 7, .inl frf))] sz) ((fun u => [(m0, .inr (12, [.int 0, .int (u.2.2.2.1 0), .ref r0, .ref w0, .ref i0, .ref k0, m_6, m_7, .int (u.2.2.2.1 1), m_9, m_10, m_11, m_12, m_13, m_14, m_15, m_16, m_17, m_18, m_19, m_20, m_21, m_22, m_23, m_24, m_25, m_26, m_27, m_28, m_29, m_30, m_31, m_32, m_33, m_34, m_35, m_36, m_37, m_38, m_39, m_40, m_41, m_42, m_43, m_44, m_45, m_46, m_47, m_48, m_49, m_50, m_51, m_52, m_53, m_54, m_55, m_56, m_57, m_58, m_59])), (w0, .inl (K 0, 5500, .inl (u.2.1 0))), (i0, .inl (K 0, 11000, .inl fi)), (k0, .inl (K 1, 2, .inl fk)), (r0, .inl (K 0, 7, .inl (u.2.1 1)))]) u) t) (va_A [(m0, .inr (12, [.int thr, .int sta, .ref r0, .ref w0, .ref i0, .ref k0, m_6, m_7, .int nu, m_9, m_10, m_11, m_12, m_13, m_14, m_15, m_16, m_17, m_18, m_19, m_20, m_21, m_22, m_23, m_24, m_25, m_26, m_27, m_28, m_29, m_30, m_31, m_32, m_33, m_34, m_35, m_36, m_37, m_38, m_39, m_40, m_41, m_42, m_43, m_44, m_45, m_46, m_47, m_48, m_49, m_50, m_51, m_52, m_53, m_54, m_55, m_56, m_57, m_58, m_59])), (w0, .inl (K 0, 5500, .inl fw)), (i0, .inl (K 0, 11000, .inl fi)), (k0, .inl (K 1, 2, .inl fk)), (r0, .inl (K 0, 7, .inl frf))] sz)) 0 0 (va_A [(m0, .inr (12, [.int thr, .int sta, .ref r0, .ref w0, .ref i0, .ref k0, m_6, m_7, .int nu, m_9, m_10, m_11, m_12, m_13, m_14, m_15, m_16, m_17, m_18, m_19, m_20, m_21, m_22, m_23, m_24, m_25, m_26, m_27, m_28, m_29, m_30, m_31, m_32, m_33, m_34, m_35, m_36, m_37, m_38, m_39, m_40, m_41, m_42, m_43, m_44, m_45, m_46, m_47, m_48, m_49, m_50, m_51, m_52, m_53, m_54, m_55, m_56, m_57, m_58, m_59])), (w0, .inl (K 0, 5500, .inl fw)), (i0, .inl (K 0, 11000, .inl fi)), (k0, .inl (K 1, 2, .inl fk)), (r0, .inl (K 0, 7, .inl frf))] sz) := by
  refine Met.ofW (cc := cX12_back) (maxL := 3) (ret := (some .int)) (by decide) rfl ?_
  intro p e s m args below meth c s₁ B hml hv
  obtain ⟨rfl, hsz, hP, hK, hD0, hN⟩ := hv
  have hx := B.exec
  have hb := B.bytes
  have hr := B.returns
  have hts := atoms_spec (ws := wsX12_back) B.pre
  have hown : s.vm.findClass RX12 = some m.cls := findClass_of_methodNamed B.named
  have hlocks := B.notSynchronized
  subst hsz
  have hD := hD0.self (sz := s.heap.size)
  generalize hAe : va_A [(m0, .inr (12, [.int thr, .int sta, .ref r0, .ref w0, .ref i0, .ref k0, m_6, m_7, .int nu, m_9, m_10, m_11, m_12, m_13, m_14, m_15, m_16, m_17, m_18, m_19, m_20, m_21, m_22, m_23, m_24, m_25, m_26, m_27, m_28, m_29, m_30, m_31, m_32, m_33, m_34, m_35, m_36, m_37, m_38, m_39, m_40, m_41, m_42, m_43, m_44, m_45, m_46, m_47, m_48, m_49, m_50, m_51, m_52, m_53, m_54, m_55, m_56, m_57, m_58, m_59])), (w0, .inl (K 0, 5500, .inl fw)), (i0, .inl (K 0, 11000, .inl fi)), (k0, .inl (K 1, 2, .inl fk)), (r0, .inl (K 0, 7, .inl frf))] s.heap.size = A at hD ⊢
  have hA : ∀ q : Nat, s.heap.size ≤ q → A q := fun q h => by rw [← hAe]; exact Or.inr h
  have hS : va_S A s.heap s.heap [] := va_S.rf
  have hP : va_P D vwCl [(m0, .inr (12, [.int thr, .int sta, .ref r0, .ref w0, .ref i0, .ref k0, m_6, m_7, .int nu, m_9, m_10, m_11, m_12, m_13, m_14, m_15, m_16, m_17, m_18, m_19, m_20, m_21, m_22, m_23, m_24, m_25, m_26, m_27, m_28, m_29, m_30, m_31, m_32, m_33, m_34, m_35, m_36, m_37, m_38, m_39, m_40, m_41, m_42, m_43, m_44, m_45, m_46, m_47, m_48, m_49, m_50, m_51, m_52, m_53, m_54, m_55, m_56, m_57, m_58, m_59])), (w0, .inl (K 0, 5500, .inl fw)), (i0, .inl (K 0, 11000, .inl fi)), (k0, .inl (K 1, 2, .inl fk)), (r0, .inl (K 0, 7, .inl frf))] s.heap := hP
  have hl := lv_entry [.ref m0, .int x] (n := 3) (Nat.le_of_ble_eq_true rfl)
  rw [lg_entry_eq]
  generalize (lg_sl [.ref m0, .int x] ++ List.replicate (3 - (lg_sl [.ref m0, .int x]).length) Slot.unset).toArray = ls at hl ⊢
  have hl : lv_has ls 3 [(0, .ref m0), (1, .int x)] := hl
  have hw12 : ∀ w ∈ wsX120, w ∈ wsX12_back := fun w h => (List.mem_cons_of_mem _ (List.mem_append_right _ h))
  generalize hQ : MQ below _ _ s _ _ _ = Q
  rcases (show x.toInt < 0 ∨ x.toInt = 0 ∨ x.toInt = 1 ∨ 1 < x.toInt by omega) with hx0 | hx0 | hx0 | hx0
  · skip
    refine lv_aload_n hx hb dX12_back_0 rfl (lv_at hl 0 rfl) ?_
    refine lv_iconst (v := 0) hx hb dX12_back_1 (by decide) ?_
    refine va_put (ci := 12) (v := .int 0) (ty := .int) (C := RX12) (T := TX12) (N := 60) hx hb hts hw12 tyX12 tyX12_ok nmX12 hown hK hP hD hS 0 rfl rfl 0 (by decide) (hts (.fieldLink RX12 158 "SmokeTuneModel" "thrown" "I") (List.mem_cons_of_mem _ (List.mem_append_left _ (List.mem_of_getElem? (i := 0) rfl)))) (fun _ h9 => h9) rfl (by decide +kernel) (by first | rfl | decide) (by first | rfl | decide) (Nat.le_of_ble_eq_true rfl) dX12_back_2 (fun H locs hP hD hS => ?_)
    have hP : va_P D vwCl [(m0, .inr (12, [.int 0, .int sta, .ref r0, .ref w0, .ref i0, .ref k0, m_6, m_7, .int nu, m_9, m_10, m_11, m_12, m_13, m_14, m_15, m_16, m_17, m_18, m_19, m_20, m_21, m_22, m_23, m_24, m_25, m_26, m_27, m_28, m_29, m_30, m_31, m_32, m_33, m_34, m_35, m_36, m_37, m_38, m_39, m_40, m_41, m_42, m_43, m_44, m_45, m_46, m_47, m_48, m_49, m_50, m_51, m_52, m_53, m_54, m_55, m_56, m_57, m_58, m_59])), (w0, .inl (K 0, 5500, .inl fw)), (i0, .inl (K 0, 11000, .inl fi)), (k0, .inl (K 1, 2, .inl fk)), (r0, .inl (K 0, 7, .inl frf))] H := hP
    have hD : va_D A [(m0, .inr (12, [.int 0, .int sta, .ref r0, .ref w0, .ref i0, .ref k0, m_6, m_7, .int nu, m_9, m_10, m_11, m_12, m_13, m_14, m_15, m_16, m_17, m_18, m_19, m_20, m_21, m_22, m_23, m_24, m_25, m_26, m_27, m_28, m_29, m_30, m_31, m_32, m_33, m_34, m_35, m_36, m_37, m_38, m_39, m_40, m_41, m_42, m_43, m_44, m_45, m_46, m_47, m_48, m_49, m_50, m_51, m_52, m_53, m_54, m_55, m_56, m_57, m_58, m_59])), (w0, .inl (K 0, 5500, .inl fw)), (i0, .inl (K 0, 11000, .inl fi)), (k0, .inl (K 1, 2, .inl fk)), (r0, .inl (K 0, 7, .inl frf))] := hD
    refine lv_iload_n hx hb dX12_back_5 rfl (lv_at hl 1 rfl) ?_
    refine lv_i2l hx hb dX12_back_6 rfl ?_
    refine lv_topl (fun x_377 ex_377 => ?_)
    have hx_377 : x_377.toInt = x.toInt := by rw [ex_377]; exact i_wide rfl
    refine lv_lconst (v := 0) hx hb dX12_back_7 (by decide) ?_
    refine lv_lconst (v := 1) hx hb dX12_back_8 (by decide) ?_
    refine pci (va_runS (As := [.long x_377, .long 0, .long 1]) (rest := []) ⟨hx, hb, hml, hown, hts⟩ (v_in l D K x.toInt 0 1 x_377 0 1 H.size hx_377 (show (0 : Int64).toInt = 0 from rfl) (show (1 : Int64).toInt = 1 from rfl)) (va_cwS 3 hts gX12_back_X12_in rfl rfl rfl (by decide +kernel) ⟨Nat.le_of_ble_eq_true rfl, Nat.le_of_ble_eq_true rfl⟩) (mkS hK hN (va_P.nil) (va_D.nil (A := fun _ => True))) rfl rfl hl.1 rfl (lv_room (Nat.le_of_ble_eq_true rfl)) dX12_back_9 ⟨Nat.le_of_ble_eq_true rfl, Nat.le_of_ble_eq_true rfl⟩) (fun r_378 hw => ?_)
    obtain ⟨hw, -⟩ := hw
    rcases hw with ⟨rfl, h_379, h_380⟩ | ⟨rfl, h_381⟩
    · exfalso; omega
    · refine lv_if_ne (tgt := 21) hx hb dX12_back_12 (by decide) (fun c_382 => absurd (by decide) c_382) (fun c_382 => ?_)
      refine lv_aload_n hx hb dX12_back_15 rfl (lv_at hl 0 rfl) ?_
      refine lv_iconst (v := (-1)) hx hb dX12_back_16 (by decide) ?_
      refine kci (S := Su) (wr := [(w0, .inl (K 0, 5500, .inl fw)), (i0, .inl (K 0, 11000, .inl fi)), (k0, .inl (K 1, 2, .inl fk))]) (va_runV (As := [.int (-1)]) (rest := []) ⟨hx, hb, hml, hown, hts⟩ (v_tell l D K m0 (-1) (.int 0) sta r0 (.ref w0) (.ref i0) (.ref k0) m_6 m_7 (.int nu) m_9 m_10 m_11 m_12 m_13 m_14 m_15 m_16 m_17 m_18 m_19 m_20 m_21 m_22 m_23 m_24 m_25 m_26 m_27 m_28 m_29 m_30 m_31 m_32 m_33 m_34 m_35 m_36 m_37 m_38 m_39 m_40 m_41 m_42 m_43 m_44 m_45 m_46 m_47 m_48 m_49 m_50 m_51 m_52 m_53 m_54 m_55 m_56 m_57 m_58 m_59 frf H.size (by first | omega | decide)) (cwV 1 hts gX12_back_X12_tell rfl rfl rfl (by decide +kernel) ⟨Nat.le_of_ble_eq_true rfl, Nat.le_of_ble_eq_true rfl⟩) (mkV hK hN (hP.sub [0, 4] rfl) (hD.sub [0, 4] (by decide) rfl) (ci := 12) (q0 := 0) rfl rfl) rfl rfl hl.1 rfl (lv_room (Nat.le_of_ble_eq_true rfl)) dX12_back_17 ⟨Nat.le_of_ble_eq_true rfl, Nat.le_of_ble_eq_true rfl⟩) hP hD hS hA [0, 4] [1, 2, 3] rfl rfl (by decide) (by decide) (fun r_383 u_384 H locs hw hP hD hS => ?_)
      have hP : va_P D vwCl [(w0, .inl (K 0, 5500, .inl fw)), (i0, .inl (K 0, 11000, .inl fi)), (k0, .inl (K 1, 2, .inl fk)), (m0, .inr (12, [.int 0, .int (u_384.2.2.2.1 0), .ref r0, .ref w0, .ref i0, .ref k0, m_6, m_7, .int nu, m_9, m_10, m_11, m_12, m_13, m_14, m_15, m_16, m_17, m_18, m_19, m_20, m_21, m_22, m_23, m_24, m_25, m_26, m_27, m_28, m_29, m_30, m_31, m_32, m_33, m_34, m_35, m_36, m_37, m_38, m_39, m_40, m_41, m_42, m_43, m_44, m_45, m_46, m_47, m_48, m_49, m_50, m_51, m_52, m_53, m_54, m_55, m_56, m_57, m_58, m_59])), (r0, .inl (K 0, 7, .inl (u_384.2.1 0)))] H := hP
      have hD : va_D A [(w0, .inl (K 0, 5500, .inl fw)), (i0, .inl (K 0, 11000, .inl fi)), (k0, .inl (K 1, 2, .inl fk)), (m0, .inr (12, [.int 0, .int (u_384.2.2.2.1 0), .ref r0, .ref w0, .ref i0, .ref k0, m_6, m_7, .int nu, m_9, m_10, m_11, m_12, m_13, m_14, m_15, m_16, m_17, m_18, m_19, m_20, m_21, m_22, m_23, m_24, m_25, m_26, m_27, m_28, m_29, m_30, m_31, m_32, m_33, m_34, m_35, m_36, m_37, m_38, m_39, m_40, m_41, m_42, m_43, m_44, m_45, m_46, m_47, m_48, m_49, m_50, m_51, m_52, m_53, m_54, m_55, m_56, m_57, m_58, m_59])), (r0, .inl (K 0, 7, .inl (u_384.2.1 0)))] := hD
      obtain ⟨h_386, k_385, -⟩ := hw
      rw [← hQ]
      have hP9 := hP.sub (ws' := [(m0, .inr (12, [.int 0, .int (u_384.2.2.2.1 0), .ref r0, .ref w0, .ref i0, .ref k0, m_6, m_7, .int nu, m_9, m_10, m_11, m_12, m_13, m_14, m_15, m_16, m_17, m_18, m_19, m_20, m_21, m_22, m_23, m_24, m_25, m_26, m_27, m_28, m_29, m_30, m_31, m_32, m_33, m_34, m_35, m_36, m_37, m_38, m_39, m_40, m_41, m_42, m_43, m_44, m_45, m_46, m_47, m_48, m_49, m_50, m_51, m_52, m_53, m_54, m_55, m_56, m_57, m_58, m_59])), (w0, .inl (K 0, 5500, .inl fw)), (i0, .inl (K 0, 11000, .inl fi)), (k0, .inl (K 1, 2, .inl fk)), (r0, .inl (K 0, 7, .inl (u_384.2.1 0)))]) [3, 0, 1, 2, 4] rfl
      have hD9 := hD.sub (ws' := [(m0, .inr (12, [.int 0, .int (u_384.2.2.2.1 0), .ref r0, .ref w0, .ref i0, .ref k0, m_6, m_7, .int nu, m_9, m_10, m_11, m_12, m_13, m_14, m_15, m_16, m_17, m_18, m_19, m_20, m_21, m_22, m_23, m_24, m_25, m_26, m_27, m_28, m_29, m_30, m_31, m_32, m_33, m_34, m_35, m_36, m_37, m_38, m_39, m_40, m_41, m_42, m_43, m_44, m_45, m_46, m_47, m_48, m_49, m_50, m_51, m_52, m_53, m_54, m_55, m_56, m_57, m_58, m_59])), (w0, .inl (K 0, 5500, .inl fw)), (i0, .inl (K 0, 11000, .inl fi)), (k0, .inl (K 1, 2, .inl fk)), (r0, .inl (K 0, 7, .inl (u_384.2.1 0)))]) [3, 0, 1, 2, 4] (by decide) rfl
      exact W.iret (v := r_383) hx hb hr (fun t ht hW => ⟨⟨r_383, ((fun _ => 0, fun i => match i with | 0 => fw | _ => (u_384.2.1 0), fun _ => fun _ => 0, fun i => match i with | 0 => (u_384.2.2.2.1 0) | _ => nu, fun _ => 0, fun _ => fun _ => none) : Su), rfl, ⟨(show (-6) ≤ r_383.toInt by omega), (show (-6) ≤ ((u_384.2.2.2.1 0) : Int32).toInt ∧ ((u_384.2.2.2.1 0) : Int32).toInt ≤ 0 by omega), zfw, trivial⟩, (⟨by rw [ht]; exact hP9, hD9⟩ : Wd D A _ t)⟩, hS.F ht⟩) hS.2.2 dX12_back_20
  · obtain rfl : x = 0 := i_lit (b := 0) hx0 rfl
    have hl : lv_has ls 3 [(0, .ref m0), (1, .int 0)] := hl
    refine lv_aload_n hx hb dX12_back_0 rfl (lv_at hl 0 rfl) ?_
    refine lv_iconst (v := 0) hx hb dX12_back_1 (by decide) ?_
    refine va_put (ci := 12) (v := .int 0) (ty := .int) (C := RX12) (T := TX12) (N := 60) hx hb hts hw12 tyX12 tyX12_ok nmX12 hown hK hP hD hS 0 rfl rfl 0 (by decide) (hts (.fieldLink RX12 158 "SmokeTuneModel" "thrown" "I") (List.mem_cons_of_mem _ (List.mem_append_left _ (List.mem_of_getElem? (i := 0) rfl)))) (fun _ h9 => h9) rfl (by decide +kernel) (by first | rfl | decide) (by first | rfl | decide) (Nat.le_of_ble_eq_true rfl) dX12_back_2 (fun H locs hP hD hS => ?_)
    have hP : va_P D vwCl [(m0, .inr (12, [.int 0, .int sta, .ref r0, .ref w0, .ref i0, .ref k0, m_6, m_7, .int nu, m_9, m_10, m_11, m_12, m_13, m_14, m_15, m_16, m_17, m_18, m_19, m_20, m_21, m_22, m_23, m_24, m_25, m_26, m_27, m_28, m_29, m_30, m_31, m_32, m_33, m_34, m_35, m_36, m_37, m_38, m_39, m_40, m_41, m_42, m_43, m_44, m_45, m_46, m_47, m_48, m_49, m_50, m_51, m_52, m_53, m_54, m_55, m_56, m_57, m_58, m_59])), (w0, .inl (K 0, 5500, .inl fw)), (i0, .inl (K 0, 11000, .inl fi)), (k0, .inl (K 1, 2, .inl fk)), (r0, .inl (K 0, 7, .inl frf))] H := hP
    have hD : va_D A [(m0, .inr (12, [.int 0, .int sta, .ref r0, .ref w0, .ref i0, .ref k0, m_6, m_7, .int nu, m_9, m_10, m_11, m_12, m_13, m_14, m_15, m_16, m_17, m_18, m_19, m_20, m_21, m_22, m_23, m_24, m_25, m_26, m_27, m_28, m_29, m_30, m_31, m_32, m_33, m_34, m_35, m_36, m_37, m_38, m_39, m_40, m_41, m_42, m_43, m_44, m_45, m_46, m_47, m_48, m_49, m_50, m_51, m_52, m_53, m_54, m_55, m_56, m_57, m_58, m_59])), (w0, .inl (K 0, 5500, .inl fw)), (i0, .inl (K 0, 11000, .inl fi)), (k0, .inl (K 1, 2, .inl fk)), (r0, .inl (K 0, 7, .inl frf))] := hD
    refine lv_iload_n hx hb dX12_back_5 rfl (lv_at hl 1 rfl) ?_
    refine lv_i2l (v := 0) hx hb dX12_back_6 (by decide) ?_
    refine lv_lconst (v := 0) hx hb dX12_back_7 (by decide) ?_
    refine lv_lconst (v := 1) hx hb dX12_back_8 (by decide) ?_
    refine pci (va_runS (As := [.long 0, .long 0, .long 1]) (rest := []) ⟨hx, hb, hml, hown, hts⟩ (v_in l D K 0 0 1 0 0 1 H.size (show (0 : Int64).toInt = 0 from rfl) (show (0 : Int64).toInt = 0 from rfl) (show (1 : Int64).toInt = 1 from rfl)) (va_cwS 3 hts gX12_back_X12_in rfl rfl rfl (by decide +kernel) ⟨Nat.le_of_ble_eq_true rfl, Nat.le_of_ble_eq_true rfl⟩) (mkS hK hN (va_P.nil) (va_D.nil (A := fun _ => True))) rfl rfl hl.1 rfl (lv_room (Nat.le_of_ble_eq_true rfl)) dX12_back_9 ⟨Nat.le_of_ble_eq_true rfl, Nat.le_of_ble_eq_true rfl⟩) (fun r_387 hw => ?_)
    obtain ⟨hw, -⟩ := hw
    rcases hw with ⟨rfl, h_388, h_389⟩ | ⟨rfl, h_390⟩
    · refine lv_if_ne (tgt := 21) hx hb dX12_back_12 (by decide) (fun c_391 => ?_) (fun c_391 => absurd c_391 (by decide))
      refine lv_aload_n hx hb dX12_back_21 rfl (lv_at hl 0 rfl) ?_
      refine va_get (ci := 12) (v := .ref k0) (C := RX12) (T := TX12) (N := 60) hx hb hts hw12 hown hK hP 0 rfl rfl 5 (by decide) (hts (.fieldLink RX12 19 "SmokeTuneModel" "isKept" "[Z") (List.mem_cons_of_mem _ (List.mem_append_left _ (List.mem_of_getElem? (i := 1) rfl)))) (fun _ h9 => h9) rfl dX12_back_22 ?_
      refine lv_iload_n hx hb dX12_back_25 rfl (lv_at hl 1 rfl) ?_
      refine va_zald hx hb hK hP 3 1 rfl rfl (i_in (x := 0) rfl (by omega)) dX12_back_26 ?_
      refine lv_topi (fun x_392 ex_392 => ?_)
      refine lv_if_ne (tgt := 37) hx hb dX12_back_27 (by decide) (fun c_393 => ?_) (fun c_393 => ?_)
      · have c_393i := i_ne (x := x_392.toInt) (y := 0) rfl rfl c_393
        refine lv_iconst (v := 0) hx hb dX12_back_37 (by decide) ?_
        refine lv_istore_n (lv' := [(2, .int 0), (0, .ref m0), (1, .int 0)]) hx hb dX12_back_38 rfl hl (by decide) rfl (fun ls hl => ?_)
        have lp_439 : ∀ (nn_ : Nat) (v_423 : Int32) (f_424 : Nat → Int32) (hv_423 : 0 ≤ v_423.toInt ∧ v_423.toInt ≤ 5500) (hr0_lp_439 : CpV fi f_424 0 (v_423.toInt).toNat) (hn : (5501 - v_423.toInt : Int).toNat < nn_) (H : Heap) (locs : List Loc) (hP : va_P D vwCl [(m0, .inr (12, [.int 0, .int sta, .ref r0, .ref w0, .ref i0, .ref k0, m_6, m_7, .int nu, m_9, m_10, m_11, m_12, m_13, m_14, m_15, m_16, m_17, m_18, m_19, m_20, m_21, m_22, m_23, m_24, m_25, m_26, m_27, m_28, m_29, m_30, m_31, m_32, m_33, m_34, m_35, m_36, m_37, m_38, m_39, m_40, m_41, m_42, m_43, m_44, m_45, m_46, m_47, m_48, m_49, m_50, m_51, m_52, m_53, m_54, m_55, m_56, m_57, m_58, m_59])), (w0, .inl (K 0, 5500, .inl f_424)), (i0, .inl (K 0, 11000, .inl fi)), (k0, .inl (K 1, 2, .inl fk)), (r0, .inl (K 0, 7, .inl frf))] H) (hD : va_D A [(m0, .inr (12, [.int 0, .int sta, .ref r0, .ref w0, .ref i0, .ref k0, m_6, m_7, .int nu, m_9, m_10, m_11, m_12, m_13, m_14, m_15, m_16, m_17, m_18, m_19, m_20, m_21, m_22, m_23, m_24, m_25, m_26, m_27, m_28, m_29, m_30, m_31, m_32, m_33, m_34, m_35, m_36, m_37, m_38, m_39, m_40, m_41, m_42, m_43, m_44, m_45, m_46, m_47, m_48, m_49, m_50, m_51, m_52, m_53, m_54, m_55, m_56, m_57, m_58, m_59])), (w0, .inl (K 0, 5500, .inl f_424)), (i0, .inl (K 0, 11000, .inl fi)), (k0, .inl (K 1, 2, .inl fk)), (r0, .inl (K 0, 7, .inl frf))]) (hS : va_S A s.heap H locs) (ls : Array Slot) (hl : lv_has ls 3 [(2, .int v_423), (0, .ref m0), (1, .int 0)]), W p l e ({ frames := 1, cells := 0, slots := 0, locals := 25 }) s m (([.ref m0, .int 0] : List Value).toArray) below meth c H locs 0 0 Q (F0 m 39 ls []) := by
          intro nn_
          induction nn_ with
          | zero =>
            intro v_423 f_424 hv_423 hr0_lp_439 hn H locs hP hD hS ls hl
            exact absurd hn (Nat.not_lt_zero _)
          | succ nn_ ih_440 =>
            intro v_423 f_424 hv_423 hr0_lp_439 hn H locs hP hD hS ls hl
            refine lv_iload_n hx hb dX12_back_39 rfl (lv_at hl 0 rfl) ?_
            refine lv_sipush (v := 5500) hx hb dX12_back_40 (by decide) ?_
            refine lv_icmp_ge (tgt := 70) hx hb dX12_back_43 (by decide) (fun c_441 => ?_) (fun c_441 => ?_)
            · have c_441i := i_le (x := 5500) (y := v_423.toInt) rfl rfl c_441
              have hro : RwOK f_424 := CpV.fin0 (by have q := hr0_lp_439; rwa [show (v_423.toInt).toNat = 5500 by omega] at q) zfi
              refine lv_aload_n hx hb dX12_back_70 rfl (lv_at hl 1 rfl) ?_
              refine lv_iconst (v := 0) hx hb dX12_back_71 (by decide) ?_
              refine va_put (ci := 12) (v := .int 0) (ty := .int) (C := RX12) (T := TX12) (N := 60) hx hb hts hw12 tyX12 tyX12_ok nmX12 hown hK hP hD hS 0 rfl rfl 8 (by decide) (hts (.fieldLink RX12 164 "SmokeTuneModel" "nUndo" "I") (List.mem_cons_of_mem _ (List.mem_append_left _ (List.mem_of_getElem? (i := 4) rfl)))) (fun _ h9 => h9) rfl (by decide +kernel) (by first | rfl | decide) (by first | rfl | decide) (Nat.le_of_ble_eq_true rfl) dX12_back_72 (fun H locs hP hD hS => ?_)
              have hP : va_P D vwCl [(m0, .inr (12, [.int 0, .int sta, .ref r0, .ref w0, .ref i0, .ref k0, m_6, m_7, .int 0, m_9, m_10, m_11, m_12, m_13, m_14, m_15, m_16, m_17, m_18, m_19, m_20, m_21, m_22, m_23, m_24, m_25, m_26, m_27, m_28, m_29, m_30, m_31, m_32, m_33, m_34, m_35, m_36, m_37, m_38, m_39, m_40, m_41, m_42, m_43, m_44, m_45, m_46, m_47, m_48, m_49, m_50, m_51, m_52, m_53, m_54, m_55, m_56, m_57, m_58, m_59])), (w0, .inl (K 0, 5500, .inl f_424)), (i0, .inl (K 0, 11000, .inl fi)), (k0, .inl (K 1, 2, .inl fk)), (r0, .inl (K 0, 7, .inl frf))] H := hP
              have hD : va_D A [(m0, .inr (12, [.int 0, .int sta, .ref r0, .ref w0, .ref i0, .ref k0, m_6, m_7, .int 0, m_9, m_10, m_11, m_12, m_13, m_14, m_15, m_16, m_17, m_18, m_19, m_20, m_21, m_22, m_23, m_24, m_25, m_26, m_27, m_28, m_29, m_30, m_31, m_32, m_33, m_34, m_35, m_36, m_37, m_38, m_39, m_40, m_41, m_42, m_43, m_44, m_45, m_46, m_47, m_48, m_49, m_50, m_51, m_52, m_53, m_54, m_55, m_56, m_57, m_58, m_59])), (w0, .inl (K 0, 5500, .inl f_424)), (i0, .inl (K 0, 11000, .inl fi)), (k0, .inl (K 1, 2, .inl fk)), (r0, .inl (K 0, 7, .inl frf))] := hD
              refine lv_aload_n hx hb dX12_back_75 rfl (lv_at hl 1 rfl) ?_
              refine lv_iconst (v := 0) hx hb dX12_back_76 (by decide) ?_
              refine kci (S := Su) (wr := [(w0, .inl (K 0, 5500, .inl f_424)), (i0, .inl (K 0, 11000, .inl fi)), (k0, .inl (K 1, 2, .inl fk))]) (va_runV (As := [.int 0]) (rest := []) ⟨hx, hb, hml, hown, hts⟩ (v_tell l D K m0 0 (.int 0) sta r0 (.ref w0) (.ref i0) (.ref k0) m_6 m_7 (.int 0) m_9 m_10 m_11 m_12 m_13 m_14 m_15 m_16 m_17 m_18 m_19 m_20 m_21 m_22 m_23 m_24 m_25 m_26 m_27 m_28 m_29 m_30 m_31 m_32 m_33 m_34 m_35 m_36 m_37 m_38 m_39 m_40 m_41 m_42 m_43 m_44 m_45 m_46 m_47 m_48 m_49 m_50 m_51 m_52 m_53 m_54 m_55 m_56 m_57 m_58 m_59 frf H.size (by first | omega | decide)) (cwV 1 hts gX12_back_X12_tell rfl rfl rfl (by decide +kernel) ⟨Nat.le_of_ble_eq_true rfl, Nat.le_of_ble_eq_true rfl⟩) (mkV hK hN (hP.sub [0, 4] rfl) (hD.sub [0, 4] (by decide) rfl) (ci := 12) (q0 := 0) rfl rfl) rfl rfl hl.1 rfl (lv_room (Nat.le_of_ble_eq_true rfl)) dX12_back_77 ⟨Nat.le_of_ble_eq_true rfl, Nat.le_of_ble_eq_true rfl⟩) hP hD hS hA [0, 4] [1, 2, 3] rfl rfl (by decide) (by decide) (fun r_442 u_443 H locs hw hP hD hS => ?_)
              have hP : va_P D vwCl [(w0, .inl (K 0, 5500, .inl f_424)), (i0, .inl (K 0, 11000, .inl fi)), (k0, .inl (K 1, 2, .inl fk)), (m0, .inr (12, [.int 0, .int (u_443.2.2.2.1 0), .ref r0, .ref w0, .ref i0, .ref k0, m_6, m_7, .int 0, m_9, m_10, m_11, m_12, m_13, m_14, m_15, m_16, m_17, m_18, m_19, m_20, m_21, m_22, m_23, m_24, m_25, m_26, m_27, m_28, m_29, m_30, m_31, m_32, m_33, m_34, m_35, m_36, m_37, m_38, m_39, m_40, m_41, m_42, m_43, m_44, m_45, m_46, m_47, m_48, m_49, m_50, m_51, m_52, m_53, m_54, m_55, m_56, m_57, m_58, m_59])), (r0, .inl (K 0, 7, .inl (u_443.2.1 0)))] H := hP
              have hD : va_D A [(w0, .inl (K 0, 5500, .inl f_424)), (i0, .inl (K 0, 11000, .inl fi)), (k0, .inl (K 1, 2, .inl fk)), (m0, .inr (12, [.int 0, .int (u_443.2.2.2.1 0), .ref r0, .ref w0, .ref i0, .ref k0, m_6, m_7, .int 0, m_9, m_10, m_11, m_12, m_13, m_14, m_15, m_16, m_17, m_18, m_19, m_20, m_21, m_22, m_23, m_24, m_25, m_26, m_27, m_28, m_29, m_30, m_31, m_32, m_33, m_34, m_35, m_36, m_37, m_38, m_39, m_40, m_41, m_42, m_43, m_44, m_45, m_46, m_47, m_48, m_49, m_50, m_51, m_52, m_53, m_54, m_55, m_56, m_57, m_58, m_59])), (r0, .inl (K 0, 7, .inl (u_443.2.1 0)))] := hD
              obtain ⟨h_445, k_444, -⟩ := hw
              rw [← hQ]
              have hP9 := hP.sub (ws' := [(m0, .inr (12, [.int 0, .int (u_443.2.2.2.1 0), .ref r0, .ref w0, .ref i0, .ref k0, m_6, m_7, .int 0, m_9, m_10, m_11, m_12, m_13, m_14, m_15, m_16, m_17, m_18, m_19, m_20, m_21, m_22, m_23, m_24, m_25, m_26, m_27, m_28, m_29, m_30, m_31, m_32, m_33, m_34, m_35, m_36, m_37, m_38, m_39, m_40, m_41, m_42, m_43, m_44, m_45, m_46, m_47, m_48, m_49, m_50, m_51, m_52, m_53, m_54, m_55, m_56, m_57, m_58, m_59])), (w0, .inl (K 0, 5500, .inl f_424)), (i0, .inl (K 0, 11000, .inl fi)), (k0, .inl (K 1, 2, .inl fk)), (r0, .inl (K 0, 7, .inl (u_443.2.1 0)))]) [3, 0, 1, 2, 4] rfl
              have hD9 := hD.sub (ws' := [(m0, .inr (12, [.int 0, .int (u_443.2.2.2.1 0), .ref r0, .ref w0, .ref i0, .ref k0, m_6, m_7, .int 0, m_9, m_10, m_11, m_12, m_13, m_14, m_15, m_16, m_17, m_18, m_19, m_20, m_21, m_22, m_23, m_24, m_25, m_26, m_27, m_28, m_29, m_30, m_31, m_32, m_33, m_34, m_35, m_36, m_37, m_38, m_39, m_40, m_41, m_42, m_43, m_44, m_45, m_46, m_47, m_48, m_49, m_50, m_51, m_52, m_53, m_54, m_55, m_56, m_57, m_58, m_59])), (w0, .inl (K 0, 5500, .inl f_424)), (i0, .inl (K 0, 11000, .inl fi)), (k0, .inl (K 1, 2, .inl fk)), (r0, .inl (K 0, 7, .inl (u_443.2.1 0)))]) [3, 0, 1, 2, 4] (by decide) rfl
              exact W.iret (v := r_442) hx hb hr (fun t ht hW => ⟨⟨r_442, ((fun _ => 0, fun i => match i with | 0 => f_424 | _ => (u_443.2.1 0), fun _ => fun _ => 0, fun i => match i with | 0 => (u_443.2.2.2.1 0) | _ => 0, fun _ => 0, fun _ => fun _ => none) : Su), rfl, ⟨(show (-6) ≤ r_442.toInt by omega), (show (-6) ≤ ((u_443.2.2.2.1 0) : Int32).toInt ∧ ((u_443.2.2.2.1 0) : Int32).toInt ≤ 0 by omega), hro, trivial⟩, (⟨by rw [ht]; exact hP9, hD9⟩ : Wd D A _ t)⟩, hS.F ht⟩) hS.2.2 dX12_back_80
            · have c_441i := i_nle (x := 5500) (y := v_423.toInt) rfl rfl c_441
              refine lv_aload_n hx hb dX12_back_46 rfl (lv_at hl 1 rfl) ?_
              refine va_get (ci := 12) (v := .ref w0) (C := RX12) (T := TX12) (N := 60) hx hb hts hw12 hown hK hP 0 rfl rfl 3 (by decide) (hts (.fieldLink RX12 13 "SmokeTuneModel" "row" "[I") (List.mem_cons_of_mem _ (List.mem_append_left _ (List.mem_of_getElem? (i := 2) rfl)))) (fun _ h9 => h9) rfl dX12_back_47 ?_
              refine lv_iload_n hx hb dX12_back_50 rfl (lv_at hl 0 rfl) ?_
              refine lv_aload_n hx hb dX12_back_51 rfl (lv_at hl 1 rfl) ?_
              refine va_get (ci := 12) (v := .ref i0) (C := RX12) (T := TX12) (N := 60) hx hb hts hw12 hown hK hP 0 rfl rfl 4 (by decide) (hts (.fieldLink RX12 16 "SmokeTuneModel" "images" "[I") (List.mem_cons_of_mem _ (List.mem_append_left _ (List.mem_of_getElem? (i := 3) rfl)))) (fun _ h9 => h9) rfl dX12_back_52 ?_
              refine lv_sipush (v := 5500) hx hb dX12_back_55 (by decide) ?_
              refine lv_iload_n hx hb dX12_back_58 rfl (lv_at hl 2 rfl) ?_
              refine lv_imul hx hb dX12_back_59 ?_
              refine lv_topi (fun x_446 ex_446 => ?_)
              obtain rfl : x_446 = 0 := ex_446.trans (by first | rfl | decide)
              refine lv_iload_n hx hb dX12_back_60 rfl (lv_at hl 0 rfl) ?_
              refine lv_iadd hx hb dX12_back_61 ?_
              refine lv_topi (fun x_447 ex_447 => ?_)
              have hx_447 : x_447.toInt = (0 + v_423.toInt) := by rw [ex_447]; exact i_add (show (0 : Int32).toInt = 0 from rfl) rfl (by omega)
              refine va_iald hx hb hK hP 2 0 rfl rfl (i_in hx_447 (by omega)) dX12_back_62 ?_
              refine lv_topi (fun x_448 ex_448 => ?_)
              refine va_iast hx hb hK hP hD hS 1 0 rfl rfl (i_in rfl (by omega)) dX12_back_63 (fun H locs hP hD hS => ?_)
              generalize hf_449 : (upd f_424 (v_423 : Int32).toNatClampNeg x_448) = f_449 at hP hD
              have hP : va_P D vwCl [(m0, .inr (12, [.int 0, .int sta, .ref r0, .ref w0, .ref i0, .ref k0, m_6, m_7, .int nu, m_9, m_10, m_11, m_12, m_13, m_14, m_15, m_16, m_17, m_18, m_19, m_20, m_21, m_22, m_23, m_24, m_25, m_26, m_27, m_28, m_29, m_30, m_31, m_32, m_33, m_34, m_35, m_36, m_37, m_38, m_39, m_40, m_41, m_42, m_43, m_44, m_45, m_46, m_47, m_48, m_49, m_50, m_51, m_52, m_53, m_54, m_55, m_56, m_57, m_58, m_59])), (w0, .inl (K 0, 5500, .inl f_449)), (i0, .inl (K 0, 11000, .inl fi)), (k0, .inl (K 1, 2, .inl fk)), (r0, .inl (K 0, 7, .inl frf))] H := hP
              have hD : va_D A [(m0, .inr (12, [.int 0, .int sta, .ref r0, .ref w0, .ref i0, .ref k0, m_6, m_7, .int nu, m_9, m_10, m_11, m_12, m_13, m_14, m_15, m_16, m_17, m_18, m_19, m_20, m_21, m_22, m_23, m_24, m_25, m_26, m_27, m_28, m_29, m_30, m_31, m_32, m_33, m_34, m_35, m_36, m_37, m_38, m_39, m_40, m_41, m_42, m_43, m_44, m_45, m_46, m_47, m_48, m_49, m_50, m_51, m_52, m_53, m_54, m_55, m_56, m_57, m_58, m_59])), (w0, .inl (K 0, 5500, .inl f_449)), (i0, .inl (K 0, 11000, .inl fi)), (k0, .inl (K 1, 2, .inl fk)), (r0, .inl (K 0, 7, .inl frf))] := hD
              obtain ⟨x_450, ex_450⟩ : ∃ y : Int32, y = v_423 + Int32.ofInt 1 := ⟨_, rfl⟩
              have hx_450 : x_450.toInt = (v_423.toInt + 1) := by rw [ex_450]; exact i_add rfl (show (Int32.ofInt 1).toInt = 1 from rfl) (by omega)
              refine lv_iinc (v := x_450) (lv' := [(2, .int x_450), (0, .ref m0), (1, .int 0)]) hx hb dX12_back_64 hl (k := 0) rfl (by rw [ex_450]) (by decide) rfl (fun ls hl => ?_)
              refine lv_goto (tgt := 39) hx hb dX12_back_67 (by decide) ?_
              exact ih_440 x_450 f_449 (by rw [hx_450]; omega) (show CpV fi f_449 0 ((x_450 : Int32).toInt).toNat by rw [← hf_449, i_clamp (x := v_423) (z := v_423.toInt) rfl, ex_448, i_clamp (x := x_447) (z := (0 + v_423.toInt)) hx_447, show ((0 + v_423.toInt)).toNat = 0 + (v_423.toInt).toNat by omega, show (x_450 : Int32).toInt.toNat = (v_423.toInt).toNat + 1 by omega]; exact CpV.step hr0_lp_439) (by omega) _ _ hP hD hS ls (lv_sub hl [0, 1, 2] rfl)
        have hz_451 : (0 : Int32).toInt = 0 := rfl
        exact lp_439 ((5501 - (0 : Int32).toInt : Int).toNat + 1) 0 fw (by decide) (show CpV fi fw 0 ((0 : Int32).toInt).toNat by exact CpV.base) (Nat.lt_succ_self _) _ _ hP hD hS ls (lv_sub hl [0, 1, 2] rfl)
      · have c_393i := i_eq (x := x_392.toInt) (y := 0) rfl rfl c_393
        refine lv_aload_n hx hb dX12_back_30 rfl (lv_at hl 0 rfl) ?_
        refine lv_bipush (v := (-2)) hx hb dX12_back_31 (by decide) ?_
        refine kci (S := Su) (wr := [(w0, .inl (K 0, 5500, .inl fw)), (i0, .inl (K 0, 11000, .inl fi)), (k0, .inl (K 1, 2, .inl fk))]) (va_runV (As := [.int (-2)]) (rest := []) ⟨hx, hb, hml, hown, hts⟩ (v_tell l D K m0 (-2) (.int 0) sta r0 (.ref w0) (.ref i0) (.ref k0) m_6 m_7 (.int nu) m_9 m_10 m_11 m_12 m_13 m_14 m_15 m_16 m_17 m_18 m_19 m_20 m_21 m_22 m_23 m_24 m_25 m_26 m_27 m_28 m_29 m_30 m_31 m_32 m_33 m_34 m_35 m_36 m_37 m_38 m_39 m_40 m_41 m_42 m_43 m_44 m_45 m_46 m_47 m_48 m_49 m_50 m_51 m_52 m_53 m_54 m_55 m_56 m_57 m_58 m_59 frf H.size (by first | omega | decide)) (cwV 1 hts gX12_back_X12_tell rfl rfl rfl (by decide +kernel) ⟨Nat.le_of_ble_eq_true rfl, Nat.le_of_ble_eq_true rfl⟩) (mkV hK hN (hP.sub [0, 4] rfl) (hD.sub [0, 4] (by decide) rfl) (ci := 12) (q0 := 0) rfl rfl) rfl rfl hl.1 rfl (lv_room (Nat.le_of_ble_eq_true rfl)) dX12_back_33 ⟨Nat.le_of_ble_eq_true rfl, Nat.le_of_ble_eq_true rfl⟩) hP hD hS hA [0, 4] [1, 2, 3] rfl rfl (by decide) (by decide) (fun r_452 u_453 H locs hw hP hD hS => ?_)
        have hP : va_P D vwCl [(w0, .inl (K 0, 5500, .inl fw)), (i0, .inl (K 0, 11000, .inl fi)), (k0, .inl (K 1, 2, .inl fk)), (m0, .inr (12, [.int 0, .int (u_453.2.2.2.1 0), .ref r0, .ref w0, .ref i0, .ref k0, m_6, m_7, .int nu, m_9, m_10, m_11, m_12, m_13, m_14, m_15, m_16, m_17, m_18, m_19, m_20, m_21, m_22, m_23, m_24, m_25, m_26, m_27, m_28, m_29, m_30, m_31, m_32, m_33, m_34, m_35, m_36, m_37, m_38, m_39, m_40, m_41, m_42, m_43, m_44, m_45, m_46, m_47, m_48, m_49, m_50, m_51, m_52, m_53, m_54, m_55, m_56, m_57, m_58, m_59])), (r0, .inl (K 0, 7, .inl (u_453.2.1 0)))] H := hP
        have hD : va_D A [(w0, .inl (K 0, 5500, .inl fw)), (i0, .inl (K 0, 11000, .inl fi)), (k0, .inl (K 1, 2, .inl fk)), (m0, .inr (12, [.int 0, .int (u_453.2.2.2.1 0), .ref r0, .ref w0, .ref i0, .ref k0, m_6, m_7, .int nu, m_9, m_10, m_11, m_12, m_13, m_14, m_15, m_16, m_17, m_18, m_19, m_20, m_21, m_22, m_23, m_24, m_25, m_26, m_27, m_28, m_29, m_30, m_31, m_32, m_33, m_34, m_35, m_36, m_37, m_38, m_39, m_40, m_41, m_42, m_43, m_44, m_45, m_46, m_47, m_48, m_49, m_50, m_51, m_52, m_53, m_54, m_55, m_56, m_57, m_58, m_59])), (r0, .inl (K 0, 7, .inl (u_453.2.1 0)))] := hD
        obtain ⟨h_455, k_454, -⟩ := hw
        rw [← hQ]
        have hP9 := hP.sub (ws' := [(m0, .inr (12, [.int 0, .int (u_453.2.2.2.1 0), .ref r0, .ref w0, .ref i0, .ref k0, m_6, m_7, .int nu, m_9, m_10, m_11, m_12, m_13, m_14, m_15, m_16, m_17, m_18, m_19, m_20, m_21, m_22, m_23, m_24, m_25, m_26, m_27, m_28, m_29, m_30, m_31, m_32, m_33, m_34, m_35, m_36, m_37, m_38, m_39, m_40, m_41, m_42, m_43, m_44, m_45, m_46, m_47, m_48, m_49, m_50, m_51, m_52, m_53, m_54, m_55, m_56, m_57, m_58, m_59])), (w0, .inl (K 0, 5500, .inl fw)), (i0, .inl (K 0, 11000, .inl fi)), (k0, .inl (K 1, 2, .inl fk)), (r0, .inl (K 0, 7, .inl (u_453.2.1 0)))]) [3, 0, 1, 2, 4] rfl
        have hD9 := hD.sub (ws' := [(m0, .inr (12, [.int 0, .int (u_453.2.2.2.1 0), .ref r0, .ref w0, .ref i0, .ref k0, m_6, m_7, .int nu, m_9, m_10, m_11, m_12, m_13, m_14, m_15, m_16, m_17, m_18, m_19, m_20, m_21, m_22, m_23, m_24, m_25, m_26, m_27, m_28, m_29, m_30, m_31, m_32, m_33, m_34, m_35, m_36, m_37, m_38, m_39, m_40, m_41, m_42, m_43, m_44, m_45, m_46, m_47, m_48, m_49, m_50, m_51, m_52, m_53, m_54, m_55, m_56, m_57, m_58, m_59])), (w0, .inl (K 0, 5500, .inl fw)), (i0, .inl (K 0, 11000, .inl fi)), (k0, .inl (K 1, 2, .inl fk)), (r0, .inl (K 0, 7, .inl (u_453.2.1 0)))]) [3, 0, 1, 2, 4] (by decide) rfl
        exact W.iret (v := r_452) hx hb hr (fun t ht hW => ⟨⟨r_452, ((fun _ => 0, fun i => match i with | 0 => fw | _ => (u_453.2.1 0), fun _ => fun _ => 0, fun i => match i with | 0 => (u_453.2.2.2.1 0) | _ => nu, fun _ => 0, fun _ => fun _ => none) : Su), rfl, ⟨(show (-6) ≤ r_452.toInt by omega), (show (-6) ≤ ((u_453.2.2.2.1 0) : Int32).toInt ∧ ((u_453.2.2.2.1 0) : Int32).toInt ≤ 0 by omega), zfw, trivial⟩, (⟨by rw [ht]; exact hP9, hD9⟩ : Wd D A _ t)⟩, hS.F ht⟩) hS.2.2 dX12_back_36
    · exfalso; omega
  · obtain rfl : x = 1 := i_lit (b := 1) hx0 rfl
    have hl : lv_has ls 3 [(0, .ref m0), (1, .int 1)] := hl
    refine lv_aload_n hx hb dX12_back_0 rfl (lv_at hl 0 rfl) ?_
    refine lv_iconst (v := 0) hx hb dX12_back_1 (by decide) ?_
    refine va_put (ci := 12) (v := .int 0) (ty := .int) (C := RX12) (T := TX12) (N := 60) hx hb hts hw12 tyX12 tyX12_ok nmX12 hown hK hP hD hS 0 rfl rfl 0 (by decide) (hts (.fieldLink RX12 158 "SmokeTuneModel" "thrown" "I") (List.mem_cons_of_mem _ (List.mem_append_left _ (List.mem_of_getElem? (i := 0) rfl)))) (fun _ h9 => h9) rfl (by decide +kernel) (by first | rfl | decide) (by first | rfl | decide) (Nat.le_of_ble_eq_true rfl) dX12_back_2 (fun H locs hP hD hS => ?_)
    have hP : va_P D vwCl [(m0, .inr (12, [.int 0, .int sta, .ref r0, .ref w0, .ref i0, .ref k0, m_6, m_7, .int nu, m_9, m_10, m_11, m_12, m_13, m_14, m_15, m_16, m_17, m_18, m_19, m_20, m_21, m_22, m_23, m_24, m_25, m_26, m_27, m_28, m_29, m_30, m_31, m_32, m_33, m_34, m_35, m_36, m_37, m_38, m_39, m_40, m_41, m_42, m_43, m_44, m_45, m_46, m_47, m_48, m_49, m_50, m_51, m_52, m_53, m_54, m_55, m_56, m_57, m_58, m_59])), (w0, .inl (K 0, 5500, .inl fw)), (i0, .inl (K 0, 11000, .inl fi)), (k0, .inl (K 1, 2, .inl fk)), (r0, .inl (K 0, 7, .inl frf))] H := hP
    have hD : va_D A [(m0, .inr (12, [.int 0, .int sta, .ref r0, .ref w0, .ref i0, .ref k0, m_6, m_7, .int nu, m_9, m_10, m_11, m_12, m_13, m_14, m_15, m_16, m_17, m_18, m_19, m_20, m_21, m_22, m_23, m_24, m_25, m_26, m_27, m_28, m_29, m_30, m_31, m_32, m_33, m_34, m_35, m_36, m_37, m_38, m_39, m_40, m_41, m_42, m_43, m_44, m_45, m_46, m_47, m_48, m_49, m_50, m_51, m_52, m_53, m_54, m_55, m_56, m_57, m_58, m_59])), (w0, .inl (K 0, 5500, .inl fw)), (i0, .inl (K 0, 11000, .inl fi)), (k0, .inl (K 1, 2, .inl fk)), (r0, .inl (K 0, 7, .inl frf))] := hD
    refine lv_iload_n hx hb dX12_back_5 rfl (lv_at hl 1 rfl) ?_
    refine lv_i2l (v := 1) hx hb dX12_back_6 (by decide) ?_
    refine lv_lconst (v := 0) hx hb dX12_back_7 (by decide) ?_
    refine lv_lconst (v := 1) hx hb dX12_back_8 (by decide) ?_
    refine pci (va_runS (As := [.long 1, .long 0, .long 1]) (rest := []) ⟨hx, hb, hml, hown, hts⟩ (v_in l D K 1 0 1 1 0 1 H.size (show (1 : Int64).toInt = 1 from rfl) (show (0 : Int64).toInt = 0 from rfl) (show (1 : Int64).toInt = 1 from rfl)) (va_cwS 3 hts gX12_back_X12_in rfl rfl rfl (by decide +kernel) ⟨Nat.le_of_ble_eq_true rfl, Nat.le_of_ble_eq_true rfl⟩) (mkS hK hN (va_P.nil) (va_D.nil (A := fun _ => True))) rfl rfl hl.1 rfl (lv_room (Nat.le_of_ble_eq_true rfl)) dX12_back_9 ⟨Nat.le_of_ble_eq_true rfl, Nat.le_of_ble_eq_true rfl⟩) (fun r_456 hw => ?_)
    obtain ⟨hw, -⟩ := hw
    rcases hw with ⟨rfl, h_457, h_458⟩ | ⟨rfl, h_459⟩
    · refine lv_if_ne (tgt := 21) hx hb dX12_back_12 (by decide) (fun c_460 => ?_) (fun c_460 => absurd c_460 (by decide))
      refine lv_aload_n hx hb dX12_back_21 rfl (lv_at hl 0 rfl) ?_
      refine va_get (ci := 12) (v := .ref k0) (C := RX12) (T := TX12) (N := 60) hx hb hts hw12 hown hK hP 0 rfl rfl 5 (by decide) (hts (.fieldLink RX12 19 "SmokeTuneModel" "isKept" "[Z") (List.mem_cons_of_mem _ (List.mem_append_left _ (List.mem_of_getElem? (i := 1) rfl)))) (fun _ h9 => h9) rfl dX12_back_22 ?_
      refine lv_iload_n hx hb dX12_back_25 rfl (lv_at hl 1 rfl) ?_
      refine va_zald hx hb hK hP 3 1 rfl rfl (i_in (x := 1) rfl (by omega)) dX12_back_26 ?_
      refine lv_topi (fun x_461 ex_461 => ?_)
      refine lv_if_ne (tgt := 37) hx hb dX12_back_27 (by decide) (fun c_462 => ?_) (fun c_462 => ?_)
      · have c_462i := i_ne (x := x_461.toInt) (y := 0) rfl rfl c_462
        refine lv_iconst (v := 0) hx hb dX12_back_37 (by decide) ?_
        refine lv_istore_n (lv' := [(2, .int 0), (0, .ref m0), (1, .int 1)]) hx hb dX12_back_38 rfl hl (by decide) rfl (fun ls hl => ?_)
        have lp_508 : ∀ (nn_ : Nat) (v_492 : Int32) (f_493 : Nat → Int32) (hv_492 : 0 ≤ v_492.toInt ∧ v_492.toInt ≤ 5500) (hr0_lp_508 : CpV fi f_493 5500 (v_492.toInt).toNat) (hn : (5501 - v_492.toInt : Int).toNat < nn_) (H : Heap) (locs : List Loc) (hP : va_P D vwCl [(m0, .inr (12, [.int 0, .int sta, .ref r0, .ref w0, .ref i0, .ref k0, m_6, m_7, .int nu, m_9, m_10, m_11, m_12, m_13, m_14, m_15, m_16, m_17, m_18, m_19, m_20, m_21, m_22, m_23, m_24, m_25, m_26, m_27, m_28, m_29, m_30, m_31, m_32, m_33, m_34, m_35, m_36, m_37, m_38, m_39, m_40, m_41, m_42, m_43, m_44, m_45, m_46, m_47, m_48, m_49, m_50, m_51, m_52, m_53, m_54, m_55, m_56, m_57, m_58, m_59])), (w0, .inl (K 0, 5500, .inl f_493)), (i0, .inl (K 0, 11000, .inl fi)), (k0, .inl (K 1, 2, .inl fk)), (r0, .inl (K 0, 7, .inl frf))] H) (hD : va_D A [(m0, .inr (12, [.int 0, .int sta, .ref r0, .ref w0, .ref i0, .ref k0, m_6, m_7, .int nu, m_9, m_10, m_11, m_12, m_13, m_14, m_15, m_16, m_17, m_18, m_19, m_20, m_21, m_22, m_23, m_24, m_25, m_26, m_27, m_28, m_29, m_30, m_31, m_32, m_33, m_34, m_35, m_36, m_37, m_38, m_39, m_40, m_41, m_42, m_43, m_44, m_45, m_46, m_47, m_48, m_49, m_50, m_51, m_52, m_53, m_54, m_55, m_56, m_57, m_58, m_59])), (w0, .inl (K 0, 5500, .inl f_493)), (i0, .inl (K 0, 11000, .inl fi)), (k0, .inl (K 1, 2, .inl fk)), (r0, .inl (K 0, 7, .inl frf))]) (hS : va_S A s.heap H locs) (ls : Array Slot) (hl : lv_has ls 3 [(2, .int v_492), (0, .ref m0), (1, .int 1)]), W p l e ({ frames := 1, cells := 0, slots := 0, locals := 25 }) s m (([.ref m0, .int 1] : List Value).toArray) below meth c H locs 0 0 Q (F0 m 39 ls []) := by
          intro nn_
          induction nn_ with
          | zero =>
            intro v_492 f_493 hv_492 hr0_lp_508 hn H locs hP hD hS ls hl
            exact absurd hn (Nat.not_lt_zero _)
          | succ nn_ ih_509 =>
            intro v_492 f_493 hv_492 hr0_lp_508 hn H locs hP hD hS ls hl
            refine lv_iload_n hx hb dX12_back_39 rfl (lv_at hl 0 rfl) ?_
            refine lv_sipush (v := 5500) hx hb dX12_back_40 (by decide) ?_
            refine lv_icmp_ge (tgt := 70) hx hb dX12_back_43 (by decide) (fun c_510 => ?_) (fun c_510 => ?_)
            · have c_510i := i_le (x := 5500) (y := v_492.toInt) rfl rfl c_510
              have hro : RwOK f_493 := CpV.fin1 (by have q := hr0_lp_508; rwa [show (v_492.toInt).toNat = 5500 by omega] at q) zfi
              refine lv_aload_n hx hb dX12_back_70 rfl (lv_at hl 1 rfl) ?_
              refine lv_iconst (v := 0) hx hb dX12_back_71 (by decide) ?_
              refine va_put (ci := 12) (v := .int 0) (ty := .int) (C := RX12) (T := TX12) (N := 60) hx hb hts hw12 tyX12 tyX12_ok nmX12 hown hK hP hD hS 0 rfl rfl 8 (by decide) (hts (.fieldLink RX12 164 "SmokeTuneModel" "nUndo" "I") (List.mem_cons_of_mem _ (List.mem_append_left _ (List.mem_of_getElem? (i := 4) rfl)))) (fun _ h9 => h9) rfl (by decide +kernel) (by first | rfl | decide) (by first | rfl | decide) (Nat.le_of_ble_eq_true rfl) dX12_back_72 (fun H locs hP hD hS => ?_)
              have hP : va_P D vwCl [(m0, .inr (12, [.int 0, .int sta, .ref r0, .ref w0, .ref i0, .ref k0, m_6, m_7, .int 0, m_9, m_10, m_11, m_12, m_13, m_14, m_15, m_16, m_17, m_18, m_19, m_20, m_21, m_22, m_23, m_24, m_25, m_26, m_27, m_28, m_29, m_30, m_31, m_32, m_33, m_34, m_35, m_36, m_37, m_38, m_39, m_40, m_41, m_42, m_43, m_44, m_45, m_46, m_47, m_48, m_49, m_50, m_51, m_52, m_53, m_54, m_55, m_56, m_57, m_58, m_59])), (w0, .inl (K 0, 5500, .inl f_493)), (i0, .inl (K 0, 11000, .inl fi)), (k0, .inl (K 1, 2, .inl fk)), (r0, .inl (K 0, 7, .inl frf))] H := hP
              have hD : va_D A [(m0, .inr (12, [.int 0, .int sta, .ref r0, .ref w0, .ref i0, .ref k0, m_6, m_7, .int 0, m_9, m_10, m_11, m_12, m_13, m_14, m_15, m_16, m_17, m_18, m_19, m_20, m_21, m_22, m_23, m_24, m_25, m_26, m_27, m_28, m_29, m_30, m_31, m_32, m_33, m_34, m_35, m_36, m_37, m_38, m_39, m_40, m_41, m_42, m_43, m_44, m_45, m_46, m_47, m_48, m_49, m_50, m_51, m_52, m_53, m_54, m_55, m_56, m_57, m_58, m_59])), (w0, .inl (K 0, 5500, .inl f_493)), (i0, .inl (K 0, 11000, .inl fi)), (k0, .inl (K 1, 2, .inl fk)), (r0, .inl (K 0, 7, .inl frf))] := hD
              refine lv_aload_n hx hb dX12_back_75 rfl (lv_at hl 1 rfl) ?_
              refine lv_iconst (v := 0) hx hb dX12_back_76 (by decide) ?_
              refine kci (S := Su) (wr := [(w0, .inl (K 0, 5500, .inl f_493)), (i0, .inl (K 0, 11000, .inl fi)), (k0, .inl (K 1, 2, .inl fk))]) (va_runV (As := [.int 0]) (rest := []) ⟨hx, hb, hml, hown, hts⟩ (v_tell l D K m0 0 (.int 0) sta r0 (.ref w0) (.ref i0) (.ref k0) m_6 m_7 (.int 0) m_9 m_10 m_11 m_12 m_13 m_14 m_15 m_16 m_17 m_18 m_19 m_20 m_21 m_22 m_23 m_24 m_25 m_26 m_27 m_28 m_29 m_30 m_31 m_32 m_33 m_34 m_35 m_36 m_37 m_38 m_39 m_40 m_41 m_42 m_43 m_44 m_45 m_46 m_47 m_48 m_49 m_50 m_51 m_52 m_53 m_54 m_55 m_56 m_57 m_58 m_59 frf H.size (by first | omega | decide)) (cwV 1 hts gX12_back_X12_tell rfl rfl rfl (by decide +kernel) ⟨Nat.le_of_ble_eq_true rfl, Nat.le_of_ble_eq_true rfl⟩) (mkV hK hN (hP.sub [0, 4] rfl) (hD.sub [0, 4] (by decide) rfl) (ci := 12) (q0 := 0) rfl rfl) rfl rfl hl.1 rfl (lv_room (Nat.le_of_ble_eq_true rfl)) dX12_back_77 ⟨Nat.le_of_ble_eq_true rfl, Nat.le_of_ble_eq_true rfl⟩) hP hD hS hA [0, 4] [1, 2, 3] rfl rfl (by decide) (by decide) (fun r_511 u_512 H locs hw hP hD hS => ?_)
              have hP : va_P D vwCl [(w0, .inl (K 0, 5500, .inl f_493)), (i0, .inl (K 0, 11000, .inl fi)), (k0, .inl (K 1, 2, .inl fk)), (m0, .inr (12, [.int 0, .int (u_512.2.2.2.1 0), .ref r0, .ref w0, .ref i0, .ref k0, m_6, m_7, .int 0, m_9, m_10, m_11, m_12, m_13, m_14, m_15, m_16, m_17, m_18, m_19, m_20, m_21, m_22, m_23, m_24, m_25, m_26, m_27, m_28, m_29, m_30, m_31, m_32, m_33, m_34, m_35, m_36, m_37, m_38, m_39, m_40, m_41, m_42, m_43, m_44, m_45, m_46, m_47, m_48, m_49, m_50, m_51, m_52, m_53, m_54, m_55, m_56, m_57, m_58, m_59])), (r0, .inl (K 0, 7, .inl (u_512.2.1 0)))] H := hP
              have hD : va_D A [(w0, .inl (K 0, 5500, .inl f_493)), (i0, .inl (K 0, 11000, .inl fi)), (k0, .inl (K 1, 2, .inl fk)), (m0, .inr (12, [.int 0, .int (u_512.2.2.2.1 0), .ref r0, .ref w0, .ref i0, .ref k0, m_6, m_7, .int 0, m_9, m_10, m_11, m_12, m_13, m_14, m_15, m_16, m_17, m_18, m_19, m_20, m_21, m_22, m_23, m_24, m_25, m_26, m_27, m_28, m_29, m_30, m_31, m_32, m_33, m_34, m_35, m_36, m_37, m_38, m_39, m_40, m_41, m_42, m_43, m_44, m_45, m_46, m_47, m_48, m_49, m_50, m_51, m_52, m_53, m_54, m_55, m_56, m_57, m_58, m_59])), (r0, .inl (K 0, 7, .inl (u_512.2.1 0)))] := hD
              obtain ⟨h_514, k_513, -⟩ := hw
              rw [← hQ]
              have hP9 := hP.sub (ws' := [(m0, .inr (12, [.int 0, .int (u_512.2.2.2.1 0), .ref r0, .ref w0, .ref i0, .ref k0, m_6, m_7, .int 0, m_9, m_10, m_11, m_12, m_13, m_14, m_15, m_16, m_17, m_18, m_19, m_20, m_21, m_22, m_23, m_24, m_25, m_26, m_27, m_28, m_29, m_30, m_31, m_32, m_33, m_34, m_35, m_36, m_37, m_38, m_39, m_40, m_41, m_42, m_43, m_44, m_45, m_46, m_47, m_48, m_49, m_50, m_51, m_52, m_53, m_54, m_55, m_56, m_57, m_58, m_59])), (w0, .inl (K 0, 5500, .inl f_493)), (i0, .inl (K 0, 11000, .inl fi)), (k0, .inl (K 1, 2, .inl fk)), (r0, .inl (K 0, 7, .inl (u_512.2.1 0)))]) [3, 0, 1, 2, 4] rfl
              have hD9 := hD.sub (ws' := [(m0, .inr (12, [.int 0, .int (u_512.2.2.2.1 0), .ref r0, .ref w0, .ref i0, .ref k0, m_6, m_7, .int 0, m_9, m_10, m_11, m_12, m_13, m_14, m_15, m_16, m_17, m_18, m_19, m_20, m_21, m_22, m_23, m_24, m_25, m_26, m_27, m_28, m_29, m_30, m_31, m_32, m_33, m_34, m_35, m_36, m_37, m_38, m_39, m_40, m_41, m_42, m_43, m_44, m_45, m_46, m_47, m_48, m_49, m_50, m_51, m_52, m_53, m_54, m_55, m_56, m_57, m_58, m_59])), (w0, .inl (K 0, 5500, .inl f_493)), (i0, .inl (K 0, 11000, .inl fi)), (k0, .inl (K 1, 2, .inl fk)), (r0, .inl (K 0, 7, .inl (u_512.2.1 0)))]) [3, 0, 1, 2, 4] (by decide) rfl
              exact W.iret (v := r_511) hx hb hr (fun t ht hW => ⟨⟨r_511, ((fun _ => 0, fun i => match i with | 0 => f_493 | _ => (u_512.2.1 0), fun _ => fun _ => 0, fun i => match i with | 0 => (u_512.2.2.2.1 0) | _ => 0, fun _ => 0, fun _ => fun _ => none) : Su), rfl, ⟨(show (-6) ≤ r_511.toInt by omega), (show (-6) ≤ ((u_512.2.2.2.1 0) : Int32).toInt ∧ ((u_512.2.2.2.1 0) : Int32).toInt ≤ 0 by omega), hro, trivial⟩, (⟨by rw [ht]; exact hP9, hD9⟩ : Wd D A _ t)⟩, hS.F ht⟩) hS.2.2 dX12_back_80
            · have c_510i := i_nle (x := 5500) (y := v_492.toInt) rfl rfl c_510
              refine lv_aload_n hx hb dX12_back_46 rfl (lv_at hl 1 rfl) ?_
              refine va_get (ci := 12) (v := .ref w0) (C := RX12) (T := TX12) (N := 60) hx hb hts hw12 hown hK hP 0 rfl rfl 3 (by decide) (hts (.fieldLink RX12 13 "SmokeTuneModel" "row" "[I") (List.mem_cons_of_mem _ (List.mem_append_left _ (List.mem_of_getElem? (i := 2) rfl)))) (fun _ h9 => h9) rfl dX12_back_47 ?_
              refine lv_iload_n hx hb dX12_back_50 rfl (lv_at hl 0 rfl) ?_
              refine lv_aload_n hx hb dX12_back_51 rfl (lv_at hl 1 rfl) ?_
              refine va_get (ci := 12) (v := .ref i0) (C := RX12) (T := TX12) (N := 60) hx hb hts hw12 hown hK hP 0 rfl rfl 4 (by decide) (hts (.fieldLink RX12 16 "SmokeTuneModel" "images" "[I") (List.mem_cons_of_mem _ (List.mem_append_left _ (List.mem_of_getElem? (i := 3) rfl)))) (fun _ h9 => h9) rfl dX12_back_52 ?_
              refine lv_sipush (v := 5500) hx hb dX12_back_55 (by decide) ?_
              refine lv_iload_n hx hb dX12_back_58 rfl (lv_at hl 2 rfl) ?_
              refine lv_imul hx hb dX12_back_59 ?_
              refine lv_topi (fun x_515 ex_515 => ?_)
              obtain rfl : x_515 = 5500 := ex_515.trans (by first | rfl | decide)
              refine lv_iload_n hx hb dX12_back_60 rfl (lv_at hl 0 rfl) ?_
              refine lv_iadd hx hb dX12_back_61 ?_
              refine lv_topi (fun x_516 ex_516 => ?_)
              have hx_516 : x_516.toInt = (5500 + v_492.toInt) := by rw [ex_516]; exact i_add (show (5500 : Int32).toInt = 5500 from rfl) rfl (by omega)
              refine va_iald hx hb hK hP 2 0 rfl rfl (i_in hx_516 (by omega)) dX12_back_62 ?_
              refine lv_topi (fun x_517 ex_517 => ?_)
              refine va_iast hx hb hK hP hD hS 1 0 rfl rfl (i_in rfl (by omega)) dX12_back_63 (fun H locs hP hD hS => ?_)
              generalize hf_518 : (upd f_493 (v_492 : Int32).toNatClampNeg x_517) = f_518 at hP hD
              have hP : va_P D vwCl [(m0, .inr (12, [.int 0, .int sta, .ref r0, .ref w0, .ref i0, .ref k0, m_6, m_7, .int nu, m_9, m_10, m_11, m_12, m_13, m_14, m_15, m_16, m_17, m_18, m_19, m_20, m_21, m_22, m_23, m_24, m_25, m_26, m_27, m_28, m_29, m_30, m_31, m_32, m_33, m_34, m_35, m_36, m_37, m_38, m_39, m_40, m_41, m_42, m_43, m_44, m_45, m_46, m_47, m_48, m_49, m_50, m_51, m_52, m_53, m_54, m_55, m_56, m_57, m_58, m_59])), (w0, .inl (K 0, 5500, .inl f_518)), (i0, .inl (K 0, 11000, .inl fi)), (k0, .inl (K 1, 2, .inl fk)), (r0, .inl (K 0, 7, .inl frf))] H := hP
              have hD : va_D A [(m0, .inr (12, [.int 0, .int sta, .ref r0, .ref w0, .ref i0, .ref k0, m_6, m_7, .int nu, m_9, m_10, m_11, m_12, m_13, m_14, m_15, m_16, m_17, m_18, m_19, m_20, m_21, m_22, m_23, m_24, m_25, m_26, m_27, m_28, m_29, m_30, m_31, m_32, m_33, m_34, m_35, m_36, m_37, m_38, m_39, m_40, m_41, m_42, m_43, m_44, m_45, m_46, m_47, m_48, m_49, m_50, m_51, m_52, m_53, m_54, m_55, m_56, m_57, m_58, m_59])), (w0, .inl (K 0, 5500, .inl f_518)), (i0, .inl (K 0, 11000, .inl fi)), (k0, .inl (K 1, 2, .inl fk)), (r0, .inl (K 0, 7, .inl frf))] := hD
              obtain ⟨x_519, ex_519⟩ : ∃ y : Int32, y = v_492 + Int32.ofInt 1 := ⟨_, rfl⟩
              have hx_519 : x_519.toInt = (v_492.toInt + 1) := by rw [ex_519]; exact i_add rfl (show (Int32.ofInt 1).toInt = 1 from rfl) (by omega)
              refine lv_iinc (v := x_519) (lv' := [(2, .int x_519), (0, .ref m0), (1, .int 1)]) hx hb dX12_back_64 hl (k := 0) rfl (by rw [ex_519]) (by decide) rfl (fun ls hl => ?_)
              refine lv_goto (tgt := 39) hx hb dX12_back_67 (by decide) ?_
              exact ih_509 x_519 f_518 (by rw [hx_519]; omega) (show CpV fi f_518 5500 ((x_519 : Int32).toInt).toNat by rw [← hf_518, i_clamp (x := v_492) (z := v_492.toInt) rfl, ex_517, i_clamp (x := x_516) (z := (5500 + v_492.toInt)) hx_516, show ((5500 + v_492.toInt)).toNat = 5500 + (v_492.toInt).toNat by omega, show (x_519 : Int32).toInt.toNat = (v_492.toInt).toNat + 1 by omega]; exact CpV.step hr0_lp_508) (by omega) _ _ hP hD hS ls (lv_sub hl [0, 1, 2] rfl)
        have hz_520 : (0 : Int32).toInt = 0 := rfl
        exact lp_508 ((5501 - (0 : Int32).toInt : Int).toNat + 1) 0 fw (by decide) (show CpV fi fw 5500 ((0 : Int32).toInt).toNat by exact CpV.base) (Nat.lt_succ_self _) _ _ hP hD hS ls (lv_sub hl [0, 1, 2] rfl)
      · have c_462i := i_eq (x := x_461.toInt) (y := 0) rfl rfl c_462
        refine lv_aload_n hx hb dX12_back_30 rfl (lv_at hl 0 rfl) ?_
        refine lv_bipush (v := (-2)) hx hb dX12_back_31 (by decide) ?_
        refine kci (S := Su) (wr := [(w0, .inl (K 0, 5500, .inl fw)), (i0, .inl (K 0, 11000, .inl fi)), (k0, .inl (K 1, 2, .inl fk))]) (va_runV (As := [.int (-2)]) (rest := []) ⟨hx, hb, hml, hown, hts⟩ (v_tell l D K m0 (-2) (.int 0) sta r0 (.ref w0) (.ref i0) (.ref k0) m_6 m_7 (.int nu) m_9 m_10 m_11 m_12 m_13 m_14 m_15 m_16 m_17 m_18 m_19 m_20 m_21 m_22 m_23 m_24 m_25 m_26 m_27 m_28 m_29 m_30 m_31 m_32 m_33 m_34 m_35 m_36 m_37 m_38 m_39 m_40 m_41 m_42 m_43 m_44 m_45 m_46 m_47 m_48 m_49 m_50 m_51 m_52 m_53 m_54 m_55 m_56 m_57 m_58 m_59 frf H.size (by first | omega | decide)) (cwV 1 hts gX12_back_X12_tell rfl rfl rfl (by decide +kernel) ⟨Nat.le_of_ble_eq_true rfl, Nat.le_of_ble_eq_true rfl⟩) (mkV hK hN (hP.sub [0, 4] rfl) (hD.sub [0, 4] (by decide) rfl) (ci := 12) (q0 := 0) rfl rfl) rfl rfl hl.1 rfl (lv_room (Nat.le_of_ble_eq_true rfl)) dX12_back_33 ⟨Nat.le_of_ble_eq_true rfl, Nat.le_of_ble_eq_true rfl⟩) hP hD hS hA [0, 4] [1, 2, 3] rfl rfl (by decide) (by decide) (fun r_521 u_522 H locs hw hP hD hS => ?_)
        have hP : va_P D vwCl [(w0, .inl (K 0, 5500, .inl fw)), (i0, .inl (K 0, 11000, .inl fi)), (k0, .inl (K 1, 2, .inl fk)), (m0, .inr (12, [.int 0, .int (u_522.2.2.2.1 0), .ref r0, .ref w0, .ref i0, .ref k0, m_6, m_7, .int nu, m_9, m_10, m_11, m_12, m_13, m_14, m_15, m_16, m_17, m_18, m_19, m_20, m_21, m_22, m_23, m_24, m_25, m_26, m_27, m_28, m_29, m_30, m_31, m_32, m_33, m_34, m_35, m_36, m_37, m_38, m_39, m_40, m_41, m_42, m_43, m_44, m_45, m_46, m_47, m_48, m_49, m_50, m_51, m_52, m_53, m_54, m_55, m_56, m_57, m_58, m_59])), (r0, .inl (K 0, 7, .inl (u_522.2.1 0)))] H := hP
        have hD : va_D A [(w0, .inl (K 0, 5500, .inl fw)), (i0, .inl (K 0, 11000, .inl fi)), (k0, .inl (K 1, 2, .inl fk)), (m0, .inr (12, [.int 0, .int (u_522.2.2.2.1 0), .ref r0, .ref w0, .ref i0, .ref k0, m_6, m_7, .int nu, m_9, m_10, m_11, m_12, m_13, m_14, m_15, m_16, m_17, m_18, m_19, m_20, m_21, m_22, m_23, m_24, m_25, m_26, m_27, m_28, m_29, m_30, m_31, m_32, m_33, m_34, m_35, m_36, m_37, m_38, m_39, m_40, m_41, m_42, m_43, m_44, m_45, m_46, m_47, m_48, m_49, m_50, m_51, m_52, m_53, m_54, m_55, m_56, m_57, m_58, m_59])), (r0, .inl (K 0, 7, .inl (u_522.2.1 0)))] := hD
        obtain ⟨h_524, k_523, -⟩ := hw
        rw [← hQ]
        have hP9 := hP.sub (ws' := [(m0, .inr (12, [.int 0, .int (u_522.2.2.2.1 0), .ref r0, .ref w0, .ref i0, .ref k0, m_6, m_7, .int nu, m_9, m_10, m_11, m_12, m_13, m_14, m_15, m_16, m_17, m_18, m_19, m_20, m_21, m_22, m_23, m_24, m_25, m_26, m_27, m_28, m_29, m_30, m_31, m_32, m_33, m_34, m_35, m_36, m_37, m_38, m_39, m_40, m_41, m_42, m_43, m_44, m_45, m_46, m_47, m_48, m_49, m_50, m_51, m_52, m_53, m_54, m_55, m_56, m_57, m_58, m_59])), (w0, .inl (K 0, 5500, .inl fw)), (i0, .inl (K 0, 11000, .inl fi)), (k0, .inl (K 1, 2, .inl fk)), (r0, .inl (K 0, 7, .inl (u_522.2.1 0)))]) [3, 0, 1, 2, 4] rfl
        have hD9 := hD.sub (ws' := [(m0, .inr (12, [.int 0, .int (u_522.2.2.2.1 0), .ref r0, .ref w0, .ref i0, .ref k0, m_6, m_7, .int nu, m_9, m_10, m_11, m_12, m_13, m_14, m_15, m_16, m_17, m_18, m_19, m_20, m_21, m_22, m_23, m_24, m_25, m_26, m_27, m_28, m_29, m_30, m_31, m_32, m_33, m_34, m_35, m_36, m_37, m_38, m_39, m_40, m_41, m_42, m_43, m_44, m_45, m_46, m_47, m_48, m_49, m_50, m_51, m_52, m_53, m_54, m_55, m_56, m_57, m_58, m_59])), (w0, .inl (K 0, 5500, .inl fw)), (i0, .inl (K 0, 11000, .inl fi)), (k0, .inl (K 1, 2, .inl fk)), (r0, .inl (K 0, 7, .inl (u_522.2.1 0)))]) [3, 0, 1, 2, 4] (by decide) rfl
        exact W.iret (v := r_521) hx hb hr (fun t ht hW => ⟨⟨r_521, ((fun _ => 0, fun i => match i with | 0 => fw | _ => (u_522.2.1 0), fun _ => fun _ => 0, fun i => match i with | 0 => (u_522.2.2.2.1 0) | _ => nu, fun _ => 0, fun _ => fun _ => none) : Su), rfl, ⟨(show (-6) ≤ r_521.toInt by omega), (show (-6) ≤ ((u_522.2.2.2.1 0) : Int32).toInt ∧ ((u_522.2.2.2.1 0) : Int32).toInt ≤ 0 by omega), zfw, trivial⟩, (⟨by rw [ht]; exact hP9, hD9⟩ : Wd D A _ t)⟩, hS.F ht⟩) hS.2.2 dX12_back_36
    · exfalso; omega
  · skip
    refine lv_aload_n hx hb dX12_back_0 rfl (lv_at hl 0 rfl) ?_
    refine lv_iconst (v := 0) hx hb dX12_back_1 (by decide) ?_
    refine va_put (ci := 12) (v := .int 0) (ty := .int) (C := RX12) (T := TX12) (N := 60) hx hb hts hw12 tyX12 tyX12_ok nmX12 hown hK hP hD hS 0 rfl rfl 0 (by decide) (hts (.fieldLink RX12 158 "SmokeTuneModel" "thrown" "I") (List.mem_cons_of_mem _ (List.mem_append_left _ (List.mem_of_getElem? (i := 0) rfl)))) (fun _ h9 => h9) rfl (by decide +kernel) (by first | rfl | decide) (by first | rfl | decide) (Nat.le_of_ble_eq_true rfl) dX12_back_2 (fun H locs hP hD hS => ?_)
    have hP : va_P D vwCl [(m0, .inr (12, [.int 0, .int sta, .ref r0, .ref w0, .ref i0, .ref k0, m_6, m_7, .int nu, m_9, m_10, m_11, m_12, m_13, m_14, m_15, m_16, m_17, m_18, m_19, m_20, m_21, m_22, m_23, m_24, m_25, m_26, m_27, m_28, m_29, m_30, m_31, m_32, m_33, m_34, m_35, m_36, m_37, m_38, m_39, m_40, m_41, m_42, m_43, m_44, m_45, m_46, m_47, m_48, m_49, m_50, m_51, m_52, m_53, m_54, m_55, m_56, m_57, m_58, m_59])), (w0, .inl (K 0, 5500, .inl fw)), (i0, .inl (K 0, 11000, .inl fi)), (k0, .inl (K 1, 2, .inl fk)), (r0, .inl (K 0, 7, .inl frf))] H := hP
    have hD : va_D A [(m0, .inr (12, [.int 0, .int sta, .ref r0, .ref w0, .ref i0, .ref k0, m_6, m_7, .int nu, m_9, m_10, m_11, m_12, m_13, m_14, m_15, m_16, m_17, m_18, m_19, m_20, m_21, m_22, m_23, m_24, m_25, m_26, m_27, m_28, m_29, m_30, m_31, m_32, m_33, m_34, m_35, m_36, m_37, m_38, m_39, m_40, m_41, m_42, m_43, m_44, m_45, m_46, m_47, m_48, m_49, m_50, m_51, m_52, m_53, m_54, m_55, m_56, m_57, m_58, m_59])), (w0, .inl (K 0, 5500, .inl fw)), (i0, .inl (K 0, 11000, .inl fi)), (k0, .inl (K 1, 2, .inl fk)), (r0, .inl (K 0, 7, .inl frf))] := hD
    refine lv_iload_n hx hb dX12_back_5 rfl (lv_at hl 1 rfl) ?_
    refine lv_i2l hx hb dX12_back_6 rfl ?_
    refine lv_topl (fun x_525 ex_525 => ?_)
    have hx_525 : x_525.toInt = x.toInt := by rw [ex_525]; exact i_wide rfl
    refine lv_lconst (v := 0) hx hb dX12_back_7 (by decide) ?_
    refine lv_lconst (v := 1) hx hb dX12_back_8 (by decide) ?_
    refine pci (va_runS (As := [.long x_525, .long 0, .long 1]) (rest := []) ⟨hx, hb, hml, hown, hts⟩ (v_in l D K x.toInt 0 1 x_525 0 1 H.size hx_525 (show (0 : Int64).toInt = 0 from rfl) (show (1 : Int64).toInt = 1 from rfl)) (va_cwS 3 hts gX12_back_X12_in rfl rfl rfl (by decide +kernel) ⟨Nat.le_of_ble_eq_true rfl, Nat.le_of_ble_eq_true rfl⟩) (mkS hK hN (va_P.nil) (va_D.nil (A := fun _ => True))) rfl rfl hl.1 rfl (lv_room (Nat.le_of_ble_eq_true rfl)) dX12_back_9 ⟨Nat.le_of_ble_eq_true rfl, Nat.le_of_ble_eq_true rfl⟩) (fun r_526 hw => ?_)
    obtain ⟨hw, -⟩ := hw
    rcases hw with ⟨rfl, h_527, h_528⟩ | ⟨rfl, h_529⟩
    · exfalso; omega
    · refine lv_if_ne (tgt := 21) hx hb dX12_back_12 (by decide) (fun c_530 => absurd (by decide) c_530) (fun c_530 => ?_)
      refine lv_aload_n hx hb dX12_back_15 rfl (lv_at hl 0 rfl) ?_
      refine lv_iconst (v := (-1)) hx hb dX12_back_16 (by decide) ?_
      refine kci (S := Su) (wr := [(w0, .inl (K 0, 5500, .inl fw)), (i0, .inl (K 0, 11000, .inl fi)), (k0, .inl (K 1, 2, .inl fk))]) (va_runV (As := [.int (-1)]) (rest := []) ⟨hx, hb, hml, hown, hts⟩ (v_tell l D K m0 (-1) (.int 0) sta r0 (.ref w0) (.ref i0) (.ref k0) m_6 m_7 (.int nu) m_9 m_10 m_11 m_12 m_13 m_14 m_15 m_16 m_17 m_18 m_19 m_20 m_21 m_22 m_23 m_24 m_25 m_26 m_27 m_28 m_29 m_30 m_31 m_32 m_33 m_34 m_35 m_36 m_37 m_38 m_39 m_40 m_41 m_42 m_43 m_44 m_45 m_46 m_47 m_48 m_49 m_50 m_51 m_52 m_53 m_54 m_55 m_56 m_57 m_58 m_59 frf H.size (by first | omega | decide)) (cwV 1 hts gX12_back_X12_tell rfl rfl rfl (by decide +kernel) ⟨Nat.le_of_ble_eq_true rfl, Nat.le_of_ble_eq_true rfl⟩) (mkV hK hN (hP.sub [0, 4] rfl) (hD.sub [0, 4] (by decide) rfl) (ci := 12) (q0 := 0) rfl rfl) rfl rfl hl.1 rfl (lv_room (Nat.le_of_ble_eq_true rfl)) dX12_back_17 ⟨Nat.le_of_ble_eq_true rfl, Nat.le_of_ble_eq_true rfl⟩) hP hD hS hA [0, 4] [1, 2, 3] rfl rfl (by decide) (by decide) (fun r_531 u_532 H locs hw hP hD hS => ?_)
      have hP : va_P D vwCl [(w0, .inl (K 0, 5500, .inl fw)), (i0, .inl (K 0, 11000, .inl fi)), (k0, .inl (K 1, 2, .inl fk)), (m0, .inr (12, [.int 0, .int (u_532.2.2.2.1 0), .ref r0, .ref w0, .ref i0, .ref k0, m_6, m_7, .int nu, m_9, m_10, m_11, m_12, m_13, m_14, m_15, m_16, m_17, m_18, m_19, m_20, m_21, m_22, m_23, m_24, m_25, m_26, m_27, m_28, m_29, m_30, m_31, m_32, m_33, m_34, m_35, m_36, m_37, m_38, m_39, m_40, m_41, m_42, m_43, m_44, m_45, m_46, m_47, m_48, m_49, m_50, m_51, m_52, m_53, m_54, m_55, m_56, m_57, m_58, m_59])), (r0, .inl (K 0, 7, .inl (u_532.2.1 0)))] H := hP
      have hD : va_D A [(w0, .inl (K 0, 5500, .inl fw)), (i0, .inl (K 0, 11000, .inl fi)), (k0, .inl (K 1, 2, .inl fk)), (m0, .inr (12, [.int 0, .int (u_532.2.2.2.1 0), .ref r0, .ref w0, .ref i0, .ref k0, m_6, m_7, .int nu, m_9, m_10, m_11, m_12, m_13, m_14, m_15, m_16, m_17, m_18, m_19, m_20, m_21, m_22, m_23, m_24, m_25, m_26, m_27, m_28, m_29, m_30, m_31, m_32, m_33, m_34, m_35, m_36, m_37, m_38, m_39, m_40, m_41, m_42, m_43, m_44, m_45, m_46, m_47, m_48, m_49, m_50, m_51, m_52, m_53, m_54, m_55, m_56, m_57, m_58, m_59])), (r0, .inl (K 0, 7, .inl (u_532.2.1 0)))] := hD
      obtain ⟨h_534, k_533, -⟩ := hw
      rw [← hQ]
      have hP9 := hP.sub (ws' := [(m0, .inr (12, [.int 0, .int (u_532.2.2.2.1 0), .ref r0, .ref w0, .ref i0, .ref k0, m_6, m_7, .int nu, m_9, m_10, m_11, m_12, m_13, m_14, m_15, m_16, m_17, m_18, m_19, m_20, m_21, m_22, m_23, m_24, m_25, m_26, m_27, m_28, m_29, m_30, m_31, m_32, m_33, m_34, m_35, m_36, m_37, m_38, m_39, m_40, m_41, m_42, m_43, m_44, m_45, m_46, m_47, m_48, m_49, m_50, m_51, m_52, m_53, m_54, m_55, m_56, m_57, m_58, m_59])), (w0, .inl (K 0, 5500, .inl fw)), (i0, .inl (K 0, 11000, .inl fi)), (k0, .inl (K 1, 2, .inl fk)), (r0, .inl (K 0, 7, .inl (u_532.2.1 0)))]) [3, 0, 1, 2, 4] rfl
      have hD9 := hD.sub (ws' := [(m0, .inr (12, [.int 0, .int (u_532.2.2.2.1 0), .ref r0, .ref w0, .ref i0, .ref k0, m_6, m_7, .int nu, m_9, m_10, m_11, m_12, m_13, m_14, m_15, m_16, m_17, m_18, m_19, m_20, m_21, m_22, m_23, m_24, m_25, m_26, m_27, m_28, m_29, m_30, m_31, m_32, m_33, m_34, m_35, m_36, m_37, m_38, m_39, m_40, m_41, m_42, m_43, m_44, m_45, m_46, m_47, m_48, m_49, m_50, m_51, m_52, m_53, m_54, m_55, m_56, m_57, m_58, m_59])), (w0, .inl (K 0, 5500, .inl fw)), (i0, .inl (K 0, 11000, .inl fi)), (k0, .inl (K 1, 2, .inl fk)), (r0, .inl (K 0, 7, .inl (u_532.2.1 0)))]) [3, 0, 1, 2, 4] (by decide) rfl
      exact W.iret (v := r_531) hx hb hr (fun t ht hW => ⟨⟨r_531, ((fun _ => 0, fun i => match i with | 0 => fw | _ => (u_532.2.1 0), fun _ => fun _ => 0, fun i => match i with | 0 => (u_532.2.2.2.1 0) | _ => nu, fun _ => 0, fun _ => fun _ => none) : Su), rfl, ⟨(show (-6) ≤ r_531.toInt by omega), (show (-6) ≤ ((u_532.2.2.2.1 0) : Int32).toInt ∧ ((u_532.2.2.2.1 0) : Int32).toInt ≤ 0 by omega), zfw, trivial⟩, (⟨by rw [ht]; exact hP9, hD9⟩ : Wd D A _ t)⟩, hS.F ht⟩) hS.2.2 dX12_back_20
