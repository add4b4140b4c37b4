theorem dX4_question_0 : decode cX4_question 0 = .ok (.aload_n 0, 1) := by decide +kernel
theorem dX4_question_1 : decode cX4_question 1 = .ok (.aload_n 1, 1) := by decide +kernel
theorem dX4_question_2 : decode cX4_question 2 = .ok (.iconst (-1), 1) := by decide +kernel
theorem dX4_question_3 : decode cX4_question 3 = .ok (.invokevirtual 84, 3) := by decide +kernel
theorem dX4_question_6 : decode cX4_question 6 = .ok (.istore_n 3, 1) := by decide +kernel
theorem dX4_question_7 : decode cX4_question 7 = .ok (.iconst (-1), 1) := by decide +kernel
theorem dX4_question_8 : decode cX4_question 8 = .ok (.istore 4, 2) := by decide +kernel
theorem dX4_question_10 : decode cX4_question 10 = .ok (.iload_n 3, 1) := by decide +kernel
theorem dX4_question_11 : decode cX4_question 11 = .ok (.iconst 1, 1) := by decide +kernel
theorem dX4_question_12 : decode cX4_question 12 = .ok (.iadd, 1) := by decide +kernel
theorem dX4_question_13 : decode cX4_question 13 = .ok (.istore 5, 2) := by decide +kernel
theorem dX4_question_15 : decode cX4_question 15 = .ok (.iconst 0, 1) := by decide +kernel
theorem dX4_question_16 : decode cX4_question 16 = .ok (.istore 6, 2) := by decide +kernel
theorem dX4_question_18 : decode cX4_question 18 = .ok (.iload 6, 2) := by decide +kernel
theorem dX4_question_20 : decode cX4_question 20 = .ok (.aload_n 1, 1) := by decide +kernel
theorem dX4_question_21 : decode cX4_question 21 = .ok (.getfield 27, 3) := by decide +kernel
theorem dX4_question_24 : decode cX4_question 24 = .ok (.if_icmp .ge 48, 3) := by decide +kernel
theorem dX4_question_72 : decode cX4_question 72 = .ok (.iload 4, 2) := by decide +kernel
theorem dX4_question_74 : decode cX4_question 74 = .ok (.iconst (-1), 1) := by decide +kernel
theorem dX4_question_75 : decode cX4_question 75 = .ok (.if_icmp .eq 7, 3) := by decide +kernel
theorem dX4_question_82 : decode cX4_question 82 = .ok (.iload 4, 2) := by decide +kernel
theorem dX4_question_84 : decode cX4_question 84 = .ok (.goto 5, 3) := by decide +kernel
theorem dX4_question_89 : decode cX4_question 89 = .ok (.ireturn, 1) := by decide +kernel
theorem dX11_ask_0 : decode cX11_ask 0 = .ok (.iload_n 1, 1) := by decide +kernel
theorem dX11_ask_1 : decode cX11_ask 1 = .ok (.iconst 0, 1) := by decide +kernel
theorem dX11_ask_2 : decode cX11_ask 2 = .ok (.iconst 1, 1) := by decide +kernel
theorem dX11_ask_3 : decode cX11_ask 3 = .ok (.invokestatic 97, 3) := by decide +kernel
theorem dX11_ask_6 : decode cX11_ask 6 = .ok (.ifCond .eq 18, 3) := by decide +kernel
theorem dX11_ask_9 : decode cX11_ask 9 = .ok (.aload_n 0, 1) := by decide +kernel
theorem dX11_ask_10 : decode cX11_ask 10 = .ok (.getfield 75, 3) := by decide +kernel
theorem dX11_ask_13 : decode cX11_ask 13 = .ok (.aload_n 0, 1) := by decide +kernel
theorem dX11_ask_14 : decode cX11_ask 14 = .ok (.getfield 10, 3) := by decide +kernel
theorem dX11_ask_17 : decode cX11_ask 17 = .ok (.iload_n 1, 1) := by decide +kernel
theorem dX11_ask_18 : decode cX11_ask 18 = .ok (.invokevirtual 267, 3) := by decide +kernel
theorem dX11_ask_21 : decode cX11_ask 21 = .ok (.goto 4, 3) := by decide +kernel
theorem dX11_ask_25 : decode cX11_ask 25 = .ok (.ireturn, 1) := by decide +kernel
theorem dX11_ask_24 : decode cX11_ask 24 = .ok (.iconst (-1), 1) := by decide +kernel
theorem dX9_lawAt_0 : decode cX9_lawAt 0 = .ok (.iload_n 1, 1) := by decide +kernel
theorem dX9_lawAt_1 : decode cX9_lawAt 1 = .ok (.iconst 0, 1) := by decide +kernel
theorem dX9_lawAt_2 : decode cX9_lawAt 2 = .ok (.aload_n 0, 1) := by decide +kernel
theorem dX9_lawAt_3 : decode cX9_lawAt 3 = .ok (.getfield 31, 3) := by decide +kernel
theorem dX9_lawAt_6 : decode cX9_lawAt 6 = .ok (.iconst 1, 1) := by decide +kernel
theorem dX9_lawAt_7 : decode cX9_lawAt 7 = .ok (.isub, 1) := by decide +kernel
theorem dX9_lawAt_8 : decode cX9_lawAt 8 = .ok (.invokestatic 52, 3) := by decide +kernel
theorem dX9_lawAt_11 : decode cX9_lawAt 11 = .ok (.ifCond .eq 12, 3) := by decide +kernel
theorem dX9_lawAt_23 : decode cX9_lawAt 23 = .ok (.aconst_null, 1) := by decide +kernel
theorem dX9_lawAt_24 : decode cX9_lawAt 24 = .ok (.areturn, 1) := by decide +kernel
theorem dX5_coalBy_0 : decode cX5_coalBy 0 = .ok (.iconst 0, 1) := by decide +kernel
theorem dX5_coalBy_1 : decode cX5_coalBy 1 = .ok (.istore 4, 2) := by decide +kernel
theorem dX5_coalBy_3 : decode cX5_coalBy 3 = .ok (.iconst 0, 1) := by decide +kernel
theorem dX5_coalBy_4 : decode cX5_coalBy 4 = .ok (.istore 5, 2) := by decide +kernel
theorem dX5_coalBy_6 : decode cX5_coalBy 6 = .ok (.iload 5, 2) := by decide +kernel
theorem dX5_coalBy_8 : decode cX5_coalBy 8 = .ok (.aload_n 1, 1) := by decide +kernel
theorem dX5_coalBy_9 : decode cX5_coalBy 9 = .ok (.getfield 76, 3) := by decide +kernel
theorem dX5_coalBy_12 : decode cX5_coalBy 12 = .ok (.if_icmp .ge 112, 3) := by decide +kernel
theorem dX5_coalBy_124 : decode cX5_coalBy 124 = .ok (.iload 4, 2) := by decide +kernel
theorem dX5_coalBy_126 : decode cX5_coalBy 126 = .ok (.ireturn, 1) := by decide +kernel
theorem dX11_compare_0 : decode cX11_compare 0 = .ok (.iload_n 1, 1) := by decide +kernel
theorem dX11_compare_1 : decode cX11_compare 1 = .ok (.iconst (-1), 1) := by decide +kernel
theorem dX11_compare_2 : decode cX11_compare 2 = .ok (.aload_n 0, 1) := by decide +kernel
theorem dX11_compare_3 : decode cX11_compare 3 = .ok (.getfield 10, 3) := by decide +kernel
theorem dX11_compare_6 : decode cX11_compare 6 = .ok (.getfield 173, 3) := by decide +kernel
theorem dX11_compare_9 : decode cX11_compare 9 = .ok (.iconst 1, 1) := by decide +kernel
theorem dX11_compare_10 : decode cX11_compare 10 = .ok (.isub, 1) := by decide +kernel
theorem dX11_compare_11 : decode cX11_compare 11 = .ok (.invokestatic 97, 3) := by decide +kernel
theorem dX11_compare_14 : decode cX11_compare 14 = .ok (.ifCond .eq 13, 3) := by decide +kernel
theorem dX11_compare_17 : decode cX11_compare 17 = .ok (.iload_n 2, 1) := by decide +kernel
theorem dX11_compare_18 : decode cX11_compare 18 = .ok (.iconst 1, 1) := by decide +kernel
theorem dX11_compare_19 : decode cX11_compare 19 = .ok (.bipush 60, 2) := by decide +kernel
theorem dX11_compare_21 : decode cX11_compare 21 = .ok (.invokestatic 97, 3) := by decide +kernel
theorem dX11_compare_24 : decode cX11_compare 24 = .ok (.ifCond .ne 5, 3) := by decide +kernel
theorem dX11_compare_29 : decode cX11_compare 29 = .ok (.aload_n 0, 1) := by decide +kernel
theorem dX11_compare_30 : decode cX11_compare 30 = .ok (.getfield 68, 3) := by decide +kernel
theorem dX11_compare_33 : decode cX11_compare 33 = .ok (.aload_n 0, 1) := by decide +kernel
theorem dX11_compare_34 : decode cX11_compare 34 = .ok (.getfield 10, 3) := by decide +kernel
theorem dX11_compare_37 : decode cX11_compare 37 = .ok (.aload_n 0, 1) := by decide +kernel
theorem dX11_compare_38 : decode cX11_compare 38 = .ok (.getfield 10, 3) := by decide +kernel
theorem dX11_compare_41 : decode cX11_compare 41 = .ok (.iload_n 1, 1) := by decide +kernel
theorem dX11_compare_42 : decode cX11_compare 42 = .ok (.invokevirtual 276, 3) := by decide +kernel
theorem dX11_compare_45 : decode cX11_compare 45 = .ok (.iload_n 2, 1) := by decide +kernel
theorem dX11_compare_46 : decode cX11_compare 46 = .ok (.invokevirtual 280, 3) := by decide +kernel
theorem dX11_compare_49 : decode cX11_compare 49 = .ok (.ireturn, 1) := by decide +kernel
theorem dX11_compare_27 : decode cX11_compare 27 = .ok (.iconst (-1), 1) := by decide +kernel
theorem dX11_compare_28 : decode cX11_compare 28 = .ok (.ireturn, 1) := by decide +kernel
set_option maxRecDepth 20000 in
theorem ggX4_question_X4_hillSet : GoodIn wsX4_question wsX4_hillSet := goodIn_r _ [9, 10, 11, 12, 13, 8, 14, 15, 16, 17, 18, 19, 34, 35, 36, 37, 38, 24, 25, 26, 27, 28, 29, 30, 31, 32, 33] (by decide +kernel) (by decide +kernel)
set_option maxRecDepth 20000 in
theorem gX4_question_X4_hillSet : GoodIn wsX4_question (wsV RX4 84 RX4 yX4_hillSet wsX4_hillSet) := goodIn_app (goodIn_of _ (by decide +kernel)) ggX4_question_X4_hillSet
set_option maxRecDepth 20000 in
theorem ggX11_ask_X11_within : GoodIn wsX11_ask wsX11_within := goodIn_r _ [6] (by decide +kernel) (by decide +kernel)
set_option maxRecDepth 20000 in
theorem gX11_ask_X11_within : GoodIn wsX11_ask (va_wsS RX11 97 yX11_within wsX11_within) := goodIn_app (goodIn_of _ (by decide +kernel)) ggX11_ask_X11_within
set_option maxRecDepth 20000 in
theorem ggX11_ask_X4_question : GoodIn wsX11_ask wsX4_question := goodIn_r _ [10, 11, 12, 13, 14, 15, 16, 17, 8, 18, 19, 20, 21, 22, 23, 24, 25, 26, 27, 28, 29, 30, 31, 32, 50, 51, 52, 53, 54, 55, 56, 57, 58, 59, 60, 61, 62, 63, 64] (by decide +kernel) (by decide +kernel)
set_option maxRecDepth 20000 in
theorem gX11_ask_X4_question_n267 : GoodIn wsX11_ask (wsX4_question) := ggX11_ask_X4_question
set_option maxRecDepth 20000 in
theorem ggX9_lawAt_X11_within : GoodIn wsX9_lawAt wsX11_within := goodIn_r _ [5] (by decide +kernel) (by decide +kernel)
set_option maxRecDepth 20000 in
theorem gX9_lawAt_X11_within_n52 : GoodIn wsX9_lawAt (wsX11_within) := ggX9_lawAt_X11_within
set_option maxRecDepth 20000 in
theorem ggX11_compare_X11_within : GoodIn wsX11_compare wsX11_within := goodIn_r _ [6] (by decide +kernel) (by decide +kernel)
set_option maxRecDepth 20000 in
theorem gX11_compare_X11_within : GoodIn wsX11_compare (va_wsS RX11 97 yX11_within wsX11_within) := goodIn_app (goodIn_of _ (by decide +kernel)) ggX11_compare_X11_within
set_option maxRecDepth 20000 in
theorem ggX11_compare_X9_lawAt : GoodIn wsX11_compare wsX9_lawAt := goodIn_r _ [10, 11, 12, 4, 5, 6, 75, 76, 77, 78, 79, 80, 81, 82, 83, 84] (by decide +kernel) (by decide +kernel)
set_option maxRecDepth 20000 in
theorem gX11_compare_X9_lawAt_n276 : GoodIn wsX11_compare (wsX9_lawAt) := ggX11_compare_X9_lawAt
set_option maxRecDepth 20000 in
theorem ggX11_compare_X5_coalBy : GoodIn wsX11_compare wsX5_coalBy := goodIn_r _ [16, 17, 18, 19, 20, 21, 22, 23, 24, 25, 8, 26, 27, 28, 29, 30, 31, 32, 33, 34, 35, 36, 37, 38, 39, 40, 41, 42, 43, 44, 45, 46, 47, 48, 49, 50, 51, 52, 53, 54, 55, 56, 57, 75, 76, 77, 78, 79, 80, 81, 82, 83, 84, 85, 86, 87, 88, 89, 90, 91, 92, 93, 94, 95, 96, 97, 98] (by decide +kernel) (by decide +kernel)
set_option maxRecDepth 20000 in
theorem gX11_compare_X5_coalBy_n280 : GoodIn wsX11_compare (wsX5_coalBy) := ggX11_compare_X5_coalBy
set_option maxHeartbeats 4000000 in
set_option maxRecDepth 100000 in
theorem c_question (l : Launch) (D : va_G) (K : Nat → ClassId) (a0 : Nat) (a1 : Nat) (x : Int32) (g0 : Value) (g1 : Value) (g2 : Value) (g3 : Value) (a2 : Nat) (k0 : Value) (k1 : Value) (k2 : Value) (k3 : Value) (k5 : Value) (k6 : Value) (k7 : Value) (k8 : Value) (sz : Nat) : Met l yX4_question wsX4_question ({ frames := 2, cells := 0, slots := 0, locals := 49 }) (va_Pc [.ref a0, .ref a1, .int x] (Pre D K [(a0, .inr (4, [g0, g1, g2, g3, .ref a2])), (a1, .inr (9, [k0, k1, k2, k3, .int 0, k5, k6, k7, k8, .int 0])), (a2, .inl (K 0, 256, .inl (fun _ => 0)))] sz)) (vp_Si (fun r : Int32 => (r = (-1)))) 0 0 (fun _ => False) := by
  refine Met.ofW (cc := cX4_question) (maxL := 9) (ret := (some .int)) (by decide) rfl ?_
  intro p e s m args below meth c s₁ B hml hv
  obtain ⟨rfl, hsz, hP, hK, hD0, hN⟩ := hv
  have hx := B.exec
  have hb := B.bytes
  have hr := B.returns
  have hts := atoms_spec (ws := wsX4_question) B.pre
  have hown : s.vm.findClass RX4 = some m.cls := findClass_of_methodNamed B.named
  have hlocks := B.notSynchronized
  subst hsz
  have hD := hD0
  have hP : va_P D vwCl [(a0, .inr (4, [g0, g1, g2, g3, .ref a2])), (a1, .inr (9, [k0, k1, k2, k3, .int 0, k5, k6, k7, k8, .int 0])), (a2, .inl (K 0, 256, .inl (fun _ => 0)))] s.heap := hP
  have hl := lv_entry [.ref a0, .ref a1, .int x] (n := 9) (Nat.le_of_ble_eq_true rfl)
  rw [lg_entry_eq]
  generalize (lg_sl [.ref a0, .ref a1, .int x] ++ List.replicate (9 - (lg_sl [.ref a0, .ref a1, .int x]).length) Slot.unset).toArray = ls at hl ⊢
  have hl : lv_has ls 9 [(0, .ref a0), (1, .ref a1), (2, .int x)] := hl
  have hw4 : ∀ w ∈ wsX40, w ∈ wsX4_question := fun w h => (List.mem_cons_of_mem _ (List.mem_append_right _ h))
  have hw9 : ∀ w ∈ wsX90, w ∈ wsX4_question := fun w h => (List.mem_cons_of_mem _ (List.mem_append_left _ (List.mem_append_right _ h)))
  refine lv_aload_n hx hb dX4_question_0 rfl (lv_at hl 0 rfl) ?_
  refine lv_aload_n hx hb dX4_question_1 rfl (lv_at hl 1 rfl) ?_
  refine lv_iconst (v := (-1)) hx hb dX4_question_2 (by decide) ?_
  refine pci (va_runV (As := [.ref a1, .int (-1)]) (rest := []) ⟨hx, hb, hml, hown, hts⟩ (c_hillSet l D K a0 a1 (-1) g0 g1 g2 g3 a2 k0 k1 k2 k3 k5 k6 k7 k8 (-1) s.heap.size rfl) (cwV 2 hts gX4_question_X4_hillSet rfl rfl rfl (by decide +kernel) ⟨Nat.le_of_ble_eq_true rfl, Nat.le_of_ble_eq_true rfl⟩) (mkV hK hN (hP.sub [0, 1, 2] rfl) (hD.sub [0, 1, 2] (by decide) rfl) (ci := 4) (q0 := 0) rfl rfl) rfl rfl hl.1 rfl (lv_room (Nat.le_of_ble_eq_true rfl)) dX4_question_3 ⟨Nat.le_of_ble_eq_true rfl, Nat.le_of_ble_eq_true rfl⟩) (fun r_1 hw => ?_)
  rcases hw with ⟨rfl, h_2⟩ | ⟨rfl, h_3⟩ | ⟨rfl, h_4, h_5⟩
  · refine lv_istore_n (lv' := [(3, .int 1), (0, .ref a0), (1, .ref a1), (2, .int x)]) hx hb dX4_question_6 rfl hl (by decide) rfl (fun ls hl => ?_)
    refine lv_iconst (v := (-1)) hx hb dX4_question_7 (by decide) ?_
    refine lv_istore (lv' := [(4, .int (-1)), (3, .int 1), (0, .ref a0), (1, .ref a1), (2, .int x)]) hx hb dX4_question_8 hl (by decide) rfl (fun ls hl => ?_)
    refine lv_iload_n hx hb dX4_question_10 rfl (lv_at hl 1 rfl) ?_
    refine lv_iconst (v := 1) hx hb dX4_question_11 (by decide) ?_
    refine lv_iadd hx hb dX4_question_12 ?_
    refine lv_topi (fun x_6 ex_6 => ?_)
    obtain rfl : x_6 = 2 := ex_6.trans (by first | rfl | decide)
    refine lv_istore (lv' := [(5, .int 2), (4, .int (-1)), (3, .int 1), (0, .ref a0), (1, .ref a1), (2, .int x)]) hx hb dX4_question_13 hl (by decide) rfl (fun ls hl => ?_)
    refine lv_iconst (v := 0) hx hb dX4_question_15 (by decide) ?_
    refine lv_istore (lv' := [(6, .int 0), (5, .int 2), (4, .int (-1)), (3, .int 1), (0, .ref a0), (1, .ref a1), (2, .int x)]) hx hb dX4_question_16 hl (by decide) rfl (fun ls hl => ?_)
    refine lv_iload hx hb dX4_question_18 (lv_at hl 0 rfl) ?_
    refine lv_aload_n hx hb dX4_question_20 rfl (lv_at hl 5 rfl) ?_
    refine va_getN (ci := 9) (v := .int 0) (C := RX9) (T := TX9) (N := 10) hx hb hts hw9 hown hK hP 1 rfl rfl 4 (by decide) (nst_use hN 106 rfl) (fun _ h9 => h9) rfl dX4_question_21 ?_
    refine lv_icmp_ge (tgt := 72) hx hb dX4_question_24 (by decide) (fun c_7 => ?_) (fun c_7 => absurd (by decide) c_7)
    refine lv_iload hx hb dX4_question_72 (lv_at hl 2 rfl) ?_
    refine lv_iconst (v := (-1)) hx hb dX4_question_74 (by decide) ?_
    refine lv_icmp_eq (tgt := 82) hx hb dX4_question_75 (by decide) (fun c_8 => ?_) (fun c_8 => absurd (by decide) c_8)
    refine lv_iload hx hb dX4_question_82 (lv_at hl 2 rfl) ?_
    refine lv_goto (tgt := 89) hx hb dX4_question_84 (by decide) ?_
    exact W.iret (v := (-1)) hx hb hr (fun t ht hW => ⟨_, rfl, (by first | exact rfl), ht⟩) (fun q hq => by cases hq) dX4_question_89
  · exfalso; omega
  · refine lv_istore_n (lv' := [(3, .int (-1)), (0, .ref a0), (1, .ref a1), (2, .int x)]) hx hb dX4_question_6 rfl hl (by decide) rfl (fun ls hl => ?_)
    refine lv_iconst (v := (-1)) hx hb dX4_question_7 (by decide) ?_
    refine lv_istore (lv' := [(4, .int (-1)), (3, .int (-1)), (0, .ref a0), (1, .ref a1), (2, .int x)]) hx hb dX4_question_8 hl (by decide) rfl (fun ls hl => ?_)
    refine lv_iload_n hx hb dX4_question_10 rfl (lv_at hl 1 rfl) ?_
    refine lv_iconst (v := 1) hx hb dX4_question_11 (by decide) ?_
    refine lv_iadd hx hb dX4_question_12 ?_
    refine lv_topi (fun x_9 ex_9 => ?_)
    obtain rfl : x_9 = 0 := ex_9.trans (by first | rfl | decide)
    refine lv_istore (lv' := [(5, .int 0), (4, .int (-1)), (3, .int (-1)), (0, .ref a0), (1, .ref a1), (2, .int x)]) hx hb dX4_question_13 hl (by decide) rfl (fun ls hl => ?_)
    refine lv_iconst (v := 0) hx hb dX4_question_15 (by decide) ?_
    refine lv_istore (lv' := [(6, .int 0), (5, .int 0), (4, .int (-1)), (3, .int (-1)), (0, .ref a0), (1, .ref a1), (2, .int x)]) hx hb dX4_question_16 hl (by decide) rfl (fun ls hl => ?_)
    refine lv_iload hx hb dX4_question_18 (lv_at hl 0 rfl) ?_
    refine lv_aload_n hx hb dX4_question_20 rfl (lv_at hl 5 rfl) ?_
    refine va_getN (ci := 9) (v := .int 0) (C := RX9) (T := TX9) (N := 10) hx hb hts hw9 hown hK hP 1 rfl rfl 4 (by decide) (nst_use hN 106 rfl) (fun _ h9 => h9) rfl dX4_question_21 ?_
    refine lv_icmp_ge (tgt := 72) hx hb dX4_question_24 (by decide) (fun c_10 => ?_) (fun c_10 => absurd (by decide) c_10)
    refine lv_iload hx hb dX4_question_72 (lv_at hl 2 rfl) ?_
    refine lv_iconst (v := (-1)) hx hb dX4_question_74 (by decide) ?_
    refine lv_icmp_eq (tgt := 82) hx hb dX4_question_75 (by decide) (fun c_11 => ?_) (fun c_11 => absurd (by decide) c_11)
    refine lv_iload hx hb dX4_question_82 (lv_at hl 2 rfl) ?_
    refine lv_goto (tgt := 89) hx hb dX4_question_84 (by decide) ?_
    exact W.iret (v := (-1)) hx hb hr (fun t ht hW => ⟨_, rfl, (by first | exact rfl), ht⟩) (fun q hq => by cases hq) dX4_question_89
set_option maxHeartbeats 4000000 in
set_option maxRecDepth 100000 in
theorem t_ask (l : Launch) (D : va_G) (K : Nat → ClassId) (a0 : Nat) (x : Int32) (a1 : Nat) (g1 : Value) (g2 : Value) (g3 : Value) (g4 : Value) (g5 : Value) (g6 : Value) (g7 : Value) (g8 : Value) (g9 : Value) (g10 : Value) (a3 : Nat) (g12 : Value) (g13 : Value) (g14 : Value) (g15 : Value) (g16 : Value) (p0 : Value) (p1 : Value) (p2 : Value) (p3 : Value) (a2 : Nat) (k0 : Value) (k1 : Value) (k2 : Value) (k3 : Value) (k5 : Value) (k6 : Value) (k7 : Value) (k8 : Value) (sz : Nat) : Met l yX11_ask wsX11_ask ({ frames := 3, cells := 0, slots := 0, locals := 77 }) (va_Pc [.ref a0, .int x] (Pre D K [(a0, .inr (11, [.ref a1, g1, g2, g3, g4, g5, g6, g7, g8, g9, g10, .ref a3, g12, g13, g14, g15, g16])), (a3, .inr (4, [p0, p1, p2, p3, .ref a2])), (a1, .inr (9, [k0, k1, k2, k3, .int 0, k5, k6, k7, k8, .int 0])), (a2, .inl (K 0, 256, .inl (fun _ => 0)))] sz)) (vp_Si (fun r : Int32 => (r = (-1)))) 0 0 (fun _ => False) := by
  refine Met.ofW (cc := cX11_ask) (maxL := 2) (ret := (some .int)) (by decide) rfl ?_
  intro p e s m args below meth c s₁ B hml hv
  obtain ⟨rfl, hsz, hP, hK, hD0, hN⟩ := hv
  have hx := B.exec
  have hb := B.bytes
  have hr := B.returns
  have hts := atoms_spec (ws := wsX11_ask) B.pre
  have hown : s.vm.findClass RX11 = some m.cls := findClass_of_methodNamed B.named
  have hlocks := B.notSynchronized
  subst hsz
  have hD := hD0
  have hP : va_P D vwCl [(a0, .inr (11, [.ref a1, g1, g2, g3, g4, g5, g6, g7, g8, g9, g10, .ref a3, g12, g13, g14, g15, g16])), (a3, .inr (4, [p0, p1, p2, p3, .ref a2])), (a1, .inr (9, [k0, k1, k2, k3, .int 0, k5, k6, k7, k8, .int 0])), (a2, .inl (K 0, 256, .inl (fun _ => 0)))] s.heap := hP
  have hl := lv_entry [.ref a0, .int x] (n := 2) (Nat.le_of_ble_eq_true rfl)
  rw [lg_entry_eq]
  generalize (lg_sl [.ref a0, .int x] ++ List.replicate (2 - (lg_sl [.ref a0, .int x]).length) Slot.unset).toArray = ls at hl ⊢
  have hl : lv_has ls 2 [(0, .ref a0), (1, .int x)] := hl
  have hw4 : ∀ w ∈ wsX40, w ∈ wsX11_ask := fun w h => (List.mem_cons_of_mem _ (List.mem_append_right _ h))
  have hw9 : ∀ w ∈ wsX90, w ∈ wsX11_ask := fun w h => (List.mem_cons_of_mem _ (List.mem_append_left _ (List.mem_append_right _ h)))
  have hw11 : ∀ w ∈ wsX110, w ∈ wsX11_ask := fun w h => (List.mem_cons_of_mem _ (List.mem_append_left _ (List.mem_append_left _ (List.mem_append_right _ h))))
  refine lv_iload_n hx hb dX11_ask_0 rfl (lv_at hl 1 rfl) ?_
  refine lv_iconst (v := 0) hx hb dX11_ask_1 (by decide) ?_
  refine lv_iconst (v := 1) hx hb dX11_ask_2 (by decide) ?_
  refine pci (va_runS (As := [.int x, .int 0, .int 1]) (rest := []) ⟨hx, hb, hml, hown, hts⟩ (c_within l D K x 0 1 x.toInt 0 1 s.heap.size rfl rfl rfl) (va_cwS 3 hts gX11_ask_X11_within rfl rfl rfl (by decide +kernel) ⟨Nat.le_of_ble_eq_true rfl, Nat.le_of_ble_eq_true rfl⟩) (mkS hK hN (hP.sub [] rfl) (hD.sub [] (by decide) rfl)) rfl rfl hl.1 rfl (lv_room (Nat.le_of_ble_eq_true rfl)) dX11_ask_3 ⟨Nat.le_of_ble_eq_true rfl, Nat.le_of_ble_eq_true rfl⟩) (fun r_1 hw => ?_)
  rcases hw with ⟨rfl, h_2, h_3⟩ | ⟨rfl, h_4⟩
  · refine lv_if_eq (tgt := 24) hx hb dX11_ask_6 (by decide) (fun c_5 => absurd c_5 (by decide)) (fun c_5 => ?_)
    refine lv_aload_n hx hb dX11_ask_9 rfl (lv_at hl 0 rfl) ?_
    refine va_get (ci := 11) (v := .ref a3) (C := RX11) (T := TX11) (N := 17) hx hb hts hw11 hown hK hP 0 rfl rfl 11 (by decide) (hts (.fieldLink RX11 75 "SmokeTune" "paper" "LSmokeTune$Paper;") (List.mem_cons_of_mem _ (List.mem_append_left _ (List.mem_append_left _ (List.mem_append_left _ (List.mem_append_left _ (List.mem_of_getElem? (i := 0) rfl))))))) (fun _ h9 => h9) rfl dX11_ask_10 ?_
    refine lv_aload_n hx hb dX11_ask_13 rfl (lv_at hl 0 rfl) ?_
    refine va_get (ci := 11) (v := .ref a1) (C := RX11) (T := TX11) (N := 17) hx hb hts hw11 hown hK hP 0 rfl rfl 0 (by decide) (hts (.fieldLink RX11 10 "SmokeTune" "town" "LSmokeTune$Town;") (List.mem_cons_of_mem _ (List.mem_append_left _ (List.mem_append_left _ (List.mem_append_left _ (List.mem_append_left _ (List.mem_of_getElem? (i := 1) rfl))))))) (fun _ h9 => h9) rfl dX11_ask_14 ?_
    refine lv_iload_n hx hb dX11_ask_17 rfl (lv_at hl 1 rfl) ?_
    refine pci (va_runVN (As := [.ref a1, .int x]) (rest := []) ⟨hx, hb, hml, hown, hts⟩ (c_question l D K a3 a1 x p0 p1 p2 p3 a2 k0 k1 k2 k3 k5 k6 k7 k8 s.heap.size) ⟨va_cnB 2 hts gX11_ask_X4_question_n267 rfl rfl rfl (nst_at hN 89 rfl) (hts (.initialized RX4) (List.mem_cons_of_mem _ (List.mem_append_left _ (List.mem_append_left _ (List.mem_append_left _ (List.mem_append_left _ (List.mem_of_getElem? (i := 7) rfl))))))) (by decide +kernel) ⟨Nat.le_of_ble_eq_true rfl, Nat.le_of_ble_eq_true rfl⟩, (hts (.instanceMethod yX4_question) (List.mem_cons_of_mem _ (List.mem_append_left _ (List.mem_append_left _ (List.mem_append_left _ (List.mem_append_left _ (List.mem_of_getElem? (i := 6) rfl))))))), (hts (.selects RX4 yX4_question yX4_question) (List.mem_cons_of_mem _ (List.mem_append_left _ (List.mem_append_left _ (List.mem_append_left _ (List.mem_append_left _ (List.mem_of_getElem? (i := 8) rfl)))))))⟩ (mkV hK hN (hP.sub [1, 2, 3] rfl) (hD.sub [1, 2, 3] (by decide) rfl) (ci := 4) (q0 := 0) rfl rfl) rfl rfl hl.1 rfl (lv_room (Nat.le_of_ble_eq_true rfl)) dX11_ask_18 ⟨Nat.le_of_ble_eq_true rfl, Nat.le_of_ble_eq_true rfl⟩) (fun r_6 hw => ?_)
    obtain rfl : r_6 = (-1) := hw
    refine lv_goto (tgt := 25) hx hb dX11_ask_21 (by decide) ?_
    exact W.iret (v := (-1)) hx hb hr (fun t ht hW => ⟨_, rfl, (by first | exact rfl), ht⟩) (fun q hq => by cases hq) dX11_ask_25
  · refine lv_if_eq (tgt := 24) hx hb dX11_ask_6 (by decide) (fun c_7 => ?_) (fun c_7 => absurd (by decide) c_7)
    refine lv_iconst (v := (-1)) hx hb dX11_ask_24 (by decide) ?_
    exact W.iret (v := (-1)) hx hb hr (fun t ht hW => ⟨_, rfl, (by first | exact rfl), ht⟩) (fun q hq => by cases hq) dX11_ask_25
set_option maxHeartbeats 4000000 in
set_option maxRecDepth 100000 in
theorem c_lawAt (l : Launch) (D : va_G) (K : Nat → ClassId) (a0 : Nat) (x : Int32) (k0 : Value) (k1 : Value) (k2 : Value) (k3 : Value) (k4 : Value) (k6 : Value) (k7 : Value) (k8 : Value) (k9 : Value) (sz : Nat) : Met l yX9_lawAt wsX9_lawAt ({ frames := 1, cells := 0, slots := 0, locals := 22 }) (va_Pc [.ref a0, .int x] (Pre D K [(a0, .inr (9, [k0, k1, k2, k3, k4, .int 0, k6, k7, k8, k9]))] sz)) (va_Sq (fun r => r = none)) 0 0 (fun _ => False) := by
  refine Met.ofW (cc := cX9_lawAt) (maxL := 2) (ret := (some (.object "SmokeTune$Script"))) (by decide) rfl ?_
  intro p e s m args below meth c s₁ B hml hv
  obtain ⟨rfl, hsz, hP, hK, hD0, hN⟩ := hv
  have hx := B.exec
  have hb := B.bytes
  have hr := B.returns
  have hts := atoms_spec (ws := wsX9_lawAt) B.pre
  have hown : s.vm.findClass RX9 = some m.cls := findClass_of_methodNamed B.named
  have hlocks := B.notSynchronized
  subst hsz
  have hD := hD0
  have hP : va_P D vwCl [(a0, .inr (9, [k0, k1, k2, k3, k4, .int 0, k6, k7, k8, k9]))] s.heap := hP
  have hl := lv_entry [.ref a0, .int x] (n := 2) (Nat.le_of_ble_eq_true rfl)
  rw [lg_entry_eq]
  generalize (lg_sl [.ref a0, .int x] ++ List.replicate (2 - (lg_sl [.ref a0, .int x]).length) Slot.unset).toArray = ls at hl ⊢
  have hl : lv_has ls 2 [(0, .ref a0), (1, .int x)] := hl
  have hw9 : ∀ w ∈ wsX90, w ∈ wsX9_lawAt := fun w h => (List.mem_cons_of_mem _ (List.mem_append_right _ h))
  refine lv_iload_n hx hb dX9_lawAt_0 rfl (lv_at hl 1 rfl) ?_
  refine lv_iconst (v := 0) hx hb dX9_lawAt_1 (by decide) ?_
  refine lv_aload_n hx hb dX9_lawAt_2 rfl (lv_at hl 0 rfl) ?_
  refine va_get (ci := 9) (v := .int 0) (C := RX9) (T := TX9) (N := 10) hx hb hts hw9 hown hK hP 0 rfl rfl 5 (by decide) (hts (.fieldLink RX9 31 "SmokeTune$Town" "lawTotal" "I") (List.mem_cons_of_mem _ (List.mem_append_left _ (List.mem_of_getElem? (i := 0) rfl)))) (fun _ h9 => h9) rfl dX9_lawAt_3 ?_
  refine lv_iconst (v := 1) hx hb dX9_lawAt_6 (by decide) ?_
  refine lv_isub hx hb dX9_lawAt_7 ?_
  refine lv_topi (fun x_1 ex_1 => ?_)
  obtain rfl : x_1 = (-1) := ex_1.trans (by first | rfl | decide)
  refine pci (va_runSN (As := [.int x, .int 0, .int (-1)]) (rest := []) ⟨hx, hb, hml, hown, hts⟩ (c_within l D K x 0 (-1) x.toInt 0 (-1) s.heap.size rfl rfl rfl) ⟨va_cnB 3 hts gX9_lawAt_X11_within_n52 rfl rfl rfl (nst_at hN 18 rfl) (hts (.initialized RX11) (List.mem_cons_of_mem _ (List.mem_append_left _ (List.mem_of_getElem? (i := 3) rfl)))) (by decide +kernel) ⟨Nat.le_of_ble_eq_true rfl, Nat.le_of_ble_eq_true rfl⟩, (hts (.static yX11_within) (List.mem_cons_of_mem _ (List.mem_append_left _ (List.mem_of_getElem? (i := 2) rfl)))), trivial⟩ (mkS hK hN (hP.sub [] rfl) (hD.sub [] (by decide) rfl)) rfl rfl hl.1 rfl (lv_room (Nat.le_of_ble_eq_true rfl)) dX9_lawAt_8 ⟨Nat.le_of_ble_eq_true rfl, Nat.le_of_ble_eq_true rfl⟩) (fun r_2 hw => ?_)
  rcases hw with ⟨rfl, h_3, h_4⟩ | ⟨rfl, h_5⟩
  · exfalso; omega
  · refine lv_if_eq (tgt := 23) hx hb dX9_lawAt_11 (by decide) (fun c_6 => ?_) (fun c_6 => absurd (by decide) c_6)
    refine lv_null hx hb dX9_lawAt_23 ?_
    exact W.aret (v := .null) hx hb hr (Or.inl ⟨_, rfl⟩) (Or.inl rfl) (fun t ht hW => ⟨none, rfl, rfl, ht⟩) (fun q hq => by cases hq) dX9_lawAt_24
set_option maxHeartbeats 4000000 in
set_option maxRecDepth 100000 in
theorem c_coalBy (l : Launch) (D : va_G) (K : Nat → ClassId) (a0 : Nat) (a1 : Nat) (x : Int32) (g0 : Value) (g1 : Value) (g2 : Value) (g3 : Value) (g4 : Value) (g5 : Value) (k0 : Value) (k1 : Value) (k2 : Value) (k3 : Value) (k5 : Value) (k6 : Value) (k7 : Value) (k8 : Value) (k9 : Value) (sz : Nat) : Met l yX5_coalBy wsX5_coalBy ({ frames := 0, cells := 0, slots := 0, locals := 0 }) (va_Pc [.ref a0, .ref a1, .null, .int x] (Pre D K [(a0, .inr (5, [g0, g1, g2, g3, g4, g5])), (a1, .inr (9, [k0, k1, k2, k3, .int 0, k5, k6, k7, k8, k9]))] sz)) (vp_Si (fun r : Int32 => (r = 0))) 0 0 (fun _ => False) := by
  refine Met.ofW (cc := cX5_coalBy) (maxL := 8) (ret := (some .int)) (by decide) rfl ?_
  intro p e s m args below meth c s₁ B hml hv
  obtain ⟨rfl, hsz, hP, hK, hD0, hN⟩ := hv
  have hx := B.exec
  have hb := B.bytes
  have hr := B.returns
  have hts := atoms_spec (ws := wsX5_coalBy) B.pre
  have hown : s.vm.findClass RX5 = some m.cls := findClass_of_methodNamed B.named
  have hlocks := B.notSynchronized
  subst hsz
  have hD := hD0
  have hP : va_P D vwCl [(a0, .inr (5, [g0, g1, g2, g3, g4, g5])), (a1, .inr (9, [k0, k1, k2, k3, .int 0, k5, k6, k7, k8, k9]))] s.heap := hP
  have hl := lv_entry [.ref a0, .ref a1, .null, .int x] (n := 8) (Nat.le_of_ble_eq_true rfl)
  rw [lg_entry_eq]
  generalize (lg_sl [.ref a0, .ref a1, .null, .int x] ++ List.replicate (8 - (lg_sl [.ref a0, .ref a1, .null, .int x]).length) Slot.unset).toArray = ls at hl ⊢
  have hl : lv_has ls 8 [(0, .ref a0), (1, .ref a1), (2, .null), (3, .int x)] := hl
  have hw0 : ∀ w ∈ wsX00, w ∈ wsX5_coalBy := fun w h => (List.mem_cons_of_mem _ (List.mem_append_left _ (List.mem_append_left _ (List.mem_append_right _ h))))
  have hw3 : ∀ w ∈ wsX30, w ∈ wsX5_coalBy := fun w h => (List.mem_cons_of_mem _ (List.mem_append_right _ h))
  have hw5 : ∀ w ∈ wsX50, w ∈ wsX5_coalBy := fun w h => (List.mem_cons_of_mem _ (List.mem_append_left _ (List.mem_append_left _ (List.mem_append_left _ (List.mem_append_right _ h)))))
  have hw7 : ∀ w ∈ wsX70, w ∈ wsX5_coalBy := fun w h => (List.mem_cons_of_mem _ (List.mem_append_left _ (List.mem_append_right _ h)))
  have hw9 : ∀ w ∈ wsX90, w ∈ wsX5_coalBy := fun w h => (List.mem_cons_of_mem _ (List.mem_append_left _ (List.mem_append_left _ (List.mem_append_left _ (List.mem_append_left _ (List.mem_append_right _ h))))))
  refine lv_iconst (v := 0) hx hb dX5_coalBy_0 (by decide) ?_
  refine lv_istore (lv' := [(4, .int 0), (0, .ref a0), (1, .ref a1), (2, .null), (3, .int x)]) hx hb dX5_coalBy_1 hl (by decide) rfl (fun ls hl => ?_)
  refine lv_iconst (v := 0) hx hb dX5_coalBy_3 (by decide) ?_
  refine lv_istore (lv' := [(5, .int 0), (4, .int 0), (0, .ref a0), (1, .ref a1), (2, .null), (3, .int x)]) hx hb dX5_coalBy_4 hl (by decide) rfl (fun ls hl => ?_)
  refine lv_iload hx hb dX5_coalBy_6 (lv_at hl 0 rfl) ?_
  refine lv_aload_n hx hb dX5_coalBy_8 rfl (lv_at hl 3 rfl) ?_
  refine va_getN (ci := 9) (v := .int 0) (C := RX9) (T := TX9) (N := 10) hx hb hts hw9 hown hK hP 1 rfl rfl 4 (by decide) (nst_use hN 108 rfl) (fun _ h9 => h9) rfl dX5_coalBy_9 ?_
  refine lv_icmp_ge (tgt := 124) hx hb dX5_coalBy_12 (by decide) (fun c_1 => ?_) (fun c_1 => absurd (by decide) c_1)
  refine lv_iload hx hb dX5_coalBy_124 (lv_at hl 1 rfl) ?_
  exact W.iret (v := 0) hx hb hr (fun t ht hW => ⟨_, rfl, (by first | exact rfl), ht⟩) (fun q hq => by cases hq) dX5_coalBy_126
set_option maxHeartbeats 4000000 in
set_option maxRecDepth 100000 in
theorem t_compare (l : Launch) (D : va_G) (K : Nat → ClassId) (a0 : Nat) (x : Int32) (y : Int32) (a1 : Nat) (g1 : Value) (g2 : Value) (g3 : Value) (g4 : Value) (g5 : Value) (g6 : Value) (g7 : Value) (g8 : Value) (g9 : Value) (a3 : Nat) (g11 : Value) (g12 : Value) (g13 : Value) (g14 : Value) (g15 : Value) (g16 : Value) (k0 : Value) (k1 : Value) (k2 : Value) (k3 : Value) (k6 : Value) (k7 : Value) (k8 : Value) (k9 : Value) (p0 : Value) (p1 : Value) (p2 : Value) (p3 : Value) (p4 : Value) (p5 : Value) (sz : Nat) : Met l yX11_compare wsX11_compare ({ frames := 2, cells := 0, slots := 0, locals := 43 }) (va_Pc [.ref a0, .int x, .int y] (Pre D K [(a0, .inr (11, [.ref a1, g1, g2, g3, g4, g5, g6, g7, g8, g9, .ref a3, g11, g12, g13, g14, g15, g16])), (a1, .inr (9, [k0, k1, k2, k3, .int 0, .int 0, k6, k7, k8, k9])), (a3, .inr (5, [p0, p1, p2, p3, p4, p5]))] sz)) (vp_Si (fun r : Int32 => (r = 0 ∧ x.toInt = -1 ∧ 1 ≤ y.toInt ∧ y.toInt ≤ 60) ∨ (r = (-1) ∧ (x.toInt ≠ -1 ∨ y.toInt < 1 ∨ 60 < y.toInt)))) 0 0 (fun _ => False) := by
  refine Met.ofW (cc := cX11_compare) (maxL := 3) (ret := (some .int)) (by decide) rfl ?_
  intro p e s m args below meth c s₁ B hml hv
  obtain ⟨rfl, hsz, hP, hK, hD0, hN⟩ := hv
  have hx := B.exec
  have hb := B.bytes
  have hr := B.returns
  have hts := atoms_spec (ws := wsX11_compare) B.pre
  have hown : s.vm.findClass RX11 = some m.cls := findClass_of_methodNamed B.named
  have hlocks := B.notSynchronized
  subst hsz
  have hD := hD0
  have hP : va_P D vwCl [(a0, .inr (11, [.ref a1, g1, g2, g3, g4, g5, g6, g7, g8, g9, .ref a3, g11, g12, g13, g14, g15, g16])), (a1, .inr (9, [k0, k1, k2, k3, .int 0, .int 0, k6, k7, k8, k9])), (a3, .inr (5, [p0, p1, p2, p3, p4, p5]))] s.heap := hP
  have hl := lv_entry [.ref a0, .int x, .int y] (n := 3) (Nat.le_of_ble_eq_true rfl)
  rw [lg_entry_eq]
  generalize (lg_sl [.ref a0, .int x, .int y] ++ List.replicate (3 - (lg_sl [.ref a0, .int x, .int y]).length) Slot.unset).toArray = ls at hl ⊢
  have hl : lv_has ls 3 [(0, .ref a0), (1, .int x), (2, .int y)] := hl
  have hw0 : ∀ w ∈ wsX00, w ∈ wsX11_compare := fun w h => (List.mem_cons_of_mem _ (List.mem_append_left _ (List.mem_append_left _ (List.mem_append_right _ h))))
  have hw3 : ∀ w ∈ wsX30, w ∈ wsX11_compare := fun w h => (List.mem_cons_of_mem _ (List.mem_append_right _ h))
  have hw5 : ∀ w ∈ wsX50, w ∈ wsX11_compare := fun w h => (List.mem_cons_of_mem _ (List.mem_append_left _ (List.mem_append_left _ (List.mem_append_left _ (List.mem_append_right _ h)))))
  have hw7 : ∀ w ∈ wsX70, w ∈ wsX11_compare := fun w h => (List.mem_cons_of_mem _ (List.mem_append_left _ (List.mem_append_right _ h)))
  have hw9 : ∀ w ∈ wsX90, w ∈ wsX11_compare := fun w h => (List.mem_cons_of_mem _ (List.mem_append_left _ (List.mem_append_left _ (List.mem_append_left _ (List.mem_append_left _ (List.mem_append_right _ h))))))
  have hw11 : ∀ w ∈ wsX110, w ∈ wsX11_compare := fun w h => (List.mem_cons_of_mem _ (List.mem_append_left _ (List.mem_append_left _ (List.mem_append_left _ (List.mem_append_left _ (List.mem_append_left _ (List.mem_append_right _ h)))))))
  refine lv_iload_n hx hb dX11_compare_0 rfl (lv_at hl 1 rfl) ?_
  refine lv_iconst (v := (-1)) hx hb dX11_compare_1 (by decide) ?_
  refine lv_aload_n hx hb dX11_compare_2 rfl (lv_at hl 0 rfl) ?_
  refine va_get (ci := 11) (v := .ref a1) (C := RX11) (T := TX11) (N := 17) hx hb hts hw11 hown hK hP 0 rfl rfl 0 (by decide) (hts (.fieldLink RX11 10 "SmokeTune" "town" "LSmokeTune$Town;") (List.mem_cons_of_mem _ (List.mem_append_left _ (List.mem_append_left _ (List.mem_append_left _ (List.mem_append_left _ (List.mem_append_left _ (List.mem_append_left _ (List.mem_append_left _ (List.mem_of_getElem? (i := 0) rfl)))))))))) (fun _ h9 => h9) rfl dX11_compare_3 ?_
  refine va_getN (ci := 9) (v := .int 0) (C := RX9) (T := TX9) (N := 10) hx hb hts hw9 hown hK hP 1 rfl rfl 5 (by decide) (nst_use hN 110 rfl) (fun _ h9 => h9) rfl dX11_compare_6 ?_
  refine lv_iconst (v := 1) hx hb dX11_compare_9 (by decide) ?_
  refine lv_isub hx hb dX11_compare_10 ?_
  refine lv_topi (fun x_1 ex_1 => ?_)
  obtain rfl : x_1 = (-1) := ex_1.trans (by first | rfl | decide)
  refine pci (va_runS (As := [.int x, .int (-1), .int (-1)]) (rest := []) ⟨hx, hb, hml, hown, hts⟩ (c_within l D K x (-1) (-1) x.toInt (-1) (-1) s.heap.size rfl rfl rfl) (va_cwS 3 hts gX11_compare_X11_within rfl rfl rfl (by decide +kernel) ⟨Nat.le_of_ble_eq_true rfl, Nat.le_of_ble_eq_true rfl⟩) (mkS hK hN (hP.sub [] rfl) (hD.sub [] (by decide) rfl)) rfl rfl hl.1 rfl (lv_room (Nat.le_of_ble_eq_true rfl)) dX11_compare_11 ⟨Nat.le_of_ble_eq_true rfl, Nat.le_of_ble_eq_true rfl⟩) (fun r_2 hw => ?_)
  rcases hw with ⟨rfl, h_3, h_4⟩ | ⟨rfl, h_5⟩
  · refine lv_if_eq (tgt := 27) hx hb dX11_compare_14 (by decide) (fun c_6 => absurd c_6 (by decide)) (fun c_6 => ?_)
    refine lv_iload_n hx hb dX11_compare_17 rfl (lv_at hl 2 rfl) ?_
    refine lv_iconst (v := 1) hx hb dX11_compare_18 (by decide) ?_
    refine lv_bipush (v := 60) hx hb dX11_compare_19 (by decide) ?_
    refine pci (va_runS (As := [.int y, .int 1, .int 60]) (rest := []) ⟨hx, hb, hml, hown, hts⟩ (c_within l D K y 1 60 y.toInt 1 60 s.heap.size rfl rfl rfl) (va_cwS 3 hts gX11_compare_X11_within rfl rfl rfl (by decide +kernel) ⟨Nat.le_of_ble_eq_true rfl, Nat.le_of_ble_eq_true rfl⟩) (mkS hK hN (hP.sub [] rfl) (hD.sub [] (by decide) rfl)) rfl rfl hl.1 rfl (lv_room (Nat.le_of_ble_eq_true rfl)) dX11_compare_21 ⟨Nat.le_of_ble_eq_true rfl, Nat.le_of_ble_eq_true rfl⟩) (fun r_7 hw => ?_)
    rcases hw with ⟨rfl, h_8, h_9⟩ | ⟨rfl, h_10⟩
    · refine lv_if_ne (tgt := 29) hx hb dX11_compare_24 (by decide) (fun c_11 => ?_) (fun c_11 => absurd c_11 (by decide))
      refine lv_aload_n hx hb dX11_compare_29 rfl (lv_at hl 0 rfl) ?_
      refine va_get (ci := 11) (v := .ref a3) (C := RX11) (T := TX11) (N := 17) hx hb hts hw11 hown hK hP 0 rfl rfl 10 (by decide) (hts (.fieldLink RX11 68 "SmokeTune" "plan" "LSmokeTune$Plan;") (List.mem_cons_of_mem _ (List.mem_append_left _ (List.mem_append_left _ (List.mem_append_left _ (List.mem_append_left _ (List.mem_append_left _ (List.mem_append_left _ (List.mem_append_left _ (List.mem_of_getElem? (i := 1) rfl)))))))))) (fun _ h9 => h9) rfl dX11_compare_30 ?_
      refine lv_aload_n hx hb dX11_compare_33 rfl (lv_at hl 0 rfl) ?_
      refine va_get (ci := 11) (v := .ref a1) (C := RX11) (T := TX11) (N := 17) hx hb hts hw11 hown hK hP 0 rfl rfl 0 (by decide) (hts (.fieldLink RX11 10 "SmokeTune" "town" "LSmokeTune$Town;") (List.mem_cons_of_mem _ (List.mem_append_left _ (List.mem_append_left _ (List.mem_append_left _ (List.mem_append_left _ (List.mem_append_left _ (List.mem_append_left _ (List.mem_append_left _ (List.mem_of_getElem? (i := 0) rfl)))))))))) (fun _ h9 => h9) rfl dX11_compare_34 ?_
      refine lv_aload_n hx hb dX11_compare_37 rfl (lv_at hl 0 rfl) ?_
      refine va_get (ci := 11) (v := .ref a1) (C := RX11) (T := TX11) (N := 17) hx hb hts hw11 hown hK hP 0 rfl rfl 0 (by decide) (hts (.fieldLink RX11 10 "SmokeTune" "town" "LSmokeTune$Town;") (List.mem_cons_of_mem _ (List.mem_append_left _ (List.mem_append_left _ (List.mem_append_left _ (List.mem_append_left _ (List.mem_append_left _ (List.mem_append_left _ (List.mem_append_left _ (List.mem_of_getElem? (i := 0) rfl)))))))))) (fun _ h9 => h9) rfl dX11_compare_38 ?_
      refine lv_iload_n hx hb dX11_compare_41 rfl (lv_at hl 1 rfl) ?_
      refine pcq (va_runVN (As := [.int x]) (rest := [.ref a1, .ref a3]) ⟨hx, hb, hml, hown, hts⟩ (c_lawAt l D K a1 x k0 k1 k2 k3 (.int 0) k6 k7 k8 k9 s.heap.size) ⟨va_cnB 1 hts gX11_compare_X9_lawAt_n276 rfl rfl rfl (nst_at hN 92 rfl) (hts (.initialized RX9) (List.mem_cons_of_mem _ (List.mem_append_left _ (List.mem_append_left _ (List.mem_append_left _ (List.mem_append_left _ (List.mem_append_left _ (List.mem_append_left _ (List.mem_append_left _ (List.mem_of_getElem? (i := 7) rfl)))))))))) (by decide +kernel) ⟨Nat.le_of_ble_eq_true rfl, Nat.le_of_ble_eq_true rfl⟩, (hts (.instanceMethod yX9_lawAt) (List.mem_cons_of_mem _ (List.mem_append_left _ (List.mem_append_left _ (List.mem_append_left _ (List.mem_append_left _ (List.mem_append_left _ (List.mem_append_left _ (List.mem_append_left _ (List.mem_of_getElem? (i := 6) rfl)))))))))), (hts (.selects RX9 yX9_lawAt yX9_lawAt) (List.mem_cons_of_mem _ (List.mem_append_left _ (List.mem_append_left _ (List.mem_append_left _ (List.mem_append_left _ (List.mem_append_left _ (List.mem_append_left _ (List.mem_append_left _ (List.mem_of_getElem? (i := 8) rfl))))))))))⟩ (mkV hK hN (hP.sub [1] rfl) (hD.sub [1] (by decide) rfl) (ci := 9) (q0 := 0) rfl rfl) rfl rfl hl.1 rfl (lv_room (Nat.le_of_ble_eq_true rfl)) dX11_compare_42 ⟨Nat.le_of_ble_eq_true rfl, Nat.le_of_ble_eq_true rfl⟩) (fun r_12 hw => ?_)
      obtain rfl := hw
      refine W.eq (g2 := F0 m 45 ls [.null, .ref a1, .ref a3]) rfl ?_
      refine lv_iload_n hx hb dX11_compare_45 rfl (lv_at hl 2 rfl) ?_
      refine pci (va_runVN (As := [.ref a1, .null, .int y]) (rest := []) ⟨hx, hb, hml, hown, hts⟩ (c_coalBy l D K a3 a1 y p0 p1 p2 p3 p4 p5 k0 k1 k2 k3 (.int 0) k6 k7 k8 k9 s.heap.size) ⟨va_cnB 3 hts gX11_compare_X5_coalBy_n280 rfl rfl rfl (nst_at hN 93 rfl) (hts (.initialized RX5) (List.mem_cons_of_mem _ (List.mem_append_left _ (List.mem_append_left _ (List.mem_append_left _ (List.mem_append_left _ (List.mem_append_left _ (List.mem_append_left _ (List.mem_append_left _ (List.mem_of_getElem? (i := 13) rfl)))))))))) (by decide +kernel) ⟨Nat.le_of_ble_eq_true rfl, Nat.le_of_ble_eq_true rfl⟩, (hts (.instanceMethod yX5_coalBy) (List.mem_cons_of_mem _ (List.mem_append_left _ (List.mem_append_left _ (List.mem_append_left _ (List.mem_append_left _ (List.mem_append_left _ (List.mem_append_left _ (List.mem_append_left _ (List.mem_of_getElem? (i := 12) rfl)))))))))), (hts (.selects RX5 yX5_coalBy yX5_coalBy) (List.mem_cons_of_mem _ (List.mem_append_left _ (List.mem_append_left _ (List.mem_append_left _ (List.mem_append_left _ (List.mem_append_left _ (List.mem_append_left _ (List.mem_append_left _ (List.mem_of_getElem? (i := 14) rfl))))))))))⟩ (mkV hK hN (hP.sub [2, 1] rfl) (hD.sub [2, 1] (by decide) rfl) (ci := 5) (q0 := 0) rfl rfl) rfl rfl hl.1 rfl (lv_room (Nat.le_of_ble_eq_true rfl)) dX11_compare_46 ⟨Nat.le_of_ble_eq_true rfl, Nat.le_of_ble_eq_true rfl⟩) (fun r_13 hw => ?_)
      obtain rfl : r_13 = 0 := hw
      exact W.iret (v := 0) hx hb hr (fun t ht hW => ⟨_, rfl, (by first | exact Or.inl (⟨rfl, by first | omega | decide | (subst_vars; assumption) | (subst_vars; symm; assumption), by first | omega | decide | (subst_vars; assumption) | (subst_vars; symm; assumption), by first | omega | decide | (subst_vars; assumption) | (subst_vars; symm; assumption)⟩)), ht⟩) (fun q hq => by cases hq) dX11_compare_49
    · refine lv_if_ne (tgt := 29) hx hb dX11_compare_24 (by decide) (fun c_14 => absurd (by decide) c_14) (fun c_14 => ?_)
      refine lv_iconst (v := (-1)) hx hb dX11_compare_27 (by decide) ?_
      exact W.iret (v := (-1)) hx hb hr (fun t ht hW => ⟨_, rfl, (by first | exact Or.inr (⟨rfl, by first | omega | decide | (subst_vars; assumption) | (subst_vars; symm; assumption)⟩)), ht⟩) (fun q hq => by cases hq) dX11_compare_28
  · refine lv_if_eq (tgt := 27) hx hb dX11_compare_14 (by decide) (fun c_15 => ?_) (fun c_15 => absurd (by decide) c_15)
    refine lv_iconst (v := (-1)) hx hb dX11_compare_27 (by decide) ?_
    exact W.iret (v := (-1)) hx hb hr (fun t ht hW => ⟨_, rfl, (by first | exact Or.inr (⟨rfl, by first | omega | decide | (subst_vars; assumption) | (subst_vars; symm; assumption)⟩)), ht⟩) (fun q hq => by cases hq) dX11_compare_28
